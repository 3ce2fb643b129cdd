section WALKS
variable {E : ENV} {p : Program} {l : Launch} {e : Env} {s : State} {m : MethodId} {args : Array Value} {below : List Frame} {meth : Method} {c : Code} {A : Nat → Prop}
-- ShardGuardModel.covered(I)I
theorem dX10_covered_0 : decode cX10_covered 0 = .ok (.aload_n 0, 1) := by decide +kernel
theorem dX10_covered_1 : decode cX10_covered 1 = .ok (.iconst 0, 1) := by decide +kernel
theorem dX10_covered_2 : decode cX10_covered 2 = .ok (.putfield 93, 3) := by decide +kernel
theorem dX10_covered_5 : decode cX10_covered 5 = .ok (.aload_n 0, 1) := by decide +kernel
theorem dX10_covered_6 : decode cX10_covered 6 = .ok (.iload_n 1, 1) := by decide +kernel
theorem dX10_covered_7 : decode cX10_covered 7 = .ok (.invokevirtual 279, 3) := by decide +kernel
theorem dX10_covered_10 : decode cX10_covered 10 = .ok (.ifCond .ne 9, 3) := by decide +kernel
theorem dX10_covered_13 : decode cX10_covered 13 = .ok (.aload_n 0, 1) := by decide +kernel
theorem dX10_covered_14 : decode cX10_covered 14 = .ok (.iconst 1, 1) := by decide +kernel
theorem dX10_covered_15 : decode cX10_covered 15 = .ok (.invokevirtual 267, 3) := by decide +kernel
theorem dX10_covered_18 : decode cX10_covered 18 = .ok (.ireturn, 1) := by decide +kernel
theorem dX10_covered_19 : decode cX10_covered 19 = .ok (.iconst 0, 1) := by decide +kernel
theorem dX10_covered_20 : decode cX10_covered 20 = .ok (.istore_n 2, 1) := by decide +kernel
theorem dX10_covered_21 : decode cX10_covered 21 = .ok (.iconst 0, 1) := by decide +kernel
theorem dX10_covered_22 : decode cX10_covered 22 = .ok (.istore_n 3, 1) := by decide +kernel
theorem dX10_covered_23 : decode cX10_covered 23 = .ok (.iload_n 3, 1) := by decide +kernel
theorem dX10_covered_24 : decode cX10_covered 24 = .ok (.aload_n 0, 1) := by decide +kernel
theorem dX10_covered_25 : decode cX10_covered 25 = .ok (.invokevirtual 114, 3) := by decide +kernel
theorem dX10_covered_28 : decode cX10_covered 28 = .ok (.if_icmp .ge 37, 3) := by decide +kernel
theorem dX10_covered_31 : decode cX10_covered 31 = .ok (.iload_n 2, 1) := by decide +kernel
theorem dX10_covered_32 : decode cX10_covered 32 = .ok (.iload_n 3, 1) := by decide +kernel
theorem dX10_covered_33 : decode cX10_covered 33 = .ok (.iload_n 1, 1) := by decide +kernel
theorem dX10_covered_34 : decode cX10_covered 34 = .ok (.if_icmp .eq 22, 3) := by decide +kernel
theorem dX10_covered_37 : decode cX10_covered 37 = .ok (.aload_n 0, 1) := by decide +kernel
theorem dX10_covered_38 : decode cX10_covered 38 = .ok (.iload_n 1, 1) := by decide +kernel
theorem dX10_covered_39 : decode cX10_covered 39 = .ok (.iload_n 3, 1) := by decide +kernel
theorem dX10_covered_40 : decode cX10_covered 40 = .ok (.invokevirtual 216, 3) := by decide +kernel
theorem dX10_covered_43 : decode cX10_covered 43 = .ok (.aload_n 0, 1) := by decide +kernel
theorem dX10_covered_44 : decode cX10_covered 44 = .ok (.getfield 9, 3) := by decide +kernel
theorem dX10_covered_47 : decode cX10_covered 47 = .ok (.iconst 1, 1) := by decide +kernel
theorem dX10_covered_48 : decode cX10_covered 48 = .ok (.iaload, 1) := by decide +kernel
theorem dX10_covered_49 : decode cX10_covered 49 = .ok (.if_icmp .ne 7, 3) := by decide +kernel
theorem dX10_covered_52 : decode cX10_covered 52 = .ok (.iconst 1, 1) := by decide +kernel
theorem dX10_covered_53 : decode cX10_covered 53 = .ok (.goto 4, 3) := by decide +kernel
theorem dX10_covered_56 : decode cX10_covered 56 = .ok (.iconst 0, 1) := by decide +kernel
theorem dX10_covered_57 : decode cX10_covered 57 = .ok (.iadd, 1) := by decide +kernel
theorem dX10_covered_58 : decode cX10_covered 58 = .ok (.istore_n 2, 1) := by decide +kernel
theorem dX10_covered_59 : decode cX10_covered 59 = .ok (.iinc 3 1, 3) := by decide +kernel
theorem dX10_covered_62 : decode cX10_covered 62 = .ok (.goto (-39), 3) := by decide +kernel
theorem dX10_covered_65 : decode cX10_covered 65 = .ok (.iload_n 2, 1) := by decide +kernel
theorem dX10_covered_66 : decode cX10_covered 66 = .ok (.ireturn, 1) := by decide +kernel
def rm_X10_covered : Room := { frames := 3, cells := 0, slots := 0, locals := 65 }
def M_X10_covered_23 (k : Nat) : Nat → (Int32) → (Int32) → (Int32) → (Nat → Nat → Int32) → Option (Int32 × (Nat → Nat → Int32))
  | 0, _, _, _, _ => none
  | n + 1, x1, x2, x3, S => (M_X10_tenants k S).bind fun q1 => if q1 ≤ x3 then (some (x2, S)) else (if x3 = x1 then (lt (x2 + (0 : Int32)) fun v4 => M_X10_covered_23 k n x1 v4 (x3 + 1) S) else ((M_X10_shared k S x1 x3).bind fun q5 => (if inb (1 : Int32) 1692 = true then if q5 = ((S 1) (1 : Int32).toNatClampNeg) then (lt (x2 + (1 : Int32)) fun v9 => M_X10_covered_23 k n x1 v9 (x3 + 1) S) else (lt (x2 + (0 : Int32)) fun v8 => M_X10_covered_23 k n x1 v8 (x3 + 1) S) else none)))
theorem M_X10_covered_23_s (k : Nat) (n : Nat) (x1 : Int32) (x2 : Int32) (x3 : Int32) (S : Nat → Nat → Int32) : M_X10_covered_23 k (n + 1) x1 x2 x3 S = ((M_X10_tenants k S).bind fun q1 => if q1 ≤ x3 then (some (x2, S)) else (if x3 = x1 then (lt (x2 + (0 : Int32)) fun v4 => M_X10_covered_23 k n x1 v4 (x3 + 1) S) else ((M_X10_shared k S x1 x3).bind fun q5 => (if inb (1 : Int32) 1692 = true then if q5 = ((S 1) (1 : Int32).toNatClampNeg) then (lt (x2 + (1 : Int32)) fun v9 => M_X10_covered_23 k n x1 v9 (x3 + 1) S) else (lt (x2 + (0 : Int32)) fun v8 => M_X10_covered_23 k n x1 v8 (x3 + 1) S) else none)))) := rfl
set_option maxRecDepth 100000 in
set_option maxHeartbeats 4000000 in
theorem N_X10_covered_23 (C : CX E p l s m args meth c cX10_covered 4 RX10 (some .int) A) (a : Nat → Nat) (k : Nat) {post : Int32 → va_W → Prop} :
    ∀ (n : Nat) (x1 : Int32) (x2 : Int32) (x3 : Int32) (S : Nat → Nat → Int32) (q : Int32 × (Nat → Nat → Int32)), M_X10_covered_23 k n x1 x2 x3 S = some q → post q.1 (wMd E a q.2) →
      WW E p l e rm_X10_covered s m args below meth c A 0 0 (QI E below post args s rm_X10_covered A) (wMd E a S) 4 [some (.ref (a 0)), some (.int x1), some (.int x2), some (.int x3)] 23 [] := by
  intro n
  induction n with
  | zero => intro x1 x2 x3 S q  h _; cases h
  | succ n ih =>
    intro x1 x2 x3 S q  h hq
    rw [M_X10_covered_23_s] at h
    refine r_iload_n (pc := 23) C (i := 3) dX10_covered_23 rfl rfl ?_
    refine r_aload_n (pc := 24) C (i := 0) dX10_covered_24 rfl rfl ?_
    obtain ⟨q1, hq1, h⟩ := bnd h
    refine r_callVp_CI (Cn := RX10) (pc := 25) C [] (c_X10_tenants E l k a S hq1) [0, 1, 2, 3, 4, 5, 6, 7, 8, 9, 10, 11, 12] rfl (by decide) 0 rfl rfl rfl g_X10_114 hd_X10_tenants ⟨Nat.le_of_ble_eq_true rfl, Nat.le_of_ble_eq_true rfl⟩ ⟨Nat.zero_le _, Nat.zero_le _⟩ (Nat.le_of_ble_eq_true rfl) rfl dX10_covered_25 (fun r hr => ?_)
    have hr := hr.symm
    subst hr
    refine r_icmp_ge (pc := 28) C (tgt := 65) dX10_covered_28 rfl (fun c2 => ?_) (fun c2 => ?_)
    · rw [if_pos c2] at h
      refine r_iload_n (pc := 65) C (i := 2) dX10_covered_65 rfl rfl ?_
      cases h
      exact r_ireti (pc := 66) C hq (Nat.zero_le _) (Nat.zero_le _) dX10_covered_66
    · rw [if_neg c2] at h
      refine r_iload_n (pc := 31) C (i := 2) dX10_covered_31 rfl rfl ?_
      refine r_iload_n (pc := 32) C (i := 3) dX10_covered_32 rfl rfl ?_
      refine r_iload_n (pc := 33) C (i := 1) dX10_covered_33 rfl rfl ?_
      refine r_icmp_eq (pc := 34) C (tgt := 56) dX10_covered_34 rfl (fun c3 => ?_) (fun c3 => ?_)
      · rw [if_pos c3] at h
        refine r_iconst (pc := 56) C (v := 0) dX10_covered_56 (by decide) ?_
        refine r_iadd (pc := 57) C dX10_covered_57 ?_
        obtain ⟨v4, hv4, h⟩ := lt_e h
        refine r_topi hv4 ?_
        refine r_istore_n (pc := 58) C (i := 2) dX10_covered_58 rfl (by decide) rfl ?_
        refine r_iinc (pc := 59) C (v := (x3 + 1)) dX10_covered_59 rfl rfl (by decide) rfl ?_
        refine r_goto (pc := 62) C (tgt := 23) dX10_covered_62 rfl ?_
        refine r_weak (lSub_s (lSub_s (lSub_s (lSub_s lSub_e)))) ?_
        exact ih x1 v4 (x3 + 1) S q  h hq
      · rw [if_neg c3] at h
        refine r_aload_n (pc := 37) C (i := 0) dX10_covered_37 rfl rfl ?_
        refine r_iload_n (pc := 38) C (i := 1) dX10_covered_38 rfl rfl ?_
        refine r_iload_n (pc := 39) C (i := 3) dX10_covered_39 rfl rfl ?_
        obtain ⟨q5, hq5, h⟩ := bnd h
        refine r_callVp_CI (Cn := RX10) (pc := 40) C [.int x1, .int x3] (c_X10_shared E l k a S x1 x3 hq5) [0, 1, 2, 3, 4, 5, 6, 7, 8, 9, 10, 11, 12] rfl (by decide) 0 rfl rfl rfl g_X10_216 hd_X10_shared ⟨Nat.le_of_ble_eq_true rfl, Nat.le_of_ble_eq_true rfl⟩ ⟨Nat.zero_le _, Nat.zero_le _⟩ (Nat.le_of_ble_eq_true rfl) rfl dX10_covered_40 (fun r hr => ?_)
        have hr := hr.symm
        subst hr
        refine r_aload_n (pc := 43) C (i := 0) dX10_covered_43 rfl rfl ?_
        refine r_get (pc := 44) C gwX10 0 rfl rfl 0 (by decide) wm_5_203 rfl dX10_covered_44 ?_
        refine r_iconst (pc := 47) C (v := 1) dX10_covered_47 (by decide) ?_
        obtain ⟨hi6, h⟩ := ifn h
        refine r_iald (pc := 48) C 1 rfl hi6 dX10_covered_48 ?_
        refine r_icmp_ne (pc := 49) C (tgt := 56) dX10_covered_49 rfl (fun c7 => ?_) (fun c7 => ?_)
        · rw [if_neg c7] at h
          refine r_iconst (pc := 56) C (v := 0) dX10_covered_56 (by decide) ?_
          refine r_iadd (pc := 57) C dX10_covered_57 ?_
          obtain ⟨v8, hv8, h⟩ := lt_e h
          refine r_topi hv8 ?_
          refine r_istore_n (pc := 58) C (i := 2) dX10_covered_58 rfl (by decide) rfl ?_
          refine r_iinc (pc := 59) C (v := (x3 + 1)) dX10_covered_59 rfl rfl (by decide) rfl ?_
          refine r_goto (pc := 62) C (tgt := 23) dX10_covered_62 rfl ?_
          refine r_weak (lSub_s (lSub_s (lSub_s (lSub_s lSub_e)))) ?_
          exact ih x1 v8 (x3 + 1) S q  h hq
        · rw [if_pos c7] at h
          refine r_iconst (pc := 52) C (v := 1) dX10_covered_52 (by decide) ?_
          refine r_goto (pc := 53) C (tgt := 57) dX10_covered_53 rfl ?_
          refine r_iadd (pc := 57) C dX10_covered_57 ?_
          obtain ⟨v9, hv9, h⟩ := lt_e h
          refine r_topi hv9 ?_
          refine r_istore_n (pc := 58) C (i := 2) dX10_covered_58 rfl (by decide) rfl ?_
          refine r_iinc (pc := 59) C (v := (x3 + 1)) dX10_covered_59 rfl rfl (by decide) rfl ?_
          refine r_goto (pc := 62) C (tgt := 23) dX10_covered_62 rfl ?_
          refine r_weak (lSub_s (lSub_s (lSub_s (lSub_s lSub_e)))) ?_
          exact ih x1 v9 (x3 + 1) S q  h hq
def M_X10_covered_0 (k : Nat) (p0 : Int32) (S : Nat → Nat → Int32) : Option (Int32 × (Nat → Nat → Int32)) := lt (va_up S 0 (upd (S 0) 1 (0 : Int32))) fun F10 => (M_X10_isTenant k F10 p0).bind fun q11 => if q11 = 0 then ((M_X10_raise k F10 (1 : Int32)).bind fun q13 => some (q13.1, q13.2)) else (M_X10_covered_23 k k p0 (0 : Int32) (0 : Int32) F10)
set_option maxRecDepth 100000 in
set_option maxHeartbeats 4000000 in
theorem N_X10_covered_0 (C : CX E p l s m args meth c cX10_covered 4 RX10 (some .int) A) (a : Nat → Nat) (k : Nat) {post : Int32 → va_W → Prop} :
    ∀ (p0 : Int32) (S : Nat → Nat → Int32) (q : Int32 × (Nat → Nat → Int32)), M_X10_covered_0 k p0 S = some q → post q.1 (wMd E a q.2) →
      WW E p l e rm_X10_covered s m args below meth c A 0 0 (QI E below post args s rm_X10_covered A) (wMd E a S) 4 [some (.ref (a 0)), some (.int p0), none, none] 0 [] := by
  intro p0 S q  h hq
  unfold M_X10_covered_0 at h
  refine r_aload_n (pc := 0) C (i := 0) dX10_covered_0 rfl rfl ?_
  refine r_iconst (pc := 1) C (v := 0) dX10_covered_1 (by decide) ?_
  obtain ⟨F10, hF10, h⟩ := lt_e h
  refine r_put (pc := 2) C gwX10 tyX10 tyX10_ok nmX10 0 rfl rfl 6 (by decide) wm_5_209 rfl rfl rfl rfl (Nat.le_of_ble_eq_true rfl) (w' := (wMd E a F10)) (by rw [hF10]; rfl) dX10_covered_2 ?_
  refine r_aload_n (pc := 5) C (i := 0) dX10_covered_5 rfl rfl ?_
  refine r_iload_n (pc := 6) C (i := 1) dX10_covered_6 rfl rfl ?_
  obtain ⟨q11, hq11, h⟩ := bnd h
  refine r_callVp_CI (Cn := RX10) (pc := 7) C [.int p0] (c_X10_isTenant E l k a F10 p0 hq11) [0, 1, 2, 3, 4, 5, 6, 7, 8, 9, 10, 11, 12] rfl (by decide) 0 rfl rfl rfl g_X10_279 hd_X10_isTenant ⟨Nat.le_of_ble_eq_true rfl, Nat.le_of_ble_eq_true rfl⟩ ⟨Nat.zero_le _, Nat.zero_le _⟩ (Nat.le_of_ble_eq_true rfl) rfl dX10_covered_7 (fun r hr => ?_)
  have hr := hr.symm
  subst hr
  refine r_if_ne (pc := 10) C (tgt := 19) dX10_covered_10 rfl (fun c12 => ?_) (fun c12 => ?_)
  · rw [if_neg c12] at h
    refine r_iconst (pc := 19) C (v := 0) dX10_covered_19 (by decide) ?_
    refine r_istore_n (pc := 20) C (i := 2) dX10_covered_20 rfl (by decide) rfl ?_
    refine r_iconst (pc := 21) C (v := 0) dX10_covered_21 (by decide) ?_
    refine r_istore_n (pc := 22) C (i := 3) dX10_covered_22 rfl (by decide) rfl ?_
    refine r_weak (lSub_s (lSub_s (lSub_s (lSub_s lSub_e)))) ?_
    exact N_X10_covered_23 C a k k p0 (0 : Int32) (0 : Int32) F10 q  h hq
  · rw [if_pos c12] at h
    refine r_aload_n (pc := 13) C (i := 0) dX10_covered_13 rfl rfl ?_
    refine r_iconst (pc := 14) C (v := 1) dX10_covered_14 (by decide) ?_
    obtain ⟨q13, hq13, h⟩ := bnd h
    refine r_callV_CI (Cn := RX10) (pc := 15) C [.int (1 : Int32)] (c_X10_raise E l k a F10 (1 : Int32) hq13) [0, 1, 2, 3, 4, 5, 6, 7, 8, 9, 10, 11, 12] rfl (by decide) 0 rfl rfl rfl g_X10_267 hd_X10_raise ⟨Nat.le_of_ble_eq_true rfl, Nat.le_of_ble_eq_true rfl⟩ ⟨Nat.zero_le _, Nat.zero_le _⟩ (Nat.le_of_ble_eq_true rfl) rfl dX10_covered_15 (fun r w1 hw1 => ?_)
    obtain ⟨hr1, hw1⟩ := hw1
    subst hr1 hw1
    refine ⟨(wMd E a q13.2), by rfl, ?_⟩
    cases h
    exact r_ireti (pc := 18) C hq (Nat.zero_le _) (Nat.zero_le _) dX10_covered_18
def M_X10_covered (k : Nat) (S : Nat → Nat → Int32) (p0 : Int32) : Option (Int32 × (Nat → Nat → Int32)) := M_X10_covered_0 k p0 S
set_option maxRecDepth 100000 in
set_option maxHeartbeats 4000000 in
theorem c_X10_covered (E : ENV) (l : Launch) (k : Nat) (a : Nat → Nat) (S : Nat → Nat → Int32) (p0 : Int32) {q : Int32 × (Nat → Nat → Int32)} (hm : M_X10_covered k S p0 = some q) : CI E l yX10_covered cX10_covered 4 (some .int) rm_X10_covered [.ref (a 0), .int p0] (wMd E a S) (fun r w' => r = q.1 ∧ w' = (wMd E a q.2)) :=
  CI.of 2 (by decide) (Nat.le_of_ble_eq_true rfl) (fun p e s m below meth c A C _ => r_weak (lSub_s (lSub_s (lSub_n (lSub_n lSub_e)))) (N_X10_covered_0 C a k p0 S q  hm ⟨rfl, rfl⟩))
theorem hd_X10_greatestNow : yX10_greatestNow.cls = RX10 ∧ yX10_greatestNow.cls ≠ "java/lang/invoke/MethodHandle" ∧ yX10_greatestNow.cls ≠ "java/lang/invoke/VarHandle" ∧ (parseMethodDescriptor yX10_greatestNow.desc).map (fun d => d.parameters.length) = some 0 := by decide +kernel
theorem g_X10_291 : GoodIn GW (wsV RX10 291 RX10 yX10_greatestNow (wsG yX10_greatestNow cX10_greatestNow 4 (some .int))) := gw_V wm_6_226 wm_6_228 wm_0_49 wm_1_9 wm_6_229
-- ShardGuardModel.greatestOverlap()I
theorem dX10_greatestOverlap_0 : decode cX10_greatestOverlap 0 = .ok (.aload_n 0, 1) := by decide +kernel
theorem dX10_greatestOverlap_1 : decode cX10_greatestOverlap 1 = .ok (.iconst 0, 1) := by decide +kernel
theorem dX10_greatestOverlap_2 : decode cX10_greatestOverlap 2 = .ok (.putfield 93, 3) := by decide +kernel
theorem dX10_greatestOverlap_5 : decode cX10_greatestOverlap 5 = .ok (.aload_n 0, 1) := by decide +kernel
theorem dX10_greatestOverlap_6 : decode cX10_greatestOverlap 6 = .ok (.invokevirtual 291, 3) := by decide +kernel
theorem dX10_greatestOverlap_9 : decode cX10_greatestOverlap 9 = .ok (.ireturn, 1) := by decide +kernel
def rm_X10_greatestOverlap : Room := { frames := 4, cells := 0, slots := 0, locals := 88 }
def M_X10_greatestOverlap_0 (k : Nat) (S : Nat → Nat → Int32) : Option (Int32 × (Nat → Nat → Int32)) := lt (va_up S 0 (upd (S 0) 1 (0 : Int32))) fun F1 => (M_X10_greatestNow k F1).bind fun q2 => some (q2, F1)
set_option maxRecDepth 100000 in
set_option maxHeartbeats 4000000 in
theorem N_X10_greatestOverlap_0 (C : CX E p l s m args meth c cX10_greatestOverlap 1 RX10 (some .int) A) (a : Nat → Nat) (k : Nat) {post : Int32 → va_W → Prop} :
    ∀ (S : Nat → Nat → Int32) (q : Int32 × (Nat → Nat → Int32)), M_X10_greatestOverlap_0 k S = some q → post q.1 (wMd E a q.2) →
      WW E p l e rm_X10_greatestOverlap s m args below meth c A 0 0 (QI E below post args s rm_X10_greatestOverlap A) (wMd E a S) 1 [some (.ref (a 0))] 0 [] := by
  intro S q  h hq
  unfold M_X10_greatestOverlap_0 at h
  refine r_aload_n (pc := 0) C (i := 0) dX10_greatestOverlap_0 rfl rfl ?_
  refine r_iconst (pc := 1) C (v := 0) dX10_greatestOverlap_1 (by decide) ?_
  obtain ⟨F1, hF1, h⟩ := lt_e h
  refine r_put (pc := 2) C gwX10 tyX10 tyX10_ok nmX10 0 rfl rfl 6 (by decide) wm_5_209 rfl rfl rfl rfl (Nat.le_of_ble_eq_true rfl) (w' := (wMd E a F1)) (by rw [hF1]; rfl) dX10_greatestOverlap_2 ?_
  refine r_aload_n (pc := 5) C (i := 0) dX10_greatestOverlap_5 rfl rfl ?_
  obtain ⟨q2, hq2, h⟩ := bnd h
  refine r_callVp_CI (Cn := RX10) (pc := 6) C [] (c_X10_greatestNow E l k a F1 hq2) [0, 1, 2, 3, 4, 5, 6, 7, 8, 9, 10, 11, 12] rfl (by decide) 0 rfl rfl rfl g_X10_291 hd_X10_greatestNow ⟨Nat.le_of_ble_eq_true rfl, Nat.le_of_ble_eq_true rfl⟩ ⟨Nat.zero_le _, Nat.zero_le _⟩ (Nat.le_of_ble_eq_true rfl) rfl dX10_greatestOverlap_6 (fun r hr => ?_)
  have hr := hr.symm
  subst hr
  cases h
  exact r_ireti (pc := 9) C hq (Nat.zero_le _) (Nat.zero_le _) dX10_greatestOverlap_9
def M_X10_greatestOverlap (k : Nat) (S : Nat → Nat → Int32) : Option (Int32 × (Nat → Nat → Int32)) := M_X10_greatestOverlap_0 k S
set_option maxRecDepth 100000 in
set_option maxHeartbeats 4000000 in
theorem c_X10_greatestOverlap (E : ENV) (l : Launch) (k : Nat) (a : Nat → Nat) (S : Nat → Nat → Int32) {q : Int32 × (Nat → Nat → Int32)} (hm : M_X10_greatestOverlap k S = some q) : CI E l yX10_greatestOverlap cX10_greatestOverlap 1 (some .int) rm_X10_greatestOverlap [.ref (a 0)] (wMd E a S) (fun r w' => r = q.1 ∧ w' = (wMd E a q.2)) :=
  CI.of 0 (by decide) (Nat.le_of_ble_eq_true rfl) (fun p e s m below meth c A C _ => r_weak (lSub_s lSub_e) (N_X10_greatestOverlap_0 C a k S q  hm ⟨rfl, rfl⟩))
theorem hd_X10_badness : yX10_badness.cls = RX10 ∧ yX10_badness.cls ≠ "java/lang/invoke/MethodHandle" ∧ yX10_badness.cls ≠ "java/lang/invoke/VarHandle" ∧ (parseMethodDescriptor yX10_badness.desc).map (fun d => d.parameters.length) = some 2 := by decide +kernel
theorem g_X10_294 : GoodIn GW (wsV RX10 294 RX10 yX10_badness (wsG yX10_badness cX10_badness 7 (some .int))) := gw_V wm_6_235 wm_6_237 wm_0_50 wm_1_9 wm_6_238
-- ShardGuardModel.bestShard(I)I
theorem dX10_bestShard_0 : decode cX10_bestShard 0 = .ok (.aload_n 0, 1) := by decide +kernel
theorem dX10_bestShard_1 : decode cX10_bestShard 1 = .ok (.iconst 0, 1) := by decide +kernel
theorem dX10_bestShard_2 : decode cX10_bestShard 2 = .ok (.putfield 93, 3) := by decide +kernel
theorem dX10_bestShard_5 : decode cX10_bestShard 5 = .ok (.aload_n 0, 1) := by decide +kernel
theorem dX10_bestShard_6 : decode cX10_bestShard 6 = .ok (.iload_n 1, 1) := by decide +kernel
theorem dX10_bestShard_7 : decode cX10_bestShard 7 = .ok (.invokevirtual 279, 3) := by decide +kernel
theorem dX10_bestShard_10 : decode cX10_bestShard 10 = .ok (.ifCond .ne 9, 3) := by decide +kernel
theorem dX10_bestShard_13 : decode cX10_bestShard 13 = .ok (.aload_n 0, 1) := by decide +kernel
theorem dX10_bestShard_14 : decode cX10_bestShard 14 = .ok (.iconst 1, 1) := by decide +kernel
theorem dX10_bestShard_15 : decode cX10_bestShard 15 = .ok (.invokevirtual 267, 3) := by decide +kernel
theorem dX10_bestShard_18 : decode cX10_bestShard 18 = .ok (.ireturn, 1) := by decide +kernel
theorem dX10_bestShard_19 : decode cX10_bestShard 19 = .ok (.iconst (-1), 1) := by decide +kernel
theorem dX10_bestShard_20 : decode cX10_bestShard 20 = .ok (.istore_n 2, 1) := by decide +kernel
theorem dX10_bestShard_21 : decode cX10_bestShard 21 = .ok (.iconst 1, 1) := by decide +kernel
theorem dX10_bestShard_22 : decode cX10_bestShard 22 = .ok (.istore_n 3, 1) := by decide +kernel
theorem dX10_bestShard_23 : decode cX10_bestShard 23 = .ok (.iload_n 3, 1) := by decide +kernel
theorem dX10_bestShard_24 : decode cX10_bestShard 24 = .ok (.iconst 1, 1) := by decide +kernel
theorem dX10_bestShard_25 : decode cX10_bestShard 25 = .ok (.aload_n 0, 1) := by decide +kernel
theorem dX10_bestShard_26 : decode cX10_bestShard 26 = .ok (.invokevirtual 106, 3) := by decide +kernel
theorem dX10_bestShard_29 : decode cX10_bestShard 29 = .ok (.ishl, 1) := by decide +kernel
theorem dX10_bestShard_30 : decode cX10_bestShard 30 = .ok (.if_icmp .ge 48, 3) := by decide +kernel
theorem dX10_bestShard_33 : decode cX10_bestShard 33 = .ok (.iload_n 3, 1) := by decide +kernel
theorem dX10_bestShard_34 : decode cX10_bestShard 34 = .ok (.invokestatic 211, 3) := by decide +kernel
theorem dX10_bestShard_37 : decode cX10_bestShard 37 = .ok (.aload_n 0, 1) := by decide +kernel
theorem dX10_bestShard_38 : decode cX10_bestShard 38 = .ok (.getfield 9, 3) := by decide +kernel
theorem dX10_bestShard_41 : decode cX10_bestShard 41 = .ok (.iconst 1, 1) := by decide +kernel
theorem dX10_bestShard_42 : decode cX10_bestShard 42 = .ok (.iaload, 1) := by decide +kernel
theorem dX10_bestShard_43 : decode cX10_bestShard 43 = .ok (.if_icmp .ne 29, 3) := by decide +kernel
theorem dX10_bestShard_46 : decode cX10_bestShard 46 = .ok (.iload_n 2, 1) := by decide +kernel
theorem dX10_bestShard_47 : decode cX10_bestShard 47 = .ok (.iconst (-1), 1) := by decide +kernel
theorem dX10_bestShard_48 : decode cX10_bestShard 48 = .ok (.if_icmp .eq 18, 3) := by decide +kernel
theorem dX10_bestShard_51 : decode cX10_bestShard 51 = .ok (.aload_n 0, 1) := by decide +kernel
theorem dX10_bestShard_52 : decode cX10_bestShard 52 = .ok (.iload_n 1, 1) := by decide +kernel
theorem dX10_bestShard_53 : decode cX10_bestShard 53 = .ok (.iload_n 3, 1) := by decide +kernel
theorem dX10_bestShard_54 : decode cX10_bestShard 54 = .ok (.invokevirtual 294, 3) := by decide +kernel
theorem dX10_bestShard_57 : decode cX10_bestShard 57 = .ok (.aload_n 0, 1) := by decide +kernel
theorem dX10_bestShard_58 : decode cX10_bestShard 58 = .ok (.iload_n 1, 1) := by decide +kernel
theorem dX10_bestShard_59 : decode cX10_bestShard 59 = .ok (.iload_n 2, 1) := by decide +kernel
theorem dX10_bestShard_60 : decode cX10_bestShard 60 = .ok (.invokevirtual 294, 3) := by decide +kernel
theorem dX10_bestShard_63 : decode cX10_bestShard 63 = .ok (.if_icmp .ge 7, 3) := by decide +kernel
theorem dX10_bestShard_66 : decode cX10_bestShard 66 = .ok (.iload_n 3, 1) := by decide +kernel
theorem dX10_bestShard_67 : decode cX10_bestShard 67 = .ok (.goto 4, 3) := by decide +kernel
theorem dX10_bestShard_70 : decode cX10_bestShard 70 = .ok (.iload_n 2, 1) := by decide +kernel
theorem dX10_bestShard_71 : decode cX10_bestShard 71 = .ok (.istore_n 2, 1) := by decide +kernel
theorem dX10_bestShard_72 : decode cX10_bestShard 72 = .ok (.iinc 3 1, 3) := by decide +kernel
theorem dX10_bestShard_75 : decode cX10_bestShard 75 = .ok (.goto (-52), 3) := by decide +kernel
theorem dX10_bestShard_78 : decode cX10_bestShard 78 = .ok (.iload_n 2, 1) := by decide +kernel
theorem dX10_bestShard_79 : decode cX10_bestShard 79 = .ok (.ireturn, 1) := by decide +kernel
def rm_X10_bestShard : Room := { frames := 3, cells := 0, slots := 0, locals := 69 }
def M_X10_bestShard_23 (k : Nat) : Nat → (Int32) → (Int32) → (Int32) → (Nat → Nat → Int32) → Option (Int32 × (Nat → Nat → Int32))
  | 0, _, _, _, _ => none
  | n + 1, x1, x2, x3, S => (M_X10_workers k S).bind fun q1 => if ((1 : Int32) <<< (q1 &&& 31)) ≤ x3 then (some (x2, S)) else ((M_J6_bitCount_0f7a4 k x3).bind fun q3 => (if inb (1 : Int32) 1692 = true then if q3 = ((S 1) (1 : Int32).toNatClampNeg) then (if x2 = (-1 : Int32) then (M_X10_bestShard_23 k n x1 x3 (x3 + 1) S) else ((M_X10_badness k S x1 x3).bind fun q7 => (M_X10_badness k S x1 x2).bind fun q8 => if q8 ≤ q7 then (M_X10_bestShard_23 k n x1 x2 (x3 + 1) S) else (M_X10_bestShard_23 k n x1 x3 (x3 + 1) S))) else (M_X10_bestShard_23 k n x1 x2 (x3 + 1) S) else none))
theorem M_X10_bestShard_23_s (k : Nat) (n : Nat) (x1 : Int32) (x2 : Int32) (x3 : Int32) (S : Nat → Nat → Int32) : M_X10_bestShard_23 k (n + 1) x1 x2 x3 S = ((M_X10_workers k S).bind fun q1 => if ((1 : Int32) <<< (q1 &&& 31)) ≤ x3 then (some (x2, S)) else ((M_J6_bitCount_0f7a4 k x3).bind fun q3 => (if inb (1 : Int32) 1692 = true then if q3 = ((S 1) (1 : Int32).toNatClampNeg) then (if x2 = (-1 : Int32) then (M_X10_bestShard_23 k n x1 x3 (x3 + 1) S) else ((M_X10_badness k S x1 x3).bind fun q7 => (M_X10_badness k S x1 x2).bind fun q8 => if q8 ≤ q7 then (M_X10_bestShard_23 k n x1 x2 (x3 + 1) S) else (M_X10_bestShard_23 k n x1 x3 (x3 + 1) S))) else (M_X10_bestShard_23 k n x1 x2 (x3 + 1) S) else none))) := rfl
set_option maxRecDepth 100000 in
set_option maxHeartbeats 4000000 in
theorem N_X10_bestShard_23 (C : CX E p l s m args meth c cX10_bestShard 4 RX10 (some .int) A) (a : Nat → Nat) (k : Nat) {post : Int32 → va_W → Prop} :
    ∀ (n : Nat) (x1 : Int32) (x2 : Int32) (x3 : Int32) (S : Nat → Nat → Int32) (q : Int32 × (Nat → Nat → Int32)), M_X10_bestShard_23 k n x1 x2 x3 S = some q → post q.1 (wMd E a q.2) →
      WW E p l e rm_X10_bestShard s m args below meth c A 0 0 (QI E below post args s rm_X10_bestShard A) (wMd E a S) 4 [some (.ref (a 0)), some (.int x1), some (.int x2), some (.int x3)] 23 [] := by
  intro n
  induction n with
  | zero => intro x1 x2 x3 S q  h _; cases h
  | succ n ih =>
    intro x1 x2 x3 S q  h hq
    rw [M_X10_bestShard_23_s] at h
    refine r_iload_n (pc := 23) C (i := 3) dX10_bestShard_23 rfl rfl ?_
    refine r_iconst (pc := 24) C (v := 1) dX10_bestShard_24 (by decide) ?_
    refine r_aload_n (pc := 25) C (i := 0) dX10_bestShard_25 rfl rfl ?_
    obtain ⟨q1, hq1, h⟩ := bnd h
    refine r_callVp_CI (Cn := RX10) (pc := 26) C [] (c_X10_workers E l k a S hq1) [0, 1, 2, 3, 4, 5, 6, 7, 8, 9, 10, 11, 12] rfl (by decide) 0 rfl rfl rfl g_X10_106 hd_X10_workers ⟨Nat.le_of_ble_eq_true rfl, Nat.le_of_ble_eq_true rfl⟩ ⟨Nat.zero_le _, Nat.zero_le _⟩ (Nat.le_of_ble_eq_true rfl) rfl dX10_bestShard_26 (fun r hr => ?_)
    have hr := hr.symm
    subst hr
    refine r_ishl (pc := 29) C dX10_bestShard_29 ?_
    refine r_icmp_ge (pc := 30) C (tgt := 78) dX10_bestShard_30 rfl (fun c2 => ?_) (fun c2 => ?_)
    · rw [if_pos c2] at h
      refine r_iload_n (pc := 78) C (i := 2) dX10_bestShard_78 rfl rfl ?_
      cases h
      exact r_ireti (pc := 79) C hq (Nat.zero_le _) (Nat.zero_le _) dX10_bestShard_79
    · rw [if_neg c2] at h
      refine r_iload_n (pc := 33) C (i := 3) dX10_bestShard_33 rfl rfl ?_
      obtain ⟨q3, hq3, h⟩ := bnd h
      refine r_callSp_CI (pc := 34) C [.int x3] (c_J6_bitCount_0f7a4 E l k x3 hq3) [] rfl (by decide) g_X10_211 hd_J6_bitCount_0f7a4.2 ⟨Nat.le_of_ble_eq_true rfl, Nat.le_of_ble_eq_true rfl⟩ ⟨Nat.zero_le _, Nat.zero_le _⟩ (Nat.le_of_ble_eq_true rfl) rfl dX10_bestShard_34 (fun r hr => ?_)
      have hr := hr.symm
      subst hr
      refine r_aload_n (pc := 37) C (i := 0) dX10_bestShard_37 rfl rfl ?_
      refine r_get (pc := 38) C gwX10 0 rfl rfl 0 (by decide) wm_5_203 rfl dX10_bestShard_38 ?_
      refine r_iconst (pc := 41) C (v := 1) dX10_bestShard_41 (by decide) ?_
      obtain ⟨hi4, h⟩ := ifn h
      refine r_iald (pc := 42) C 1 rfl hi4 dX10_bestShard_42 ?_
      refine r_icmp_ne (pc := 43) C (tgt := 72) dX10_bestShard_43 rfl (fun c5 => ?_) (fun c5 => ?_)
      · rw [if_neg c5] at h
        refine r_iinc (pc := 72) C (v := (x3 + 1)) dX10_bestShard_72 rfl rfl (by decide) rfl ?_
        refine r_goto (pc := 75) C (tgt := 23) dX10_bestShard_75 rfl ?_
        refine r_weak (lSub_s (lSub_s (lSub_s (lSub_s lSub_e)))) ?_
        exact ih x1 x2 (x3 + 1) S q  h hq
      · rw [if_pos c5] at h
        refine r_iload_n (pc := 46) C (i := 2) dX10_bestShard_46 rfl rfl ?_
        refine r_iconst (pc := 47) C (v := (-1)) dX10_bestShard_47 (by decide) ?_
        refine r_icmp_eq (pc := 48) C (tgt := 66) dX10_bestShard_48 rfl (fun c6 => ?_) (fun c6 => ?_)
        · rw [if_pos c6] at h
          refine r_iload_n (pc := 66) C (i := 3) dX10_bestShard_66 rfl rfl ?_
          refine r_goto (pc := 67) C (tgt := 71) dX10_bestShard_67 rfl ?_
          refine r_istore_n (pc := 71) C (i := 2) dX10_bestShard_71 rfl (by decide) rfl ?_
          refine r_iinc (pc := 72) C (v := (x3 + 1)) dX10_bestShard_72 rfl rfl (by decide) rfl ?_
          refine r_goto (pc := 75) C (tgt := 23) dX10_bestShard_75 rfl ?_
          refine r_weak (lSub_s (lSub_s (lSub_s (lSub_s lSub_e)))) ?_
          exact ih x1 x3 (x3 + 1) S q  h hq
        · rw [if_neg c6] at h
          refine r_aload_n (pc := 51) C (i := 0) dX10_bestShard_51 rfl rfl ?_
          refine r_iload_n (pc := 52) C (i := 1) dX10_bestShard_52 rfl rfl ?_
          refine r_iload_n (pc := 53) C (i := 3) dX10_bestShard_53 rfl rfl ?_
          obtain ⟨q7, hq7, h⟩ := bnd h
          refine r_callVp_CI (Cn := RX10) (pc := 54) C [.int x1, .int x3] (c_X10_badness E l k a S x1 x3 hq7) [0, 1, 2, 3, 4, 5, 6, 7, 8, 9, 10, 11, 12] rfl (by decide) 0 rfl rfl rfl g_X10_294 hd_X10_badness ⟨Nat.le_of_ble_eq_true rfl, Nat.le_of_ble_eq_true rfl⟩ ⟨Nat.zero_le _, Nat.zero_le _⟩ (Nat.le_of_ble_eq_true rfl) rfl dX10_bestShard_54 (fun r hr => ?_)
          have hr := hr.symm
          subst hr
          refine r_aload_n (pc := 57) C (i := 0) dX10_bestShard_57 rfl rfl ?_
          refine r_iload_n (pc := 58) C (i := 1) dX10_bestShard_58 rfl rfl ?_
          refine r_iload_n (pc := 59) C (i := 2) dX10_bestShard_59 rfl rfl ?_
          obtain ⟨q8, hq8, h⟩ := bnd h
          refine r_callVp_CI (Cn := RX10) (pc := 60) C [.int x1, .int x2] (c_X10_badness E l k a S x1 x2 hq8) [0, 1, 2, 3, 4, 5, 6, 7, 8, 9, 10, 11, 12] rfl (by decide) 0 rfl rfl rfl g_X10_294 hd_X10_badness ⟨Nat.le_of_ble_eq_true rfl, Nat.le_of_ble_eq_true rfl⟩ ⟨Nat.zero_le _, Nat.zero_le _⟩ (Nat.le_of_ble_eq_true rfl) rfl dX10_bestShard_60 (fun r hr => ?_)
          have hr := hr.symm
          subst hr
          refine r_icmp_ge (pc := 63) C (tgt := 70) dX10_bestShard_63 rfl (fun c9 => ?_) (fun c9 => ?_)
          · rw [if_pos c9] at h
            refine r_iload_n (pc := 70) C (i := 2) dX10_bestShard_70 rfl rfl ?_
            refine r_istore_n (pc := 71) C (i := 2) dX10_bestShard_71 rfl (by decide) rfl ?_
            refine r_iinc (pc := 72) C (v := (x3 + 1)) dX10_bestShard_72 rfl rfl (by decide) rfl ?_
            refine r_goto (pc := 75) C (tgt := 23) dX10_bestShard_75 rfl ?_
            refine r_weak (lSub_s (lSub_s (lSub_s (lSub_s lSub_e)))) ?_
            exact ih x1 x2 (x3 + 1) S q  h hq
          · rw [if_neg c9] at h
            refine r_iload_n (pc := 66) C (i := 3) dX10_bestShard_66 rfl rfl ?_
            refine r_goto (pc := 67) C (tgt := 71) dX10_bestShard_67 rfl ?_
            refine r_istore_n (pc := 71) C (i := 2) dX10_bestShard_71 rfl (by decide) rfl ?_
            refine r_iinc (pc := 72) C (v := (x3 + 1)) dX10_bestShard_72 rfl rfl (by decide) rfl ?_
            refine r_goto (pc := 75) C (tgt := 23) dX10_bestShard_75 rfl ?_
            refine r_weak (lSub_s (lSub_s (lSub_s (lSub_s lSub_e)))) ?_
            exact ih x1 x3 (x3 + 1) S q  h hq
def M_X10_bestShard_0 (k : Nat) (p0 : Int32) (S : Nat → Nat → Int32) : Option (Int32 × (Nat → Nat → Int32)) := lt (va_up S 0 (upd (S 0) 1 (0 : Int32))) fun F10 => (M_X10_isTenant k F10 p0).bind fun q11 => if q11 = 0 then ((M_X10_raise k F10 (1 : Int32)).bind fun q13 => some (q13.1, q13.2)) else (M_X10_bestShard_23 k k p0 (-1 : Int32) (1 : Int32) F10)
set_option maxRecDepth 100000 in
set_option maxHeartbeats 4000000 in
theorem N_X10_bestShard_0 (C : CX E p l s m args meth c cX10_bestShard 4 RX10 (some .int) A) (a : Nat → Nat) (k : Nat) {post : Int32 → va_W → Prop} :
    ∀ (p0 : Int32) (S : Nat → Nat → Int32) (q : Int32 × (Nat → Nat → Int32)), M_X10_bestShard_0 k p0 S = some q → post q.1 (wMd E a q.2) →
      WW E p l e rm_X10_bestShard s m args below meth c A 0 0 (QI E below post args s rm_X10_bestShard A) (wMd E a S) 4 [some (.ref (a 0)), some (.int p0), none, none] 0 [] := by
  intro p0 S q  h hq
  unfold M_X10_bestShard_0 at h
  refine r_aload_n (pc := 0) C (i := 0) dX10_bestShard_0 rfl rfl ?_
  refine r_iconst (pc := 1) C (v := 0) dX10_bestShard_1 (by decide) ?_
  obtain ⟨F10, hF10, h⟩ := lt_e h
  refine r_put (pc := 2) C gwX10 tyX10 tyX10_ok nmX10 0 rfl rfl 6 (by decide) wm_5_209 rfl rfl rfl rfl (Nat.le_of_ble_eq_true rfl) (w' := (wMd E a F10)) (by rw [hF10]; rfl) dX10_bestShard_2 ?_
  refine r_aload_n (pc := 5) C (i := 0) dX10_bestShard_5 rfl rfl ?_
  refine r_iload_n (pc := 6) C (i := 1) dX10_bestShard_6 rfl rfl ?_
  obtain ⟨q11, hq11, h⟩ := bnd h
  refine r_callVp_CI (Cn := RX10) (pc := 7) C [.int p0] (c_X10_isTenant E l k a F10 p0 hq11) [0, 1, 2, 3, 4, 5, 6, 7, 8, 9, 10, 11, 12] rfl (by decide) 0 rfl rfl rfl g_X10_279 hd_X10_isTenant ⟨Nat.le_of_ble_eq_true rfl, Nat.le_of_ble_eq_true rfl⟩ ⟨Nat.zero_le _, Nat.zero_le _⟩ (Nat.le_of_ble_eq_true rfl) rfl dX10_bestShard_7 (fun r hr => ?_)
  have hr := hr.symm
  subst hr
  refine r_if_ne (pc := 10) C (tgt := 19) dX10_bestShard_10 rfl (fun c12 => ?_) (fun c12 => ?_)
  · rw [if_neg c12] at h
    refine r_iconst (pc := 19) C (v := (-1)) dX10_bestShard_19 (by decide) ?_
    refine r_istore_n (pc := 20) C (i := 2) dX10_bestShard_20 rfl (by decide) rfl ?_
    refine r_iconst (pc := 21) C (v := 1) dX10_bestShard_21 (by decide) ?_
    refine r_istore_n (pc := 22) C (i := 3) dX10_bestShard_22 rfl (by decide) rfl ?_
    refine r_weak (lSub_s (lSub_s (lSub_s (lSub_s lSub_e)))) ?_
    exact N_X10_bestShard_23 C a k k p0 (-1 : Int32) (1 : Int32) F10 q  h hq
  · rw [if_pos c12] at h
    refine r_aload_n (pc := 13) C (i := 0) dX10_bestShard_13 rfl rfl ?_
    refine r_iconst (pc := 14) C (v := 1) dX10_bestShard_14 (by decide) ?_
    obtain ⟨q13, hq13, h⟩ := bnd h
    refine r_callV_CI (Cn := RX10) (pc := 15) C [.int (1 : Int32)] (c_X10_raise E l k a F10 (1 : Int32) hq13) [0, 1, 2, 3, 4, 5, 6, 7, 8, 9, 10, 11, 12] rfl (by decide) 0 rfl rfl rfl g_X10_267 hd_X10_raise ⟨Nat.le_of_ble_eq_true rfl, Nat.le_of_ble_eq_true rfl⟩ ⟨Nat.zero_le _, Nat.zero_le _⟩ (Nat.le_of_ble_eq_true rfl) rfl dX10_bestShard_15 (fun r w1 hw1 => ?_)
    obtain ⟨hr1, hw1⟩ := hw1
    subst hr1 hw1
    refine ⟨(wMd E a q13.2), by rfl, ?_⟩
    cases h
    exact r_ireti (pc := 18) C hq (Nat.zero_le _) (Nat.zero_le _) dX10_bestShard_18
def M_X10_bestShard (k : Nat) (S : Nat → Nat → Int32) (p0 : Int32) : Option (Int32 × (Nat → Nat → Int32)) := M_X10_bestShard_0 k p0 S
set_option maxRecDepth 100000 in
set_option maxHeartbeats 4000000 in
theorem c_X10_bestShard (E : ENV) (l : Launch) (k : Nat) (a : Nat → Nat) (S : Nat → Nat → Int32) (p0 : Int32) {q : Int32 × (Nat → Nat → Int32)} (hm : M_X10_bestShard k S p0 = some q) : CI E l yX10_bestShard cX10_bestShard 4 (some .int) rm_X10_bestShard [.ref (a 0), .int p0] (wMd E a S) (fun r w' => r = q.1 ∧ w' = (wMd E a q.2)) :=
  CI.of 2 (by decide) (Nat.le_of_ble_eq_true rfl) (fun p e s m below meth c A C _ => r_weak (lSub_s (lSub_s (lSub_n (lSub_n lSub_e)))) (N_X10_bestShard_0 C a k p0 S q  hm ⟨rfl, rfl⟩))
theorem hd_X10_goAside : yX10_goAside.cls = RX10 ∧ yX10_goAside.cls ≠ "java/lang/invoke/MethodHandle" ∧ yX10_goAside.cls ≠ "java/lang/invoke/VarHandle" ∧ (parseMethodDescriptor yX10_goAside.desc).map (fun d => d.parameters.length) = some 0 := by decide +kernel
theorem g_X10_239 : GoodIn GW (wsV RX10 239 RX10 yX10_goAside (wsG yX10_goAside cX10_goAside 1 none)) := gw_V wm_7_3 wm_7_5 wm_0_51 wm_1_9 wm_7_6
theorem hd_X10_drawAll : yX10_drawAll.cls = RX10 ∧ yX10_drawAll.cls ≠ "java/lang/invoke/MethodHandle" ∧ yX10_drawAll.cls ≠ "java/lang/invoke/VarHandle" ∧ (parseMethodDescriptor yX10_drawAll.desc).map (fun d => d.parameters.length) = some 1 := by decide +kernel
theorem g_X10_297 : GoodIn GW (wsV RX10 297 RX10 yX10_drawAll (wsG yX10_drawAll cX10_drawAll 7 none)) := gw_V wm_7_10 wm_7_12 wm_0_52 wm_1_9 wm_7_13
theorem hd_X10_comeBack : yX10_comeBack.cls = RX10 ∧ yX10_comeBack.cls ≠ "java/lang/invoke/MethodHandle" ∧ yX10_comeBack.cls ≠ "java/lang/invoke/VarHandle" ∧ (parseMethodDescriptor yX10_comeBack.desc).map (fun d => d.parameters.length) = some 0 := by decide +kernel
theorem g_X10_255 : GoodIn GW (wsV RX10 255 RX10 yX10_comeBack (wsG yX10_comeBack cX10_comeBack 1 none)) := gw_V wm_7_22 wm_7_24 wm_0_54 wm_1_9 wm_7_25
-- ShardGuardModel.drawn(II)I
theorem dX10_drawn_0 : decode cX10_drawn 0 = .ok (.aload_n 0, 1) := by decide +kernel
theorem dX10_drawn_1 : decode cX10_drawn 1 = .ok (.aload_n 0, 1) := by decide +kernel
theorem dX10_drawn_2 : decode cX10_drawn 2 = .ok (.iload_n 1, 1) := by decide +kernel
theorem dX10_drawn_3 : decode cX10_drawn 3 = .ok (.invokevirtual 279, 3) := by decide +kernel
theorem dX10_drawn_6 : decode cX10_drawn 6 = .ok (.ifCond .ne 7, 3) := by decide +kernel
theorem dX10_drawn_9 : decode cX10_drawn 9 = .ok (.iconst 1, 1) := by decide +kernel
theorem dX10_drawn_10 : decode cX10_drawn 10 = .ok (.goto 12, 3) := by decide +kernel
theorem dX10_drawn_13 : decode cX10_drawn 13 = .ok (.iload_n 2, 1) := by decide +kernel
theorem dX10_drawn_14 : decode cX10_drawn 14 = .ok (.ifCond .lt 7, 3) := by decide +kernel
theorem dX10_drawn_17 : decode cX10_drawn 17 = .ok (.iconst 0, 1) := by decide +kernel
theorem dX10_drawn_18 : decode cX10_drawn 18 = .ok (.goto 4, 3) := by decide +kernel
theorem dX10_drawn_21 : decode cX10_drawn 21 = .ok (.iconst 2, 1) := by decide +kernel
theorem dX10_drawn_22 : decode cX10_drawn 22 = .ok (.putfield 93, 3) := by decide +kernel
theorem dX10_drawn_25 : decode cX10_drawn 25 = .ok (.aload_n 0, 1) := by decide +kernel
theorem dX10_drawn_26 : decode cX10_drawn 26 = .ok (.getfield 93, 3) := by decide +kernel
theorem dX10_drawn_29 : decode cX10_drawn 29 = .ok (.ifCond .eq 5, 3) := by decide +kernel
theorem dX10_drawn_32 : decode cX10_drawn 32 = .ok (.iconst 0, 1) := by decide +kernel
theorem dX10_drawn_33 : decode cX10_drawn 33 = .ok (.ireturn, 1) := by decide +kernel
theorem dX10_drawn_34 : decode cX10_drawn 34 = .ok (.aload_n 0, 1) := by decide +kernel
theorem dX10_drawn_35 : decode cX10_drawn 35 = .ok (.invokevirtual 239, 3) := by decide +kernel
theorem dX10_drawn_38 : decode cX10_drawn 38 = .ok (.aload_n 0, 1) := by decide +kernel
theorem dX10_drawn_39 : decode cX10_drawn 39 = .ok (.iload_n 2, 1) := by decide +kernel
theorem dX10_drawn_40 : decode cX10_drawn 40 = .ok (.invokevirtual 297, 3) := by decide +kernel
theorem dX10_drawn_43 : decode cX10_drawn 43 = .ok (.aload_n 0, 1) := by decide +kernel
theorem dX10_drawn_44 : decode cX10_drawn 44 = .ok (.iload_n 1, 1) := by decide +kernel
theorem dX10_drawn_45 : decode cX10_drawn 45 = .ok (.iconst 0, 1) := by decide +kernel
theorem dX10_drawn_46 : decode cX10_drawn 46 = .ok (.invokevirtual 120, 3) := by decide +kernel
theorem dX10_drawn_49 : decode cX10_drawn 49 = .ok (.istore_n 3, 1) := by decide +kernel
theorem dX10_drawn_50 : decode cX10_drawn 50 = .ok (.aload_n 0, 1) := by decide +kernel
theorem dX10_drawn_51 : decode cX10_drawn 51 = .ok (.invokevirtual 255, 3) := by decide +kernel
theorem dX10_drawn_54 : decode cX10_drawn 54 = .ok (.iload_n 3, 1) := by decide +kernel
theorem dX10_drawn_55 : decode cX10_drawn 55 = .ok (.ireturn, 1) := by decide +kernel
def rm_X10_drawn : Room := { frames := 3, cells := 0, slots := 0, locals := 71 }
def M_X10_drawn_22 (k : Nat) (x1 : Int32) (x2 : Int32) (y1 : Int32) (S : Nat → Nat → Int32) : Option (Int32 × (Nat → Nat → Int32)) := lt (va_up S 0 (upd (S 0) 1 y1)) fun F1 => if (F1 0 1) = 0 then ((M_X10_goAside k F1).bind fun q3 => (M_X10_drawAll k q3 x2).bind fun q4 => (M_X10_ofTenant k q4 x1 (0 : Int32)).bind fun q5 => (M_X10_comeBack k q4).bind fun q6 => some (q5, q6)) else (some ((0 : Int32), F1))
set_option maxRecDepth 100000 in
set_option maxHeartbeats 4000000 in
theorem N_X10_drawn_22 (C : CX E p l s m args meth c cX10_drawn 4 RX10 (some .int) A) (a : Nat → Nat) (k : Nat) {post : Int32 → va_W → Prop} :
    ∀ (x1 : Int32) (x2 : Int32) (y1 : Int32) (S : Nat → Nat → Int32) (q : Int32 × (Nat → Nat → Int32)), M_X10_drawn_22 k x1 x2 y1 S = some q → post q.1 (wMd E a q.2) →
      WW E p l e rm_X10_drawn s m args below meth c A 0 0 (QI E below post args s rm_X10_drawn A) (wMd E a S) 4 [some (.ref (a 0)), some (.int x1), some (.int x2), none] 22 [.int y1, .ref (a 0)] := by
  intro x1 x2 y1 S q  h hq
  unfold M_X10_drawn_22 at h
  obtain ⟨F1, hF1, h⟩ := lt_e h
  refine r_put (pc := 22) C gwX10 tyX10 tyX10_ok nmX10 0 rfl rfl 6 (by decide) wm_5_209 rfl rfl rfl rfl (Nat.le_of_ble_eq_true rfl) (w' := (wMd E a F1)) (by rw [hF1]; rfl) dX10_drawn_22 ?_
  refine r_aload_n (pc := 25) C (i := 0) dX10_drawn_25 rfl rfl ?_
  refine r_get (pc := 26) C gwX10 0 rfl rfl 6 (by decide) wm_5_209 rfl dX10_drawn_26 ?_
  refine r_if_eq (pc := 29) C (tgt := 34) dX10_drawn_29 rfl (fun c2 => ?_) (fun c2 => ?_)
  · rw [if_pos c2] at h
    refine r_aload_n (pc := 34) C (i := 0) dX10_drawn_34 rfl rfl ?_
    obtain ⟨q3, hq3, h⟩ := bnd h
    refine r_callV_CV (Cn := RX10) (pc := 35) C [] (c_X10_goAside E l k a F1 hq3) [0, 1, 2, 3, 4, 5, 6, 7, 8, 9, 10, 11, 12] rfl (by decide) 0 rfl rfl rfl g_X10_239 hd_X10_goAside ⟨Nat.le_of_ble_eq_true rfl, Nat.le_of_ble_eq_true rfl⟩ ⟨Nat.zero_le _, Nat.zero_le _⟩ (Nat.le_of_ble_eq_true rfl) rfl dX10_drawn_35 (fun w1 hw1 => ?_)
    subst hw1
    refine ⟨(wMd E a q3), by rfl, ?_⟩
    refine r_aload_n (pc := 38) C (i := 0) dX10_drawn_38 rfl rfl ?_
    refine r_iload_n (pc := 39) C (i := 2) dX10_drawn_39 rfl rfl ?_
    obtain ⟨q4, hq4, h⟩ := bnd h
    refine r_callV_CV (Cn := RX10) (pc := 40) C [.int x2] (c_X10_drawAll E l k a q3 x2 hq4) [0, 1, 2, 3, 4, 5, 6, 7, 8, 9, 10, 11, 12] rfl (by decide) 0 rfl rfl rfl g_X10_297 hd_X10_drawAll ⟨Nat.le_of_ble_eq_true rfl, Nat.le_of_ble_eq_true rfl⟩ ⟨Nat.zero_le _, Nat.zero_le _⟩ (Nat.le_of_ble_eq_true rfl) rfl dX10_drawn_40 (fun w1 hw1 => ?_)
    subst hw1
    refine ⟨(wMd E a q4), by rfl, ?_⟩
    refine r_aload_n (pc := 43) C (i := 0) dX10_drawn_43 rfl rfl ?_
    refine r_iload_n (pc := 44) C (i := 1) dX10_drawn_44 rfl rfl ?_
    refine r_iconst (pc := 45) C (v := 0) dX10_drawn_45 (by decide) ?_
    obtain ⟨q5, hq5, h⟩ := bnd h
    refine r_callVp_CI (Cn := RX10) (pc := 46) C [.int x1, .int (0 : Int32)] (c_X10_ofTenant E l k a q4 x1 (0 : Int32) hq5) [0, 1, 2, 3, 4, 5, 6, 7, 8, 9, 10, 11, 12] rfl (by decide) 0 rfl rfl rfl g_X10_120 hd_X10_ofTenant ⟨Nat.le_of_ble_eq_true rfl, Nat.le_of_ble_eq_true rfl⟩ ⟨Nat.zero_le _, Nat.zero_le _⟩ (Nat.le_of_ble_eq_true rfl) rfl dX10_drawn_46 (fun r hr => ?_)
    have hr := hr.symm
    subst hr
    refine r_istore_n (pc := 49) C (i := 3) dX10_drawn_49 rfl (by decide) rfl ?_
    refine r_aload_n (pc := 50) C (i := 0) dX10_drawn_50 rfl rfl ?_
    obtain ⟨q6, hq6, h⟩ := bnd h
    refine r_callV_CV (Cn := RX10) (pc := 51) C [] (c_X10_comeBack E l k a q4 hq6) [0, 1, 2, 3, 4, 5, 6, 7, 8, 9, 10, 11, 12] rfl (by decide) 0 rfl rfl rfl g_X10_255 hd_X10_comeBack ⟨Nat.le_of_ble_eq_true rfl, Nat.le_of_ble_eq_true rfl⟩ ⟨Nat.zero_le _, Nat.zero_le _⟩ (Nat.le_of_ble_eq_true rfl) rfl dX10_drawn_51 (fun w1 hw1 => ?_)
    subst hw1
    refine ⟨(wMd E a q6), by rfl, ?_⟩
    refine r_iload_n (pc := 54) C (i := 3) dX10_drawn_54 rfl rfl ?_
    cases h
    exact r_ireti (pc := 55) C hq (Nat.zero_le _) (Nat.zero_le _) dX10_drawn_55
  · rw [if_neg c2] at h
    refine r_iconst (pc := 32) C (v := 0) dX10_drawn_32 (by decide) ?_
    cases h
    exact r_ireti (pc := 33) C hq (Nat.zero_le _) (Nat.zero_le _) dX10_drawn_33
def M_X10_drawn_0 (k : Nat) (p0 : Int32) (p1 : Int32) (S : Nat → Nat → Int32) : Option (Int32 × (Nat → Nat → Int32)) := (M_X10_isTenant k S p0).bind fun q7 => if q7 = 0 then (M_X10_drawn_22 k p0 p1 (1 : Int32) S) else (if p1 < 0 then (M_X10_drawn_22 k p0 p1 (2 : Int32) S) else (M_X10_drawn_22 k p0 p1 (0 : Int32) S))
set_option maxRecDepth 100000 in
set_option maxHeartbeats 4000000 in
theorem N_X10_drawn_0 (C : CX E p l s m args meth c cX10_drawn 4 RX10 (some .int) A) (a : Nat → Nat) (k : Nat) {post : Int32 → va_W → Prop} :
    ∀ (p0 : Int32) (p1 : Int32) (S : Nat → Nat → Int32) (q : Int32 × (Nat → Nat → Int32)), M_X10_drawn_0 k p0 p1 S = some q → post q.1 (wMd E a q.2) →
      WW E p l e rm_X10_drawn s m args below meth c A 0 0 (QI E below post args s rm_X10_drawn A) (wMd E a S) 4 [some (.ref (a 0)), some (.int p0), some (.int p1), none] 0 [] := by
  intro p0 p1 S q  h hq
  unfold M_X10_drawn_0 at h
  refine r_aload_n (pc := 0) C (i := 0) dX10_drawn_0 rfl rfl ?_
  refine r_aload_n (pc := 1) C (i := 0) dX10_drawn_1 rfl rfl ?_
  refine r_iload_n (pc := 2) C (i := 1) dX10_drawn_2 rfl rfl ?_
  obtain ⟨q7, hq7, h⟩ := bnd h
  refine r_callVp_CI (Cn := RX10) (pc := 3) C [.int p0] (c_X10_isTenant E l k a S p0 hq7) [0, 1, 2, 3, 4, 5, 6, 7, 8, 9, 10, 11, 12] rfl (by decide) 0 rfl rfl rfl g_X10_279 hd_X10_isTenant ⟨Nat.le_of_ble_eq_true rfl, Nat.le_of_ble_eq_true rfl⟩ ⟨Nat.zero_le _, Nat.zero_le _⟩ (Nat.le_of_ble_eq_true rfl) rfl dX10_drawn_3 (fun r hr => ?_)
  have hr := hr.symm
  subst hr
  refine r_if_ne (pc := 6) C (tgt := 13) dX10_drawn_6 rfl (fun c8 => ?_) (fun c8 => ?_)
  · rw [if_neg c8] at h
    refine r_iload_n (pc := 13) C (i := 2) dX10_drawn_13 rfl rfl ?_
    refine r_if_lt (pc := 14) C (tgt := 21) dX10_drawn_14 rfl (fun c9 => ?_) (fun c9 => ?_)
    · rw [if_pos c9] at h
      refine r_iconst (pc := 21) C (v := 2) dX10_drawn_21 (by decide) ?_
      refine r_weak (lSub_s (lSub_s (lSub_s (lSub_n lSub_e)))) ?_
      exact N_X10_drawn_22 C a k p0 p1 (2 : Int32) S q  h hq
    · rw [if_neg c9] at h
      refine r_iconst (pc := 17) C (v := 0) dX10_drawn_17 (by decide) ?_
      refine r_goto (pc := 18) C (tgt := 22) dX10_drawn_18 rfl ?_
      refine r_weak (lSub_s (lSub_s (lSub_s (lSub_n lSub_e)))) ?_
      exact N_X10_drawn_22 C a k p0 p1 (0 : Int32) S q  h hq
  · rw [if_pos c8] at h
    refine r_iconst (pc := 9) C (v := 1) dX10_drawn_9 (by decide) ?_
    refine r_goto (pc := 10) C (tgt := 22) dX10_drawn_10 rfl ?_
    refine r_weak (lSub_s (lSub_s (lSub_s (lSub_n lSub_e)))) ?_
    exact N_X10_drawn_22 C a k p0 p1 (1 : Int32) S q  h hq
def M_X10_drawn (k : Nat) (S : Nat → Nat → Int32) (p0 : Int32) (p1 : Int32) : Option (Int32 × (Nat → Nat → Int32)) := M_X10_drawn_0 k p0 p1 S
set_option maxRecDepth 100000 in
set_option maxHeartbeats 4000000 in
theorem c_X10_drawn (E : ENV) (l : Launch) (k : Nat) (a : Nat → Nat) (S : Nat → Nat → Int32) (p0 : Int32) (p1 : Int32) {q : Int32 × (Nat → Nat → Int32)} (hm : M_X10_drawn k S p0 p1 = some q) : CI E l yX10_drawn cX10_drawn 4 (some .int) rm_X10_drawn [.ref (a 0), .int p0, .int p1] (wMd E a S) (fun r w' => r = q.1 ∧ w' = (wMd E a q.2)) :=
  CI.of 1 (by decide) (Nat.le_of_ble_eq_true rfl) (fun p e s m below meth c A C _ => r_weak (lSub_s (lSub_s (lSub_s (lSub_n lSub_e)))) (N_X10_drawn_0 C a k p0 p1 S q  hm ⟨rfl, rfl⟩))
-- ShardGuardModel.bestSeed()I
theorem dX10_bestSeed_0 : decode cX10_bestSeed 0 = .ok (.aload_n 0, 1) := by decide +kernel
theorem dX10_bestSeed_1 : decode cX10_bestSeed 1 = .ok (.iconst 0, 1) := by decide +kernel
theorem dX10_bestSeed_2 : decode cX10_bestSeed 2 = .ok (.putfield 93, 3) := by decide +kernel
theorem dX10_bestSeed_5 : decode cX10_bestSeed 5 = .ok (.aload_n 0, 1) := by decide +kernel
theorem dX10_bestSeed_6 : decode cX10_bestSeed 6 = .ok (.invokevirtual 239, 3) := by decide +kernel
theorem dX10_bestSeed_9 : decode cX10_bestSeed 9 = .ok (.iconst 0, 1) := by decide +kernel
theorem dX10_bestSeed_10 : decode cX10_bestSeed 10 = .ok (.istore_n 1, 1) := by decide +kernel
theorem dX10_bestSeed_11 : decode cX10_bestSeed 11 = .ok (.bipush 12, 2) := by decide +kernel
theorem dX10_bestSeed_13 : decode cX10_bestSeed 13 = .ok (.istore_n 2, 1) := by decide +kernel
theorem dX10_bestSeed_14 : decode cX10_bestSeed 14 = .ok (.iconst 0, 1) := by decide +kernel
theorem dX10_bestSeed_15 : decode cX10_bestSeed 15 = .ok (.istore_n 3, 1) := by decide +kernel
theorem dX10_bestSeed_16 : decode cX10_bestSeed 16 = .ok (.iload_n 3, 1) := by decide +kernel
theorem dX10_bestSeed_17 : decode cX10_bestSeed 17 = .ok (.bipush 100, 2) := by decide +kernel
theorem dX10_bestSeed_19 : decode cX10_bestSeed 19 = .ok (.if_icmp .ge 39, 3) := by decide +kernel
theorem dX10_bestSeed_22 : decode cX10_bestSeed 22 = .ok (.aload_n 0, 1) := by decide +kernel
theorem dX10_bestSeed_23 : decode cX10_bestSeed 23 = .ok (.iload_n 3, 1) := by decide +kernel
theorem dX10_bestSeed_24 : decode cX10_bestSeed 24 = .ok (.invokevirtual 297, 3) := by decide +kernel
theorem dX10_bestSeed_27 : decode cX10_bestSeed 27 = .ok (.aload_n 0, 1) := by decide +kernel
theorem dX10_bestSeed_28 : decode cX10_bestSeed 28 = .ok (.invokevirtual 291, 3) := by decide +kernel
theorem dX10_bestSeed_31 : decode cX10_bestSeed 31 = .ok (.istore 4, 2) := by decide +kernel
theorem dX10_bestSeed_33 : decode cX10_bestSeed 33 = .ok (.iload 4, 2) := by decide +kernel
theorem dX10_bestSeed_35 : decode cX10_bestSeed 35 = .ok (.iload_n 2, 1) := by decide +kernel
theorem dX10_bestSeed_36 : decode cX10_bestSeed 36 = .ok (.if_icmp .ge 7, 3) := by decide +kernel
theorem dX10_bestSeed_39 : decode cX10_bestSeed 39 = .ok (.iload_n 3, 1) := by decide +kernel
theorem dX10_bestSeed_40 : decode cX10_bestSeed 40 = .ok (.goto 4, 3) := by decide +kernel
theorem dX10_bestSeed_43 : decode cX10_bestSeed 43 = .ok (.iload_n 1, 1) := by decide +kernel
theorem dX10_bestSeed_44 : decode cX10_bestSeed 44 = .ok (.istore_n 1, 1) := by decide +kernel
theorem dX10_bestSeed_45 : decode cX10_bestSeed 45 = .ok (.iload_n 2, 1) := by decide +kernel
theorem dX10_bestSeed_46 : decode cX10_bestSeed 46 = .ok (.iload 4, 2) := by decide +kernel
theorem dX10_bestSeed_48 : decode cX10_bestSeed 48 = .ok (.invokestatic 300, 3) := by decide +kernel
theorem dX10_bestSeed_51 : decode cX10_bestSeed 51 = .ok (.istore_n 2, 1) := by decide +kernel
theorem dX10_bestSeed_52 : decode cX10_bestSeed 52 = .ok (.iinc 3 1, 3) := by decide +kernel
theorem dX10_bestSeed_55 : decode cX10_bestSeed 55 = .ok (.goto (-39), 3) := by decide +kernel
theorem dX10_bestSeed_58 : decode cX10_bestSeed 58 = .ok (.aload_n 0, 1) := by decide +kernel
theorem dX10_bestSeed_59 : decode cX10_bestSeed 59 = .ok (.invokevirtual 255, 3) := by decide +kernel
theorem dX10_bestSeed_62 : decode cX10_bestSeed 62 = .ok (.iload_n 1, 1) := by decide +kernel
theorem dX10_bestSeed_63 : decode cX10_bestSeed 63 = .ok (.ireturn, 1) := by decide +kernel
def rm_X10_bestSeed : Room := { frames := 4, cells := 0, slots := 0, locals := 88 }
def M_X10_bestSeed_16 (k : Nat) : Nat → (Int32) → (Int32) → (Int32) → (Nat → Nat → Int32) → Option (Int32 × (Nat → Nat → Int32))
  | 0, _, _, _, _ => none
  | n + 1, x1, x2, x3, S => if (100 : Int32) ≤ x3 then ((M_X10_comeBack k S).bind fun q2 => some (x1, q2)) else ((M_X10_drawAll k S x3).bind fun q3 => (M_X10_greatestNow k q3).bind fun q4 => if x2 ≤ q4 then (lt (if q4 < x2 then q4 else x2) fun v6 => M_X10_bestSeed_16 k n x1 v6 (x3 + 1) q3) else (lt (if q4 < x2 then q4 else x2) fun v7 => M_X10_bestSeed_16 k n x3 v7 (x3 + 1) q3))
theorem M_X10_bestSeed_16_s (k : Nat) (n : Nat) (x1 : Int32) (x2 : Int32) (x3 : Int32) (S : Nat → Nat → Int32) : M_X10_bestSeed_16 k (n + 1) x1 x2 x3 S = (if (100 : Int32) ≤ x3 then ((M_X10_comeBack k S).bind fun q2 => some (x1, q2)) else ((M_X10_drawAll k S x3).bind fun q3 => (M_X10_greatestNow k q3).bind fun q4 => if x2 ≤ q4 then (lt (if q4 < x2 then q4 else x2) fun v6 => M_X10_bestSeed_16 k n x1 v6 (x3 + 1) q3) else (lt (if q4 < x2 then q4 else x2) fun v7 => M_X10_bestSeed_16 k n x3 v7 (x3 + 1) q3))) := rfl
set_option maxRecDepth 100000 in
set_option maxHeartbeats 4000000 in
theorem N_X10_bestSeed_16 (C : CX E p l s m args meth c cX10_bestSeed 5 RX10 (some .int) A) (a : Nat → Nat) (k : Nat) {post : Int32 → va_W → Prop} :
    ∀ (n : Nat) (x1 : Int32) (x2 : Int32) (x3 : Int32) (S : Nat → Nat → Int32) (q : Int32 × (Nat → Nat → Int32)), M_X10_bestSeed_16 k n x1 x2 x3 S = some q → post q.1 (wMd E a q.2) →
      WW E p l e rm_X10_bestSeed s m args below meth c A 0 0 (QI E below post args s rm_X10_bestSeed A) (wMd E a S) 5 [some (.ref (a 0)), some (.int x1), some (.int x2), some (.int x3), none] 16 [] := by
  intro n
  induction n with
  | zero => intro x1 x2 x3 S q  h _; cases h
  | succ n ih =>
    intro x1 x2 x3 S q  h hq
    rw [M_X10_bestSeed_16_s] at h
    refine r_iload_n (pc := 16) C (i := 3) dX10_bestSeed_16 rfl rfl ?_
    refine r_bipush (pc := 17) C (v := 100) dX10_bestSeed_17 (by decide) ?_
    refine r_icmp_ge (pc := 19) C (tgt := 58) dX10_bestSeed_19 rfl (fun c1 => ?_) (fun c1 => ?_)
    · rw [if_pos c1] at h
      refine r_aload_n (pc := 58) C (i := 0) dX10_bestSeed_58 rfl rfl ?_
      obtain ⟨q2, hq2, h⟩ := bnd h
      refine r_callV_CV (Cn := RX10) (pc := 59) C [] (c_X10_comeBack E l k a S hq2) [0, 1, 2, 3, 4, 5, 6, 7, 8, 9, 10, 11, 12] rfl (by decide) 0 rfl rfl rfl g_X10_255 hd_X10_comeBack ⟨Nat.le_of_ble_eq_true rfl, Nat.le_of_ble_eq_true rfl⟩ ⟨Nat.zero_le _, Nat.zero_le _⟩ (Nat.le_of_ble_eq_true rfl) rfl dX10_bestSeed_59 (fun w1 hw1 => ?_)
      subst hw1
      refine ⟨(wMd E a q2), by rfl, ?_⟩
      refine r_iload_n (pc := 62) C (i := 1) dX10_bestSeed_62 rfl rfl ?_
      cases h
      exact r_ireti (pc := 63) C hq (Nat.zero_le _) (Nat.zero_le _) dX10_bestSeed_63
    · rw [if_neg c1] at h
      refine r_aload_n (pc := 22) C (i := 0) dX10_bestSeed_22 rfl rfl ?_
      refine r_iload_n (pc := 23) C (i := 3) dX10_bestSeed_23 rfl rfl ?_
      obtain ⟨q3, hq3, h⟩ := bnd h
      refine r_callV_CV (Cn := RX10) (pc := 24) C [.int x3] (c_X10_drawAll E l k a S x3 hq3) [0, 1, 2, 3, 4, 5, 6, 7, 8, 9, 10, 11, 12] rfl (by decide) 0 rfl rfl rfl g_X10_297 hd_X10_drawAll ⟨Nat.le_of_ble_eq_true rfl, Nat.le_of_ble_eq_true rfl⟩ ⟨Nat.zero_le _, Nat.zero_le _⟩ (Nat.le_of_ble_eq_true rfl) rfl dX10_bestSeed_24 (fun w1 hw1 => ?_)
      subst hw1
      refine ⟨(wMd E a q3), by rfl, ?_⟩
      refine r_aload_n (pc := 27) C (i := 0) dX10_bestSeed_27 rfl rfl ?_
      obtain ⟨q4, hq4, h⟩ := bnd h
      refine r_callVp_CI (Cn := RX10) (pc := 28) C [] (c_X10_greatestNow E l k a q3 hq4) [0, 1, 2, 3, 4, 5, 6, 7, 8, 9, 10, 11, 12] rfl (by decide) 0 rfl rfl rfl g_X10_291 hd_X10_greatestNow ⟨Nat.le_of_ble_eq_true rfl, Nat.le_of_ble_eq_true rfl⟩ ⟨Nat.zero_le _, Nat.zero_le _⟩ (Nat.le_of_ble_eq_true rfl) rfl dX10_bestSeed_28 (fun r hr => ?_)
      have hr := hr.symm
      subst hr
      refine r_istore (pc := 31) C (i := 4) dX10_bestSeed_31 (by decide) rfl ?_
      refine r_iload (pc := 33) C (i := 4) dX10_bestSeed_33 rfl ?_
      refine r_iload_n (pc := 35) C (i := 2) dX10_bestSeed_35 rfl rfl ?_
      refine r_icmp_ge (pc := 36) C (tgt := 43) dX10_bestSeed_36 rfl (fun c5 => ?_) (fun c5 => ?_)
      · rw [if_pos c5] at h
        refine r_iload_n (pc := 43) C (i := 1) dX10_bestSeed_43 rfl rfl ?_
        refine r_istore_n (pc := 44) C (i := 1) dX10_bestSeed_44 rfl (by decide) rfl ?_
        refine r_iload_n (pc := 45) C (i := 2) dX10_bestSeed_45 rfl rfl ?_
        refine r_iload (pc := 46) C (i := 4) dX10_bestSeed_46 rfl ?_
        refine r_mmin (pc := 48) C wm_7_30 wm_2_101 wm_1_14 wm_2_102 ⟨Nat.le_of_ble_eq_true rfl, Nat.le_of_ble_eq_true rfl, Nat.zero_le _, Nat.zero_le _⟩ (Nat.le_of_ble_eq_true rfl) dX10_bestSeed_48 ?_
        obtain ⟨v6, hv6, h⟩ := lt_e h
        refine r_topi hv6 ?_
        refine r_istore_n (pc := 51) C (i := 2) dX10_bestSeed_51 rfl (by decide) rfl ?_
        refine r_iinc (pc := 52) C (v := (x3 + 1)) dX10_bestSeed_52 rfl rfl (by decide) rfl ?_
        refine r_goto (pc := 55) C (tgt := 16) dX10_bestSeed_55 rfl ?_
        refine r_weak (lSub_s (lSub_s (lSub_s (lSub_s (lSub_n lSub_e))))) ?_
        exact ih x1 v6 (x3 + 1) q3 q  h hq
      · rw [if_neg c5] at h
        refine r_iload_n (pc := 39) C (i := 3) dX10_bestSeed_39 rfl rfl ?_
        refine r_goto (pc := 40) C (tgt := 44) dX10_bestSeed_40 rfl ?_
        refine r_istore_n (pc := 44) C (i := 1) dX10_bestSeed_44 rfl (by decide) rfl ?_
        refine r_iload_n (pc := 45) C (i := 2) dX10_bestSeed_45 rfl rfl ?_
        refine r_iload (pc := 46) C (i := 4) dX10_bestSeed_46 rfl ?_
        refine r_mmin (pc := 48) C wm_7_30 wm_2_101 wm_1_14 wm_2_102 ⟨Nat.le_of_ble_eq_true rfl, Nat.le_of_ble_eq_true rfl, Nat.zero_le _, Nat.zero_le _⟩ (Nat.le_of_ble_eq_true rfl) dX10_bestSeed_48 ?_
        obtain ⟨v7, hv7, h⟩ := lt_e h
        refine r_topi hv7 ?_
        refine r_istore_n (pc := 51) C (i := 2) dX10_bestSeed_51 rfl (by decide) rfl ?_
        refine r_iinc (pc := 52) C (v := (x3 + 1)) dX10_bestSeed_52 rfl rfl (by decide) rfl ?_
        refine r_goto (pc := 55) C (tgt := 16) dX10_bestSeed_55 rfl ?_
        refine r_weak (lSub_s (lSub_s (lSub_s (lSub_s (lSub_n lSub_e))))) ?_
        exact ih x3 v7 (x3 + 1) q3 q  h hq
def M_X10_bestSeed_0 (k : Nat) (S : Nat → Nat → Int32) : Option (Int32 × (Nat → Nat → Int32)) := lt (va_up S 0 (upd (S 0) 1 (0 : Int32))) fun F8 => (M_X10_goAside k F8).bind fun q9 => M_X10_bestSeed_16 k k (0 : Int32) (12 : Int32) (0 : Int32) q9
set_option maxRecDepth 100000 in
set_option maxHeartbeats 4000000 in
theorem N_X10_bestSeed_0 (C : CX E p l s m args meth c cX10_bestSeed 5 RX10 (some .int) A) (a : Nat → Nat) (k : Nat) {post : Int32 → va_W → Prop} :
    ∀ (S : Nat → Nat → Int32) (q : Int32 × (Nat → Nat → Int32)), M_X10_bestSeed_0 k S = some q → post q.1 (wMd E a q.2) →
      WW E p l e rm_X10_bestSeed s m args below meth c A 0 0 (QI E below post args s rm_X10_bestSeed A) (wMd E a S) 5 [some (.ref (a 0)), none, none, none, none] 0 [] := by
  intro S q  h hq
  unfold M_X10_bestSeed_0 at h
  refine r_aload_n (pc := 0) C (i := 0) dX10_bestSeed_0 rfl rfl ?_
  refine r_iconst (pc := 1) C (v := 0) dX10_bestSeed_1 (by decide) ?_
  obtain ⟨F8, hF8, h⟩ := lt_e h
  refine r_put (pc := 2) C gwX10 tyX10 tyX10_ok nmX10 0 rfl rfl 6 (by decide) wm_5_209 rfl rfl rfl rfl (Nat.le_of_ble_eq_true rfl) (w' := (wMd E a F8)) (by rw [hF8]; rfl) dX10_bestSeed_2 ?_
  refine r_aload_n (pc := 5) C (i := 0) dX10_bestSeed_5 rfl rfl ?_
  obtain ⟨q9, hq9, h⟩ := bnd h
  refine r_callV_CV (Cn := RX10) (pc := 6) C [] (c_X10_goAside E l k a F8 hq9) [0, 1, 2, 3, 4, 5, 6, 7, 8, 9, 10, 11, 12] rfl (by decide) 0 rfl rfl rfl g_X10_239 hd_X10_goAside ⟨Nat.le_of_ble_eq_true rfl, Nat.le_of_ble_eq_true rfl⟩ ⟨Nat.zero_le _, Nat.zero_le _⟩ (Nat.le_of_ble_eq_true rfl) rfl dX10_bestSeed_6 (fun w1 hw1 => ?_)
  subst hw1
  refine ⟨(wMd E a q9), by rfl, ?_⟩
  refine r_iconst (pc := 9) C (v := 0) dX10_bestSeed_9 (by decide) ?_
  refine r_istore_n (pc := 10) C (i := 1) dX10_bestSeed_10 rfl (by decide) rfl ?_
  refine r_bipush (pc := 11) C (v := 12) dX10_bestSeed_11 (by decide) ?_
  refine r_istore_n (pc := 13) C (i := 2) dX10_bestSeed_13 rfl (by decide) rfl ?_
  refine r_iconst (pc := 14) C (v := 0) dX10_bestSeed_14 (by decide) ?_
  refine r_istore_n (pc := 15) C (i := 3) dX10_bestSeed_15 rfl (by decide) rfl ?_
  refine r_weak (lSub_s (lSub_s (lSub_s (lSub_s (lSub_n lSub_e))))) ?_
  exact N_X10_bestSeed_16 C a k k (0 : Int32) (12 : Int32) (0 : Int32) q9 q  h hq
def M_X10_bestSeed (k : Nat) (S : Nat → Nat → Int32) : Option (Int32 × (Nat → Nat → Int32)) := M_X10_bestSeed_0 k S
set_option maxRecDepth 100000 in
set_option maxHeartbeats 4000000 in
theorem c_X10_bestSeed (E : ENV) (l : Launch) (k : Nat) (a : Nat → Nat) (S : Nat → Nat → Int32) {q : Int32 × (Nat → Nat → Int32)} (hm : M_X10_bestSeed k S = some q) : CI E l yX10_bestSeed cX10_bestSeed 5 (some .int) rm_X10_bestSeed [.ref (a 0)] (wMd E a S) (fun r w' => r = q.1 ∧ w' = (wMd E a q.2)) :=
  CI.of 4 (by decide) (Nat.le_of_ble_eq_true rfl) (fun p e s m below meth c A C _ => r_weak (lSub_s (lSub_n (lSub_n (lSub_n (lSub_n lSub_e))))) (N_X10_bestSeed_0 C a k S q  hm ⟨rfl, rfl⟩))
end WALKS
