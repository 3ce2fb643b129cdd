section WALKS
variable {E : ENV} {p : Program} {l : Launch} {e : Env} {s : State} {m : MethodId} {args : Array Value} {below : List Frame} {meth : Method} {c : Code} {A : Nat → Prop}
theorem hd_X10_ofKill : yX10_ofKill.cls = RX10 ∧ yX10_ofKill.cls ≠ "java/lang/invoke/MethodHandle" ∧ yX10_ofKill.cls ≠ "java/lang/invoke/VarHandle" ∧ (parseMethodDescriptor yX10_ofKill.desc).map (fun d => d.parameters.length) = some 2 := by decide +kernel
theorem g_X10_165 : GoodIn GW (wsV RX10 165 RX10 yX10_ofKill (wsG yX10_ofKill cX10_ofKill 3 (some .int))) := gw_V wm_6_151 wm_6_153 wm_0_40 wm_1_9 wm_6_154
-- ShardGuardModel.counted(I)I
theorem dX10_counted_0 : decode cX10_counted 0 = .ok (.iconst 0, 1) := by decide +kernel
theorem dX10_counted_1 : decode cX10_counted 1 = .ok (.istore_n 2, 1) := by decide +kernel
theorem dX10_counted_2 : decode cX10_counted 2 = .ok (.aload_n 0, 1) := by decide +kernel
theorem dX10_counted_3 : decode cX10_counted 3 = .ok (.iload_n 1, 1) := by decide +kernel
theorem dX10_counted_4 : decode cX10_counted 4 = .ok (.iconst 2, 1) := by decide +kernel
theorem dX10_counted_5 : decode cX10_counted 5 = .ok (.invokevirtual 120, 3) := by decide +kernel
theorem dX10_counted_8 : decode cX10_counted 8 = .ok (.istore_n 3, 1) := by decide +kernel
theorem dX10_counted_9 : decode cX10_counted 9 = .ok (.iload_n 3, 1) := by decide +kernel
theorem dX10_counted_10 : decode cX10_counted 10 = .ok (.aload_n 0, 1) := by decide +kernel
theorem dX10_counted_11 : decode cX10_counted 11 = .ok (.getfield 25, 3) := by decide +kernel
theorem dX10_counted_14 : decode cX10_counted 14 = .ok (.bipush 11, 2) := by decide +kernel
theorem dX10_counted_16 : decode cX10_counted 16 = .ok (.iaload, 1) := by decide +kernel
theorem dX10_counted_17 : decode cX10_counted 17 = .ok (.if_icmp .ge 60, 3) := by decide +kernel
theorem dX10_counted_20 : decode cX10_counted 20 = .ok (.aload_n 0, 1) := by decide +kernel
theorem dX10_counted_21 : decode cX10_counted 21 = .ok (.iload_n 3, 1) := by decide +kernel
theorem dX10_counted_22 : decode cX10_counted 22 = .ok (.iconst 0, 1) := by decide +kernel
theorem dX10_counted_23 : decode cX10_counted 23 = .ok (.invokevirtual 165, 3) := by decide +kernel
theorem dX10_counted_26 : decode cX10_counted 26 = .ok (.aload_n 0, 1) := by decide +kernel
theorem dX10_counted_27 : decode cX10_counted 27 = .ok (.getfield 25, 3) := by decide +kernel
theorem dX10_counted_30 : decode cX10_counted 30 = .ok (.iconst 4, 1) := by decide +kernel
theorem dX10_counted_31 : decode cX10_counted 31 = .ok (.iaload, 1) := by decide +kernel
theorem dX10_counted_32 : decode cX10_counted 32 = .ok (.aload_n 0, 1) := by decide +kernel
theorem dX10_counted_33 : decode cX10_counted 33 = .ok (.iconst 3, 1) := by decide +kernel
theorem dX10_counted_34 : decode cX10_counted 34 = .ok (.invokevirtual 162, 3) := by decide +kernel
theorem dX10_counted_37 : decode cX10_counted 37 = .ok (.isub, 1) := by decide +kernel
theorem dX10_counted_38 : decode cX10_counted 38 = .ok (.if_icmp .le 7, 3) := by decide +kernel
theorem dX10_counted_41 : decode cX10_counted 41 = .ok (.iconst 1, 1) := by decide +kernel
theorem dX10_counted_42 : decode cX10_counted 42 = .ok (.goto 4, 3) := by decide +kernel
theorem dX10_counted_45 : decode cX10_counted 45 = .ok (.iconst 0, 1) := by decide +kernel
theorem dX10_counted_46 : decode cX10_counted 46 = .ok (.istore 4, 2) := by decide +kernel
theorem dX10_counted_48 : decode cX10_counted 48 = .ok (.iload_n 2, 1) := by decide +kernel
theorem dX10_counted_49 : decode cX10_counted 49 = .ok (.iload 4, 2) := by decide +kernel
theorem dX10_counted_51 : decode cX10_counted 51 = .ok (.ifCond .eq 17, 3) := by decide +kernel
theorem dX10_counted_54 : decode cX10_counted 54 = .ok (.aload_n 0, 1) := by decide +kernel
theorem dX10_counted_55 : decode cX10_counted 55 = .ok (.iload_n 3, 1) := by decide +kernel
theorem dX10_counted_56 : decode cX10_counted 56 = .ok (.iconst 1, 1) := by decide +kernel
theorem dX10_counted_57 : decode cX10_counted 57 = .ok (.invokevirtual 165, 3) := by decide +kernel
theorem dX10_counted_60 : decode cX10_counted 60 = .ok (.iload_n 1, 1) := by decide +kernel
theorem dX10_counted_61 : decode cX10_counted 61 = .ok (.if_icmp .ne 7, 3) := by decide +kernel
theorem dX10_counted_64 : decode cX10_counted 64 = .ok (.iconst 1, 1) := by decide +kernel
theorem dX10_counted_65 : decode cX10_counted 65 = .ok (.goto 4, 3) := by decide +kernel
theorem dX10_counted_68 : decode cX10_counted 68 = .ok (.iconst 0, 1) := by decide +kernel
theorem dX10_counted_69 : decode cX10_counted 69 = .ok (.iadd, 1) := by decide +kernel
theorem dX10_counted_70 : decode cX10_counted 70 = .ok (.istore_n 2, 1) := by decide +kernel
theorem dX10_counted_71 : decode cX10_counted 71 = .ok (.iinc 3 1, 3) := by decide +kernel
theorem dX10_counted_74 : decode cX10_counted 74 = .ok (.goto (-65), 3) := by decide +kernel
theorem dX10_counted_77 : decode cX10_counted 77 = .ok (.iload_n 2, 1) := by decide +kernel
theorem dX10_counted_78 : decode cX10_counted 78 = .ok (.ireturn, 1) := by decide +kernel
def rm_X10_counted : Room := { frames := 2, cells := 0, slots := 0, locals := 43 }
def M_X10_counted_46 (k : Nat) (S : Nat → Nat → Int32) (κ9 : Int32 → Int32 → Int32 → Option (Int32)) (x1 : Int32) (x2 : Int32) (x3 : Int32) (y0 : Int32) : Option (Int32) := if y0 = 0 then (lt (x2 + (0 : Int32)) fun v2 => κ9 x1 v2 (x3 + 1)) else ((M_X10_ofKill k S x3 (1 : Int32)).bind fun q3 => if q3 = x1 then (lt (x2 + (1 : Int32)) fun v6 => κ9 x1 v6 (x3 + 1)) else (lt (x2 + (0 : Int32)) fun v5 => κ9 x1 v5 (x3 + 1)))
set_option maxRecDepth 100000 in
set_option maxHeartbeats 4000000 in
theorem N_X10_counted_46 (C : CX E p l s m args meth c cX10_counted 5 RX10 (some .int) A) (a : Nat → Nat) (k : Nat) (S : Nat → Nat → Int32) {post : Int32 → va_W → Prop} (κ9 : Int32 → Int32 → Int32 → Option (Int32)) (hκ9 : ∀ (x1 : Int32) (x2 : Int32) (x3 : Int32) (q : Int32), κ9 x1 x2 x3 = some q → post q (wMd E a S) → WW E p l e rm_X10_counted s m args below meth c A 0 0 (QI E below post args s rm_X10_counted A) (wMd E a S) 5 [some (.ref (a 0)), some (.int x1), some (.int x2), some (.int x3), none] 9 []) :
    ∀ (x1 : Int32) (x2 : Int32) (x3 : Int32) (y0 : Int32) (q : Int32), M_X10_counted_46 k S κ9 x1 x2 x3 y0 = some q → post q (wMd E a S) →
      WW E p l e rm_X10_counted s m args below meth c A 0 0 (QI E below post args s rm_X10_counted A) (wMd E a S) 5 [some (.ref (a 0)), some (.int x1), some (.int x2), some (.int x3), none] 46 [.int y0] := by
  intro x1 x2 x3 y0 q  h hq
  unfold M_X10_counted_46 at h
  refine r_istore (pc := 46) C (i := 4) dX10_counted_46 (by decide) rfl ?_
  refine r_iload_n (pc := 48) C (i := 2) dX10_counted_48 rfl rfl ?_
  refine r_iload (pc := 49) C (i := 4) dX10_counted_49 rfl ?_
  refine r_if_eq (pc := 51) C (tgt := 68) dX10_counted_51 rfl (fun c1 => ?_) (fun c1 => ?_)
  · rw [if_pos c1] at h
    refine r_iconst (pc := 68) C (v := 0) dX10_counted_68 (by decide) ?_
    refine r_iadd (pc := 69) C dX10_counted_69 ?_
    obtain ⟨v2, hv2, h⟩ := lt_e h
    refine r_topi hv2 ?_
    refine r_istore_n (pc := 70) C (i := 2) dX10_counted_70 rfl (by decide) rfl ?_
    refine r_iinc (pc := 71) C (v := (x3 + 1)) dX10_counted_71 rfl rfl (by decide) rfl ?_
    refine r_goto (pc := 74) C (tgt := 9) dX10_counted_74 rfl ?_
    refine r_weak (lSub_s (lSub_s (lSub_s (lSub_s (lSub_n lSub_e))))) ?_
    exact hκ9 x1 v2 (x3 + 1) q  h hq
  · rw [if_neg c1] at h
    refine r_aload_n (pc := 54) C (i := 0) dX10_counted_54 rfl rfl ?_
    refine r_iload_n (pc := 55) C (i := 3) dX10_counted_55 rfl rfl ?_
    refine r_iconst (pc := 56) C (v := 1) dX10_counted_56 (by decide) ?_
    obtain ⟨q3, hq3, h⟩ := bnd h
    refine r_callVp_CI (Cn := RX10) (pc := 57) C [.int x3, .int (1 : Int32)] (c_X10_ofKill E l k a S x3 (1 : Int32) hq3) [0, 1, 2, 3, 4, 5, 6, 7, 8, 9, 10, 11, 12] rfl (by decide) 0 rfl rfl rfl g_X10_165 hd_X10_ofKill ⟨Nat.le_of_ble_eq_true rfl, Nat.le_of_ble_eq_true rfl⟩ ⟨Nat.zero_le _, Nat.zero_le _⟩ (Nat.le_of_ble_eq_true rfl) rfl dX10_counted_57 (fun r hr => ?_)
    have hr := hr.symm
    subst hr
    refine r_iload_n (pc := 60) C (i := 1) dX10_counted_60 rfl rfl ?_
    refine r_icmp_ne (pc := 61) C (tgt := 68) dX10_counted_61 rfl (fun c4 => ?_) (fun c4 => ?_)
    · rw [if_neg c4] at h
      refine r_iconst (pc := 68) C (v := 0) dX10_counted_68 (by decide) ?_
      refine r_iadd (pc := 69) C dX10_counted_69 ?_
      obtain ⟨v5, hv5, h⟩ := lt_e h
      refine r_topi hv5 ?_
      refine r_istore_n (pc := 70) C (i := 2) dX10_counted_70 rfl (by decide) rfl ?_
      refine r_iinc (pc := 71) C (v := (x3 + 1)) dX10_counted_71 rfl rfl (by decide) rfl ?_
      refine r_goto (pc := 74) C (tgt := 9) dX10_counted_74 rfl ?_
      refine r_weak (lSub_s (lSub_s (lSub_s (lSub_s (lSub_n lSub_e))))) ?_
      exact hκ9 x1 v5 (x3 + 1) q  h hq
    · rw [if_pos c4] at h
      refine r_iconst (pc := 64) C (v := 1) dX10_counted_64 (by decide) ?_
      refine r_goto (pc := 65) C (tgt := 69) dX10_counted_65 rfl ?_
      refine r_iadd (pc := 69) C dX10_counted_69 ?_
      obtain ⟨v6, hv6, h⟩ := lt_e h
      refine r_topi hv6 ?_
      refine r_istore_n (pc := 70) C (i := 2) dX10_counted_70 rfl (by decide) rfl ?_
      refine r_iinc (pc := 71) C (v := (x3 + 1)) dX10_counted_71 rfl rfl (by decide) rfl ?_
      refine r_goto (pc := 74) C (tgt := 9) dX10_counted_74 rfl ?_
      refine r_weak (lSub_s (lSub_s (lSub_s (lSub_s (lSub_n lSub_e))))) ?_
      exact hκ9 x1 v6 (x3 + 1) q  h hq
def M_X10_counted_9 (k : Nat) (S : Nat → Nat → Int32) : Nat → (Int32) → (Int32) → (Int32) → Option (Int32)
  | 0, _, _, _ => none
  | n + 1, x1, x2, x3 => lt (gsel S) fun g7 => (if gokN g7 = true then (if inb (11 : Int32) 1692 = true then if (S g7 (11 : Int32).toNatClampNeg) ≤ x3 then (some x2) else ((M_X10_ofKill k S x3 (0 : Int32)).bind fun q10 => lt (gsel S) fun g11 => (if gokN g11 = true then (if inb (4 : Int32) 1692 = true then (M_X10_told k S (3 : Int32)).bind fun q13 => if q10 ≤ ((S g11 (4 : Int32).toNatClampNeg) - q13) then (M_X10_counted_46 k S (M_X10_counted_9 k S n) x1 x2 x3 (0 : Int32)) else (M_X10_counted_46 k S (M_X10_counted_9 k S n) x1 x2 x3 (1 : Int32)) else none) else none)) else none) else none)
theorem M_X10_counted_9_s (k : Nat) (S : Nat → Nat → Int32) (n : Nat) (x1 : Int32) (x2 : Int32) (x3 : Int32) : M_X10_counted_9 k S (n + 1) x1 x2 x3 = (lt (gsel S) fun g7 => (if gokN g7 = true then (if inb (11 : Int32) 1692 = true then if (S g7 (11 : Int32).toNatClampNeg) ≤ x3 then (some x2) else ((M_X10_ofKill k S x3 (0 : Int32)).bind fun q10 => lt (gsel S) fun g11 => (if gokN g11 = true then (if inb (4 : Int32) 1692 = true then (M_X10_told k S (3 : Int32)).bind fun q13 => if q10 ≤ ((S g11 (4 : Int32).toNatClampNeg) - q13) then (M_X10_counted_46 k S (M_X10_counted_9 k S n) x1 x2 x3 (0 : Int32)) else (M_X10_counted_46 k S (M_X10_counted_9 k S n) x1 x2 x3 (1 : Int32)) else none) else none)) else none) else none)) := rfl
set_option maxRecDepth 100000 in
set_option maxHeartbeats 4000000 in
theorem N_X10_counted_9 (C : CX E p l s m args meth c cX10_counted 5 RX10 (some .int) A) (a : Nat → Nat) (k : Nat) (S : Nat → Nat → Int32) {post : Int32 → va_W → Prop} :
    ∀ (n : Nat) (x1 : Int32) (x2 : Int32) (x3 : Int32) (q : Int32), M_X10_counted_9 k S n x1 x2 x3 = some q → post q (wMd E a S) →
      WW E p l e rm_X10_counted s m args below meth c A 0 0 (QI E below post args s rm_X10_counted A) (wMd E a S) 5 [some (.ref (a 0)), some (.int x1), some (.int x2), some (.int x3), none] 9 [] := by
  intro n
  induction n with
  | zero => intro x1 x2 x3 q  h _; cases h
  | succ n ih =>
    intro x1 x2 x3 q  h hq
    rw [M_X10_counted_9_s] at h
    refine r_iload_n (pc := 9) C (i := 3) dX10_counted_9 rfl rfl ?_
    refine r_aload_n (pc := 10) C (i := 0) dX10_counted_10 rfl rfl ?_
    obtain ⟨g7, hg7, h⟩ := lt_e h
    obtain ⟨kg7, h⟩ := ifn h
    refine r_get (pc := 11) C gwX10 0 rfl rfl 8 (by decide) wm_5_211 rfl dX10_counted_11 ?_
    refine r_topg (a := a) hg7 ?_
    refine r_bipush (pc := 14) C (v := 11) dX10_counted_14 (by decide) ?_
    obtain ⟨hi8, h⟩ := ifn h
    refine r_iald (pc := 16) C g7 (wMd_at kg7) hi8 dX10_counted_16 ?_
    refine r_icmp_ge (pc := 17) C (tgt := 77) dX10_counted_17 rfl (fun c9 => ?_) (fun c9 => ?_)
    · rw [if_pos c9] at h
      refine r_iload_n (pc := 77) C (i := 2) dX10_counted_77 rfl rfl ?_
      cases h
      exact r_ireti (pc := 78) C hq (Nat.zero_le _) (Nat.zero_le _) dX10_counted_78
    · rw [if_neg c9] at h
      refine r_aload_n (pc := 20) C (i := 0) dX10_counted_20 rfl rfl ?_
      refine r_iload_n (pc := 21) C (i := 3) dX10_counted_21 rfl rfl ?_
      refine r_iconst (pc := 22) C (v := 0) dX10_counted_22 (by decide) ?_
      obtain ⟨q10, hq10, h⟩ := bnd h
      refine r_callVp_CI (Cn := RX10) (pc := 23) C [.int x3, .int (0 : Int32)] (c_X10_ofKill E l k a S x3 (0 : Int32) hq10) [0, 1, 2, 3, 4, 5, 6, 7, 8, 9, 10, 11, 12] rfl (by decide) 0 rfl rfl rfl g_X10_165 hd_X10_ofKill ⟨Nat.le_of_ble_eq_true rfl, Nat.le_of_ble_eq_true rfl⟩ ⟨Nat.zero_le _, Nat.zero_le _⟩ (Nat.le_of_ble_eq_true rfl) rfl dX10_counted_23 (fun r hr => ?_)
      have hr := hr.symm
      subst hr
      refine r_aload_n (pc := 26) C (i := 0) dX10_counted_26 rfl rfl ?_
      obtain ⟨g11, hg11, h⟩ := lt_e h
      obtain ⟨kg11, h⟩ := ifn h
      refine r_get (pc := 27) C gwX10 0 rfl rfl 8 (by decide) wm_5_211 rfl dX10_counted_27 ?_
      refine r_topg (a := a) hg11 ?_
      refine r_iconst (pc := 30) C (v := 4) dX10_counted_30 (by decide) ?_
      obtain ⟨hi12, h⟩ := ifn h
      refine r_iald (pc := 31) C g11 (wMd_at kg11) hi12 dX10_counted_31 ?_
      refine r_aload_n (pc := 32) C (i := 0) dX10_counted_32 rfl rfl ?_
      refine r_iconst (pc := 33) C (v := 3) dX10_counted_33 (by decide) ?_
      obtain ⟨q13, hq13, h⟩ := bnd h
      refine r_callVp_CI (Cn := RX10) (pc := 34) C [.int (3 : Int32)] (c_X10_told E l k a S (3 : Int32) hq13) [0, 1, 2, 3, 4, 5, 6, 7, 8, 9, 10, 11, 12] rfl (by decide) 0 rfl rfl rfl g_X10_162 hd_X10_told ⟨Nat.le_of_ble_eq_true rfl, Nat.le_of_ble_eq_true rfl⟩ ⟨Nat.zero_le _, Nat.zero_le _⟩ (Nat.le_of_ble_eq_true rfl) rfl dX10_counted_34 (fun r hr => ?_)
      have hr := hr.symm
      subst hr
      refine r_isub (pc := 37) C dX10_counted_37 ?_
      refine r_icmp_le (pc := 38) C (tgt := 45) dX10_counted_38 rfl (fun c14 => ?_) (fun c14 => ?_)
      · rw [if_pos c14] at h
        refine r_iconst (pc := 45) C (v := 0) dX10_counted_45 (by decide) ?_
        refine r_weak (lSub_s (lSub_s (lSub_s (lSub_s (lSub_n lSub_e))))) ?_
        exact N_X10_counted_46 C a k S (M_X10_counted_9 k S n) ih x1 x2 x3 (0 : Int32) q  h hq
      · rw [if_neg c14] at h
        refine r_iconst (pc := 41) C (v := 1) dX10_counted_41 (by decide) ?_
        refine r_goto (pc := 42) C (tgt := 46) dX10_counted_42 rfl ?_
        refine r_weak (lSub_s (lSub_s (lSub_s (lSub_s (lSub_n lSub_e))))) ?_
        exact N_X10_counted_46 C a k S (M_X10_counted_9 k S n) ih x1 x2 x3 (1 : Int32) q  h hq
def M_X10_counted_0 (k : Nat) (S : Nat → Nat → Int32) (p0 : Int32) : Option (Int32) := (M_X10_ofTenant k S p0 (2 : Int32)).bind fun q15 => M_X10_counted_9 k S k p0 (0 : Int32) q15
set_option maxRecDepth 100000 in
set_option maxHeartbeats 4000000 in
theorem N_X10_counted_0 (C : CX E p l s m args meth c cX10_counted 5 RX10 (some .int) A) (a : Nat → Nat) (k : Nat) (S : Nat → Nat → Int32) {post : Int32 → va_W → Prop} :
    ∀ (p0 : Int32) (q : Int32), M_X10_counted_0 k S p0 = some q → post q (wMd E a S) →
      WW E p l e rm_X10_counted s m args below meth c A 0 0 (QI E below post args s rm_X10_counted A) (wMd E a S) 5 [some (.ref (a 0)), some (.int p0), none, none, none] 0 [] := by
  intro p0 q  h hq
  unfold M_X10_counted_0 at h
  refine r_iconst (pc := 0) C (v := 0) dX10_counted_0 (by decide) ?_
  refine r_istore_n (pc := 1) C (i := 2) dX10_counted_1 rfl (by decide) rfl ?_
  refine r_aload_n (pc := 2) C (i := 0) dX10_counted_2 rfl rfl ?_
  refine r_iload_n (pc := 3) C (i := 1) dX10_counted_3 rfl rfl ?_
  refine r_iconst (pc := 4) C (v := 2) dX10_counted_4 (by decide) ?_
  obtain ⟨q15, hq15, h⟩ := bnd h
  refine r_callVp_CI (Cn := RX10) (pc := 5) C [.int p0, .int (2 : Int32)] (c_X10_ofTenant E l k a S p0 (2 : Int32) hq15) [0, 1, 2, 3, 4, 5, 6, 7, 8, 9, 10, 11, 12] rfl (by decide) 0 rfl rfl rfl g_X10_120 hd_X10_ofTenant ⟨Nat.le_of_ble_eq_true rfl, Nat.le_of_ble_eq_true rfl⟩ ⟨Nat.zero_le _, Nat.zero_le _⟩ (Nat.le_of_ble_eq_true rfl) rfl dX10_counted_5 (fun r hr => ?_)
  have hr := hr.symm
  subst hr
  refine r_istore_n (pc := 8) C (i := 3) dX10_counted_8 rfl (by decide) rfl ?_
  refine r_weak (lSub_s (lSub_s (lSub_s (lSub_s (lSub_n lSub_e))))) ?_
  exact N_X10_counted_9 C a k S k p0 (0 : Int32) q15 q  h hq
def M_X10_counted (k : Nat) (S : Nat → Nat → Int32) (p0 : Int32) : Option (Int32) := M_X10_counted_0 k S p0
set_option maxRecDepth 100000 in
set_option maxHeartbeats 4000000 in
theorem c_X10_counted (E : ENV) (l : Launch) (k : Nat) (a : Nat → Nat) (S : Nat → Nat → Int32) (p0 : Int32) {q : Int32} (hm : M_X10_counted k S p0 = some q) : CI E l yX10_counted cX10_counted 5 (some .int) rm_X10_counted [.ref (a 0), .int p0] (wMd E a S) (fun r w' => r = q ∧ w' = (wMd E a S)) :=
  CI.of 3 (by decide) (Nat.le_of_ble_eq_true rfl) (fun p e s m below meth c A C _ => r_weak (lSub_s (lSub_s (lSub_n (lSub_n (lSub_n lSub_e))))) (N_X10_counted_0 C a k S p0 q  hm ⟨rfl, rfl⟩))
-- ShardGuardModel.kills(II)I
theorem dX10_kills_0 : decode cX10_kills 0 = .ok (.iconst 0, 1) := by decide +kernel
theorem dX10_kills_1 : decode cX10_kills 1 = .ok (.istore_n 3, 1) := by decide +kernel
theorem dX10_kills_2 : decode cX10_kills 2 = .ok (.iconst 0, 1) := by decide +kernel
theorem dX10_kills_3 : decode cX10_kills 3 = .ok (.istore 4, 2) := by decide +kernel
theorem dX10_kills_5 : decode cX10_kills 5 = .ok (.iload 4, 2) := by decide +kernel
theorem dX10_kills_7 : decode cX10_kills 7 = .ok (.aload_n 0, 1) := by decide +kernel
theorem dX10_kills_8 : decode cX10_kills 8 = .ok (.getfield 25, 3) := by decide +kernel
theorem dX10_kills_11 : decode cX10_kills 11 = .ok (.bipush 11, 2) := by decide +kernel
theorem dX10_kills_13 : decode cX10_kills 13 = .ok (.iaload, 1) := by decide +kernel
theorem dX10_kills_14 : decode cX10_kills 14 = .ok (.if_icmp .ge 61, 3) := by decide +kernel
theorem dX10_kills_17 : decode cX10_kills 17 = .ok (.iload_n 1, 1) := by decide +kernel
theorem dX10_kills_18 : decode cX10_kills 18 = .ok (.iconst (-1), 1) := by decide +kernel
theorem dX10_kills_19 : decode cX10_kills 19 = .ok (.if_icmp .eq 14, 3) := by decide +kernel
theorem dX10_kills_22 : decode cX10_kills 22 = .ok (.aload_n 0, 1) := by decide +kernel
theorem dX10_kills_23 : decode cX10_kills 23 = .ok (.iload 4, 2) := by decide +kernel
theorem dX10_kills_25 : decode cX10_kills 25 = .ok (.iconst 1, 1) := by decide +kernel
theorem dX10_kills_26 : decode cX10_kills 26 = .ok (.invokevirtual 165, 3) := by decide +kernel
theorem dX10_kills_29 : decode cX10_kills 29 = .ok (.iload_n 1, 1) := by decide +kernel
theorem dX10_kills_30 : decode cX10_kills 30 = .ok (.if_icmp .ne 7, 3) := by decide +kernel
theorem dX10_kills_33 : decode cX10_kills 33 = .ok (.iconst 1, 1) := by decide +kernel
theorem dX10_kills_34 : decode cX10_kills 34 = .ok (.goto 4, 3) := by decide +kernel
theorem dX10_kills_37 : decode cX10_kills 37 = .ok (.iconst 0, 1) := by decide +kernel
theorem dX10_kills_38 : decode cX10_kills 38 = .ok (.istore 5, 2) := by decide +kernel
theorem dX10_kills_40 : decode cX10_kills 40 = .ok (.iload_n 3, 1) := by decide +kernel
theorem dX10_kills_41 : decode cX10_kills 41 = .ok (.iload 5, 2) := by decide +kernel
theorem dX10_kills_43 : decode cX10_kills 43 = .ok (.ifCond .eq 23, 3) := by decide +kernel
theorem dX10_kills_46 : decode cX10_kills 46 = .ok (.iload_n 2, 1) := by decide +kernel
theorem dX10_kills_47 : decode cX10_kills 47 = .ok (.iconst (-1), 1) := by decide +kernel
theorem dX10_kills_48 : decode cX10_kills 48 = .ok (.if_icmp .eq 14, 3) := by decide +kernel
theorem dX10_kills_51 : decode cX10_kills 51 = .ok (.aload_n 0, 1) := by decide +kernel
theorem dX10_kills_52 : decode cX10_kills 52 = .ok (.iload 4, 2) := by decide +kernel
theorem dX10_kills_54 : decode cX10_kills 54 = .ok (.iconst 2, 1) := by decide +kernel
theorem dX10_kills_55 : decode cX10_kills 55 = .ok (.invokevirtual 165, 3) := by decide +kernel
theorem dX10_kills_58 : decode cX10_kills 58 = .ok (.iload_n 2, 1) := by decide +kernel
theorem dX10_kills_59 : decode cX10_kills 59 = .ok (.if_icmp .ne 7, 3) := by decide +kernel
theorem dX10_kills_62 : decode cX10_kills 62 = .ok (.iconst 1, 1) := by decide +kernel
theorem dX10_kills_63 : decode cX10_kills 63 = .ok (.goto 4, 3) := by decide +kernel
theorem dX10_kills_66 : decode cX10_kills 66 = .ok (.iconst 0, 1) := by decide +kernel
theorem dX10_kills_67 : decode cX10_kills 67 = .ok (.iadd, 1) := by decide +kernel
theorem dX10_kills_68 : decode cX10_kills 68 = .ok (.istore_n 3, 1) := by decide +kernel
theorem dX10_kills_69 : decode cX10_kills 69 = .ok (.iinc 4 1, 3) := by decide +kernel
theorem dX10_kills_72 : decode cX10_kills 72 = .ok (.goto (-67), 3) := by decide +kernel
theorem dX10_kills_75 : decode cX10_kills 75 = .ok (.iload_n 3, 1) := by decide +kernel
theorem dX10_kills_76 : decode cX10_kills 76 = .ok (.ireturn, 1) := by decide +kernel
def rm_X10_kills : Room := { frames := 1, cells := 0, slots := 0, locals := 22 }
def M_X10_kills_38 (k : Nat) (S : Nat → Nat → Int32) (κ5 : Int32 → Int32 → Int32 → Int32 → Option (Int32)) (x1 : Int32) (x2 : Int32) (x3 : Int32) (x4 : Int32) (y0 : Int32) : Option (Int32) := if y0 = 0 then (lt (x3 + (0 : Int32)) fun v2 => κ5 x1 x2 v2 (x4 + 1)) else (if x2 = (-1 : Int32) then (lt (x3 + (1 : Int32)) fun v4 => κ5 x1 x2 v4 (x4 + 1)) else ((M_X10_ofKill k S x4 (2 : Int32)).bind fun q5 => if q5 = x2 then (lt (x3 + (1 : Int32)) fun v8 => κ5 x1 x2 v8 (x4 + 1)) else (lt (x3 + (0 : Int32)) fun v7 => κ5 x1 x2 v7 (x4 + 1))))
set_option maxRecDepth 100000 in
set_option maxHeartbeats 4000000 in
theorem N_X10_kills_38 (C : CX E p l s m args meth c cX10_kills 6 RX10 (some .int) A) (a : Nat → Nat) (k : Nat) (S : Nat → Nat → Int32) {post : Int32 → va_W → Prop} (κ5 : Int32 → Int32 → Int32 → Int32 → Option (Int32)) (hκ5 : ∀ (x1 : Int32) (x2 : Int32) (x3 : Int32) (x4 : Int32) (q : Int32), κ5 x1 x2 x3 x4 = some q → post q (wMd E a S) → WW E p l e rm_X10_kills s m args below meth c A 0 0 (QI E below post args s rm_X10_kills A) (wMd E a S) 6 [some (.ref (a 0)), some (.int x1), some (.int x2), some (.int x3), some (.int x4), none] 5 []) :
    ∀ (x1 : Int32) (x2 : Int32) (x3 : Int32) (x4 : Int32) (y0 : Int32) (q : Int32), M_X10_kills_38 k S κ5 x1 x2 x3 x4 y0 = some q → post q (wMd E a S) →
      WW E p l e rm_X10_kills s m args below meth c A 0 0 (QI E below post args s rm_X10_kills A) (wMd E a S) 6 [some (.ref (a 0)), some (.int x1), some (.int x2), some (.int x3), some (.int x4), none] 38 [.int y0] := by
  intro x1 x2 x3 x4 y0 q  h hq
  unfold M_X10_kills_38 at h
  refine r_istore (pc := 38) C (i := 5) dX10_kills_38 (by decide) rfl ?_
  refine r_iload_n (pc := 40) C (i := 3) dX10_kills_40 rfl rfl ?_
  refine r_iload (pc := 41) C (i := 5) dX10_kills_41 rfl ?_
  refine r_if_eq (pc := 43) C (tgt := 66) dX10_kills_43 rfl (fun c1 => ?_) (fun c1 => ?_)
  · rw [if_pos c1] at h
    refine r_iconst (pc := 66) C (v := 0) dX10_kills_66 (by decide) ?_
    refine r_iadd (pc := 67) C dX10_kills_67 ?_
    obtain ⟨v2, hv2, h⟩ := lt_e h
    refine r_topi hv2 ?_
    refine r_istore_n (pc := 68) C (i := 3) dX10_kills_68 rfl (by decide) rfl ?_
    refine r_iinc (pc := 69) C (v := (x4 + 1)) dX10_kills_69 rfl rfl (by decide) rfl ?_
    refine r_goto (pc := 72) C (tgt := 5) dX10_kills_72 rfl ?_
    refine r_weak (lSub_s (lSub_s (lSub_s (lSub_s (lSub_s (lSub_n lSub_e)))))) ?_
    exact hκ5 x1 x2 v2 (x4 + 1) q  h hq
  · rw [if_neg c1] at h
    refine r_iload_n (pc := 46) C (i := 2) dX10_kills_46 rfl rfl ?_
    refine r_iconst (pc := 47) C (v := (-1)) dX10_kills_47 (by decide) ?_
    refine r_icmp_eq (pc := 48) C (tgt := 62) dX10_kills_48 rfl (fun c3 => ?_) (fun c3 => ?_)
    · rw [if_pos c3] at h
      refine r_iconst (pc := 62) C (v := 1) dX10_kills_62 (by decide) ?_
      refine r_goto (pc := 63) C (tgt := 67) dX10_kills_63 rfl ?_
      refine r_iadd (pc := 67) C dX10_kills_67 ?_
      obtain ⟨v4, hv4, h⟩ := lt_e h
      refine r_topi hv4 ?_
      refine r_istore_n (pc := 68) C (i := 3) dX10_kills_68 rfl (by decide) rfl ?_
      refine r_iinc (pc := 69) C (v := (x4 + 1)) dX10_kills_69 rfl rfl (by decide) rfl ?_
      refine r_goto (pc := 72) C (tgt := 5) dX10_kills_72 rfl ?_
      refine r_weak (lSub_s (lSub_s (lSub_s (lSub_s (lSub_s (lSub_n lSub_e)))))) ?_
      exact hκ5 x1 x2 v4 (x4 + 1) q  h hq
    · rw [if_neg c3] at h
      refine r_aload_n (pc := 51) C (i := 0) dX10_kills_51 rfl rfl ?_
      refine r_iload (pc := 52) C (i := 4) dX10_kills_52 rfl ?_
      refine r_iconst (pc := 54) C (v := 2) dX10_kills_54 (by decide) ?_
      obtain ⟨q5, hq5, h⟩ := bnd h
      refine r_callVp_CI (Cn := RX10) (pc := 55) C [.int x4, .int (2 : Int32)] (c_X10_ofKill E l k a S x4 (2 : Int32) hq5) [0, 1, 2, 3, 4, 5, 6, 7, 8, 9, 10, 11, 12] rfl (by decide) 0 rfl rfl rfl g_X10_165 hd_X10_ofKill ⟨Nat.le_of_ble_eq_true rfl, Nat.le_of_ble_eq_true rfl⟩ ⟨Nat.zero_le _, Nat.zero_le _⟩ (Nat.le_of_ble_eq_true rfl) rfl dX10_kills_55 (fun r hr => ?_)
      have hr := hr.symm
      subst hr
      refine r_iload_n (pc := 58) C (i := 2) dX10_kills_58 rfl rfl ?_
      refine r_icmp_ne (pc := 59) C (tgt := 66) dX10_kills_59 rfl (fun c6 => ?_) (fun c6 => ?_)
      · rw [if_neg c6] at h
        refine r_iconst (pc := 66) C (v := 0) dX10_kills_66 (by decide) ?_
        refine r_iadd (pc := 67) C dX10_kills_67 ?_
        obtain ⟨v7, hv7, h⟩ := lt_e h
        refine r_topi hv7 ?_
        refine r_istore_n (pc := 68) C (i := 3) dX10_kills_68 rfl (by decide) rfl ?_
        refine r_iinc (pc := 69) C (v := (x4 + 1)) dX10_kills_69 rfl rfl (by decide) rfl ?_
        refine r_goto (pc := 72) C (tgt := 5) dX10_kills_72 rfl ?_
        refine r_weak (lSub_s (lSub_s (lSub_s (lSub_s (lSub_s (lSub_n lSub_e)))))) ?_
        exact hκ5 x1 x2 v7 (x4 + 1) q  h hq
      · rw [if_pos c6] at h
        refine r_iconst (pc := 62) C (v := 1) dX10_kills_62 (by decide) ?_
        refine r_goto (pc := 63) C (tgt := 67) dX10_kills_63 rfl ?_
        refine r_iadd (pc := 67) C dX10_kills_67 ?_
        obtain ⟨v8, hv8, h⟩ := lt_e h
        refine r_topi hv8 ?_
        refine r_istore_n (pc := 68) C (i := 3) dX10_kills_68 rfl (by decide) rfl ?_
        refine r_iinc (pc := 69) C (v := (x4 + 1)) dX10_kills_69 rfl rfl (by decide) rfl ?_
        refine r_goto (pc := 72) C (tgt := 5) dX10_kills_72 rfl ?_
        refine r_weak (lSub_s (lSub_s (lSub_s (lSub_s (lSub_s (lSub_n lSub_e)))))) ?_
        exact hκ5 x1 x2 v8 (x4 + 1) q  h hq
def M_X10_kills_5 (k : Nat) (S : Nat → Nat → Int32) : Nat → (Int32) → (Int32) → (Int32) → (Int32) → Option (Int32)
  | 0, _, _, _, _ => none
  | n + 1, x1, x2, x3, x4 => lt (gsel S) fun g9 => (if gokN g9 = true then (if inb (11 : Int32) 1692 = true then if (S g9 (11 : Int32).toNatClampNeg) ≤ x4 then (some x3) else (if x1 = (-1 : Int32) then (M_X10_kills_38 k S (M_X10_kills_5 k S n) x1 x2 x3 x4 (1 : Int32)) else ((M_X10_ofKill k S x4 (1 : Int32)).bind fun q13 => if q13 = x1 then (M_X10_kills_38 k S (M_X10_kills_5 k S n) x1 x2 x3 x4 (1 : Int32)) else (M_X10_kills_38 k S (M_X10_kills_5 k S n) x1 x2 x3 x4 (0 : Int32)))) else none) else none)
theorem M_X10_kills_5_s (k : Nat) (S : Nat → Nat → Int32) (n : Nat) (x1 : Int32) (x2 : Int32) (x3 : Int32) (x4 : Int32) : M_X10_kills_5 k S (n + 1) x1 x2 x3 x4 = (lt (gsel S) fun g9 => (if gokN g9 = true then (if inb (11 : Int32) 1692 = true then if (S g9 (11 : Int32).toNatClampNeg) ≤ x4 then (some x3) else (if x1 = (-1 : Int32) then (M_X10_kills_38 k S (M_X10_kills_5 k S n) x1 x2 x3 x4 (1 : Int32)) else ((M_X10_ofKill k S x4 (1 : Int32)).bind fun q13 => if q13 = x1 then (M_X10_kills_38 k S (M_X10_kills_5 k S n) x1 x2 x3 x4 (1 : Int32)) else (M_X10_kills_38 k S (M_X10_kills_5 k S n) x1 x2 x3 x4 (0 : Int32)))) else none) else none)) := rfl
set_option maxRecDepth 100000 in
set_option maxHeartbeats 4000000 in
theorem N_X10_kills_5 (C : CX E p l s m args meth c cX10_kills 6 RX10 (some .int) A) (a : Nat → Nat) (k : Nat) (S : Nat → Nat → Int32) {post : Int32 → va_W → Prop} :
    ∀ (n : Nat) (x1 : Int32) (x2 : Int32) (x3 : Int32) (x4 : Int32) (q : Int32), M_X10_kills_5 k S n x1 x2 x3 x4 = some q → post q (wMd E a S) →
      WW E p l e rm_X10_kills s m args below meth c A 0 0 (QI E below post args s rm_X10_kills A) (wMd E a S) 6 [some (.ref (a 0)), some (.int x1), some (.int x2), some (.int x3), some (.int x4), none] 5 [] := by
  intro n
  induction n with
  | zero => intro x1 x2 x3 x4 q  h _; cases h
  | succ n ih =>
    intro x1 x2 x3 x4 q  h hq
    rw [M_X10_kills_5_s] at h
    refine r_iload (pc := 5) C (i := 4) dX10_kills_5 rfl ?_
    refine r_aload_n (pc := 7) C (i := 0) dX10_kills_7 rfl rfl ?_
    obtain ⟨g9, hg9, h⟩ := lt_e h
    obtain ⟨kg9, h⟩ := ifn h
    refine r_get (pc := 8) C gwX10 0 rfl rfl 8 (by decide) wm_5_211 rfl dX10_kills_8 ?_
    refine r_topg (a := a) hg9 ?_
    refine r_bipush (pc := 11) C (v := 11) dX10_kills_11 (by decide) ?_
    obtain ⟨hi10, h⟩ := ifn h
    refine r_iald (pc := 13) C g9 (wMd_at kg9) hi10 dX10_kills_13 ?_
    refine r_icmp_ge (pc := 14) C (tgt := 75) dX10_kills_14 rfl (fun c11 => ?_) (fun c11 => ?_)
    · rw [if_pos c11] at h
      refine r_iload_n (pc := 75) C (i := 3) dX10_kills_75 rfl rfl ?_
      cases h
      exact r_ireti (pc := 76) C hq (Nat.zero_le _) (Nat.zero_le _) dX10_kills_76
    · rw [if_neg c11] at h
      refine r_iload_n (pc := 17) C (i := 1) dX10_kills_17 rfl rfl ?_
      refine r_iconst (pc := 18) C (v := (-1)) dX10_kills_18 (by decide) ?_
      refine r_icmp_eq (pc := 19) C (tgt := 33) dX10_kills_19 rfl (fun c12 => ?_) (fun c12 => ?_)
      · rw [if_pos c12] at h
        refine r_iconst (pc := 33) C (v := 1) dX10_kills_33 (by decide) ?_
        refine r_goto (pc := 34) C (tgt := 38) dX10_kills_34 rfl ?_
        refine r_weak (lSub_s (lSub_s (lSub_s (lSub_s (lSub_s (lSub_n lSub_e)))))) ?_
        exact N_X10_kills_38 C a k S (M_X10_kills_5 k S n) ih x1 x2 x3 x4 (1 : Int32) q  h hq
      · rw [if_neg c12] at h
        refine r_aload_n (pc := 22) C (i := 0) dX10_kills_22 rfl rfl ?_
        refine r_iload (pc := 23) C (i := 4) dX10_kills_23 rfl ?_
        refine r_iconst (pc := 25) C (v := 1) dX10_kills_25 (by decide) ?_
        obtain ⟨q13, hq13, h⟩ := bnd h
        refine r_callVp_CI (Cn := RX10) (pc := 26) C [.int x4, .int (1 : Int32)] (c_X10_ofKill E l k a S x4 (1 : Int32) hq13) [0, 1, 2, 3, 4, 5, 6, 7, 8, 9, 10, 11, 12] rfl (by decide) 0 rfl rfl rfl g_X10_165 hd_X10_ofKill ⟨Nat.le_of_ble_eq_true rfl, Nat.le_of_ble_eq_true rfl⟩ ⟨Nat.zero_le _, Nat.zero_le _⟩ (Nat.le_of_ble_eq_true rfl) rfl dX10_kills_26 (fun r hr => ?_)
        have hr := hr.symm
        subst hr
        refine r_iload_n (pc := 29) C (i := 1) dX10_kills_29 rfl rfl ?_
        refine r_icmp_ne (pc := 30) C (tgt := 37) dX10_kills_30 rfl (fun c14 => ?_) (fun c14 => ?_)
        · rw [if_neg c14] at h
          refine r_iconst (pc := 37) C (v := 0) dX10_kills_37 (by decide) ?_
          refine r_weak (lSub_s (lSub_s (lSub_s (lSub_s (lSub_s (lSub_n lSub_e)))))) ?_
          exact N_X10_kills_38 C a k S (M_X10_kills_5 k S n) ih x1 x2 x3 x4 (0 : Int32) q  h hq
        · rw [if_pos c14] at h
          refine r_iconst (pc := 33) C (v := 1) dX10_kills_33 (by decide) ?_
          refine r_goto (pc := 34) C (tgt := 38) dX10_kills_34 rfl ?_
          refine r_weak (lSub_s (lSub_s (lSub_s (lSub_s (lSub_s (lSub_n lSub_e)))))) ?_
          exact N_X10_kills_38 C a k S (M_X10_kills_5 k S n) ih x1 x2 x3 x4 (1 : Int32) q  h hq
def M_X10_kills_0 (k : Nat) (S : Nat → Nat → Int32) (p0 : Int32) (p1 : Int32) : Option (Int32) := M_X10_kills_5 k S k p0 p1 (0 : Int32) (0 : Int32)
set_option maxRecDepth 100000 in
set_option maxHeartbeats 4000000 in
theorem N_X10_kills_0 (C : CX E p l s m args meth c cX10_kills 6 RX10 (some .int) A) (a : Nat → Nat) (k : Nat) (S : Nat → Nat → Int32) {post : Int32 → va_W → Prop} :
    ∀ (p0 : Int32) (p1 : Int32) (q : Int32), M_X10_kills_0 k S p0 p1 = some q → post q (wMd E a S) →
      WW E p l e rm_X10_kills s m args below meth c A 0 0 (QI E below post args s rm_X10_kills A) (wMd E a S) 6 [some (.ref (a 0)), some (.int p0), some (.int p1), none, none, none] 0 [] := by
  intro p0 p1 q  h hq
  unfold M_X10_kills_0 at h
  refine r_iconst (pc := 0) C (v := 0) dX10_kills_0 (by decide) ?_
  refine r_istore_n (pc := 1) C (i := 3) dX10_kills_1 rfl (by decide) rfl ?_
  refine r_iconst (pc := 2) C (v := 0) dX10_kills_2 (by decide) ?_
  refine r_istore (pc := 3) C (i := 4) dX10_kills_3 (by decide) rfl ?_
  refine r_weak (lSub_s (lSub_s (lSub_s (lSub_s (lSub_s (lSub_n lSub_e)))))) ?_
  exact N_X10_kills_5 C a k S k p0 p1 (0 : Int32) (0 : Int32) q  h hq
def M_X10_kills (k : Nat) (S : Nat → Nat → Int32) (p0 : Int32) (p1 : Int32) : Option (Int32) := M_X10_kills_0 k S p0 p1
set_option maxRecDepth 100000 in
set_option maxHeartbeats 4000000 in
theorem c_X10_kills (E : ENV) (l : Launch) (k : Nat) (a : Nat → Nat) (S : Nat → Nat → Int32) (p0 : Int32) (p1 : Int32) {q : Int32} (hm : M_X10_kills k S p0 p1 = some q) : CI E l yX10_kills cX10_kills 6 (some .int) rm_X10_kills [.ref (a 0), .int p0, .int p1] (wMd E a S) (fun r w' => r = q ∧ w' = (wMd E a S)) :=
  CI.of 3 (by decide) (Nat.le_of_ble_eq_true rfl) (fun p e s m below meth c A C _ => r_weak (lSub_s (lSub_s (lSub_s (lSub_n (lSub_n (lSub_n lSub_e)))))) (N_X10_kills_0 C a k S p0 p1 q  hm ⟨rfl, rfl⟩))
-- ShardGuardModel.noteKill(II)V
theorem dX10_noteKill_0 : decode cX10_noteKill 0 = .ok (.sipush 612, 3) := by decide +kernel
theorem dX10_noteKill_3 : decode cX10_noteKill 3 = .ok (.iconst 3, 1) := by decide +kernel
theorem dX10_noteKill_4 : decode cX10_noteKill 4 = .ok (.aload_n 0, 1) := by decide +kernel
theorem dX10_noteKill_5 : decode cX10_noteKill 5 = .ok (.getfield 25, 3) := by decide +kernel
theorem dX10_noteKill_8 : decode cX10_noteKill 8 = .ok (.bipush 11, 2) := by decide +kernel
theorem dX10_noteKill_10 : decode cX10_noteKill 10 = .ok (.iaload, 1) := by decide +kernel
theorem dX10_noteKill_11 : decode cX10_noteKill 11 = .ok (.imul, 1) := by decide +kernel
theorem dX10_noteKill_12 : decode cX10_noteKill 12 = .ok (.iadd, 1) := by decide +kernel
theorem dX10_noteKill_13 : decode cX10_noteKill 13 = .ok (.istore_n 3, 1) := by decide +kernel
theorem dX10_noteKill_14 : decode cX10_noteKill 14 = .ok (.aload_n 0, 1) := by decide +kernel
theorem dX10_noteKill_15 : decode cX10_noteKill 15 = .ok (.getfield 25, 3) := by decide +kernel
theorem dX10_noteKill_18 : decode cX10_noteKill 18 = .ok (.iload_n 3, 1) := by decide +kernel
theorem dX10_noteKill_19 : decode cX10_noteKill 19 = .ok (.iconst 0, 1) := by decide +kernel
theorem dX10_noteKill_20 : decode cX10_noteKill 20 = .ok (.iadd, 1) := by decide +kernel
theorem dX10_noteKill_21 : decode cX10_noteKill 21 = .ok (.aload_n 0, 1) := by decide +kernel
theorem dX10_noteKill_22 : decode cX10_noteKill 22 = .ok (.getfield 25, 3) := by decide +kernel
theorem dX10_noteKill_25 : decode cX10_noteKill 25 = .ok (.iconst 4, 1) := by decide +kernel
theorem dX10_noteKill_26 : decode cX10_noteKill 26 = .ok (.iaload, 1) := by decide +kernel
theorem dX10_noteKill_27 : decode cX10_noteKill 27 = .ok (.iastore, 1) := by decide +kernel
theorem dX10_noteKill_28 : decode cX10_noteKill 28 = .ok (.aload_n 0, 1) := by decide +kernel
theorem dX10_noteKill_29 : decode cX10_noteKill 29 = .ok (.getfield 25, 3) := by decide +kernel
theorem dX10_noteKill_32 : decode cX10_noteKill 32 = .ok (.iload_n 3, 1) := by decide +kernel
theorem dX10_noteKill_33 : decode cX10_noteKill 33 = .ok (.iconst 1, 1) := by decide +kernel
theorem dX10_noteKill_34 : decode cX10_noteKill 34 = .ok (.iadd, 1) := by decide +kernel
theorem dX10_noteKill_35 : decode cX10_noteKill 35 = .ok (.iload_n 1, 1) := by decide +kernel
theorem dX10_noteKill_36 : decode cX10_noteKill 36 = .ok (.iastore, 1) := by decide +kernel
theorem dX10_noteKill_37 : decode cX10_noteKill 37 = .ok (.aload_n 0, 1) := by decide +kernel
theorem dX10_noteKill_38 : decode cX10_noteKill 38 = .ok (.getfield 25, 3) := by decide +kernel
theorem dX10_noteKill_41 : decode cX10_noteKill 41 = .ok (.iload_n 3, 1) := by decide +kernel
theorem dX10_noteKill_42 : decode cX10_noteKill 42 = .ok (.iconst 2, 1) := by decide +kernel
theorem dX10_noteKill_43 : decode cX10_noteKill 43 = .ok (.iadd, 1) := by decide +kernel
theorem dX10_noteKill_44 : decode cX10_noteKill 44 = .ok (.iload_n 2, 1) := by decide +kernel
theorem dX10_noteKill_45 : decode cX10_noteKill 45 = .ok (.iastore, 1) := by decide +kernel
theorem dX10_noteKill_46 : decode cX10_noteKill 46 = .ok (.aload_n 0, 1) := by decide +kernel
theorem dX10_noteKill_47 : decode cX10_noteKill 47 = .ok (.getfield 25, 3) := by decide +kernel
theorem dX10_noteKill_50 : decode cX10_noteKill 50 = .ok (.bipush 11, 2) := by decide +kernel
theorem dX10_noteKill_52 : decode cX10_noteKill 52 = .ok (.dup2, 1) := by decide +kernel
theorem dX10_noteKill_53 : decode cX10_noteKill 53 = .ok (.iaload, 1) := by decide +kernel
theorem dX10_noteKill_54 : decode cX10_noteKill 54 = .ok (.iconst 1, 1) := by decide +kernel
theorem dX10_noteKill_55 : decode cX10_noteKill 55 = .ok (.iadd, 1) := by decide +kernel
theorem dX10_noteKill_56 : decode cX10_noteKill 56 = .ok (.iastore, 1) := by decide +kernel
theorem dX10_noteKill_57 : decode cX10_noteKill 57 = .ok (.return_, 1) := by decide +kernel
def rm_X10_noteKill : Room := { frames := 0, cells := 0, slots := 0, locals := 0 }
def M_X10_noteKill_0 (k : Nat) (p0 : Int32) (p1 : Int32) (S : Nat → Nat → Int32) : Option ((Nat → Nat → Int32)) := lt (gsel S) fun g1 => (if gokN g1 = true then (if inb (11 : Int32) 1692 = true then lt ((612 : Int32) + ((3 : Int32) * (S g1 (11 : Int32).toNatClampNeg))) fun v3 => lt (gsel S) fun g4 => (if gokN g4 = true then lt (gsel S) fun g5 => (if gokN g5 = true then (if inb (4 : Int32) 1692 = true then (if inb (v3 + (0 : Int32)) 1692 = true then lt (va_up S g4 (upd (S g4) (v3 + (0 : Int32)).toNatClampNeg (S g5 (4 : Int32).toNatClampNeg))) fun F8 => lt (gsel F8) fun g9 => (if gokN g9 = true then (if inb (v3 + (1 : Int32)) 1692 = true then lt (va_up F8 g9 (upd (F8 g9) (v3 + (1 : Int32)).toNatClampNeg p0)) fun F11 => lt (gsel F11) fun g12 => (if gokN g12 = true then (if inb (v3 + (2 : Int32)) 1692 = true then lt (va_up F11 g12 (upd (F11 g12) (v3 + (2 : Int32)).toNatClampNeg p1)) fun F14 => lt (gsel F14) fun g15 => (if gokN g15 = true then (if inb (11 : Int32) 1692 = true then (if inb (11 : Int32) 1692 = true then lt (va_up F14 g15 (upd (F14 g15) (11 : Int32).toNatClampNeg ((F14 g15 (11 : Int32).toNatClampNeg) + (1 : Int32)))) fun F18 => some F18 else none) else none) else none) else none) else none) else none) else none) else none) else none) else none) else none) else none) else none)
set_option maxRecDepth 100000 in
set_option maxHeartbeats 4000000 in
theorem N_X10_noteKill_0 (C : CX E p l s m args meth c cX10_noteKill 4 RX10 none A) (a : Nat → Nat) (k : Nat) {post : va_W → Prop} :
    ∀ (p0 : Int32) (p1 : Int32) (S : Nat → Nat → Int32) (q : (Nat → Nat → Int32)), M_X10_noteKill_0 k p0 p1 S = some q → post (wMd E a q) →
      WW E p l e rm_X10_noteKill s m args below meth c A 0 0 (QV E below post args s rm_X10_noteKill A) (wMd E a S) 4 [some (.ref (a 0)), some (.int p0), some (.int p1), none] 0 [] := by
  intro p0 p1 S q  h hq
  unfold M_X10_noteKill_0 at h
  refine r_sipush (pc := 0) C (v := 612) dX10_noteKill_0 (by decide) ?_
  refine r_iconst (pc := 3) C (v := 3) dX10_noteKill_3 (by decide) ?_
  refine r_aload_n (pc := 4) C (i := 0) dX10_noteKill_4 rfl rfl ?_
  obtain ⟨g1, hg1, h⟩ := lt_e h
  obtain ⟨kg1, h⟩ := ifn h
  refine r_get (pc := 5) C gwX10 0 rfl rfl 8 (by decide) wm_5_211 rfl dX10_noteKill_5 ?_
  refine r_topg (a := a) hg1 ?_
  refine r_bipush (pc := 8) C (v := 11) dX10_noteKill_8 (by decide) ?_
  obtain ⟨hi2, h⟩ := ifn h
  refine r_iald (pc := 10) C g1 (wMd_at kg1) hi2 dX10_noteKill_10 ?_
  refine r_imul (pc := 11) C dX10_noteKill_11 ?_
  refine r_iadd (pc := 12) C dX10_noteKill_12 ?_
  obtain ⟨v3, hv3, h⟩ := lt_e h
  refine r_topi hv3 ?_
  refine r_istore_n (pc := 13) C (i := 3) dX10_noteKill_13 rfl (by decide) rfl ?_
  refine r_aload_n (pc := 14) C (i := 0) dX10_noteKill_14 rfl rfl ?_
  obtain ⟨g4, hg4, h⟩ := lt_e h
  obtain ⟨kg4, h⟩ := ifn h
  refine r_get (pc := 15) C gwX10 0 rfl rfl 8 (by decide) wm_5_211 rfl dX10_noteKill_15 ?_
  refine r_topg (a := a) hg4 ?_
  refine r_iload_n (pc := 18) C (i := 3) dX10_noteKill_18 rfl rfl ?_
  refine r_iconst (pc := 19) C (v := 0) dX10_noteKill_19 (by decide) ?_
  refine r_iadd (pc := 20) C dX10_noteKill_20 ?_
  refine r_aload_n (pc := 21) C (i := 0) dX10_noteKill_21 rfl rfl ?_
  obtain ⟨g5, hg5, h⟩ := lt_e h
  obtain ⟨kg5, h⟩ := ifn h
  refine r_get (pc := 22) C gwX10 0 rfl rfl 8 (by decide) wm_5_211 rfl dX10_noteKill_22 ?_
  refine r_topg (a := a) hg5 ?_
  refine r_iconst (pc := 25) C (v := 4) dX10_noteKill_25 (by decide) ?_
  obtain ⟨hi6, h⟩ := ifn h
  refine r_iald (pc := 26) C g5 (wMd_at kg5) hi6 dX10_noteKill_26 ?_
  obtain ⟨hi7, h⟩ := ifn h
  obtain ⟨F8, hF8, h⟩ := lt_e h
  refine r_iast (pc := 27) C g4 (wMd_at kg4) hi7 (w' := (wMd E a F8)) (by rw [hF8]; exact wMd_set kg4) dX10_noteKill_27 ?_
  refine r_aload_n (pc := 28) C (i := 0) dX10_noteKill_28 rfl rfl ?_
  obtain ⟨g9, hg9, h⟩ := lt_e h
  obtain ⟨kg9, h⟩ := ifn h
  refine r_get (pc := 29) C gwX10 0 rfl rfl 8 (by decide) wm_5_211 rfl dX10_noteKill_29 ?_
  refine r_topg (a := a) hg9 ?_
  refine r_iload_n (pc := 32) C (i := 3) dX10_noteKill_32 rfl rfl ?_
  refine r_iconst (pc := 33) C (v := 1) dX10_noteKill_33 (by decide) ?_
  refine r_iadd (pc := 34) C dX10_noteKill_34 ?_
  refine r_iload_n (pc := 35) C (i := 1) dX10_noteKill_35 rfl rfl ?_
  obtain ⟨hi10, h⟩ := ifn h
  obtain ⟨F11, hF11, h⟩ := lt_e h
  refine r_iast (pc := 36) C g9 (wMd_at kg9) hi10 (w' := (wMd E a F11)) (by rw [hF11]; exact wMd_set kg9) dX10_noteKill_36 ?_
  refine r_aload_n (pc := 37) C (i := 0) dX10_noteKill_37 rfl rfl ?_
  obtain ⟨g12, hg12, h⟩ := lt_e h
  obtain ⟨kg12, h⟩ := ifn h
  refine r_get (pc := 38) C gwX10 0 rfl rfl 8 (by decide) wm_5_211 rfl dX10_noteKill_38 ?_
  refine r_topg (a := a) hg12 ?_
  refine r_iload_n (pc := 41) C (i := 3) dX10_noteKill_41 rfl rfl ?_
  refine r_iconst (pc := 42) C (v := 2) dX10_noteKill_42 (by decide) ?_
  refine r_iadd (pc := 43) C dX10_noteKill_43 ?_
  refine r_iload_n (pc := 44) C (i := 2) dX10_noteKill_44 rfl rfl ?_
  obtain ⟨hi13, h⟩ := ifn h
  obtain ⟨F14, hF14, h⟩ := lt_e h
  refine r_iast (pc := 45) C g12 (wMd_at kg12) hi13 (w' := (wMd E a F14)) (by rw [hF14]; exact wMd_set kg12) dX10_noteKill_45 ?_
  refine r_aload_n (pc := 46) C (i := 0) dX10_noteKill_46 rfl rfl ?_
  obtain ⟨g15, hg15, h⟩ := lt_e h
  obtain ⟨kg15, h⟩ := ifn h
  refine r_get (pc := 47) C gwX10 0 rfl rfl 8 (by decide) wm_5_211 rfl dX10_noteKill_47 ?_
  refine r_topg (a := a) hg15 ?_
  refine r_bipush (pc := 50) C (v := 11) dX10_noteKill_50 (by decide) ?_
  refine r_dup2_11 (pc := 52) C dX10_noteKill_52 rfl rfl ?_
  obtain ⟨hi16, h⟩ := ifn h
  refine r_iald (pc := 53) C g15 (wMd_at kg15) hi16 dX10_noteKill_53 ?_
  refine r_iconst (pc := 54) C (v := 1) dX10_noteKill_54 (by decide) ?_
  refine r_iadd (pc := 55) C dX10_noteKill_55 ?_
  obtain ⟨hi17, h⟩ := ifn h
  obtain ⟨F18, hF18, h⟩ := lt_e h
  refine r_iast (pc := 56) C g15 (wMd_at kg15) hi17 (w' := (wMd E a F18)) (by rw [hF18]; exact wMd_set kg15) dX10_noteKill_56 ?_
  cases h
  exact r_vret (pc := 57) C hq (Nat.zero_le _) (Nat.zero_le _) dX10_noteKill_57
def M_X10_noteKill (k : Nat) (S : Nat → Nat → Int32) (p0 : Int32) (p1 : Int32) : Option ((Nat → Nat → Int32)) := M_X10_noteKill_0 k p0 p1 S
set_option maxRecDepth 100000 in
set_option maxHeartbeats 4000000 in
theorem c_X10_noteKill (E : ENV) (l : Launch) (k : Nat) (a : Nat → Nat) (S : Nat → Nat → Int32) (p0 : Int32) (p1 : Int32) {q : (Nat → Nat → Int32)} (hm : M_X10_noteKill k S p0 p1 = some q) : CV E l yX10_noteKill cX10_noteKill 4 none rm_X10_noteKill [.ref (a 0), .int p0, .int p1] (wMd E a S) (fun w' => w' = (wMd E a q)) :=
  CV.of 1 (by decide) (Nat.le_of_ble_eq_true rfl) (fun p e s m below meth c A C _ => r_weak (lSub_s (lSub_s (lSub_s (lSub_n lSub_e)))) (N_X10_noteKill_0 C a k p0 p1 S q  hm rfl))
-- ShardGuardModel.startWorkers()V
theorem dX10_startWorkers_0 : decode cX10_startWorkers 0 = .ok (.iconst 0, 1) := by decide +kernel
theorem dX10_startWorkers_1 : decode cX10_startWorkers 1 = .ok (.istore_n 1, 1) := by decide +kernel
theorem dX10_startWorkers_2 : decode cX10_startWorkers 2 = .ok (.iload_n 1, 1) := by decide +kernel
theorem dX10_startWorkers_3 : decode cX10_startWorkers 3 = .ok (.aload_n 0, 1) := by decide +kernel
theorem dX10_startWorkers_4 : decode cX10_startWorkers 4 = .ok (.invokevirtual 106, 3) := by decide +kernel
theorem dX10_startWorkers_7 : decode cX10_startWorkers 7 = .ok (.if_icmp .ge 58, 3) := by decide +kernel
theorem dX10_startWorkers_10 : decode cX10_startWorkers 10 = .ok (.aload_n 0, 1) := by decide +kernel
theorem dX10_startWorkers_11 : decode cX10_startWorkers 11 = .ok (.iload_n 1, 1) := by decide +kernel
theorem dX10_startWorkers_12 : decode cX10_startWorkers 12 = .ok (.invokevirtual 137, 3) := by decide +kernel
theorem dX10_startWorkers_15 : decode cX10_startWorkers 15 = .ok (.ifCond .ne 44, 3) := by decide +kernel
theorem dX10_startWorkers_18 : decode cX10_startWorkers 18 = .ok (.aload_n 0, 1) := by decide +kernel
theorem dX10_startWorkers_19 : decode cX10_startWorkers 19 = .ok (.getfield 25, 3) := by decide +kernel
theorem dX10_startWorkers_22 : decode cX10_startWorkers 22 = .ok (.iload_n 1, 1) := by decide +kernel
theorem dX10_startWorkers_23 : decode cX10_startWorkers 23 = .ok (.iconst 1, 1) := by decide +kernel
theorem dX10_startWorkers_24 : decode cX10_startWorkers 24 = .ok (.invokestatic 96, 3) := by decide +kernel
theorem dX10_startWorkers_27 : decode cX10_startWorkers 27 = .ok (.iaload, 1) := by decide +kernel
theorem dX10_startWorkers_28 : decode cX10_startWorkers 28 = .ok (.aload_n 0, 1) := by decide +kernel
theorem dX10_startWorkers_29 : decode cX10_startWorkers 29 = .ok (.getfield 25, 3) := by decide +kernel
theorem dX10_startWorkers_32 : decode cX10_startWorkers 32 = .ok (.iconst 4, 1) := by decide +kernel
theorem dX10_startWorkers_33 : decode cX10_startWorkers 33 = .ok (.iaload, 1) := by decide +kernel
theorem dX10_startWorkers_34 : decode cX10_startWorkers 34 = .ok (.if_icmp .gt 25, 3) := by decide +kernel
theorem dX10_startWorkers_37 : decode cX10_startWorkers 37 = .ok (.aload_n 0, 1) := by decide +kernel
theorem dX10_startWorkers_38 : decode cX10_startWorkers 38 = .ok (.getfield 25, 3) := by decide +kernel
theorem dX10_startWorkers_41 : decode cX10_startWorkers 41 = .ok (.iload_n 1, 1) := by decide +kernel
theorem dX10_startWorkers_42 : decode cX10_startWorkers 42 = .ok (.iconst 0, 1) := by decide +kernel
theorem dX10_startWorkers_43 : decode cX10_startWorkers 43 = .ok (.invokestatic 96, 3) := by decide +kernel
theorem dX10_startWorkers_46 : decode cX10_startWorkers 46 = .ok (.iconst 1, 1) := by decide +kernel
theorem dX10_startWorkers_47 : decode cX10_startWorkers 47 = .ok (.iastore, 1) := by decide +kernel
theorem dX10_startWorkers_48 : decode cX10_startWorkers 48 = .ok (.aload_n 0, 1) := by decide +kernel
theorem dX10_startWorkers_49 : decode cX10_startWorkers 49 = .ok (.getfield 25, 3) := by decide +kernel
theorem dX10_startWorkers_52 : decode cX10_startWorkers 52 = .ok (.iload_n 1, 1) := by decide +kernel
theorem dX10_startWorkers_53 : decode cX10_startWorkers 53 = .ok (.iconst 1, 1) := by decide +kernel
theorem dX10_startWorkers_54 : decode cX10_startWorkers 54 = .ok (.invokestatic 96, 3) := by decide +kernel
theorem dX10_startWorkers_57 : decode cX10_startWorkers 57 = .ok (.iconst (-1), 1) := by decide +kernel
theorem dX10_startWorkers_58 : decode cX10_startWorkers 58 = .ok (.iastore, 1) := by decide +kernel
theorem dX10_startWorkers_59 : decode cX10_startWorkers 59 = .ok (.iinc 1 1, 3) := by decide +kernel
theorem dX10_startWorkers_62 : decode cX10_startWorkers 62 = .ok (.goto (-60), 3) := by decide +kernel
theorem dX10_startWorkers_65 : decode cX10_startWorkers 65 = .ok (.return_, 1) := by decide +kernel
def rm_X10_startWorkers : Room := { frames := 2, cells := 0, slots := 0, locals := 42 }
def M_X10_startWorkers_2 (k : Nat) : Nat → (Int32) → (Nat → Nat → Int32) → Option ((Nat → Nat → Int32))
  | 0, _, _ => none
  | n + 1, x1, S => (M_X10_workers k S).bind fun q1 => if q1 ≤ x1 then (some S) else ((M_X10_isUp k S x1).bind fun q3 => if q3 = 0 then (lt (gsel S) fun g5 => (if gokN g5 = true then (M_X10_workerAt k x1 (1 : Int32)).bind fun q6 => (if inb q6 1692 = true then lt (gsel S) fun g8 => (if gokN g8 = true then (if inb (4 : Int32) 1692 = true then if (S g8 (4 : Int32).toNatClampNeg) < (S g5 q6.toNatClampNeg) then (M_X10_startWorkers_2 k n (x1 + 1) S) else (lt (gsel S) fun g11 => (if gokN g11 = true then (M_X10_workerAt k x1 (0 : Int32)).bind fun q12 => (if inb q12 1692 = true then lt (va_up S g11 (upd (S g11) q12.toNatClampNeg (1 : Int32))) fun F14 => lt (gsel F14) fun g15 => (if gokN g15 = true then (M_X10_workerAt k x1 (1 : Int32)).bind fun q16 => (if inb q16 1692 = true then lt (va_up F14 g15 (upd (F14 g15) q16.toNatClampNeg (-1 : Int32))) fun F18 => M_X10_startWorkers_2 k n (x1 + 1) F18 else none) else none) else none) else none)) else none) else none) else none) else none)) else (M_X10_startWorkers_2 k n (x1 + 1) S))
theorem M_X10_startWorkers_2_s (k : Nat) (n : Nat) (x1 : Int32) (S : Nat → Nat → Int32) : M_X10_startWorkers_2 k (n + 1) x1 S = ((M_X10_workers k S).bind fun q1 => if q1 ≤ x1 then (some S) else ((M_X10_isUp k S x1).bind fun q3 => if q3 = 0 then (lt (gsel S) fun g5 => (if gokN g5 = true then (M_X10_workerAt k x1 (1 : Int32)).bind fun q6 => (if inb q6 1692 = true then lt (gsel S) fun g8 => (if gokN g8 = true then (if inb (4 : Int32) 1692 = true then if (S g8 (4 : Int32).toNatClampNeg) < (S g5 q6.toNatClampNeg) then (M_X10_startWorkers_2 k n (x1 + 1) S) else (lt (gsel S) fun g11 => (if gokN g11 = true then (M_X10_workerAt k x1 (0 : Int32)).bind fun q12 => (if inb q12 1692 = true then lt (va_up S g11 (upd (S g11) q12.toNatClampNeg (1 : Int32))) fun F14 => lt (gsel F14) fun g15 => (if gokN g15 = true then (M_X10_workerAt k x1 (1 : Int32)).bind fun q16 => (if inb q16 1692 = true then lt (va_up F14 g15 (upd (F14 g15) q16.toNatClampNeg (-1 : Int32))) fun F18 => M_X10_startWorkers_2 k n (x1 + 1) F18 else none) else none) else none) else none)) else none) else none) else none) else none)) else (M_X10_startWorkers_2 k n (x1 + 1) S))) := rfl
set_option maxRecDepth 100000 in
set_option maxHeartbeats 4000000 in
theorem N_X10_startWorkers_2 (C : CX E p l s m args meth c cX10_startWorkers 2 RX10 none A) (a : Nat → Nat) (k : Nat) {post : va_W → Prop} :
    ∀ (n : Nat) (x1 : Int32) (S : Nat → Nat → Int32) (q : (Nat → Nat → Int32)), M_X10_startWorkers_2 k n x1 S = some q → post (wMd E a q) →
      WW E p l e rm_X10_startWorkers s m args below meth c A 0 0 (QV E below post args s rm_X10_startWorkers A) (wMd E a S) 2 [some (.ref (a 0)), some (.int x1)] 2 [] := by
  intro n
  induction n with
  | zero => intro x1 S q  h _; cases h
  | succ n ih =>
    intro x1 S q  h hq
    rw [M_X10_startWorkers_2_s] at h
    refine r_iload_n (pc := 2) C (i := 1) dX10_startWorkers_2 rfl rfl ?_
    refine r_aload_n (pc := 3) C (i := 0) dX10_startWorkers_3 rfl rfl ?_
    obtain ⟨q1, hq1, h⟩ := bnd h
    refine r_callVp_CI (Cn := RX10) (pc := 4) C [] (c_X10_workers E l k a S hq1) [0, 1, 2, 3, 4, 5, 6, 7, 8, 9, 10, 11, 12] rfl (by decide) 0 rfl rfl rfl g_X10_106 hd_X10_workers ⟨Nat.le_of_ble_eq_true rfl, Nat.le_of_ble_eq_true rfl⟩ ⟨Nat.zero_le _, Nat.zero_le _⟩ (Nat.le_of_ble_eq_true rfl) rfl dX10_startWorkers_4 (fun r hr => ?_)
    have hr := hr.symm
    subst hr
    refine r_icmp_ge (pc := 7) C (tgt := 65) dX10_startWorkers_7 rfl (fun c2 => ?_) (fun c2 => ?_)
    · rw [if_pos c2] at h
      cases h
      exact r_vret (pc := 65) C hq (Nat.zero_le _) (Nat.zero_le _) dX10_startWorkers_65
    · rw [if_neg c2] at h
      refine r_aload_n (pc := 10) C (i := 0) dX10_startWorkers_10 rfl rfl ?_
      refine r_iload_n (pc := 11) C (i := 1) dX10_startWorkers_11 rfl rfl ?_
      obtain ⟨q3, hq3, h⟩ := bnd h
      refine r_callVp_CI (Cn := RX10) (pc := 12) C [.int x1] (c_X10_isUp E l k a S x1 hq3) [0, 1, 2, 3, 4, 5, 6, 7, 8, 9, 10, 11, 12] rfl (by decide) 0 rfl rfl rfl g_X10_137 hd_X10_isUp ⟨Nat.le_of_ble_eq_true rfl, Nat.le_of_ble_eq_true rfl⟩ ⟨Nat.zero_le _, Nat.zero_le _⟩ (Nat.le_of_ble_eq_true rfl) rfl dX10_startWorkers_12 (fun r hr => ?_)
      have hr := hr.symm
      subst hr
      refine r_if_ne (pc := 15) C (tgt := 59) dX10_startWorkers_15 rfl (fun c4 => ?_) (fun c4 => ?_)
      · rw [if_neg c4] at h
        refine r_iinc (pc := 59) C (v := (x1 + 1)) dX10_startWorkers_59 rfl rfl (by decide) rfl ?_
        refine r_goto (pc := 62) C (tgt := 2) dX10_startWorkers_62 rfl ?_
        refine r_weak (lSub_s (lSub_s lSub_e)) ?_
        exact ih (x1 + 1) S q  h hq
      · rw [if_pos c4] at h
        refine r_aload_n (pc := 18) C (i := 0) dX10_startWorkers_18 rfl rfl ?_
        obtain ⟨g5, hg5, h⟩ := lt_e h
        obtain ⟨kg5, h⟩ := ifn h
        refine r_get (pc := 19) C gwX10 0 rfl rfl 8 (by decide) wm_5_211 rfl dX10_startWorkers_19 ?_
        refine r_topg (a := a) hg5 ?_
        refine r_iload_n (pc := 22) C (i := 1) dX10_startWorkers_22 rfl rfl ?_
        refine r_iconst (pc := 23) C (v := 1) dX10_startWorkers_23 (by decide) ?_
        obtain ⟨q6, hq6, h⟩ := bnd h
        refine r_callSp_CI (pc := 24) C [.int x1, .int (1 : Int32)] (c_X10_workerAt E l k x1 (1 : Int32) hq6) [] rfl (by decide) g_X10_96 hd_X10_workerAt.2 ⟨Nat.le_of_ble_eq_true rfl, Nat.le_of_ble_eq_true rfl⟩ ⟨Nat.zero_le _, Nat.zero_le _⟩ (Nat.le_of_ble_eq_true rfl) rfl dX10_startWorkers_24 (fun r hr => ?_)
        have hr := hr.symm
        subst hr
        obtain ⟨hi7, h⟩ := ifn h
        refine r_iald (pc := 27) C g5 (wMd_at kg5) hi7 dX10_startWorkers_27 ?_
        refine r_aload_n (pc := 28) C (i := 0) dX10_startWorkers_28 rfl rfl ?_
        obtain ⟨g8, hg8, h⟩ := lt_e h
        obtain ⟨kg8, h⟩ := ifn h
        refine r_get (pc := 29) C gwX10 0 rfl rfl 8 (by decide) wm_5_211 rfl dX10_startWorkers_29 ?_
        refine r_topg (a := a) hg8 ?_
        refine r_iconst (pc := 32) C (v := 4) dX10_startWorkers_32 (by decide) ?_
        obtain ⟨hi9, h⟩ := ifn h
        refine r_iald (pc := 33) C g8 (wMd_at kg8) hi9 dX10_startWorkers_33 ?_
        refine r_icmp_gt (pc := 34) C (tgt := 59) dX10_startWorkers_34 rfl (fun c10 => ?_) (fun c10 => ?_)
        · rw [if_pos c10] at h
          refine r_iinc (pc := 59) C (v := (x1 + 1)) dX10_startWorkers_59 rfl rfl (by decide) rfl ?_
          refine r_goto (pc := 62) C (tgt := 2) dX10_startWorkers_62 rfl ?_
          refine r_weak (lSub_s (lSub_s lSub_e)) ?_
          exact ih (x1 + 1) S q  h hq
        · rw [if_neg c10] at h
          refine r_aload_n (pc := 37) C (i := 0) dX10_startWorkers_37 rfl rfl ?_
          obtain ⟨g11, hg11, h⟩ := lt_e h
          obtain ⟨kg11, h⟩ := ifn h
          refine r_get (pc := 38) C gwX10 0 rfl rfl 8 (by decide) wm_5_211 rfl dX10_startWorkers_38 ?_
          refine r_topg (a := a) hg11 ?_
          refine r_iload_n (pc := 41) C (i := 1) dX10_startWorkers_41 rfl rfl ?_
          refine r_iconst (pc := 42) C (v := 0) dX10_startWorkers_42 (by decide) ?_
          obtain ⟨q12, hq12, h⟩ := bnd h
          refine r_callSp_CI (pc := 43) C [.int x1, .int (0 : Int32)] (c_X10_workerAt E l k x1 (0 : Int32) hq12) [] rfl (by decide) g_X10_96 hd_X10_workerAt.2 ⟨Nat.le_of_ble_eq_true rfl, Nat.le_of_ble_eq_true rfl⟩ ⟨Nat.zero_le _, Nat.zero_le _⟩ (Nat.le_of_ble_eq_true rfl) rfl dX10_startWorkers_43 (fun r hr => ?_)
          have hr := hr.symm
          subst hr
          refine r_iconst (pc := 46) C (v := 1) dX10_startWorkers_46 (by decide) ?_
          obtain ⟨hi13, h⟩ := ifn h
          obtain ⟨F14, hF14, h⟩ := lt_e h
          refine r_iast (pc := 47) C g11 (wMd_at kg11) hi13 (w' := (wMd E a F14)) (by rw [hF14]; exact wMd_set kg11) dX10_startWorkers_47 ?_
          refine r_aload_n (pc := 48) C (i := 0) dX10_startWorkers_48 rfl rfl ?_
          obtain ⟨g15, hg15, h⟩ := lt_e h
          obtain ⟨kg15, h⟩ := ifn h
          refine r_get (pc := 49) C gwX10 0 rfl rfl 8 (by decide) wm_5_211 rfl dX10_startWorkers_49 ?_
          refine r_topg (a := a) hg15 ?_
          refine r_iload_n (pc := 52) C (i := 1) dX10_startWorkers_52 rfl rfl ?_
          refine r_iconst (pc := 53) C (v := 1) dX10_startWorkers_53 (by decide) ?_
          obtain ⟨q16, hq16, h⟩ := bnd h
          refine r_callSp_CI (pc := 54) C [.int x1, .int (1 : Int32)] (c_X10_workerAt E l k x1 (1 : Int32) hq16) [] rfl (by decide) g_X10_96 hd_X10_workerAt.2 ⟨Nat.le_of_ble_eq_true rfl, Nat.le_of_ble_eq_true rfl⟩ ⟨Nat.zero_le _, Nat.zero_le _⟩ (Nat.le_of_ble_eq_true rfl) rfl dX10_startWorkers_54 (fun r hr => ?_)
          have hr := hr.symm
          subst hr
          refine r_iconst (pc := 57) C (v := (-1)) dX10_startWorkers_57 (by decide) ?_
          obtain ⟨hi17, h⟩ := ifn h
          obtain ⟨F18, hF18, h⟩ := lt_e h
          refine r_iast (pc := 58) C g15 (wMd_at kg15) hi17 (w' := (wMd E a F18)) (by rw [hF18]; exact wMd_set kg15) dX10_startWorkers_58 ?_
          refine r_iinc (pc := 59) C (v := (x1 + 1)) dX10_startWorkers_59 rfl rfl (by decide) rfl ?_
          refine r_goto (pc := 62) C (tgt := 2) dX10_startWorkers_62 rfl ?_
          refine r_weak (lSub_s (lSub_s lSub_e)) ?_
          exact ih (x1 + 1) F18 q  h hq
def M_X10_startWorkers_0 (k : Nat) (S : Nat → Nat → Int32) : Option ((Nat → Nat → Int32)) := M_X10_startWorkers_2 k k (0 : Int32) S
set_option maxRecDepth 100000 in
set_option maxHeartbeats 4000000 in
theorem N_X10_startWorkers_0 (C : CX E p l s m args meth c cX10_startWorkers 2 RX10 none A) (a : Nat → Nat) (k : Nat) {post : va_W → Prop} :
    ∀ (S : Nat → Nat → Int32) (q : (Nat → Nat → Int32)), M_X10_startWorkers_0 k S = some q → post (wMd E a q) →
      WW E p l e rm_X10_startWorkers s m args below meth c A 0 0 (QV E below post args s rm_X10_startWorkers A) (wMd E a S) 2 [some (.ref (a 0)), none] 0 [] := by
  intro S q  h hq
  unfold M_X10_startWorkers_0 at h
  refine r_iconst (pc := 0) C (v := 0) dX10_startWorkers_0 (by decide) ?_
  refine r_istore_n (pc := 1) C (i := 1) dX10_startWorkers_1 rfl (by decide) rfl ?_
  refine r_weak (lSub_s (lSub_s lSub_e)) ?_
  exact N_X10_startWorkers_2 C a k k (0 : Int32) S q  h hq
def M_X10_startWorkers (k : Nat) (S : Nat → Nat → Int32) : Option ((Nat → Nat → Int32)) := M_X10_startWorkers_0 k S
set_option maxRecDepth 100000 in
set_option maxHeartbeats 4000000 in
theorem c_X10_startWorkers (E : ENV) (l : Launch) (k : Nat) (a : Nat → Nat) (S : Nat → Nat → Int32) {q : (Nat → Nat → Int32)} (hm : M_X10_startWorkers k S = some q) : CV E l yX10_startWorkers cX10_startWorkers 2 none rm_X10_startWorkers [.ref (a 0)] (wMd E a S) (fun w' => w' = (wMd E a q)) :=
  CV.of 1 (by decide) (Nat.le_of_ble_eq_true rfl) (fun p e s m below meth c A C _ => r_weak (lSub_s (lSub_n lSub_e)) (N_X10_startWorkers_0 C a k S q  hm rfl))
end WALKS
