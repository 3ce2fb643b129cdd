section WALKS
variable {E : ENV} {p : Program} {l : Launch} {e : Env} {s : State} {m : MethodId} {args : Array Value} {below : List Frame} {meth : Method} {c : Code} {A : Nat → Prop}
-- ShardGuardModel.freeAt(II)I
theorem dX10_freeAt_0 : decode cX10_freeAt 0 = .ok (.iload_n 2, 1) := by decide +kernel
theorem dX10_freeAt_1 : decode cX10_freeAt 1 = .ok (.istore_n 3, 1) := by decide +kernel
theorem dX10_freeAt_2 : decode cX10_freeAt 2 = .ok (.iconst 0, 1) := by decide +kernel
theorem dX10_freeAt_3 : decode cX10_freeAt 3 = .ok (.istore 4, 2) := by decide +kernel
theorem dX10_freeAt_5 : decode cX10_freeAt 5 = .ok (.iload_n 1, 1) := by decide +kernel
theorem dX10_freeAt_6 : decode cX10_freeAt 6 = .ok (.iload 4, 2) := by decide +kernel
theorem dX10_freeAt_8 : decode cX10_freeAt 8 = .ok (.invokestatic 133, 3) := by decide +kernel
theorem dX10_freeAt_11 : decode cX10_freeAt 11 = .ok (.ifCond .ne 7, 3) := by decide +kernel
theorem dX10_freeAt_14 : decode cX10_freeAt 14 = .ok (.iload_n 3, 1) := by decide +kernel
theorem dX10_freeAt_15 : decode cX10_freeAt 15 = .ok (.ifCond .le 26, 3) := by decide +kernel
theorem dX10_freeAt_18 : decode cX10_freeAt 18 = .ok (.iload_n 3, 1) := by decide +kernel
theorem dX10_freeAt_19 : decode cX10_freeAt 19 = .ok (.iload_n 1, 1) := by decide +kernel
theorem dX10_freeAt_20 : decode cX10_freeAt 20 = .ok (.iload 4, 2) := by decide +kernel
theorem dX10_freeAt_22 : decode cX10_freeAt 22 = .ok (.invokestatic 133, 3) := by decide +kernel
theorem dX10_freeAt_25 : decode cX10_freeAt 25 = .ok (.ifCond .eq 7, 3) := by decide +kernel
theorem dX10_freeAt_28 : decode cX10_freeAt 28 = .ok (.iconst 0, 1) := by decide +kernel
theorem dX10_freeAt_29 : decode cX10_freeAt 29 = .ok (.goto 4, 3) := by decide +kernel
theorem dX10_freeAt_32 : decode cX10_freeAt 32 = .ok (.iconst 1, 1) := by decide +kernel
theorem dX10_freeAt_33 : decode cX10_freeAt 33 = .ok (.isub, 1) := by decide +kernel
theorem dX10_freeAt_34 : decode cX10_freeAt 34 = .ok (.istore_n 3, 1) := by decide +kernel
theorem dX10_freeAt_35 : decode cX10_freeAt 35 = .ok (.iinc 4 1, 3) := by decide +kernel
theorem dX10_freeAt_38 : decode cX10_freeAt 38 = .ok (.goto (-33), 3) := by decide +kernel
theorem dX10_freeAt_41 : decode cX10_freeAt 41 = .ok (.iload 4, 2) := by decide +kernel
theorem dX10_freeAt_43 : decode cX10_freeAt 43 = .ok (.ireturn, 1) := by decide +kernel
def rm_X10_freeAt : Room := { frames := 1, cells := 0, slots := 0, locals := 21 }
def M_X10_freeAt_18 (k : Nat) (S : Nat → Nat → Int32) (κ5 : Int32 → Int32 → Int32 → Option (Int32)) (x1 : Int32) (x3 : Int32) (x4 : Int32) : Option (Int32) := (M_X10_has k x1 x4).bind fun q1 => if q1 = 0 then (lt (x3 - (1 : Int32)) fun v3 => κ5 x1 v3 (x4 + 1)) else (lt (x3 - (0 : Int32)) fun v4 => κ5 x1 v4 (x4 + 1))
set_option maxRecDepth 100000 in
set_option maxHeartbeats 4000000 in
theorem N_X10_freeAt_18 (C : CX E p l s m args meth c cX10_freeAt 5 RX10 (some .int) A) (a : Nat → Nat) (k : Nat) (S : Nat → Nat → Int32) {post : Int32 → va_W → Prop} (κ5 : Int32 → Int32 → Int32 → Option (Int32)) (hκ5 : ∀ (x1 : Int32) (x3 : Int32) (x4 : Int32) (q : Int32), κ5 x1 x3 x4 = some q → post q (wMd E a S) → WW E p l e rm_X10_freeAt s m args below meth c A 0 0 (QI E below post args s rm_X10_freeAt A) (wMd E a S) 5 [none, some (.int x1), none, some (.int x3), some (.int x4)] 5 []) :
    ∀ (x1 : Int32) (x3 : Int32) (x4 : Int32) (q : Int32), M_X10_freeAt_18 k S κ5 x1 x3 x4 = some q → post q (wMd E a S) →
      WW E p l e rm_X10_freeAt s m args below meth c A 0 0 (QI E below post args s rm_X10_freeAt A) (wMd E a S) 5 [none, some (.int x1), none, some (.int x3), some (.int x4)] 18 [] := by
  intro x1 x3 x4 q  h hq
  unfold M_X10_freeAt_18 at h
  refine r_iload_n (pc := 18) C (i := 3) dX10_freeAt_18 rfl rfl ?_
  refine r_iload_n (pc := 19) C (i := 1) dX10_freeAt_19 rfl rfl ?_
  refine r_iload (pc := 20) C (i := 4) dX10_freeAt_20 rfl ?_
  obtain ⟨q1, hq1, h⟩ := bnd h
  refine r_callSp_CI (pc := 22) C [.int x1, .int x4] (c_X10_has E l k x1 x4 hq1) [] rfl (by decide) g_X10_133 hd_X10_has.2 ⟨Nat.le_of_ble_eq_true rfl, Nat.le_of_ble_eq_true rfl⟩ ⟨Nat.zero_le _, Nat.zero_le _⟩ (Nat.le_of_ble_eq_true rfl) rfl dX10_freeAt_22 (fun r hr => ?_)
  have hr := hr.symm
  subst hr
  refine r_if_eq (pc := 25) C (tgt := 32) dX10_freeAt_25 rfl (fun c2 => ?_) (fun c2 => ?_)
  · rw [if_pos c2] at h
    refine r_iconst (pc := 32) C (v := 1) dX10_freeAt_32 (by decide) ?_
    refine r_isub (pc := 33) C dX10_freeAt_33 ?_
    obtain ⟨v3, hv3, h⟩ := lt_e h
    refine r_topi hv3 ?_
    refine r_istore_n (pc := 34) C (i := 3) dX10_freeAt_34 rfl (by decide) rfl ?_
    refine r_iinc (pc := 35) C (v := (x4 + 1)) dX10_freeAt_35 rfl rfl (by decide) rfl ?_
    refine r_goto (pc := 38) C (tgt := 5) dX10_freeAt_38 rfl ?_
    refine r_weak (lSub_n (lSub_s (lSub_n (lSub_s (lSub_s lSub_e))))) ?_
    exact hκ5 x1 v3 (x4 + 1) q  h hq
  · rw [if_neg c2] at h
    refine r_iconst (pc := 28) C (v := 0) dX10_freeAt_28 (by decide) ?_
    refine r_goto (pc := 29) C (tgt := 33) dX10_freeAt_29 rfl ?_
    refine r_isub (pc := 33) C dX10_freeAt_33 ?_
    obtain ⟨v4, hv4, h⟩ := lt_e h
    refine r_topi hv4 ?_
    refine r_istore_n (pc := 34) C (i := 3) dX10_freeAt_34 rfl (by decide) rfl ?_
    refine r_iinc (pc := 35) C (v := (x4 + 1)) dX10_freeAt_35 rfl rfl (by decide) rfl ?_
    refine r_goto (pc := 38) C (tgt := 5) dX10_freeAt_38 rfl ?_
    refine r_weak (lSub_n (lSub_s (lSub_n (lSub_s (lSub_s lSub_e))))) ?_
    exact hκ5 x1 v4 (x4 + 1) q  h hq
def M_X10_freeAt_5 (k : Nat) (S : Nat → Nat → Int32) : Nat → (Int32) → (Int32) → (Int32) → Option (Int32)
  | 0, _, _, _ => none
  | n + 1, x1, x3, x4 => (M_X10_has k x1 x4).bind fun q5 => if q5 = 0 then (if x3 ≤ 0 then (some x4) else (M_X10_freeAt_18 k S (M_X10_freeAt_5 k S n) x1 x3 x4)) else (M_X10_freeAt_18 k S (M_X10_freeAt_5 k S n) x1 x3 x4)
theorem M_X10_freeAt_5_s (k : Nat) (S : Nat → Nat → Int32) (n : Nat) (x1 : Int32) (x3 : Int32) (x4 : Int32) : M_X10_freeAt_5 k S (n + 1) x1 x3 x4 = ((M_X10_has k x1 x4).bind fun q5 => if q5 = 0 then (if x3 ≤ 0 then (some x4) else (M_X10_freeAt_18 k S (M_X10_freeAt_5 k S n) x1 x3 x4)) else (M_X10_freeAt_18 k S (M_X10_freeAt_5 k S n) x1 x3 x4)) := rfl
set_option maxRecDepth 100000 in
set_option maxHeartbeats 4000000 in
theorem N_X10_freeAt_5 (C : CX E p l s m args meth c cX10_freeAt 5 RX10 (some .int) A) (a : Nat → Nat) (k : Nat) (S : Nat → Nat → Int32) {post : Int32 → va_W → Prop} :
    ∀ (n : Nat) (x1 : Int32) (x3 : Int32) (x4 : Int32) (q : Int32), M_X10_freeAt_5 k S n x1 x3 x4 = some q → post q (wMd E a S) →
      WW E p l e rm_X10_freeAt s m args below meth c A 0 0 (QI E below post args s rm_X10_freeAt A) (wMd E a S) 5 [none, some (.int x1), none, some (.int x3), some (.int x4)] 5 [] := by
  intro n
  induction n with
  | zero => intro x1 x3 x4 q  h _; cases h
  | succ n ih =>
    intro x1 x3 x4 q  h hq
    rw [M_X10_freeAt_5_s] at h
    refine r_iload_n (pc := 5) C (i := 1) dX10_freeAt_5 rfl rfl ?_
    refine r_iload (pc := 6) C (i := 4) dX10_freeAt_6 rfl ?_
    obtain ⟨q5, hq5, h⟩ := bnd h
    refine r_callSp_CI (pc := 8) C [.int x1, .int x4] (c_X10_has E l k x1 x4 hq5) [] rfl (by decide) g_X10_133 hd_X10_has.2 ⟨Nat.le_of_ble_eq_true rfl, Nat.le_of_ble_eq_true rfl⟩ ⟨Nat.zero_le _, Nat.zero_le _⟩ (Nat.le_of_ble_eq_true rfl) rfl dX10_freeAt_8 (fun r hr => ?_)
    have hr := hr.symm
    subst hr
    refine r_if_ne (pc := 11) C (tgt := 18) dX10_freeAt_11 rfl (fun c6 => ?_) (fun c6 => ?_)
    · rw [if_neg c6] at h
      refine r_weak (lSub_n (lSub_s (lSub_n (lSub_s (lSub_s lSub_e))))) ?_
      exact N_X10_freeAt_18 C a k S (M_X10_freeAt_5 k S n) ih x1 x3 x4 q  h hq
    · rw [if_pos c6] at h
      refine r_iload_n (pc := 14) C (i := 3) dX10_freeAt_14 rfl rfl ?_
      refine r_if_le (pc := 15) C (tgt := 41) dX10_freeAt_15 rfl (fun c7 => ?_) (fun c7 => ?_)
      · rw [if_pos c7] at h
        refine r_iload (pc := 41) C (i := 4) dX10_freeAt_41 rfl ?_
        cases h
        exact r_ireti (pc := 43) C hq (Nat.zero_le _) (Nat.zero_le _) dX10_freeAt_43
      · rw [if_neg c7] at h
        refine r_weak (lSub_n (lSub_s (lSub_n (lSub_s (lSub_s lSub_e))))) ?_
        exact N_X10_freeAt_18 C a k S (M_X10_freeAt_5 k S n) ih x1 x3 x4 q  h hq
def M_X10_freeAt_0 (k : Nat) (S : Nat → Nat → Int32) (p0 : Int32) (p1 : Int32) : Option (Int32) := M_X10_freeAt_5 k S k p0 p1 (0 : Int32)
set_option maxRecDepth 100000 in
set_option maxHeartbeats 4000000 in
theorem N_X10_freeAt_0 (C : CX E p l s m args meth c cX10_freeAt 5 RX10 (some .int) A) (a : Nat → Nat) (k : Nat) (S : Nat → Nat → Int32) {post : Int32 → va_W → Prop} :
    ∀ (p0 : Int32) (p1 : Int32) (q : Int32), M_X10_freeAt_0 k S p0 p1 = some q → post q (wMd E a S) →
      WW E p l e rm_X10_freeAt s m args below meth c A 0 0 (QI E below post args s rm_X10_freeAt A) (wMd E a S) 5 [none, some (.int p0), some (.int p1), none, none] 0 [] := by
  intro p0 p1 q  h hq
  unfold M_X10_freeAt_0 at h
  refine r_iload_n (pc := 0) C (i := 2) dX10_freeAt_0 rfl rfl ?_
  refine r_istore_n (pc := 1) C (i := 3) dX10_freeAt_1 rfl (by decide) rfl ?_
  refine r_iconst (pc := 2) C (v := 0) dX10_freeAt_2 (by decide) ?_
  refine r_istore (pc := 3) C (i := 4) dX10_freeAt_3 (by decide) rfl ?_
  refine r_weak (lSub_n (lSub_s (lSub_n (lSub_s (lSub_s lSub_e))))) ?_
  exact N_X10_freeAt_5 C a k S k p0 p1 (0 : Int32) q  h hq
def M_X10_freeAt (k : Nat) (S : Nat → Nat → Int32) (p0 : Int32) (p1 : Int32) : Option (Int32) := M_X10_freeAt_0 k S p0 p1
set_option maxRecDepth 100000 in
set_option maxHeartbeats 4000000 in
theorem c_X10_freeAt (E : ENV) (l : Launch) (k : Nat) (a : Nat → Nat) (S : Nat → Nat → Int32) (p0 : Int32) (p1 : Int32) {q : Int32} (hm : M_X10_freeAt k S p0 p1 = some q) : CI E l yX10_freeAt cX10_freeAt 5 (some .int) rm_X10_freeAt [.ref (a 0), .int p0, .int p1] (wMd E a S) (fun r w' => r = q ∧ w' = (wMd E a S)) :=
  CI.of 2 (by decide) (Nat.le_of_ble_eq_true rfl) (fun p e s m below meth c A C _ => r_weak (lSub_n (lSub_s (lSub_s (lSub_n (lSub_n lSub_e))))) (N_X10_freeAt_0 C a k S p0 p1 q  hm ⟨rfl, rfl⟩))
theorem hd_X10_freeAt : yX10_freeAt.cls = RX10 ∧ yX10_freeAt.cls ≠ "java/lang/invoke/MethodHandle" ∧ yX10_freeAt.cls ≠ "java/lang/invoke/VarHandle" ∧ (parseMethodDescriptor yX10_freeAt.desc).map (fun d => d.parameters.length) = some 2 := by decide +kernel
theorem g_X10_232 : GoodIn GW (wsV RX10 232 RX10 yX10_freeAt (wsG yX10_freeAt cX10_freeAt 5 (some .int))) := gw_V wm_7_18 wm_7_20 wm_0_53 wm_1_9 wm_7_21
-- ShardGuardModel.drawAll(I)V
theorem dX10_drawAll_0 : decode cX10_drawAll 0 = .ok (.iload_n 1, 1) := by decide +kernel
theorem dX10_drawAll_1 : decode cX10_drawAll 1 = .ok (.i2l, 1) := by decide +kernel
theorem dX10_drawAll_2 : decode cX10_drawAll 2 = .ok (.lstore_n 2, 1) := by decide +kernel
theorem dX10_drawAll_3 : decode cX10_drawAll 3 = .ok (.iconst 0, 1) := by decide +kernel
theorem dX10_drawAll_4 : decode cX10_drawAll 4 = .ok (.istore 4, 2) := by decide +kernel
theorem dX10_drawAll_6 : decode cX10_drawAll 6 = .ok (.iload 4, 2) := by decide +kernel
theorem dX10_drawAll_8 : decode cX10_drawAll 8 = .ok (.aload_n 0, 1) := by decide +kernel
theorem dX10_drawAll_9 : decode cX10_drawAll 9 = .ok (.invokevirtual 114, 3) := by decide +kernel
theorem dX10_drawAll_12 : decode cX10_drawAll 12 = .ok (.if_icmp .ge 87, 3) := by decide +kernel
theorem dX10_drawAll_15 : decode cX10_drawAll 15 = .ok (.iconst 0, 1) := by decide +kernel
theorem dX10_drawAll_16 : decode cX10_drawAll 16 = .ok (.istore 5, 2) := by decide +kernel
theorem dX10_drawAll_18 : decode cX10_drawAll 18 = .ok (.iconst 0, 1) := by decide +kernel
theorem dX10_drawAll_19 : decode cX10_drawAll 19 = .ok (.istore 6, 2) := by decide +kernel
theorem dX10_drawAll_21 : decode cX10_drawAll 21 = .ok (.iload 6, 2) := by decide +kernel
theorem dX10_drawAll_23 : decode cX10_drawAll 23 = .ok (.aload_n 0, 1) := by decide +kernel
theorem dX10_drawAll_24 : decode cX10_drawAll 24 = .ok (.getfield 25, 3) := by decide +kernel
theorem dX10_drawAll_27 : decode cX10_drawAll 27 = .ok (.iconst 1, 1) := by decide +kernel
theorem dX10_drawAll_28 : decode cX10_drawAll 28 = .ok (.iaload, 1) := by decide +kernel
theorem dX10_drawAll_29 : decode cX10_drawAll 29 = .ok (.if_icmp .ge 51, 3) := by decide +kernel
theorem dX10_drawAll_32 : decode cX10_drawAll 32 = .ok (.lload_n 2, 1) := by decide +kernel
theorem dX10_drawAll_33 : decode cX10_drawAll 33 = .ok (.ldc2_w 224, 3) := by decide +kernel
theorem dX10_drawAll_36 : decode cX10_drawAll 36 = .ok (.lmul, 1) := by decide +kernel
theorem dX10_drawAll_37 : decode cX10_drawAll 37 = .ok (.ldc2_w 226, 3) := by decide +kernel
theorem dX10_drawAll_40 : decode cX10_drawAll 40 = .ok (.ladd, 1) := by decide +kernel
theorem dX10_drawAll_41 : decode cX10_drawAll 41 = .ok (.ldc2_w 228, 3) := by decide +kernel
theorem dX10_drawAll_44 : decode cX10_drawAll 44 = .ok (.lrem, 1) := by decide +kernel
theorem dX10_drawAll_45 : decode cX10_drawAll 45 = .ok (.lstore_n 2, 1) := by decide +kernel
theorem dX10_drawAll_46 : decode cX10_drawAll 46 = .ok (.iload 5, 2) := by decide +kernel
theorem dX10_drawAll_48 : decode cX10_drawAll 48 = .ok (.iconst 1, 1) := by decide +kernel
theorem dX10_drawAll_49 : decode cX10_drawAll 49 = .ok (.aload_n 0, 1) := by decide +kernel
theorem dX10_drawAll_50 : decode cX10_drawAll 50 = .ok (.iload 5, 2) := by decide +kernel
theorem dX10_drawAll_52 : decode cX10_drawAll 52 = .ok (.lload_n 2, 1) := by decide +kernel
theorem dX10_drawAll_53 : decode cX10_drawAll 53 = .ok (.ldc2_w 230, 3) := by decide +kernel
theorem dX10_drawAll_56 : decode cX10_drawAll 56 = .ok (.ldiv, 1) := by decide +kernel
theorem dX10_drawAll_57 : decode cX10_drawAll 57 = .ok (.aload_n 0, 1) := by decide +kernel
theorem dX10_drawAll_58 : decode cX10_drawAll 58 = .ok (.invokevirtual 106, 3) := by decide +kernel
theorem dX10_drawAll_61 : decode cX10_drawAll 61 = .ok (.iload 6, 2) := by decide +kernel
theorem dX10_drawAll_63 : decode cX10_drawAll 63 = .ok (.isub, 1) := by decide +kernel
theorem dX10_drawAll_64 : decode cX10_drawAll 64 = .ok (.i2l, 1) := by decide +kernel
theorem dX10_drawAll_65 : decode cX10_drawAll 65 = .ok (.lrem, 1) := by decide +kernel
theorem dX10_drawAll_66 : decode cX10_drawAll 66 = .ok (.l2i, 1) := by decide +kernel
theorem dX10_drawAll_67 : decode cX10_drawAll 67 = .ok (.invokevirtual 232, 3) := by decide +kernel
theorem dX10_drawAll_70 : decode cX10_drawAll 70 = .ok (.ishl, 1) := by decide +kernel
theorem dX10_drawAll_71 : decode cX10_drawAll 71 = .ok (.ior, 1) := by decide +kernel
theorem dX10_drawAll_72 : decode cX10_drawAll 72 = .ok (.istore 5, 2) := by decide +kernel
theorem dX10_drawAll_74 : decode cX10_drawAll 74 = .ok (.iinc 6 1, 3) := by decide +kernel
theorem dX10_drawAll_77 : decode cX10_drawAll 77 = .ok (.goto (-56), 3) := by decide +kernel
theorem dX10_drawAll_80 : decode cX10_drawAll 80 = .ok (.aload_n 0, 1) := by decide +kernel
theorem dX10_drawAll_81 : decode cX10_drawAll 81 = .ok (.getfield 25, 3) := by decide +kernel
theorem dX10_drawAll_84 : decode cX10_drawAll 84 = .ok (.iload 4, 2) := by decide +kernel
theorem dX10_drawAll_86 : decode cX10_drawAll 86 = .ok (.iconst 0, 1) := by decide +kernel
theorem dX10_drawAll_87 : decode cX10_drawAll 87 = .ok (.invokestatic 100, 3) := by decide +kernel
theorem dX10_drawAll_90 : decode cX10_drawAll 90 = .ok (.iload 5, 2) := by decide +kernel
theorem dX10_drawAll_92 : decode cX10_drawAll 92 = .ok (.iastore, 1) := by decide +kernel
theorem dX10_drawAll_93 : decode cX10_drawAll 93 = .ok (.iinc 4 1, 3) := by decide +kernel
theorem dX10_drawAll_96 : decode cX10_drawAll 96 = .ok (.goto (-90), 3) := by decide +kernel
theorem dX10_drawAll_99 : decode cX10_drawAll 99 = .ok (.return_, 1) := by decide +kernel
def rm_X10_drawAll : Room := { frames := 2, cells := 0, slots := 0, locals := 45 }
def M_X10_drawAll_21 (k : Nat) (κ6 : Int64 → Int32 → (Nat → Nat → Int32) → Option ((Nat → Nat → Int32))) : Nat → (Int64) → (Int32) → (Int32) → (Int32) → (Nat → Nat → Int32) → Option ((Nat → Nat → Int32))
  | 0, _, _, _, _, _ => none
  | n + 1, z2, x4, x5, x6, S => lt (gsel S) fun g1 => (if gokN g1 = true then (if inb (1 : Int32) 1692 = true then if (S g1 (1 : Int32).toNatClampNeg) ≤ x6 then (lt (gsel S) fun g4 => (if gokN g4 = true then (M_X10_tenantAt k x4 (0 : Int32)).bind fun q5 => (if inb q5 1692 = true then lt (va_up S g4 (upd (S g4) q5.toNatClampNeg x5)) fun F7 => κ6 z2 (x4 + 1) F7 else none) else none)) else (lt (((z2 * (1103515245 : Int64)) + (12345 : Int64)) - ((z2 * (1103515245 : Int64)) + (12345 : Int64)) / (2147483648 : Int64) * (2147483648 : Int64)) fun v8 => (M_X10_workers k S).bind fun q9 => (if ((q9 - x6).toInt64) = 0 then none else (M_X10_freeAt k S x5 (((v8 / (65536 : Int64)) - (v8 / (65536 : Int64)) / ((q9 - x6).toInt64) * ((q9 - x6).toInt64)).toInt32)).bind fun q11 => lt (x5 ||| ((1 : Int32) <<< (q11 &&& 31))) fun v12 => M_X10_drawAll_21 k κ6 n v8 x4 v12 (x6 + 1) S)) else none) else none)
theorem M_X10_drawAll_21_s (k : Nat) (κ6 : Int64 → Int32 → (Nat → Nat → Int32) → Option ((Nat → Nat → Int32))) (n : Nat) (z2 : Int64) (x4 : Int32) (x5 : Int32) (x6 : Int32) (S : Nat → Nat → Int32) : M_X10_drawAll_21 k κ6 (n + 1) z2 x4 x5 x6 S = (lt (gsel S) fun g1 => (if gokN g1 = true then (if inb (1 : Int32) 1692 = true then if (S g1 (1 : Int32).toNatClampNeg) ≤ x6 then (lt (gsel S) fun g4 => (if gokN g4 = true then (M_X10_tenantAt k x4 (0 : Int32)).bind fun q5 => (if inb q5 1692 = true then lt (va_up S g4 (upd (S g4) q5.toNatClampNeg x5)) fun F7 => κ6 z2 (x4 + 1) F7 else none) else none)) else (lt (((z2 * (1103515245 : Int64)) + (12345 : Int64)) - ((z2 * (1103515245 : Int64)) + (12345 : Int64)) / (2147483648 : Int64) * (2147483648 : Int64)) fun v8 => (M_X10_workers k S).bind fun q9 => (if ((q9 - x6).toInt64) = 0 then none else (M_X10_freeAt k S x5 (((v8 / (65536 : Int64)) - (v8 / (65536 : Int64)) / ((q9 - x6).toInt64) * ((q9 - x6).toInt64)).toInt32)).bind fun q11 => lt (x5 ||| ((1 : Int32) <<< (q11 &&& 31))) fun v12 => M_X10_drawAll_21 k κ6 n v8 x4 v12 (x6 + 1) S)) else none) else none)) := rfl
set_option maxRecDepth 100000 in
set_option maxHeartbeats 4000000 in
theorem N_X10_drawAll_21 (C : CX E p l s m args meth c cX10_drawAll 7 RX10 none A) (a : Nat → Nat) (k : Nat) {post : va_W → Prop} (κ6 : Int64 → Int32 → (Nat → Nat → Int32) → Option ((Nat → Nat → Int32))) (hκ6 : ∀ (z2 : Int64) (x4 : Int32) (S : Nat → Nat → Int32) (q : (Nat → Nat → Int32)), κ6 z2 x4 S = some q → post (wMd E a q) → WW E p l e rm_X10_drawAll s m args below meth c A 0 0 (QV E below post args s rm_X10_drawAll A) (wMd E a S) 7 [some (.ref (a 0)), none, some (.long z2), none, some (.int x4), none, none] 6 []) :
    ∀ (n : Nat) (z2 : Int64) (x4 : Int32) (x5 : Int32) (x6 : Int32) (S : Nat → Nat → Int32) (q : (Nat → Nat → Int32)), M_X10_drawAll_21 k κ6 n z2 x4 x5 x6 S = some q → post (wMd E a q) →
      WW E p l e rm_X10_drawAll s m args below meth c A 0 0 (QV E below post args s rm_X10_drawAll A) (wMd E a S) 7 [some (.ref (a 0)), none, some (.long z2), none, some (.int x4), some (.int x5), some (.int x6)] 21 [] := by
  intro n
  induction n with
  | zero => intro z2 x4 x5 x6 S q  h _; cases h
  | succ n ih =>
    intro z2 x4 x5 x6 S q  h hq
    rw [M_X10_drawAll_21_s] at h
    refine r_iload (pc := 21) C (i := 6) dX10_drawAll_21 rfl ?_
    refine r_aload_n (pc := 23) C (i := 0) dX10_drawAll_23 rfl rfl ?_
    obtain ⟨g1, hg1, h⟩ := lt_e h
    obtain ⟨kg1, h⟩ := ifn h
    refine r_get (pc := 24) C gwX10 0 rfl rfl 8 (by decide) wm_5_211 rfl dX10_drawAll_24 ?_
    refine r_topg (a := a) hg1 ?_
    refine r_iconst (pc := 27) C (v := 1) dX10_drawAll_27 (by decide) ?_
    obtain ⟨hi2, h⟩ := ifn h
    refine r_iald (pc := 28) C g1 (wMd_at kg1) hi2 dX10_drawAll_28 ?_
    refine r_icmp_ge (pc := 29) C (tgt := 80) dX10_drawAll_29 rfl (fun c3 => ?_) (fun c3 => ?_)
    · rw [if_pos c3] at h
      refine r_aload_n (pc := 80) C (i := 0) dX10_drawAll_80 rfl rfl ?_
      obtain ⟨g4, hg4, h⟩ := lt_e h
      obtain ⟨kg4, h⟩ := ifn h
      refine r_get (pc := 81) C gwX10 0 rfl rfl 8 (by decide) wm_5_211 rfl dX10_drawAll_81 ?_
      refine r_topg (a := a) hg4 ?_
      refine r_iload (pc := 84) C (i := 4) dX10_drawAll_84 rfl ?_
      refine r_iconst (pc := 86) C (v := 0) dX10_drawAll_86 (by decide) ?_
      obtain ⟨q5, hq5, h⟩ := bnd h
      refine r_callSp_CI (pc := 87) C [.int x4, .int (0 : Int32)] (c_X10_tenantAt E l k x4 (0 : Int32) hq5) [] rfl (by decide) g_X10_100 hd_X10_tenantAt.2 ⟨Nat.le_of_ble_eq_true rfl, Nat.le_of_ble_eq_true rfl⟩ ⟨Nat.zero_le _, Nat.zero_le _⟩ (Nat.le_of_ble_eq_true rfl) rfl dX10_drawAll_87 (fun r hr => ?_)
      have hr := hr.symm
      subst hr
      refine r_iload (pc := 90) C (i := 5) dX10_drawAll_90 rfl ?_
      obtain ⟨hi6, h⟩ := ifn h
      obtain ⟨F7, hF7, h⟩ := lt_e h
      refine r_iast (pc := 92) C g4 (wMd_at kg4) hi6 (w' := (wMd E a F7)) (by rw [hF7]; exact wMd_set kg4) dX10_drawAll_92 ?_
      refine r_iinc (pc := 93) C (v := (x4 + 1)) dX10_drawAll_93 rfl rfl (by decide) rfl ?_
      refine r_goto (pc := 96) C (tgt := 6) dX10_drawAll_96 rfl ?_
      refine r_weak (lSub_s (lSub_n (lSub_s (lSub_n (lSub_s (lSub_n (lSub_n lSub_e))))))) ?_
      exact hκ6 z2 (x4 + 1) F7 q  h hq
    · rw [if_neg c3] at h
      refine r_lload_n (pc := 32) C (i := 2) dX10_drawAll_32 rfl rfl ?_
      refine r_ldc2 (pc := 33) C (v := 1103515245) wm_7_14 dX10_drawAll_33 ?_
      refine r_lmul (pc := 36) C dX10_drawAll_36 ?_
      refine r_ldc2 (pc := 37) C (v := 12345) wm_7_15 dX10_drawAll_37 ?_
      refine r_ladd (pc := 40) C dX10_drawAll_40 ?_
      refine r_ldc2 (pc := 41) C (v := 2147483648) wm_7_16 dX10_drawAll_41 ?_
      refine r_lrem (pc := 44) C dX10_drawAll_44 (by decide) ?_
      obtain ⟨v8, hv8, h⟩ := lt_e h
      refine r_topl hv8 ?_
      refine r_lstore_n (pc := 45) C (i := 2) dX10_drawAll_45 rfl (by decide) rfl ?_
      refine r_iload (pc := 46) C (i := 5) dX10_drawAll_46 rfl ?_
      refine r_iconst (pc := 48) C (v := 1) dX10_drawAll_48 (by decide) ?_
      refine r_aload_n (pc := 49) C (i := 0) dX10_drawAll_49 rfl rfl ?_
      refine r_iload (pc := 50) C (i := 5) dX10_drawAll_50 rfl ?_
      refine r_lload_n (pc := 52) C (i := 2) dX10_drawAll_52 rfl rfl ?_
      refine r_ldc2 (pc := 53) C (v := 65536) wm_7_17 dX10_drawAll_53 ?_
      refine r_ldiv (pc := 56) C dX10_drawAll_56 (by decide) ?_
      refine r_aload_n (pc := 57) C (i := 0) dX10_drawAll_57 rfl rfl ?_
      obtain ⟨q9, hq9, h⟩ := bnd h
      refine r_callVp_CI (Cn := RX10) (pc := 58) C [] (c_X10_workers E l k a S hq9) [0, 1, 2, 3, 4, 5, 6, 7, 8, 9, 10, 11, 12] rfl (by decide) 0 rfl rfl rfl g_X10_106 hd_X10_workers ⟨Nat.le_of_ble_eq_true rfl, Nat.le_of_ble_eq_true rfl⟩ ⟨Nat.zero_le _, Nat.zero_le _⟩ (Nat.le_of_ble_eq_true rfl) rfl dX10_drawAll_58 (fun r hr => ?_)
      have hr := hr.symm
      subst hr
      refine r_iload (pc := 61) C (i := 6) dX10_drawAll_61 rfl ?_
      refine r_isub (pc := 63) C dX10_drawAll_63 ?_
      refine r_i2l (pc := 64) C dX10_drawAll_64 ?_
      obtain ⟨hz10, h⟩ := ifz h
      refine r_lrem (pc := 65) C dX10_drawAll_65 hz10 ?_
      refine r_l2i (pc := 66) C dX10_drawAll_66 ?_
      obtain ⟨q11, hq11, h⟩ := bnd h
      refine r_callVp_CI (Cn := RX10) (pc := 67) C [.int x5, .int (((v8 / (65536 : Int64)) - (v8 / (65536 : Int64)) / ((q9 - x6).toInt64) * ((q9 - x6).toInt64)).toInt32)] (c_X10_freeAt E l k a S x5 (((v8 / (65536 : Int64)) - (v8 / (65536 : Int64)) / ((q9 - x6).toInt64) * ((q9 - x6).toInt64)).toInt32) hq11) [0, 1, 2, 3, 4, 5, 6, 7, 8, 9, 10, 11, 12] rfl (by decide) 0 rfl rfl rfl g_X10_232 hd_X10_freeAt ⟨Nat.le_of_ble_eq_true rfl, Nat.le_of_ble_eq_true rfl⟩ ⟨Nat.zero_le _, Nat.zero_le _⟩ (Nat.le_of_ble_eq_true rfl) rfl dX10_drawAll_67 (fun r hr => ?_)
      have hr := hr.symm
      subst hr
      refine r_ishl (pc := 70) C dX10_drawAll_70 ?_
      refine r_ior (pc := 71) C dX10_drawAll_71 ?_
      obtain ⟨v12, hv12, h⟩ := lt_e h
      refine r_topi hv12 ?_
      refine r_istore (pc := 72) C (i := 5) dX10_drawAll_72 (by decide) rfl ?_
      refine r_iinc (pc := 74) C (v := (x6 + 1)) dX10_drawAll_74 rfl rfl (by decide) rfl ?_
      refine r_goto (pc := 77) C (tgt := 21) dX10_drawAll_77 rfl ?_
      refine r_weak (lSub_s (lSub_n (lSub_s (lSub_n (lSub_s (lSub_s (lSub_s lSub_e))))))) ?_
      exact ih v8 x4 v12 (x6 + 1) S q  h hq
def M_X10_drawAll_6 (k : Nat) : Nat → (Int64) → (Int32) → (Nat → Nat → Int32) → Option ((Nat → Nat → Int32))
  | 0, _, _, _ => none
  | n + 1, z2, x4, S => (M_X10_tenants k S).bind fun q13 => if q13 ≤ x4 then (some S) else (M_X10_drawAll_21 k (M_X10_drawAll_6 k n) k z2 x4 (0 : Int32) (0 : Int32) S)
theorem M_X10_drawAll_6_s (k : Nat) (n : Nat) (z2 : Int64) (x4 : Int32) (S : Nat → Nat → Int32) : M_X10_drawAll_6 k (n + 1) z2 x4 S = ((M_X10_tenants k S).bind fun q13 => if q13 ≤ x4 then (some S) else (M_X10_drawAll_21 k (M_X10_drawAll_6 k n) k z2 x4 (0 : Int32) (0 : Int32) S)) := rfl
set_option maxRecDepth 100000 in
set_option maxHeartbeats 4000000 in
theorem N_X10_drawAll_6 (C : CX E p l s m args meth c cX10_drawAll 7 RX10 none A) (a : Nat → Nat) (k : Nat) {post : va_W → Prop} :
    ∀ (n : Nat) (z2 : Int64) (x4 : Int32) (S : Nat → Nat → Int32) (q : (Nat → Nat → Int32)), M_X10_drawAll_6 k n z2 x4 S = some q → post (wMd E a q) →
      WW E p l e rm_X10_drawAll s m args below meth c A 0 0 (QV E below post args s rm_X10_drawAll A) (wMd E a S) 7 [some (.ref (a 0)), none, some (.long z2), none, some (.int x4), none, none] 6 [] := by
  intro n
  induction n with
  | zero => intro z2 x4 S q  h _; cases h
  | succ n ih =>
    intro z2 x4 S q  h hq
    rw [M_X10_drawAll_6_s] at h
    refine r_iload (pc := 6) C (i := 4) dX10_drawAll_6 rfl ?_
    refine r_aload_n (pc := 8) C (i := 0) dX10_drawAll_8 rfl rfl ?_
    obtain ⟨q13, hq13, h⟩ := bnd h
    refine r_callVp_CI (Cn := RX10) (pc := 9) C [] (c_X10_tenants E l k a S hq13) [0, 1, 2, 3, 4, 5, 6, 7, 8, 9, 10, 11, 12] rfl (by decide) 0 rfl rfl rfl g_X10_114 hd_X10_tenants ⟨Nat.le_of_ble_eq_true rfl, Nat.le_of_ble_eq_true rfl⟩ ⟨Nat.zero_le _, Nat.zero_le _⟩ (Nat.le_of_ble_eq_true rfl) rfl dX10_drawAll_9 (fun r hr => ?_)
    have hr := hr.symm
    subst hr
    refine r_icmp_ge (pc := 12) C (tgt := 99) dX10_drawAll_12 rfl (fun c14 => ?_) (fun c14 => ?_)
    · rw [if_pos c14] at h
      cases h
      exact r_vret (pc := 99) C hq (Nat.zero_le _) (Nat.zero_le _) dX10_drawAll_99
    · rw [if_neg c14] at h
      refine r_iconst (pc := 15) C (v := 0) dX10_drawAll_15 (by decide) ?_
      refine r_istore (pc := 16) C (i := 5) dX10_drawAll_16 (by decide) rfl ?_
      refine r_iconst (pc := 18) C (v := 0) dX10_drawAll_18 (by decide) ?_
      refine r_istore (pc := 19) C (i := 6) dX10_drawAll_19 (by decide) rfl ?_
      refine r_weak (lSub_s (lSub_n (lSub_s (lSub_n (lSub_s (lSub_s (lSub_s lSub_e))))))) ?_
      exact N_X10_drawAll_21 C a k (M_X10_drawAll_6 k n) ih k z2 x4 (0 : Int32) (0 : Int32) S q  h hq
def M_X10_drawAll_0 (k : Nat) (p0 : Int32) (S : Nat → Nat → Int32) : Option ((Nat → Nat → Int32)) := lt (p0.toInt64) fun v15 => M_X10_drawAll_6 k k v15 (0 : Int32) S
set_option maxRecDepth 100000 in
set_option maxHeartbeats 4000000 in
theorem N_X10_drawAll_0 (C : CX E p l s m args meth c cX10_drawAll 7 RX10 none A) (a : Nat → Nat) (k : Nat) {post : va_W → Prop} :
    ∀ (p0 : Int32) (S : Nat → Nat → Int32) (q : (Nat → Nat → Int32)), M_X10_drawAll_0 k p0 S = some q → post (wMd E a q) →
      WW E p l e rm_X10_drawAll s m args below meth c A 0 0 (QV E below post args s rm_X10_drawAll A) (wMd E a S) 7 [some (.ref (a 0)), some (.int p0), none, none, none, none, none] 0 [] := by
  intro p0 S q  h hq
  unfold M_X10_drawAll_0 at h
  refine r_iload_n (pc := 0) C (i := 1) dX10_drawAll_0 rfl rfl ?_
  refine r_i2l (pc := 1) C dX10_drawAll_1 ?_
  obtain ⟨v15, hv15, h⟩ := lt_e h
  refine r_topl hv15 ?_
  refine r_lstore_n (pc := 2) C (i := 2) dX10_drawAll_2 rfl (by decide) rfl ?_
  refine r_iconst (pc := 3) C (v := 0) dX10_drawAll_3 (by decide) ?_
  refine r_istore (pc := 4) C (i := 4) dX10_drawAll_4 (by decide) rfl ?_
  refine r_weak (lSub_s (lSub_n (lSub_s (lSub_n (lSub_s (lSub_n (lSub_n lSub_e))))))) ?_
  exact N_X10_drawAll_6 C a k k v15 (0 : Int32) S q  h hq
def M_X10_drawAll (k : Nat) (S : Nat → Nat → Int32) (p0 : Int32) : Option ((Nat → Nat → Int32)) := M_X10_drawAll_0 k p0 S
set_option maxRecDepth 100000 in
set_option maxHeartbeats 4000000 in
theorem c_X10_drawAll (E : ENV) (l : Launch) (k : Nat) (a : Nat → Nat) (S : Nat → Nat → Int32) (p0 : Int32) {q : (Nat → Nat → Int32)} (hm : M_X10_drawAll k S p0 = some q) : CV E l yX10_drawAll cX10_drawAll 7 none rm_X10_drawAll [.ref (a 0), .int p0] (wMd E a S) (fun w' => w' = (wMd E a q)) :=
  CV.of 5 (by decide) (Nat.le_of_ble_eq_true rfl) (fun p e s m below meth c A C _ => r_weak (lSub_s (lSub_s (lSub_n (lSub_n (lSub_n (lSub_n (lSub_n lSub_e))))))) (N_X10_drawAll_0 C a k p0 S q  hm rfl))
theorem hd_X10_copy : yX10_copy.cls = RX10 ∧ yX10_copy.cls ≠ "java/lang/invoke/MethodHandle" ∧ yX10_copy.cls ≠ "java/lang/invoke/VarHandle" ∧ (parseMethodDescriptor yX10_copy.desc).map (fun d => d.parameters.length) = some 4 := by decide +kernel
theorem g_X10_235 : GoodIn GW (va_wsS RX10 235 yX10_copy (wsG yX10_copy cX10_copy 5 none)) := gw_S wm_7_7 wm_7_8 wm_1_9 wm_7_9
-- ShardGuardModel.goAside()V
theorem dX10_goAside_0 : decode cX10_goAside 0 = .ok (.aload_n 0, 1) := by decide +kernel
theorem dX10_goAside_1 : decode cX10_goAside 1 = .ok (.getfield 9, 3) := by decide +kernel
theorem dX10_goAside_4 : decode cX10_goAside 4 = .ok (.iconst 0, 1) := by decide +kernel
theorem dX10_goAside_5 : decode cX10_goAside 5 = .ok (.aload_n 0, 1) := by decide +kernel
theorem dX10_goAside_6 : decode cX10_goAside 6 = .ok (.getfield 16, 3) := by decide +kernel
theorem dX10_goAside_9 : decode cX10_goAside 9 = .ok (.iconst 0, 1) := by decide +kernel
theorem dX10_goAside_10 : decode cX10_goAside 10 = .ok (.invokestatic 235, 3) := by decide +kernel
theorem dX10_goAside_13 : decode cX10_goAside 13 = .ok (.aload_n 0, 1) := by decide +kernel
theorem dX10_goAside_14 : decode cX10_goAside 14 = .ok (.aload_n 0, 1) := by decide +kernel
theorem dX10_goAside_15 : decode cX10_goAside 15 = .ok (.getfield 16, 3) := by decide +kernel
theorem dX10_goAside_18 : decode cX10_goAside 18 = .ok (.putfield 25, 3) := by decide +kernel
theorem dX10_goAside_21 : decode cX10_goAside 21 = .ok (.return_, 1) := by decide +kernel
def rm_X10_goAside : Room := { frames := 1, cells := 0, slots := 0, locals := 24 }
def M_X10_goAside_0 (k : Nat) (S : Nat → Nat → Int32) : Option ((Nat → Nat → Int32)) := (M_X10_copy k 1692 1692 (S 1) (S 3) (0 : Int32) (0 : Int32)).bind fun q1 => lt (va_up S 3 q1) fun F2 => lt (va_up F2 0 (upd (F2 0) 3 3)) fun F3 => some F3
set_option maxRecDepth 100000 in
set_option maxHeartbeats 4000000 in
theorem N_X10_goAside_0 (C : CX E p l s m args meth c cX10_goAside 1 RX10 none A) (a : Nat → Nat) (k : Nat) {post : va_W → Prop} :
    ∀ (S : Nat → Nat → Int32) (q : (Nat → Nat → Int32)), M_X10_goAside_0 k S = some q → post (wMd E a q) →
      WW E p l e rm_X10_goAside s m args below meth c A 0 0 (QV E below post args s rm_X10_goAside A) (wMd E a S) 1 [some (.ref (a 0))] 0 [] := by
  intro S q  h hq
  unfold M_X10_goAside_0 at h
  refine r_aload_n (pc := 0) C (i := 0) dX10_goAside_0 rfl rfl ?_
  refine r_get (pc := 1) C gwX10 0 rfl rfl 0 (by decide) wm_5_203 rfl dX10_goAside_1 ?_
  refine r_iconst (pc := 4) C (v := 0) dX10_goAside_4 (by decide) ?_
  refine r_aload_n (pc := 5) C (i := 0) dX10_goAside_5 rfl rfl ?_
  refine r_get (pc := 6) C gwX10 0 rfl rfl 2 (by decide) wm_5_205 rfl dX10_goAside_6 ?_
  refine r_iconst (pc := 9) C (v := 0) dX10_goAside_9 (by decide) ?_
  obtain ⟨q1, hq1, h⟩ := bnd h
  obtain ⟨F2, hF2, h⟩ := lt_e h
  refine r_callS_CV (pc := 10) C [.ref (a 1), .int (0 : Int32), .ref (a 3), .int (0 : Int32)] (c_X10_copy E l k (fun i => a (i + 1)) (fun i => a (i + 3)) 1692 1692 (S 1) (S 3) (0 : Int32) (0 : Int32) hq1) [1, 3] rfl (by decide) g_X10_235 hd_X10_copy.2 ⟨Nat.le_of_ble_eq_true rfl, Nat.le_of_ble_eq_true rfl⟩ ⟨Nat.zero_le _, Nat.zero_le _⟩ (Nat.le_of_ble_eq_true rfl) rfl dX10_goAside_10 (fun w1 hw1 => ?_)
  subst hw1
  refine ⟨(wMd E a F2), by rw [hF2]; rfl, ?_⟩
  refine r_aload_n (pc := 13) C (i := 0) dX10_goAside_13 rfl rfl ?_
  refine r_aload_n (pc := 14) C (i := 0) dX10_goAside_14 rfl rfl ?_
  refine r_get (pc := 15) C gwX10 0 rfl rfl 2 (by decide) wm_5_205 rfl dX10_goAside_15 ?_
  obtain ⟨F3, hF3, h⟩ := lt_e h
  refine r_put (pc := 18) C gwX10 tyX10 tyX10_ok nmX10 0 rfl rfl 8 (by decide) wm_5_211 rfl rfl rfl rfl (Nat.le_of_ble_eq_true rfl) (w' := (wMd E a F3)) (by rw [hF3]; rfl) dX10_goAside_18 ?_
  cases h
  exact r_vret (pc := 21) C hq (Nat.zero_le _) (Nat.zero_le _) dX10_goAside_21
def M_X10_goAside (k : Nat) (S : Nat → Nat → Int32) : Option ((Nat → Nat → Int32)) := M_X10_goAside_0 k S
set_option maxRecDepth 100000 in
set_option maxHeartbeats 4000000 in
theorem c_X10_goAside (E : ENV) (l : Launch) (k : Nat) (a : Nat → Nat) (S : Nat → Nat → Int32) {q : (Nat → Nat → Int32)} (hm : M_X10_goAside k S = some q) : CV E l yX10_goAside cX10_goAside 1 none rm_X10_goAside [.ref (a 0)] (wMd E a S) (fun w' => w' = (wMd E a q)) :=
  CV.of 0 (by decide) (Nat.le_of_ble_eq_true rfl) (fun p e s m below meth c A C _ => r_weak (lSub_s lSub_e) (N_X10_goAside_0 C a k S q  hm rfl))
-- ShardGuardModel.comeBack()V
theorem dX10_comeBack_0 : decode cX10_comeBack 0 = .ok (.aload_n 0, 1) := by decide +kernel
theorem dX10_comeBack_1 : decode cX10_comeBack 1 = .ok (.aload_n 0, 1) := by decide +kernel
theorem dX10_comeBack_2 : decode cX10_comeBack 2 = .ok (.getfield 9, 3) := by decide +kernel
theorem dX10_comeBack_5 : decode cX10_comeBack 5 = .ok (.putfield 25, 3) := by decide +kernel
theorem dX10_comeBack_8 : decode cX10_comeBack 8 = .ok (.return_, 1) := by decide +kernel
def rm_X10_comeBack : Room := { frames := 0, cells := 0, slots := 0, locals := 0 }
def M_X10_comeBack_0 (k : Nat) (S : Nat → Nat → Int32) : Option ((Nat → Nat → Int32)) := lt (va_up S 0 (upd (S 0) 3 1)) fun F1 => some F1
set_option maxRecDepth 100000 in
set_option maxHeartbeats 4000000 in
theorem N_X10_comeBack_0 (C : CX E p l s m args meth c cX10_comeBack 1 RX10 none A) (a : Nat → Nat) (k : Nat) {post : va_W → Prop} :
    ∀ (S : Nat → Nat → Int32) (q : (Nat → Nat → Int32)), M_X10_comeBack_0 k S = some q → post (wMd E a q) →
      WW E p l e rm_X10_comeBack s m args below meth c A 0 0 (QV E below post args s rm_X10_comeBack A) (wMd E a S) 1 [some (.ref (a 0))] 0 [] := by
  intro S q  h hq
  unfold M_X10_comeBack_0 at h
  refine r_aload_n (pc := 0) C (i := 0) dX10_comeBack_0 rfl rfl ?_
  refine r_aload_n (pc := 1) C (i := 0) dX10_comeBack_1 rfl rfl ?_
  refine r_get (pc := 2) C gwX10 0 rfl rfl 0 (by decide) wm_5_203 rfl dX10_comeBack_2 ?_
  obtain ⟨F1, hF1, h⟩ := lt_e h
  refine r_put (pc := 5) C gwX10 tyX10 tyX10_ok nmX10 0 rfl rfl 8 (by decide) wm_5_211 rfl rfl rfl rfl (Nat.le_of_ble_eq_true rfl) (w' := (wMd E a F1)) (by rw [hF1]; rfl) dX10_comeBack_5 ?_
  cases h
  exact r_vret (pc := 8) C hq (Nat.zero_le _) (Nat.zero_le _) dX10_comeBack_8
def M_X10_comeBack (k : Nat) (S : Nat → Nat → Int32) : Option ((Nat → Nat → Int32)) := M_X10_comeBack_0 k S
set_option maxRecDepth 100000 in
set_option maxHeartbeats 4000000 in
theorem c_X10_comeBack (E : ENV) (l : Launch) (k : Nat) (a : Nat → Nat) (S : Nat → Nat → Int32) {q : (Nat → Nat → Int32)} (hm : M_X10_comeBack k S = some q) : CV E l yX10_comeBack cX10_comeBack 1 none rm_X10_comeBack [.ref (a 0)] (wMd E a S) (fun w' => w' = (wMd E a q)) :=
  CV.of 0 (by decide) (Nat.le_of_ble_eq_true rfl) (fun p e s m below meth c A C _ => r_weak (lSub_s lSub_e) (N_X10_comeBack_0 C a k S q  hm rfl))
-- ShardGuardModel.layRequest(IIZ)V
theorem dX10_layRequest_0 : decode cX10_layRequest 0 = .ok (.aload_n 0, 1) := by decide +kernel
theorem dX10_layRequest_1 : decode cX10_layRequest 1 = .ok (.getfield 25, 3) := by decide +kernel
theorem dX10_layRequest_4 : decode cX10_layRequest 4 = .ok (.iconst 3, 1) := by decide +kernel
theorem dX10_layRequest_5 : decode cX10_layRequest 5 = .ok (.iaload, 1) := by decide +kernel
theorem dX10_layRequest_6 : decode cX10_layRequest 6 = .ok (.istore 4, 2) := by decide +kernel
theorem dX10_layRequest_8 : decode cX10_layRequest 8 = .ok (.aload_n 0, 1) := by decide +kernel
theorem dX10_layRequest_9 : decode cX10_layRequest 9 = .ok (.iload 4, 2) := by decide +kernel
theorem dX10_layRequest_11 : decode cX10_layRequest 11 = .ok (.iconst 0, 1) := by decide +kernel
theorem dX10_layRequest_12 : decode cX10_layRequest 12 = .ok (.iload_n 1, 1) := by decide +kernel
theorem dX10_layRequest_13 : decode cX10_layRequest 13 = .ok (.invokevirtual 147, 3) := by decide +kernel
theorem dX10_layRequest_16 : decode cX10_layRequest 16 = .ok (.aload_n 0, 1) := by decide +kernel
theorem dX10_layRequest_17 : decode cX10_layRequest 17 = .ok (.iload 4, 2) := by decide +kernel
theorem dX10_layRequest_19 : decode cX10_layRequest 19 = .ok (.iconst 1, 1) := by decide +kernel
theorem dX10_layRequest_20 : decode cX10_layRequest 20 = .ok (.iload_n 2, 1) := by decide +kernel
theorem dX10_layRequest_21 : decode cX10_layRequest 21 = .ok (.invokevirtual 147, 3) := by decide +kernel
theorem dX10_layRequest_24 : decode cX10_layRequest 24 = .ok (.aload_n 0, 1) := by decide +kernel
theorem dX10_layRequest_25 : decode cX10_layRequest 25 = .ok (.iload 4, 2) := by decide +kernel
theorem dX10_layRequest_27 : decode cX10_layRequest 27 = .ok (.iconst 2, 1) := by decide +kernel
theorem dX10_layRequest_28 : decode cX10_layRequest 28 = .ok (.iload_n 2, 1) := by decide +kernel
theorem dX10_layRequest_29 : decode cX10_layRequest 29 = .ok (.invokevirtual 147, 3) := by decide +kernel
theorem dX10_layRequest_32 : decode cX10_layRequest 32 = .ok (.aload_n 0, 1) := by decide +kernel
theorem dX10_layRequest_33 : decode cX10_layRequest 33 = .ok (.iload 4, 2) := by decide +kernel
theorem dX10_layRequest_35 : decode cX10_layRequest 35 = .ok (.iconst 3, 1) := by decide +kernel
theorem dX10_layRequest_36 : decode cX10_layRequest 36 = .ok (.iload_n 3, 1) := by decide +kernel
theorem dX10_layRequest_37 : decode cX10_layRequest 37 = .ok (.ifCond .eq 7, 3) := by decide +kernel
theorem dX10_layRequest_40 : decode cX10_layRequest 40 = .ok (.iconst 1, 1) := by decide +kernel
theorem dX10_layRequest_41 : decode cX10_layRequest 41 = .ok (.goto 4, 3) := by decide +kernel
theorem dX10_layRequest_44 : decode cX10_layRequest 44 = .ok (.iconst 0, 1) := by decide +kernel
theorem dX10_layRequest_45 : decode cX10_layRequest 45 = .ok (.invokevirtual 147, 3) := by decide +kernel
theorem dX10_layRequest_48 : decode cX10_layRequest 48 = .ok (.aload_n 0, 1) := by decide +kernel
theorem dX10_layRequest_49 : decode cX10_layRequest 49 = .ok (.iload 4, 2) := by decide +kernel
theorem dX10_layRequest_51 : decode cX10_layRequest 51 = .ok (.iconst 4, 1) := by decide +kernel
theorem dX10_layRequest_52 : decode cX10_layRequest 52 = .ok (.iconst 4, 1) := by decide +kernel
theorem dX10_layRequest_53 : decode cX10_layRequest 53 = .ok (.invokevirtual 147, 3) := by decide +kernel
theorem dX10_layRequest_56 : decode cX10_layRequest 56 = .ok (.aload_n 0, 1) := by decide +kernel
theorem dX10_layRequest_57 : decode cX10_layRequest 57 = .ok (.iload 4, 2) := by decide +kernel
theorem dX10_layRequest_59 : decode cX10_layRequest 59 = .ok (.iconst 5, 1) := by decide +kernel
theorem dX10_layRequest_60 : decode cX10_layRequest 60 = .ok (.iconst 0, 1) := by decide +kernel
theorem dX10_layRequest_61 : decode cX10_layRequest 61 = .ok (.invokevirtual 147, 3) := by decide +kernel
theorem dX10_layRequest_64 : decode cX10_layRequest 64 = .ok (.aload_n 0, 1) := by decide +kernel
theorem dX10_layRequest_65 : decode cX10_layRequest 65 = .ok (.iload 4, 2) := by decide +kernel
theorem dX10_layRequest_67 : decode cX10_layRequest 67 = .ok (.bipush 6, 2) := by decide +kernel
theorem dX10_layRequest_69 : decode cX10_layRequest 69 = .ok (.iconst (-1), 1) := by decide +kernel
theorem dX10_layRequest_70 : decode cX10_layRequest 70 = .ok (.invokevirtual 147, 3) := by decide +kernel
theorem dX10_layRequest_73 : decode cX10_layRequest 73 = .ok (.aload_n 0, 1) := by decide +kernel
theorem dX10_layRequest_74 : decode cX10_layRequest 74 = .ok (.iload 4, 2) := by decide +kernel
theorem dX10_layRequest_76 : decode cX10_layRequest 76 = .ok (.bipush 7, 2) := by decide +kernel
theorem dX10_layRequest_78 : decode cX10_layRequest 78 = .ok (.iconst (-1), 1) := by decide +kernel
theorem dX10_layRequest_79 : decode cX10_layRequest 79 = .ok (.invokevirtual 147, 3) := by decide +kernel
theorem dX10_layRequest_82 : decode cX10_layRequest 82 = .ok (.aload_n 0, 1) := by decide +kernel
theorem dX10_layRequest_83 : decode cX10_layRequest 83 = .ok (.iload 4, 2) := by decide +kernel
theorem dX10_layRequest_85 : decode cX10_layRequest 85 = .ok (.bipush 8, 2) := by decide +kernel
theorem dX10_layRequest_87 : decode cX10_layRequest 87 = .ok (.iconst 0, 1) := by decide +kernel
theorem dX10_layRequest_88 : decode cX10_layRequest 88 = .ok (.invokevirtual 147, 3) := by decide +kernel
theorem dX10_layRequest_91 : decode cX10_layRequest 91 = .ok (.aload_n 0, 1) := by decide +kernel
theorem dX10_layRequest_92 : decode cX10_layRequest 92 = .ok (.getfield 25, 3) := by decide +kernel
theorem dX10_layRequest_95 : decode cX10_layRequest 95 = .ok (.iconst 3, 1) := by decide +kernel
theorem dX10_layRequest_96 : decode cX10_layRequest 96 = .ok (.dup2, 1) := by decide +kernel
theorem dX10_layRequest_97 : decode cX10_layRequest 97 = .ok (.iaload, 1) := by decide +kernel
theorem dX10_layRequest_98 : decode cX10_layRequest 98 = .ok (.iconst 1, 1) := by decide +kernel
theorem dX10_layRequest_99 : decode cX10_layRequest 99 = .ok (.iadd, 1) := by decide +kernel
theorem dX10_layRequest_100 : decode cX10_layRequest 100 = .ok (.iastore, 1) := by decide +kernel
theorem dX10_layRequest_101 : decode cX10_layRequest 101 = .ok (.return_, 1) := by decide +kernel
def rm_X10_layRequest : Room := { frames := 2, cells := 0, slots := 0, locals := 44 }
def M_X10_layRequest_45 (k : Nat) (x4 : Int32) (y1 : Int32) (y2 : Int32) (y3 : Int32) (S : Nat → Nat → Int32) : Option ((Nat → Nat → Int32)) := (M_X10_put k S y1 y2 y3).bind fun q1 => (M_X10_put k q1 x4 (4 : Int32) (4 : Int32)).bind fun q2 => (M_X10_put k q2 x4 (5 : Int32) (0 : Int32)).bind fun q3 => (M_X10_put k q3 x4 (6 : Int32) (-1 : Int32)).bind fun q4 => (M_X10_put k q4 x4 (7 : Int32) (-1 : Int32)).bind fun q5 => (M_X10_put k q5 x4 (8 : Int32) (0 : Int32)).bind fun q6 => lt (gsel q6) fun g7 => (if gokN g7 = true then (if inb (3 : Int32) 1692 = true then (if inb (3 : Int32) 1692 = true then lt (va_up q6 g7 (upd (q6 g7) (3 : Int32).toNatClampNeg ((q6 g7 (3 : Int32).toNatClampNeg) + (1 : Int32)))) fun F10 => some F10 else none) else none) else none)
set_option maxRecDepth 100000 in
set_option maxHeartbeats 4000000 in
theorem N_X10_layRequest_45 (C : CX E p l s m args meth c cX10_layRequest 5 RX10 none A) (a : Nat → Nat) (k : Nat) {post : va_W → Prop} :
    ∀ (x4 : Int32) (y1 : Int32) (y2 : Int32) (y3 : Int32) (S : Nat → Nat → Int32) (q : (Nat → Nat → Int32)), M_X10_layRequest_45 k x4 y1 y2 y3 S = some q → post (wMd E a q) →
      WW E p l e rm_X10_layRequest s m args below meth c A 0 0 (QV E below post args s rm_X10_layRequest A) (wMd E a S) 5 [some (.ref (a 0)), none, none, none, some (.int x4)] 45 [.int y3, .int y2, .int y1, .ref (a 0)] := by
  intro x4 y1 y2 y3 S q  h hq
  unfold M_X10_layRequest_45 at h
  obtain ⟨q1, hq1, h⟩ := bnd h
  refine r_callV_CV (Cn := RX10) (pc := 45) C [.int y1, .int y2, .int y3] (c_X10_put E l k a S y1 y2 y3 hq1) [0, 1, 2, 3, 4, 5, 6, 7, 8, 9, 10, 11, 12] rfl (by decide) 0 rfl rfl rfl g_X10_147 hd_X10_put ⟨Nat.le_of_ble_eq_true rfl, Nat.le_of_ble_eq_true rfl⟩ ⟨Nat.zero_le _, Nat.zero_le _⟩ (Nat.le_of_ble_eq_true rfl) rfl dX10_layRequest_45 (fun w1 hw1 => ?_)
  subst hw1
  refine ⟨(wMd E a q1), by rfl, ?_⟩
  refine r_aload_n (pc := 48) C (i := 0) dX10_layRequest_48 rfl rfl ?_
  refine r_iload (pc := 49) C (i := 4) dX10_layRequest_49 rfl ?_
  refine r_iconst (pc := 51) C (v := 4) dX10_layRequest_51 (by decide) ?_
  refine r_iconst (pc := 52) C (v := 4) dX10_layRequest_52 (by decide) ?_
  obtain ⟨q2, hq2, h⟩ := bnd h
  refine r_callV_CV (Cn := RX10) (pc := 53) C [.int x4, .int (4 : Int32), .int (4 : Int32)] (c_X10_put E l k a q1 x4 (4 : Int32) (4 : Int32) hq2) [0, 1, 2, 3, 4, 5, 6, 7, 8, 9, 10, 11, 12] rfl (by decide) 0 rfl rfl rfl g_X10_147 hd_X10_put ⟨Nat.le_of_ble_eq_true rfl, Nat.le_of_ble_eq_true rfl⟩ ⟨Nat.zero_le _, Nat.zero_le _⟩ (Nat.le_of_ble_eq_true rfl) rfl dX10_layRequest_53 (fun w1 hw1 => ?_)
  subst hw1
  refine ⟨(wMd E a q2), by rfl, ?_⟩
  refine r_aload_n (pc := 56) C (i := 0) dX10_layRequest_56 rfl rfl ?_
  refine r_iload (pc := 57) C (i := 4) dX10_layRequest_57 rfl ?_
  refine r_iconst (pc := 59) C (v := 5) dX10_layRequest_59 (by decide) ?_
  refine r_iconst (pc := 60) C (v := 0) dX10_layRequest_60 (by decide) ?_
  obtain ⟨q3, hq3, h⟩ := bnd h
  refine r_callV_CV (Cn := RX10) (pc := 61) C [.int x4, .int (5 : Int32), .int (0 : Int32)] (c_X10_put E l k a q2 x4 (5 : Int32) (0 : Int32) hq3) [0, 1, 2, 3, 4, 5, 6, 7, 8, 9, 10, 11, 12] rfl (by decide) 0 rfl rfl rfl g_X10_147 hd_X10_put ⟨Nat.le_of_ble_eq_true rfl, Nat.le_of_ble_eq_true rfl⟩ ⟨Nat.zero_le _, Nat.zero_le _⟩ (Nat.le_of_ble_eq_true rfl) rfl dX10_layRequest_61 (fun w1 hw1 => ?_)
  subst hw1
  refine ⟨(wMd E a q3), by rfl, ?_⟩
  refine r_aload_n (pc := 64) C (i := 0) dX10_layRequest_64 rfl rfl ?_
  refine r_iload (pc := 65) C (i := 4) dX10_layRequest_65 rfl ?_
  refine r_bipush (pc := 67) C (v := 6) dX10_layRequest_67 (by decide) ?_
  refine r_iconst (pc := 69) C (v := (-1)) dX10_layRequest_69 (by decide) ?_
  obtain ⟨q4, hq4, h⟩ := bnd h
  refine r_callV_CV (Cn := RX10) (pc := 70) C [.int x4, .int (6 : Int32), .int (-1 : Int32)] (c_X10_put E l k a q3 x4 (6 : Int32) (-1 : Int32) hq4) [0, 1, 2, 3, 4, 5, 6, 7, 8, 9, 10, 11, 12] rfl (by decide) 0 rfl rfl rfl g_X10_147 hd_X10_put ⟨Nat.le_of_ble_eq_true rfl, Nat.le_of_ble_eq_true rfl⟩ ⟨Nat.zero_le _, Nat.zero_le _⟩ (Nat.le_of_ble_eq_true rfl) rfl dX10_layRequest_70 (fun w1 hw1 => ?_)
  subst hw1
  refine ⟨(wMd E a q4), by rfl, ?_⟩
  refine r_aload_n (pc := 73) C (i := 0) dX10_layRequest_73 rfl rfl ?_
  refine r_iload (pc := 74) C (i := 4) dX10_layRequest_74 rfl ?_
  refine r_bipush (pc := 76) C (v := 7) dX10_layRequest_76 (by decide) ?_
  refine r_iconst (pc := 78) C (v := (-1)) dX10_layRequest_78 (by decide) ?_
  obtain ⟨q5, hq5, h⟩ := bnd h
  refine r_callV_CV (Cn := RX10) (pc := 79) C [.int x4, .int (7 : Int32), .int (-1 : Int32)] (c_X10_put E l k a q4 x4 (7 : Int32) (-1 : Int32) hq5) [0, 1, 2, 3, 4, 5, 6, 7, 8, 9, 10, 11, 12] rfl (by decide) 0 rfl rfl rfl g_X10_147 hd_X10_put ⟨Nat.le_of_ble_eq_true rfl, Nat.le_of_ble_eq_true rfl⟩ ⟨Nat.zero_le _, Nat.zero_le _⟩ (Nat.le_of_ble_eq_true rfl) rfl dX10_layRequest_79 (fun w1 hw1 => ?_)
  subst hw1
  refine ⟨(wMd E a q5), by rfl, ?_⟩
  refine r_aload_n (pc := 82) C (i := 0) dX10_layRequest_82 rfl rfl ?_
  refine r_iload (pc := 83) C (i := 4) dX10_layRequest_83 rfl ?_
  refine r_bipush (pc := 85) C (v := 8) dX10_layRequest_85 (by decide) ?_
  refine r_iconst (pc := 87) C (v := 0) dX10_layRequest_87 (by decide) ?_
  obtain ⟨q6, hq6, h⟩ := bnd h
  refine r_callV_CV (Cn := RX10) (pc := 88) C [.int x4, .int (8 : Int32), .int (0 : Int32)] (c_X10_put E l k a q5 x4 (8 : Int32) (0 : Int32) hq6) [0, 1, 2, 3, 4, 5, 6, 7, 8, 9, 10, 11, 12] rfl (by decide) 0 rfl rfl rfl g_X10_147 hd_X10_put ⟨Nat.le_of_ble_eq_true rfl, Nat.le_of_ble_eq_true rfl⟩ ⟨Nat.zero_le _, Nat.zero_le _⟩ (Nat.le_of_ble_eq_true rfl) rfl dX10_layRequest_88 (fun w1 hw1 => ?_)
  subst hw1
  refine ⟨(wMd E a q6), by rfl, ?_⟩
  refine r_aload_n (pc := 91) C (i := 0) dX10_layRequest_91 rfl rfl ?_
  obtain ⟨g7, hg7, h⟩ := lt_e h
  obtain ⟨kg7, h⟩ := ifn h
  refine r_get (pc := 92) C gwX10 0 rfl rfl 8 (by decide) wm_5_211 rfl dX10_layRequest_92 ?_
  refine r_topg (a := a) hg7 ?_
  refine r_iconst (pc := 95) C (v := 3) dX10_layRequest_95 (by decide) ?_
  refine r_dup2_11 (pc := 96) C dX10_layRequest_96 rfl rfl ?_
  obtain ⟨hi8, h⟩ := ifn h
  refine r_iald (pc := 97) C g7 (wMd_at kg7) hi8 dX10_layRequest_97 ?_
  refine r_iconst (pc := 98) C (v := 1) dX10_layRequest_98 (by decide) ?_
  refine r_iadd (pc := 99) C dX10_layRequest_99 ?_
  obtain ⟨hi9, h⟩ := ifn h
  obtain ⟨F10, hF10, h⟩ := lt_e h
  refine r_iast (pc := 100) C g7 (wMd_at kg7) hi9 (w' := (wMd E a F10)) (by rw [hF10]; exact wMd_set kg7) dX10_layRequest_100 ?_
  cases h
  exact r_vret (pc := 101) C hq (Nat.zero_le _) (Nat.zero_le _) dX10_layRequest_101
def M_X10_layRequest_0 (k : Nat) (p0 : Int32) (p1 : Int32) (p2 : Int32) (S : Nat → Nat → Int32) : Option ((Nat → Nat → Int32)) := lt (gsel S) fun g11 => (if gokN g11 = true then (if inb (3 : Int32) 1692 = true then lt (S g11 (3 : Int32).toNatClampNeg) fun v13 => (M_X10_put k S v13 (0 : Int32) p0).bind fun q14 => (M_X10_put k q14 v13 (1 : Int32) p1).bind fun q15 => (M_X10_put k q15 v13 (2 : Int32) p1).bind fun q16 => if p2 = 0 then (M_X10_layRequest_45 k v13 v13 (3 : Int32) (0 : Int32) q16) else (M_X10_layRequest_45 k v13 v13 (3 : Int32) (1 : Int32) q16) else none) else none)
set_option maxRecDepth 100000 in
set_option maxHeartbeats 4000000 in
theorem N_X10_layRequest_0 (C : CX E p l s m args meth c cX10_layRequest 5 RX10 none A) (a : Nat → Nat) (k : Nat) {post : va_W → Prop} :
    ∀ (p0 : Int32) (p1 : Int32) (p2 : Int32) (S : Nat → Nat → Int32) (q : (Nat → Nat → Int32)), M_X10_layRequest_0 k p0 p1 p2 S = some q → post (wMd E a q) →
      WW E p l e rm_X10_layRequest s m args below meth c A 0 0 (QV E below post args s rm_X10_layRequest A) (wMd E a S) 5 [some (.ref (a 0)), some (.int p0), some (.int p1), some (.int p2), none] 0 [] := by
  intro p0 p1 p2 S q  h hq
  unfold M_X10_layRequest_0 at h
  refine r_aload_n (pc := 0) C (i := 0) dX10_layRequest_0 rfl rfl ?_
  obtain ⟨g11, hg11, h⟩ := lt_e h
  obtain ⟨kg11, h⟩ := ifn h
  refine r_get (pc := 1) C gwX10 0 rfl rfl 8 (by decide) wm_5_211 rfl dX10_layRequest_1 ?_
  refine r_topg (a := a) hg11 ?_
  refine r_iconst (pc := 4) C (v := 3) dX10_layRequest_4 (by decide) ?_
  obtain ⟨hi12, h⟩ := ifn h
  refine r_iald (pc := 5) C g11 (wMd_at kg11) hi12 dX10_layRequest_5 ?_
  obtain ⟨v13, hv13, h⟩ := lt_e h
  refine r_topi hv13 ?_
  refine r_istore (pc := 6) C (i := 4) dX10_layRequest_6 (by decide) rfl ?_
  refine r_aload_n (pc := 8) C (i := 0) dX10_layRequest_8 rfl rfl ?_
  refine r_iload (pc := 9) C (i := 4) dX10_layRequest_9 rfl ?_
  refine r_iconst (pc := 11) C (v := 0) dX10_layRequest_11 (by decide) ?_
  refine r_iload_n (pc := 12) C (i := 1) dX10_layRequest_12 rfl rfl ?_
  obtain ⟨q14, hq14, h⟩ := bnd h
  refine r_callV_CV (Cn := RX10) (pc := 13) C [.int v13, .int (0 : Int32), .int p0] (c_X10_put E l k a S v13 (0 : Int32) p0 hq14) [0, 1, 2, 3, 4, 5, 6, 7, 8, 9, 10, 11, 12] rfl (by decide) 0 rfl rfl rfl g_X10_147 hd_X10_put ⟨Nat.le_of_ble_eq_true rfl, Nat.le_of_ble_eq_true rfl⟩ ⟨Nat.zero_le _, Nat.zero_le _⟩ (Nat.le_of_ble_eq_true rfl) rfl dX10_layRequest_13 (fun w1 hw1 => ?_)
  subst hw1
  refine ⟨(wMd E a q14), by rfl, ?_⟩
  refine r_aload_n (pc := 16) C (i := 0) dX10_layRequest_16 rfl rfl ?_
  refine r_iload (pc := 17) C (i := 4) dX10_layRequest_17 rfl ?_
  refine r_iconst (pc := 19) C (v := 1) dX10_layRequest_19 (by decide) ?_
  refine r_iload_n (pc := 20) C (i := 2) dX10_layRequest_20 rfl rfl ?_
  obtain ⟨q15, hq15, h⟩ := bnd h
  refine r_callV_CV (Cn := RX10) (pc := 21) C [.int v13, .int (1 : Int32), .int p1] (c_X10_put E l k a q14 v13 (1 : Int32) p1 hq15) [0, 1, 2, 3, 4, 5, 6, 7, 8, 9, 10, 11, 12] rfl (by decide) 0 rfl rfl rfl g_X10_147 hd_X10_put ⟨Nat.le_of_ble_eq_true rfl, Nat.le_of_ble_eq_true rfl⟩ ⟨Nat.zero_le _, Nat.zero_le _⟩ (Nat.le_of_ble_eq_true rfl) rfl dX10_layRequest_21 (fun w1 hw1 => ?_)
  subst hw1
  refine ⟨(wMd E a q15), by rfl, ?_⟩
  refine r_aload_n (pc := 24) C (i := 0) dX10_layRequest_24 rfl rfl ?_
  refine r_iload (pc := 25) C (i := 4) dX10_layRequest_25 rfl ?_
  refine r_iconst (pc := 27) C (v := 2) dX10_layRequest_27 (by decide) ?_
  refine r_iload_n (pc := 28) C (i := 2) dX10_layRequest_28 rfl rfl ?_
  obtain ⟨q16, hq16, h⟩ := bnd h
  refine r_callV_CV (Cn := RX10) (pc := 29) C [.int v13, .int (2 : Int32), .int p1] (c_X10_put E l k a q15 v13 (2 : Int32) p1 hq16) [0, 1, 2, 3, 4, 5, 6, 7, 8, 9, 10, 11, 12] rfl (by decide) 0 rfl rfl rfl g_X10_147 hd_X10_put ⟨Nat.le_of_ble_eq_true rfl, Nat.le_of_ble_eq_true rfl⟩ ⟨Nat.zero_le _, Nat.zero_le _⟩ (Nat.le_of_ble_eq_true rfl) rfl dX10_layRequest_29 (fun w1 hw1 => ?_)
  subst hw1
  refine ⟨(wMd E a q16), by rfl, ?_⟩
  refine r_aload_n (pc := 32) C (i := 0) dX10_layRequest_32 rfl rfl ?_
  refine r_iload (pc := 33) C (i := 4) dX10_layRequest_33 rfl ?_
  refine r_iconst (pc := 35) C (v := 3) dX10_layRequest_35 (by decide) ?_
  refine r_iload_n (pc := 36) C (i := 3) dX10_layRequest_36 rfl rfl ?_
  refine r_if_eq (pc := 37) C (tgt := 44) dX10_layRequest_37 rfl (fun c17 => ?_) (fun c17 => ?_)
  · rw [if_pos c17] at h
    refine r_iconst (pc := 44) C (v := 0) dX10_layRequest_44 (by decide) ?_
    refine r_weak (lSub_s (lSub_n (lSub_n (lSub_n (lSub_s lSub_e))))) ?_
    exact N_X10_layRequest_45 C a k v13 v13 (3 : Int32) (0 : Int32) q16 q  h hq
  · rw [if_neg c17] at h
    refine r_iconst (pc := 40) C (v := 1) dX10_layRequest_40 (by decide) ?_
    refine r_goto (pc := 41) C (tgt := 45) dX10_layRequest_41 rfl ?_
    refine r_weak (lSub_s (lSub_n (lSub_n (lSub_n (lSub_s lSub_e))))) ?_
    exact N_X10_layRequest_45 C a k v13 v13 (3 : Int32) (1 : Int32) q16 q  h hq
def M_X10_layRequest (k : Nat) (S : Nat → Nat → Int32) (p0 : Int32) (p1 : Int32) (p2 : Int32) : Option ((Nat → Nat → Int32)) := M_X10_layRequest_0 k p0 p1 p2 S
set_option maxRecDepth 100000 in
set_option maxHeartbeats 4000000 in
theorem c_X10_layRequest (E : ENV) (l : Launch) (k : Nat) (a : Nat → Nat) (S : Nat → Nat → Int32) (p0 : Int32) (p1 : Int32) (p2 : Int32) {q : (Nat → Nat → Int32)} (hm : M_X10_layRequest k S p0 p1 p2 = some q) : CV E l yX10_layRequest cX10_layRequest 5 none rm_X10_layRequest [.ref (a 0), .int p0, .int p1, .int p2] (wMd E a S) (fun w' => w' = (wMd E a q)) :=
  CV.of 1 (by decide) (Nat.le_of_ble_eq_true rfl) (fun p e s m below meth c A C _ => r_weak (lSub_s (lSub_s (lSub_s (lSub_s (lSub_n lSub_e))))) (N_X10_layRequest_0 C a k p0 p1 p2 S q  hm rfl))
end WALKS
