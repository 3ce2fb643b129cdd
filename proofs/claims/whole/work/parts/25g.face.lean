section WALKS
variable {E : ENV} {p : Program} {l : Launch} {e : Env} {s : State} {m : MethodId} {args : Array Value} {below : List Frame} {meth : Method} {c : Code} {A : Nat → Prop}
-- ShardGuard.covered(I)I
theorem dX9_covered_0 : decode cX9_covered 0 = .ok (.aload_n 0, 1) := by decide +kernel
theorem dX9_covered_1 : decode cX9_covered 1 = .ok (.iload_n 1, 1) := by decide +kernel
theorem dX9_covered_2 : decode cX9_covered 2 = .ok (.invokevirtual 172, 3) := by decide +kernel
theorem dX9_covered_5 : decode cX9_covered 5 = .ok (.aload_n 0, 1) := by decide +kernel
theorem dX9_covered_6 : decode cX9_covered 6 = .ok (.getfield 12, 3) := by decide +kernel
theorem dX9_covered_9 : decode cX9_covered 9 = .ok (.iload_n 1, 1) := by decide +kernel
theorem dX9_covered_10 : decode cX9_covered 10 = .ok (.invokevirtual 175, 3) := by decide +kernel
theorem dX9_covered_13 : decode cX9_covered 13 = .ok (.istore_n 2, 1) := by decide +kernel
theorem dX9_covered_14 : decode cX9_covered 14 = .ok (.iconst 0, 1) := by decide +kernel
theorem dX9_covered_15 : decode cX9_covered 15 = .ok (.istore_n 3, 1) := by decide +kernel
theorem dX9_covered_16 : decode cX9_covered 16 = .ok (.iconst 0, 1) := by decide +kernel
theorem dX9_covered_17 : decode cX9_covered 17 = .ok (.istore 4, 2) := by decide +kernel
theorem dX9_covered_19 : decode cX9_covered 19 = .ok (.iload 4, 2) := by decide +kernel
theorem dX9_covered_21 : decode cX9_covered 21 = .ok (.aload_n 0, 1) := by decide +kernel
theorem dX9_covered_22 : decode cX9_covered 22 = .ok (.getfield 12, 3) := by decide +kernel
theorem dX9_covered_25 : decode cX9_covered 25 = .ok (.getfield 88, 3) := by decide +kernel
theorem dX9_covered_28 : decode cX9_covered 28 = .ok (.if_icmp .ge 34, 3) := by decide +kernel
theorem dX9_covered_31 : decode cX9_covered 31 = .ok (.iload 4, 2) := by decide +kernel
theorem dX9_covered_33 : decode cX9_covered 33 = .ok (.iload_n 1, 1) := by decide +kernel
theorem dX9_covered_34 : decode cX9_covered 34 = .ok (.if_icmp .eq 22, 3) := by decide +kernel
theorem dX9_covered_37 : decode cX9_covered 37 = .ok (.aload_n 0, 1) := by decide +kernel
theorem dX9_covered_38 : decode cX9_covered 38 = .ok (.getfield 12, 3) := by decide +kernel
theorem dX9_covered_41 : decode cX9_covered 41 = .ok (.iload 4, 2) := by decide +kernel
theorem dX9_covered_43 : decode cX9_covered 43 = .ok (.invokevirtual 175, 3) := by decide +kernel
theorem dX9_covered_46 : decode cX9_covered 46 = .ok (.iload_n 2, 1) := by decide +kernel
theorem dX9_covered_47 : decode cX9_covered 47 = .ok (.iconst (-1), 1) := by decide +kernel
theorem dX9_covered_48 : decode cX9_covered 48 = .ok (.ixor, 1) := by decide +kernel
theorem dX9_covered_49 : decode cX9_covered 49 = .ok (.iand, 1) := by decide +kernel
theorem dX9_covered_50 : decode cX9_covered 50 = .ok (.ifCond .ne 6, 3) := by decide +kernel
theorem dX9_covered_53 : decode cX9_covered 53 = .ok (.iinc 3 1, 3) := by decide +kernel
theorem dX9_covered_56 : decode cX9_covered 56 = .ok (.iinc 4 1, 3) := by decide +kernel
theorem dX9_covered_59 : decode cX9_covered 59 = .ok (.goto (-40), 3) := by decide +kernel
theorem dX9_covered_62 : decode cX9_covered 62 = .ok (.iload_n 3, 1) := by decide +kernel
theorem dX9_covered_63 : decode cX9_covered 63 = .ok (.ireturn, 1) := by decide +kernel
def rm_X9_covered : Room := { frames := 7, cells := 1, slots := 6, locals := 121 }
def M_X9_covered_19 (k : Nat) (S : VV × VV × VV × VV × VV × Int32) : Nat → (Int32) → (Int32) → (Int32) → (Int32) → Option (Int32 × Int32)
  | 0, _, _, _, _ => none
  | n + 1, x1, x2, x3, x4 => if ((S.1) 0 2) ≤ x4 then (some ((0 : Int32), x3)) else (if x4 = x1 then (M_X9_covered_19 k S n x1 x2 x3 (x4 + 1)) else ((M_X0_shardOf k (S.1) x4).bind fun q3 => if (q3 &&& (x2 ^^^ (-1 : Int32))) = 0 then (M_X9_covered_19 k S n x1 x2 (x3 + 1) (x4 + 1)) else (M_X9_covered_19 k S n x1 x2 x3 (x4 + 1))))
theorem M_X9_covered_19_s (k : Nat) (S : VV × VV × VV × VV × VV × Int32) (n : Nat) (x1 : Int32) (x2 : Int32) (x3 : Int32) (x4 : Int32) : M_X9_covered_19 k S (n + 1) x1 x2 x3 x4 = (if ((S.1) 0 2) ≤ x4 then (some ((0 : Int32), x3)) else (if x4 = x1 then (M_X9_covered_19 k S n x1 x2 x3 (x4 + 1)) else ((M_X0_shardOf k (S.1) x4).bind fun q3 => if (q3 &&& (x2 ^^^ (-1 : Int32))) = 0 then (M_X9_covered_19 k S n x1 x2 (x3 + 1) (x4 + 1)) else (M_X9_covered_19 k S n x1 x2 x3 (x4 + 1))))) := rfl
set_option maxRecDepth 100000 in
set_option maxHeartbeats 4000000 in
theorem N_X9_covered_19 (C : CX E p l s m args meth c cX9_covered 5 RX9 (some .int) A) (a : Nat → Nat) (k : Nat) (S : VV × VV × VV × VV × VV × Int32) {post : Int32 → va_W → Prop} {px : Int32 → va_W → Prop} (hlt : l.stackTraces = false) (hno : ∀ x ∈ c.exceptionTable.toList, False) (hdc : DC s) :
    ∀ (n : Nat) (x1 : Int32) (x2 : Int32) (x3 : Int32) (x4 : Int32) (q : Int32 × Int32), M_X9_covered_19 k S n x1 x2 x3 x4 = some q → TI post px q.1 q.2 (wSg E a S) →
      WW E p l e rm_X9_covered s m args below meth c A 1 6 (QXI E below post px args s rm_X9_covered A) (wSg E a S) 5 [some (.ref (a 0)), some (.int x1), some (.int x2), some (.int x3), some (.int x4)] 19 [] := by
  intro n
  induction n with
  | zero => intro x1 x2 x3 x4 q  h _; cases h
  | succ n ih =>
    intro x1 x2 x3 x4 q  h hq
    rw [M_X9_covered_19_s] at h
    refine r_iload (pc := 19) C (i := 4) dX9_covered_19 rfl ?_
    refine r_aload_n (pc := 21) C (i := 0) dX9_covered_21 rfl rfl ?_
    refine r_get (pc := 22) C gwX9 0 rfl rfl 0 (by decide) wm_2_15 rfl dX9_covered_22 ?_
    refine r_get (pc := 25) C gwX0 1 rfl rfl 2 (by decide) wm_1_99 rfl dX9_covered_25 ?_
    refine r_icmp_ge (pc := 28) C (tgt := 62) dX9_covered_28 rfl (fun c1 => ?_) (fun c1 => ?_)
    · rw [if_pos c1] at h
      refine r_iload_n (pc := 62) C (i := 3) dX9_covered_62 rfl rfl ?_
      cases h
      exact r_xI (r_ireti (pc := 63) C (TI_0 hq) (Nat.le_of_ble_eq_true rfl) (Nat.le_of_ble_eq_true rfl) dX9_covered_63)
    · rw [if_neg c1] at h
      refine r_iload (pc := 31) C (i := 4) dX9_covered_31 rfl ?_
      refine r_iload_n (pc := 33) C (i := 1) dX9_covered_33 rfl rfl ?_
      refine r_icmp_eq (pc := 34) C (tgt := 56) dX9_covered_34 rfl (fun c2 => ?_) (fun c2 => ?_)
      · rw [if_pos c2] at h
        refine r_iinc (pc := 56) C (v := (x4 + 1)) dX9_covered_56 rfl rfl (by decide) rfl ?_
        refine r_goto (pc := 59) C (tgt := 19) dX9_covered_59 rfl ?_
        refine r_weak (lSub_s (lSub_s (lSub_s (lSub_s (lSub_s lSub_e))))) ?_
        exact ih x1 x2 x3 (x4 + 1) q  h hq
      · rw [if_neg c2] at h
        refine r_aload_n (pc := 37) C (i := 0) dX9_covered_37 rfl rfl ?_
        refine r_get (pc := 38) C gwX9 0 rfl rfl 0 (by decide) wm_2_15 rfl dX9_covered_38 ?_
        refine r_iload (pc := 41) C (i := 4) dX9_covered_41 rfl ?_
        obtain ⟨q3, hq3, h⟩ := bnd h
        refine r_callVp_CI (Cn := RX0) (pc := 43) C [.int x4] (c_X0_shardOf E l k (fun i => a (i + 1)) (S.1) x4 hq3) [1, 2, 3, 4, 5, 6, 7, 8, 9, 10, 11, 12, 13, 14, 15, 16, 17, 18] (hp_X9_size_0 E a S) (by decide) 0 rfl rfl rfl g_X9_175 hd_X0_shardOf ⟨Nat.le_of_ble_eq_true rfl, Nat.le_of_ble_eq_true rfl⟩ ⟨Nat.le_of_ble_eq_true rfl, Nat.le_of_ble_eq_true rfl⟩ (Nat.le_of_ble_eq_true rfl) rfl dX9_covered_43 (fun r hr => ?_)
        have hr := hr.symm
        subst hr
        refine r_iload_n (pc := 46) C (i := 2) dX9_covered_46 rfl rfl ?_
        refine r_iconst (pc := 47) C (v := (-1)) dX9_covered_47 (by decide) ?_
        refine r_ixor (pc := 48) C dX9_covered_48 ?_
        refine r_iand (pc := 49) C dX9_covered_49 ?_
        refine r_if_ne (pc := 50) C (tgt := 56) dX9_covered_50 rfl (fun c4 => ?_) (fun c4 => ?_)
        · rw [if_neg c4] at h
          refine r_iinc (pc := 56) C (v := (x4 + 1)) dX9_covered_56 rfl rfl (by decide) rfl ?_
          refine r_goto (pc := 59) C (tgt := 19) dX9_covered_59 rfl ?_
          refine r_weak (lSub_s (lSub_s (lSub_s (lSub_s (lSub_s lSub_e))))) ?_
          exact ih x1 x2 x3 (x4 + 1) q  h hq
        · rw [if_pos c4] at h
          refine r_iinc (pc := 53) C (v := (x3 + 1)) dX9_covered_53 rfl rfl (by decide) rfl ?_
          refine r_iinc (pc := 56) C (v := (x4 + 1)) dX9_covered_56 rfl rfl (by decide) rfl ?_
          refine r_goto (pc := 59) C (tgt := 19) dX9_covered_59 rfl ?_
          refine r_weak (lSub_s (lSub_s (lSub_s (lSub_s (lSub_s lSub_e))))) ?_
          exact ih x1 x2 (x3 + 1) (x4 + 1) q  h hq
def M_X9_covered_0 (k : Nat) (S : VV × VV × VV × VV × VV × Int32) (p0 : Int32) : Option (Int32 × Int32) := (M_X9_needTenant k S p0).bind fun q5 => (if q5 = 0 then (M_X0_shardOf k (S.1) p0).bind fun q7 => M_X9_covered_19 k S k p0 q7 (0 : Int32) (0 : Int32) else some (q5, (0 : Int32)))
set_option maxRecDepth 100000 in
set_option maxHeartbeats 4000000 in
theorem N_X9_covered_0 (C : CX E p l s m args meth c cX9_covered 5 RX9 (some .int) A) (a : Nat → Nat) (k : Nat) (S : VV × VV × VV × VV × VV × Int32) {post : Int32 → va_W → Prop} {px : Int32 → va_W → Prop} (hlt : l.stackTraces = false) (hno : ∀ x ∈ c.exceptionTable.toList, False) (hdc : DC s) :
    ∀ (p0 : Int32) (q : Int32 × Int32), M_X9_covered_0 k S p0 = some q → TI post px q.1 q.2 (wSg E a S) →
      WW E p l e rm_X9_covered s m args below meth c A 0 0 (QXI E below post px args s rm_X9_covered A) (wSg E a S) 5 [some (.ref (a 0)), some (.int p0), none, none, none] 0 [] := by
  intro p0 q  h hq
  unfold M_X9_covered_0 at h
  refine r_aload_n (pc := 0) C (i := 0) dX9_covered_0 rfl rfl ?_
  refine r_iload_n (pc := 1) C (i := 1) dX9_covered_1 rfl rfl ?_
  obtain ⟨q5, hq5, h⟩ := bnd h
  -- may throw
  by_cases c6 : q5 = 0
  case neg =>
    rw [if_neg c6] at h
    cases h
    exact r_callXV_V (Cn := RX9) (pc := 2) C [.int p0] hno hdc (c_X9_needTenant E l k a S p0 hlt hq5) [0, 1, 2, 3, 4, 5, 6, 7, 8, 9, 10, 11, 12, 13, 14, 15, 16, 17, 18, 19, 20, 21, 22, 23, 24, 25, 26, 27, 28, 29, 30, 31, 32, 33, 34, 35, 36, 37, 38, 39, 40, 41, 42, 43, 44, 45, 46, 47, 48, 49, 50, 51, 52, 53, 54, 55, 56, 57, 58, 59, 60] (hp_X9_worker_0 E a S) (by decide) 0 rfl rfl rfl g_X9_172 hd_X9_needTenant ⟨Nat.le_of_ble_eq_true rfl, Nat.le_of_ble_eq_true rfl⟩ ⟨Nat.le_of_ble_eq_true rfl, Nat.le_of_ble_eq_true rfl⟩ (Nat.le_of_ble_eq_true rfl) rfl dX9_covered_2 (fun cd w1 hx => ⟨(wSg E a S), by rw [hx.2.2]; exact (putW_self _ _ _ (hp_X9_worker_0 E a S)), by rw [hx.1]; exact TI_x c6 hq⟩) (fun w1 hx => absurd hx.1 c6)
  rw [if_pos c6] at h
  refine r_callXV_V (Cn := RX9) (pc := 2) C [.int p0] hno hdc (c_X9_needTenant E l k a S p0 hlt hq5) [0, 1, 2, 3, 4, 5, 6, 7, 8, 9, 10, 11, 12, 13, 14, 15, 16, 17, 18, 19, 20, 21, 22, 23, 24, 25, 26, 27, 28, 29, 30, 31, 32, 33, 34, 35, 36, 37, 38, 39, 40, 41, 42, 43, 44, 45, 46, 47, 48, 49, 50, 51, 52, 53, 54, 55, 56, 57, 58, 59, 60] (hp_X9_worker_0 E a S) (by decide) 0 rfl rfl rfl g_X9_172 hd_X9_needTenant ⟨Nat.le_of_ble_eq_true rfl, Nat.le_of_ble_eq_true rfl⟩ ⟨Nat.le_of_ble_eq_true rfl, Nat.le_of_ble_eq_true rfl⟩ (Nat.le_of_ble_eq_true rfl) rfl dX9_covered_2 (fun cd w1 hx => absurd c6 hx.2.1) (fun w1 hx => ?_)
  refine ⟨(wSg E a S), by rw [hx.2]; exact (putW_self _ _ _ (hp_X9_worker_0 E a S)), ?_⟩
  refine r_aload_n (pc := 5) C (i := 0) dX9_covered_5 rfl rfl ?_
  refine r_get (pc := 6) C gwX9 0 rfl rfl 0 (by decide) wm_2_15 rfl dX9_covered_6 ?_
  refine r_iload_n (pc := 9) C (i := 1) dX9_covered_9 rfl rfl ?_
  obtain ⟨q7, hq7, h⟩ := bnd h
  refine r_callVp_CI (Cn := RX0) (pc := 10) C [.int p0] (c_X0_shardOf E l k (fun i => a (i + 1)) (S.1) p0 hq7) [1, 2, 3, 4, 5, 6, 7, 8, 9, 10, 11, 12, 13, 14, 15, 16, 17, 18] (hp_X9_size_0 E a S) (by decide) 0 rfl rfl rfl g_X9_175 hd_X0_shardOf ⟨Nat.le_of_ble_eq_true rfl, Nat.le_of_ble_eq_true rfl⟩ ⟨Nat.le_of_ble_eq_true rfl, Nat.le_of_ble_eq_true rfl⟩ (Nat.le_of_ble_eq_true rfl) rfl dX9_covered_10 (fun r hr => ?_)
  have hr := hr.symm
  subst hr
  refine r_istore_n (pc := 13) C (i := 2) dX9_covered_13 rfl (by decide) rfl ?_
  refine r_iconst (pc := 14) C (v := 0) dX9_covered_14 (by decide) ?_
  refine r_istore_n (pc := 15) C (i := 3) dX9_covered_15 rfl (by decide) rfl ?_
  refine r_iconst (pc := 16) C (v := 0) dX9_covered_16 (by decide) ?_
  refine r_istore (pc := 17) C (i := 4) dX9_covered_17 (by decide) rfl ?_
  refine r_weak (lSub_s (lSub_s (lSub_s (lSub_s (lSub_s lSub_e))))) ?_
  exact N_X9_covered_19 C a k S hlt hno hdc k p0 q7 (0 : Int32) (0 : Int32) q  h hq
def M_X9_covered (k : Nat) (S : VV × VV × VV × VV × VV × Int32) (p0 : Int32) : Option (Int32 × Int32) := M_X9_covered_0 k S p0
set_option maxRecDepth 100000 in
set_option maxHeartbeats 4000000 in
theorem c_X9_covered (E : ENV) (l : Launch) (k : Nat) (a : Nat → Nat) (S : VV × VV × VV × VV × VV × Int32) (p0 : Int32) (hlt : l.stackTraces = false) {q : Int32 × Int32} (hm : M_X9_covered k S p0 = some q) : XI E l yX9_covered cX9_covered 5 (some .int) rm_X9_covered [.ref (a 0), .int p0] (wSg E a S) (fun r w' => q.1 = 0 ∧ r = q.2 ∧ w' = (wSg E a S)) (fun cd w' => cd = q.1 ∧ ¬ q.1 = 0 ∧ w' = (wSg E a S)) :=
  XI.of 3 (by decide) (Nat.le_of_ble_eq_true rfl) (fun p e s m below meth c A C hno hdc => r_weak (lSub_s (lSub_s (lSub_n (lSub_n (lSub_n lSub_e))))) (N_X9_covered_0 C a k S hlt hno hdc p0 q  hm (TI_of rfl)))
theorem hd_X0_leastSharedShard : yX0_leastSharedShard.cls = RX0 ∧ yX0_leastSharedShard.cls ≠ "java/lang/invoke/MethodHandle" ∧ yX0_leastSharedShard.cls ≠ "java/lang/invoke/VarHandle" ∧ (parseMethodDescriptor yX0_leastSharedShard.desc).map (fun d => d.parameters.length) = some 1 := by decide +kernel
theorem g_X9_232 : GoodIn GW (wsV RX9 232 RX0 yX0_leastSharedShard (wsG yX0_leastSharedShard cX0_leastSharedShard 6 (some .int))) := gw_V wm_4_118 wm_4_119 wm_4_120 wm_1_2 wm_4_121
-- ShardGuard.bestShard(I)I
theorem dX9_bestShard_0 : decode cX9_bestShard 0 = .ok (.aload_n 0, 1) := by decide +kernel
theorem dX9_bestShard_1 : decode cX9_bestShard 1 = .ok (.iload_n 1, 1) := by decide +kernel
theorem dX9_bestShard_2 : decode cX9_bestShard 2 = .ok (.invokevirtual 172, 3) := by decide +kernel
theorem dX9_bestShard_5 : decode cX9_bestShard 5 = .ok (.aload_n 0, 1) := by decide +kernel
theorem dX9_bestShard_6 : decode cX9_bestShard 6 = .ok (.getfield 12, 3) := by decide +kernel
theorem dX9_bestShard_9 : decode cX9_bestShard 9 = .ok (.iload_n 1, 1) := by decide +kernel
theorem dX9_bestShard_10 : decode cX9_bestShard 10 = .ok (.invokevirtual 232, 3) := by decide +kernel
theorem dX9_bestShard_13 : decode cX9_bestShard 13 = .ok (.ireturn, 1) := by decide +kernel
def rm_X9_bestShard : Room := { frames := 7, cells := 1, slots := 6, locals := 121 }
def M_X9_bestShard_0 (k : Nat) (S : VV × VV × VV × VV × VV × Int32) (p0 : Int32) : Option (Int32 × Int32) := (M_X9_needTenant k S p0).bind fun q1 => (if q1 = 0 then (M_X0_leastSharedShard k (S.1) p0).bind fun q3 => some ((0 : Int32), q3) else some (q1, (0 : Int32)))
set_option maxRecDepth 100000 in
set_option maxHeartbeats 4000000 in
theorem N_X9_bestShard_0 (C : CX E p l s m args meth c cX9_bestShard 2 RX9 (some .int) A) (a : Nat → Nat) (k : Nat) (S : VV × VV × VV × VV × VV × Int32) {post : Int32 → va_W → Prop} {px : Int32 → va_W → Prop} (hlt : l.stackTraces = false) (hno : ∀ x ∈ c.exceptionTable.toList, False) (hdc : DC s) :
    ∀ (p0 : Int32) (q : Int32 × Int32), M_X9_bestShard_0 k S p0 = some q → TI post px q.1 q.2 (wSg E a S) →
      WW E p l e rm_X9_bestShard s m args below meth c A 0 0 (QXI E below post px args s rm_X9_bestShard A) (wSg E a S) 2 [some (.ref (a 0)), some (.int p0)] 0 [] := by
  intro p0 q  h hq
  unfold M_X9_bestShard_0 at h
  refine r_aload_n (pc := 0) C (i := 0) dX9_bestShard_0 rfl rfl ?_
  refine r_iload_n (pc := 1) C (i := 1) dX9_bestShard_1 rfl rfl ?_
  obtain ⟨q1, hq1, h⟩ := bnd h
  -- may throw
  by_cases c2 : q1 = 0
  case neg =>
    rw [if_neg c2] at h
    cases h
    exact r_callXV_V (Cn := RX9) (pc := 2) C [.int p0] hno hdc (c_X9_needTenant E l k a S p0 hlt hq1) [0, 1, 2, 3, 4, 5, 6, 7, 8, 9, 10, 11, 12, 13, 14, 15, 16, 17, 18, 19, 20, 21, 22, 23, 24, 25, 26, 27, 28, 29, 30, 31, 32, 33, 34, 35, 36, 37, 38, 39, 40, 41, 42, 43, 44, 45, 46, 47, 48, 49, 50, 51, 52, 53, 54, 55, 56, 57, 58, 59, 60] (hp_X9_worker_0 E a S) (by decide) 0 rfl rfl rfl g_X9_172 hd_X9_needTenant ⟨Nat.le_of_ble_eq_true rfl, Nat.le_of_ble_eq_true rfl⟩ ⟨Nat.le_of_ble_eq_true rfl, Nat.le_of_ble_eq_true rfl⟩ (Nat.le_of_ble_eq_true rfl) rfl dX9_bestShard_2 (fun cd w1 hx => ⟨(wSg E a S), by rw [hx.2.2]; exact (putW_self _ _ _ (hp_X9_worker_0 E a S)), by rw [hx.1]; exact TI_x c2 hq⟩) (fun w1 hx => absurd hx.1 c2)
  rw [if_pos c2] at h
  refine r_callXV_V (Cn := RX9) (pc := 2) C [.int p0] hno hdc (c_X9_needTenant E l k a S p0 hlt hq1) [0, 1, 2, 3, 4, 5, 6, 7, 8, 9, 10, 11, 12, 13, 14, 15, 16, 17, 18, 19, 20, 21, 22, 23, 24, 25, 26, 27, 28, 29, 30, 31, 32, 33, 34, 35, 36, 37, 38, 39, 40, 41, 42, 43, 44, 45, 46, 47, 48, 49, 50, 51, 52, 53, 54, 55, 56, 57, 58, 59, 60] (hp_X9_worker_0 E a S) (by decide) 0 rfl rfl rfl g_X9_172 hd_X9_needTenant ⟨Nat.le_of_ble_eq_true rfl, Nat.le_of_ble_eq_true rfl⟩ ⟨Nat.le_of_ble_eq_true rfl, Nat.le_of_ble_eq_true rfl⟩ (Nat.le_of_ble_eq_true rfl) rfl dX9_bestShard_2 (fun cd w1 hx => absurd c2 hx.2.1) (fun w1 hx => ?_)
  refine ⟨(wSg E a S), by rw [hx.2]; exact (putW_self _ _ _ (hp_X9_worker_0 E a S)), ?_⟩
  refine r_aload_n (pc := 5) C (i := 0) dX9_bestShard_5 rfl rfl ?_
  refine r_get (pc := 6) C gwX9 0 rfl rfl 0 (by decide) wm_2_15 rfl dX9_bestShard_6 ?_
  refine r_iload_n (pc := 9) C (i := 1) dX9_bestShard_9 rfl rfl ?_
  obtain ⟨q3, hq3, h⟩ := bnd h
  refine r_callVp_CI (Cn := RX0) (pc := 10) C [.int p0] (c_X0_leastSharedShard E l k (fun i => a (i + 1)) (S.1) p0 hq3) [1, 2, 3, 4, 5, 6, 7, 8, 9, 10, 11, 12, 13, 14, 15, 16, 17, 18] (hp_X9_size_0 E a S) (by decide) 0 rfl rfl rfl g_X9_232 hd_X0_leastSharedShard ⟨Nat.le_of_ble_eq_true rfl, Nat.le_of_ble_eq_true rfl⟩ ⟨Nat.le_of_ble_eq_true rfl, Nat.le_of_ble_eq_true rfl⟩ (Nat.le_of_ble_eq_true rfl) rfl dX9_bestShard_10 (fun r hr => ?_)
  have hr := hr.symm
  subst hr
  cases h
  exact r_xI (r_ireti (pc := 13) C (TI_0 hq) (Nat.le_of_ble_eq_true rfl) (Nat.le_of_ble_eq_true rfl) dX9_bestShard_13)
def M_X9_bestShard (k : Nat) (S : VV × VV × VV × VV × VV × Int32) (p0 : Int32) : Option (Int32 × Int32) := M_X9_bestShard_0 k S p0
set_option maxRecDepth 100000 in
set_option maxHeartbeats 4000000 in
theorem c_X9_bestShard (E : ENV) (l : Launch) (k : Nat) (a : Nat → Nat) (S : VV × VV × VV × VV × VV × Int32) (p0 : Int32) (hlt : l.stackTraces = false) {q : Int32 × Int32} (hm : M_X9_bestShard k S p0 = some q) : XI E l yX9_bestShard cX9_bestShard 2 (some .int) rm_X9_bestShard [.ref (a 0), .int p0] (wSg E a S) (fun r w' => q.1 = 0 ∧ r = q.2 ∧ w' = (wSg E a S)) (fun cd w' => cd = q.1 ∧ ¬ q.1 = 0 ∧ w' = (wSg E a S)) :=
  XI.of 0 (by decide) (Nat.le_of_ble_eq_true rfl) (fun p e s m below meth c A C hno hdc => r_weak (lSub_s (lSub_s lSub_e)) (N_X9_bestShard_0 C a k S hlt hno hdc p0 q  hm (TI_of rfl)))
theorem hd_X9_needSeed : yX9_needSeed.cls = RX9 ∧ yX9_needSeed.cls ≠ "java/lang/invoke/MethodHandle" ∧ yX9_needSeed.cls ≠ "java/lang/invoke/VarHandle" ∧ (parseMethodDescriptor yX9_needSeed.desc).map (fun d => d.parameters.length) = some 1 := by decide +kernel
theorem g_X9_235 : GoodIn GW (va_wsS RX9 235 yX9_needSeed (wsG yX9_needSeed cX9_needSeed 1 none)) := gw_S wm_4_133 wm_4_134 wm_1_1 wm_4_135
-- ShardGuard.drawn(II)I
theorem dX9_drawn_0 : decode cX9_drawn 0 = .ok (.aload_n 0, 1) := by decide +kernel
theorem dX9_drawn_1 : decode cX9_drawn 1 = .ok (.iload_n 1, 1) := by decide +kernel
theorem dX9_drawn_2 : decode cX9_drawn 2 = .ok (.invokevirtual 172, 3) := by decide +kernel
theorem dX9_drawn_5 : decode cX9_drawn 5 = .ok (.iload_n 2, 1) := by decide +kernel
theorem dX9_drawn_6 : decode cX9_drawn 6 = .ok (.invokestatic 235, 3) := by decide +kernel
theorem dX9_drawn_9 : decode cX9_drawn 9 = .ok (.aload_n 0, 1) := by decide +kernel
theorem dX9_drawn_10 : decode cX9_drawn 10 = .ok (.getfield 16, 3) := by decide +kernel
theorem dX9_drawn_13 : decode cX9_drawn 13 = .ok (.aload_n 0, 1) := by decide +kernel
theorem dX9_drawn_14 : decode cX9_drawn 14 = .ok (.getfield 12, 3) := by decide +kernel
theorem dX9_drawn_17 : decode cX9_drawn 17 = .ok (.invokevirtual 81, 3) := by decide +kernel
theorem dX9_drawn_20 : decode cX9_drawn 20 = .ok (.aload_n 0, 1) := by decide +kernel
theorem dX9_drawn_21 : decode cX9_drawn 21 = .ok (.getfield 16, 3) := by decide +kernel
theorem dX9_drawn_24 : decode cX9_drawn 24 = .ok (.iload_n 2, 1) := by decide +kernel
theorem dX9_drawn_25 : decode cX9_drawn 25 = .ok (.invokevirtual 238, 3) := by decide +kernel
theorem dX9_drawn_28 : decode cX9_drawn 28 = .ok (.aload_n 0, 1) := by decide +kernel
theorem dX9_drawn_29 : decode cX9_drawn 29 = .ok (.getfield 16, 3) := by decide +kernel
theorem dX9_drawn_32 : decode cX9_drawn 32 = .ok (.iload_n 1, 1) := by decide +kernel
theorem dX9_drawn_33 : decode cX9_drawn 33 = .ok (.invokevirtual 175, 3) := by decide +kernel
theorem dX9_drawn_36 : decode cX9_drawn 36 = .ok (.ireturn, 1) := by decide +kernel
def rm_X9_drawn : Room := { frames := 7, cells := 2, slots := 12, locals := 143 }
def M_X9_drawn_0 (k : Nat) (p0 : Int32) (p1 : Int32) (S : VV × VV × VV × VV × VV × Int32) : Option (Int32 × Int32 × (VV × VV × VV × VV × VV × Int32)) := (M_X9_needTenant k S p0).bind fun q1 => (if q1 = 0 then (M_X9_needSeed k p1).bind fun q3 => (if q3 = 0 then (M_X0_copyFrom k (S.2.1) (S.1)).bind fun q5 => lt ((S.1, q5, S.2.2)) fun F6 => (M_X0_drawShards k (F6.2.1) p1).bind fun q7 => lt ((F6.1, q7, F6.2.2)) fun F8 => (M_X0_shardOf k (F8.2.1) p0).bind fun q9 => some ((0 : Int32), q9, F8) else some (q3, (0 : Int32), S)) else some (q1, (0 : Int32), S))
set_option maxRecDepth 100000 in
set_option maxHeartbeats 4000000 in
theorem N_X9_drawn_0 (C : CX E p l s m args meth c cX9_drawn 3 RX9 (some .int) A) (a : Nat → Nat) (k : Nat) {post : Int32 → va_W → Prop} {px : Int32 → va_W → Prop} (hlt : l.stackTraces = false) (hno : ∀ x ∈ c.exceptionTable.toList, False) (hdc : DC s) :
    ∀ (p0 : Int32) (p1 : Int32) (S : VV × VV × VV × VV × VV × Int32) (q : Int32 × Int32 × (VV × VV × VV × VV × VV × Int32)), M_X9_drawn_0 k p0 p1 S = some q → TI post px q.1 q.2.1 (wSg E a q.2.2) →
      WW E p l e rm_X9_drawn s m args below meth c A 0 0 (QXI E below post px args s rm_X9_drawn A) (wSg E a S) 3 [some (.ref (a 0)), some (.int p0), some (.int p1)] 0 [] := by
  intro p0 p1 S q  h hq
  unfold M_X9_drawn_0 at h
  refine r_aload_n (pc := 0) C (i := 0) dX9_drawn_0 rfl rfl ?_
  refine r_iload_n (pc := 1) C (i := 1) dX9_drawn_1 rfl rfl ?_
  obtain ⟨q1, hq1, h⟩ := bnd h
  -- may throw
  by_cases c2 : q1 = 0
  case neg =>
    rw [if_neg c2] at h
    cases h
    exact r_callXV_V (Cn := RX9) (pc := 2) C [.int p0] hno hdc (c_X9_needTenant E l k a S p0 hlt hq1) [0, 1, 2, 3, 4, 5, 6, 7, 8, 9, 10, 11, 12, 13, 14, 15, 16, 17, 18, 19, 20, 21, 22, 23, 24, 25, 26, 27, 28, 29, 30, 31, 32, 33, 34, 35, 36, 37, 38, 39, 40, 41, 42, 43, 44, 45, 46, 47, 48, 49, 50, 51, 52, 53, 54, 55, 56, 57, 58, 59, 60] (hp_X9_worker_0 E a S) (by decide) 0 rfl rfl rfl g_X9_172 hd_X9_needTenant ⟨Nat.le_of_ble_eq_true rfl, Nat.le_of_ble_eq_true rfl⟩ ⟨Nat.le_of_ble_eq_true rfl, Nat.le_of_ble_eq_true rfl⟩ (Nat.le_of_ble_eq_true rfl) rfl dX9_drawn_2 (fun cd w1 hx => ⟨(wSg E a S), by rw [hx.2.2]; exact (putW_self _ _ _ (hp_X9_worker_0 E a S)), by rw [hx.1]; exact TI_x c2 hq⟩) (fun w1 hx => absurd hx.1 c2)
  rw [if_pos c2] at h
  refine r_callXV_V (Cn := RX9) (pc := 2) C [.int p0] hno hdc (c_X9_needTenant E l k a S p0 hlt hq1) [0, 1, 2, 3, 4, 5, 6, 7, 8, 9, 10, 11, 12, 13, 14, 15, 16, 17, 18, 19, 20, 21, 22, 23, 24, 25, 26, 27, 28, 29, 30, 31, 32, 33, 34, 35, 36, 37, 38, 39, 40, 41, 42, 43, 44, 45, 46, 47, 48, 49, 50, 51, 52, 53, 54, 55, 56, 57, 58, 59, 60] (hp_X9_worker_0 E a S) (by decide) 0 rfl rfl rfl g_X9_172 hd_X9_needTenant ⟨Nat.le_of_ble_eq_true rfl, Nat.le_of_ble_eq_true rfl⟩ ⟨Nat.le_of_ble_eq_true rfl, Nat.le_of_ble_eq_true rfl⟩ (Nat.le_of_ble_eq_true rfl) rfl dX9_drawn_2 (fun cd w1 hx => absurd c2 hx.2.1) (fun w1 hx => ?_)
  refine ⟨(wSg E a S), by rw [hx.2]; exact (putW_self _ _ _ (hp_X9_worker_0 E a S)), ?_⟩
  refine r_iload_n (pc := 5) C (i := 2) dX9_drawn_5 rfl rfl ?_
  obtain ⟨q3, hq3, h⟩ := bnd h
  -- may throw
  by_cases c4 : q3 = 0
  case neg =>
    rw [if_neg c4] at h
    cases h
    exact r_callXS_V (pc := 6) C [.int p1] hno hdc (c_X9_needSeed E l k p1 hlt hq3) [] rfl (by decide) g_X9_235 hd_X9_needSeed.2 ⟨Nat.le_of_ble_eq_true rfl, Nat.le_of_ble_eq_true rfl⟩ ⟨Nat.le_of_ble_eq_true rfl, Nat.le_of_ble_eq_true rfl⟩ (Nat.le_of_ble_eq_true rfl) rfl dX9_drawn_6 (fun cd w1 hx => ⟨(wSg E a S), by rw [hx.2.2]; exact rfl, by rw [hx.1]; exact TI_x c4 hq⟩) (fun w1 hx => absurd hx.1 c4)
  rw [if_pos c4] at h
  refine r_callXS_V (pc := 6) C [.int p1] hno hdc (c_X9_needSeed E l k p1 hlt hq3) [] rfl (by decide) g_X9_235 hd_X9_needSeed.2 ⟨Nat.le_of_ble_eq_true rfl, Nat.le_of_ble_eq_true rfl⟩ ⟨Nat.le_of_ble_eq_true rfl, Nat.le_of_ble_eq_true rfl⟩ (Nat.le_of_ble_eq_true rfl) rfl dX9_drawn_6 (fun cd w1 hx => absurd c4 hx.2.1) (fun w1 hx => ?_)
  refine ⟨(wSg E a S), by rw [hx.2]; exact rfl, ?_⟩
  refine r_aload_n (pc := 9) C (i := 0) dX9_drawn_9 rfl rfl ?_
  refine r_get (pc := 10) C gwX9 0 rfl rfl 1 (by decide) wm_2_16 rfl dX9_drawn_10 ?_
  refine r_aload_n (pc := 13) C (i := 0) dX9_drawn_13 rfl rfl ?_
  refine r_get (pc := 14) C gwX9 0 rfl rfl 0 (by decide) wm_2_15 rfl dX9_drawn_14 ?_
  obtain ⟨q5, hq5, h⟩ := bnd h
  obtain ⟨F6, hF6, h⟩ := lt_e h
  refine r_callV_CV (Cn := RX0) (pc := 17) C [.ref (a 1)] (c_X0_copyFrom E l k (fun i => a (i + 19)) (fun i => a (i + 1)) (S.2.1) (S.1) hq5) [19, 20, 21, 22, 23, 24, 25, 26, 27, 28, 29, 30, 31, 32, 33, 34, 35, 36, 1, 2, 3, 4, 5, 6, 7, 8, 9, 10, 11, 12, 13, 14, 15, 16, 17, 18] (hp_X9_bestSeed_1 E a S) (by decide) 0 rfl rfl rfl g_X9_81 hd_X0_copyFrom ⟨Nat.le_of_ble_eq_true rfl, Nat.le_of_ble_eq_true rfl⟩ ⟨Nat.le_of_ble_eq_true rfl, Nat.le_of_ble_eq_true rfl⟩ (Nat.le_of_ble_eq_true rfl) rfl dX9_drawn_17 (fun w1 hw1 => ?_)
  subst hw1
  refine ⟨(wSg E a F6), by rw [hF6]; exact (pw_X9_bestSeed_1 E a S q5), ?_⟩
  refine r_aload_n (pc := 20) C (i := 0) dX9_drawn_20 rfl rfl ?_
  refine r_get (pc := 21) C gwX9 0 rfl rfl 1 (by decide) wm_2_16 rfl dX9_drawn_21 ?_
  refine r_iload_n (pc := 24) C (i := 2) dX9_drawn_24 rfl rfl ?_
  obtain ⟨q7, hq7, h⟩ := bnd h
  obtain ⟨F8, hF8, h⟩ := lt_e h
  refine r_callV_CV (Cn := RX0) (pc := 25) C [.int p1] (c_X0_drawShards E l k (fun i => a (i + 19)) (F6.2.1) p1 hq7) [19, 20, 21, 22, 23, 24, 25, 26, 27, 28, 29, 30, 31, 32, 33, 34, 35, 36] (hp_X9_bestSeed_0 E a F6) (by decide) 0 rfl rfl rfl g_X9_238 hd_X0_drawShards ⟨Nat.le_of_ble_eq_true rfl, Nat.le_of_ble_eq_true rfl⟩ ⟨Nat.le_of_ble_eq_true rfl, Nat.le_of_ble_eq_true rfl⟩ (Nat.le_of_ble_eq_true rfl) rfl dX9_drawn_25 (fun w1 hw1 => ?_)
  subst hw1
  refine ⟨(wSg E a F8), by rw [hF8]; exact (pw_X9_bestSeed_0 E a F6 q7), ?_⟩
  refine r_aload_n (pc := 28) C (i := 0) dX9_drawn_28 rfl rfl ?_
  refine r_get (pc := 29) C gwX9 0 rfl rfl 1 (by decide) wm_2_16 rfl dX9_drawn_29 ?_
  refine r_iload_n (pc := 32) C (i := 1) dX9_drawn_32 rfl rfl ?_
  obtain ⟨q9, hq9, h⟩ := bnd h
  refine r_callVp_CI (Cn := RX0) (pc := 33) C [.int p0] (c_X0_shardOf E l k (fun i => a (i + 19)) (F8.2.1) p0 hq9) [19, 20, 21, 22, 23, 24, 25, 26, 27, 28, 29, 30, 31, 32, 33, 34, 35, 36] (hp_X9_bestSeed_0 E a F8) (by decide) 0 rfl rfl rfl g_X9_175 hd_X0_shardOf ⟨Nat.le_of_ble_eq_true rfl, Nat.le_of_ble_eq_true rfl⟩ ⟨Nat.le_of_ble_eq_true rfl, Nat.le_of_ble_eq_true rfl⟩ (Nat.le_of_ble_eq_true rfl) rfl dX9_drawn_33 (fun r hr => ?_)
  have hr := hr.symm
  subst hr
  cases h
  exact r_xI (r_ireti (pc := 36) C (TI_0 hq) (Nat.le_of_ble_eq_true rfl) (Nat.le_of_ble_eq_true rfl) dX9_drawn_36)
def M_X9_drawn (k : Nat) (S : VV × VV × VV × VV × VV × Int32) (p0 : Int32) (p1 : Int32) : Option (Int32 × Int32 × (VV × VV × VV × VV × VV × Int32)) := M_X9_drawn_0 k p0 p1 S
set_option maxRecDepth 100000 in
set_option maxHeartbeats 4000000 in
theorem c_X9_drawn (E : ENV) (l : Launch) (k : Nat) (a : Nat → Nat) (S : VV × VV × VV × VV × VV × Int32) (p0 : Int32) (p1 : Int32) (hlt : l.stackTraces = false) {q : Int32 × Int32 × (VV × VV × VV × VV × VV × Int32)} (hm : M_X9_drawn k S p0 p1 = some q) : XI E l yX9_drawn cX9_drawn 3 (some .int) rm_X9_drawn [.ref (a 0), .int p0, .int p1] (wSg E a S) (fun r w' => q.1 = 0 ∧ r = q.2.1 ∧ w' = (wSg E a q.2.2)) (fun cd w' => cd = q.1 ∧ ¬ q.1 = 0 ∧ w' = (wSg E a q.2.2)) :=
  XI.of 0 (by decide) (Nat.le_of_ble_eq_true rfl) (fun p e s m below meth c A C hno hdc => r_weak (lSub_s (lSub_s (lSub_s lSub_e))) (N_X9_drawn_0 C a k hlt hno hdc p0 p1 S q  hm (TI_of rfl)))
theorem hd_X9_poisonDraft : yX9_poisonDraft.cls = RX9 ∧ yX9_poisonDraft.cls ≠ "java/lang/invoke/MethodHandle" ∧ yX9_poisonDraft.cls ≠ "java/lang/invoke/VarHandle" ∧ (parseMethodDescriptor yX9_poisonDraft.desc).map (fun d => d.parameters.length) = some 1 := by decide +kernel
theorem g_X9_241 : GoodIn GW (wsV RX9 241 RX9 yX9_poisonDraft (wsG yX9_poisonDraft cX9_poisonDraft 2 none)) := gw_V wm_4_144 wm_4_146 wm_0_8 wm_1_1 wm_4_147
-- ShardGuard.poisonKills(I)I
set_option maxHeartbeats 8000000 in
theorem pw_X9_poisonKills_0 (E : ENV) (a : Nat → Nat) (S : VV × VV × VV × VV × VV × Int32) (X0 : VV × VV × VV × VV × VV × Int32) : putW (wSg E a S) [0, 1, 2, 3, 4, 5, 6, 7, 8, 9, 10, 11, 12, 13, 14, 15, 16, 17, 18, 19, 20, 21, 22, 23, 24, 25, 26, 27, 28, 29, 30, 31, 32, 33, 34, 35, 36, 37, 38, 39, 40, 41, 42, 43, 44, 45, 46, 47, 48, 49, 50, 51, 52, 53, 54, 55, 56, 57, 58, 59, 60] (wSg E a X0) = some (wSg E a X0) := seg_put1 ([] : va_W) (wSg E a S) (wSg E a X0) ([] : va_W) (by first | (simp only [wSg, List.append_assoc, List.nil_append, List.append_nil]; done) | (simp only [wSg, List.append_assoc, List.nil_append, List.append_nil]; rfl) | rfl) (by first | (simp only [wSg, List.append_assoc, List.nil_append, List.append_nil]; done) | (simp only [wSg, List.append_assoc, List.nil_append, List.append_nil]; rfl) | rfl) 61 rfl rfl [0, 1, 2, 3, 4, 5, 6, 7, 8, 9, 10, 11, 12, 13, 14, 15, 16, 17, 18, 19, 20, 21, 22, 23, 24, 25, 26, 27, 28, 29, 30, 31, 32, 33, 34, 35, 36, 37, 38, 39, 40, 41, 42, 43, 44, 45, 46, 47, 48, 49, 50, 51, 52, 53, 54, 55, 56, 57, 58, 59, 60] (by first | (simp only [List.length_append, List.length_cons, List.length_nil, wFl_len, wTk_len, wTx_len]; rfl) | rfl)
theorem dX9_poisonKills_0 : decode cX9_poisonKills 0 = .ok (.aload_n 0, 1) := by decide +kernel
theorem dX9_poisonKills_1 : decode cX9_poisonKills 1 = .ok (.iload_n 1, 1) := by decide +kernel
theorem dX9_poisonKills_2 : decode cX9_poisonKills 2 = .ok (.invokevirtual 172, 3) := by decide +kernel
theorem dX9_poisonKills_5 : decode cX9_poisonKills 5 = .ok (.aload_n 0, 1) := by decide +kernel
theorem dX9_poisonKills_6 : decode cX9_poisonKills 6 = .ok (.iload_n 1, 1) := by decide +kernel
theorem dX9_poisonKills_7 : decode cX9_poisonKills 7 = .ok (.invokevirtual 241, 3) := by decide +kernel
theorem dX9_poisonKills_10 : decode cX9_poisonKills 10 = .ok (.iconst 0, 1) := by decide +kernel
theorem dX9_poisonKills_11 : decode cX9_poisonKills 11 = .ok (.istore_n 2, 1) := by decide +kernel
theorem dX9_poisonKills_12 : decode cX9_poisonKills 12 = .ok (.iload_n 2, 1) := by decide +kernel
theorem dX9_poisonKills_13 : decode cX9_poisonKills 13 = .ok (.sipush 200, 3) := by decide +kernel
theorem dX9_poisonKills_16 : decode cX9_poisonKills 16 = .ok (.if_icmp .ge 16, 3) := by decide +kernel
theorem dX9_poisonKills_19 : decode cX9_poisonKills 19 = .ok (.aload_n 0, 1) := by decide +kernel
theorem dX9_poisonKills_20 : decode cX9_poisonKills 20 = .ok (.getfield 16, 3) := by decide +kernel
theorem dX9_poisonKills_23 : decode cX9_poisonKills 23 = .ok (.invokevirtual 244, 3) := by decide +kernel
theorem dX9_poisonKills_26 : decode cX9_poisonKills 26 = .ok (.iinc 2 1, 3) := by decide +kernel
theorem dX9_poisonKills_29 : decode cX9_poisonKills 29 = .ok (.goto (-17), 3) := by decide +kernel
theorem dX9_poisonKills_32 : decode cX9_poisonKills 32 = .ok (.aload_n 0, 1) := by decide +kernel
theorem dX9_poisonKills_33 : decode cX9_poisonKills 33 = .ok (.getfield 16, 3) := by decide +kernel
theorem dX9_poisonKills_36 : decode cX9_poisonKills 36 = .ok (.getfield 118, 3) := by decide +kernel
theorem dX9_poisonKills_39 : decode cX9_poisonKills 39 = .ok (.getfield 122, 3) := by decide +kernel
theorem dX9_poisonKills_42 : decode cX9_poisonKills 42 = .ok (.ireturn, 1) := by decide +kernel
def rm_X9_poisonKills : Room := { frames := 7, cells := 1, slots := 6, locals := 189 }
def M_X9_poisonKills_12 (k : Nat) : Nat → (Int32) → (VV × VV × VV × VV × VV × Int32) → Option (Int32 × Int32 × (VV × VV × VV × VV × VV × Int32))
  | 0, _, _ => none
  | n + 1, x2, S => if (200 : Int32) ≤ x2 then (some ((0 : Int32), ((klF (S.2.1)) 0 0), S)) else ((M_X0_tick k (S.2.1)).bind fun q2 => lt ((S.1, q2, S.2.2)) fun F3 => M_X9_poisonKills_12 k n (x2 + 1) F3)
theorem M_X9_poisonKills_12_s (k : Nat) (n : Nat) (x2 : Int32) (S : VV × VV × VV × VV × VV × Int32) : M_X9_poisonKills_12 k (n + 1) x2 S = (if (200 : Int32) ≤ x2 then (some ((0 : Int32), ((klF (S.2.1)) 0 0), S)) else ((M_X0_tick k (S.2.1)).bind fun q2 => lt ((S.1, q2, S.2.2)) fun F3 => M_X9_poisonKills_12 k n (x2 + 1) F3)) := rfl
set_option maxRecDepth 100000 in
set_option maxHeartbeats 4000000 in
theorem N_X9_poisonKills_12 (C : CX E p l s m args meth c cX9_poisonKills 3 RX9 (some .int) A) (a : Nat → Nat) (k : Nat) {post : Int32 → va_W → Prop} {px : Int32 → va_W → Prop} (hlt : l.stackTraces = false) (hno : ∀ x ∈ c.exceptionTable.toList, False) (hdc : DC s) :
    ∀ (n : Nat) (x2 : Int32) (S : VV × VV × VV × VV × VV × Int32) (q : Int32 × Int32 × (VV × VV × VV × VV × VV × Int32)), M_X9_poisonKills_12 k n x2 S = some q → TI post px q.1 q.2.1 (wSg E a q.2.2) →
      WW E p l e rm_X9_poisonKills s m args below meth c A 1 6 (QXI E below post px args s rm_X9_poisonKills A) (wSg E a S) 3 [some (.ref (a 0)), none, some (.int x2)] 12 [] := by
  intro n
  induction n with
  | zero => intro x2 S q  h _; cases h
  | succ n ih =>
    intro x2 S q  h hq
    rw [M_X9_poisonKills_12_s] at h
    refine r_iload_n (pc := 12) C (i := 2) dX9_poisonKills_12 rfl rfl ?_
    refine r_sipush (pc := 13) C (v := 200) dX9_poisonKills_13 (by decide) ?_
    refine r_icmp_ge (pc := 16) C (tgt := 32) dX9_poisonKills_16 rfl (fun c1 => ?_) (fun c1 => ?_)
    · rw [if_pos c1] at h
      refine r_aload_n (pc := 32) C (i := 0) dX9_poisonKills_32 rfl rfl ?_
      refine r_get (pc := 33) C gwX9 0 rfl rfl 1 (by decide) wm_2_16 rfl dX9_poisonKills_33 ?_
      refine r_get (pc := 36) C gwX0 19 rfl rfl 10 (by decide) wm_1_120 rfl dX9_poisonKills_36 ?_
      refine r_get (pc := 39) C gwX3 28 rfl rfl 0 (by decide) wm_1_78 rfl dX9_poisonKills_39 ?_
      cases h
      exact r_xI (r_ireti (pc := 42) C (TI_0 hq) (Nat.le_of_ble_eq_true rfl) (Nat.le_of_ble_eq_true rfl) dX9_poisonKills_42)
    · rw [if_neg c1] at h
      refine r_aload_n (pc := 19) C (i := 0) dX9_poisonKills_19 rfl rfl ?_
      refine r_get (pc := 20) C gwX9 0 rfl rfl 1 (by decide) wm_2_16 rfl dX9_poisonKills_20 ?_
      obtain ⟨q2, hq2, h⟩ := bnd h
      obtain ⟨F3, hF3, h⟩ := lt_e h
      refine r_callV_CV (Cn := RX0) (pc := 23) C [] (c_X0_tick E l k (fun i => a (i + 19)) (S.2.1) hq2) [19, 20, 21, 22, 23, 24, 25, 26, 27, 28, 29, 30, 31, 32, 33, 34, 35, 36] (hp_X9_bestSeed_0 E a S) (by decide) 0 rfl rfl rfl g_X9_244 hd_X0_tick ⟨Nat.le_of_ble_eq_true rfl, Nat.le_of_ble_eq_true rfl⟩ ⟨Nat.le_of_ble_eq_true rfl, Nat.le_of_ble_eq_true rfl⟩ (Nat.le_of_ble_eq_true rfl) rfl dX9_poisonKills_23 (fun w1 hw1 => ?_)
      subst hw1
      refine ⟨(wSg E a F3), by rw [hF3]; exact (pw_X9_bestSeed_0 E a S q2), ?_⟩
      refine r_iinc (pc := 26) C (v := (x2 + 1)) dX9_poisonKills_26 rfl rfl (by decide) rfl ?_
      refine r_goto (pc := 29) C (tgt := 12) dX9_poisonKills_29 rfl ?_
      refine r_weak (lSub_s (lSub_n (lSub_s lSub_e))) ?_
      exact ih (x2 + 1) F3 q  h hq
def M_X9_poisonKills_0 (k : Nat) (p0 : Int32) (S : VV × VV × VV × VV × VV × Int32) : Option (Int32 × Int32 × (VV × VV × VV × VV × VV × Int32)) := (M_X9_needTenant k S p0).bind fun q4 => (if q4 = 0 then (M_X9_poisonDraft k S p0).bind fun q6 => M_X9_poisonKills_12 k k (0 : Int32) q6 else some (q4, (0 : Int32), S))
set_option maxRecDepth 100000 in
set_option maxHeartbeats 4000000 in
theorem N_X9_poisonKills_0 (C : CX E p l s m args meth c cX9_poisonKills 3 RX9 (some .int) A) (a : Nat → Nat) (k : Nat) {post : Int32 → va_W → Prop} {px : Int32 → va_W → Prop} (hlt : l.stackTraces = false) (hno : ∀ x ∈ c.exceptionTable.toList, False) (hdc : DC s) :
    ∀ (p0 : Int32) (S : VV × VV × VV × VV × VV × Int32) (q : Int32 × Int32 × (VV × VV × VV × VV × VV × Int32)), M_X9_poisonKills_0 k p0 S = some q → TI post px q.1 q.2.1 (wSg E a q.2.2) →
      WW E p l e rm_X9_poisonKills s m args below meth c A 0 0 (QXI E below post px args s rm_X9_poisonKills A) (wSg E a S) 3 [some (.ref (a 0)), some (.int p0), none] 0 [] := by
  intro p0 S q  h hq
  unfold M_X9_poisonKills_0 at h
  refine r_aload_n (pc := 0) C (i := 0) dX9_poisonKills_0 rfl rfl ?_
  refine r_iload_n (pc := 1) C (i := 1) dX9_poisonKills_1 rfl rfl ?_
  obtain ⟨q4, hq4, h⟩ := bnd h
  -- may throw
  by_cases c5 : q4 = 0
  case neg =>
    rw [if_neg c5] at h
    cases h
    exact r_callXV_V (Cn := RX9) (pc := 2) C [.int p0] hno hdc (c_X9_needTenant E l k a S p0 hlt hq4) [0, 1, 2, 3, 4, 5, 6, 7, 8, 9, 10, 11, 12, 13, 14, 15, 16, 17, 18, 19, 20, 21, 22, 23, 24, 25, 26, 27, 28, 29, 30, 31, 32, 33, 34, 35, 36, 37, 38, 39, 40, 41, 42, 43, 44, 45, 46, 47, 48, 49, 50, 51, 52, 53, 54, 55, 56, 57, 58, 59, 60] (hp_X9_worker_0 E a S) (by decide) 0 rfl rfl rfl g_X9_172 hd_X9_needTenant ⟨Nat.le_of_ble_eq_true rfl, Nat.le_of_ble_eq_true rfl⟩ ⟨Nat.le_of_ble_eq_true rfl, Nat.le_of_ble_eq_true rfl⟩ (Nat.le_of_ble_eq_true rfl) rfl dX9_poisonKills_2 (fun cd w1 hx => ⟨(wSg E a S), by rw [hx.2.2]; exact (putW_self _ _ _ (hp_X9_worker_0 E a S)), by rw [hx.1]; exact TI_x c5 hq⟩) (fun w1 hx => absurd hx.1 c5)
  rw [if_pos c5] at h
  refine r_callXV_V (Cn := RX9) (pc := 2) C [.int p0] hno hdc (c_X9_needTenant E l k a S p0 hlt hq4) [0, 1, 2, 3, 4, 5, 6, 7, 8, 9, 10, 11, 12, 13, 14, 15, 16, 17, 18, 19, 20, 21, 22, 23, 24, 25, 26, 27, 28, 29, 30, 31, 32, 33, 34, 35, 36, 37, 38, 39, 40, 41, 42, 43, 44, 45, 46, 47, 48, 49, 50, 51, 52, 53, 54, 55, 56, 57, 58, 59, 60] (hp_X9_worker_0 E a S) (by decide) 0 rfl rfl rfl g_X9_172 hd_X9_needTenant ⟨Nat.le_of_ble_eq_true rfl, Nat.le_of_ble_eq_true rfl⟩ ⟨Nat.le_of_ble_eq_true rfl, Nat.le_of_ble_eq_true rfl⟩ (Nat.le_of_ble_eq_true rfl) rfl dX9_poisonKills_2 (fun cd w1 hx => absurd c5 hx.2.1) (fun w1 hx => ?_)
  refine ⟨(wSg E a S), by rw [hx.2]; exact (putW_self _ _ _ (hp_X9_worker_0 E a S)), ?_⟩
  refine r_aload_n (pc := 5) C (i := 0) dX9_poisonKills_5 rfl rfl ?_
  refine r_iload_n (pc := 6) C (i := 1) dX9_poisonKills_6 rfl rfl ?_
  obtain ⟨q6, hq6, h⟩ := bnd h
  refine r_callV_CV (Cn := RX9) (pc := 7) C [.int p0] (c_X9_poisonDraft E l k a S p0 hq6) [0, 1, 2, 3, 4, 5, 6, 7, 8, 9, 10, 11, 12, 13, 14, 15, 16, 17, 18, 19, 20, 21, 22, 23, 24, 25, 26, 27, 28, 29, 30, 31, 32, 33, 34, 35, 36, 37, 38, 39, 40, 41, 42, 43, 44, 45, 46, 47, 48, 49, 50, 51, 52, 53, 54, 55, 56, 57, 58, 59, 60] (hp_X9_worker_0 E a S) (by decide) 0 rfl rfl rfl g_X9_241 hd_X9_poisonDraft ⟨Nat.le_of_ble_eq_true rfl, Nat.le_of_ble_eq_true rfl⟩ ⟨Nat.le_of_ble_eq_true rfl, Nat.le_of_ble_eq_true rfl⟩ (Nat.le_of_ble_eq_true rfl) rfl dX9_poisonKills_7 (fun w1 hw1 => ?_)
  subst hw1
  refine ⟨(wSg E a q6), by exact (pw_X9_poisonKills_0 E a S q6), ?_⟩
  refine r_iconst (pc := 10) C (v := 0) dX9_poisonKills_10 (by decide) ?_
  refine r_istore_n (pc := 11) C (i := 2) dX9_poisonKills_11 rfl (by decide) rfl ?_
  refine r_weak (lSub_s (lSub_n (lSub_s lSub_e))) ?_
  exact N_X9_poisonKills_12 C a k hlt hno hdc k (0 : Int32) q6 q  h hq
def M_X9_poisonKills (k : Nat) (S : VV × VV × VV × VV × VV × Int32) (p0 : Int32) : Option (Int32 × Int32 × (VV × VV × VV × VV × VV × Int32)) := M_X9_poisonKills_0 k p0 S
set_option maxRecDepth 100000 in
set_option maxHeartbeats 4000000 in
theorem c_X9_poisonKills (E : ENV) (l : Launch) (k : Nat) (a : Nat → Nat) (S : VV × VV × VV × VV × VV × Int32) (p0 : Int32) (hlt : l.stackTraces = false) {q : Int32 × Int32 × (VV × VV × VV × VV × VV × Int32)} (hm : M_X9_poisonKills k S p0 = some q) : XI E l yX9_poisonKills cX9_poisonKills 3 (some .int) rm_X9_poisonKills [.ref (a 0), .int p0] (wSg E a S) (fun r w' => q.1 = 0 ∧ r = q.2.1 ∧ w' = (wSg E a q.2.2)) (fun cd w' => cd = q.1 ∧ ¬ q.1 = 0 ∧ w' = (wSg E a q.2.2)) :=
  XI.of 1 (by decide) (Nat.le_of_ble_eq_true rfl) (fun p e s m below meth c A C hno hdc => r_weak (lSub_s (lSub_s (lSub_n lSub_e))) (N_X9_poisonKills_0 C a k hlt hno hdc p0 S q  hm (TI_of rfl)))
-- ShardGuard.poisonHarm(I)I
theorem dX9_poisonHarm_0 : decode cX9_poisonHarm 0 = .ok (.aload_n 0, 1) := by decide +kernel
theorem dX9_poisonHarm_1 : decode cX9_poisonHarm 1 = .ok (.iload_n 1, 1) := by decide +kernel
theorem dX9_poisonHarm_2 : decode cX9_poisonHarm 2 = .ok (.invokevirtual 172, 3) := by decide +kernel
theorem dX9_poisonHarm_5 : decode cX9_poisonHarm 5 = .ok (.aload_n 0, 1) := by decide +kernel
theorem dX9_poisonHarm_6 : decode cX9_poisonHarm 6 = .ok (.iload_n 1, 1) := by decide +kernel
theorem dX9_poisonHarm_7 : decode cX9_poisonHarm 7 = .ok (.invokevirtual 241, 3) := by decide +kernel
theorem dX9_poisonHarm_10 : decode cX9_poisonHarm 10 = .ok (.iconst 0, 1) := by decide +kernel
theorem dX9_poisonHarm_11 : decode cX9_poisonHarm 11 = .ok (.istore_n 2, 1) := by decide +kernel
theorem dX9_poisonHarm_12 : decode cX9_poisonHarm 12 = .ok (.iconst 0, 1) := by decide +kernel
theorem dX9_poisonHarm_13 : decode cX9_poisonHarm 13 = .ok (.istore_n 3, 1) := by decide +kernel
theorem dX9_poisonHarm_14 : decode cX9_poisonHarm 14 = .ok (.iload_n 3, 1) := by decide +kernel
theorem dX9_poisonHarm_15 : decode cX9_poisonHarm 15 = .ok (.sipush 200, 3) := by decide +kernel
theorem dX9_poisonHarm_18 : decode cX9_poisonHarm 18 = .ok (.if_icmp .ge 26, 3) := by decide +kernel
theorem dX9_poisonHarm_21 : decode cX9_poisonHarm 21 = .ok (.aload_n 0, 1) := by decide +kernel
theorem dX9_poisonHarm_22 : decode cX9_poisonHarm 22 = .ok (.getfield 16, 3) := by decide +kernel
theorem dX9_poisonHarm_25 : decode cX9_poisonHarm 25 = .ok (.invokevirtual 244, 3) := by decide +kernel
theorem dX9_poisonHarm_28 : decode cX9_poisonHarm 28 = .ok (.iload_n 2, 1) := by decide +kernel
theorem dX9_poisonHarm_29 : decode cX9_poisonHarm 29 = .ok (.aload_n 0, 1) := by decide +kernel
theorem dX9_poisonHarm_30 : decode cX9_poisonHarm 30 = .ok (.getfield 16, 3) := by decide +kernel
theorem dX9_poisonHarm_33 : decode cX9_poisonHarm 33 = .ok (.invokevirtual 127, 3) := by decide +kernel
theorem dX9_poisonHarm_36 : decode cX9_poisonHarm 36 = .ok (.ior, 1) := by decide +kernel
theorem dX9_poisonHarm_37 : decode cX9_poisonHarm 37 = .ok (.istore_n 2, 1) := by decide +kernel
theorem dX9_poisonHarm_38 : decode cX9_poisonHarm 38 = .ok (.iinc 3 1, 3) := by decide +kernel
theorem dX9_poisonHarm_41 : decode cX9_poisonHarm 41 = .ok (.goto (-27), 3) := by decide +kernel
theorem dX9_poisonHarm_44 : decode cX9_poisonHarm 44 = .ok (.iload_n 2, 1) := by decide +kernel
theorem dX9_poisonHarm_45 : decode cX9_poisonHarm 45 = .ok (.iconst 1, 1) := by decide +kernel
theorem dX9_poisonHarm_46 : decode cX9_poisonHarm 46 = .ok (.iload_n 1, 1) := by decide +kernel
theorem dX9_poisonHarm_47 : decode cX9_poisonHarm 47 = .ok (.ishl, 1) := by decide +kernel
theorem dX9_poisonHarm_48 : decode cX9_poisonHarm 48 = .ok (.iconst (-1), 1) := by decide +kernel
theorem dX9_poisonHarm_49 : decode cX9_poisonHarm 49 = .ok (.ixor, 1) := by decide +kernel
theorem dX9_poisonHarm_50 : decode cX9_poisonHarm 50 = .ok (.iand, 1) := by decide +kernel
theorem dX9_poisonHarm_51 : decode cX9_poisonHarm 51 = .ok (.invokestatic 109, 3) := by decide +kernel
theorem dX9_poisonHarm_54 : decode cX9_poisonHarm 54 = .ok (.ireturn, 1) := by decide +kernel
def rm_X9_poisonHarm : Room := { frames := 7, cells := 1, slots := 6, locals := 189 }
def M_X9_poisonHarm_14 (k : Nat) : Nat → (Int32) → (Int32) → (Int32) → (VV × VV × VV × VV × VV × Int32) → Option (Int32 × Int32 × (VV × VV × VV × VV × VV × Int32))
  | 0, _, _, _, _ => none
  | n + 1, x1, x2, x3, S => if (200 : Int32) ≤ x3 then ((M_J6_bitCount_0f7a4 k (x2 &&& (((1 : Int32) <<< (x1 &&& 31)) ^^^ (-1 : Int32)))).bind fun q2 => some ((0 : Int32), q2, S)) else ((M_X0_tick k (S.2.1)).bind fun q3 => lt ((S.1, q3, S.2.2)) fun F4 => (M_X0_cutOffMask k (F4.2.1)).bind fun q5 => lt (x2 ||| q5) fun v6 => M_X9_poisonHarm_14 k n x1 v6 (x3 + 1) F4)
theorem M_X9_poisonHarm_14_s (k : Nat) (n : Nat) (x1 : Int32) (x2 : Int32) (x3 : Int32) (S : VV × VV × VV × VV × VV × Int32) : M_X9_poisonHarm_14 k (n + 1) x1 x2 x3 S = (if (200 : Int32) ≤ x3 then ((M_J6_bitCount_0f7a4 k (x2 &&& (((1 : Int32) <<< (x1 &&& 31)) ^^^ (-1 : Int32)))).bind fun q2 => some ((0 : Int32), q2, S)) else ((M_X0_tick k (S.2.1)).bind fun q3 => lt ((S.1, q3, S.2.2)) fun F4 => (M_X0_cutOffMask k (F4.2.1)).bind fun q5 => lt (x2 ||| q5) fun v6 => M_X9_poisonHarm_14 k n x1 v6 (x3 + 1) F4)) := rfl
set_option maxRecDepth 100000 in
set_option maxHeartbeats 4000000 in
theorem N_X9_poisonHarm_14 (C : CX E p l s m args meth c cX9_poisonHarm 4 RX9 (some .int) A) (a : Nat → Nat) (k : Nat) {post : Int32 → va_W → Prop} {px : Int32 → va_W → Prop} (hlt : l.stackTraces = false) (hno : ∀ x ∈ c.exceptionTable.toList, False) (hdc : DC s) :
    ∀ (n : Nat) (x1 : Int32) (x2 : Int32) (x3 : Int32) (S : VV × VV × VV × VV × VV × Int32) (q : Int32 × Int32 × (VV × VV × VV × VV × VV × Int32)), M_X9_poisonHarm_14 k n x1 x2 x3 S = some q → TI post px q.1 q.2.1 (wSg E a q.2.2) →
      WW E p l e rm_X9_poisonHarm s m args below meth c A 1 6 (QXI E below post px args s rm_X9_poisonHarm A) (wSg E a S) 4 [some (.ref (a 0)), some (.int x1), some (.int x2), some (.int x3)] 14 [] := by
  intro n
  induction n with
  | zero => intro x1 x2 x3 S q  h _; cases h
  | succ n ih =>
    intro x1 x2 x3 S q  h hq
    rw [M_X9_poisonHarm_14_s] at h
    refine r_iload_n (pc := 14) C (i := 3) dX9_poisonHarm_14 rfl rfl ?_
    refine r_sipush (pc := 15) C (v := 200) dX9_poisonHarm_15 (by decide) ?_
    refine r_icmp_ge (pc := 18) C (tgt := 44) dX9_poisonHarm_18 rfl (fun c1 => ?_) (fun c1 => ?_)
    · rw [if_pos c1] at h
      refine r_iload_n (pc := 44) C (i := 2) dX9_poisonHarm_44 rfl rfl ?_
      refine r_iconst (pc := 45) C (v := 1) dX9_poisonHarm_45 (by decide) ?_
      refine r_iload_n (pc := 46) C (i := 1) dX9_poisonHarm_46 rfl rfl ?_
      refine r_ishl (pc := 47) C dX9_poisonHarm_47 ?_
      refine r_iconst (pc := 48) C (v := (-1)) dX9_poisonHarm_48 (by decide) ?_
      refine r_ixor (pc := 49) C dX9_poisonHarm_49 ?_
      refine r_iand (pc := 50) C dX9_poisonHarm_50 ?_
      obtain ⟨q2, hq2, h⟩ := bnd h
      refine r_callSp_CI (pc := 51) C [.int (x2 &&& (((1 : Int32) <<< (x1 &&& 31)) ^^^ (-1 : Int32)))] (c_J6_bitCount_0f7a4 E l k (x2 &&& (((1 : Int32) <<< (x1 &&& 31)) ^^^ (-1 : Int32))) hq2) [] rfl (by decide) g_X9_109 hd_J6_bitCount_0f7a4.2 ⟨Nat.le_of_ble_eq_true rfl, Nat.le_of_ble_eq_true rfl⟩ ⟨Nat.le_of_ble_eq_true rfl, Nat.le_of_ble_eq_true rfl⟩ (Nat.le_of_ble_eq_true rfl) rfl dX9_poisonHarm_51 (fun r hr => ?_)
      have hr := hr.symm
      subst hr
      cases h
      exact r_xI (r_ireti (pc := 54) C (TI_0 hq) (Nat.le_of_ble_eq_true rfl) (Nat.le_of_ble_eq_true rfl) dX9_poisonHarm_54)
    · rw [if_neg c1] at h
      refine r_aload_n (pc := 21) C (i := 0) dX9_poisonHarm_21 rfl rfl ?_
      refine r_get (pc := 22) C gwX9 0 rfl rfl 1 (by decide) wm_2_16 rfl dX9_poisonHarm_22 ?_
      obtain ⟨q3, hq3, h⟩ := bnd h
      obtain ⟨F4, hF4, h⟩ := lt_e h
      refine r_callV_CV (Cn := RX0) (pc := 25) C [] (c_X0_tick E l k (fun i => a (i + 19)) (S.2.1) hq3) [19, 20, 21, 22, 23, 24, 25, 26, 27, 28, 29, 30, 31, 32, 33, 34, 35, 36] (hp_X9_bestSeed_0 E a S) (by decide) 0 rfl rfl rfl g_X9_244 hd_X0_tick ⟨Nat.le_of_ble_eq_true rfl, Nat.le_of_ble_eq_true rfl⟩ ⟨Nat.le_of_ble_eq_true rfl, Nat.le_of_ble_eq_true rfl⟩ (Nat.le_of_ble_eq_true rfl) rfl dX9_poisonHarm_25 (fun w1 hw1 => ?_)
      subst hw1
      refine ⟨(wSg E a F4), by rw [hF4]; exact (pw_X9_bestSeed_0 E a S q3), ?_⟩
      refine r_iload_n (pc := 28) C (i := 2) dX9_poisonHarm_28 rfl rfl ?_
      refine r_aload_n (pc := 29) C (i := 0) dX9_poisonHarm_29 rfl rfl ?_
      refine r_get (pc := 30) C gwX9 0 rfl rfl 1 (by decide) wm_2_16 rfl dX9_poisonHarm_30 ?_
      obtain ⟨q5, hq5, h⟩ := bnd h
      refine r_callVp_CI (Cn := RX0) (pc := 33) C [] (c_X0_cutOffMask E l k (fun i => a (i + 19)) (F4.2.1) hq5) [19, 20, 21, 22, 23, 24, 25, 26, 27, 28, 29, 30, 31, 32, 33, 34, 35, 36] (hp_X9_bestSeed_0 E a F4) (by decide) 0 rfl rfl rfl g_X9_127 hd_X0_cutOffMask ⟨Nat.le_of_ble_eq_true rfl, Nat.le_of_ble_eq_true rfl⟩ ⟨Nat.le_of_ble_eq_true rfl, Nat.le_of_ble_eq_true rfl⟩ (Nat.le_of_ble_eq_true rfl) rfl dX9_poisonHarm_33 (fun r hr => ?_)
      have hr := hr.symm
      subst hr
      refine r_ior (pc := 36) C dX9_poisonHarm_36 ?_
      obtain ⟨v6, hv6, h⟩ := lt_e h
      refine r_topi hv6 ?_
      refine r_istore_n (pc := 37) C (i := 2) dX9_poisonHarm_37 rfl (by decide) rfl ?_
      refine r_iinc (pc := 38) C (v := (x3 + 1)) dX9_poisonHarm_38 rfl rfl (by decide) rfl ?_
      refine r_goto (pc := 41) C (tgt := 14) dX9_poisonHarm_41 rfl ?_
      refine r_weak (lSub_s (lSub_s (lSub_s (lSub_s lSub_e)))) ?_
      exact ih x1 v6 (x3 + 1) F4 q  h hq
def M_X9_poisonHarm_0 (k : Nat) (p0 : Int32) (S : VV × VV × VV × VV × VV × Int32) : Option (Int32 × Int32 × (VV × VV × VV × VV × VV × Int32)) := (M_X9_needTenant k S p0).bind fun q7 => (if q7 = 0 then (M_X9_poisonDraft k S p0).bind fun q9 => M_X9_poisonHarm_14 k k p0 (0 : Int32) (0 : Int32) q9 else some (q7, (0 : Int32), S))
set_option maxRecDepth 100000 in
set_option maxHeartbeats 4000000 in
theorem N_X9_poisonHarm_0 (C : CX E p l s m args meth c cX9_poisonHarm 4 RX9 (some .int) A) (a : Nat → Nat) (k : Nat) {post : Int32 → va_W → Prop} {px : Int32 → va_W → Prop} (hlt : l.stackTraces = false) (hno : ∀ x ∈ c.exceptionTable.toList, False) (hdc : DC s) :
    ∀ (p0 : Int32) (S : VV × VV × VV × VV × VV × Int32) (q : Int32 × Int32 × (VV × VV × VV × VV × VV × Int32)), M_X9_poisonHarm_0 k p0 S = some q → TI post px q.1 q.2.1 (wSg E a q.2.2) →
      WW E p l e rm_X9_poisonHarm s m args below meth c A 0 0 (QXI E below post px args s rm_X9_poisonHarm A) (wSg E a S) 4 [some (.ref (a 0)), some (.int p0), none, none] 0 [] := by
  intro p0 S q  h hq
  unfold M_X9_poisonHarm_0 at h
  refine r_aload_n (pc := 0) C (i := 0) dX9_poisonHarm_0 rfl rfl ?_
  refine r_iload_n (pc := 1) C (i := 1) dX9_poisonHarm_1 rfl rfl ?_
  obtain ⟨q7, hq7, h⟩ := bnd h
  -- may throw
  by_cases c8 : q7 = 0
  case neg =>
    rw [if_neg c8] at h
    cases h
    exact r_callXV_V (Cn := RX9) (pc := 2) C [.int p0] hno hdc (c_X9_needTenant E l k a S p0 hlt hq7) [0, 1, 2, 3, 4, 5, 6, 7, 8, 9, 10, 11, 12, 13, 14, 15, 16, 17, 18, 19, 20, 21, 22, 23, 24, 25, 26, 27, 28, 29, 30, 31, 32, 33, 34, 35, 36, 37, 38, 39, 40, 41, 42, 43, 44, 45, 46, 47, 48, 49, 50, 51, 52, 53, 54, 55, 56, 57, 58, 59, 60] (hp_X9_worker_0 E a S) (by decide) 0 rfl rfl rfl g_X9_172 hd_X9_needTenant ⟨Nat.le_of_ble_eq_true rfl, Nat.le_of_ble_eq_true rfl⟩ ⟨Nat.le_of_ble_eq_true rfl, Nat.le_of_ble_eq_true rfl⟩ (Nat.le_of_ble_eq_true rfl) rfl dX9_poisonHarm_2 (fun cd w1 hx => ⟨(wSg E a S), by rw [hx.2.2]; exact (putW_self _ _ _ (hp_X9_worker_0 E a S)), by rw [hx.1]; exact TI_x c8 hq⟩) (fun w1 hx => absurd hx.1 c8)
  rw [if_pos c8] at h
  refine r_callXV_V (Cn := RX9) (pc := 2) C [.int p0] hno hdc (c_X9_needTenant E l k a S p0 hlt hq7) [0, 1, 2, 3, 4, 5, 6, 7, 8, 9, 10, 11, 12, 13, 14, 15, 16, 17, 18, 19, 20, 21, 22, 23, 24, 25, 26, 27, 28, 29, 30, 31, 32, 33, 34, 35, 36, 37, 38, 39, 40, 41, 42, 43, 44, 45, 46, 47, 48, 49, 50, 51, 52, 53, 54, 55, 56, 57, 58, 59, 60] (hp_X9_worker_0 E a S) (by decide) 0 rfl rfl rfl g_X9_172 hd_X9_needTenant ⟨Nat.le_of_ble_eq_true rfl, Nat.le_of_ble_eq_true rfl⟩ ⟨Nat.le_of_ble_eq_true rfl, Nat.le_of_ble_eq_true rfl⟩ (Nat.le_of_ble_eq_true rfl) rfl dX9_poisonHarm_2 (fun cd w1 hx => absurd c8 hx.2.1) (fun w1 hx => ?_)
  refine ⟨(wSg E a S), by rw [hx.2]; exact (putW_self _ _ _ (hp_X9_worker_0 E a S)), ?_⟩
  refine r_aload_n (pc := 5) C (i := 0) dX9_poisonHarm_5 rfl rfl ?_
  refine r_iload_n (pc := 6) C (i := 1) dX9_poisonHarm_6 rfl rfl ?_
  obtain ⟨q9, hq9, h⟩ := bnd h
  refine r_callV_CV (Cn := RX9) (pc := 7) C [.int p0] (c_X9_poisonDraft E l k a S p0 hq9) [0, 1, 2, 3, 4, 5, 6, 7, 8, 9, 10, 11, 12, 13, 14, 15, 16, 17, 18, 19, 20, 21, 22, 23, 24, 25, 26, 27, 28, 29, 30, 31, 32, 33, 34, 35, 36, 37, 38, 39, 40, 41, 42, 43, 44, 45, 46, 47, 48, 49, 50, 51, 52, 53, 54, 55, 56, 57, 58, 59, 60] (hp_X9_worker_0 E a S) (by decide) 0 rfl rfl rfl g_X9_241 hd_X9_poisonDraft ⟨Nat.le_of_ble_eq_true rfl, Nat.le_of_ble_eq_true rfl⟩ ⟨Nat.le_of_ble_eq_true rfl, Nat.le_of_ble_eq_true rfl⟩ (Nat.le_of_ble_eq_true rfl) rfl dX9_poisonHarm_7 (fun w1 hw1 => ?_)
  subst hw1
  refine ⟨(wSg E a q9), by exact (pw_X9_poisonKills_0 E a S q9), ?_⟩
  refine r_iconst (pc := 10) C (v := 0) dX9_poisonHarm_10 (by decide) ?_
  refine r_istore_n (pc := 11) C (i := 2) dX9_poisonHarm_11 rfl (by decide) rfl ?_
  refine r_iconst (pc := 12) C (v := 0) dX9_poisonHarm_12 (by decide) ?_
  refine r_istore_n (pc := 13) C (i := 3) dX9_poisonHarm_13 rfl (by decide) rfl ?_
  refine r_weak (lSub_s (lSub_s (lSub_s (lSub_s lSub_e)))) ?_
  exact N_X9_poisonHarm_14 C a k hlt hno hdc k p0 (0 : Int32) (0 : Int32) q9 q  h hq
def M_X9_poisonHarm (k : Nat) (S : VV × VV × VV × VV × VV × Int32) (p0 : Int32) : Option (Int32 × Int32 × (VV × VV × VV × VV × VV × Int32)) := M_X9_poisonHarm_0 k p0 S
set_option maxRecDepth 100000 in
set_option maxHeartbeats 4000000 in
theorem c_X9_poisonHarm (E : ENV) (l : Launch) (k : Nat) (a : Nat → Nat) (S : VV × VV × VV × VV × VV × Int32) (p0 : Int32) (hlt : l.stackTraces = false) {q : Int32 × Int32 × (VV × VV × VV × VV × VV × Int32)} (hm : M_X9_poisonHarm k S p0 = some q) : XI E l yX9_poisonHarm cX9_poisonHarm 4 (some .int) rm_X9_poisonHarm [.ref (a 0), .int p0] (wSg E a S) (fun r w' => q.1 = 0 ∧ r = q.2.1 ∧ w' = (wSg E a q.2.2)) (fun cd w' => cd = q.1 ∧ ¬ q.1 = 0 ∧ w' = (wSg E a q.2.2)) :=
  XI.of 2 (by decide) (Nat.le_of_ble_eq_true rfl) (fun p e s m below meth c A C hno hdc => r_weak (lSub_s (lSub_s (lSub_n (lSub_n lSub_e)))) (N_X9_poisonHarm_0 C a k hlt hno hdc p0 S q  hm (TI_of rfl)))
end WALKS
