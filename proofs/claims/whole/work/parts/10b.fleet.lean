section WALKS
variable {E : ENV} {p : Program} {l : Launch} {e : Env} {s : State} {m : MethodId} {args : Array Value} {below : List Frame} {meth : Method} {c : Code} {A : Nat → Prop}

-- ShardGuard$Fleet.addTenant(I)V
theorem dX0_addTenant_0 : decode cX0_addTenant 0 = .ok (.aload_n 0, 1) := by decide +kernel
theorem dX0_addTenant_1 : decode cX0_addTenant 1 = .ok (.getfield 28, 3) := by decide +kernel
theorem dX0_addTenant_4 : decode cX0_addTenant 4 = .ok (.aload_n 0, 1) := by decide +kernel
theorem dX0_addTenant_5 : decode cX0_addTenant 5 = .ok (.getfield 52, 3) := by decide +kernel
theorem dX0_addTenant_8 : decode cX0_addTenant 8 = .ok (.iconst 0, 1) := by decide +kernel
theorem dX0_addTenant_9 : decode cX0_addTenant 9 = .ok (.iload_n 1, 1) := by decide +kernel
theorem dX0_addTenant_10 : decode cX0_addTenant 10 = .ok (.invokevirtual 84, 3) := by decide +kernel
theorem dX0_addTenant_13 : decode cX0_addTenant 13 = .ok (.aload_n 0, 1) := by decide +kernel
theorem dX0_addTenant_14 : decode cX0_addTenant 14 = .ok (.dup, 1) := by decide +kernel
theorem dX0_addTenant_15 : decode cX0_addTenant 15 = .ok (.getfield 52, 3) := by decide +kernel
theorem dX0_addTenant_18 : decode cX0_addTenant 18 = .ok (.iconst 1, 1) := by decide +kernel
theorem dX0_addTenant_19 : decode cX0_addTenant 19 = .ok (.iadd, 1) := by decide +kernel
theorem dX0_addTenant_20 : decode cX0_addTenant 20 = .ok (.putfield 52, 3) := by decide +kernel
theorem dX0_addTenant_23 : decode cX0_addTenant 23 = .ok (.return_, 1) := by decide +kernel
def rm_X0_addTenant : Room := { frames := 1, cells := 0, slots := 0, locals := 25 }
def M_X0_addTenant_0 (k : Nat) (p0 : Int32) (S : Nat → Nat → Int32) : Option ((Nat → Nat → Int32)) := (M_X6_put k 12 3 36 (S 3) (S 0 2) (0 : Int32) p0).bind fun q1 => lt (va_up S 3 q1) fun F2 => lt (va_up F2 0 (upd (F2 0) 2 ((F2 0 2) + (1 : Int32)))) fun F3 => some F3
set_option maxRecDepth 100000 in
set_option maxHeartbeats 4000000 in
theorem N_X0_addTenant_0 (C : CX E p l s m args meth c cX0_addTenant 2 RX0 none A) (a : Nat → Nat) (k : Nat) {post : va_W → Prop} :
    ∀ (p0 : Int32) (S : Nat → Nat → Int32) (q : (Nat → Nat → Int32)), M_X0_addTenant_0 k p0 S = some q → post (wFl E a q) →
      WW E p l e rm_X0_addTenant s m args below meth c A 0 0 (QV E below post args s rm_X0_addTenant A) (wFl E a S) 2 [some (.ref (a 0)), some (.int p0)] 0 [] := by
  intro p0 S q  h hq
  unfold M_X0_addTenant_0 at h
  refine r_aload_n (pc := 0) C (i := 0) dX0_addTenant_0 rfl rfl ?_
  refine r_get (pc := 1) C gwX0 0 rfl rfl 8 (by decide) wm_1_113 rfl dX0_addTenant_1 ?_
  refine r_aload_n (pc := 4) C (i := 0) dX0_addTenant_4 rfl rfl ?_
  refine r_get (pc := 5) C gwX0 0 rfl rfl 2 (by decide) wm_1_98 rfl dX0_addTenant_5 ?_
  refine r_iconst (pc := 8) C (v := 0) dX0_addTenant_8 (by decide) ?_
  refine r_iload_n (pc := 9) C (i := 1) dX0_addTenant_9 rfl rfl ?_
  obtain ⟨q1, hq1, h⟩ := bnd h
  obtain ⟨F2, hF2, h⟩ := lt_e h
  refine r_callV_CV (Cn := RX6) (pc := 10) C [.int (S 0 2), .int (0 : Int32), .int p0] (c_X6_put E l k (fun i => a (i + 5)) 12 3 36 (S 3) (S 0 2) (0 : Int32) p0 hq1) [5, 6] rfl (by decide) 0 rfl rfl rfl g_X0_84 hd_X6_put ⟨Nat.le_of_ble_eq_true rfl, Nat.le_of_ble_eq_true rfl⟩ ⟨Nat.zero_le _, Nat.zero_le _⟩ (Nat.le_of_ble_eq_true rfl) rfl dX0_addTenant_10 (fun w1 hw1 => ?_)
  subst hw1
  refine ⟨(wFl E a F2), by rw [hF2]; rfl, ?_⟩
  refine r_aload_n (pc := 13) C (i := 0) dX0_addTenant_13 rfl rfl ?_
  refine r_dup (pc := 14) C dX0_addTenant_14 rfl ?_
  refine r_get (pc := 15) C gwX0 0 rfl rfl 2 (by decide) wm_1_98 rfl dX0_addTenant_15 ?_
  refine r_iconst (pc := 18) C (v := 1) dX0_addTenant_18 (by decide) ?_
  refine r_iadd (pc := 19) C dX0_addTenant_19 ?_
  obtain ⟨F3, hF3, h⟩ := lt_e h
  refine r_put (pc := 20) C gwX0 tyX0 tyX0_ok nmX0 0 rfl rfl 2 (by decide) wm_1_98 rfl rfl rfl rfl (Nat.le_of_ble_eq_true rfl) (w' := (wFl E a F3)) (by rw [hF3]; rfl) dX0_addTenant_20 ?_
  cases h
  exact r_vret (pc := 23) C hq (Nat.zero_le _) (Nat.zero_le _) dX0_addTenant_23
def M_X0_addTenant (k : Nat) (S : Nat → Nat → Int32) (p0 : Int32) : Option ((Nat → Nat → Int32)) := M_X0_addTenant_0 k p0 S
set_option maxRecDepth 100000 in
set_option maxHeartbeats 4000000 in
theorem c_X0_addTenant (E : ENV) (l : Launch) (k : Nat) (a : Nat → Nat) (S : Nat → Nat → Int32) (p0 : Int32) {q : (Nat → Nat → Int32)} (hm : M_X0_addTenant k S p0 = some q) : CV E l yX0_addTenant cX0_addTenant 2 none rm_X0_addTenant [.ref (a 0), .int p0] (wFl E a S) (fun w' => w' = (wFl E a q)) :=
  CV.of 0 (by decide) (Nat.le_of_ble_eq_true rfl) (fun p e s m below meth c A C _ => r_weak (lSub_s (lSub_s lSub_e)) (N_X0_addTenant_0 C a k p0 S q  hm rfl))
-- ShardGuard$Fleet.allWorkers()I
theorem dX0_allWorkers_0 : decode cX0_allWorkers 0 = .ok (.iconst 1, 1) := by decide +kernel
theorem dX0_allWorkers_1 : decode cX0_allWorkers 1 = .ok (.aload_n 0, 1) := by decide +kernel
theorem dX0_allWorkers_2 : decode cX0_allWorkers 2 = .ok (.getfield 45, 3) := by decide +kernel
theorem dX0_allWorkers_5 : decode cX0_allWorkers 5 = .ok (.ishl, 1) := by decide +kernel
theorem dX0_allWorkers_6 : decode cX0_allWorkers 6 = .ok (.iconst 1, 1) := by decide +kernel
theorem dX0_allWorkers_7 : decode cX0_allWorkers 7 = .ok (.isub, 1) := by decide +kernel
theorem dX0_allWorkers_8 : decode cX0_allWorkers 8 = .ok (.ireturn, 1) := by decide +kernel
def rm_X0_allWorkers : Room := { frames := 0, cells := 0, slots := 0, locals := 0 }
def M_X0_allWorkers_0 (k : Nat) (S : Nat → Nat → Int32) : Option (Int32) := some (((1 : Int32) <<< ((S 0 0) &&& 31)) - (1 : Int32))
set_option maxRecDepth 100000 in
set_option maxHeartbeats 4000000 in
theorem N_X0_allWorkers_0 (C : CX E p l s m args meth c cX0_allWorkers 1 RX0 (some .int) A) (a : Nat → Nat) (k : Nat) (S : Nat → Nat → Int32) {post : Int32 → va_W → Prop} :
    ∀ (q : Int32), M_X0_allWorkers_0 k S = some q → post q (wFl E a S) →
      WW E p l e rm_X0_allWorkers s m args below meth c A 0 0 (QI E below post args s rm_X0_allWorkers A) (wFl E a S) 1 [some (.ref (a 0))] 0 [] := by
  intro  q  h hq
  unfold M_X0_allWorkers_0 at h
  refine r_iconst (pc := 0) C (v := 1) dX0_allWorkers_0 (by decide) ?_
  refine r_aload_n (pc := 1) C (i := 0) dX0_allWorkers_1 rfl rfl ?_
  refine r_get (pc := 2) C gwX0 0 rfl rfl 0 (by decide) wm_1_92 rfl dX0_allWorkers_2 ?_
  refine r_ishl (pc := 5) C dX0_allWorkers_5 ?_
  refine r_iconst (pc := 6) C (v := 1) dX0_allWorkers_6 (by decide) ?_
  refine r_isub (pc := 7) C dX0_allWorkers_7 ?_
  cases h
  exact r_ireti (pc := 8) C hq (Nat.zero_le _) (Nat.zero_le _) dX0_allWorkers_8
def M_X0_allWorkers (k : Nat) (S : Nat → Nat → Int32) : Option (Int32) := M_X0_allWorkers_0 k S
set_option maxRecDepth 100000 in
set_option maxHeartbeats 4000000 in
theorem c_X0_allWorkers (E : ENV) (l : Launch) (k : Nat) (a : Nat → Nat) (S : Nat → Nat → Int32) {q : Int32} (hm : M_X0_allWorkers k S = some q) : CI E l yX0_allWorkers cX0_allWorkers 1 (some .int) rm_X0_allWorkers [.ref (a 0)] (wFl E a S) (fun r w' => r = q ∧ w' = (wFl E a S)) :=
  CI.of 0 (by decide) (Nat.le_of_ble_eq_true rfl) (fun p e s m below meth c A C _ => r_weak (lSub_s lSub_e) (N_X0_allWorkers_0 C a k S q  hm ⟨rfl, rfl⟩))
theorem g_X0_111 : GoodIn GW (wsV RX0 111 RX6 yX6_at (wsG yX6_at cX6_at 5 (some .int))) := gw_V wm_2_78 wm_2_59 wm_2_60 wm_1_4 wm_2_61
-- ShardGuard$Fleet.shardOf(I)I
theorem dX0_shardOf_0 : decode cX0_shardOf 0 = .ok (.aload_n 0, 1) := by decide +kernel
theorem dX0_shardOf_1 : decode cX0_shardOf 1 = .ok (.getfield 28, 3) := by decide +kernel
theorem dX0_shardOf_4 : decode cX0_shardOf 4 = .ok (.iload_n 1, 1) := by decide +kernel
theorem dX0_shardOf_5 : decode cX0_shardOf 5 = .ok (.iconst 0, 1) := by decide +kernel
theorem dX0_shardOf_6 : decode cX0_shardOf 6 = .ok (.invokevirtual 111, 3) := by decide +kernel
theorem dX0_shardOf_9 : decode cX0_shardOf 9 = .ok (.ireturn, 1) := by decide +kernel
def rm_X0_shardOf : Room := { frames := 1, cells := 0, slots := 0, locals := 24 }
def M_X0_shardOf_0 (k : Nat) (S : Nat → Nat → Int32) (p0 : Int32) : Option (Int32) := (M_X6_at k 12 3 36 (S 3) p0 (0 : Int32)).bind fun q1 => some q1
set_option maxRecDepth 100000 in
set_option maxHeartbeats 4000000 in
theorem N_X0_shardOf_0 (C : CX E p l s m args meth c cX0_shardOf 2 RX0 (some .int) A) (a : Nat → Nat) (k : Nat) (S : Nat → Nat → Int32) {post : Int32 → va_W → Prop} :
    ∀ (p0 : Int32) (q : Int32), M_X0_shardOf_0 k S p0 = some q → post q (wFl E a S) →
      WW E p l e rm_X0_shardOf s m args below meth c A 0 0 (QI E below post args s rm_X0_shardOf A) (wFl E a S) 2 [some (.ref (a 0)), some (.int p0)] 0 [] := by
  intro p0 q  h hq
  unfold M_X0_shardOf_0 at h
  refine r_aload_n (pc := 0) C (i := 0) dX0_shardOf_0 rfl rfl ?_
  refine r_get (pc := 1) C gwX0 0 rfl rfl 8 (by decide) wm_1_113 rfl dX0_shardOf_1 ?_
  refine r_iload_n (pc := 4) C (i := 1) dX0_shardOf_4 rfl rfl ?_
  refine r_iconst (pc := 5) C (v := 0) dX0_shardOf_5 (by decide) ?_
  obtain ⟨q1, hq1, h⟩ := bnd h
  refine r_callVp_CI (Cn := RX6) (pc := 6) C [.int p0, .int (0 : Int32)] (c_X6_at E l k (fun i => a (i + 5)) 12 3 36 (S 3) p0 (0 : Int32) hq1) [5, 6] rfl (by decide) 0 rfl rfl rfl g_X0_111 hd_X6_at ⟨Nat.le_of_ble_eq_true rfl, Nat.le_of_ble_eq_true rfl⟩ ⟨Nat.zero_le _, Nat.zero_le _⟩ (Nat.le_of_ble_eq_true rfl) rfl dX0_shardOf_6 (fun r hr => ?_)
  have hr := hr.symm
  subst hr
  cases h
  exact r_ireti (pc := 9) C hq (Nat.zero_le _) (Nat.zero_le _) dX0_shardOf_9
def M_X0_shardOf (k : Nat) (S : Nat → Nat → Int32) (p0 : Int32) : Option (Int32) := M_X0_shardOf_0 k S p0
set_option maxRecDepth 100000 in
set_option maxHeartbeats 4000000 in
theorem c_X0_shardOf (E : ENV) (l : Launch) (k : Nat) (a : Nat → Nat) (S : Nat → Nat → Int32) (p0 : Int32) {q : Int32} (hm : M_X0_shardOf k S p0 = some q) : CI E l yX0_shardOf cX0_shardOf 2 (some .int) rm_X0_shardOf [.ref (a 0), .int p0] (wFl E a S) (fun r w' => r = q ∧ w' = (wFl E a S)) :=
  CI.of 0 (by decide) (Nat.le_of_ble_eq_true rfl) (fun p e s m below meth c A C _ => r_weak (lSub_s (lSub_s lSub_e)) (N_X0_shardOf_0 C a k S p0 q  hm ⟨rfl, rfl⟩))
theorem hd_X0_shardOf : yX0_shardOf.cls = RX0 ∧ yX0_shardOf.cls ≠ "java/lang/invoke/MethodHandle" ∧ yX0_shardOf.cls ≠ "java/lang/invoke/VarHandle" ∧ (parseMethodDescriptor yX0_shardOf.desc).map (fun d => d.parameters.length) = some 1 := by decide +kernel
theorem g_X0_115 : GoodIn GW (wsV RX0 115 RX0 yX0_shardOf (wsG yX0_shardOf cX0_shardOf 2 (some .int))) := gw_V wm_2_74 wm_2_75 wm_2_76 wm_1_2 wm_2_77
-- ShardGuard$Fleet.isCutOff(I)Z
theorem dX0_isCutOff_0 : decode cX0_isCutOff 0 = .ok (.aload_n 0, 1) := by decide +kernel
theorem dX0_isCutOff_1 : decode cX0_isCutOff 1 = .ok (.iload_n 1, 1) := by decide +kernel
theorem dX0_isCutOff_2 : decode cX0_isCutOff 2 = .ok (.invokevirtual 115, 3) := by decide +kernel
theorem dX0_isCutOff_5 : decode cX0_isCutOff 5 = .ok (.aload_n 0, 1) := by decide +kernel
theorem dX0_isCutOff_6 : decode cX0_isCutOff 6 = .ok (.getfield 62, 3) := by decide +kernel
theorem dX0_isCutOff_9 : decode cX0_isCutOff 9 = .ok (.iand, 1) := by decide +kernel
theorem dX0_isCutOff_10 : decode cX0_isCutOff 10 = .ok (.ifCond .ne 7, 3) := by decide +kernel
theorem dX0_isCutOff_13 : decode cX0_isCutOff 13 = .ok (.iconst 1, 1) := by decide +kernel
theorem dX0_isCutOff_14 : decode cX0_isCutOff 14 = .ok (.goto 4, 3) := by decide +kernel
theorem dX0_isCutOff_17 : decode cX0_isCutOff 17 = .ok (.iconst 0, 1) := by decide +kernel
theorem dX0_isCutOff_18 : decode cX0_isCutOff 18 = .ok (.ireturn, 1) := by decide +kernel
def rm_X0_isCutOff : Room := { frames := 2, cells := 0, slots := 0, locals := 45 }
def M_X0_isCutOff_0 (k : Nat) (S : Nat → Nat → Int32) (p0 : Int32) : Option (Int32) := (M_X0_shardOf k S p0).bind fun q1 => if (q1 &&& (S 0 5)) = 0 then (some (1 : Int32)) else (some (0 : Int32))
set_option maxRecDepth 100000 in
set_option maxHeartbeats 4000000 in
theorem N_X0_isCutOff_0 (C : CX E p l s m args meth c cX0_isCutOff 2 RX0 (some .boolean) A) (a : Nat → Nat) (k : Nat) (S : Nat → Nat → Int32) {post : Int32 → va_W → Prop} :
    ∀ (p0 : Int32) (q : Int32), M_X0_isCutOff_0 k S p0 = some q → post q (wFl E a S) →
      WW E p l e rm_X0_isCutOff s m args below meth c A 0 0 (QI E below post args s rm_X0_isCutOff A) (wFl E a S) 2 [some (.ref (a 0)), some (.int p0)] 0 [] := by
  intro p0 q  h hq
  unfold M_X0_isCutOff_0 at h
  refine r_aload_n (pc := 0) C (i := 0) dX0_isCutOff_0 rfl rfl ?_
  refine r_iload_n (pc := 1) C (i := 1) dX0_isCutOff_1 rfl rfl ?_
  obtain ⟨q1, hq1, h⟩ := bnd h
  refine r_callVp_CI (Cn := RX0) (pc := 2) C [.int p0] (c_X0_shardOf E l k a S p0 hq1) [0, 1, 2, 3, 4, 5, 6, 7, 8, 9, 10, 11, 12, 13, 14, 15, 16, 17] rfl (by decide) 0 rfl rfl rfl g_X0_115 hd_X0_shardOf ⟨Nat.le_of_ble_eq_true rfl, Nat.le_of_ble_eq_true rfl⟩ ⟨Nat.zero_le _, Nat.zero_le _⟩ (Nat.le_of_ble_eq_true rfl) rfl dX0_isCutOff_2 (fun r hr => ?_)
  have hr := hr.symm
  subst hr
  refine r_aload_n (pc := 5) C (i := 0) dX0_isCutOff_5 rfl rfl ?_
  refine r_get (pc := 6) C gwX0 0 rfl rfl 5 (by decide) wm_1_106 rfl dX0_isCutOff_6 ?_
  refine r_iand (pc := 9) C dX0_isCutOff_9 ?_
  refine r_if_ne (pc := 10) C (tgt := 17) dX0_isCutOff_10 rfl (fun c2 => ?_) (fun c2 => ?_)
  · rw [if_neg c2] at h
    refine r_iconst (pc := 17) C (v := 0) dX0_isCutOff_17 (by decide) ?_
    cases h
    exact r_iretz (pc := 18) C (Or.inl rfl) hq (Nat.zero_le _) (Nat.zero_le _) dX0_isCutOff_18
  · rw [if_pos c2] at h
    refine r_iconst (pc := 13) C (v := 1) dX0_isCutOff_13 (by decide) ?_
    refine r_goto (pc := 14) C (tgt := 18) dX0_isCutOff_14 rfl ?_
    cases h
    exact r_iretz (pc := 18) C (Or.inr rfl) hq (Nat.zero_le _) (Nat.zero_le _) dX0_isCutOff_18
def M_X0_isCutOff (k : Nat) (S : Nat → Nat → Int32) (p0 : Int32) : Option (Int32) := M_X0_isCutOff_0 k S p0
set_option maxRecDepth 100000 in
set_option maxHeartbeats 4000000 in
theorem c_X0_isCutOff (E : ENV) (l : Launch) (k : Nat) (a : Nat → Nat) (S : Nat → Nat → Int32) (p0 : Int32) {q : Int32} (hm : M_X0_isCutOff k S p0 = some q) : CI E l yX0_isCutOff cX0_isCutOff 2 (some .boolean) rm_X0_isCutOff [.ref (a 0), .int p0] (wFl E a S) (fun r w' => r = q ∧ w' = (wFl E a S)) :=
  CI.of 0 (by decide) (Nat.le_of_ble_eq_true rfl) (fun p e s m below meth c A C _ => r_weak (lSub_s (lSub_s lSub_e)) (N_X0_isCutOff_0 C a k S p0 q  hm ⟨rfl, rfl⟩))
-- ShardGuard$Fleet.isQuarantined(I)Z
theorem dX0_isQuarantined_0 : decode cX0_isQuarantined 0 = .ok (.aload_n 0, 1) := by decide +kernel
theorem dX0_isQuarantined_1 : decode cX0_isQuarantined 1 = .ok (.getfield 28, 3) := by decide +kernel
theorem dX0_isQuarantined_4 : decode cX0_isQuarantined 4 = .ok (.iload_n 1, 1) := by decide +kernel
theorem dX0_isQuarantined_5 : decode cX0_isQuarantined 5 = .ok (.iconst 1, 1) := by decide +kernel
theorem dX0_isQuarantined_6 : decode cX0_isQuarantined 6 = .ok (.invokevirtual 111, 3) := by decide +kernel
theorem dX0_isQuarantined_9 : decode cX0_isQuarantined 9 = .ok (.iconst (-1), 1) := by decide +kernel
theorem dX0_isQuarantined_10 : decode cX0_isQuarantined 10 = .ok (.if_icmp .eq 7, 3) := by decide +kernel
theorem dX0_isQuarantined_13 : decode cX0_isQuarantined 13 = .ok (.iconst 1, 1) := by decide +kernel
theorem dX0_isQuarantined_14 : decode cX0_isQuarantined 14 = .ok (.goto 4, 3) := by decide +kernel
theorem dX0_isQuarantined_17 : decode cX0_isQuarantined 17 = .ok (.iconst 0, 1) := by decide +kernel
theorem dX0_isQuarantined_18 : decode cX0_isQuarantined 18 = .ok (.ireturn, 1) := by decide +kernel
def rm_X0_isQuarantined : Room := { frames := 1, cells := 0, slots := 0, locals := 24 }
def M_X0_isQuarantined_0 (k : Nat) (S : Nat → Nat → Int32) (p0 : Int32) : Option (Int32) := (M_X6_at k 12 3 36 (S 3) p0 (1 : Int32)).bind fun q1 => if q1 = (-1 : Int32) then (some (0 : Int32)) else (some (1 : Int32))
set_option maxRecDepth 100000 in
set_option maxHeartbeats 4000000 in
theorem N_X0_isQuarantined_0 (C : CX E p l s m args meth c cX0_isQuarantined 2 RX0 (some .boolean) A) (a : Nat → Nat) (k : Nat) (S : Nat → Nat → Int32) {post : Int32 → va_W → Prop} :
    ∀ (p0 : Int32) (q : Int32), M_X0_isQuarantined_0 k S p0 = some q → post q (wFl E a S) →
      WW E p l e rm_X0_isQuarantined s m args below meth c A 0 0 (QI E below post args s rm_X0_isQuarantined A) (wFl E a S) 2 [some (.ref (a 0)), some (.int p0)] 0 [] := by
  intro p0 q  h hq
  unfold M_X0_isQuarantined_0 at h
  refine r_aload_n (pc := 0) C (i := 0) dX0_isQuarantined_0 rfl rfl ?_
  refine r_get (pc := 1) C gwX0 0 rfl rfl 8 (by decide) wm_1_113 rfl dX0_isQuarantined_1 ?_
  refine r_iload_n (pc := 4) C (i := 1) dX0_isQuarantined_4 rfl rfl ?_
  refine r_iconst (pc := 5) C (v := 1) dX0_isQuarantined_5 (by decide) ?_
  obtain ⟨q1, hq1, h⟩ := bnd h
  refine r_callVp_CI (Cn := RX6) (pc := 6) C [.int p0, .int (1 : Int32)] (c_X6_at E l k (fun i => a (i + 5)) 12 3 36 (S 3) p0 (1 : Int32) hq1) [5, 6] rfl (by decide) 0 rfl rfl rfl g_X0_111 hd_X6_at ⟨Nat.le_of_ble_eq_true rfl, Nat.le_of_ble_eq_true rfl⟩ ⟨Nat.zero_le _, Nat.zero_le _⟩ (Nat.le_of_ble_eq_true rfl) rfl dX0_isQuarantined_6 (fun r hr => ?_)
  have hr := hr.symm
  subst hr
  refine r_iconst (pc := 9) C (v := (-1)) dX0_isQuarantined_9 (by decide) ?_
  refine r_icmp_eq (pc := 10) C (tgt := 17) dX0_isQuarantined_10 rfl (fun c2 => ?_) (fun c2 => ?_)
  · rw [if_pos c2] at h
    refine r_iconst (pc := 17) C (v := 0) dX0_isQuarantined_17 (by decide) ?_
    cases h
    exact r_iretz (pc := 18) C (Or.inl rfl) hq (Nat.zero_le _) (Nat.zero_le _) dX0_isQuarantined_18
  · rw [if_neg c2] at h
    refine r_iconst (pc := 13) C (v := 1) dX0_isQuarantined_13 (by decide) ?_
    refine r_goto (pc := 14) C (tgt := 18) dX0_isQuarantined_14 rfl ?_
    cases h
    exact r_iretz (pc := 18) C (Or.inr rfl) hq (Nat.zero_le _) (Nat.zero_le _) dX0_isQuarantined_18
def M_X0_isQuarantined (k : Nat) (S : Nat → Nat → Int32) (p0 : Int32) : Option (Int32) := M_X0_isQuarantined_0 k S p0
set_option maxRecDepth 100000 in
set_option maxHeartbeats 4000000 in
theorem c_X0_isQuarantined (E : ENV) (l : Launch) (k : Nat) (a : Nat → Nat) (S : Nat → Nat → Int32) (p0 : Int32) {q : Int32} (hm : M_X0_isQuarantined k S p0 = some q) : CI E l yX0_isQuarantined cX0_isQuarantined 2 (some .boolean) rm_X0_isQuarantined [.ref (a 0), .int p0] (wFl E a S) (fun r w' => r = q ∧ w' = (wFl E a S)) :=
  CI.of 0 (by decide) (Nat.le_of_ble_eq_true rfl) (fun p e s m below meth c A C _ => r_weak (lSub_s (lSub_s lSub_e)) (N_X0_isQuarantined_0 C a k S p0 q  hm ⟨rfl, rfl⟩))
theorem hd_X0_isCutOff : yX0_isCutOff.cls = RX0 ∧ yX0_isCutOff.cls ≠ "java/lang/invoke/MethodHandle" ∧ yX0_isCutOff.cls ≠ "java/lang/invoke/VarHandle" ∧ (parseMethodDescriptor yX0_isCutOff.desc).map (fun d => d.parameters.length) = some 1 := by decide +kernel
theorem g_X0_119 : GoodIn GW (wsV RX0 119 RX0 yX0_isCutOff (wsG yX0_isCutOff cX0_isCutOff 2 (some .boolean))) := gw_V wm_3_202 wm_3_203 wm_3_204 wm_1_2 wm_3_205
-- ShardGuard$Fleet.cutOffMask()I
theorem dX0_cutOffMask_0 : decode cX0_cutOffMask 0 = .ok (.iconst 0, 1) := by decide +kernel
theorem dX0_cutOffMask_1 : decode cX0_cutOffMask 1 = .ok (.istore_n 1, 1) := by decide +kernel
theorem dX0_cutOffMask_2 : decode cX0_cutOffMask 2 = .ok (.iconst 0, 1) := by decide +kernel
theorem dX0_cutOffMask_3 : decode cX0_cutOffMask 3 = .ok (.istore_n 2, 1) := by decide +kernel
theorem dX0_cutOffMask_4 : decode cX0_cutOffMask 4 = .ok (.iload_n 2, 1) := by decide +kernel
theorem dX0_cutOffMask_5 : decode cX0_cutOffMask 5 = .ok (.aload_n 0, 1) := by decide +kernel
theorem dX0_cutOffMask_6 : decode cX0_cutOffMask 6 = .ok (.getfield 52, 3) := by decide +kernel
theorem dX0_cutOffMask_9 : decode cX0_cutOffMask 9 = .ok (.if_icmp .ge 23, 3) := by decide +kernel
theorem dX0_cutOffMask_12 : decode cX0_cutOffMask 12 = .ok (.aload_n 0, 1) := by decide +kernel
theorem dX0_cutOffMask_13 : decode cX0_cutOffMask 13 = .ok (.iload_n 2, 1) := by decide +kernel
theorem dX0_cutOffMask_14 : decode cX0_cutOffMask 14 = .ok (.invokevirtual 119, 3) := by decide +kernel
theorem dX0_cutOffMask_17 : decode cX0_cutOffMask 17 = .ok (.ifCond .eq 9, 3) := by decide +kernel
theorem dX0_cutOffMask_20 : decode cX0_cutOffMask 20 = .ok (.iload_n 1, 1) := by decide +kernel
theorem dX0_cutOffMask_21 : decode cX0_cutOffMask 21 = .ok (.iconst 1, 1) := by decide +kernel
theorem dX0_cutOffMask_22 : decode cX0_cutOffMask 22 = .ok (.iload_n 2, 1) := by decide +kernel
theorem dX0_cutOffMask_23 : decode cX0_cutOffMask 23 = .ok (.ishl, 1) := by decide +kernel
theorem dX0_cutOffMask_24 : decode cX0_cutOffMask 24 = .ok (.ior, 1) := by decide +kernel
theorem dX0_cutOffMask_25 : decode cX0_cutOffMask 25 = .ok (.istore_n 1, 1) := by decide +kernel
theorem dX0_cutOffMask_26 : decode cX0_cutOffMask 26 = .ok (.iinc 2 1, 3) := by decide +kernel
theorem dX0_cutOffMask_29 : decode cX0_cutOffMask 29 = .ok (.goto (-25), 3) := by decide +kernel
theorem dX0_cutOffMask_32 : decode cX0_cutOffMask 32 = .ok (.iload_n 1, 1) := by decide +kernel
theorem dX0_cutOffMask_33 : decode cX0_cutOffMask 33 = .ok (.ireturn, 1) := by decide +kernel
def rm_X0_cutOffMask : Room := { frames := 3, cells := 0, slots := 0, locals := 66 }
def M_X0_cutOffMask_4 (k : Nat) (S : Nat → Nat → Int32) : Nat → (Int32) → (Int32) → Option (Int32)
  | 0, _, _ => none
  | n + 1, x1, x2 => if (S 0 2) ≤ x2 then (some x1) else ((M_X0_isCutOff k S x2).bind fun q2 => if q2 = 0 then (M_X0_cutOffMask_4 k S n x1 (x2 + 1)) else (lt (x1 ||| ((1 : Int32) <<< (x2 &&& 31))) fun v4 => M_X0_cutOffMask_4 k S n v4 (x2 + 1)))
theorem M_X0_cutOffMask_4_s (k : Nat) (S : Nat → Nat → Int32) (n : Nat) (x1 : Int32) (x2 : Int32) : M_X0_cutOffMask_4 k S (n + 1) x1 x2 = (if (S 0 2) ≤ x2 then (some x1) else ((M_X0_isCutOff k S x2).bind fun q2 => if q2 = 0 then (M_X0_cutOffMask_4 k S n x1 (x2 + 1)) else (lt (x1 ||| ((1 : Int32) <<< (x2 &&& 31))) fun v4 => M_X0_cutOffMask_4 k S n v4 (x2 + 1)))) := rfl
set_option maxRecDepth 100000 in
set_option maxHeartbeats 4000000 in
theorem N_X0_cutOffMask_4 (C : CX E p l s m args meth c cX0_cutOffMask 3 RX0 (some .int) A) (a : Nat → Nat) (k : Nat) (S : Nat → Nat → Int32) {post : Int32 → va_W → Prop} :
    ∀ (n : Nat) (x1 : Int32) (x2 : Int32) (q : Int32), M_X0_cutOffMask_4 k S n x1 x2 = some q → post q (wFl E a S) →
      WW E p l e rm_X0_cutOffMask s m args below meth c A 0 0 (QI E below post args s rm_X0_cutOffMask A) (wFl E a S) 3 [some (.ref (a 0)), some (.int x1), some (.int x2)] 4 [] := by
  intro n
  induction n with
  | zero => intro x1 x2 q  h _; cases h
  | succ n ih =>
    intro x1 x2 q  h hq
    rw [M_X0_cutOffMask_4_s] at h
    refine r_iload_n (pc := 4) C (i := 2) dX0_cutOffMask_4 rfl rfl ?_
    refine r_aload_n (pc := 5) C (i := 0) dX0_cutOffMask_5 rfl rfl ?_
    refine r_get (pc := 6) C gwX0 0 rfl rfl 2 (by decide) wm_1_98 rfl dX0_cutOffMask_6 ?_
    refine r_icmp_ge (pc := 9) C (tgt := 32) dX0_cutOffMask_9 rfl (fun c1 => ?_) (fun c1 => ?_)
    · rw [if_pos c1] at h
      refine r_iload_n (pc := 32) C (i := 1) dX0_cutOffMask_32 rfl rfl ?_
      cases h
      exact r_ireti (pc := 33) C hq (Nat.zero_le _) (Nat.zero_le _) dX0_cutOffMask_33
    · rw [if_neg c1] at h
      refine r_aload_n (pc := 12) C (i := 0) dX0_cutOffMask_12 rfl rfl ?_
      refine r_iload_n (pc := 13) C (i := 2) dX0_cutOffMask_13 rfl rfl ?_
      obtain ⟨q2, hq2, h⟩ := bnd h
      refine r_callVp_CI (Cn := RX0) (pc := 14) C [.int x2] (c_X0_isCutOff E l k a S x2 hq2) [0, 1, 2, 3, 4, 5, 6, 7, 8, 9, 10, 11, 12, 13, 14, 15, 16, 17] rfl (by decide) 0 rfl rfl rfl g_X0_119 hd_X0_isCutOff ⟨Nat.le_of_ble_eq_true rfl, Nat.le_of_ble_eq_true rfl⟩ ⟨Nat.zero_le _, Nat.zero_le _⟩ (Nat.le_of_ble_eq_true rfl) rfl dX0_cutOffMask_14 (fun r hr => ?_)
      have hr := hr.symm
      subst hr
      refine r_if_eq (pc := 17) C (tgt := 26) dX0_cutOffMask_17 rfl (fun c3 => ?_) (fun c3 => ?_)
      · rw [if_pos c3] at h
        refine r_iinc (pc := 26) C (v := (x2 + 1)) dX0_cutOffMask_26 rfl rfl (by decide) rfl ?_
        refine r_goto (pc := 29) C (tgt := 4) dX0_cutOffMask_29 rfl ?_
        refine r_weak (lSub_s (lSub_s (lSub_s lSub_e))) ?_
        exact ih x1 (x2 + 1) q  h hq
      · rw [if_neg c3] at h
        refine r_iload_n (pc := 20) C (i := 1) dX0_cutOffMask_20 rfl rfl ?_
        refine r_iconst (pc := 21) C (v := 1) dX0_cutOffMask_21 (by decide) ?_
        refine r_iload_n (pc := 22) C (i := 2) dX0_cutOffMask_22 rfl rfl ?_
        refine r_ishl (pc := 23) C dX0_cutOffMask_23 ?_
        refine r_ior (pc := 24) C dX0_cutOffMask_24 ?_
        obtain ⟨v4, hv4, h⟩ := lt_e h
        refine r_topi hv4 ?_
        refine r_istore_n (pc := 25) C (i := 1) dX0_cutOffMask_25 rfl (by decide) rfl ?_
        refine r_iinc (pc := 26) C (v := (x2 + 1)) dX0_cutOffMask_26 rfl rfl (by decide) rfl ?_
        refine r_goto (pc := 29) C (tgt := 4) dX0_cutOffMask_29 rfl ?_
        refine r_weak (lSub_s (lSub_s (lSub_s lSub_e))) ?_
        exact ih v4 (x2 + 1) q  h hq
def M_X0_cutOffMask_0 (k : Nat) (S : Nat → Nat → Int32) : Option (Int32) := M_X0_cutOffMask_4 k S k (0 : Int32) (0 : Int32)
set_option maxRecDepth 100000 in
set_option maxHeartbeats 4000000 in
theorem N_X0_cutOffMask_0 (C : CX E p l s m args meth c cX0_cutOffMask 3 RX0 (some .int) A) (a : Nat → Nat) (k : Nat) (S : Nat → Nat → Int32) {post : Int32 → va_W → Prop} :
    ∀ (q : Int32), M_X0_cutOffMask_0 k S = some q → post q (wFl E a S) →
      WW E p l e rm_X0_cutOffMask s m args below meth c A 0 0 (QI E below post args s rm_X0_cutOffMask A) (wFl E a S) 3 [some (.ref (a 0)), none, none] 0 [] := by
  intro  q  h hq
  unfold M_X0_cutOffMask_0 at h
  refine r_iconst (pc := 0) C (v := 0) dX0_cutOffMask_0 (by decide) ?_
  refine r_istore_n (pc := 1) C (i := 1) dX0_cutOffMask_1 rfl (by decide) rfl ?_
  refine r_iconst (pc := 2) C (v := 0) dX0_cutOffMask_2 (by decide) ?_
  refine r_istore_n (pc := 3) C (i := 2) dX0_cutOffMask_3 rfl (by decide) rfl ?_
  refine r_weak (lSub_s (lSub_s (lSub_s lSub_e))) ?_
  exact N_X0_cutOffMask_4 C a k S k (0 : Int32) (0 : Int32) q  h hq
def M_X0_cutOffMask (k : Nat) (S : Nat → Nat → Int32) : Option (Int32) := M_X0_cutOffMask_0 k S
set_option maxRecDepth 100000 in
set_option maxHeartbeats 4000000 in
theorem c_X0_cutOffMask (E : ENV) (l : Launch) (k : Nat) (a : Nat → Nat) (S : Nat → Nat → Int32) {q : Int32} (hm : M_X0_cutOffMask k S = some q) : CI E l yX0_cutOffMask cX0_cutOffMask 3 (some .int) rm_X0_cutOffMask [.ref (a 0)] (wFl E a S) (fun r w' => r = q ∧ w' = (wFl E a S)) :=
  CI.of 2 (by decide) (Nat.le_of_ble_eq_true rfl) (fun p e s m below meth c A C _ => r_weak (lSub_s (lSub_n (lSub_n lSub_e))) (N_X0_cutOffMask_0 C a k S q  hm ⟨rfl, rfl⟩))
theorem hd_X0_isQuarantined : yX0_isQuarantined.cls = RX0 ∧ yX0_isQuarantined.cls ≠ "java/lang/invoke/MethodHandle" ∧ yX0_isQuarantined.cls ≠ "java/lang/invoke/VarHandle" ∧ (parseMethodDescriptor yX0_isQuarantined.desc).map (fun d => d.parameters.length) = some 1 := by decide +kernel
theorem g_X0_97 : GoodIn GW (wsV RX0 97 RX0 yX0_isQuarantined (wsG yX0_isQuarantined cX0_isQuarantined 2 (some .boolean))) := gw_V wm_3_159 wm_3_160 wm_3_161 wm_1_2 wm_3_162
-- ShardGuard$Fleet.quarantined()I
theorem dX0_quarantined_0 : decode cX0_quarantined 0 = .ok (.iconst 0, 1) := by decide +kernel
theorem dX0_quarantined_1 : decode cX0_quarantined 1 = .ok (.istore_n 1, 1) := by decide +kernel
theorem dX0_quarantined_2 : decode cX0_quarantined 2 = .ok (.iconst 0, 1) := by decide +kernel
theorem dX0_quarantined_3 : decode cX0_quarantined 3 = .ok (.istore_n 2, 1) := by decide +kernel
theorem dX0_quarantined_4 : decode cX0_quarantined 4 = .ok (.iload_n 2, 1) := by decide +kernel
theorem dX0_quarantined_5 : decode cX0_quarantined 5 = .ok (.aload_n 0, 1) := by decide +kernel
theorem dX0_quarantined_6 : decode cX0_quarantined 6 = .ok (.getfield 52, 3) := by decide +kernel
theorem dX0_quarantined_9 : decode cX0_quarantined 9 = .ok (.if_icmp .ge 20, 3) := by decide +kernel
theorem dX0_quarantined_12 : decode cX0_quarantined 12 = .ok (.aload_n 0, 1) := by decide +kernel
theorem dX0_quarantined_13 : decode cX0_quarantined 13 = .ok (.iload_n 2, 1) := by decide +kernel
theorem dX0_quarantined_14 : decode cX0_quarantined 14 = .ok (.invokevirtual 97, 3) := by decide +kernel
theorem dX0_quarantined_17 : decode cX0_quarantined 17 = .ok (.ifCond .eq 6, 3) := by decide +kernel
theorem dX0_quarantined_20 : decode cX0_quarantined 20 = .ok (.iinc 1 1, 3) := by decide +kernel
theorem dX0_quarantined_23 : decode cX0_quarantined 23 = .ok (.iinc 2 1, 3) := by decide +kernel
theorem dX0_quarantined_26 : decode cX0_quarantined 26 = .ok (.goto (-22), 3) := by decide +kernel
theorem dX0_quarantined_29 : decode cX0_quarantined 29 = .ok (.iload_n 1, 1) := by decide +kernel
theorem dX0_quarantined_30 : decode cX0_quarantined 30 = .ok (.ireturn, 1) := by decide +kernel
def rm_X0_quarantined : Room := { frames := 2, cells := 0, slots := 0, locals := 45 }
def M_X0_quarantined_4 (k : Nat) (S : Nat → Nat → Int32) : Nat → (Int32) → (Int32) → Option (Int32)
  | 0, _, _ => none
  | n + 1, x1, x2 => if (S 0 2) ≤ x2 then (some x1) else ((M_X0_isQuarantined k S x2).bind fun q2 => if q2 = 0 then (M_X0_quarantined_4 k S n x1 (x2 + 1)) else (M_X0_quarantined_4 k S n (x1 + 1) (x2 + 1)))
theorem M_X0_quarantined_4_s (k : Nat) (S : Nat → Nat → Int32) (n : Nat) (x1 : Int32) (x2 : Int32) : M_X0_quarantined_4 k S (n + 1) x1 x2 = (if (S 0 2) ≤ x2 then (some x1) else ((M_X0_isQuarantined k S x2).bind fun q2 => if q2 = 0 then (M_X0_quarantined_4 k S n x1 (x2 + 1)) else (M_X0_quarantined_4 k S n (x1 + 1) (x2 + 1)))) := rfl
set_option maxRecDepth 100000 in
set_option maxHeartbeats 4000000 in
theorem N_X0_quarantined_4 (C : CX E p l s m args meth c cX0_quarantined 3 RX0 (some .int) A) (a : Nat → Nat) (k : Nat) (S : Nat → Nat → Int32) {post : Int32 → va_W → Prop} :
    ∀ (n : Nat) (x1 : Int32) (x2 : Int32) (q : Int32), M_X0_quarantined_4 k S n x1 x2 = some q → post q (wFl E a S) →
      WW E p l e rm_X0_quarantined s m args below meth c A 0 0 (QI E below post args s rm_X0_quarantined A) (wFl E a S) 3 [some (.ref (a 0)), some (.int x1), some (.int x2)] 4 [] := by
  intro n
  induction n with
  | zero => intro x1 x2 q  h _; cases h
  | succ n ih =>
    intro x1 x2 q  h hq
    rw [M_X0_quarantined_4_s] at h
    refine r_iload_n (pc := 4) C (i := 2) dX0_quarantined_4 rfl rfl ?_
    refine r_aload_n (pc := 5) C (i := 0) dX0_quarantined_5 rfl rfl ?_
    refine r_get (pc := 6) C gwX0 0 rfl rfl 2 (by decide) wm_1_98 rfl dX0_quarantined_6 ?_
    refine r_icmp_ge (pc := 9) C (tgt := 29) dX0_quarantined_9 rfl (fun c1 => ?_) (fun c1 => ?_)
    · rw [if_pos c1] at h
      refine r_iload_n (pc := 29) C (i := 1) dX0_quarantined_29 rfl rfl ?_
      cases h
      exact r_ireti (pc := 30) C hq (Nat.zero_le _) (Nat.zero_le _) dX0_quarantined_30
    · rw [if_neg c1] at h
      refine r_aload_n (pc := 12) C (i := 0) dX0_quarantined_12 rfl rfl ?_
      refine r_iload_n (pc := 13) C (i := 2) dX0_quarantined_13 rfl rfl ?_
      obtain ⟨q2, hq2, h⟩ := bnd h
      refine r_callVp_CI (Cn := RX0) (pc := 14) C [.int x2] (c_X0_isQuarantined E l k a S x2 hq2) [0, 1, 2, 3, 4, 5, 6, 7, 8, 9, 10, 11, 12, 13, 14, 15, 16, 17] rfl (by decide) 0 rfl rfl rfl g_X0_97 hd_X0_isQuarantined ⟨Nat.le_of_ble_eq_true rfl, Nat.le_of_ble_eq_true rfl⟩ ⟨Nat.zero_le _, Nat.zero_le _⟩ (Nat.le_of_ble_eq_true rfl) rfl dX0_quarantined_14 (fun r hr => ?_)
      have hr := hr.symm
      subst hr
      refine r_if_eq (pc := 17) C (tgt := 23) dX0_quarantined_17 rfl (fun c3 => ?_) (fun c3 => ?_)
      · rw [if_pos c3] at h
        refine r_iinc (pc := 23) C (v := (x2 + 1)) dX0_quarantined_23 rfl rfl (by decide) rfl ?_
        refine r_goto (pc := 26) C (tgt := 4) dX0_quarantined_26 rfl ?_
        refine r_weak (lSub_s (lSub_s (lSub_s lSub_e))) ?_
        exact ih x1 (x2 + 1) q  h hq
      · rw [if_neg c3] at h
        refine r_iinc (pc := 20) C (v := (x1 + 1)) dX0_quarantined_20 rfl rfl (by decide) rfl ?_
        refine r_iinc (pc := 23) C (v := (x2 + 1)) dX0_quarantined_23 rfl rfl (by decide) rfl ?_
        refine r_goto (pc := 26) C (tgt := 4) dX0_quarantined_26 rfl ?_
        refine r_weak (lSub_s (lSub_s (lSub_s lSub_e))) ?_
        exact ih (x1 + 1) (x2 + 1) q  h hq
def M_X0_quarantined_0 (k : Nat) (S : Nat → Nat → Int32) : Option (Int32) := M_X0_quarantined_4 k S k (0 : Int32) (0 : Int32)
set_option maxRecDepth 100000 in
set_option maxHeartbeats 4000000 in
theorem N_X0_quarantined_0 (C : CX E p l s m args meth c cX0_quarantined 3 RX0 (some .int) A) (a : Nat → Nat) (k : Nat) (S : Nat → Nat → Int32) {post : Int32 → va_W → Prop} :
    ∀ (q : Int32), M_X0_quarantined_0 k S = some q → post q (wFl E a S) →
      WW E p l e rm_X0_quarantined s m args below meth c A 0 0 (QI E below post args s rm_X0_quarantined A) (wFl E a S) 3 [some (.ref (a 0)), none, none] 0 [] := by
  intro  q  h hq
  unfold M_X0_quarantined_0 at h
  refine r_iconst (pc := 0) C (v := 0) dX0_quarantined_0 (by decide) ?_
  refine r_istore_n (pc := 1) C (i := 1) dX0_quarantined_1 rfl (by decide) rfl ?_
  refine r_iconst (pc := 2) C (v := 0) dX0_quarantined_2 (by decide) ?_
  refine r_istore_n (pc := 3) C (i := 2) dX0_quarantined_3 rfl (by decide) rfl ?_
  refine r_weak (lSub_s (lSub_s (lSub_s lSub_e))) ?_
  exact N_X0_quarantined_4 C a k S k (0 : Int32) (0 : Int32) q  h hq
def M_X0_quarantined (k : Nat) (S : Nat → Nat → Int32) : Option (Int32) := M_X0_quarantined_0 k S
set_option maxRecDepth 100000 in
set_option maxHeartbeats 4000000 in
theorem c_X0_quarantined (E : ENV) (l : Launch) (k : Nat) (a : Nat → Nat) (S : Nat → Nat → Int32) {q : Int32} (hm : M_X0_quarantined k S = some q) : CI E l yX0_quarantined cX0_quarantined 3 (some .int) rm_X0_quarantined [.ref (a 0)] (wFl E a S) (fun r w' => r = q ∧ w' = (wFl E a S)) :=
  CI.of 2 (by decide) (Nat.le_of_ble_eq_true rfl) (fun p e s m below meth c A C _ => r_weak (lSub_s (lSub_n (lSub_n lSub_e))) (N_X0_quarantined_0 C a k S q  hm ⟨rfl, rfl⟩))
-- ShardGuard$Fleet.requestsOf(I)I
theorem dX0_requestsOf_0 : decode cX0_requestsOf 0 = .ok (.iconst 0, 1) := by decide +kernel
theorem dX0_requestsOf_1 : decode cX0_requestsOf 1 = .ok (.istore_n 2, 1) := by decide +kernel
theorem dX0_requestsOf_2 : decode cX0_requestsOf 2 = .ok (.iconst 0, 1) := by decide +kernel
theorem dX0_requestsOf_3 : decode cX0_requestsOf 3 = .ok (.istore_n 3, 1) := by decide +kernel
theorem dX0_requestsOf_4 : decode cX0_requestsOf 4 = .ok (.iload_n 3, 1) := by decide +kernel
theorem dX0_requestsOf_5 : decode cX0_requestsOf 5 = .ok (.aload_n 0, 1) := by decide +kernel
theorem dX0_requestsOf_6 : decode cX0_requestsOf 6 = .ok (.getfield 75, 3) := by decide +kernel
theorem dX0_requestsOf_9 : decode cX0_requestsOf 9 = .ok (.if_icmp .ge 25, 3) := by decide +kernel
theorem dX0_requestsOf_12 : decode cX0_requestsOf 12 = .ok (.aload_n 0, 1) := by decide +kernel
theorem dX0_requestsOf_13 : decode cX0_requestsOf 13 = .ok (.getfield 32, 3) := by decide +kernel
theorem dX0_requestsOf_16 : decode cX0_requestsOf 16 = .ok (.iload_n 3, 1) := by decide +kernel
theorem dX0_requestsOf_17 : decode cX0_requestsOf 17 = .ok (.iconst 0, 1) := by decide +kernel
theorem dX0_requestsOf_18 : decode cX0_requestsOf 18 = .ok (.invokevirtual 111, 3) := by decide +kernel
theorem dX0_requestsOf_21 : decode cX0_requestsOf 21 = .ok (.iload_n 1, 1) := by decide +kernel
theorem dX0_requestsOf_22 : decode cX0_requestsOf 22 = .ok (.if_icmp .ne 6, 3) := by decide +kernel
theorem dX0_requestsOf_25 : decode cX0_requestsOf 25 = .ok (.iinc 2 1, 3) := by decide +kernel
theorem dX0_requestsOf_28 : decode cX0_requestsOf 28 = .ok (.iinc 3 1, 3) := by decide +kernel
theorem dX0_requestsOf_31 : decode cX0_requestsOf 31 = .ok (.goto (-27), 3) := by decide +kernel
theorem dX0_requestsOf_34 : decode cX0_requestsOf 34 = .ok (.iload_n 2, 1) := by decide +kernel
theorem dX0_requestsOf_35 : decode cX0_requestsOf 35 = .ok (.ireturn, 1) := by decide +kernel
def rm_X0_requestsOf : Room := { frames := 1, cells := 0, slots := 0, locals := 24 }
def M_X0_requestsOf_4 (k : Nat) (S : Nat → Nat → Int32) : Nat → (Int32) → (Int32) → (Int32) → Option (Int32)
  | 0, _, _, _ => none
  | n + 1, x1, x2, x3 => if (S 0 3) ≤ x3 then (some x2) else ((M_X6_at k 60 8 480 (S 4) x3 (0 : Int32)).bind fun q2 => if q2 = x1 then (M_X0_requestsOf_4 k S n x1 (x2 + 1) (x3 + 1)) else (M_X0_requestsOf_4 k S n x1 x2 (x3 + 1)))
theorem M_X0_requestsOf_4_s (k : Nat) (S : Nat → Nat → Int32) (n : Nat) (x1 : Int32) (x2 : Int32) (x3 : Int32) : M_X0_requestsOf_4 k S (n + 1) x1 x2 x3 = (if (S 0 3) ≤ x3 then (some x2) else ((M_X6_at k 60 8 480 (S 4) x3 (0 : Int32)).bind fun q2 => if q2 = x1 then (M_X0_requestsOf_4 k S n x1 (x2 + 1) (x3 + 1)) else (M_X0_requestsOf_4 k S n x1 x2 (x3 + 1)))) := rfl
set_option maxRecDepth 100000 in
set_option maxHeartbeats 4000000 in
theorem N_X0_requestsOf_4 (C : CX E p l s m args meth c cX0_requestsOf 4 RX0 (some .int) A) (a : Nat → Nat) (k : Nat) (S : Nat → Nat → Int32) {post : Int32 → va_W → Prop} :
    ∀ (n : Nat) (x1 : Int32) (x2 : Int32) (x3 : Int32) (q : Int32), M_X0_requestsOf_4 k S n x1 x2 x3 = some q → post q (wFl E a S) →
      WW E p l e rm_X0_requestsOf s m args below meth c A 0 0 (QI E below post args s rm_X0_requestsOf A) (wFl E a S) 4 [some (.ref (a 0)), some (.int x1), some (.int x2), some (.int x3)] 4 [] := by
  intro n
  induction n with
  | zero => intro x1 x2 x3 q  h _; cases h
  | succ n ih =>
    intro x1 x2 x3 q  h hq
    rw [M_X0_requestsOf_4_s] at h
    refine r_iload_n (pc := 4) C (i := 3) dX0_requestsOf_4 rfl rfl ?_
    refine r_aload_n (pc := 5) C (i := 0) dX0_requestsOf_5 rfl rfl ?_
    refine r_get (pc := 6) C gwX0 0 rfl rfl 3 (by decide) wm_1_101 rfl dX0_requestsOf_6 ?_
    refine r_icmp_ge (pc := 9) C (tgt := 34) dX0_requestsOf_9 rfl (fun c1 => ?_) (fun c1 => ?_)
    · rw [if_pos c1] at h
      refine r_iload_n (pc := 34) C (i := 2) dX0_requestsOf_34 rfl rfl ?_
      cases h
      exact r_ireti (pc := 35) C hq (Nat.zero_le _) (Nat.zero_le _) dX0_requestsOf_35
    · rw [if_neg c1] at h
      refine r_aload_n (pc := 12) C (i := 0) dX0_requestsOf_12 rfl rfl ?_
      refine r_get (pc := 13) C gwX0 0 rfl rfl 9 (by decide) wm_1_115 rfl dX0_requestsOf_13 ?_
      refine r_iload_n (pc := 16) C (i := 3) dX0_requestsOf_16 rfl rfl ?_
      refine r_iconst (pc := 17) C (v := 0) dX0_requestsOf_17 (by decide) ?_
      obtain ⟨q2, hq2, h⟩ := bnd h
      refine r_callVp_CI (Cn := RX6) (pc := 18) C [.int x3, .int (0 : Int32)] (c_X6_at E l k (fun i => a (i + 7)) 60 8 480 (S 4) x3 (0 : Int32) hq2) [7, 8] rfl (by decide) 0 rfl rfl rfl g_X0_111 hd_X6_at ⟨Nat.le_of_ble_eq_true rfl, Nat.le_of_ble_eq_true rfl⟩ ⟨Nat.zero_le _, Nat.zero_le _⟩ (Nat.le_of_ble_eq_true rfl) rfl dX0_requestsOf_18 (fun r hr => ?_)
      have hr := hr.symm
      subst hr
      refine r_iload_n (pc := 21) C (i := 1) dX0_requestsOf_21 rfl rfl ?_
      refine r_icmp_ne (pc := 22) C (tgt := 28) dX0_requestsOf_22 rfl (fun c3 => ?_) (fun c3 => ?_)
      · rw [if_neg c3] at h
        refine r_iinc (pc := 28) C (v := (x3 + 1)) dX0_requestsOf_28 rfl rfl (by decide) rfl ?_
        refine r_goto (pc := 31) C (tgt := 4) dX0_requestsOf_31 rfl ?_
        refine r_weak (lSub_s (lSub_s (lSub_s (lSub_s lSub_e)))) ?_
        exact ih x1 x2 (x3 + 1) q  h hq
      · rw [if_pos c3] at h
        refine r_iinc (pc := 25) C (v := (x2 + 1)) dX0_requestsOf_25 rfl rfl (by decide) rfl ?_
        refine r_iinc (pc := 28) C (v := (x3 + 1)) dX0_requestsOf_28 rfl rfl (by decide) rfl ?_
        refine r_goto (pc := 31) C (tgt := 4) dX0_requestsOf_31 rfl ?_
        refine r_weak (lSub_s (lSub_s (lSub_s (lSub_s lSub_e)))) ?_
        exact ih x1 (x2 + 1) (x3 + 1) q  h hq
def M_X0_requestsOf_0 (k : Nat) (S : Nat → Nat → Int32) (p0 : Int32) : Option (Int32) := M_X0_requestsOf_4 k S k p0 (0 : Int32) (0 : Int32)
set_option maxRecDepth 100000 in
set_option maxHeartbeats 4000000 in
theorem N_X0_requestsOf_0 (C : CX E p l s m args meth c cX0_requestsOf 4 RX0 (some .int) A) (a : Nat → Nat) (k : Nat) (S : Nat → Nat → Int32) {post : Int32 → va_W → Prop} :
    ∀ (p0 : Int32) (q : Int32), M_X0_requestsOf_0 k S p0 = some q → post q (wFl E a S) →
      WW E p l e rm_X0_requestsOf s m args below meth c A 0 0 (QI E below post args s rm_X0_requestsOf A) (wFl E a S) 4 [some (.ref (a 0)), some (.int p0), none, none] 0 [] := by
  intro p0 q  h hq
  unfold M_X0_requestsOf_0 at h
  refine r_iconst (pc := 0) C (v := 0) dX0_requestsOf_0 (by decide) ?_
  refine r_istore_n (pc := 1) C (i := 2) dX0_requestsOf_1 rfl (by decide) rfl ?_
  refine r_iconst (pc := 2) C (v := 0) dX0_requestsOf_2 (by decide) ?_
  refine r_istore_n (pc := 3) C (i := 3) dX0_requestsOf_3 rfl (by decide) rfl ?_
  refine r_weak (lSub_s (lSub_s (lSub_s (lSub_s lSub_e)))) ?_
  exact N_X0_requestsOf_4 C a k S k p0 (0 : Int32) (0 : Int32) q  h hq
def M_X0_requestsOf (k : Nat) (S : Nat → Nat → Int32) (p0 : Int32) : Option (Int32) := M_X0_requestsOf_0 k S p0
set_option maxRecDepth 100000 in
set_option maxHeartbeats 4000000 in
theorem c_X0_requestsOf (E : ENV) (l : Launch) (k : Nat) (a : Nat → Nat) (S : Nat → Nat → Int32) (p0 : Int32) {q : Int32} (hm : M_X0_requestsOf k S p0 = some q) : CI E l yX0_requestsOf cX0_requestsOf 4 (some .int) rm_X0_requestsOf [.ref (a 0), .int p0] (wFl E a S) (fun r w' => r = q ∧ w' = (wFl E a S)) :=
  CI.of 2 (by decide) (Nat.le_of_ble_eq_true rfl) (fun p e s m below meth c A C _ => r_weak (lSub_s (lSub_s (lSub_n (lSub_n lSub_e)))) (N_X0_requestsOf_0 C a k S p0 q  hm ⟨rfl, rfl⟩))
-- ShardGuard$Fleet.requestsOf(II)I
theorem dX0_requestsOf__0 : decode cX0_requestsOf_ 0 = .ok (.iconst 0, 1) := by decide +kernel
theorem dX0_requestsOf__1 : decode cX0_requestsOf_ 1 = .ok (.istore_n 3, 1) := by decide +kernel
theorem dX0_requestsOf__2 : decode cX0_requestsOf_ 2 = .ok (.iconst 0, 1) := by decide +kernel
theorem dX0_requestsOf__3 : decode cX0_requestsOf_ 3 = .ok (.istore 4, 2) := by decide +kernel
theorem dX0_requestsOf__5 : decode cX0_requestsOf_ 5 = .ok (.iload 4, 2) := by decide +kernel
theorem dX0_requestsOf__7 : decode cX0_requestsOf_ 7 = .ok (.aload_n 0, 1) := by decide +kernel
theorem dX0_requestsOf__8 : decode cX0_requestsOf_ 8 = .ok (.getfield 75, 3) := by decide +kernel
theorem dX0_requestsOf__11 : decode cX0_requestsOf_ 11 = .ok (.if_icmp .ge 40, 3) := by decide +kernel
theorem dX0_requestsOf__14 : decode cX0_requestsOf_ 14 = .ok (.aload_n 0, 1) := by decide +kernel
theorem dX0_requestsOf__15 : decode cX0_requestsOf_ 15 = .ok (.getfield 32, 3) := by decide +kernel
theorem dX0_requestsOf__18 : decode cX0_requestsOf_ 18 = .ok (.iload 4, 2) := by decide +kernel
theorem dX0_requestsOf__20 : decode cX0_requestsOf_ 20 = .ok (.iconst 0, 1) := by decide +kernel
theorem dX0_requestsOf__21 : decode cX0_requestsOf_ 21 = .ok (.invokevirtual 111, 3) := by decide +kernel
theorem dX0_requestsOf__24 : decode cX0_requestsOf_ 24 = .ok (.iload_n 1, 1) := by decide +kernel
theorem dX0_requestsOf__25 : decode cX0_requestsOf_ 25 = .ok (.if_icmp .ne 20, 3) := by decide +kernel
theorem dX0_requestsOf__28 : decode cX0_requestsOf_ 28 = .ok (.aload_n 0, 1) := by decide +kernel
theorem dX0_requestsOf__29 : decode cX0_requestsOf_ 29 = .ok (.getfield 32, 3) := by decide +kernel
theorem dX0_requestsOf__32 : decode cX0_requestsOf_ 32 = .ok (.iload 4, 2) := by decide +kernel
theorem dX0_requestsOf__34 : decode cX0_requestsOf_ 34 = .ok (.iconst 4, 1) := by decide +kernel
theorem dX0_requestsOf__35 : decode cX0_requestsOf_ 35 = .ok (.invokevirtual 111, 3) := by decide +kernel
theorem dX0_requestsOf__38 : decode cX0_requestsOf_ 38 = .ok (.iload_n 2, 1) := by decide +kernel
theorem dX0_requestsOf__39 : decode cX0_requestsOf_ 39 = .ok (.if_icmp .ne 6, 3) := by decide +kernel
theorem dX0_requestsOf__42 : decode cX0_requestsOf_ 42 = .ok (.iinc 3 1, 3) := by decide +kernel
theorem dX0_requestsOf__45 : decode cX0_requestsOf_ 45 = .ok (.iinc 4 1, 3) := by decide +kernel
theorem dX0_requestsOf__48 : decode cX0_requestsOf_ 48 = .ok (.goto (-43), 3) := by decide +kernel
theorem dX0_requestsOf__51 : decode cX0_requestsOf_ 51 = .ok (.iload_n 3, 1) := by decide +kernel
theorem dX0_requestsOf__52 : decode cX0_requestsOf_ 52 = .ok (.ireturn, 1) := by decide +kernel
def rm_X0_requestsOf_ : Room := { frames := 1, cells := 0, slots := 0, locals := 24 }
def M_X0_requestsOf__5 (k : Nat) (S : Nat → Nat → Int32) : Nat → (Int32) → (Int32) → (Int32) → (Int32) → Option (Int32)
  | 0, _, _, _, _ => none
  | n + 1, x1, x2, x3, x4 => if (S 0 3) ≤ x4 then (some x3) else ((M_X6_at k 60 8 480 (S 4) x4 (0 : Int32)).bind fun q2 => if q2 = x1 then ((M_X6_at k 60 8 480 (S 4) x4 (4 : Int32)).bind fun q4 => if q4 = x2 then (M_X0_requestsOf__5 k S n x1 x2 (x3 + 1) (x4 + 1)) else (M_X0_requestsOf__5 k S n x1 x2 x3 (x4 + 1))) else (M_X0_requestsOf__5 k S n x1 x2 x3 (x4 + 1)))
theorem M_X0_requestsOf__5_s (k : Nat) (S : Nat → Nat → Int32) (n : Nat) (x1 : Int32) (x2 : Int32) (x3 : Int32) (x4 : Int32) : M_X0_requestsOf__5 k S (n + 1) x1 x2 x3 x4 = (if (S 0 3) ≤ x4 then (some x3) else ((M_X6_at k 60 8 480 (S 4) x4 (0 : Int32)).bind fun q2 => if q2 = x1 then ((M_X6_at k 60 8 480 (S 4) x4 (4 : Int32)).bind fun q4 => if q4 = x2 then (M_X0_requestsOf__5 k S n x1 x2 (x3 + 1) (x4 + 1)) else (M_X0_requestsOf__5 k S n x1 x2 x3 (x4 + 1))) else (M_X0_requestsOf__5 k S n x1 x2 x3 (x4 + 1)))) := rfl
set_option maxRecDepth 100000 in
set_option maxHeartbeats 4000000 in
theorem N_X0_requestsOf__5 (C : CX E p l s m args meth c cX0_requestsOf_ 5 RX0 (some .int) A) (a : Nat → Nat) (k : Nat) (S : Nat → Nat → Int32) {post : Int32 → va_W → Prop} :
    ∀ (n : Nat) (x1 : Int32) (x2 : Int32) (x3 : Int32) (x4 : Int32) (q : Int32), M_X0_requestsOf__5 k S n x1 x2 x3 x4 = some q → post q (wFl E a S) →
      WW E p l e rm_X0_requestsOf_ s m args below meth c A 0 0 (QI E below post args s rm_X0_requestsOf_ A) (wFl E a S) 5 [some (.ref (a 0)), some (.int x1), some (.int x2), some (.int x3), some (.int x4)] 5 [] := by
  intro n
  induction n with
  | zero => intro x1 x2 x3 x4 q  h _; cases h
  | succ n ih =>
    intro x1 x2 x3 x4 q  h hq
    rw [M_X0_requestsOf__5_s] at h
    refine r_iload (pc := 5) C (i := 4) dX0_requestsOf__5 rfl ?_
    refine r_aload_n (pc := 7) C (i := 0) dX0_requestsOf__7 rfl rfl ?_
    refine r_get (pc := 8) C gwX0 0 rfl rfl 3 (by decide) wm_1_101 rfl dX0_requestsOf__8 ?_
    refine r_icmp_ge (pc := 11) C (tgt := 51) dX0_requestsOf__11 rfl (fun c1 => ?_) (fun c1 => ?_)
    · rw [if_pos c1] at h
      refine r_iload_n (pc := 51) C (i := 3) dX0_requestsOf__51 rfl rfl ?_
      cases h
      exact r_ireti (pc := 52) C hq (Nat.zero_le _) (Nat.zero_le _) dX0_requestsOf__52
    · rw [if_neg c1] at h
      refine r_aload_n (pc := 14) C (i := 0) dX0_requestsOf__14 rfl rfl ?_
      refine r_get (pc := 15) C gwX0 0 rfl rfl 9 (by decide) wm_1_115 rfl dX0_requestsOf__15 ?_
      refine r_iload (pc := 18) C (i := 4) dX0_requestsOf__18 rfl ?_
      refine r_iconst (pc := 20) C (v := 0) dX0_requestsOf__20 (by decide) ?_
      obtain ⟨q2, hq2, h⟩ := bnd h
      refine r_callVp_CI (Cn := RX6) (pc := 21) C [.int x4, .int (0 : Int32)] (c_X6_at E l k (fun i => a (i + 7)) 60 8 480 (S 4) x4 (0 : Int32) hq2) [7, 8] rfl (by decide) 0 rfl rfl rfl g_X0_111 hd_X6_at ⟨Nat.le_of_ble_eq_true rfl, Nat.le_of_ble_eq_true rfl⟩ ⟨Nat.zero_le _, Nat.zero_le _⟩ (Nat.le_of_ble_eq_true rfl) rfl dX0_requestsOf__21 (fun r hr => ?_)
      have hr := hr.symm
      subst hr
      refine r_iload_n (pc := 24) C (i := 1) dX0_requestsOf__24 rfl rfl ?_
      refine r_icmp_ne (pc := 25) C (tgt := 45) dX0_requestsOf__25 rfl (fun c3 => ?_) (fun c3 => ?_)
      · rw [if_neg c3] at h
        refine r_iinc (pc := 45) C (v := (x4 + 1)) dX0_requestsOf__45 rfl rfl (by decide) rfl ?_
        refine r_goto (pc := 48) C (tgt := 5) dX0_requestsOf__48 rfl ?_
        refine r_weak (lSub_s (lSub_s (lSub_s (lSub_s (lSub_s lSub_e))))) ?_
        exact ih x1 x2 x3 (x4 + 1) q  h hq
      · rw [if_pos c3] at h
        refine r_aload_n (pc := 28) C (i := 0) dX0_requestsOf__28 rfl rfl ?_
        refine r_get (pc := 29) C gwX0 0 rfl rfl 9 (by decide) wm_1_115 rfl dX0_requestsOf__29 ?_
        refine r_iload (pc := 32) C (i := 4) dX0_requestsOf__32 rfl ?_
        refine r_iconst (pc := 34) C (v := 4) dX0_requestsOf__34 (by decide) ?_
        obtain ⟨q4, hq4, h⟩ := bnd h
        refine r_callVp_CI (Cn := RX6) (pc := 35) C [.int x4, .int (4 : Int32)] (c_X6_at E l k (fun i => a (i + 7)) 60 8 480 (S 4) x4 (4 : Int32) hq4) [7, 8] rfl (by decide) 0 rfl rfl rfl g_X0_111 hd_X6_at ⟨Nat.le_of_ble_eq_true rfl, Nat.le_of_ble_eq_true rfl⟩ ⟨Nat.zero_le _, Nat.zero_le _⟩ (Nat.le_of_ble_eq_true rfl) rfl dX0_requestsOf__35 (fun r hr => ?_)
        have hr := hr.symm
        subst hr
        refine r_iload_n (pc := 38) C (i := 2) dX0_requestsOf__38 rfl rfl ?_
        refine r_icmp_ne (pc := 39) C (tgt := 45) dX0_requestsOf__39 rfl (fun c5 => ?_) (fun c5 => ?_)
        · rw [if_neg c5] at h
          refine r_iinc (pc := 45) C (v := (x4 + 1)) dX0_requestsOf__45 rfl rfl (by decide) rfl ?_
          refine r_goto (pc := 48) C (tgt := 5) dX0_requestsOf__48 rfl ?_
          refine r_weak (lSub_s (lSub_s (lSub_s (lSub_s (lSub_s lSub_e))))) ?_
          exact ih x1 x2 x3 (x4 + 1) q  h hq
        · rw [if_pos c5] at h
          refine r_iinc (pc := 42) C (v := (x3 + 1)) dX0_requestsOf__42 rfl rfl (by decide) rfl ?_
          refine r_iinc (pc := 45) C (v := (x4 + 1)) dX0_requestsOf__45 rfl rfl (by decide) rfl ?_
          refine r_goto (pc := 48) C (tgt := 5) dX0_requestsOf__48 rfl ?_
          refine r_weak (lSub_s (lSub_s (lSub_s (lSub_s (lSub_s lSub_e))))) ?_
          exact ih x1 x2 (x3 + 1) (x4 + 1) q  h hq
def M_X0_requestsOf__0 (k : Nat) (S : Nat → Nat → Int32) (p0 : Int32) (p1 : Int32) : Option (Int32) := M_X0_requestsOf__5 k S k p0 p1 (0 : Int32) (0 : Int32)
set_option maxRecDepth 100000 in
set_option maxHeartbeats 4000000 in
theorem N_X0_requestsOf__0 (C : CX E p l s m args meth c cX0_requestsOf_ 5 RX0 (some .int) A) (a : Nat → Nat) (k : Nat) (S : Nat → Nat → Int32) {post : Int32 → va_W → Prop} :
    ∀ (p0 : Int32) (p1 : Int32) (q : Int32), M_X0_requestsOf__0 k S p0 p1 = some q → post q (wFl E a S) →
      WW E p l e rm_X0_requestsOf_ s m args below meth c A 0 0 (QI E below post args s rm_X0_requestsOf_ A) (wFl E a S) 5 [some (.ref (a 0)), some (.int p0), some (.int p1), none, none] 0 [] := by
  intro p0 p1 q  h hq
  unfold M_X0_requestsOf__0 at h
  refine r_iconst (pc := 0) C (v := 0) dX0_requestsOf__0 (by decide) ?_
  refine r_istore_n (pc := 1) C (i := 3) dX0_requestsOf__1 rfl (by decide) rfl ?_
  refine r_iconst (pc := 2) C (v := 0) dX0_requestsOf__2 (by decide) ?_
  refine r_istore (pc := 3) C (i := 4) dX0_requestsOf__3 (by decide) rfl ?_
  refine r_weak (lSub_s (lSub_s (lSub_s (lSub_s (lSub_s lSub_e))))) ?_
  exact N_X0_requestsOf__5 C a k S k p0 p1 (0 : Int32) (0 : Int32) q  h hq
def M_X0_requestsOf_ (k : Nat) (S : Nat → Nat → Int32) (p0 : Int32) (p1 : Int32) : Option (Int32) := M_X0_requestsOf__0 k S p0 p1
set_option maxRecDepth 100000 in
set_option maxHeartbeats 4000000 in
theorem c_X0_requestsOf_ (E : ENV) (l : Launch) (k : Nat) (a : Nat → Nat) (S : Nat → Nat → Int32) (p0 : Int32) (p1 : Int32) {q : Int32} (hm : M_X0_requestsOf_ k S p0 p1 = some q) : CI E l yX0_requestsOf_ cX0_requestsOf_ 5 (some .int) rm_X0_requestsOf_ [.ref (a 0), .int p0, .int p1] (wFl E a S) (fun r w' => r = q ∧ w' = (wFl E a S)) :=
  CI.of 2 (by decide) (Nat.le_of_ble_eq_true rfl) (fun p e s m below meth c A C _ => r_weak (lSub_s (lSub_s (lSub_s (lSub_n (lSub_n lSub_e))))) (N_X0_requestsOf__0 C a k S p0 p1 q  hm ⟨rfl, rfl⟩))
end WALKS
