section WALKS
variable {E : ENV} {p : Program} {l : Launch} {e : Env} {s : State} {m : MethodId} {args : Array Value} {below : List Frame} {meth : Method} {c : Code} {A : Nat → Prop}
-- ShardGuard.needSetting(I)V
theorem dX9_needSetting_0 : decode cX9_needSetting 0 = .ok (.iload_n 0, 1) := by decide +kernel
theorem dX9_needSetting_1 : decode cX9_needSetting 1 = .ok (.ifCond .lt 8, 3) := by decide +kernel
theorem dX9_needSetting_4 : decode cX9_needSetting 4 = .ok (.iload_n 0, 1) := by decide +kernel
theorem dX9_needSetting_5 : decode cX9_needSetting 5 = .ok (.iconst 4, 1) := by decide +kernel
theorem dX9_needSetting_6 : decode cX9_needSetting 6 = .ok (.if_icmp .le 14, 3) := by decide +kernel
theorem dX9_needSetting_9 : decode cX9_needSetting 9 = .ok (.new 134, 3) := by decide +kernel
theorem dX9_needSetting_12 : decode cX9_needSetting 12 = .ok (.dup, 1) := by decide +kernel
theorem dX9_needSetting_13 : decode cX9_needSetting 13 = .ok (.ldc_w 338, 3) := by decide +kernel
theorem dX9_needSetting_16 : decode cX9_needSetting 16 = .ok (.invokespecial 138, 3) := by decide +kernel
theorem dX9_needSetting_19 : decode cX9_needSetting 19 = .ok (.athrow, 1) := by decide +kernel
theorem dX9_needSetting_20 : decode cX9_needSetting 20 = .ok (.return_, 1) := by decide +kernel
def rm_X9_needSetting : Room := { frames := 6, cells := 1, slots := 6, locals := 100 }
def M_X9_needSetting_0 (k : Nat) (p0 : Int32) : Option (Int32) := if p0 < 0 then (some (1 : Int32)) else (if p0 ≤ (4 : Int32) then (some (0 : Int32)) else (some (1 : Int32)))
set_option maxRecDepth 100000 in
set_option maxHeartbeats 4000000 in
theorem N_X9_needSetting_0 (C : CX E p l s m args meth c cX9_needSetting 1 RX9 none A) (k : Nat) {post : va_W → Prop} {px : Int32 → va_W → Prop} (hlt : l.stackTraces = false) (hno : ∀ x ∈ c.exceptionTable.toList, False) (hdc : DC s) :
    ∀ (p0 : Int32) (q : Int32), M_X9_needSetting_0 k p0 = some q → TV post px q ([] : va_W) →
      WW E p l e rm_X9_needSetting s m args below meth c A 0 0 (QXV E below post px args s rm_X9_needSetting A) ([] : va_W) 1 [some (.int p0)] 0 [] := by
  intro p0 q  h hq
  unfold M_X9_needSetting_0 at h
  refine r_iload_n (pc := 0) C (i := 0) dX9_needSetting_0 rfl rfl ?_
  refine r_if_lt (pc := 1) C (tgt := 9) dX9_needSetting_1 rfl (fun c1 => ?_) (fun c1 => ?_)
  · rw [if_pos c1] at h
    cases h
    exact r_throwNW (pc := 9) C hlt hno hdc 13 rfl wm_3_210 wm_1_23 dX9_needSetting_9 dX9_needSetting_12 dX9_needSetting_13 dX9_needSetting_16 dX9_needSetting_19 (Nat.le_of_ble_eq_true rfl) (Nat.le_of_ble_eq_true rfl) (Nat.le_of_ble_eq_true rfl) (Nat.le_of_ble_eq_true rfl) (Nat.le_of_ble_eq_true rfl) (TV_x (by decide) hq)
  · rw [if_neg c1] at h
    refine r_iload_n (pc := 4) C (i := 0) dX9_needSetting_4 rfl rfl ?_
    refine r_iconst (pc := 5) C (v := 4) dX9_needSetting_5 (by decide) ?_
    refine r_icmp_le (pc := 6) C (tgt := 20) dX9_needSetting_6 rfl (fun c2 => ?_) (fun c2 => ?_)
    · rw [if_pos c2] at h
      cases h
      exact r_xV (r_vret (pc := 20) C (TV_0 hq) (Nat.zero_le _) (Nat.zero_le _) dX9_needSetting_20)
    · rw [if_neg c2] at h
      cases h
      exact r_throwNW (pc := 9) C hlt hno hdc 13 rfl wm_3_210 wm_1_23 dX9_needSetting_9 dX9_needSetting_12 dX9_needSetting_13 dX9_needSetting_16 dX9_needSetting_19 (Nat.le_of_ble_eq_true rfl) (Nat.le_of_ble_eq_true rfl) (Nat.le_of_ble_eq_true rfl) (Nat.le_of_ble_eq_true rfl) (Nat.le_of_ble_eq_true rfl) (TV_x (by decide) hq)
def M_X9_needSetting (k : Nat) (p0 : Int32) : Option (Int32) := M_X9_needSetting_0 k p0
set_option maxRecDepth 100000 in
set_option maxHeartbeats 4000000 in
theorem c_X9_needSetting (E : ENV) (l : Launch) (k : Nat) (p0 : Int32) (hlt : l.stackTraces = false) {q : Int32} (hm : M_X9_needSetting k p0 = some q) : XV E l yX9_needSetting cX9_needSetting 1 none rm_X9_needSetting [.int p0] ([] : va_W) (fun w' => q = 0 ∧ w' = ([] : va_W)) (fun cd w' => cd = q ∧ ¬ q = 0 ∧ w' = ([] : va_W)) :=
  XV.of 0 (by decide) (Nat.le_of_ble_eq_true rfl) (fun p e s m below meth c A C hno hdc => r_weak (lSub_s lSub_e) (N_X9_needSetting_0 C k hlt hno hdc p0 q  hm (TV_of rfl)))
-- ShardGuard.needSeed(I)V
theorem dX9_needSeed_0 : decode cX9_needSeed 0 = .ok (.iload_n 0, 1) := by decide +kernel
theorem dX9_needSeed_1 : decode cX9_needSeed 1 = .ok (.ifCond .ge 14, 3) := by decide +kernel
theorem dX9_needSeed_4 : decode cX9_needSeed 4 = .ok (.new 59, 3) := by decide +kernel
theorem dX9_needSeed_7 : decode cX9_needSeed 7 = .ok (.dup, 1) := by decide +kernel
theorem dX9_needSeed_8 : decode cX9_needSeed 8 = .ok (.ldc_w 340, 3) := by decide +kernel
theorem dX9_needSeed_11 : decode cX9_needSeed 11 = .ok (.invokespecial 63, 3) := by decide +kernel
theorem dX9_needSeed_14 : decode cX9_needSeed 14 = .ok (.athrow, 1) := by decide +kernel
theorem dX9_needSeed_15 : decode cX9_needSeed 15 = .ok (.return_, 1) := by decide +kernel
def rm_X9_needSeed : Room := { frames := 6, cells := 1, slots := 6, locals := 100 }
def M_X9_needSeed_0 (k : Nat) (p0 : Int32) : Option (Int32) := if 0 ≤ p0 then (some (0 : Int32)) else (some (2 : Int32))
set_option maxRecDepth 100000 in
set_option maxHeartbeats 4000000 in
theorem N_X9_needSeed_0 (C : CX E p l s m args meth c cX9_needSeed 1 RX9 none A) (k : Nat) {post : va_W → Prop} {px : Int32 → va_W → Prop} (hlt : l.stackTraces = false) (hno : ∀ x ∈ c.exceptionTable.toList, False) (hdc : DC s) :
    ∀ (p0 : Int32) (q : Int32), M_X9_needSeed_0 k p0 = some q → TV post px q ([] : va_W) →
      WW E p l e rm_X9_needSeed s m args below meth c A 0 0 (QXV E below post px args s rm_X9_needSeed A) ([] : va_W) 1 [some (.int p0)] 0 [] := by
  intro p0 q  h hq
  unfold M_X9_needSeed_0 at h
  refine r_iload_n (pc := 0) C (i := 0) dX9_needSeed_0 rfl rfl ?_
  refine r_if_ge (pc := 1) C (tgt := 15) dX9_needSeed_1 rfl (fun c1 => ?_) (fun c1 => ?_)
  · rw [if_pos c1] at h
    cases h
    exact r_xV (r_vret (pc := 15) C (TV_0 hq) (Nat.zero_le _) (Nat.zero_le _) dX9_needSeed_15)
  · rw [if_neg c1] at h
    cases h
    exact r_throwAW (pc := 4) C hlt hno hdc 22 rfl wm_2_186 wm_1_13 dX9_needSeed_4 dX9_needSeed_7 dX9_needSeed_8 dX9_needSeed_11 dX9_needSeed_14 (Nat.le_of_ble_eq_true rfl) (Nat.le_of_ble_eq_true rfl) (Nat.le_of_ble_eq_true rfl) (Nat.le_of_ble_eq_true rfl) (Nat.le_of_ble_eq_true rfl) (TV_x (by decide) hq)
def M_X9_needSeed (k : Nat) (p0 : Int32) : Option (Int32) := M_X9_needSeed_0 k p0
set_option maxRecDepth 100000 in
set_option maxHeartbeats 4000000 in
theorem c_X9_needSeed (E : ENV) (l : Launch) (k : Nat) (p0 : Int32) (hlt : l.stackTraces = false) {q : Int32} (hm : M_X9_needSeed k p0 = some q) : XV E l yX9_needSeed cX9_needSeed 1 none rm_X9_needSeed [.int p0] ([] : va_W) (fun w' => q = 0 ∧ w' = ([] : va_W)) (fun cd w' => cd = q ∧ ¬ q = 0 ∧ w' = ([] : va_W)) :=
  XV.of 0 (by decide) (Nat.le_of_ble_eq_true rfl) (fun p e s m below meth c A C hno hdc => r_weak (lSub_s lSub_e) (N_X9_needSeed_0 C k hlt hno hdc p0 q  hm (TV_of rfl)))
theorem g_X9_342 : GoodIn GW (wsV RX9 342 RX0 yX0_forgetRequests (wsG yX0_forgetRequests cX0_forgetRequests 2 none)) := gw_V wm_4_148 wm_2_0 wm_2_1 wm_1_2 wm_2_2
theorem g_X9_257 : GoodIn GW (wsV RX9 257 RX0 yX0_addRequest (wsG yX0_addRequest cX0_addRequest 5 (some .int))) := gw_V wm_4_149 wm_3_156 wm_3_157 wm_1_2 wm_3_158
-- ShardGuard.poisonDraft(I)V
theorem dX9_poisonDraft_0 : decode cX9_poisonDraft 0 = .ok (.aload_n 0, 1) := by decide +kernel
theorem dX9_poisonDraft_1 : decode cX9_poisonDraft 1 = .ok (.getfield 16, 3) := by decide +kernel
theorem dX9_poisonDraft_4 : decode cX9_poisonDraft 4 = .ok (.aload_n 0, 1) := by decide +kernel
theorem dX9_poisonDraft_5 : decode cX9_poisonDraft 5 = .ok (.getfield 12, 3) := by decide +kernel
theorem dX9_poisonDraft_8 : decode cX9_poisonDraft 8 = .ok (.invokevirtual 81, 3) := by decide +kernel
theorem dX9_poisonDraft_11 : decode cX9_poisonDraft 11 = .ok (.aload_n 0, 1) := by decide +kernel
theorem dX9_poisonDraft_12 : decode cX9_poisonDraft 12 = .ok (.getfield 16, 3) := by decide +kernel
theorem dX9_poisonDraft_15 : decode cX9_poisonDraft 15 = .ok (.invokevirtual 342, 3) := by decide +kernel
theorem dX9_poisonDraft_18 : decode cX9_poisonDraft 18 = .ok (.aload_n 0, 1) := by decide +kernel
theorem dX9_poisonDraft_19 : decode cX9_poisonDraft 19 = .ok (.getfield 16, 3) := by decide +kernel
theorem dX9_poisonDraft_22 : decode cX9_poisonDraft 22 = .ok (.iload_n 1, 1) := by decide +kernel
theorem dX9_poisonDraft_23 : decode cX9_poisonDraft 23 = .ok (.iconst 1, 1) := by decide +kernel
theorem dX9_poisonDraft_24 : decode cX9_poisonDraft 24 = .ok (.iconst 1, 1) := by decide +kernel
theorem dX9_poisonDraft_25 : decode cX9_poisonDraft 25 = .ok (.invokevirtual 257, 3) := by decide +kernel
theorem dX9_poisonDraft_28 : decode cX9_poisonDraft 28 = .ok (.pop, 1) := by decide +kernel
theorem dX9_poisonDraft_29 : decode cX9_poisonDraft 29 = .ok (.return_, 1) := by decide +kernel
def rm_X9_poisonDraft : Room := { frames := 5, cells := 0, slots := 0, locals := 143 }
def M_X9_poisonDraft_0 (k : Nat) (p0 : Int32) (S : VV × VV × VV × VV × VV × Int32) : Option ((VV × VV × VV × VV × VV × Int32)) := (M_X0_copyFrom k (S.2.1) (S.1)).bind fun q1 => lt ((S.1, q1, S.2.2)) fun F2 => (M_X0_forgetRequests k (F2.2.1)).bind fun q3 => lt ((F2.1, q3, F2.2.2)) fun F4 => (M_X0_addRequest k (F4.2.1) p0 (1 : Int32) (1 : Int32)).bind fun q5 => lt ((F4.1, q5.2, F4.2.2)) fun F6 => some F6
set_option maxRecDepth 100000 in
set_option maxHeartbeats 4000000 in
theorem N_X9_poisonDraft_0 (C : CX E p l s m args meth c cX9_poisonDraft 2 RX9 none A) (a : Nat → Nat) (k : Nat) {post : va_W → Prop} :
    ∀ (p0 : Int32) (S : VV × VV × VV × VV × VV × Int32) (q : (VV × VV × VV × VV × VV × Int32)), M_X9_poisonDraft_0 k p0 S = some q → post (wSg E a q) →
      WW E p l e rm_X9_poisonDraft s m args below meth c A 0 0 (QV E below post args s rm_X9_poisonDraft A) (wSg E a S) 2 [some (.ref (a 0)), some (.int p0)] 0 [] := by
  intro p0 S q  h hq
  unfold M_X9_poisonDraft_0 at h
  refine r_aload_n (pc := 0) C (i := 0) dX9_poisonDraft_0 rfl rfl ?_
  refine r_get (pc := 1) C gwX9 0 rfl rfl 1 (by decide) wm_2_16 rfl dX9_poisonDraft_1 ?_
  refine r_aload_n (pc := 4) C (i := 0) dX9_poisonDraft_4 rfl rfl ?_
  refine r_get (pc := 5) C gwX9 0 rfl rfl 0 (by decide) wm_2_15 rfl dX9_poisonDraft_5 ?_
  obtain ⟨q1, hq1, h⟩ := bnd h
  obtain ⟨F2, hF2, h⟩ := lt_e h
  refine r_callV_CV (Cn := RX0) (pc := 8) C [.ref (a 1)] (c_X0_copyFrom E l k (fun i => a (i + 19)) (fun i => a (i + 1)) (S.2.1) (S.1) hq1) [19, 20, 21, 22, 23, 24, 25, 26, 27, 28, 29, 30, 31, 32, 33, 34, 35, 36, 1, 2, 3, 4, 5, 6, 7, 8, 9, 10, 11, 12, 13, 14, 15, 16, 17, 18] (hp_X9_bestSeed_1 E a S) (by decide) 0 rfl rfl rfl g_X9_81 hd_X0_copyFrom ⟨Nat.le_of_ble_eq_true rfl, Nat.le_of_ble_eq_true rfl⟩ ⟨Nat.zero_le _, Nat.zero_le _⟩ (Nat.le_of_ble_eq_true rfl) rfl dX9_poisonDraft_8 (fun w1 hw1 => ?_)
  subst hw1
  refine ⟨(wSg E a F2), by rw [hF2]; exact (pw_X9_bestSeed_1 E a S q1), ?_⟩
  refine r_aload_n (pc := 11) C (i := 0) dX9_poisonDraft_11 rfl rfl ?_
  refine r_get (pc := 12) C gwX9 0 rfl rfl 1 (by decide) wm_2_16 rfl dX9_poisonDraft_12 ?_
  obtain ⟨q3, hq3, h⟩ := bnd h
  obtain ⟨F4, hF4, h⟩ := lt_e h
  refine r_callV_CV (Cn := RX0) (pc := 15) C [] (c_X0_forgetRequests E l k (fun i => a (i + 19)) (F2.2.1) hq3) [19, 20, 21, 22, 23, 24, 25, 26, 27, 28, 29, 30, 31, 32, 33, 34, 35, 36] (hp_X9_bestSeed_0 E a F2) (by decide) 0 rfl rfl rfl g_X9_342 hd_X0_forgetRequests ⟨Nat.le_of_ble_eq_true rfl, Nat.le_of_ble_eq_true rfl⟩ ⟨Nat.zero_le _, Nat.zero_le _⟩ (Nat.le_of_ble_eq_true rfl) rfl dX9_poisonDraft_15 (fun w1 hw1 => ?_)
  subst hw1
  refine ⟨(wSg E a F4), by rw [hF4]; exact (pw_X9_bestSeed_0 E a F2 q3), ?_⟩
  refine r_aload_n (pc := 18) C (i := 0) dX9_poisonDraft_18 rfl rfl ?_
  refine r_get (pc := 19) C gwX9 0 rfl rfl 1 (by decide) wm_2_16 rfl dX9_poisonDraft_19 ?_
  refine r_iload_n (pc := 22) C (i := 1) dX9_poisonDraft_22 rfl rfl ?_
  refine r_iconst (pc := 23) C (v := 1) dX9_poisonDraft_23 (by decide) ?_
  refine r_iconst (pc := 24) C (v := 1) dX9_poisonDraft_24 (by decide) ?_
  obtain ⟨q5, hq5, h⟩ := bnd h
  obtain ⟨F6, hF6, h⟩ := lt_e h
  refine r_callV_CI (Cn := RX0) (pc := 25) C [.int p0, .int (1 : Int32), .int (1 : Int32)] (c_X0_addRequest E l k (fun i => a (i + 19)) (F4.2.1) p0 (1 : Int32) (1 : Int32) hq5) [19, 20, 21, 22, 23, 24, 25, 26, 27, 28, 29, 30, 31, 32, 33, 34, 35, 36] (hp_X9_bestSeed_0 E a F4) (by decide) 0 rfl rfl rfl g_X9_257 hd_X0_addRequest ⟨Nat.le_of_ble_eq_true rfl, Nat.le_of_ble_eq_true rfl⟩ ⟨Nat.zero_le _, Nat.zero_le _⟩ (Nat.le_of_ble_eq_true rfl) rfl dX9_poisonDraft_25 (fun r w1 hw1 => ?_)
  obtain ⟨hr1, hw1⟩ := hw1
  subst hr1 hw1
  refine ⟨(wSg E a F6), by rw [hF6]; exact (pw_X9_bestSeed_0 E a F4 q5.2), ?_⟩
  refine r_pop (pc := 28) C dX9_poisonDraft_28 rfl ?_
  cases h
  exact r_vret (pc := 29) C hq (Nat.zero_le _) (Nat.zero_le _) dX9_poisonDraft_29
def M_X9_poisonDraft (k : Nat) (S : VV × VV × VV × VV × VV × Int32) (p0 : Int32) : Option ((VV × VV × VV × VV × VV × Int32)) := M_X9_poisonDraft_0 k p0 S
set_option maxRecDepth 100000 in
set_option maxHeartbeats 4000000 in
theorem c_X9_poisonDraft (E : ENV) (l : Launch) (k : Nat) (a : Nat → Nat) (S : VV × VV × VV × VV × VV × Int32) (p0 : Int32) {q : (VV × VV × VV × VV × VV × Int32)} (hm : M_X9_poisonDraft k S p0 = some q) : CV E l yX9_poisonDraft cX9_poisonDraft 2 none rm_X9_poisonDraft [.ref (a 0), .int p0] (wSg E a S) (fun w' => w' = (wSg E a q)) :=
  CV.of 0 (by decide) (Nat.le_of_ble_eq_true rfl) (fun p e s m below meth c A C _ => r_weak (lSub_s (lSub_s lSub_e)) (N_X9_poisonDraft_0 C a k p0 S q  hm rfl))
theorem hd_X9_needSetting : yX9_needSetting.cls = RX9 ∧ yX9_needSetting.cls ≠ "java/lang/invoke/MethodHandle" ∧ yX9_needSetting.cls ≠ "java/lang/invoke/VarHandle" ∧ (parseMethodDescriptor yX9_needSetting.desc).map (fun d => d.parameters.length) = some 1 := by decide +kernel
theorem g_X9_139 : GoodIn GW (va_wsS RX9 139 yX9_needSetting (wsG yX9_needSetting cX9_needSetting 1 none)) := gw_S wm_3_233 wm_3_234 wm_1_1 wm_3_235
-- ShardGuard.setting(I)I
set_option maxHeartbeats 8000000 in
theorem hp_X9_setting_0 (E : ENV) (a : Nat → Nat) (S : VV × VV × VV × VV × VV × Int32) : ([2, 3] : List Nat).map (fun i => (wSg E a S)[i]?) = (wRow E (fun i => a (i + 2)) 5 ((S.1) 1)).map some := rfl
theorem dX9_setting_0 : decode cX9_setting 0 = .ok (.iload_n 1, 1) := by decide +kernel
theorem dX9_setting_1 : decode cX9_setting 1 = .ok (.invokestatic 139, 3) := by decide +kernel
theorem dX9_setting_4 : decode cX9_setting 4 = .ok (.aload_n 0, 1) := by decide +kernel
theorem dX9_setting_5 : decode cX9_setting 5 = .ok (.getfield 12, 3) := by decide +kernel
theorem dX9_setting_8 : decode cX9_setting 8 = .ok (.getfield 142, 3) := by decide +kernel
theorem dX9_setting_11 : decode cX9_setting 11 = .ok (.iload_n 1, 1) := by decide +kernel
theorem dX9_setting_12 : decode cX9_setting 12 = .ok (.invokevirtual 146, 3) := by decide +kernel
theorem dX9_setting_15 : decode cX9_setting 15 = .ok (.ireturn, 1) := by decide +kernel
def rm_X9_setting : Room := { frames := 7, cells := 1, slots := 6, locals := 120 }
def M_X9_setting_0 (k : Nat) (S : VV × VV × VV × VV × VV × Int32) (p0 : Int32) : Option (Int32 × Int32) := (M_X9_needSetting k p0).bind fun q1 => (if q1 = 0 then (M_X5_at k 5 ((S.1) 1) p0).bind fun q3 => some ((0 : Int32), q3) else some (q1, (0 : Int32)))
set_option maxRecDepth 100000 in
set_option maxHeartbeats 4000000 in
theorem N_X9_setting_0 (C : CX E p l s m args meth c cX9_setting 2 RX9 (some .int) A) (a : Nat → Nat) (k : Nat) (S : VV × VV × VV × VV × VV × Int32) {post : Int32 → va_W → Prop} {px : Int32 → va_W → Prop} (hlt : l.stackTraces = false) (hno : ∀ x ∈ c.exceptionTable.toList, False) (hdc : DC s) :
    ∀ (p0 : Int32) (q : Int32 × Int32), M_X9_setting_0 k S p0 = some q → TI post px q.1 q.2 (wSg E a S) →
      WW E p l e rm_X9_setting s m args below meth c A 0 0 (QXI E below post px args s rm_X9_setting A) (wSg E a S) 2 [some (.ref (a 0)), some (.int p0)] 0 [] := by
  intro p0 q  h hq
  unfold M_X9_setting_0 at h
  refine r_iload_n (pc := 0) C (i := 1) dX9_setting_0 rfl rfl ?_
  obtain ⟨q1, hq1, h⟩ := bnd h
  -- may throw
  by_cases c2 : q1 = 0
  case neg =>
    rw [if_neg c2] at h
    cases h
    exact r_callXS_V (pc := 1) C [.int p0] hno hdc (c_X9_needSetting E l k p0 hlt hq1) [] rfl (by decide) g_X9_139 hd_X9_needSetting.2 ⟨Nat.le_of_ble_eq_true rfl, Nat.le_of_ble_eq_true rfl⟩ ⟨Nat.le_of_ble_eq_true rfl, Nat.le_of_ble_eq_true rfl⟩ (Nat.le_of_ble_eq_true rfl) rfl dX9_setting_1 (fun cd w1 hx => ⟨(wSg E a S), by rw [hx.2.2]; exact rfl, by rw [hx.1]; exact TI_x c2 hq⟩) (fun w1 hx => absurd hx.1 c2)
  rw [if_pos c2] at h
  refine r_callXS_V (pc := 1) C [.int p0] hno hdc (c_X9_needSetting E l k p0 hlt hq1) [] rfl (by decide) g_X9_139 hd_X9_needSetting.2 ⟨Nat.le_of_ble_eq_true rfl, Nat.le_of_ble_eq_true rfl⟩ ⟨Nat.le_of_ble_eq_true rfl, Nat.le_of_ble_eq_true rfl⟩ (Nat.le_of_ble_eq_true rfl) rfl dX9_setting_1 (fun cd w1 hx => absurd c2 hx.2.1) (fun w1 hx => ?_)
  refine ⟨(wSg E a S), by rw [hx.2]; exact rfl, ?_⟩
  refine r_aload_n (pc := 4) C (i := 0) dX9_setting_4 rfl rfl ?_
  refine r_get (pc := 5) C gwX9 0 rfl rfl 0 (by decide) wm_2_15 rfl dX9_setting_5 ?_
  refine r_get (pc := 8) C gwX0 1 rfl rfl 6 (by decide) wm_1_110 rfl dX9_setting_8 ?_
  refine r_iload_n (pc := 11) C (i := 1) dX9_setting_11 rfl rfl ?_
  obtain ⟨q3, hq3, h⟩ := bnd h
  refine r_callVp_CI (Cn := RX5) (pc := 12) C [.int p0] (c_X5_at E l k (fun i => a (i + 2)) 5 ((S.1) 1) p0 hq3) [2, 3] (hp_X9_setting_0 E a S) (by decide) 0 rfl rfl rfl g_X9_146 hd_X5_at ⟨Nat.le_of_ble_eq_true rfl, Nat.le_of_ble_eq_true rfl⟩ ⟨Nat.le_of_ble_eq_true rfl, Nat.le_of_ble_eq_true rfl⟩ (Nat.le_of_ble_eq_true rfl) rfl dX9_setting_12 (fun r hr => ?_)
  have hr := hr.symm
  subst hr
  cases h
  exact r_xI (r_ireti (pc := 15) C (TI_0 hq) (Nat.le_of_ble_eq_true rfl) (Nat.le_of_ble_eq_true rfl) dX9_setting_15)
def M_X9_setting (k : Nat) (S : VV × VV × VV × VV × VV × Int32) (p0 : Int32) : Option (Int32 × Int32) := M_X9_setting_0 k S p0
set_option maxRecDepth 100000 in
set_option maxHeartbeats 4000000 in
theorem c_X9_setting (E : ENV) (l : Launch) (k : Nat) (a : Nat → Nat) (S : VV × VV × VV × VV × VV × Int32) (p0 : Int32) (hlt : l.stackTraces = false) {q : Int32 × Int32} (hm : M_X9_setting k S p0 = some q) : XI E l yX9_setting cX9_setting 2 (some .int) rm_X9_setting [.ref (a 0), .int p0] (wSg E a S) (fun r w' => q.1 = 0 ∧ r = q.2 ∧ w' = (wSg E a S)) (fun cd w' => cd = q.1 ∧ ¬ q.1 = 0 ∧ w' = (wSg E a S)) :=
  XI.of 0 (by decide) (Nat.le_of_ble_eq_true rfl) (fun p e s m below meth c A C hno hdc => r_weak (lSub_s (lSub_s lSub_e)) (N_X9_setting_0 C a k S hlt hno hdc p0 q  hm (TI_of rfl)))
theorem hd_X9_needWorker : yX9_needWorker.cls = RX9 ∧ yX9_needWorker.cls ≠ "java/lang/invoke/MethodHandle" ∧ yX9_needWorker.cls ≠ "java/lang/invoke/VarHandle" ∧ (parseMethodDescriptor yX9_needWorker.desc).map (fun d => d.parameters.length) = some 1 := by decide +kernel
theorem g_X9_151 : GoodIn GW (wsV RX9 151 RX9 yX9_needWorker (wsG yX9_needWorker cX9_needWorker 2 none)) := gw_V wm_4_4 wm_4_6 wm_0_5 wm_1_1 wm_4_7
theorem g_X9_154 : GoodIn GW (wsV RX9 154 RX0 yX0_isUp (wsG yX0_isUp cX0_isUp 2 (some .boolean))) := gw_V wm_4_9 wm_4_10 wm_4_11 wm_1_2 wm_4_12
theorem g_X9_161 : GoodIn GW (wsV RX9 161 RX0 yX0_loadOf (wsG yX0_loadOf cX0_loadOf 4 (some .int))) := gw_V wm_4_13 wm_3_176 wm_3_177 wm_1_2 wm_3_178
theorem hd_X3_ofWorker : yX3_ofWorker.cls = RX3 ∧ yX3_ofWorker.cls ≠ "java/lang/invoke/MethodHandle" ∧ yX3_ofWorker.cls ≠ "java/lang/invoke/VarHandle" ∧ (parseMethodDescriptor yX3_ofWorker.desc).map (fun d => d.parameters.length) = some 1 := by decide +kernel
theorem g_X9_164 : GoodIn GW (wsV RX9 164 RX3 yX3_ofWorker (wsG yX3_ofWorker cX3_ofWorker 4 (some .int))) := gw_V wm_4_14 wm_4_15 wm_4_16 wm_1_5 wm_4_17
theorem hd_X0_tenantsOn : yX0_tenantsOn.cls = RX0 ∧ yX0_tenantsOn.cls ≠ "java/lang/invoke/MethodHandle" ∧ yX0_tenantsOn.cls ≠ "java/lang/invoke/VarHandle" ∧ (parseMethodDescriptor yX0_tenantsOn.desc).map (fun d => d.parameters.length) = some 1 := by decide +kernel
theorem g_X9_167 : GoodIn GW (wsV RX9 167 RX0 yX0_tenantsOn (wsG yX0_tenantsOn cX0_tenantsOn 4 (some .int))) := gw_V wm_4_18 wm_4_19 wm_4_20 wm_1_2 wm_4_21
-- ShardGuard.worker(II)I
set_option maxHeartbeats 8000000 in
theorem hp_X9_worker_0 (E : ENV) (a : Nat → Nat) (S : VV × VV × VV × VV × VV × Int32) : ([0, 1, 2, 3, 4, 5, 6, 7, 8, 9, 10, 11, 12, 13, 14, 15, 16, 17, 18, 19, 20, 21, 22, 23, 24, 25, 26, 27, 28, 29, 30, 31, 32, 33, 34, 35, 36, 37, 38, 39, 40, 41, 42, 43, 44, 45, 46, 47, 48, 49, 50, 51, 52, 53, 54, 55, 56, 57, 58, 59, 60] : List Nat).map (fun i => (wSg E a S)[i]?) = (wSg E a S).map some := (seg_mapL ([] : va_W) (wSg E a S) ([] : va_W) (by first | (simp only [wSg, List.append_assoc, List.nil_append, List.append_nil]; done) | (simp only [wSg, List.append_assoc, List.nil_append, List.append_nil]; rfl) | rfl) 61 rfl [0, 1, 2, 3, 4, 5, 6, 7, 8, 9, 10, 11, 12, 13, 14, 15, 16, 17, 18, 19, 20, 21, 22, 23, 24, 25, 26, 27, 28, 29, 30, 31, 32, 33, 34, 35, 36, 37, 38, 39, 40, 41, 42, 43, 44, 45, 46, 47, 48, 49, 50, 51, 52, 53, 54, 55, 56, 57, 58, 59, 60] (by first | (simp only [List.length_append, List.length_cons, List.length_nil, wFl_len, wTk_len, wTx_len]; rfl) | rfl))
set_option maxHeartbeats 8000000 in
theorem hp_X9_worker_1 (E : ENV) (a : Nat → Nat) (S : VV × VV × VV × VV × VV × Int32) : ([4, 5] : List Nat).map (fun i => (wSg E a S)[i]?) = (wRow E (fun i => a (i + 4)) 12 ((S.1) 2)).map some := rfl
theorem dX9_worker_0 : decode cX9_worker 0 = .ok (.aload_n 0, 1) := by decide +kernel
theorem dX9_worker_1 : decode cX9_worker 1 = .ok (.iload_n 1, 1) := by decide +kernel
theorem dX9_worker_2 : decode cX9_worker 2 = .ok (.invokevirtual 151, 3) := by decide +kernel
theorem dX9_worker_5 : decode cX9_worker 5 = .ok (.iload_n 2, 1) := by decide +kernel
theorem dX9_worker_6 : decode cX9_worker 6 = .ok (.tableswitch 106 0 5 #[38, 55, 67, 76, 85, 97], 38) := by decide +kernel
theorem dX9_worker_44 : decode cX9_worker 44 = .ok (.aload_n 0, 1) := by decide +kernel
theorem dX9_worker_45 : decode cX9_worker 45 = .ok (.getfield 12, 3) := by decide +kernel
theorem dX9_worker_48 : decode cX9_worker 48 = .ok (.iload_n 1, 1) := by decide +kernel
theorem dX9_worker_49 : decode cX9_worker 49 = .ok (.invokevirtual 154, 3) := by decide +kernel
theorem dX9_worker_52 : decode cX9_worker 52 = .ok (.ifCond .eq 7, 3) := by decide +kernel
theorem dX9_worker_55 : decode cX9_worker 55 = .ok (.iconst 1, 1) := by decide +kernel
theorem dX9_worker_56 : decode cX9_worker 56 = .ok (.goto 4, 3) := by decide +kernel
theorem dX9_worker_59 : decode cX9_worker 59 = .ok (.iconst 0, 1) := by decide +kernel
theorem dX9_worker_60 : decode cX9_worker 60 = .ok (.ireturn, 1) := by decide +kernel
theorem dX9_worker_61 : decode cX9_worker 61 = .ok (.aload_n 0, 1) := by decide +kernel
theorem dX9_worker_62 : decode cX9_worker 62 = .ok (.getfield 12, 3) := by decide +kernel
theorem dX9_worker_65 : decode cX9_worker 65 = .ok (.getfield 158, 3) := by decide +kernel
theorem dX9_worker_68 : decode cX9_worker 68 = .ok (.iload_n 1, 1) := by decide +kernel
theorem dX9_worker_69 : decode cX9_worker 69 = .ok (.invokevirtual 146, 3) := by decide +kernel
theorem dX9_worker_72 : decode cX9_worker 72 = .ok (.ireturn, 1) := by decide +kernel
theorem dX9_worker_73 : decode cX9_worker 73 = .ok (.aload_n 0, 1) := by decide +kernel
theorem dX9_worker_74 : decode cX9_worker 74 = .ok (.getfield 12, 3) := by decide +kernel
theorem dX9_worker_77 : decode cX9_worker 77 = .ok (.iload_n 1, 1) := by decide +kernel
theorem dX9_worker_78 : decode cX9_worker 78 = .ok (.invokevirtual 115, 3) := by decide +kernel
theorem dX9_worker_81 : decode cX9_worker 81 = .ok (.ireturn, 1) := by decide +kernel
theorem dX9_worker_82 : decode cX9_worker 82 = .ok (.aload_n 0, 1) := by decide +kernel
theorem dX9_worker_83 : decode cX9_worker 83 = .ok (.getfield 12, 3) := by decide +kernel
theorem dX9_worker_86 : decode cX9_worker 86 = .ok (.iload_n 1, 1) := by decide +kernel
theorem dX9_worker_87 : decode cX9_worker 87 = .ok (.invokevirtual 161, 3) := by decide +kernel
theorem dX9_worker_90 : decode cX9_worker 90 = .ok (.ireturn, 1) := by decide +kernel
theorem dX9_worker_91 : decode cX9_worker 91 = .ok (.aload_n 0, 1) := by decide +kernel
theorem dX9_worker_92 : decode cX9_worker 92 = .ok (.getfield 12, 3) := by decide +kernel
theorem dX9_worker_95 : decode cX9_worker 95 = .ok (.getfield 118, 3) := by decide +kernel
theorem dX9_worker_98 : decode cX9_worker 98 = .ok (.iload_n 1, 1) := by decide +kernel
theorem dX9_worker_99 : decode cX9_worker 99 = .ok (.invokevirtual 164, 3) := by decide +kernel
theorem dX9_worker_102 : decode cX9_worker 102 = .ok (.ireturn, 1) := by decide +kernel
theorem dX9_worker_103 : decode cX9_worker 103 = .ok (.aload_n 0, 1) := by decide +kernel
theorem dX9_worker_104 : decode cX9_worker 104 = .ok (.getfield 12, 3) := by decide +kernel
theorem dX9_worker_107 : decode cX9_worker 107 = .ok (.iload_n 1, 1) := by decide +kernel
theorem dX9_worker_108 : decode cX9_worker 108 = .ok (.invokevirtual 167, 3) := by decide +kernel
theorem dX9_worker_111 : decode cX9_worker 111 = .ok (.ireturn, 1) := by decide +kernel
theorem dX9_worker_112 : decode cX9_worker 112 = .ok (.new 134, 3) := by decide +kernel
theorem dX9_worker_115 : decode cX9_worker 115 = .ok (.dup, 1) := by decide +kernel
theorem dX9_worker_116 : decode cX9_worker 116 = .ok (.ldc 170, 2) := by decide +kernel
theorem dX9_worker_118 : decode cX9_worker 118 = .ok (.invokespecial 138, 3) := by decide +kernel
theorem dX9_worker_121 : decode cX9_worker 121 = .ok (.athrow, 1) := by decide +kernel
def rm_X9_worker : Room := { frames := 7, cells := 2, slots := 12, locals := 121 }
def M_X9_worker_0 (k : Nat) (S : VV × VV × VV × VV × VV × Int32) (p0 : Int32) (p1 : Int32) : Option (Int32 × Int32) := (M_X9_needWorker k S p0).bind fun q1 => (if q1 = 0 then if p1 = (0 : Int32) then ((M_X0_isUp k (S.1) p0).bind fun q4 => if q4 = 0 then (some ((0 : Int32), (0 : Int32))) else (some ((0 : Int32), (1 : Int32)))) else (if p1 = (1 : Int32) then ((M_X5_at k 12 ((S.1) 2) p0).bind fun q7 => some ((0 : Int32), q7)) else (if p1 = (2 : Int32) then ((M_X0_queueLength k (S.1) p0).bind fun q9 => some ((0 : Int32), q9)) else (if p1 = (3 : Int32) then ((M_X0_loadOf k (S.1) p0).bind fun q11 => some ((0 : Int32), q11)) else (if p1 = (4 : Int32) then ((M_X3_ofWorker k (klF (S.1)) p0).bind fun q13 => some ((0 : Int32), q13)) else (if p1 = (5 : Int32) then ((M_X0_tenantsOn k (S.1) p0).bind fun q15 => some ((0 : Int32), q15)) else (some ((1 : Int32), (0 : Int32)))))))) else some (q1, (0 : Int32)))
set_option maxRecDepth 100000 in
set_option maxHeartbeats 4000000 in
theorem N_X9_worker_0 (C : CX E p l s m args meth c cX9_worker 3 RX9 (some .int) A) (a : Nat → Nat) (k : Nat) (S : VV × VV × VV × VV × VV × Int32) {post : Int32 → va_W → Prop} {px : Int32 → va_W → Prop} (hlt : l.stackTraces = false) (hno : ∀ x ∈ c.exceptionTable.toList, False) (hdc : DC s) :
    ∀ (p0 : Int32) (p1 : Int32) (q : Int32 × Int32), M_X9_worker_0 k S p0 p1 = some q → TI post px q.1 q.2 (wSg E a S) →
      WW E p l e rm_X9_worker s m args below meth c A 0 0 (QXI E below post px args s rm_X9_worker A) (wSg E a S) 3 [some (.ref (a 0)), some (.int p0), some (.int p1)] 0 [] := by
  intro p0 p1 q  h hq
  unfold M_X9_worker_0 at h
  refine r_aload_n (pc := 0) C (i := 0) dX9_worker_0 rfl rfl ?_
  refine r_iload_n (pc := 1) C (i := 1) dX9_worker_1 rfl rfl ?_
  obtain ⟨q1, hq1, h⟩ := bnd h
  -- may throw
  by_cases c2 : q1 = 0
  case neg =>
    rw [if_neg c2] at h
    cases h
    exact r_callXV_V (Cn := RX9) (pc := 2) C [.int p0] hno hdc (c_X9_needWorker E l k a S p0 hlt hq1) [0, 1, 2, 3, 4, 5, 6, 7, 8, 9, 10, 11, 12, 13, 14, 15, 16, 17, 18, 19, 20, 21, 22, 23, 24, 25, 26, 27, 28, 29, 30, 31, 32, 33, 34, 35, 36, 37, 38, 39, 40, 41, 42, 43, 44, 45, 46, 47, 48, 49, 50, 51, 52, 53, 54, 55, 56, 57, 58, 59, 60] (hp_X9_worker_0 E a S) (by decide) 0 rfl rfl rfl g_X9_151 hd_X9_needWorker ⟨Nat.le_of_ble_eq_true rfl, Nat.le_of_ble_eq_true rfl⟩ ⟨Nat.le_of_ble_eq_true rfl, Nat.le_of_ble_eq_true rfl⟩ (Nat.le_of_ble_eq_true rfl) rfl dX9_worker_2 (fun cd w1 hx => ⟨(wSg E a S), by rw [hx.2.2]; exact (putW_self _ _ _ (hp_X9_worker_0 E a S)), by rw [hx.1]; exact TI_x c2 hq⟩) (fun w1 hx => absurd hx.1 c2)
  rw [if_pos c2] at h
  refine r_callXV_V (Cn := RX9) (pc := 2) C [.int p0] hno hdc (c_X9_needWorker E l k a S p0 hlt hq1) [0, 1, 2, 3, 4, 5, 6, 7, 8, 9, 10, 11, 12, 13, 14, 15, 16, 17, 18, 19, 20, 21, 22, 23, 24, 25, 26, 27, 28, 29, 30, 31, 32, 33, 34, 35, 36, 37, 38, 39, 40, 41, 42, 43, 44, 45, 46, 47, 48, 49, 50, 51, 52, 53, 54, 55, 56, 57, 58, 59, 60] (hp_X9_worker_0 E a S) (by decide) 0 rfl rfl rfl g_X9_151 hd_X9_needWorker ⟨Nat.le_of_ble_eq_true rfl, Nat.le_of_ble_eq_true rfl⟩ ⟨Nat.le_of_ble_eq_true rfl, Nat.le_of_ble_eq_true rfl⟩ (Nat.le_of_ble_eq_true rfl) rfl dX9_worker_2 (fun cd w1 hx => absurd c2 hx.2.1) (fun w1 hx => ?_)
  refine ⟨(wSg E a S), by rw [hx.2]; exact (putW_self _ _ _ (hp_X9_worker_0 E a S)), ?_⟩
  refine r_iload_n (pc := 5) C (i := 2) dX9_worker_5 rfl rfl ?_
  by_cases c3 : p1 = (0 : Int32)
  · rw [if_pos c3] at h
    refine r_tabIn (pc := 6) C 44 dX9_worker_6 c3 (by decide) (by decide) rfl rfl ?_
    refine r_aload_n (pc := 44) C (i := 0) dX9_worker_44 rfl rfl ?_
    refine r_get (pc := 45) C gwX9 0 rfl rfl 0 (by decide) wm_2_15 rfl dX9_worker_45 ?_
    refine r_iload_n (pc := 48) C (i := 1) dX9_worker_48 rfl rfl ?_
    obtain ⟨q4, hq4, h⟩ := bnd h
    refine r_callVp_CI (Cn := RX0) (pc := 49) C [.int p0] (c_X0_isUp E l k (fun i => a (i + 1)) (S.1) p0 hq4) [1, 2, 3, 4, 5, 6, 7, 8, 9, 10, 11, 12, 13, 14, 15, 16, 17, 18] (hp_X9_size_0 E a S) (by decide) 0 rfl rfl rfl g_X9_154 hd_X0_isUp ⟨Nat.le_of_ble_eq_true rfl, Nat.le_of_ble_eq_true rfl⟩ ⟨Nat.le_of_ble_eq_true rfl, Nat.le_of_ble_eq_true rfl⟩ (Nat.le_of_ble_eq_true rfl) rfl dX9_worker_49 (fun r hr => ?_)
    have hr := hr.symm
    subst hr
    refine r_if_eq (pc := 52) C (tgt := 59) dX9_worker_52 rfl (fun c5 => ?_) (fun c5 => ?_)
    · rw [if_pos c5] at h
      refine r_iconst (pc := 59) C (v := 0) dX9_worker_59 (by decide) ?_
      cases h
      exact r_xI (r_ireti (pc := 60) C (TI_0 hq) (Nat.le_of_ble_eq_true rfl) (Nat.le_of_ble_eq_true rfl) dX9_worker_60)
    · rw [if_neg c5] at h
      refine r_iconst (pc := 55) C (v := 1) dX9_worker_55 (by decide) ?_
      refine r_goto (pc := 56) C (tgt := 60) dX9_worker_56 rfl ?_
      cases h
      exact r_xI (r_ireti (pc := 60) C (TI_0 hq) (Nat.le_of_ble_eq_true rfl) (Nat.le_of_ble_eq_true rfl) dX9_worker_60)
  · rw [if_neg c3] at h
    by_cases c6 : p1 = (1 : Int32)
    · rw [if_pos c6] at h
      refine r_tabIn (pc := 6) C 61 dX9_worker_6 c6 (by decide) (by decide) rfl rfl ?_
      refine r_aload_n (pc := 61) C (i := 0) dX9_worker_61 rfl rfl ?_
      refine r_get (pc := 62) C gwX9 0 rfl rfl 0 (by decide) wm_2_15 rfl dX9_worker_62 ?_
      refine r_get (pc := 65) C gwX0 1 rfl rfl 7 (by decide) wm_1_112 rfl dX9_worker_65 ?_
      refine r_iload_n (pc := 68) C (i := 1) dX9_worker_68 rfl rfl ?_
      obtain ⟨q7, hq7, h⟩ := bnd h
      refine r_callVp_CI (Cn := RX5) (pc := 69) C [.int p0] (c_X5_at E l k (fun i => a (i + 4)) 12 ((S.1) 2) p0 hq7) [4, 5] (hp_X9_worker_1 E a S) (by decide) 0 rfl rfl rfl g_X9_146 hd_X5_at ⟨Nat.le_of_ble_eq_true rfl, Nat.le_of_ble_eq_true rfl⟩ ⟨Nat.le_of_ble_eq_true rfl, Nat.le_of_ble_eq_true rfl⟩ (Nat.le_of_ble_eq_true rfl) rfl dX9_worker_69 (fun r hr => ?_)
      have hr := hr.symm
      subst hr
      cases h
      exact r_xI (r_ireti (pc := 72) C (TI_0 hq) (Nat.le_of_ble_eq_true rfl) (Nat.le_of_ble_eq_true rfl) dX9_worker_72)
    · rw [if_neg c6] at h
      by_cases c8 : p1 = (2 : Int32)
      · rw [if_pos c8] at h
        refine r_tabIn (pc := 6) C 73 dX9_worker_6 c8 (by decide) (by decide) rfl rfl ?_
        refine r_aload_n (pc := 73) C (i := 0) dX9_worker_73 rfl rfl ?_
        refine r_get (pc := 74) C gwX9 0 rfl rfl 0 (by decide) wm_2_15 rfl dX9_worker_74 ?_
        refine r_iload_n (pc := 77) C (i := 1) dX9_worker_77 rfl rfl ?_
        obtain ⟨q9, hq9, h⟩ := bnd h
        refine r_callVp_CI (Cn := RX0) (pc := 78) C [.int p0] (c_X0_queueLength E l k (fun i => a (i + 1)) (S.1) p0 hq9) [1, 2, 3, 4, 5, 6, 7, 8, 9, 10, 11, 12, 13, 14, 15, 16, 17, 18] (hp_X9_size_0 E a S) (by decide) 0 rfl rfl rfl g_X9_115 hd_X0_queueLength ⟨Nat.le_of_ble_eq_true rfl, Nat.le_of_ble_eq_true rfl⟩ ⟨Nat.le_of_ble_eq_true rfl, Nat.le_of_ble_eq_true rfl⟩ (Nat.le_of_ble_eq_true rfl) rfl dX9_worker_78 (fun r hr => ?_)
        have hr := hr.symm
        subst hr
        cases h
        exact r_xI (r_ireti (pc := 81) C (TI_0 hq) (Nat.le_of_ble_eq_true rfl) (Nat.le_of_ble_eq_true rfl) dX9_worker_81)
      · rw [if_neg c8] at h
        by_cases c10 : p1 = (3 : Int32)
        · rw [if_pos c10] at h
          refine r_tabIn (pc := 6) C 82 dX9_worker_6 c10 (by decide) (by decide) rfl rfl ?_
          refine r_aload_n (pc := 82) C (i := 0) dX9_worker_82 rfl rfl ?_
          refine r_get (pc := 83) C gwX9 0 rfl rfl 0 (by decide) wm_2_15 rfl dX9_worker_83 ?_
          refine r_iload_n (pc := 86) C (i := 1) dX9_worker_86 rfl rfl ?_
          obtain ⟨q11, hq11, h⟩ := bnd h
          refine r_callVp_CI (Cn := RX0) (pc := 87) C [.int p0] (c_X0_loadOf E l k (fun i => a (i + 1)) (S.1) p0 hq11) [1, 2, 3, 4, 5, 6, 7, 8, 9, 10, 11, 12, 13, 14, 15, 16, 17, 18] (hp_X9_size_0 E a S) (by decide) 0 rfl rfl rfl g_X9_161 hd_X0_loadOf ⟨Nat.le_of_ble_eq_true rfl, Nat.le_of_ble_eq_true rfl⟩ ⟨Nat.le_of_ble_eq_true rfl, Nat.le_of_ble_eq_true rfl⟩ (Nat.le_of_ble_eq_true rfl) rfl dX9_worker_87 (fun r hr => ?_)
          have hr := hr.symm
          subst hr
          cases h
          exact r_xI (r_ireti (pc := 90) C (TI_0 hq) (Nat.le_of_ble_eq_true rfl) (Nat.le_of_ble_eq_true rfl) dX9_worker_90)
        · rw [if_neg c10] at h
          by_cases c12 : p1 = (4 : Int32)
          · rw [if_pos c12] at h
            refine r_tabIn (pc := 6) C 91 dX9_worker_6 c12 (by decide) (by decide) rfl rfl ?_
            refine r_aload_n (pc := 91) C (i := 0) dX9_worker_91 rfl rfl ?_
            refine r_get (pc := 92) C gwX9 0 rfl rfl 0 (by decide) wm_2_15 rfl dX9_worker_92 ?_
            refine r_get (pc := 95) C gwX0 1 rfl rfl 10 (by decide) wm_1_120 rfl dX9_worker_95 ?_
            refine r_iload_n (pc := 98) C (i := 1) dX9_worker_98 rfl rfl ?_
            obtain ⟨q13, hq13, h⟩ := bnd h
            refine r_callVp_CI (Cn := RX3) (pc := 99) C [.int p0] (c_X3_ofWorker E l k (fun i => a (i + 10)) (klF (S.1)) p0 hq13) [10, 11, 12, 13, 14, 15, 16] (hp_X9_killingPairs_0 E a S) (by decide) 0 rfl rfl rfl g_X9_164 hd_X3_ofWorker ⟨Nat.le_of_ble_eq_true rfl, Nat.le_of_ble_eq_true rfl⟩ ⟨Nat.le_of_ble_eq_true rfl, Nat.le_of_ble_eq_true rfl⟩ (Nat.le_of_ble_eq_true rfl) rfl dX9_worker_99 (fun r hr => ?_)
            have hr := hr.symm
            subst hr
            cases h
            exact r_xI (r_ireti (pc := 102) C (TI_0 hq) (Nat.le_of_ble_eq_true rfl) (Nat.le_of_ble_eq_true rfl) dX9_worker_102)
          · rw [if_neg c12] at h
            by_cases c14 : p1 = (5 : Int32)
            · rw [if_pos c14] at h
              refine r_tabIn (pc := 6) C 103 dX9_worker_6 c14 (by decide) (by decide) rfl rfl ?_
              refine r_aload_n (pc := 103) C (i := 0) dX9_worker_103 rfl rfl ?_
              refine r_get (pc := 104) C gwX9 0 rfl rfl 0 (by decide) wm_2_15 rfl dX9_worker_104 ?_
              refine r_iload_n (pc := 107) C (i := 1) dX9_worker_107 rfl rfl ?_
              obtain ⟨q15, hq15, h⟩ := bnd h
              refine r_callVp_CI (Cn := RX0) (pc := 108) C [.int p0] (c_X0_tenantsOn E l k (fun i => a (i + 1)) (S.1) p0 hq15) [1, 2, 3, 4, 5, 6, 7, 8, 9, 10, 11, 12, 13, 14, 15, 16, 17, 18] (hp_X9_size_0 E a S) (by decide) 0 rfl rfl rfl g_X9_167 hd_X0_tenantsOn ⟨Nat.le_of_ble_eq_true rfl, Nat.le_of_ble_eq_true rfl⟩ ⟨Nat.le_of_ble_eq_true rfl, Nat.le_of_ble_eq_true rfl⟩ (Nat.le_of_ble_eq_true rfl) rfl dX9_worker_108 (fun r hr => ?_)
              have hr := hr.symm
              subst hr
              cases h
              exact r_xI (r_ireti (pc := 111) C (TI_0 hq) (Nat.le_of_ble_eq_true rfl) (Nat.le_of_ble_eq_true rfl) dX9_worker_111)
            · rw [if_neg c14] at h
              refine r_tabOut (pc := 6) C 112 dX9_worker_6 (by have := lv_neT (a := 0) c3 (by decide); have := lv_neT (a := 1) c6 (by decide); have := lv_neT (a := 2) c8 (by decide); have := lv_neT (a := 3) c10 (by decide); have := lv_neT (a := 4) c12 (by decide); have := lv_neT (a := 5) c14 (by decide); omega) rfl ?_
              cases h
              exact r_throwN (pc := 112) C hlt hno hdc 15 rfl wm_3_210 wm_1_23 dX9_worker_112 dX9_worker_115 dX9_worker_116 dX9_worker_118 dX9_worker_121 (Nat.le_of_ble_eq_true rfl) (Nat.le_of_ble_eq_true rfl) (Nat.le_of_ble_eq_true rfl) (Nat.le_of_ble_eq_true rfl) (Nat.le_of_ble_eq_true rfl) (TI_x (by decide) hq)
def M_X9_worker (k : Nat) (S : VV × VV × VV × VV × VV × Int32) (p0 : Int32) (p1 : Int32) : Option (Int32 × Int32) := M_X9_worker_0 k S p0 p1
set_option maxRecDepth 100000 in
set_option maxHeartbeats 4000000 in
theorem c_X9_worker (E : ENV) (l : Launch) (k : Nat) (a : Nat → Nat) (S : VV × VV × VV × VV × VV × Int32) (p0 : Int32) (p1 : Int32) (hlt : l.stackTraces = false) {q : Int32 × Int32} (hm : M_X9_worker k S p0 p1 = some q) : XI E l yX9_worker cX9_worker 3 (some .int) rm_X9_worker [.ref (a 0), .int p0, .int p1] (wSg E a S) (fun r w' => q.1 = 0 ∧ r = q.2 ∧ w' = (wSg E a S)) (fun cd w' => cd = q.1 ∧ ¬ q.1 = 0 ∧ w' = (wSg E a S)) :=
  XI.of 0 (by decide) (Nat.le_of_ble_eq_true rfl) (fun p e s m below meth c A C hno hdc => r_weak (lSub_s (lSub_s (lSub_s lSub_e))) (N_X9_worker_0 C a k S hlt hno hdc p0 p1 q  hm (TI_of rfl)))
end WALKS
