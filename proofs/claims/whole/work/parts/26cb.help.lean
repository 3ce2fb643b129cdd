section WALKS
variable {E : ENV} {p : Program} {l : Launch} {e : Env} {s : State} {m : MethodId} {args : Array Value} {below : List Frame} {meth : Method} {c : Code} {A : Nat → Prop}
-- ShardGuardLaw.poisonKills
theorem dL_poisonKills_0 : decode cL_poisonKills 0 = .ok (.aload_n 2, 1) := by decide +kernel
theorem dL_poisonKills_1 : decode cL_poisonKills 1 = .ok (.iconst 0, 1) := by decide +kernel
theorem dL_poisonKills_2 : decode cL_poisonKills 2 = .ok (.aload_n 0, 1) := by decide +kernel
theorem dL_poisonKills_3 : decode cL_poisonKills 3 = .ok (.iload_n 1, 1) := by decide +kernel
theorem dL_poisonKills_4 : decode cL_poisonKills 4 = .ok (.invokevirtual 54, 3) := by decide +kernel
theorem dL_poisonKills_7 : decode cL_poisonKills 7 = .ok (.i2l, 1) := by decide +kernel
theorem dL_poisonKills_8 : decode cL_poisonKills 8 = .ok (.lastore, 1) := by decide +kernel
theorem dL_poisonKills_9 : decode cL_poisonKills 9 = .ok (.goto 6, 3) := by decide +kernel
theorem dL_poisonKills_12 : decode cL_poisonKills 12 = .ok (.astore_n 3, 1) := by decide +kernel
theorem dL_poisonKills_13 : decode cL_poisonKills 13 = .ok (.iconst 1, 1) := by decide +kernel
theorem dL_poisonKills_14 : decode cL_poisonKills 14 = .ok (.ireturn, 1) := by decide +kernel
theorem dL_poisonKills_15 : decode cL_poisonKills 15 = .ok (.iconst 0, 1) := by decide +kernel
theorem dL_poisonKills_16 : decode cL_poisonKills 16 = .ok (.ireturn, 1) := by decide +kernel
def M_L_poisonKills (k : Nat) (S : VV × VV × VV × VV × VV × Int32) (g : Nat → Int64) (p0 : Int32) : Option (Int32 × (VV × VV × VV × VV × VV × Int32) × (Nat → Int64)) := (M_X9_poisonKills k S p0).bind fun q => if q.1 = 0 then some ((0 : Int32), q.2.2, (vp_updL g (0 : Int32).toNatClampNeg q.2.1.toInt64)) else if q.1 = 1 then some ((1 : Int32), q.2.2, g) else none
def rm_L_poisonKills : Room := { frames := 8, cells := 1, slots := 6, locals := 211 }
theorem hd_X9_poisonKills : yX9_poisonKills.cls = RX9 ∧ yX9_poisonKills.cls ≠ "java/lang/invoke/MethodHandle" ∧ yX9_poisonKills.cls ≠ "java/lang/invoke/VarHandle" ∧ (parseMethodDescriptor yX9_poisonKills.desc).map (fun d => d.parameters.length) = some 1 := by decide +kernel
theorem g_L_54 : GoodIn GW (wsV RL 54 RX9 yX9_poisonKills (wsG yX9_poisonKills cX9_poisonKills 3 (some .int))) := gw_V wm_4_140 wm_4_141 wm_4_142 wm_1_1 wm_4_143
set_option maxRecDepth 100000 in
set_option maxHeartbeats 4000000 in
theorem c_L_poisonKills (E : ENV) (l : Launch) (k : Nat) (a : Nat → Nat) (o : Nat) (S : VV × VV × VV × VV × VV × Int32) (g : Nat → Int64) (p0 : Int32) (hlt : l.stackTraces = false) {q : Int32 × (VV × VV × VV × VV × VV × Int32) × (Nat → Int64)} (hm : M_L_poisonKills k S g p0 = some q) : HI E l yL_poisonKills cL_poisonKills 4 (some .int) [(0, 9, 12, 18)] rm_L_poisonKills [.ref (a 0), .int p0, .ref o] (wSg E a S ++ [(o, .inl (eC E 1, 1, .inr (.inl g)))]) (fun r w' => r = q.1 ∧ w' = (wSg E a q.2.1 ++ [(o, .inl (eC E 1, 1, .inr (.inl q.2.2)))])) := by
  refine HI.of 1 (by decide) (Nat.le_of_ble_eq_true rfl) (fun p e s m below meth c A C hct hdc => ?_)
  refine r_weak (L' := [some (.ref (a 0)), some (.int p0), some (.ref o), none]) (lSub_s (lSub_s (lSub_s (lSub_n lSub_e)))) ?_
  refine r_aload_n (pc := 0) C (i := 2) dL_poisonKills_0 rfl rfl ?_
  refine r_iconst (pc := 1) C (v := 0) dL_poisonKills_1 (by decide) ?_
  refine r_aload_n (pc := 2) C (i := 0) dL_poisonKills_2 rfl rfl ?_
  refine r_iload_n (pc := 3) C (i := 1) dL_poisonKills_3 rfl rfl ?_
  obtain ⟨q, hq, hm⟩ := bnd hm
  refine r_callH (Cn := RX9) (pc := 4) C [.int p0] hdc (c_X9_poisonKills E l k a S p0 hlt hq) [0, 1, 2, 3, 4, 5, 6, 7, 8, 9, 10, 11, 12, 13, 14, 15, 16, 17, 18, 19, 20, 21, 22, 23, 24, 25, 26, 27, 28, 29, 30, 31, 32, 33, 34, 35, 36, 37, 38, 39, 40, 41, 42, 43, 44, 45, 46, 47, 48, 49, 50, 51, 52, 53, 54, 55, 56, 57, 58, 59, 60] (hpA E a S [(o, .inl (eC E 1, 1, .inr (.inl g)))]) (by decide) 0 rfl rfl rfl g_L_54 hd_X9_poisonKills ⟨Nat.le_of_ble_eq_true rfl, Nat.le_of_ble_eq_true rfl⟩ ⟨Nat.le_of_ble_eq_true rfl, Nat.le_of_ble_eq_true rfl⟩ (Nat.le_of_ble_eq_true rfl) rfl dL_poisonKills_4 (fun cd w1 hx => ?_) (fun r w1 hx => ?_)
  · -- thrown
    obtain ⟨h1, h2, h3⟩ := hx
    rw [if_neg h2] at hm
    obtain ⟨h4, hm⟩ := ifn hm
    cases hm
    refine ⟨wSg E a q.2.2 ++ [(o, .inl (eC E 1, 1, .inr (.inl g)))], by rw [h3]; exact pwA E a S q.2.2 [(o, .inl (eC E 1, 1, .inr (.inl g)))], ⟨12, ⟨[], [], ⟨0, 9, 12, 18⟩, "java/util/NoSuchElementException", hct, (fun z hz => nomatch hz), rfl, by decide, C.2.2.2.2.1 _ wm_3_188, by rw [h1, h4]; exact va_tabs rfl rfl (C.2.2.2.2.2.2.1.cast 1 rfl), rfl⟩, fun q9 => ?_⟩⟩
    refine r_astore_n (pc := 12) C (i := 3) dL_poisonKills_12 rfl (by decide) rfl ?_
    refine r_iconst (pc := 13) C (v := 1) dL_poisonKills_13 (by decide) ?_
    exact r_xI (r_ireti (pc := 14) C ⟨rfl, rfl⟩ (Nat.le_of_ble_eq_true rfl) (Nat.le_of_ble_eq_true rfl) dL_poisonKills_14)
  · -- returned
    obtain ⟨h1, h2, h3⟩ := hx
    rw [if_pos h1] at hm
    cases hm
    subst h2
    refine ⟨wSg E a q.2.2 ++ [(o, .inl (eC E 1, 1, .inr (.inl g)))], by rw [h3]; exact pwA E a S q.2.2 [(o, .inl (eC E 1, 1, .inr (.inl g)))], ?_⟩
    refine r_i2l (pc := 7) C dL_poisonKills_7 ?_
    refine r_last (pc := 8) C 61 rfl (by decide) (w' := (wSg E a q.2.2 ++ [(o, .inl (eC E 1, 1, .inr (.inl (vp_updL g (0 : Int32).toNatClampNeg q.2.1.toInt64))))])) rfl dL_poisonKills_8 ?_
    refine r_goto (pc := 9) C (tgt := 15) dL_poisonKills_9 rfl ?_
    refine r_iconst (pc := 15) C (v := 0) dL_poisonKills_15 (by decide) ?_
    exact r_xI (r_ireti (pc := 16) C ⟨rfl, rfl⟩ (Nat.le_of_ble_eq_true rfl) (Nat.le_of_ble_eq_true rfl) dL_poisonKills_16)
-- ShardGuardLaw.poisonHarm
theorem dL_poisonHarm_0 : decode cL_poisonHarm 0 = .ok (.aload_n 2, 1) := by decide +kernel
theorem dL_poisonHarm_1 : decode cL_poisonHarm 1 = .ok (.iconst 0, 1) := by decide +kernel
theorem dL_poisonHarm_2 : decode cL_poisonHarm 2 = .ok (.aload_n 0, 1) := by decide +kernel
theorem dL_poisonHarm_3 : decode cL_poisonHarm 3 = .ok (.iload_n 1, 1) := by decide +kernel
theorem dL_poisonHarm_4 : decode cL_poisonHarm 4 = .ok (.invokevirtual 57, 3) := by decide +kernel
theorem dL_poisonHarm_7 : decode cL_poisonHarm 7 = .ok (.i2l, 1) := by decide +kernel
theorem dL_poisonHarm_8 : decode cL_poisonHarm 8 = .ok (.lastore, 1) := by decide +kernel
theorem dL_poisonHarm_9 : decode cL_poisonHarm 9 = .ok (.goto 6, 3) := by decide +kernel
theorem dL_poisonHarm_12 : decode cL_poisonHarm 12 = .ok (.astore_n 3, 1) := by decide +kernel
theorem dL_poisonHarm_13 : decode cL_poisonHarm 13 = .ok (.iconst 1, 1) := by decide +kernel
theorem dL_poisonHarm_14 : decode cL_poisonHarm 14 = .ok (.ireturn, 1) := by decide +kernel
theorem dL_poisonHarm_15 : decode cL_poisonHarm 15 = .ok (.iconst 0, 1) := by decide +kernel
theorem dL_poisonHarm_16 : decode cL_poisonHarm 16 = .ok (.ireturn, 1) := by decide +kernel
def M_L_poisonHarm (k : Nat) (S : VV × VV × VV × VV × VV × Int32) (g : Nat → Int64) (p0 : Int32) : Option (Int32 × (VV × VV × VV × VV × VV × Int32) × (Nat → Int64)) := (M_X9_poisonHarm k S p0).bind fun q => if q.1 = 0 then some ((0 : Int32), q.2.2, (vp_updL g (0 : Int32).toNatClampNeg q.2.1.toInt64)) else if q.1 = 1 then some ((1 : Int32), q.2.2, g) else none
def rm_L_poisonHarm : Room := { frames := 8, cells := 1, slots := 6, locals := 212 }
theorem hd_X9_poisonHarm : yX9_poisonHarm.cls = RX9 ∧ yX9_poisonHarm.cls ≠ "java/lang/invoke/MethodHandle" ∧ yX9_poisonHarm.cls ≠ "java/lang/invoke/VarHandle" ∧ (parseMethodDescriptor yX9_poisonHarm.desc).map (fun d => d.parameters.length) = some 1 := by decide +kernel
theorem g_L_57 : GoodIn GW (wsV RL 57 RX9 yX9_poisonHarm (wsG yX9_poisonHarm cX9_poisonHarm 4 (some .int))) := gw_V wm_4_224 wm_4_225 wm_4_226 wm_1_1 wm_4_227
set_option maxRecDepth 100000 in
set_option maxHeartbeats 4000000 in
theorem c_L_poisonHarm (E : ENV) (l : Launch) (k : Nat) (a : Nat → Nat) (o : Nat) (S : VV × VV × VV × VV × VV × Int32) (g : Nat → Int64) (p0 : Int32) (hlt : l.stackTraces = false) {q : Int32 × (VV × VV × VV × VV × VV × Int32) × (Nat → Int64)} (hm : M_L_poisonHarm k S g p0 = some q) : HI E l yL_poisonHarm cL_poisonHarm 4 (some .int) [(0, 9, 12, 18)] rm_L_poisonHarm [.ref (a 0), .int p0, .ref o] (wSg E a S ++ [(o, .inl (eC E 1, 1, .inr (.inl g)))]) (fun r w' => r = q.1 ∧ w' = (wSg E a q.2.1 ++ [(o, .inl (eC E 1, 1, .inr (.inl q.2.2)))])) := by
  refine HI.of 1 (by decide) (Nat.le_of_ble_eq_true rfl) (fun p e s m below meth c A C hct hdc => ?_)
  refine r_weak (L' := [some (.ref (a 0)), some (.int p0), some (.ref o), none]) (lSub_s (lSub_s (lSub_s (lSub_n lSub_e)))) ?_
  refine r_aload_n (pc := 0) C (i := 2) dL_poisonHarm_0 rfl rfl ?_
  refine r_iconst (pc := 1) C (v := 0) dL_poisonHarm_1 (by decide) ?_
  refine r_aload_n (pc := 2) C (i := 0) dL_poisonHarm_2 rfl rfl ?_
  refine r_iload_n (pc := 3) C (i := 1) dL_poisonHarm_3 rfl rfl ?_
  obtain ⟨q, hq, hm⟩ := bnd hm
  refine r_callH (Cn := RX9) (pc := 4) C [.int p0] hdc (c_X9_poisonHarm E l k a S p0 hlt hq) [0, 1, 2, 3, 4, 5, 6, 7, 8, 9, 10, 11, 12, 13, 14, 15, 16, 17, 18, 19, 20, 21, 22, 23, 24, 25, 26, 27, 28, 29, 30, 31, 32, 33, 34, 35, 36, 37, 38, 39, 40, 41, 42, 43, 44, 45, 46, 47, 48, 49, 50, 51, 52, 53, 54, 55, 56, 57, 58, 59, 60] (hpA E a S [(o, .inl (eC E 1, 1, .inr (.inl g)))]) (by decide) 0 rfl rfl rfl g_L_57 hd_X9_poisonHarm ⟨Nat.le_of_ble_eq_true rfl, Nat.le_of_ble_eq_true rfl⟩ ⟨Nat.le_of_ble_eq_true rfl, Nat.le_of_ble_eq_true rfl⟩ (Nat.le_of_ble_eq_true rfl) rfl dL_poisonHarm_4 (fun cd w1 hx => ?_) (fun r w1 hx => ?_)
  · -- thrown
    obtain ⟨h1, h2, h3⟩ := hx
    rw [if_neg h2] at hm
    obtain ⟨h4, hm⟩ := ifn hm
    cases hm
    refine ⟨wSg E a q.2.2 ++ [(o, .inl (eC E 1, 1, .inr (.inl g)))], by rw [h3]; exact pwA E a S q.2.2 [(o, .inl (eC E 1, 1, .inr (.inl g)))], ⟨12, ⟨[], [], ⟨0, 9, 12, 18⟩, "java/util/NoSuchElementException", hct, (fun z hz => nomatch hz), rfl, by decide, C.2.2.2.2.1 _ wm_3_188, by rw [h1, h4]; exact va_tabs rfl rfl (C.2.2.2.2.2.2.1.cast 1 rfl), rfl⟩, fun q9 => ?_⟩⟩
    refine r_astore_n (pc := 12) C (i := 3) dL_poisonHarm_12 rfl (by decide) rfl ?_
    refine r_iconst (pc := 13) C (v := 1) dL_poisonHarm_13 (by decide) ?_
    exact r_xI (r_ireti (pc := 14) C ⟨rfl, rfl⟩ (Nat.le_of_ble_eq_true rfl) (Nat.le_of_ble_eq_true rfl) dL_poisonHarm_14)
  · -- returned
    obtain ⟨h1, h2, h3⟩ := hx
    rw [if_pos h1] at hm
    cases hm
    subst h2
    refine ⟨wSg E a q.2.2 ++ [(o, .inl (eC E 1, 1, .inr (.inl g)))], by rw [h3]; exact pwA E a S q.2.2 [(o, .inl (eC E 1, 1, .inr (.inl g)))], ?_⟩
    refine r_i2l (pc := 7) C dL_poisonHarm_7 ?_
    refine r_last (pc := 8) C 61 rfl (by decide) (w' := (wSg E a q.2.2 ++ [(o, .inl (eC E 1, 1, .inr (.inl (vp_updL g (0 : Int32).toNatClampNeg q.2.1.toInt64))))])) rfl dL_poisonHarm_8 ?_
    refine r_goto (pc := 9) C (tgt := 15) dL_poisonHarm_9 rfl ?_
    refine r_iconst (pc := 15) C (v := 0) dL_poisonHarm_15 (by decide) ?_
    exact r_xI (r_ireti (pc := 16) C ⟨rfl, rfl⟩ (Nat.le_of_ble_eq_true rfl) (Nat.le_of_ble_eq_true rfl) dL_poisonHarm_16)
-- ShardGuardLaw.doneBehind
theorem dL_doneBehind_0 : decode cL_doneBehind 0 = .ok (.aload_n 2, 1) := by decide +kernel
theorem dL_doneBehind_1 : decode cL_doneBehind 1 = .ok (.iconst 0, 1) := by decide +kernel
theorem dL_doneBehind_2 : decode cL_doneBehind 2 = .ok (.aload_n 0, 1) := by decide +kernel
theorem dL_doneBehind_3 : decode cL_doneBehind 3 = .ok (.iload_n 1, 1) := by decide +kernel
theorem dL_doneBehind_4 : decode cL_doneBehind 4 = .ok (.invokevirtual 60, 3) := by decide +kernel
theorem dL_doneBehind_7 : decode cL_doneBehind 7 = .ok (.i2l, 1) := by decide +kernel
theorem dL_doneBehind_8 : decode cL_doneBehind 8 = .ok (.lastore, 1) := by decide +kernel
theorem dL_doneBehind_9 : decode cL_doneBehind 9 = .ok (.goto 6, 3) := by decide +kernel
theorem dL_doneBehind_12 : decode cL_doneBehind 12 = .ok (.astore_n 3, 1) := by decide +kernel
theorem dL_doneBehind_13 : decode cL_doneBehind 13 = .ok (.iconst 1, 1) := by decide +kernel
theorem dL_doneBehind_14 : decode cL_doneBehind 14 = .ok (.ireturn, 1) := by decide +kernel
theorem dL_doneBehind_15 : decode cL_doneBehind 15 = .ok (.iconst 0, 1) := by decide +kernel
theorem dL_doneBehind_16 : decode cL_doneBehind 16 = .ok (.ireturn, 1) := by decide +kernel
def M_L_doneBehind (k : Nat) (S : VV × VV × VV × VV × VV × Int32) (g : Nat → Int64) (p0 : Int32) : Option (Int32 × (VV × VV × VV × VV × VV × Int32) × (Nat → Int64)) := (M_X9_doneBehind k S p0).bind fun q => if q.1 = 0 then some ((0 : Int32), q.2.2, (vp_updL g (0 : Int32).toNatClampNeg q.2.1.toInt64)) else if q.1 = 2 then some ((1 : Int32), q.2.2, g) else none
def rm_L_doneBehind : Room := { frames := 7, cells := 1, slots := 6, locals := 211 }
theorem hd_X9_doneBehind : yX9_doneBehind.cls = RX9 ∧ yX9_doneBehind.cls ≠ "java/lang/invoke/MethodHandle" ∧ yX9_doneBehind.cls ≠ "java/lang/invoke/VarHandle" ∧ (parseMethodDescriptor yX9_doneBehind.desc).map (fun d => d.parameters.length) = some 1 := by decide +kernel
theorem g_L_60 : GoodIn GW (wsV RL 60 RX9 yX9_doneBehind (wsG yX9_doneBehind cX9_doneBehind 3 (some .int))) := gw_V wm_4_231 wm_4_232 wm_4_233 wm_1_1 wm_4_234
set_option maxRecDepth 100000 in
set_option maxHeartbeats 4000000 in
theorem c_L_doneBehind (E : ENV) (l : Launch) (k : Nat) (a : Nat → Nat) (o : Nat) (S : VV × VV × VV × VV × VV × Int32) (g : Nat → Int64) (p0 : Int32) (hlt : l.stackTraces = false) {q : Int32 × (VV × VV × VV × VV × VV × Int32) × (Nat → Int64)} (hm : M_L_doneBehind k S g p0 = some q) : HI E l yL_doneBehind cL_doneBehind 4 (some .int) [(0, 9, 12, 13)] rm_L_doneBehind [.ref (a 0), .int p0, .ref o] (wSg E a S ++ [(o, .inl (eC E 1, 1, .inr (.inl g)))]) (fun r w' => r = q.1 ∧ w' = (wSg E a q.2.1 ++ [(o, .inl (eC E 1, 1, .inr (.inl q.2.2)))])) := by
  refine HI.of 1 (by decide) (Nat.le_of_ble_eq_true rfl) (fun p e s m below meth c A C hct hdc => ?_)
  refine r_weak (L' := [some (.ref (a 0)), some (.int p0), some (.ref o), none]) (lSub_s (lSub_s (lSub_s (lSub_n lSub_e)))) ?_
  refine r_aload_n (pc := 0) C (i := 2) dL_doneBehind_0 rfl rfl ?_
  refine r_iconst (pc := 1) C (v := 0) dL_doneBehind_1 (by decide) ?_
  refine r_aload_n (pc := 2) C (i := 0) dL_doneBehind_2 rfl rfl ?_
  refine r_iload_n (pc := 3) C (i := 1) dL_doneBehind_3 rfl rfl ?_
  obtain ⟨q, hq, hm⟩ := bnd hm
  refine r_callH (Cn := RX9) (pc := 4) C [.int p0] hdc (c_X9_doneBehind E l k a S p0 hlt hq) [0, 1, 2, 3, 4, 5, 6, 7, 8, 9, 10, 11, 12, 13, 14, 15, 16, 17, 18, 19, 20, 21, 22, 23, 24, 25, 26, 27, 28, 29, 30, 31, 32, 33, 34, 35, 36, 37, 38, 39, 40, 41, 42, 43, 44, 45, 46, 47, 48, 49, 50, 51, 52, 53, 54, 55, 56, 57, 58, 59, 60] (hpA E a S [(o, .inl (eC E 1, 1, .inr (.inl g)))]) (by decide) 0 rfl rfl rfl g_L_60 hd_X9_doneBehind ⟨Nat.le_of_ble_eq_true rfl, Nat.le_of_ble_eq_true rfl⟩ ⟨Nat.le_of_ble_eq_true rfl, Nat.le_of_ble_eq_true rfl⟩ (Nat.le_of_ble_eq_true rfl) rfl dL_doneBehind_4 (fun cd w1 hx => ?_) (fun r w1 hx => ?_)
  · -- thrown
    obtain ⟨h1, h2, h3⟩ := hx
    rw [if_neg h2] at hm
    obtain ⟨h4, hm⟩ := ifn hm
    cases hm
    refine ⟨wSg E a q.2.2 ++ [(o, .inl (eC E 1, 1, .inr (.inl g)))], by rw [h3]; exact pwA E a S q.2.2 [(o, .inl (eC E 1, 1, .inr (.inl g)))], ⟨12, ⟨[], [], ⟨0, 9, 12, 13⟩, "java/lang/IllegalArgumentException", hct, (fun z hz => nomatch hz), rfl, by decide, C.2.2.2.2.1 _ wm_2_181, by rw [h1, h4]; exact va_tabs rfl rfl (C.2.2.2.2.2.2.1.cast 0 rfl), rfl⟩, fun q9 => ?_⟩⟩
    refine r_astore_n (pc := 12) C (i := 3) dL_doneBehind_12 rfl (by decide) rfl ?_
    refine r_iconst (pc := 13) C (v := 1) dL_doneBehind_13 (by decide) ?_
    exact r_xI (r_ireti (pc := 14) C ⟨rfl, rfl⟩ (Nat.le_of_ble_eq_true rfl) (Nat.le_of_ble_eq_true rfl) dL_doneBehind_14)
  · -- returned
    obtain ⟨h1, h2, h3⟩ := hx
    rw [if_pos h1] at hm
    cases hm
    subst h2
    refine ⟨wSg E a q.2.2 ++ [(o, .inl (eC E 1, 1, .inr (.inl g)))], by rw [h3]; exact pwA E a S q.2.2 [(o, .inl (eC E 1, 1, .inr (.inl g)))], ?_⟩
    refine r_i2l (pc := 7) C dL_doneBehind_7 ?_
    refine r_last (pc := 8) C 61 rfl (by decide) (w' := (wSg E a q.2.2 ++ [(o, .inl (eC E 1, 1, .inr (.inl (vp_updL g (0 : Int32).toNatClampNeg q.2.1.toInt64))))])) rfl dL_doneBehind_8 ?_
    refine r_goto (pc := 9) C (tgt := 15) dL_doneBehind_9 rfl ?_
    refine r_iconst (pc := 15) C (v := 0) dL_doneBehind_15 (by decide) ?_
    exact r_xI (r_ireti (pc := 16) C ⟨rfl, rfl⟩ (Nat.le_of_ble_eq_true rfl) (Nat.le_of_ble_eq_true rfl) dL_doneBehind_16)
-- ShardGuardLaw.submit
theorem dL_submit_0 : decode cL_submit 0 = .ok (.aload 4, 2) := by decide +kernel
theorem dL_submit_2 : decode cL_submit 2 = .ok (.iconst 0, 1) := by decide +kernel
theorem dL_submit_3 : decode cL_submit 3 = .ok (.aload_n 0, 1) := by decide +kernel
theorem dL_submit_4 : decode cL_submit 4 = .ok (.iload_n 1, 1) := by decide +kernel
theorem dL_submit_5 : decode cL_submit 5 = .ok (.iload_n 2, 1) := by decide +kernel
theorem dL_submit_6 : decode cL_submit 6 = .ok (.iload_n 3, 1) := by decide +kernel
theorem dL_submit_7 : decode cL_submit 7 = .ok (.invokevirtual 63, 3) := by decide +kernel
theorem dL_submit_10 : decode cL_submit 10 = .ok (.i2l, 1) := by decide +kernel
theorem dL_submit_11 : decode cL_submit 11 = .ok (.lastore, 1) := by decide +kernel
theorem dL_submit_12 : decode cL_submit 12 = .ok (.goto 11, 3) := by decide +kernel
theorem dL_submit_15 : decode cL_submit 15 = .ok (.astore 5, 2) := by decide +kernel
theorem dL_submit_17 : decode cL_submit 17 = .ok (.iconst 1, 1) := by decide +kernel
theorem dL_submit_18 : decode cL_submit 18 = .ok (.ireturn, 1) := by decide +kernel
theorem dL_submit_19 : decode cL_submit 19 = .ok (.astore 5, 2) := by decide +kernel
theorem dL_submit_21 : decode cL_submit 21 = .ok (.iconst 2, 1) := by decide +kernel
theorem dL_submit_22 : decode cL_submit 22 = .ok (.ireturn, 1) := by decide +kernel
theorem dL_submit_23 : decode cL_submit 23 = .ok (.iconst 0, 1) := by decide +kernel
theorem dL_submit_24 : decode cL_submit 24 = .ok (.ireturn, 1) := by decide +kernel
def M_L_submit (k : Nat) (S : VV × VV × VV × VV × VV × Int32) (T : Nat × Int32 × Int32 × (Nat → VV)) (g : Nat → Int64) (p0 : Int32) (p1 : Int32) (p2 : Int32) : Option (Int32 × (VV × VV × VV × VV × VV × Int32) × (Nat × Int32 × Int32 × (Nat → VV)) × (Nat → Int64)) := (M_X9_submit k S T p0 p1 p2).bind fun q => if q.1 = 0 then some ((0 : Int32), q.2.2.1, q.2.2.2, (vp_updL g (0 : Int32).toNatClampNeg q.2.1.toInt64)) else if q.1 = 1 then some ((1 : Int32), q.2.2.1, q.2.2.2, g) else if q.1 = 2 then some ((2 : Int32), q.2.2.1, q.2.2.2, g) else none
def rm_L_submit : Room := { frames := 8, cells := 19, slots := 1494, locals := 245 }
theorem hd_X9_submit : yX9_submit.cls = RX9 ∧ yX9_submit.cls ≠ "java/lang/invoke/MethodHandle" ∧ yX9_submit.cls ≠ "java/lang/invoke/VarHandle" ∧ (parseMethodDescriptor yX9_submit.desc).map (fun d => d.parameters.length) = some 3 := by decide +kernel
theorem g_L_63 : GoodIn GW (wsV RL 63 RX9 yX9_submit (wsG yX9_submit cX9_submit 4 (some .int))) := gw_V wm_4_239 wm_5_0 wm_5_1 wm_1_1 wm_5_2
set_option maxRecDepth 100000 in
set_option maxHeartbeats 4000000 in
theorem c_L_submit (E : ENV) (l : Launch) (k : Nat) (a : Nat → Nat) (o : Nat) (fa : Nat → Nat → Nat) (S : VV × VV × VV × VV × VV × Int32) (T : Nat × Int32 × Int32 × (Nat → VV)) (g : Nat → Int64) (p0 : Int32) (p1 : Int32) (p2 : Int32) (hlt : l.stackTraces = false) {q : Int32 × (VV × VV × VV × VV × VV × Int32) × (Nat × Int32 × Int32 × (Nat → VV)) × (Nat → Int64)} (hm : M_L_submit k S T g p0 p1 p2 = some q) : HI E l yL_submit cL_submit 6 (some .int) [(0, 12, 15, 18), (0, 12, 19, 13)] rm_L_submit [.ref (a 0), .int p0, .int p1, .int p2, .ref o] ((wSg E a S ++ ([(o, .inl (eC E 1, 1, .inr (.inl g)))] ++ hiC E a fa T)) ++ hiT E fa T) (fun r w' => r = q.1 ∧ ∃ fa' : Nat → Nat → Nat, w' = ((wSg E a q.2.1 ++ ([(o, .inl (eC E 1, 1, .inr (.inl q.2.2.2)))] ++ hiC E a fa' q.2.2.1)) ++ hiT E fa' q.2.2.1) ∧ T.1 ≤ q.2.2.1.1) := by
  refine HI.of 1 (by decide) (Nat.le_of_ble_eq_true rfl) (fun p e s m below meth c A C hct hdc => ?_)
  refine r_weak (L' := [some (.ref (a 0)), some (.int p0), some (.int p1), some (.int p2), some (.ref o), none]) (lSub_s (lSub_s (lSub_s (lSub_s (lSub_s (lSub_n lSub_e)))))) ?_
  refine r_aload (pc := 0) C (i := 4) dL_submit_0 rfl ?_
  refine r_iconst (pc := 2) C (v := 0) dL_submit_2 (by decide) ?_
  refine r_aload_n (pc := 3) C (i := 0) dL_submit_3 rfl rfl ?_
  refine r_iload_n (pc := 4) C (i := 1) dL_submit_4 rfl rfl ?_
  refine r_iload_n (pc := 5) C (i := 2) dL_submit_5 rfl rfl ?_
  refine r_iload_n (pc := 6) C (i := 3) dL_submit_6 rfl rfl ?_
  obtain ⟨q, hq, hm⟩ := bnd hm
  refine r_callHT (c0 := wSg E a S ++ hiC E a fa T) (w0 := wSg E a S ++ ([(o, .inl (eC E 1, 1, .inr (.inl g)))] ++ hiC E a fa T)) (t := hiT E fa T) (Cn := RX9) (pc := 7) C [.int p0, .int p1, .int p2] hdc (c2_X9_submit E l k a fa S T p0 p1 p2 hlt hq) [0, 1, 2, 3, 4, 5, 6, 7, 8, 9, 10, 11, 12, 13, 14, 15, 16, 17, 18, 19, 20, 21, 22, 23, 24, 25, 26, 27, 28, 29, 30, 31, 32, 33, 34, 35, 36, 37, 38, 39, 40, 41, 42, 43, 44, 45, 46, 47, 48, 49, 50, 51, 52, 53, 54, 55, 56, 57, 58, 59, 60, 62, 63] (hpB E a fa S T _) (by decide) 0 rfl rfl rfl g_L_63 hd_X9_submit ⟨Nat.le_of_ble_eq_true rfl, Nat.le_of_ble_eq_true rfl⟩ ⟨Nat.le_of_ble_eq_true rfl, Nat.le_of_ble_eq_true rfl⟩ (Nat.le_of_ble_eq_true rfl) rfl dL_submit_7 rfl (fun cd w1 hx => ?_) (fun r w1 hx => ?_)
  · -- thrown
    obtain ⟨h1, h2, fa', h3, hmo⟩ := hx
    rw [if_neg h2] at hm
    by_cases h4 : q.1 = 1
    · rw [if_pos h4] at hm
      cases hm
      refine ⟨wSg E a q.2.2.1 ++ hiC E a fa' q.2.2.2, hiT E fa' q.2.2.2, wSg E a q.2.2.1 ++ ([(o, .inl (eC E 1, 1, .inr (.inl g)))] ++ hiC E a fa' q.2.2.2), by rw [h3]; exact (List.append_assoc _ _ _).symm, (by simp only [List.length_append, wSg_len]; rfl), hiT_le hmo, pwB E a fa fa' S q.2.2.1 T q.2.2.2 _, ⟨15, ⟨[], [⟨0, 12, 19, 13⟩], ⟨0, 12, 15, 18⟩, "java/util/NoSuchElementException", hct, (fun z hz => nomatch hz), rfl, by decide, C.2.2.2.2.1 _ wm_3_188, by rw [h1, h4]; exact va_tabs rfl rfl (C.2.2.2.2.2.2.1.cast 1 rfl), rfl⟩, fun q9 => ?_⟩⟩
      refine r_astore (pc := 15) C (i := 5) dL_submit_15 (by decide) rfl ?_
      refine r_iconst (pc := 17) C (v := 1) dL_submit_17 (by decide) ?_
      exact r_xI (r_ireti (pc := 18) C ⟨rfl, fa', rfl, hmo⟩ (Nat.le_of_ble_eq_true rfl) (Nat.le_of_ble_eq_true rfl) dL_submit_18)
    rw [if_neg h4] at hm
    obtain ⟨h4, hm⟩ := ifn hm
    cases hm
    refine ⟨wSg E a q.2.2.1 ++ hiC E a fa' q.2.2.2, hiT E fa' q.2.2.2, wSg E a q.2.2.1 ++ ([(o, .inl (eC E 1, 1, .inr (.inl g)))] ++ hiC E a fa' q.2.2.2), by rw [h3]; exact (List.append_assoc _ _ _).symm, (by simp only [List.length_append, wSg_len]; rfl), hiT_le hmo, pwB E a fa fa' S q.2.2.1 T q.2.2.2 _, ⟨19, ⟨[⟨0, 12, 15, 18⟩], [], ⟨0, 12, 19, 13⟩, "java/lang/IllegalArgumentException", hct, (fun z hz => by rcases List.mem_singleton.mp hz with rfl; exact Or.inr ⟨by decide, "java/util/NoSuchElementException", C.2.2.2.2.1 _ wm_3_188, by rw [h1, h4]; exact hdc.2⟩), rfl, by decide, C.2.2.2.2.1 _ wm_2_181, by rw [h1, h4]; exact va_tabs rfl rfl (C.2.2.2.2.2.2.1.cast 0 rfl), rfl⟩, fun q9 => ?_⟩⟩
    refine r_astore (pc := 19) C (i := 5) dL_submit_19 (by decide) rfl ?_
    refine r_iconst (pc := 21) C (v := 2) dL_submit_21 (by decide) ?_
    exact r_xI (r_ireti (pc := 22) C ⟨rfl, fa', rfl, hmo⟩ (Nat.le_of_ble_eq_true rfl) (Nat.le_of_ble_eq_true rfl) dL_submit_22)
  · -- returned
    obtain ⟨h1, h2, fa', h3, hmo⟩ := hx
    rw [if_pos h1] at hm
    cases hm
    subst h2
    refine ⟨wSg E a q.2.2.1 ++ hiC E a fa' q.2.2.2, hiT E fa' q.2.2.2, wSg E a q.2.2.1 ++ ([(o, .inl (eC E 1, 1, .inr (.inl g)))] ++ hiC E a fa' q.2.2.2), by rw [h3]; exact (List.append_assoc _ _ _).symm, (by simp only [List.length_append, wSg_len]; rfl), hiT_le hmo, pwB E a fa fa' S q.2.2.1 T q.2.2.2 _, ?_⟩
    refine r_i2l (pc := 10) C dL_submit_10 ?_
    refine r_last (pc := 11) C 61 rfl (by decide) (w' := ((wSg E a q.2.2.1 ++ ([(o, .inl (eC E 1, 1, .inr (.inl (vp_updL g (0 : Int32).toNatClampNeg q.2.1.toInt64))))] ++ hiC E a fa' q.2.2.2)) ++ hiT E fa' q.2.2.2)) rfl dL_submit_11 ?_
    refine r_goto (pc := 12) C (tgt := 23) dL_submit_12 rfl ?_
    refine r_iconst (pc := 23) C (v := 0) dL_submit_23 (by decide) ?_
    exact r_xI (r_ireti (pc := 24) C ⟨rfl, fa', rfl, hmo⟩ (Nat.le_of_ble_eq_true rfl) (Nat.le_of_ble_eq_true rfl) dL_submit_24)
-- ShardGuardLaw.pass
theorem dL_pass_0 : decode cL_pass 0 = .ok (.aload_n 2, 1) := by decide +kernel
theorem dL_pass_1 : decode cL_pass 1 = .ok (.iconst 0, 1) := by decide +kernel
theorem dL_pass_2 : decode cL_pass 2 = .ok (.aload_n 0, 1) := by decide +kernel
theorem dL_pass_3 : decode cL_pass 3 = .ok (.iload_n 1, 1) := by decide +kernel
theorem dL_pass_4 : decode cL_pass 4 = .ok (.invokevirtual 67, 3) := by decide +kernel
theorem dL_pass_7 : decode cL_pass 7 = .ok (.i2l, 1) := by decide +kernel
theorem dL_pass_8 : decode cL_pass 8 = .ok (.lastore, 1) := by decide +kernel
theorem dL_pass_9 : decode cL_pass 9 = .ok (.goto 6, 3) := by decide +kernel
theorem dL_pass_12 : decode cL_pass 12 = .ok (.astore_n 3, 1) := by decide +kernel
theorem dL_pass_13 : decode cL_pass 13 = .ok (.iconst 1, 1) := by decide +kernel
theorem dL_pass_14 : decode cL_pass 14 = .ok (.ireturn, 1) := by decide +kernel
theorem dL_pass_15 : decode cL_pass 15 = .ok (.iconst 0, 1) := by decide +kernel
theorem dL_pass_16 : decode cL_pass 16 = .ok (.ireturn, 1) := by decide +kernel
def M_L_pass (k : Nat) (S : VV × VV × VV × VV × VV × Int32) (T : Nat × Int32 × Int32 × (Nat → VV)) (g : Nat → Int64) (p0 : Int32) : Option (Int32 × (VV × VV × VV × VV × VV × Int32) × (Nat × Int32 × Int32 × (Nat → VV)) × (Nat → Int64)) := (M_X9_pass k S T p0).bind fun q => if q.1 = 0 then some ((0 : Int32), q.2.2.1, q.2.2.2, (vp_updL g (0 : Int32).toNatClampNeg q.2.1.toInt64)) else if q.1 = 2 then some ((1 : Int32), q.2.2.1, q.2.2.2, g) else none
def rm_L_pass : Room := { frames := 7, cells := 18, slots := 1488, locals := 245 }
theorem hd_X9_pass : yX9_pass.cls = RX9 ∧ yX9_pass.cls ≠ "java/lang/invoke/MethodHandle" ∧ yX9_pass.cls ≠ "java/lang/invoke/VarHandle" ∧ (parseMethodDescriptor yX9_pass.desc).map (fun d => d.parameters.length) = some 1 := by decide +kernel
theorem g_L_67 : GoodIn GW (wsV RL 67 RX9 yX9_pass (wsG yX9_pass cX9_pass 4 (some .int))) := gw_V wm_5_13 wm_5_14 wm_5_15 wm_1_1 wm_5_16
set_option maxRecDepth 100000 in
set_option maxHeartbeats 4000000 in
theorem c_L_pass (E : ENV) (l : Launch) (k : Nat) (a : Nat → Nat) (o : Nat) (fa : Nat → Nat → Nat) (S : VV × VV × VV × VV × VV × Int32) (T : Nat × Int32 × Int32 × (Nat → VV)) (g : Nat → Int64) (p0 : Int32) (hlt : l.stackTraces = false) {q : Int32 × (VV × VV × VV × VV × VV × Int32) × (Nat × Int32 × Int32 × (Nat → VV)) × (Nat → Int64)} (hm : M_L_pass k S T g p0 = some q) : HI E l yL_pass cL_pass 4 (some .int) [(0, 9, 12, 13)] rm_L_pass [.ref (a 0), .int p0, .ref o] ((wSg E a S ++ ([(o, .inl (eC E 1, 1, .inr (.inl g)))] ++ hiC E a fa T)) ++ hiT E fa T) (fun r w' => r = q.1 ∧ ∃ fa' : Nat → Nat → Nat, w' = ((wSg E a q.2.1 ++ ([(o, .inl (eC E 1, 1, .inr (.inl q.2.2.2)))] ++ hiC E a fa' q.2.2.1)) ++ hiT E fa' q.2.2.1) ∧ T.1 ≤ q.2.2.1.1) := by
  refine HI.of 1 (by decide) (Nat.le_of_ble_eq_true rfl) (fun p e s m below meth c A C hct hdc => ?_)
  refine r_weak (L' := [some (.ref (a 0)), some (.int p0), some (.ref o), none]) (lSub_s (lSub_s (lSub_s (lSub_n lSub_e)))) ?_
  refine r_aload_n (pc := 0) C (i := 2) dL_pass_0 rfl rfl ?_
  refine r_iconst (pc := 1) C (v := 0) dL_pass_1 (by decide) ?_
  refine r_aload_n (pc := 2) C (i := 0) dL_pass_2 rfl rfl ?_
  refine r_iload_n (pc := 3) C (i := 1) dL_pass_3 rfl rfl ?_
  obtain ⟨q, hq, hm⟩ := bnd hm
  refine r_callHT (c0 := wSg E a S ++ hiC E a fa T) (w0 := wSg E a S ++ ([(o, .inl (eC E 1, 1, .inr (.inl g)))] ++ hiC E a fa T)) (t := hiT E fa T) (Cn := RX9) (pc := 4) C [.int p0] hdc (c2_X9_pass E l k a fa S T p0 hlt hq) [0, 1, 2, 3, 4, 5, 6, 7, 8, 9, 10, 11, 12, 13, 14, 15, 16, 17, 18, 19, 20, 21, 22, 23, 24, 25, 26, 27, 28, 29, 30, 31, 32, 33, 34, 35, 36, 37, 38, 39, 40, 41, 42, 43, 44, 45, 46, 47, 48, 49, 50, 51, 52, 53, 54, 55, 56, 57, 58, 59, 60, 62, 63] (hpB E a fa S T _) (by decide) 0 rfl rfl rfl g_L_67 hd_X9_pass ⟨Nat.le_of_ble_eq_true rfl, Nat.le_of_ble_eq_true rfl⟩ ⟨Nat.le_of_ble_eq_true rfl, Nat.le_of_ble_eq_true rfl⟩ (Nat.le_of_ble_eq_true rfl) rfl dL_pass_4 rfl (fun cd w1 hx => ?_) (fun r w1 hx => ?_)
  · -- thrown
    obtain ⟨h1, h2, fa', h3, hmo⟩ := hx
    rw [if_neg h2] at hm
    obtain ⟨h4, hm⟩ := ifn hm
    cases hm
    refine ⟨wSg E a q.2.2.1 ++ hiC E a fa' q.2.2.2, hiT E fa' q.2.2.2, wSg E a q.2.2.1 ++ ([(o, .inl (eC E 1, 1, .inr (.inl g)))] ++ hiC E a fa' q.2.2.2), by rw [h3]; exact (List.append_assoc _ _ _).symm, (by simp only [List.length_append, wSg_len]; rfl), hiT_le hmo, pwB E a fa fa' S q.2.2.1 T q.2.2.2 _, ⟨12, ⟨[], [], ⟨0, 9, 12, 13⟩, "java/lang/IllegalArgumentException", hct, (fun z hz => nomatch hz), rfl, by decide, C.2.2.2.2.1 _ wm_2_181, by rw [h1, h4]; exact va_tabs rfl rfl (C.2.2.2.2.2.2.1.cast 0 rfl), rfl⟩, fun q9 => ?_⟩⟩
    refine r_astore_n (pc := 12) C (i := 3) dL_pass_12 rfl (by decide) rfl ?_
    refine r_iconst (pc := 13) C (v := 1) dL_pass_13 (by decide) ?_
    exact r_xI (r_ireti (pc := 14) C ⟨rfl, fa', rfl, hmo⟩ (Nat.le_of_ble_eq_true rfl) (Nat.le_of_ble_eq_true rfl) dL_pass_14)
  · -- returned
    obtain ⟨h1, h2, fa', h3, hmo⟩ := hx
    rw [if_pos h1] at hm
    cases hm
    subst h2
    refine ⟨wSg E a q.2.2.1 ++ hiC E a fa' q.2.2.2, hiT E fa' q.2.2.2, wSg E a q.2.2.1 ++ ([(o, .inl (eC E 1, 1, .inr (.inl g)))] ++ hiC E a fa' q.2.2.2), by rw [h3]; exact (List.append_assoc _ _ _).symm, (by simp only [List.length_append, wSg_len]; rfl), hiT_le hmo, pwB E a fa fa' S q.2.2.1 T q.2.2.2 _, ?_⟩
    refine r_i2l (pc := 7) C dL_pass_7 ?_
    refine r_last (pc := 8) C 61 rfl (by decide) (w' := ((wSg E a q.2.2.1 ++ ([(o, .inl (eC E 1, 1, .inr (.inl (vp_updL g (0 : Int32).toNatClampNeg q.2.1.toInt64))))] ++ hiC E a fa' q.2.2.2)) ++ hiT E fa' q.2.2.2)) rfl dL_pass_8 ?_
    refine r_goto (pc := 9) C (tgt := 15) dL_pass_9 rfl ?_
    refine r_iconst (pc := 15) C (v := 0) dL_pass_15 (by decide) ?_
    exact r_xI (r_ireti (pc := 16) C ⟨rfl, fa', rfl, hmo⟩ (Nat.le_of_ble_eq_true rfl) (Nat.le_of_ble_eq_true rfl) dL_pass_16)
-- ShardGuardLaw.kill
theorem dL_kill_0 : decode cL_kill 0 = .ok (.aload_n 2, 1) := by decide +kernel
theorem dL_kill_1 : decode cL_kill 1 = .ok (.iconst 0, 1) := by decide +kernel
theorem dL_kill_2 : decode cL_kill 2 = .ok (.aload_n 0, 1) := by decide +kernel
theorem dL_kill_3 : decode cL_kill 3 = .ok (.iload_n 1, 1) := by decide +kernel
theorem dL_kill_4 : decode cL_kill 4 = .ok (.invokevirtual 70, 3) := by decide +kernel
theorem dL_kill_7 : decode cL_kill 7 = .ok (.i2l, 1) := by decide +kernel
theorem dL_kill_8 : decode cL_kill 8 = .ok (.lastore, 1) := by decide +kernel
theorem dL_kill_9 : decode cL_kill 9 = .ok (.goto 6, 3) := by decide +kernel
theorem dL_kill_12 : decode cL_kill 12 = .ok (.astore_n 3, 1) := by decide +kernel
theorem dL_kill_13 : decode cL_kill 13 = .ok (.iconst 1, 1) := by decide +kernel
theorem dL_kill_14 : decode cL_kill 14 = .ok (.ireturn, 1) := by decide +kernel
theorem dL_kill_15 : decode cL_kill 15 = .ok (.iconst 0, 1) := by decide +kernel
theorem dL_kill_16 : decode cL_kill 16 = .ok (.ireturn, 1) := by decide +kernel
def M_L_kill (k : Nat) (S : VV × VV × VV × VV × VV × Int32) (T : Nat × Int32 × Int32 × (Nat → VV)) (g : Nat → Int64) (p0 : Int32) : Option (Int32 × (VV × VV × VV × VV × VV × Int32) × (Nat × Int32 × Int32 × (Nat → VV)) × (Nat → Int64)) := (M_X9_kill k S T p0).bind fun q => if q.1 = 0 then some ((0 : Int32), q.2.2.1, q.2.2.2, (vp_updL g (0 : Int32).toNatClampNeg q.2.1.toInt64)) else if q.1 = 1 then some ((1 : Int32), q.2.2.1, q.2.2.2, g) else none
def rm_L_kill : Room := { frames := 8, cells := 19, slots := 1494, locals := 243 }
theorem hd_X9_kill : yX9_kill.cls = RX9 ∧ yX9_kill.cls ≠ "java/lang/invoke/MethodHandle" ∧ yX9_kill.cls ≠ "java/lang/invoke/VarHandle" ∧ (parseMethodDescriptor yX9_kill.desc).map (fun d => d.parameters.length) = some 1 := by decide +kernel
theorem g_L_70 : GoodIn GW (wsV RL 70 RX9 yX9_kill (wsG yX9_kill cX9_kill 2 (some .int))) := gw_V wm_5_21 wm_5_22 wm_5_23 wm_1_1 wm_5_24
set_option maxRecDepth 100000 in
set_option maxHeartbeats 4000000 in
theorem c_L_kill (E : ENV) (l : Launch) (k : Nat) (a : Nat → Nat) (o : Nat) (fa : Nat → Nat → Nat) (S : VV × VV × VV × VV × VV × Int32) (T : Nat × Int32 × Int32 × (Nat → VV)) (g : Nat → Int64) (p0 : Int32) (hlt : l.stackTraces = false) {q : Int32 × (VV × VV × VV × VV × VV × Int32) × (Nat × Int32 × Int32 × (Nat → VV)) × (Nat → Int64)} (hm : M_L_kill k S T g p0 = some q) : HI E l yL_kill cL_kill 4 (some .int) [(0, 9, 12, 18)] rm_L_kill [.ref (a 0), .int p0, .ref o] ((wSg E a S ++ ([(o, .inl (eC E 1, 1, .inr (.inl g)))] ++ hiC E a fa T)) ++ hiT E fa T) (fun r w' => r = q.1 ∧ ∃ fa' : Nat → Nat → Nat, w' = ((wSg E a q.2.1 ++ ([(o, .inl (eC E 1, 1, .inr (.inl q.2.2.2)))] ++ hiC E a fa' q.2.2.1)) ++ hiT E fa' q.2.2.1) ∧ T.1 ≤ q.2.2.1.1) := by
  refine HI.of 1 (by decide) (Nat.le_of_ble_eq_true rfl) (fun p e s m below meth c A C hct hdc => ?_)
  refine r_weak (L' := [some (.ref (a 0)), some (.int p0), some (.ref o), none]) (lSub_s (lSub_s (lSub_s (lSub_n lSub_e)))) ?_
  refine r_aload_n (pc := 0) C (i := 2) dL_kill_0 rfl rfl ?_
  refine r_iconst (pc := 1) C (v := 0) dL_kill_1 (by decide) ?_
  refine r_aload_n (pc := 2) C (i := 0) dL_kill_2 rfl rfl ?_
  refine r_iload_n (pc := 3) C (i := 1) dL_kill_3 rfl rfl ?_
  obtain ⟨q, hq, hm⟩ := bnd hm
  refine r_callHT (c0 := wSg E a S ++ hiC E a fa T) (w0 := wSg E a S ++ ([(o, .inl (eC E 1, 1, .inr (.inl g)))] ++ hiC E a fa T)) (t := hiT E fa T) (Cn := RX9) (pc := 4) C [.int p0] hdc (c2_X9_kill E l k a fa S T p0 hlt hq) [0, 1, 2, 3, 4, 5, 6, 7, 8, 9, 10, 11, 12, 13, 14, 15, 16, 17, 18, 19, 20, 21, 22, 23, 24, 25, 26, 27, 28, 29, 30, 31, 32, 33, 34, 35, 36, 37, 38, 39, 40, 41, 42, 43, 44, 45, 46, 47, 48, 49, 50, 51, 52, 53, 54, 55, 56, 57, 58, 59, 60, 62, 63] (hpB E a fa S T _) (by decide) 0 rfl rfl rfl g_L_70 hd_X9_kill ⟨Nat.le_of_ble_eq_true rfl, Nat.le_of_ble_eq_true rfl⟩ ⟨Nat.le_of_ble_eq_true rfl, Nat.le_of_ble_eq_true rfl⟩ (Nat.le_of_ble_eq_true rfl) rfl dL_kill_4 rfl (fun cd w1 hx => ?_) (fun r w1 hx => ?_)
  · -- thrown
    obtain ⟨h1, h2, fa', h3, hmo⟩ := hx
    rw [if_neg h2] at hm
    obtain ⟨h4, hm⟩ := ifn hm
    cases hm
    refine ⟨wSg E a q.2.2.1 ++ hiC E a fa' q.2.2.2, hiT E fa' q.2.2.2, wSg E a q.2.2.1 ++ ([(o, .inl (eC E 1, 1, .inr (.inl g)))] ++ hiC E a fa' q.2.2.2), by rw [h3]; exact (List.append_assoc _ _ _).symm, (by simp only [List.length_append, wSg_len]; rfl), hiT_le hmo, pwB E a fa fa' S q.2.2.1 T q.2.2.2 _, ⟨12, ⟨[], [], ⟨0, 9, 12, 18⟩, "java/util/NoSuchElementException", hct, (fun z hz => nomatch hz), rfl, by decide, C.2.2.2.2.1 _ wm_3_188, by rw [h1, h4]; exact va_tabs rfl rfl (C.2.2.2.2.2.2.1.cast 1 rfl), rfl⟩, fun q9 => ?_⟩⟩
    refine r_astore_n (pc := 12) C (i := 3) dL_kill_12 rfl (by decide) rfl ?_
    refine r_iconst (pc := 13) C (v := 1) dL_kill_13 (by decide) ?_
    exact r_xI (r_ireti (pc := 14) C ⟨rfl, fa', rfl, hmo⟩ (Nat.le_of_ble_eq_true rfl) (Nat.le_of_ble_eq_true rfl) dL_kill_14)
  · -- returned
    obtain ⟨h1, h2, fa', h3, hmo⟩ := hx
    rw [if_pos h1] at hm
    cases hm
    subst h2
    refine ⟨wSg E a q.2.2.1 ++ hiC E a fa' q.2.2.2, hiT E fa' q.2.2.2, wSg E a q.2.2.1 ++ ([(o, .inl (eC E 1, 1, .inr (.inl g)))] ++ hiC E a fa' q.2.2.2), by rw [h3]; exact (List.append_assoc _ _ _).symm, (by simp only [List.length_append, wSg_len]; rfl), hiT_le hmo, pwB E a fa fa' S q.2.2.1 T q.2.2.2 _, ?_⟩
    refine r_i2l (pc := 7) C dL_kill_7 ?_
    refine r_last (pc := 8) C 61 rfl (by decide) (w' := ((wSg E a q.2.2.1 ++ ([(o, .inl (eC E 1, 1, .inr (.inl (vp_updL g (0 : Int32).toNatClampNeg q.2.1.toInt64))))] ++ hiC E a fa' q.2.2.2)) ++ hiT E fa' q.2.2.2)) rfl dL_kill_8 ?_
    refine r_goto (pc := 9) C (tgt := 15) dL_kill_9 rfl ?_
    refine r_iconst (pc := 15) C (v := 0) dL_kill_15 (by decide) ?_
    exact r_xI (r_ireti (pc := 16) C ⟨rfl, fa', rfl, hmo⟩ (Nat.le_of_ble_eq_true rfl) (Nat.le_of_ble_eq_true rfl) dL_kill_16)
-- ShardGuardLaw.move
theorem dL_move_0 : decode cL_move 0 = .ok (.aload_n 3, 1) := by decide +kernel
theorem dL_move_1 : decode cL_move 1 = .ok (.iconst 0, 1) := by decide +kernel
theorem dL_move_2 : decode cL_move 2 = .ok (.aload_n 0, 1) := by decide +kernel
theorem dL_move_3 : decode cL_move 3 = .ok (.iload_n 1, 1) := by decide +kernel
theorem dL_move_4 : decode cL_move 4 = .ok (.iload_n 2, 1) := by decide +kernel
theorem dL_move_5 : decode cL_move 5 = .ok (.invokevirtual 73, 3) := by decide +kernel
theorem dL_move_8 : decode cL_move 8 = .ok (.i2l, 1) := by decide +kernel
theorem dL_move_9 : decode cL_move 9 = .ok (.lastore, 1) := by decide +kernel
theorem dL_move_10 : decode cL_move 10 = .ok (.goto 11, 3) := by decide +kernel
theorem dL_move_13 : decode cL_move 13 = .ok (.astore 4, 2) := by decide +kernel
theorem dL_move_15 : decode cL_move 15 = .ok (.iconst 1, 1) := by decide +kernel
theorem dL_move_16 : decode cL_move 16 = .ok (.ireturn, 1) := by decide +kernel
theorem dL_move_17 : decode cL_move 17 = .ok (.astore 4, 2) := by decide +kernel
theorem dL_move_19 : decode cL_move 19 = .ok (.iconst 2, 1) := by decide +kernel
theorem dL_move_20 : decode cL_move 20 = .ok (.ireturn, 1) := by decide +kernel
theorem dL_move_21 : decode cL_move 21 = .ok (.iconst 0, 1) := by decide +kernel
theorem dL_move_22 : decode cL_move 22 = .ok (.ireturn, 1) := by decide +kernel
def M_L_move (k : Nat) (S : VV × VV × VV × VV × VV × Int32) (T : Nat × Int32 × Int32 × (Nat → VV)) (g : Nat → Int64) (p0 : Int32) (p1 : Int32) : Option (Int32 × (VV × VV × VV × VV × VV × Int32) × (Nat × Int32 × Int32 × (Nat → VV)) × (Nat → Int64)) := (M_X9_move k S T p0 p1).bind fun q => if q.1 = 0 then some ((0 : Int32), q.2.2.1, q.2.2.2, (vp_updL g (0 : Int32).toNatClampNeg q.2.1.toInt64)) else if q.1 = 1 then some ((1 : Int32), q.2.2.1, q.2.2.2, g) else if q.1 = 2 then some ((2 : Int32), q.2.2.1, q.2.2.2, g) else none
def rm_L_move : Room := { frames := 8, cells := 19, slots := 1494, locals := 245 }
theorem hd_X9_move : yX9_move.cls = RX9 ∧ yX9_move.cls ≠ "java/lang/invoke/MethodHandle" ∧ yX9_move.cls ≠ "java/lang/invoke/VarHandle" ∧ (parseMethodDescriptor yX9_move.desc).map (fun d => d.parameters.length) = some 2 := by decide +kernel
theorem g_L_73 : GoodIn GW (wsV RL 73 RX9 yX9_move (wsG yX9_move cX9_move 4 (some .int))) := gw_V wm_5_30 wm_5_31 wm_5_32 wm_1_1 wm_5_33
set_option maxRecDepth 100000 in
set_option maxHeartbeats 4000000 in
theorem c_L_move (E : ENV) (l : Launch) (k : Nat) (a : Nat → Nat) (o : Nat) (fa : Nat → Nat → Nat) (S : VV × VV × VV × VV × VV × Int32) (T : Nat × Int32 × Int32 × (Nat → VV)) (g : Nat → Int64) (p0 : Int32) (p1 : Int32) (hlt : l.stackTraces = false) {q : Int32 × (VV × VV × VV × VV × VV × Int32) × (Nat × Int32 × Int32 × (Nat → VV)) × (Nat → Int64)} (hm : M_L_move k S T g p0 p1 = some q) : HI E l yL_move cL_move 5 (some .int) [(0, 10, 13, 18), (0, 10, 17, 13)] rm_L_move [.ref (a 0), .int p0, .int p1, .ref o] ((wSg E a S ++ ([(o, .inl (eC E 1, 1, .inr (.inl g)))] ++ hiC E a fa T)) ++ hiT E fa T) (fun r w' => r = q.1 ∧ ∃ fa' : Nat → Nat → Nat, w' = ((wSg E a q.2.1 ++ ([(o, .inl (eC E 1, 1, .inr (.inl q.2.2.2)))] ++ hiC E a fa' q.2.2.1)) ++ hiT E fa' q.2.2.1) ∧ T.1 ≤ q.2.2.1.1) := by
  refine HI.of 1 (by decide) (Nat.le_of_ble_eq_true rfl) (fun p e s m below meth c A C hct hdc => ?_)
  refine r_weak (L' := [some (.ref (a 0)), some (.int p0), some (.int p1), some (.ref o), none]) (lSub_s (lSub_s (lSub_s (lSub_s (lSub_n lSub_e))))) ?_
  refine r_aload_n (pc := 0) C (i := 3) dL_move_0 rfl rfl ?_
  refine r_iconst (pc := 1) C (v := 0) dL_move_1 (by decide) ?_
  refine r_aload_n (pc := 2) C (i := 0) dL_move_2 rfl rfl ?_
  refine r_iload_n (pc := 3) C (i := 1) dL_move_3 rfl rfl ?_
  refine r_iload_n (pc := 4) C (i := 2) dL_move_4 rfl rfl ?_
  obtain ⟨q, hq, hm⟩ := bnd hm
  refine r_callHT (c0 := wSg E a S ++ hiC E a fa T) (w0 := wSg E a S ++ ([(o, .inl (eC E 1, 1, .inr (.inl g)))] ++ hiC E a fa T)) (t := hiT E fa T) (Cn := RX9) (pc := 5) C [.int p0, .int p1] hdc (c2_X9_move E l k a fa S T p0 p1 hlt hq) [0, 1, 2, 3, 4, 5, 6, 7, 8, 9, 10, 11, 12, 13, 14, 15, 16, 17, 18, 19, 20, 21, 22, 23, 24, 25, 26, 27, 28, 29, 30, 31, 32, 33, 34, 35, 36, 37, 38, 39, 40, 41, 42, 43, 44, 45, 46, 47, 48, 49, 50, 51, 52, 53, 54, 55, 56, 57, 58, 59, 60, 62, 63] (hpB E a fa S T _) (by decide) 0 rfl rfl rfl g_L_73 hd_X9_move ⟨Nat.le_of_ble_eq_true rfl, Nat.le_of_ble_eq_true rfl⟩ ⟨Nat.le_of_ble_eq_true rfl, Nat.le_of_ble_eq_true rfl⟩ (Nat.le_of_ble_eq_true rfl) rfl dL_move_5 rfl (fun cd w1 hx => ?_) (fun r w1 hx => ?_)
  · -- thrown
    obtain ⟨h1, h2, fa', h3, hmo⟩ := hx
    rw [if_neg h2] at hm
    by_cases h4 : q.1 = 1
    · rw [if_pos h4] at hm
      cases hm
      refine ⟨wSg E a q.2.2.1 ++ hiC E a fa' q.2.2.2, hiT E fa' q.2.2.2, wSg E a q.2.2.1 ++ ([(o, .inl (eC E 1, 1, .inr (.inl g)))] ++ hiC E a fa' q.2.2.2), by rw [h3]; exact (List.append_assoc _ _ _).symm, (by simp only [List.length_append, wSg_len]; rfl), hiT_le hmo, pwB E a fa fa' S q.2.2.1 T q.2.2.2 _, ⟨13, ⟨[], [⟨0, 10, 17, 13⟩], ⟨0, 10, 13, 18⟩, "java/util/NoSuchElementException", hct, (fun z hz => nomatch hz), rfl, by decide, C.2.2.2.2.1 _ wm_3_188, by rw [h1, h4]; exact va_tabs rfl rfl (C.2.2.2.2.2.2.1.cast 1 rfl), rfl⟩, fun q9 => ?_⟩⟩
      refine r_astore (pc := 13) C (i := 4) dL_move_13 (by decide) rfl ?_
      refine r_iconst (pc := 15) C (v := 1) dL_move_15 (by decide) ?_
      exact r_xI (r_ireti (pc := 16) C ⟨rfl, fa', rfl, hmo⟩ (Nat.le_of_ble_eq_true rfl) (Nat.le_of_ble_eq_true rfl) dL_move_16)
    rw [if_neg h4] at hm
    obtain ⟨h4, hm⟩ := ifn hm
    cases hm
    refine ⟨wSg E a q.2.2.1 ++ hiC E a fa' q.2.2.2, hiT E fa' q.2.2.2, wSg E a q.2.2.1 ++ ([(o, .inl (eC E 1, 1, .inr (.inl g)))] ++ hiC E a fa' q.2.2.2), by rw [h3]; exact (List.append_assoc _ _ _).symm, (by simp only [List.length_append, wSg_len]; rfl), hiT_le hmo, pwB E a fa fa' S q.2.2.1 T q.2.2.2 _, ⟨17, ⟨[⟨0, 10, 13, 18⟩], [], ⟨0, 10, 17, 13⟩, "java/lang/IllegalArgumentException", hct, (fun z hz => by rcases List.mem_singleton.mp hz with rfl; exact Or.inr ⟨by decide, "java/util/NoSuchElementException", C.2.2.2.2.1 _ wm_3_188, by rw [h1, h4]; exact hdc.2⟩), rfl, by decide, C.2.2.2.2.1 _ wm_2_181, by rw [h1, h4]; exact va_tabs rfl rfl (C.2.2.2.2.2.2.1.cast 0 rfl), rfl⟩, fun q9 => ?_⟩⟩
    refine r_astore (pc := 17) C (i := 4) dL_move_17 (by decide) rfl ?_
    refine r_iconst (pc := 19) C (v := 2) dL_move_19 (by decide) ?_
    exact r_xI (r_ireti (pc := 20) C ⟨rfl, fa', rfl, hmo⟩ (Nat.le_of_ble_eq_true rfl) (Nat.le_of_ble_eq_true rfl) dL_move_20)
  · -- returned
    obtain ⟨h1, h2, fa', h3, hmo⟩ := hx
    rw [if_pos h1] at hm
    cases hm
    subst h2
    refine ⟨wSg E a q.2.2.1 ++ hiC E a fa' q.2.2.2, hiT E fa' q.2.2.2, wSg E a q.2.2.1 ++ ([(o, .inl (eC E 1, 1, .inr (.inl g)))] ++ hiC E a fa' q.2.2.2), by rw [h3]; exact (List.append_assoc _ _ _).symm, (by simp only [List.length_append, wSg_len]; rfl), hiT_le hmo, pwB E a fa fa' S q.2.2.1 T q.2.2.2 _, ?_⟩
    refine r_i2l (pc := 8) C dL_move_8 ?_
    refine r_last (pc := 9) C 61 rfl (by decide) (w' := ((wSg E a q.2.2.1 ++ ([(o, .inl (eC E 1, 1, .inr (.inl (vp_updL g (0 : Int32).toNatClampNeg q.2.1.toInt64))))] ++ hiC E a fa' q.2.2.2)) ++ hiT E fa' q.2.2.2)) rfl dL_move_9 ?_
    refine r_goto (pc := 10) C (tgt := 21) dL_move_10 rfl ?_
    refine r_iconst (pc := 21) C (v := 0) dL_move_21 (by decide) ?_
    exact r_xI (r_ireti (pc := 22) C ⟨rfl, fa', rfl, hmo⟩ (Nat.le_of_ble_eq_true rfl) (Nat.le_of_ble_eq_true rfl) dL_move_22)
-- ShardGuardLaw.draw
theorem dL_draw_0 : decode cL_draw 0 = .ok (.aload_n 2, 1) := by decide +kernel
theorem dL_draw_1 : decode cL_draw 1 = .ok (.iconst 0, 1) := by decide +kernel
theorem dL_draw_2 : decode cL_draw 2 = .ok (.aload_n 0, 1) := by decide +kernel
theorem dL_draw_3 : decode cL_draw 3 = .ok (.iload_n 1, 1) := by decide +kernel
theorem dL_draw_4 : decode cL_draw 4 = .ok (.invokevirtual 76, 3) := by decide +kernel
theorem dL_draw_7 : decode cL_draw 7 = .ok (.i2l, 1) := by decide +kernel
theorem dL_draw_8 : decode cL_draw 8 = .ok (.lastore, 1) := by decide +kernel
theorem dL_draw_9 : decode cL_draw 9 = .ok (.goto 6, 3) := by decide +kernel
theorem dL_draw_12 : decode cL_draw 12 = .ok (.astore_n 3, 1) := by decide +kernel
theorem dL_draw_13 : decode cL_draw 13 = .ok (.iconst 1, 1) := by decide +kernel
theorem dL_draw_14 : decode cL_draw 14 = .ok (.ireturn, 1) := by decide +kernel
theorem dL_draw_15 : decode cL_draw 15 = .ok (.iconst 0, 1) := by decide +kernel
theorem dL_draw_16 : decode cL_draw 16 = .ok (.ireturn, 1) := by decide +kernel
def M_L_draw (k : Nat) (S : VV × VV × VV × VV × VV × Int32) (T : Nat × Int32 × Int32 × (Nat → VV)) (g : Nat → Int64) (p0 : Int32) : Option (Int32 × (VV × VV × VV × VV × VV × Int32) × (Nat × Int32 × Int32 × (Nat → VV)) × (Nat → Int64)) := (M_X9_draw k S T p0).bind fun q => if q.1 = 0 then some ((0 : Int32), q.2.2.1, q.2.2.2, (vp_updL g (0 : Int32).toNatClampNeg q.2.1.toInt64)) else if q.1 = 2 then some ((1 : Int32), q.2.2.1, q.2.2.2, g) else none
def rm_L_draw : Room := { frames := 8, cells := 19, slots := 1494, locals := 243 }
theorem hd_X9_draw : yX9_draw.cls = RX9 ∧ yX9_draw.cls ≠ "java/lang/invoke/MethodHandle" ∧ yX9_draw.cls ≠ "java/lang/invoke/VarHandle" ∧ (parseMethodDescriptor yX9_draw.desc).map (fun d => d.parameters.length) = some 1 := by decide +kernel
theorem g_L_76 : GoodIn GW (wsV RL 76 RX9 yX9_draw (wsG yX9_draw cX9_draw 2 (some .int))) := gw_V wm_5_40 wm_5_41 wm_5_42 wm_1_1 wm_5_43
set_option maxRecDepth 100000 in
set_option maxHeartbeats 4000000 in
theorem c_L_draw (E : ENV) (l : Launch) (k : Nat) (a : Nat → Nat) (o : Nat) (fa : Nat → Nat → Nat) (S : VV × VV × VV × VV × VV × Int32) (T : Nat × Int32 × Int32 × (Nat → VV)) (g : Nat → Int64) (p0 : Int32) (hlt : l.stackTraces = false) {q : Int32 × (VV × VV × VV × VV × VV × Int32) × (Nat × Int32 × Int32 × (Nat → VV)) × (Nat → Int64)} (hm : M_L_draw k S T g p0 = some q) : HI E l yL_draw cL_draw 4 (some .int) [(0, 9, 12, 13)] rm_L_draw [.ref (a 0), .int p0, .ref o] ((wSg E a S ++ ([(o, .inl (eC E 1, 1, .inr (.inl g)))] ++ hiC E a fa T)) ++ hiT E fa T) (fun r w' => r = q.1 ∧ ∃ fa' : Nat → Nat → Nat, w' = ((wSg E a q.2.1 ++ ([(o, .inl (eC E 1, 1, .inr (.inl q.2.2.2)))] ++ hiC E a fa' q.2.2.1)) ++ hiT E fa' q.2.2.1) ∧ T.1 ≤ q.2.2.1.1) := by
  refine HI.of 1 (by decide) (Nat.le_of_ble_eq_true rfl) (fun p e s m below meth c A C hct hdc => ?_)
  refine r_weak (L' := [some (.ref (a 0)), some (.int p0), some (.ref o), none]) (lSub_s (lSub_s (lSub_s (lSub_n lSub_e)))) ?_
  refine r_aload_n (pc := 0) C (i := 2) dL_draw_0 rfl rfl ?_
  refine r_iconst (pc := 1) C (v := 0) dL_draw_1 (by decide) ?_
  refine r_aload_n (pc := 2) C (i := 0) dL_draw_2 rfl rfl ?_
  refine r_iload_n (pc := 3) C (i := 1) dL_draw_3 rfl rfl ?_
  obtain ⟨q, hq, hm⟩ := bnd hm
  refine r_callHT (c0 := wSg E a S ++ hiC E a fa T) (w0 := wSg E a S ++ ([(o, .inl (eC E 1, 1, .inr (.inl g)))] ++ hiC E a fa T)) (t := hiT E fa T) (Cn := RX9) (pc := 4) C [.int p0] hdc (c2_X9_draw E l k a fa S T p0 hlt hq) [0, 1, 2, 3, 4, 5, 6, 7, 8, 9, 10, 11, 12, 13, 14, 15, 16, 17, 18, 19, 20, 21, 22, 23, 24, 25, 26, 27, 28, 29, 30, 31, 32, 33, 34, 35, 36, 37, 38, 39, 40, 41, 42, 43, 44, 45, 46, 47, 48, 49, 50, 51, 52, 53, 54, 55, 56, 57, 58, 59, 60, 62, 63] (hpB E a fa S T _) (by decide) 0 rfl rfl rfl g_L_76 hd_X9_draw ⟨Nat.le_of_ble_eq_true rfl, Nat.le_of_ble_eq_true rfl⟩ ⟨Nat.le_of_ble_eq_true rfl, Nat.le_of_ble_eq_true rfl⟩ (Nat.le_of_ble_eq_true rfl) rfl dL_draw_4 rfl (fun cd w1 hx => ?_) (fun r w1 hx => ?_)
  · -- thrown
    obtain ⟨h1, h2, fa', h3, hmo⟩ := hx
    rw [if_neg h2] at hm
    obtain ⟨h4, hm⟩ := ifn hm
    cases hm
    refine ⟨wSg E a q.2.2.1 ++ hiC E a fa' q.2.2.2, hiT E fa' q.2.2.2, wSg E a q.2.2.1 ++ ([(o, .inl (eC E 1, 1, .inr (.inl g)))] ++ hiC E a fa' q.2.2.2), by rw [h3]; exact (List.append_assoc _ _ _).symm, (by simp only [List.length_append, wSg_len]; rfl), hiT_le hmo, pwB E a fa fa' S q.2.2.1 T q.2.2.2 _, ⟨12, ⟨[], [], ⟨0, 9, 12, 13⟩, "java/lang/IllegalArgumentException", hct, (fun z hz => nomatch hz), rfl, by decide, C.2.2.2.2.1 _ wm_2_181, by rw [h1, h4]; exact va_tabs rfl rfl (C.2.2.2.2.2.2.1.cast 0 rfl), rfl⟩, fun q9 => ?_⟩⟩
    refine r_astore_n (pc := 12) C (i := 3) dL_draw_12 rfl (by decide) rfl ?_
    refine r_iconst (pc := 13) C (v := 1) dL_draw_13 (by decide) ?_
    exact r_xI (r_ireti (pc := 14) C ⟨rfl, fa', rfl, hmo⟩ (Nat.le_of_ble_eq_true rfl) (Nat.le_of_ble_eq_true rfl) dL_draw_14)
  · -- returned
    obtain ⟨h1, h2, fa', h3, hmo⟩ := hx
    rw [if_pos h1] at hm
    cases hm
    subst h2
    refine ⟨wSg E a q.2.2.1 ++ hiC E a fa' q.2.2.2, hiT E fa' q.2.2.2, wSg E a q.2.2.1 ++ ([(o, .inl (eC E 1, 1, .inr (.inl g)))] ++ hiC E a fa' q.2.2.2), by rw [h3]; exact (List.append_assoc _ _ _).symm, (by simp only [List.length_append, wSg_len]; rfl), hiT_le hmo, pwB E a fa fa' S q.2.2.1 T q.2.2.2 _, ?_⟩
    refine r_i2l (pc := 7) C dL_draw_7 ?_
    refine r_last (pc := 8) C 61 rfl (by decide) (w' := ((wSg E a q.2.2.1 ++ ([(o, .inl (eC E 1, 1, .inr (.inl (vp_updL g (0 : Int32).toNatClampNeg q.2.1.toInt64))))] ++ hiC E a fa' q.2.2.2)) ++ hiT E fa' q.2.2.2)) rfl dL_draw_8 ?_
    refine r_goto (pc := 9) C (tgt := 15) dL_draw_9 rfl ?_
    refine r_iconst (pc := 15) C (v := 0) dL_draw_15 (by decide) ?_
    exact r_xI (r_ireti (pc := 16) C ⟨rfl, fa', rfl, hmo⟩ (Nat.le_of_ble_eq_true rfl) (Nat.le_of_ble_eq_true rfl) dL_draw_16)
-- ShardGuardLaw.release
theorem dL_release_0 : decode cL_release 0 = .ok (.aload_n 2, 1) := by decide +kernel
theorem dL_release_1 : decode cL_release 1 = .ok (.iconst 0, 1) := by decide +kernel
theorem dL_release_2 : decode cL_release 2 = .ok (.aload_n 0, 1) := by decide +kernel
theorem dL_release_3 : decode cL_release 3 = .ok (.iload_n 1, 1) := by decide +kernel
theorem dL_release_4 : decode cL_release 4 = .ok (.invokevirtual 79, 3) := by decide +kernel
theorem dL_release_7 : decode cL_release 7 = .ok (.i2l, 1) := by decide +kernel
theorem dL_release_8 : decode cL_release 8 = .ok (.lastore, 1) := by decide +kernel
theorem dL_release_9 : decode cL_release 9 = .ok (.goto 6, 3) := by decide +kernel
theorem dL_release_12 : decode cL_release 12 = .ok (.astore_n 3, 1) := by decide +kernel
theorem dL_release_13 : decode cL_release 13 = .ok (.iconst 1, 1) := by decide +kernel
theorem dL_release_14 : decode cL_release 14 = .ok (.ireturn, 1) := by decide +kernel
theorem dL_release_15 : decode cL_release 15 = .ok (.iconst 0, 1) := by decide +kernel
theorem dL_release_16 : decode cL_release 16 = .ok (.ireturn, 1) := by decide +kernel
def M_L_release (k : Nat) (S : VV × VV × VV × VV × VV × Int32) (T : Nat × Int32 × Int32 × (Nat → VV)) (g : Nat → Int64) (p0 : Int32) : Option (Int32 × (VV × VV × VV × VV × VV × Int32) × (Nat × Int32 × Int32 × (Nat → VV)) × (Nat → Int64)) := (M_X9_release k S T p0).bind fun q => if q.1 = 0 then some ((0 : Int32), q.2.2.1, q.2.2.2, (vp_updL g (0 : Int32).toNatClampNeg q.2.1.toInt64)) else if q.1 = 1 then some ((1 : Int32), q.2.2.1, q.2.2.2, g) else none
def rm_L_release : Room := { frames := 8, cells := 19, slots := 1494, locals := 244 }
theorem hd_X9_release : yX9_release.cls = RX9 ∧ yX9_release.cls ≠ "java/lang/invoke/MethodHandle" ∧ yX9_release.cls ≠ "java/lang/invoke/VarHandle" ∧ (parseMethodDescriptor yX9_release.desc).map (fun d => d.parameters.length) = some 1 := by decide +kernel
theorem g_L_79 : GoodIn GW (wsV RL 79 RX9 yX9_release (wsG yX9_release cX9_release 3 (some .int))) := gw_V wm_5_47 wm_5_48 wm_5_49 wm_1_1 wm_5_50
set_option maxRecDepth 100000 in
set_option maxHeartbeats 4000000 in
theorem c_L_release (E : ENV) (l : Launch) (k : Nat) (a : Nat → Nat) (o : Nat) (fa : Nat → Nat → Nat) (S : VV × VV × VV × VV × VV × Int32) (T : Nat × Int32 × Int32 × (Nat → VV)) (g : Nat → Int64) (p0 : Int32) (hlt : l.stackTraces = false) {q : Int32 × (VV × VV × VV × VV × VV × Int32) × (Nat × Int32 × Int32 × (Nat → VV)) × (Nat → Int64)} (hm : M_L_release k S T g p0 = some q) : HI E l yL_release cL_release 4 (some .int) [(0, 9, 12, 18)] rm_L_release [.ref (a 0), .int p0, .ref o] ((wSg E a S ++ ([(o, .inl (eC E 1, 1, .inr (.inl g)))] ++ hiC E a fa T)) ++ hiT E fa T) (fun r w' => r = q.1 ∧ ∃ fa' : Nat → Nat → Nat, w' = ((wSg E a q.2.1 ++ ([(o, .inl (eC E 1, 1, .inr (.inl q.2.2.2)))] ++ hiC E a fa' q.2.2.1)) ++ hiT E fa' q.2.2.1) ∧ T.1 ≤ q.2.2.1.1) := by
  refine HI.of 1 (by decide) (Nat.le_of_ble_eq_true rfl) (fun p e s m below meth c A C hct hdc => ?_)
  refine r_weak (L' := [some (.ref (a 0)), some (.int p0), some (.ref o), none]) (lSub_s (lSub_s (lSub_s (lSub_n lSub_e)))) ?_
  refine r_aload_n (pc := 0) C (i := 2) dL_release_0 rfl rfl ?_
  refine r_iconst (pc := 1) C (v := 0) dL_release_1 (by decide) ?_
  refine r_aload_n (pc := 2) C (i := 0) dL_release_2 rfl rfl ?_
  refine r_iload_n (pc := 3) C (i := 1) dL_release_3 rfl rfl ?_
  obtain ⟨q, hq, hm⟩ := bnd hm
  refine r_callHT (c0 := wSg E a S ++ hiC E a fa T) (w0 := wSg E a S ++ ([(o, .inl (eC E 1, 1, .inr (.inl g)))] ++ hiC E a fa T)) (t := hiT E fa T) (Cn := RX9) (pc := 4) C [.int p0] hdc (c2_X9_release E l k a fa S T p0 hlt hq) [0, 1, 2, 3, 4, 5, 6, 7, 8, 9, 10, 11, 12, 13, 14, 15, 16, 17, 18, 19, 20, 21, 22, 23, 24, 25, 26, 27, 28, 29, 30, 31, 32, 33, 34, 35, 36, 37, 38, 39, 40, 41, 42, 43, 44, 45, 46, 47, 48, 49, 50, 51, 52, 53, 54, 55, 56, 57, 58, 59, 60, 62, 63] (hpB E a fa S T _) (by decide) 0 rfl rfl rfl g_L_79 hd_X9_release ⟨Nat.le_of_ble_eq_true rfl, Nat.le_of_ble_eq_true rfl⟩ ⟨Nat.le_of_ble_eq_true rfl, Nat.le_of_ble_eq_true rfl⟩ (Nat.le_of_ble_eq_true rfl) rfl dL_release_4 rfl (fun cd w1 hx => ?_) (fun r w1 hx => ?_)
  · -- thrown
    obtain ⟨h1, h2, fa', h3, hmo⟩ := hx
    rw [if_neg h2] at hm
    obtain ⟨h4, hm⟩ := ifn hm
    cases hm
    refine ⟨wSg E a q.2.2.1 ++ hiC E a fa' q.2.2.2, hiT E fa' q.2.2.2, wSg E a q.2.2.1 ++ ([(o, .inl (eC E 1, 1, .inr (.inl g)))] ++ hiC E a fa' q.2.2.2), by rw [h3]; exact (List.append_assoc _ _ _).symm, (by simp only [List.length_append, wSg_len]; rfl), hiT_le hmo, pwB E a fa fa' S q.2.2.1 T q.2.2.2 _, ⟨12, ⟨[], [], ⟨0, 9, 12, 18⟩, "java/util/NoSuchElementException", hct, (fun z hz => nomatch hz), rfl, by decide, C.2.2.2.2.1 _ wm_3_188, by rw [h1, h4]; exact va_tabs rfl rfl (C.2.2.2.2.2.2.1.cast 1 rfl), rfl⟩, fun q9 => ?_⟩⟩
    refine r_astore_n (pc := 12) C (i := 3) dL_release_12 rfl (by decide) rfl ?_
    refine r_iconst (pc := 13) C (v := 1) dL_release_13 (by decide) ?_
    exact r_xI (r_ireti (pc := 14) C ⟨rfl, fa', rfl, hmo⟩ (Nat.le_of_ble_eq_true rfl) (Nat.le_of_ble_eq_true rfl) dL_release_14)
  · -- returned
    obtain ⟨h1, h2, fa', h3, hmo⟩ := hx
    rw [if_pos h1] at hm
    cases hm
    subst h2
    refine ⟨wSg E a q.2.2.1 ++ hiC E a fa' q.2.2.2, hiT E fa' q.2.2.2, wSg E a q.2.2.1 ++ ([(o, .inl (eC E 1, 1, .inr (.inl g)))] ++ hiC E a fa' q.2.2.2), by rw [h3]; exact (List.append_assoc _ _ _).symm, (by simp only [List.length_append, wSg_len]; rfl), hiT_le hmo, pwB E a fa fa' S q.2.2.1 T q.2.2.2 _, ?_⟩
    refine r_i2l (pc := 7) C dL_release_7 ?_
    refine r_last (pc := 8) C 61 rfl (by decide) (w' := ((wSg E a q.2.2.1 ++ ([(o, .inl (eC E 1, 1, .inr (.inl (vp_updL g (0 : Int32).toNatClampNeg q.2.1.toInt64))))] ++ hiC E a fa' q.2.2.2)) ++ hiT E fa' q.2.2.2)) rfl dL_release_8 ?_
    refine r_goto (pc := 9) C (tgt := 15) dL_release_9 rfl ?_
    refine r_iconst (pc := 15) C (v := 0) dL_release_15 (by decide) ?_
    exact r_xI (r_ireti (pc := 16) C ⟨rfl, fa', rfl, hmo⟩ (Nat.le_of_ble_eq_true rfl) (Nat.le_of_ble_eq_true rfl) dL_release_16)
-- ShardGuardLaw.set
theorem dL_set_0 : decode cL_set 0 = .ok (.aload_n 3, 1) := by decide +kernel
theorem dL_set_1 : decode cL_set 1 = .ok (.iconst 0, 1) := by decide +kernel
theorem dL_set_2 : decode cL_set 2 = .ok (.aload_n 0, 1) := by decide +kernel
theorem dL_set_3 : decode cL_set 3 = .ok (.iload_n 1, 1) := by decide +kernel
theorem dL_set_4 : decode cL_set 4 = .ok (.iload_n 2, 1) := by decide +kernel
theorem dL_set_5 : decode cL_set 5 = .ok (.invokevirtual 82, 3) := by decide +kernel
theorem dL_set_8 : decode cL_set 8 = .ok (.i2l, 1) := by decide +kernel
theorem dL_set_9 : decode cL_set 9 = .ok (.lastore, 1) := by decide +kernel
theorem dL_set_10 : decode cL_set 10 = .ok (.goto 11, 3) := by decide +kernel
theorem dL_set_13 : decode cL_set 13 = .ok (.astore 4, 2) := by decide +kernel
theorem dL_set_15 : decode cL_set 15 = .ok (.iconst 1, 1) := by decide +kernel
theorem dL_set_16 : decode cL_set 16 = .ok (.ireturn, 1) := by decide +kernel
theorem dL_set_17 : decode cL_set 17 = .ok (.astore 4, 2) := by decide +kernel
theorem dL_set_19 : decode cL_set 19 = .ok (.iconst 2, 1) := by decide +kernel
theorem dL_set_20 : decode cL_set 20 = .ok (.ireturn, 1) := by decide +kernel
theorem dL_set_21 : decode cL_set 21 = .ok (.iconst 0, 1) := by decide +kernel
theorem dL_set_22 : decode cL_set 22 = .ok (.ireturn, 1) := by decide +kernel
def M_L_set (k : Nat) (S : VV × VV × VV × VV × VV × Int32) (T : Nat × Int32 × Int32 × (Nat → VV)) (g : Nat → Int64) (p0 : Int32) (p1 : Int32) : Option (Int32 × (VV × VV × VV × VV × VV × Int32) × (Nat × Int32 × Int32 × (Nat → VV)) × (Nat → Int64)) := (M_X9_set k S T p0 p1).bind fun q => if q.1 = 0 then some ((0 : Int32), q.2.2.1, q.2.2.2, (vp_updL g (0 : Int32).toNatClampNeg q.2.1.toInt64)) else if q.1 = 1 then some ((1 : Int32), q.2.2.1, q.2.2.2, g) else if q.1 = 2 then some ((2 : Int32), q.2.2.1, q.2.2.2, g) else none
def rm_L_set : Room := { frames := 8, cells := 19, slots := 1494, locals := 245 }
theorem hd_X9_set : yX9_set.cls = RX9 ∧ yX9_set.cls ≠ "java/lang/invoke/MethodHandle" ∧ yX9_set.cls ≠ "java/lang/invoke/VarHandle" ∧ (parseMethodDescriptor yX9_set.desc).map (fun d => d.parameters.length) = some 2 := by decide +kernel
theorem g_L_82 : GoodIn GW (wsV RL 82 RX9 yX9_set (wsG yX9_set cX9_set 4 (some .int))) := gw_V wm_5_54 wm_5_55 wm_5_56 wm_1_1 wm_5_57
set_option maxRecDepth 100000 in
set_option maxHeartbeats 4000000 in
theorem c_L_set (E : ENV) (l : Launch) (k : Nat) (a : Nat → Nat) (o : Nat) (fa : Nat → Nat → Nat) (S : VV × VV × VV × VV × VV × Int32) (T : Nat × Int32 × Int32 × (Nat → VV)) (g : Nat → Int64) (p0 : Int32) (p1 : Int32) (hlt : l.stackTraces = false) {q : Int32 × (VV × VV × VV × VV × VV × Int32) × (Nat × Int32 × Int32 × (Nat → VV)) × (Nat → Int64)} (hm : M_L_set k S T g p0 p1 = some q) : HI E l yL_set cL_set 5 (some .int) [(0, 10, 13, 18), (0, 10, 17, 13)] rm_L_set [.ref (a 0), .int p0, .int p1, .ref o] ((wSg E a S ++ ([(o, .inl (eC E 1, 1, .inr (.inl g)))] ++ hiC E a fa T)) ++ hiT E fa T) (fun r w' => r = q.1 ∧ ∃ fa' : Nat → Nat → Nat, w' = ((wSg E a q.2.1 ++ ([(o, .inl (eC E 1, 1, .inr (.inl q.2.2.2)))] ++ hiC E a fa' q.2.2.1)) ++ hiT E fa' q.2.2.1) ∧ T.1 ≤ q.2.2.1.1) := by
  refine HI.of 1 (by decide) (Nat.le_of_ble_eq_true rfl) (fun p e s m below meth c A C hct hdc => ?_)
  refine r_weak (L' := [some (.ref (a 0)), some (.int p0), some (.int p1), some (.ref o), none]) (lSub_s (lSub_s (lSub_s (lSub_s (lSub_n lSub_e))))) ?_
  refine r_aload_n (pc := 0) C (i := 3) dL_set_0 rfl rfl ?_
  refine r_iconst (pc := 1) C (v := 0) dL_set_1 (by decide) ?_
  refine r_aload_n (pc := 2) C (i := 0) dL_set_2 rfl rfl ?_
  refine r_iload_n (pc := 3) C (i := 1) dL_set_3 rfl rfl ?_
  refine r_iload_n (pc := 4) C (i := 2) dL_set_4 rfl rfl ?_
  obtain ⟨q, hq, hm⟩ := bnd hm
  refine r_callHT (c0 := wSg E a S ++ hiC E a fa T) (w0 := wSg E a S ++ ([(o, .inl (eC E 1, 1, .inr (.inl g)))] ++ hiC E a fa T)) (t := hiT E fa T) (Cn := RX9) (pc := 5) C [.int p0, .int p1] hdc (c2_X9_set E l k a fa S T p0 p1 hlt hq) [0, 1, 2, 3, 4, 5, 6, 7, 8, 9, 10, 11, 12, 13, 14, 15, 16, 17, 18, 19, 20, 21, 22, 23, 24, 25, 26, 27, 28, 29, 30, 31, 32, 33, 34, 35, 36, 37, 38, 39, 40, 41, 42, 43, 44, 45, 46, 47, 48, 49, 50, 51, 52, 53, 54, 55, 56, 57, 58, 59, 60, 62, 63] (hpB E a fa S T _) (by decide) 0 rfl rfl rfl g_L_82 hd_X9_set ⟨Nat.le_of_ble_eq_true rfl, Nat.le_of_ble_eq_true rfl⟩ ⟨Nat.le_of_ble_eq_true rfl, Nat.le_of_ble_eq_true rfl⟩ (Nat.le_of_ble_eq_true rfl) rfl dL_set_5 rfl (fun cd w1 hx => ?_) (fun r w1 hx => ?_)
  · -- thrown
    obtain ⟨h1, h2, fa', h3, hmo⟩ := hx
    rw [if_neg h2] at hm
    by_cases h4 : q.1 = 1
    · rw [if_pos h4] at hm
      cases hm
      refine ⟨wSg E a q.2.2.1 ++ hiC E a fa' q.2.2.2, hiT E fa' q.2.2.2, wSg E a q.2.2.1 ++ ([(o, .inl (eC E 1, 1, .inr (.inl g)))] ++ hiC E a fa' q.2.2.2), by rw [h3]; exact (List.append_assoc _ _ _).symm, (by simp only [List.length_append, wSg_len]; rfl), hiT_le hmo, pwB E a fa fa' S q.2.2.1 T q.2.2.2 _, ⟨13, ⟨[], [⟨0, 10, 17, 13⟩], ⟨0, 10, 13, 18⟩, "java/util/NoSuchElementException", hct, (fun z hz => nomatch hz), rfl, by decide, C.2.2.2.2.1 _ wm_3_188, by rw [h1, h4]; exact va_tabs rfl rfl (C.2.2.2.2.2.2.1.cast 1 rfl), rfl⟩, fun q9 => ?_⟩⟩
      refine r_astore (pc := 13) C (i := 4) dL_set_13 (by decide) rfl ?_
      refine r_iconst (pc := 15) C (v := 1) dL_set_15 (by decide) ?_
      exact r_xI (r_ireti (pc := 16) C ⟨rfl, fa', rfl, hmo⟩ (Nat.le_of_ble_eq_true rfl) (Nat.le_of_ble_eq_true rfl) dL_set_16)
    rw [if_neg h4] at hm
    obtain ⟨h4, hm⟩ := ifn hm
    cases hm
    refine ⟨wSg E a q.2.2.1 ++ hiC E a fa' q.2.2.2, hiT E fa' q.2.2.2, wSg E a q.2.2.1 ++ ([(o, .inl (eC E 1, 1, .inr (.inl g)))] ++ hiC E a fa' q.2.2.2), by rw [h3]; exact (List.append_assoc _ _ _).symm, (by simp only [List.length_append, wSg_len]; rfl), hiT_le hmo, pwB E a fa fa' S q.2.2.1 T q.2.2.2 _, ⟨17, ⟨[⟨0, 10, 13, 18⟩], [], ⟨0, 10, 17, 13⟩, "java/lang/IllegalArgumentException", hct, (fun z hz => by rcases List.mem_singleton.mp hz with rfl; exact Or.inr ⟨by decide, "java/util/NoSuchElementException", C.2.2.2.2.1 _ wm_3_188, by rw [h1, h4]; exact hdc.2⟩), rfl, by decide, C.2.2.2.2.1 _ wm_2_181, by rw [h1, h4]; exact va_tabs rfl rfl (C.2.2.2.2.2.2.1.cast 0 rfl), rfl⟩, fun q9 => ?_⟩⟩
    refine r_astore (pc := 17) C (i := 4) dL_set_17 (by decide) rfl ?_
    refine r_iconst (pc := 19) C (v := 2) dL_set_19 (by decide) ?_
    exact r_xI (r_ireti (pc := 20) C ⟨rfl, fa', rfl, hmo⟩ (Nat.le_of_ble_eq_true rfl) (Nat.le_of_ble_eq_true rfl) dL_set_20)
  · -- returned
    obtain ⟨h1, h2, fa', h3, hmo⟩ := hx
    rw [if_pos h1] at hm
    cases hm
    subst h2
    refine ⟨wSg E a q.2.2.1 ++ hiC E a fa' q.2.2.2, hiT E fa' q.2.2.2, wSg E a q.2.2.1 ++ ([(o, .inl (eC E 1, 1, .inr (.inl g)))] ++ hiC E a fa' q.2.2.2), by rw [h3]; exact (List.append_assoc _ _ _).symm, (by simp only [List.length_append, wSg_len]; rfl), hiT_le hmo, pwB E a fa fa' S q.2.2.1 T q.2.2.2 _, ?_⟩
    refine r_i2l (pc := 8) C dL_set_8 ?_
    refine r_last (pc := 9) C 61 rfl (by decide) (w' := ((wSg E a q.2.2.1 ++ ([(o, .inl (eC E 1, 1, .inr (.inl (vp_updL g (0 : Int32).toNatClampNeg q.2.1.toInt64))))] ++ hiC E a fa' q.2.2.2)) ++ hiT E fa' q.2.2.2)) rfl dL_set_9 ?_
    refine r_goto (pc := 10) C (tgt := 21) dL_set_10 rfl ?_
    refine r_iconst (pc := 21) C (v := 0) dL_set_21 (by decide) ?_
    exact r_xI (r_ireti (pc := 22) C ⟨rfl, fa', rfl, hmo⟩ (Nat.le_of_ble_eq_true rfl) (Nat.le_of_ble_eq_true rfl) dL_set_22)
-- ShardGuardLaw.format
theorem dL_format_0 : decode cL_format 0 = .ok (.aload_n 2, 1) := by decide +kernel
theorem dL_format_1 : decode cL_format 1 = .ok (.iconst 0, 1) := by decide +kernel
theorem dL_format_2 : decode cL_format 2 = .ok (.aload_n 0, 1) := by decide +kernel
theorem dL_format_3 : decode cL_format 3 = .ok (.iload_n 1, 1) := by decide +kernel
theorem dL_format_4 : decode cL_format 4 = .ok (.invokevirtual 85, 3) := by decide +kernel
theorem dL_format_7 : decode cL_format 7 = .ok (.i2l, 1) := by decide +kernel
theorem dL_format_8 : decode cL_format 8 = .ok (.lastore, 1) := by decide +kernel
theorem dL_format_9 : decode cL_format 9 = .ok (.goto 6, 3) := by decide +kernel
theorem dL_format_12 : decode cL_format 12 = .ok (.astore_n 3, 1) := by decide +kernel
theorem dL_format_13 : decode cL_format 13 = .ok (.iconst 1, 1) := by decide +kernel
theorem dL_format_14 : decode cL_format 14 = .ok (.ireturn, 1) := by decide +kernel
theorem dL_format_15 : decode cL_format 15 = .ok (.iconst 0, 1) := by decide +kernel
theorem dL_format_16 : decode cL_format 16 = .ok (.ireturn, 1) := by decide +kernel
def M_L_format (k : Nat) (S : VV × VV × VV × VV × VV × Int32) (g : Nat → Int64) (p0 : Int32) : Option (Int32 × (VV × VV × VV × VV × VV × Int32) × (Nat → Int64)) := (M_X9_format k S p0).bind fun q => if q.1 = 0 then some ((0 : Int32), q.2.2, (vp_updL g (0 : Int32).toNatClampNeg q.2.1.toInt64)) else if q.1 = 1 then some ((1 : Int32), q.2.2, g) else none
def rm_L_format : Room := { frames := 9, cells := 1, slots := 6, locals := 218 }
theorem hd_X9_format : yX9_format.cls = RX9 ∧ yX9_format.cls ≠ "java/lang/invoke/MethodHandle" ∧ yX9_format.cls ≠ "java/lang/invoke/VarHandle" ∧ (parseMethodDescriptor yX9_format.desc).map (fun d => d.parameters.length) = some 1 := by decide +kernel
theorem g_L_85 : GoodIn GW (wsV RL 85 RX9 yX9_format (wsG yX9_format cX9_format 2 (some .int))) := gw_V wm_5_65 wm_5_66 wm_5_67 wm_1_1 wm_5_68
set_option maxRecDepth 100000 in
set_option maxHeartbeats 4000000 in
theorem c_L_format (E : ENV) (l : Launch) (k : Nat) (a : Nat → Nat) (o : Nat) (S : VV × VV × VV × VV × VV × Int32) (g : Nat → Int64) (p0 : Int32) (hlt : l.stackTraces = false) {q : Int32 × (VV × VV × VV × VV × VV × Int32) × (Nat → Int64)} (hm : M_L_format k S g p0 = some q) : HI E l yL_format cL_format 4 (some .int) [(0, 9, 12, 18)] rm_L_format [.ref (a 0), .int p0, .ref o] (wSg E a S ++ [(o, .inl (eC E 1, 1, .inr (.inl g)))]) (fun r w' => r = q.1 ∧ w' = (wSg E a q.2.1 ++ [(o, .inl (eC E 1, 1, .inr (.inl q.2.2)))])) := by
  refine HI.of 1 (by decide) (Nat.le_of_ble_eq_true rfl) (fun p e s m below meth c A C hct hdc => ?_)
  refine r_weak (L' := [some (.ref (a 0)), some (.int p0), some (.ref o), none]) (lSub_s (lSub_s (lSub_s (lSub_n lSub_e)))) ?_
  refine r_aload_n (pc := 0) C (i := 2) dL_format_0 rfl rfl ?_
  refine r_iconst (pc := 1) C (v := 0) dL_format_1 (by decide) ?_
  refine r_aload_n (pc := 2) C (i := 0) dL_format_2 rfl rfl ?_
  refine r_iload_n (pc := 3) C (i := 1) dL_format_3 rfl rfl ?_
  obtain ⟨q, hq, hm⟩ := bnd hm
  refine r_callH (Cn := RX9) (pc := 4) C [.int p0] hdc (c_X9_format E l k a S p0 hlt hq) [0, 1, 2, 3, 4, 5, 6, 7, 8, 9, 10, 11, 12, 13, 14, 15, 16, 17, 18, 19, 20, 21, 22, 23, 24, 25, 26, 27, 28, 29, 30, 31, 32, 33, 34, 35, 36, 37, 38, 39, 40, 41, 42, 43, 44, 45, 46, 47, 48, 49, 50, 51, 52, 53, 54, 55, 56, 57, 58, 59, 60] (hpA E a S [(o, .inl (eC E 1, 1, .inr (.inl g)))]) (by decide) 0 rfl rfl rfl g_L_85 hd_X9_format ⟨Nat.le_of_ble_eq_true rfl, Nat.le_of_ble_eq_true rfl⟩ ⟨Nat.le_of_ble_eq_true rfl, Nat.le_of_ble_eq_true rfl⟩ (Nat.le_of_ble_eq_true rfl) rfl dL_format_4 (fun cd w1 hx => ?_) (fun r w1 hx => ?_)
  · -- thrown
    obtain ⟨h1, h2, h3⟩ := hx
    rw [if_neg h2] at hm
    obtain ⟨h4, hm⟩ := ifn hm
    cases hm
    refine ⟨wSg E a q.2.2 ++ [(o, .inl (eC E 1, 1, .inr (.inl g)))], by rw [h3]; exact pwA E a S q.2.2 [(o, .inl (eC E 1, 1, .inr (.inl g)))], ⟨12, ⟨[], [], ⟨0, 9, 12, 18⟩, "java/util/NoSuchElementException", hct, (fun z hz => nomatch hz), rfl, by decide, C.2.2.2.2.1 _ wm_3_188, by rw [h1, h4]; exact va_tabs rfl rfl (C.2.2.2.2.2.2.1.cast 1 rfl), rfl⟩, fun q9 => ?_⟩⟩
    refine r_astore_n (pc := 12) C (i := 3) dL_format_12 rfl (by decide) rfl ?_
    refine r_iconst (pc := 13) C (v := 1) dL_format_13 (by decide) ?_
    exact r_xI (r_ireti (pc := 14) C ⟨rfl, rfl⟩ (Nat.le_of_ble_eq_true rfl) (Nat.le_of_ble_eq_true rfl) dL_format_14)
  · -- returned
    obtain ⟨h1, h2, h3⟩ := hx
    rw [if_pos h1] at hm
    cases hm
    subst h2
    refine ⟨wSg E a q.2.2 ++ [(o, .inl (eC E 1, 1, .inr (.inl g)))], by rw [h3]; exact pwA E a S q.2.2 [(o, .inl (eC E 1, 1, .inr (.inl g)))], ?_⟩
    refine r_i2l (pc := 7) C dL_format_7 ?_
    refine r_last (pc := 8) C 61 rfl (by decide) (w' := (wSg E a q.2.2 ++ [(o, .inl (eC E 1, 1, .inr (.inl (vp_updL g (0 : Int32).toNatClampNeg q.2.1.toInt64))))])) rfl dL_format_8 ?_
    refine r_goto (pc := 9) C (tgt := 15) dL_format_9 rfl ?_
    refine r_iconst (pc := 15) C (v := 0) dL_format_15 (by decide) ?_
    exact r_xI (r_ireti (pc := 16) C ⟨rfl, rfl⟩ (Nat.le_of_ble_eq_true rfl) (Nat.le_of_ble_eq_true rfl) dL_format_16)
end WALKS
