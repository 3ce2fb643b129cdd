section WALKS
variable {E : ENV} {p : Program} {l : Launch} {e : Env} {s : State} {m : MethodId} {args : Array Value} {below : List Frame} {meth : Method} {c : Code} {A : Nat → Prop}
-- ShardGuardLaw.load
theorem dL_load_0 : decode cL_load 0 = .ok (.aload_n 2, 1) := by decide +kernel
theorem dL_load_1 : decode cL_load 1 = .ok (.iconst 0, 1) := by decide +kernel
theorem dL_load_2 : decode cL_load 2 = .ok (.aload_n 0, 1) := by decide +kernel
theorem dL_load_3 : decode cL_load 3 = .ok (.iload_n 1, 1) := by decide +kernel
theorem dL_load_4 : decode cL_load 4 = .ok (.invokevirtual 7, 3) := by decide +kernel
theorem dL_load_7 : decode cL_load 7 = .ok (.i2l, 1) := by decide +kernel
theorem dL_load_8 : decode cL_load 8 = .ok (.lastore, 1) := by decide +kernel
theorem dL_load_9 : decode cL_load 9 = .ok (.goto 6, 3) := by decide +kernel
theorem dL_load_12 : decode cL_load 12 = .ok (.astore_n 3, 1) := by decide +kernel
theorem dL_load_13 : decode cL_load 13 = .ok (.iconst 1, 1) := by decide +kernel
theorem dL_load_14 : decode cL_load 14 = .ok (.ireturn, 1) := by decide +kernel
theorem dL_load_15 : decode cL_load 15 = .ok (.iconst 0, 1) := by decide +kernel
theorem dL_load_16 : decode cL_load 16 = .ok (.ireturn, 1) := by decide +kernel
def M_L_load (k : Nat) (S : VV × VV × VV × VV × VV × Int32) (T : Nat × Int32 × Int32 × (Nat → VV)) (g : Nat → Int64) (p0 : Int32) : Option (Int32 × (VV × VV × VV × VV × VV × Int32) × (Nat × Int32 × Int32 × (Nat → VV)) × (Nat → Int64)) := (M_X9_load k S T p0).bind fun q => if q.1 = 0 then some ((0 : Int32), q.2.2.1, q.2.2.2, (vp_updL g (0 : Int32).toNatClampNeg q.2.1.toInt64)) else if q.1 = 2 then some ((1 : Int32), q.2.2.1, q.2.2.2, g) else none
def rm_L_load : Room := { frames := 11, cells := 1, slots := 6, locals := 260 }
theorem hd_X9_load : yX9_load.cls = RX9 ∧ yX9_load.cls ≠ "java/lang/invoke/MethodHandle" ∧ yX9_load.cls ≠ "java/lang/invoke/VarHandle" ∧ (parseMethodDescriptor yX9_load.desc).map (fun d => d.parameters.length) = some 1 := by decide +kernel
theorem g_L_7 : GoodIn GW (wsV RL 7 RX9 yX9_load (wsG yX9_load cX9_load 2 (some .int))) := gw_V wm_2_182 wm_2_183 wm_2_184 wm_1_1 wm_2_185
set_option maxRecDepth 100000 in
set_option maxHeartbeats 4000000 in
theorem c_L_load (E : ENV) (l : Launch) (k : Nat) (a : Nat → Nat) (o : Nat) (fa : Nat → Nat → Nat) (S : VV × VV × VV × VV × VV × Int32) (T : Nat × Int32 × Int32 × (Nat → VV)) (g : Nat → Int64) (p0 : Int32) (hlt : l.stackTraces = false) {q : Int32 × (VV × VV × VV × VV × VV × Int32) × (Nat × Int32 × Int32 × (Nat → VV)) × (Nat → Int64)} (hm : M_L_load k S T g p0 = some q) : HI E l yL_load cL_load 4 (some .int) [(0, 9, 12, 13)] rm_L_load [.ref (a 0), .int p0, .ref o] ((wSg E a S ++ ([(o, .inl (eC E 1, 1, .inr (.inl g)))] ++ hiC E a fa T)) ++ hiT E fa T) (fun r w' => r = q.1 ∧ ∃ fa' : Nat → Nat → Nat, w' = ((wSg E a q.2.1 ++ ([(o, .inl (eC E 1, 1, .inr (.inl q.2.2.2)))] ++ hiC E a fa' q.2.2.1)) ++ hiT E fa' q.2.2.1) ∧ T.1 ≤ q.2.2.1.1) := by
  refine HI.of 1 (by decide) (Nat.le_of_ble_eq_true rfl) (fun p e s m below meth c A C hct hdc => ?_)
  refine r_weak (L' := [some (.ref (a 0)), some (.int p0), some (.ref o), none]) (lSub_s (lSub_s (lSub_s (lSub_n lSub_e)))) ?_
  refine r_aload_n (pc := 0) C (i := 2) dL_load_0 rfl rfl ?_
  refine r_iconst (pc := 1) C (v := 0) dL_load_1 (by decide) ?_
  refine r_aload_n (pc := 2) C (i := 0) dL_load_2 rfl rfl ?_
  refine r_iload_n (pc := 3) C (i := 1) dL_load_3 rfl rfl ?_
  obtain ⟨q, hq, hm⟩ := bnd hm
  refine r_callHT (c0 := wSg E a S ++ hiC E a fa T) (w0 := wSg E a S ++ ([(o, .inl (eC E 1, 1, .inr (.inl g)))] ++ hiC E a fa T)) (t := hiT E fa T) (Cn := RX9) (pc := 4) C [.int p0] hdc (c2_X9_load E l k a fa S T p0 hlt hq) [0, 1, 2, 3, 4, 5, 6, 7, 8, 9, 10, 11, 12, 13, 14, 15, 16, 17, 18, 19, 20, 21, 22, 23, 24, 25, 26, 27, 28, 29, 30, 31, 32, 33, 34, 35, 36, 37, 38, 39, 40, 41, 42, 43, 44, 45, 46, 47, 48, 49, 50, 51, 52, 53, 54, 55, 56, 57, 58, 59, 60, 62, 63] (hpB E a fa S T _) (by decide) 0 rfl rfl rfl g_L_7 hd_X9_load ⟨Nat.le_of_ble_eq_true rfl, Nat.le_of_ble_eq_true rfl⟩ ⟨Nat.le_of_ble_eq_true rfl, Nat.le_of_ble_eq_true rfl⟩ (Nat.le_of_ble_eq_true rfl) rfl dL_load_4 rfl (fun cd w1 hx => ?_) (fun r w1 hx => ?_)
  · -- thrown
    obtain ⟨h1, h2, fa', h3, hmo⟩ := hx
    rw [if_neg h2] at hm
    obtain ⟨h4, hm⟩ := ifn hm
    cases hm
    refine ⟨wSg E a q.2.2.1 ++ hiC E a fa' q.2.2.2, hiT E fa' q.2.2.2, wSg E a q.2.2.1 ++ ([(o, .inl (eC E 1, 1, .inr (.inl g)))] ++ hiC E a fa' q.2.2.2), by rw [h3]; exact (List.append_assoc _ _ _).symm, (by simp only [List.length_append, wSg_len]; rfl), hiT_le hmo, pwB E a fa fa' S q.2.2.1 T q.2.2.2 _, ⟨12, ⟨[], [], ⟨0, 9, 12, 13⟩, "java/lang/IllegalArgumentException", hct, (fun z hz => nomatch hz), rfl, by decide, C.2.2.2.2.1 _ wm_2_181, by rw [h1, h4]; exact va_tabs rfl rfl (C.2.2.2.2.2.2.1.cast 0 rfl), rfl⟩, fun q9 => ?_⟩⟩
    refine r_astore_n (pc := 12) C (i := 3) dL_load_12 rfl (by decide) rfl ?_
    refine r_iconst (pc := 13) C (v := 1) dL_load_13 (by decide) ?_
    exact r_xI (r_ireti (pc := 14) C ⟨rfl, fa', rfl, hmo⟩ (Nat.le_of_ble_eq_true rfl) (Nat.le_of_ble_eq_true rfl) dL_load_14)
  · -- returned
    obtain ⟨h1, h2, fa', h3, hmo⟩ := hx
    rw [if_pos h1] at hm
    cases hm
    subst h2
    refine ⟨wSg E a q.2.2.1 ++ hiC E a fa' q.2.2.2, hiT E fa' q.2.2.2, wSg E a q.2.2.1 ++ ([(o, .inl (eC E 1, 1, .inr (.inl g)))] ++ hiC E a fa' q.2.2.2), by rw [h3]; exact (List.append_assoc _ _ _).symm, (by simp only [List.length_append, wSg_len]; rfl), hiT_le hmo, pwB E a fa fa' S q.2.2.1 T q.2.2.2 _, ?_⟩
    refine r_i2l (pc := 7) C dL_load_7 ?_
    refine r_last (pc := 8) C 61 rfl (by decide) (w' := ((wSg E a q.2.2.1 ++ ([(o, .inl (eC E 1, 1, .inr (.inl (vp_updL g (0 : Int32).toNatClampNeg q.2.1.toInt64))))] ++ hiC E a fa' q.2.2.2)) ++ hiT E fa' q.2.2.2)) rfl dL_load_8 ?_
    refine r_goto (pc := 9) C (tgt := 15) dL_load_9 rfl ?_
    refine r_iconst (pc := 15) C (v := 0) dL_load_15 (by decide) ?_
    exact r_xI (r_ireti (pc := 16) C ⟨rfl, fa', rfl, hmo⟩ (Nat.le_of_ble_eq_true rfl) (Nat.le_of_ble_eq_true rfl) dL_load_16)
-- ShardGuardLaw.size
theorem dL_size_0 : decode cL_size 0 = .ok (.aload_n 2, 1) := by decide +kernel
theorem dL_size_1 : decode cL_size 1 = .ok (.iconst 0, 1) := by decide +kernel
theorem dL_size_2 : decode cL_size 2 = .ok (.aload_n 0, 1) := by decide +kernel
theorem dL_size_3 : decode cL_size 3 = .ok (.iload_n 1, 1) := by decide +kernel
theorem dL_size_4 : decode cL_size 4 = .ok (.invokevirtual 15, 3) := by decide +kernel
theorem dL_size_7 : decode cL_size 7 = .ok (.i2l, 1) := by decide +kernel
theorem dL_size_8 : decode cL_size 8 = .ok (.lastore, 1) := by decide +kernel
theorem dL_size_9 : decode cL_size 9 = .ok (.goto 6, 3) := by decide +kernel
theorem dL_size_12 : decode cL_size 12 = .ok (.astore_n 3, 1) := by decide +kernel
theorem dL_size_13 : decode cL_size 13 = .ok (.iconst 1, 1) := by decide +kernel
theorem dL_size_14 : decode cL_size 14 = .ok (.ireturn, 1) := by decide +kernel
theorem dL_size_15 : decode cL_size 15 = .ok (.iconst 0, 1) := by decide +kernel
theorem dL_size_16 : decode cL_size 16 = .ok (.ireturn, 1) := by decide +kernel
def M_L_size (k : Nat) (S : VV × VV × VV × VV × VV × Int32) (g : Nat → Int64) (p0 : Int32) : Option (Int32 × (Nat → Int64)) := (M_X9_size k S p0).bind fun q => if q.1 = 0 then some ((0 : Int32), (vp_updL g (0 : Int32).toNatClampNeg q.2.toInt64)) else if q.1 = 1 then some ((1 : Int32), g) else none
def rm_L_size : Room := { frames := 7, cells := 1, slots := 6, locals := 121 }
theorem hd_X9_size : yX9_size.cls = RX9 ∧ yX9_size.cls ≠ "java/lang/invoke/MethodHandle" ∧ yX9_size.cls ≠ "java/lang/invoke/VarHandle" ∧ (parseMethodDescriptor yX9_size.desc).map (fun d => d.parameters.length) = some 1 := by decide +kernel
theorem g_L_15 : GoodIn GW (wsV RL 15 RX9 yX9_size (wsG yX9_size cX9_size 2 (some .int))) := gw_V wm_3_189 wm_3_190 wm_3_191 wm_1_1 wm_3_192
set_option maxRecDepth 100000 in
set_option maxHeartbeats 4000000 in
theorem c_L_size (E : ENV) (l : Launch) (k : Nat) (a : Nat → Nat) (o : Nat) (S : VV × VV × VV × VV × VV × Int32) (g : Nat → Int64) (p0 : Int32) (hlt : l.stackTraces = false) {q : Int32 × (Nat → Int64)} (hm : M_L_size k S g p0 = some q) : HI E l yL_size cL_size 4 (some .int) [(0, 9, 12, 18)] rm_L_size [.ref (a 0), .int p0, .ref o] (wSg E a S ++ [(o, .inl (eC E 1, 1, .inr (.inl g)))]) (fun r w' => r = q.1 ∧ w' = (wSg E a S ++ [(o, .inl (eC E 1, 1, .inr (.inl q.2)))])) := by
  refine HI.of 1 (by decide) (Nat.le_of_ble_eq_true rfl) (fun p e s m below meth c A C hct hdc => ?_)
  refine r_weak (L' := [some (.ref (a 0)), some (.int p0), some (.ref o), none]) (lSub_s (lSub_s (lSub_s (lSub_n lSub_e)))) ?_
  refine r_aload_n (pc := 0) C (i := 2) dL_size_0 rfl rfl ?_
  refine r_iconst (pc := 1) C (v := 0) dL_size_1 (by decide) ?_
  refine r_aload_n (pc := 2) C (i := 0) dL_size_2 rfl rfl ?_
  refine r_iload_n (pc := 3) C (i := 1) dL_size_3 rfl rfl ?_
  obtain ⟨q, hq, hm⟩ := bnd hm
  refine r_callH (Cn := RX9) (pc := 4) C [.int p0] hdc (c_X9_size E l k a S p0 hlt hq) [0, 1, 2, 3, 4, 5, 6, 7, 8, 9, 10, 11, 12, 13, 14, 15, 16, 17, 18, 19, 20, 21, 22, 23, 24, 25, 26, 27, 28, 29, 30, 31, 32, 33, 34, 35, 36, 37, 38, 39, 40, 41, 42, 43, 44, 45, 46, 47, 48, 49, 50, 51, 52, 53, 54, 55, 56, 57, 58, 59, 60] (hpA E a S [(o, .inl (eC E 1, 1, .inr (.inl g)))]) (by decide) 0 rfl rfl rfl g_L_15 hd_X9_size ⟨Nat.le_of_ble_eq_true rfl, Nat.le_of_ble_eq_true rfl⟩ ⟨Nat.le_of_ble_eq_true rfl, Nat.le_of_ble_eq_true rfl⟩ (Nat.le_of_ble_eq_true rfl) rfl dL_size_4 (fun cd w1 hx => ?_) (fun r w1 hx => ?_)
  · -- thrown
    obtain ⟨h1, h2, h3⟩ := hx
    rw [if_neg h2] at hm
    obtain ⟨h4, hm⟩ := ifn hm
    cases hm
    refine ⟨wSg E a S ++ [(o, .inl (eC E 1, 1, .inr (.inl g)))], by rw [h3]; exact pwA E a S S [(o, .inl (eC E 1, 1, .inr (.inl g)))], ⟨12, ⟨[], [], ⟨0, 9, 12, 18⟩, "java/util/NoSuchElementException", hct, (fun z hz => nomatch hz), rfl, by decide, C.2.2.2.2.1 _ wm_3_188, by rw [h1, h4]; exact va_tabs rfl rfl (C.2.2.2.2.2.2.1.cast 1 rfl), rfl⟩, fun q9 => ?_⟩⟩
    refine r_astore_n (pc := 12) C (i := 3) dL_size_12 rfl (by decide) rfl ?_
    refine r_iconst (pc := 13) C (v := 1) dL_size_13 (by decide) ?_
    exact r_xI (r_ireti (pc := 14) C ⟨rfl, rfl⟩ (Nat.le_of_ble_eq_true rfl) (Nat.le_of_ble_eq_true rfl) dL_size_14)
  · -- returned
    obtain ⟨h1, h2, h3⟩ := hx
    rw [if_pos h1] at hm
    cases hm
    subst h2
    refine ⟨wSg E a S ++ [(o, .inl (eC E 1, 1, .inr (.inl g)))], by rw [h3]; exact pwA E a S S [(o, .inl (eC E 1, 1, .inr (.inl g)))], ?_⟩
    refine r_i2l (pc := 7) C dL_size_7 ?_
    refine r_last (pc := 8) C 61 rfl (by decide) (w' := (wSg E a S ++ [(o, .inl (eC E 1, 1, .inr (.inl (vp_updL g (0 : Int32).toNatClampNeg q.2.toInt64))))])) rfl dL_size_8 ?_
    refine r_goto (pc := 9) C (tgt := 15) dL_size_9 rfl ?_
    refine r_iconst (pc := 15) C (v := 0) dL_size_15 (by decide) ?_
    exact r_xI (r_ireti (pc := 16) C ⟨rfl, rfl⟩ (Nat.le_of_ble_eq_true rfl) (Nat.le_of_ble_eq_true rfl) dL_size_16)
-- ShardGuardLaw.setting
theorem dL_setting_0 : decode cL_setting 0 = .ok (.aload_n 2, 1) := by decide +kernel
theorem dL_setting_1 : decode cL_setting 1 = .ok (.iconst 0, 1) := by decide +kernel
theorem dL_setting_2 : decode cL_setting 2 = .ok (.aload_n 0, 1) := by decide +kernel
theorem dL_setting_3 : decode cL_setting 3 = .ok (.iload_n 1, 1) := by decide +kernel
theorem dL_setting_4 : decode cL_setting 4 = .ok (.invokevirtual 20, 3) := by decide +kernel
theorem dL_setting_7 : decode cL_setting 7 = .ok (.i2l, 1) := by decide +kernel
theorem dL_setting_8 : decode cL_setting 8 = .ok (.lastore, 1) := by decide +kernel
theorem dL_setting_9 : decode cL_setting 9 = .ok (.goto 6, 3) := by decide +kernel
theorem dL_setting_12 : decode cL_setting 12 = .ok (.astore_n 3, 1) := by decide +kernel
theorem dL_setting_13 : decode cL_setting 13 = .ok (.iconst 1, 1) := by decide +kernel
theorem dL_setting_14 : decode cL_setting 14 = .ok (.ireturn, 1) := by decide +kernel
theorem dL_setting_15 : decode cL_setting 15 = .ok (.iconst 0, 1) := by decide +kernel
theorem dL_setting_16 : decode cL_setting 16 = .ok (.ireturn, 1) := by decide +kernel
def M_L_setting (k : Nat) (S : VV × VV × VV × VV × VV × Int32) (g : Nat → Int64) (p0 : Int32) : Option (Int32 × (Nat → Int64)) := (M_X9_setting k S p0).bind fun q => if q.1 = 0 then some ((0 : Int32), (vp_updL g (0 : Int32).toNatClampNeg q.2.toInt64)) else if q.1 = 1 then some ((1 : Int32), g) else none
def rm_L_setting : Room := { frames := 8, cells := 1, slots := 6, locals := 141 }
theorem hd_X9_setting : yX9_setting.cls = RX9 ∧ yX9_setting.cls ≠ "java/lang/invoke/MethodHandle" ∧ yX9_setting.cls ≠ "java/lang/invoke/VarHandle" ∧ (parseMethodDescriptor yX9_setting.desc).map (fun d => d.parameters.length) = some 1 := by decide +kernel
theorem g_L_20 : GoodIn GW (wsV RL 20 RX9 yX9_setting (wsG yX9_setting cX9_setting 2 (some .int))) := gw_V wm_3_229 wm_3_230 wm_3_231 wm_1_1 wm_3_232
set_option maxRecDepth 100000 in
set_option maxHeartbeats 4000000 in
theorem c_L_setting (E : ENV) (l : Launch) (k : Nat) (a : Nat → Nat) (o : Nat) (S : VV × VV × VV × VV × VV × Int32) (g : Nat → Int64) (p0 : Int32) (hlt : l.stackTraces = false) {q : Int32 × (Nat → Int64)} (hm : M_L_setting k S g p0 = some q) : HI E l yL_setting cL_setting 4 (some .int) [(0, 9, 12, 18)] rm_L_setting [.ref (a 0), .int p0, .ref o] (wSg E a S ++ [(o, .inl (eC E 1, 1, .inr (.inl g)))]) (fun r w' => r = q.1 ∧ w' = (wSg E a S ++ [(o, .inl (eC E 1, 1, .inr (.inl q.2)))])) := by
  refine HI.of 1 (by decide) (Nat.le_of_ble_eq_true rfl) (fun p e s m below meth c A C hct hdc => ?_)
  refine r_weak (L' := [some (.ref (a 0)), some (.int p0), some (.ref o), none]) (lSub_s (lSub_s (lSub_s (lSub_n lSub_e)))) ?_
  refine r_aload_n (pc := 0) C (i := 2) dL_setting_0 rfl rfl ?_
  refine r_iconst (pc := 1) C (v := 0) dL_setting_1 (by decide) ?_
  refine r_aload_n (pc := 2) C (i := 0) dL_setting_2 rfl rfl ?_
  refine r_iload_n (pc := 3) C (i := 1) dL_setting_3 rfl rfl ?_
  obtain ⟨q, hq, hm⟩ := bnd hm
  refine r_callH (Cn := RX9) (pc := 4) C [.int p0] hdc (c_X9_setting E l k a S p0 hlt hq) [0, 1, 2, 3, 4, 5, 6, 7, 8, 9, 10, 11, 12, 13, 14, 15, 16, 17, 18, 19, 20, 21, 22, 23, 24, 25, 26, 27, 28, 29, 30, 31, 32, 33, 34, 35, 36, 37, 38, 39, 40, 41, 42, 43, 44, 45, 46, 47, 48, 49, 50, 51, 52, 53, 54, 55, 56, 57, 58, 59, 60] (hpA E a S [(o, .inl (eC E 1, 1, .inr (.inl g)))]) (by decide) 0 rfl rfl rfl g_L_20 hd_X9_setting ⟨Nat.le_of_ble_eq_true rfl, Nat.le_of_ble_eq_true rfl⟩ ⟨Nat.le_of_ble_eq_true rfl, Nat.le_of_ble_eq_true rfl⟩ (Nat.le_of_ble_eq_true rfl) rfl dL_setting_4 (fun cd w1 hx => ?_) (fun r w1 hx => ?_)
  · -- thrown
    obtain ⟨h1, h2, h3⟩ := hx
    rw [if_neg h2] at hm
    obtain ⟨h4, hm⟩ := ifn hm
    cases hm
    refine ⟨wSg E a S ++ [(o, .inl (eC E 1, 1, .inr (.inl g)))], by rw [h3]; exact pwA E a S S [(o, .inl (eC E 1, 1, .inr (.inl g)))], ⟨12, ⟨[], [], ⟨0, 9, 12, 18⟩, "java/util/NoSuchElementException", hct, (fun z hz => nomatch hz), rfl, by decide, C.2.2.2.2.1 _ wm_3_188, by rw [h1, h4]; exact va_tabs rfl rfl (C.2.2.2.2.2.2.1.cast 1 rfl), rfl⟩, fun q9 => ?_⟩⟩
    refine r_astore_n (pc := 12) C (i := 3) dL_setting_12 rfl (by decide) rfl ?_
    refine r_iconst (pc := 13) C (v := 1) dL_setting_13 (by decide) ?_
    exact r_xI (r_ireti (pc := 14) C ⟨rfl, rfl⟩ (Nat.le_of_ble_eq_true rfl) (Nat.le_of_ble_eq_true rfl) dL_setting_14)
  · -- returned
    obtain ⟨h1, h2, h3⟩ := hx
    rw [if_pos h1] at hm
    cases hm
    subst h2
    refine ⟨wSg E a S ++ [(o, .inl (eC E 1, 1, .inr (.inl g)))], by rw [h3]; exact pwA E a S S [(o, .inl (eC E 1, 1, .inr (.inl g)))], ?_⟩
    refine r_i2l (pc := 7) C dL_setting_7 ?_
    refine r_last (pc := 8) C 61 rfl (by decide) (w' := (wSg E a S ++ [(o, .inl (eC E 1, 1, .inr (.inl (vp_updL g (0 : Int32).toNatClampNeg q.2.toInt64))))])) rfl dL_setting_8 ?_
    refine r_goto (pc := 9) C (tgt := 15) dL_setting_9 rfl ?_
    refine r_iconst (pc := 15) C (v := 0) dL_setting_15 (by decide) ?_
    exact r_xI (r_ireti (pc := 16) C ⟨rfl, rfl⟩ (Nat.le_of_ble_eq_true rfl) (Nat.le_of_ble_eq_true rfl) dL_setting_16)
-- ShardGuardLaw.worker
theorem dL_worker_0 : decode cL_worker 0 = .ok (.aload_n 3, 1) := by decide +kernel
theorem dL_worker_1 : decode cL_worker 1 = .ok (.iconst 0, 1) := by decide +kernel
theorem dL_worker_2 : decode cL_worker 2 = .ok (.aload_n 0, 1) := by decide +kernel
theorem dL_worker_3 : decode cL_worker 3 = .ok (.iload_n 1, 1) := by decide +kernel
theorem dL_worker_4 : decode cL_worker 4 = .ok (.iload_n 2, 1) := by decide +kernel
theorem dL_worker_5 : decode cL_worker 5 = .ok (.invokevirtual 23, 3) := by decide +kernel
theorem dL_worker_8 : decode cL_worker 8 = .ok (.i2l, 1) := by decide +kernel
theorem dL_worker_9 : decode cL_worker 9 = .ok (.lastore, 1) := by decide +kernel
theorem dL_worker_10 : decode cL_worker 10 = .ok (.goto 7, 3) := by decide +kernel
theorem dL_worker_13 : decode cL_worker 13 = .ok (.astore 4, 2) := by decide +kernel
theorem dL_worker_15 : decode cL_worker 15 = .ok (.iconst 1, 1) := by decide +kernel
theorem dL_worker_16 : decode cL_worker 16 = .ok (.ireturn, 1) := by decide +kernel
theorem dL_worker_17 : decode cL_worker 17 = .ok (.iconst 0, 1) := by decide +kernel
theorem dL_worker_18 : decode cL_worker 18 = .ok (.ireturn, 1) := by decide +kernel
def M_L_worker (k : Nat) (S : VV × VV × VV × VV × VV × Int32) (g : Nat → Int64) (p0 : Int32) (p1 : Int32) : Option (Int32 × (Nat → Int64)) := (M_X9_worker k S p0 p1).bind fun q => if q.1 = 0 then some ((0 : Int32), (vp_updL g (0 : Int32).toNatClampNeg q.2.toInt64)) else if q.1 = 1 then some ((1 : Int32), g) else none
def rm_L_worker : Room := { frames := 8, cells := 2, slots := 12, locals := 143 }
theorem hd_X9_worker : yX9_worker.cls = RX9 ∧ yX9_worker.cls ≠ "java/lang/invoke/MethodHandle" ∧ yX9_worker.cls ≠ "java/lang/invoke/VarHandle" ∧ (parseMethodDescriptor yX9_worker.desc).map (fun d => d.parameters.length) = some 2 := by decide +kernel
theorem g_L_23 : GoodIn GW (wsV RL 23 RX9 yX9_worker (wsG yX9_worker cX9_worker 3 (some .int))) := gw_V wm_4_0 wm_4_1 wm_4_2 wm_1_1 wm_4_3
set_option maxRecDepth 100000 in
set_option maxHeartbeats 4000000 in
theorem c_L_worker (E : ENV) (l : Launch) (k : Nat) (a : Nat → Nat) (o : Nat) (S : VV × VV × VV × VV × VV × Int32) (g : Nat → Int64) (p0 : Int32) (p1 : Int32) (hlt : l.stackTraces = false) {q : Int32 × (Nat → Int64)} (hm : M_L_worker k S g p0 p1 = some q) : HI E l yL_worker cL_worker 5 (some .int) [(0, 10, 13, 18)] rm_L_worker [.ref (a 0), .int p0, .int p1, .ref o] (wSg E a S ++ [(o, .inl (eC E 1, 1, .inr (.inl g)))]) (fun r w' => r = q.1 ∧ w' = (wSg E a S ++ [(o, .inl (eC E 1, 1, .inr (.inl q.2)))])) := by
  refine HI.of 1 (by decide) (Nat.le_of_ble_eq_true rfl) (fun p e s m below meth c A C hct hdc => ?_)
  refine r_weak (L' := [some (.ref (a 0)), some (.int p0), some (.int p1), some (.ref o), none]) (lSub_s (lSub_s (lSub_s (lSub_s (lSub_n lSub_e))))) ?_
  refine r_aload_n (pc := 0) C (i := 3) dL_worker_0 rfl rfl ?_
  refine r_iconst (pc := 1) C (v := 0) dL_worker_1 (by decide) ?_
  refine r_aload_n (pc := 2) C (i := 0) dL_worker_2 rfl rfl ?_
  refine r_iload_n (pc := 3) C (i := 1) dL_worker_3 rfl rfl ?_
  refine r_iload_n (pc := 4) C (i := 2) dL_worker_4 rfl rfl ?_
  obtain ⟨q, hq, hm⟩ := bnd hm
  refine r_callH (Cn := RX9) (pc := 5) C [.int p0, .int p1] hdc (c_X9_worker E l k a S p0 p1 hlt hq) [0, 1, 2, 3, 4, 5, 6, 7, 8, 9, 10, 11, 12, 13, 14, 15, 16, 17, 18, 19, 20, 21, 22, 23, 24, 25, 26, 27, 28, 29, 30, 31, 32, 33, 34, 35, 36, 37, 38, 39, 40, 41, 42, 43, 44, 45, 46, 47, 48, 49, 50, 51, 52, 53, 54, 55, 56, 57, 58, 59, 60] (hpA E a S [(o, .inl (eC E 1, 1, .inr (.inl g)))]) (by decide) 0 rfl rfl rfl g_L_23 hd_X9_worker ⟨Nat.le_of_ble_eq_true rfl, Nat.le_of_ble_eq_true rfl⟩ ⟨Nat.le_of_ble_eq_true rfl, Nat.le_of_ble_eq_true rfl⟩ (Nat.le_of_ble_eq_true rfl) rfl dL_worker_5 (fun cd w1 hx => ?_) (fun r w1 hx => ?_)
  · -- thrown
    obtain ⟨h1, h2, h3⟩ := hx
    rw [if_neg h2] at hm
    obtain ⟨h4, hm⟩ := ifn hm
    cases hm
    refine ⟨wSg E a S ++ [(o, .inl (eC E 1, 1, .inr (.inl g)))], by rw [h3]; exact pwA E a S S [(o, .inl (eC E 1, 1, .inr (.inl g)))], ⟨13, ⟨[], [], ⟨0, 10, 13, 18⟩, "java/util/NoSuchElementException", hct, (fun z hz => nomatch hz), rfl, by decide, C.2.2.2.2.1 _ wm_3_188, by rw [h1, h4]; exact va_tabs rfl rfl (C.2.2.2.2.2.2.1.cast 1 rfl), rfl⟩, fun q9 => ?_⟩⟩
    refine r_astore (pc := 13) C (i := 4) dL_worker_13 (by decide) rfl ?_
    refine r_iconst (pc := 15) C (v := 1) dL_worker_15 (by decide) ?_
    exact r_xI (r_ireti (pc := 16) C ⟨rfl, rfl⟩ (Nat.le_of_ble_eq_true rfl) (Nat.le_of_ble_eq_true rfl) dL_worker_16)
  · -- returned
    obtain ⟨h1, h2, h3⟩ := hx
    rw [if_pos h1] at hm
    cases hm
    subst h2
    refine ⟨wSg E a S ++ [(o, .inl (eC E 1, 1, .inr (.inl g)))], by rw [h3]; exact pwA E a S S [(o, .inl (eC E 1, 1, .inr (.inl g)))], ?_⟩
    refine r_i2l (pc := 8) C dL_worker_8 ?_
    refine r_last (pc := 9) C 61 rfl (by decide) (w' := (wSg E a S ++ [(o, .inl (eC E 1, 1, .inr (.inl (vp_updL g (0 : Int32).toNatClampNeg q.2.toInt64))))])) rfl dL_worker_9 ?_
    refine r_goto (pc := 10) C (tgt := 17) dL_worker_10 rfl ?_
    refine r_iconst (pc := 17) C (v := 0) dL_worker_17 (by decide) ?_
    exact r_xI (r_ireti (pc := 18) C ⟨rfl, rfl⟩ (Nat.le_of_ble_eq_true rfl) (Nat.le_of_ble_eq_true rfl) dL_worker_18)
-- ShardGuardLaw.tenant
theorem dL_tenant_0 : decode cL_tenant 0 = .ok (.aload_n 3, 1) := by decide +kernel
theorem dL_tenant_1 : decode cL_tenant 1 = .ok (.iconst 0, 1) := by decide +kernel
theorem dL_tenant_2 : decode cL_tenant 2 = .ok (.aload_n 0, 1) := by decide +kernel
theorem dL_tenant_3 : decode cL_tenant 3 = .ok (.iload_n 1, 1) := by decide +kernel
theorem dL_tenant_4 : decode cL_tenant 4 = .ok (.iload_n 2, 1) := by decide +kernel
theorem dL_tenant_5 : decode cL_tenant 5 = .ok (.invokevirtual 27, 3) := by decide +kernel
theorem dL_tenant_8 : decode cL_tenant 8 = .ok (.i2l, 1) := by decide +kernel
theorem dL_tenant_9 : decode cL_tenant 9 = .ok (.lastore, 1) := by decide +kernel
theorem dL_tenant_10 : decode cL_tenant 10 = .ok (.goto 7, 3) := by decide +kernel
theorem dL_tenant_13 : decode cL_tenant 13 = .ok (.astore 4, 2) := by decide +kernel
theorem dL_tenant_15 : decode cL_tenant 15 = .ok (.iconst 1, 1) := by decide +kernel
theorem dL_tenant_16 : decode cL_tenant 16 = .ok (.ireturn, 1) := by decide +kernel
theorem dL_tenant_17 : decode cL_tenant 17 = .ok (.iconst 0, 1) := by decide +kernel
theorem dL_tenant_18 : decode cL_tenant 18 = .ok (.ireturn, 1) := by decide +kernel
def M_L_tenant (k : Nat) (S : VV × VV × VV × VV × VV × Int32) (g : Nat → Int64) (p0 : Int32) (p1 : Int32) : Option (Int32 × (Nat → Int64)) := (M_X9_tenant k S p0 p1).bind fun q => if q.1 = 0 then some ((0 : Int32), (vp_updL g (0 : Int32).toNatClampNeg q.2.toInt64)) else if q.1 = 1 then some ((1 : Int32), g) else none
def rm_L_tenant : Room := { frames := 8, cells := 2, slots := 12, locals := 143 }
theorem hd_X9_tenant : yX9_tenant.cls = RX9 ∧ yX9_tenant.cls ≠ "java/lang/invoke/MethodHandle" ∧ yX9_tenant.cls ≠ "java/lang/invoke/VarHandle" ∧ (parseMethodDescriptor yX9_tenant.desc).map (fun d => d.parameters.length) = some 2 := by decide +kernel
theorem g_L_27 : GoodIn GW (wsV RL 27 RX9 yX9_tenant (wsG yX9_tenant cX9_tenant 3 (some .int))) := gw_V wm_4_26 wm_4_27 wm_4_28 wm_1_1 wm_4_29
set_option maxRecDepth 100000 in
set_option maxHeartbeats 4000000 in
theorem c_L_tenant (E : ENV) (l : Launch) (k : Nat) (a : Nat → Nat) (o : Nat) (S : VV × VV × VV × VV × VV × Int32) (g : Nat → Int64) (p0 : Int32) (p1 : Int32) (hlt : l.stackTraces = false) {q : Int32 × (Nat → Int64)} (hm : M_L_tenant k S g p0 p1 = some q) : HI E l yL_tenant cL_tenant 5 (some .int) [(0, 10, 13, 18)] rm_L_tenant [.ref (a 0), .int p0, .int p1, .ref o] (wSg E a S ++ [(o, .inl (eC E 1, 1, .inr (.inl g)))]) (fun r w' => r = q.1 ∧ w' = (wSg E a S ++ [(o, .inl (eC E 1, 1, .inr (.inl q.2)))])) := by
  refine HI.of 1 (by decide) (Nat.le_of_ble_eq_true rfl) (fun p e s m below meth c A C hct hdc => ?_)
  refine r_weak (L' := [some (.ref (a 0)), some (.int p0), some (.int p1), some (.ref o), none]) (lSub_s (lSub_s (lSub_s (lSub_s (lSub_n lSub_e))))) ?_
  refine r_aload_n (pc := 0) C (i := 3) dL_tenant_0 rfl rfl ?_
  refine r_iconst (pc := 1) C (v := 0) dL_tenant_1 (by decide) ?_
  refine r_aload_n (pc := 2) C (i := 0) dL_tenant_2 rfl rfl ?_
  refine r_iload_n (pc := 3) C (i := 1) dL_tenant_3 rfl rfl ?_
  refine r_iload_n (pc := 4) C (i := 2) dL_tenant_4 rfl rfl ?_
  obtain ⟨q, hq, hm⟩ := bnd hm
  refine r_callH (Cn := RX9) (pc := 5) C [.int p0, .int p1] hdc (c_X9_tenant E l k a S p0 p1 hlt hq) [0, 1, 2, 3, 4, 5, 6, 7, 8, 9, 10, 11, 12, 13, 14, 15, 16, 17, 18, 19, 20, 21, 22, 23, 24, 25, 26, 27, 28, 29, 30, 31, 32, 33, 34, 35, 36, 37, 38, 39, 40, 41, 42, 43, 44, 45, 46, 47, 48, 49, 50, 51, 52, 53, 54, 55, 56, 57, 58, 59, 60] (hpA E a S [(o, .inl (eC E 1, 1, .inr (.inl g)))]) (by decide) 0 rfl rfl rfl g_L_27 hd_X9_tenant ⟨Nat.le_of_ble_eq_true rfl, Nat.le_of_ble_eq_true rfl⟩ ⟨Nat.le_of_ble_eq_true rfl, Nat.le_of_ble_eq_true rfl⟩ (Nat.le_of_ble_eq_true rfl) rfl dL_tenant_5 (fun cd w1 hx => ?_) (fun r w1 hx => ?_)
  · -- thrown
    obtain ⟨h1, h2, h3⟩ := hx
    rw [if_neg h2] at hm
    obtain ⟨h4, hm⟩ := ifn hm
    cases hm
    refine ⟨wSg E a S ++ [(o, .inl (eC E 1, 1, .inr (.inl g)))], by rw [h3]; exact pwA E a S S [(o, .inl (eC E 1, 1, .inr (.inl g)))], ⟨13, ⟨[], [], ⟨0, 10, 13, 18⟩, "java/util/NoSuchElementException", hct, (fun z hz => nomatch hz), rfl, by decide, C.2.2.2.2.1 _ wm_3_188, by rw [h1, h4]; exact va_tabs rfl rfl (C.2.2.2.2.2.2.1.cast 1 rfl), rfl⟩, fun q9 => ?_⟩⟩
    refine r_astore (pc := 13) C (i := 4) dL_tenant_13 (by decide) rfl ?_
    refine r_iconst (pc := 15) C (v := 1) dL_tenant_15 (by decide) ?_
    exact r_xI (r_ireti (pc := 16) C ⟨rfl, rfl⟩ (Nat.le_of_ble_eq_true rfl) (Nat.le_of_ble_eq_true rfl) dL_tenant_16)
  · -- returned
    obtain ⟨h1, h2, h3⟩ := hx
    rw [if_pos h1] at hm
    cases hm
    subst h2
    refine ⟨wSg E a S ++ [(o, .inl (eC E 1, 1, .inr (.inl g)))], by rw [h3]; exact pwA E a S S [(o, .inl (eC E 1, 1, .inr (.inl g)))], ?_⟩
    refine r_i2l (pc := 8) C dL_tenant_8 ?_
    refine r_last (pc := 9) C 61 rfl (by decide) (w' := (wSg E a S ++ [(o, .inl (eC E 1, 1, .inr (.inl (vp_updL g (0 : Int32).toNatClampNeg q.2.toInt64))))])) rfl dL_tenant_9 ?_
    refine r_goto (pc := 10) C (tgt := 17) dL_tenant_10 rfl ?_
    refine r_iconst (pc := 17) C (v := 0) dL_tenant_17 (by decide) ?_
    exact r_xI (r_ireti (pc := 18) C ⟨rfl, rfl⟩ (Nat.le_of_ble_eq_true rfl) (Nat.le_of_ble_eq_true rfl) dL_tenant_18)
-- ShardGuardLaw.request
theorem dL_request_0 : decode cL_request 0 = .ok (.aload_n 3, 1) := by decide +kernel
theorem dL_request_1 : decode cL_request 1 = .ok (.iconst 0, 1) := by decide +kernel
theorem dL_request_2 : decode cL_request 2 = .ok (.aload_n 0, 1) := by decide +kernel
theorem dL_request_3 : decode cL_request 3 = .ok (.iload_n 1, 1) := by decide +kernel
theorem dL_request_4 : decode cL_request 4 = .ok (.iload_n 2, 1) := by decide +kernel
theorem dL_request_5 : decode cL_request 5 = .ok (.invokevirtual 30, 3) := by decide +kernel
theorem dL_request_8 : decode cL_request 8 = .ok (.i2l, 1) := by decide +kernel
theorem dL_request_9 : decode cL_request 9 = .ok (.lastore, 1) := by decide +kernel
theorem dL_request_10 : decode cL_request 10 = .ok (.goto 7, 3) := by decide +kernel
theorem dL_request_13 : decode cL_request 13 = .ok (.astore 4, 2) := by decide +kernel
theorem dL_request_15 : decode cL_request 15 = .ok (.iconst 1, 1) := by decide +kernel
theorem dL_request_16 : decode cL_request 16 = .ok (.ireturn, 1) := by decide +kernel
theorem dL_request_17 : decode cL_request 17 = .ok (.iconst 0, 1) := by decide +kernel
theorem dL_request_18 : decode cL_request 18 = .ok (.ireturn, 1) := by decide +kernel
def M_L_request (k : Nat) (S : VV × VV × VV × VV × VV × Int32) (g : Nat → Int64) (p0 : Int32) (p1 : Int32) : Option (Int32 × (Nat → Int64)) := (M_X9_request k S p0 p1).bind fun q => if q.1 = 0 then some ((0 : Int32), (vp_updL g (0 : Int32).toNatClampNeg q.2.toInt64)) else if q.1 = 1 then some ((1 : Int32), g) else none
def rm_L_request : Room := { frames := 7, cells := 1, slots := 6, locals := 122 }
theorem hd_X9_request : yX9_request.cls = RX9 ∧ yX9_request.cls ≠ "java/lang/invoke/MethodHandle" ∧ yX9_request.cls ≠ "java/lang/invoke/VarHandle" ∧ (parseMethodDescriptor yX9_request.desc).map (fun d => d.parameters.length) = some 2 := by decide +kernel
theorem g_L_30 : GoodIn GW (wsV RL 30 RX9 yX9_request (wsG yX9_request cX9_request 3 (some .int))) := gw_V wm_4_64 wm_4_65 wm_4_66 wm_1_1 wm_4_67
set_option maxRecDepth 100000 in
set_option maxHeartbeats 4000000 in
theorem c_L_request (E : ENV) (l : Launch) (k : Nat) (a : Nat → Nat) (o : Nat) (S : VV × VV × VV × VV × VV × Int32) (g : Nat → Int64) (p0 : Int32) (p1 : Int32) (hlt : l.stackTraces = false) {q : Int32 × (Nat → Int64)} (hm : M_L_request k S g p0 p1 = some q) : HI E l yL_request cL_request 5 (some .int) [(0, 10, 13, 18)] rm_L_request [.ref (a 0), .int p0, .int p1, .ref o] (wSg E a S ++ [(o, .inl (eC E 1, 1, .inr (.inl g)))]) (fun r w' => r = q.1 ∧ w' = (wSg E a S ++ [(o, .inl (eC E 1, 1, .inr (.inl q.2)))])) := by
  refine HI.of 1 (by decide) (Nat.le_of_ble_eq_true rfl) (fun p e s m below meth c A C hct hdc => ?_)
  refine r_weak (L' := [some (.ref (a 0)), some (.int p0), some (.int p1), some (.ref o), none]) (lSub_s (lSub_s (lSub_s (lSub_s (lSub_n lSub_e))))) ?_
  refine r_aload_n (pc := 0) C (i := 3) dL_request_0 rfl rfl ?_
  refine r_iconst (pc := 1) C (v := 0) dL_request_1 (by decide) ?_
  refine r_aload_n (pc := 2) C (i := 0) dL_request_2 rfl rfl ?_
  refine r_iload_n (pc := 3) C (i := 1) dL_request_3 rfl rfl ?_
  refine r_iload_n (pc := 4) C (i := 2) dL_request_4 rfl rfl ?_
  obtain ⟨q, hq, hm⟩ := bnd hm
  refine r_callH (Cn := RX9) (pc := 5) C [.int p0, .int p1] hdc (c_X9_request E l k a S p0 p1 hlt hq) [0, 1, 2, 3, 4, 5, 6, 7, 8, 9, 10, 11, 12, 13, 14, 15, 16, 17, 18, 19, 20, 21, 22, 23, 24, 25, 26, 27, 28, 29, 30, 31, 32, 33, 34, 35, 36, 37, 38, 39, 40, 41, 42, 43, 44, 45, 46, 47, 48, 49, 50, 51, 52, 53, 54, 55, 56, 57, 58, 59, 60] (hpA E a S [(o, .inl (eC E 1, 1, .inr (.inl g)))]) (by decide) 0 rfl rfl rfl g_L_30 hd_X9_request ⟨Nat.le_of_ble_eq_true rfl, Nat.le_of_ble_eq_true rfl⟩ ⟨Nat.le_of_ble_eq_true rfl, Nat.le_of_ble_eq_true rfl⟩ (Nat.le_of_ble_eq_true rfl) rfl dL_request_5 (fun cd w1 hx => ?_) (fun r w1 hx => ?_)
  · -- thrown
    obtain ⟨h1, h2, h3⟩ := hx
    rw [if_neg h2] at hm
    obtain ⟨h4, hm⟩ := ifn hm
    cases hm
    refine ⟨wSg E a S ++ [(o, .inl (eC E 1, 1, .inr (.inl g)))], by rw [h3]; exact pwA E a S S [(o, .inl (eC E 1, 1, .inr (.inl g)))], ⟨13, ⟨[], [], ⟨0, 10, 13, 18⟩, "java/util/NoSuchElementException", hct, (fun z hz => nomatch hz), rfl, by decide, C.2.2.2.2.1 _ wm_3_188, by rw [h1, h4]; exact va_tabs rfl rfl (C.2.2.2.2.2.2.1.cast 1 rfl), rfl⟩, fun q9 => ?_⟩⟩
    refine r_astore (pc := 13) C (i := 4) dL_request_13 (by decide) rfl ?_
    refine r_iconst (pc := 15) C (v := 1) dL_request_15 (by decide) ?_
    exact r_xI (r_ireti (pc := 16) C ⟨rfl, rfl⟩ (Nat.le_of_ble_eq_true rfl) (Nat.le_of_ble_eq_true rfl) dL_request_16)
  · -- returned
    obtain ⟨h1, h2, h3⟩ := hx
    rw [if_pos h1] at hm
    cases hm
    subst h2
    refine ⟨wSg E a S ++ [(o, .inl (eC E 1, 1, .inr (.inl g)))], by rw [h3]; exact pwA E a S S [(o, .inl (eC E 1, 1, .inr (.inl g)))], ?_⟩
    refine r_i2l (pc := 8) C dL_request_8 ?_
    refine r_last (pc := 9) C 61 rfl (by decide) (w' := (wSg E a S ++ [(o, .inl (eC E 1, 1, .inr (.inl (vp_updL g (0 : Int32).toNatClampNeg q.2.toInt64))))])) rfl dL_request_9 ?_
    refine r_goto (pc := 10) C (tgt := 17) dL_request_10 rfl ?_
    refine r_iconst (pc := 17) C (v := 0) dL_request_17 (by decide) ?_
    exact r_xI (r_ireti (pc := 18) C ⟨rfl, rfl⟩ (Nat.le_of_ble_eq_true rfl) (Nat.le_of_ble_eq_true rfl) dL_request_18)
-- ShardGuardLaw.queued
theorem dL_queued_0 : decode cL_queued 0 = .ok (.aload_n 3, 1) := by decide +kernel
theorem dL_queued_1 : decode cL_queued 1 = .ok (.iconst 0, 1) := by decide +kernel
theorem dL_queued_2 : decode cL_queued 2 = .ok (.aload_n 0, 1) := by decide +kernel
theorem dL_queued_3 : decode cL_queued 3 = .ok (.iload_n 1, 1) := by decide +kernel
theorem dL_queued_4 : decode cL_queued 4 = .ok (.iload_n 2, 1) := by decide +kernel
theorem dL_queued_5 : decode cL_queued 5 = .ok (.invokevirtual 33, 3) := by decide +kernel
theorem dL_queued_8 : decode cL_queued 8 = .ok (.i2l, 1) := by decide +kernel
theorem dL_queued_9 : decode cL_queued 9 = .ok (.lastore, 1) := by decide +kernel
theorem dL_queued_10 : decode cL_queued 10 = .ok (.goto 7, 3) := by decide +kernel
theorem dL_queued_13 : decode cL_queued 13 = .ok (.astore 4, 2) := by decide +kernel
theorem dL_queued_15 : decode cL_queued 15 = .ok (.iconst 1, 1) := by decide +kernel
theorem dL_queued_16 : decode cL_queued 16 = .ok (.ireturn, 1) := by decide +kernel
theorem dL_queued_17 : decode cL_queued 17 = .ok (.iconst 0, 1) := by decide +kernel
theorem dL_queued_18 : decode cL_queued 18 = .ok (.ireturn, 1) := by decide +kernel
def M_L_queued (k : Nat) (S : VV × VV × VV × VV × VV × Int32) (g : Nat → Int64) (p0 : Int32) (p1 : Int32) : Option (Int32 × (Nat → Int64)) := (M_X9_queued k S p0 p1).bind fun q => if q.1 = 0 then some ((0 : Int32), (vp_updL g (0 : Int32).toNatClampNeg q.2.toInt64)) else if q.1 = 1 then some ((1 : Int32), g) else none
def rm_L_queued : Room := { frames := 8, cells := 2, slots := 12, locals := 144 }
theorem hd_X9_queued : yX9_queued.cls = RX9 ∧ yX9_queued.cls ≠ "java/lang/invoke/MethodHandle" ∧ yX9_queued.cls ≠ "java/lang/invoke/VarHandle" ∧ (parseMethodDescriptor yX9_queued.desc).map (fun d => d.parameters.length) = some 2 := by decide +kernel
theorem g_L_33 : GoodIn GW (wsV RL 33 RX9 yX9_queued (wsG yX9_queued cX9_queued 4 (some .int))) := gw_V wm_4_73 wm_4_74 wm_4_75 wm_1_1 wm_4_76
set_option maxRecDepth 100000 in
set_option maxHeartbeats 4000000 in
theorem c_L_queued (E : ENV) (l : Launch) (k : Nat) (a : Nat → Nat) (o : Nat) (S : VV × VV × VV × VV × VV × Int32) (g : Nat → Int64) (p0 : Int32) (p1 : Int32) (hlt : l.stackTraces = false) {q : Int32 × (Nat → Int64)} (hm : M_L_queued k S g p0 p1 = some q) : HI E l yL_queued cL_queued 5 (some .int) [(0, 10, 13, 18)] rm_L_queued [.ref (a 0), .int p0, .int p1, .ref o] (wSg E a S ++ [(o, .inl (eC E 1, 1, .inr (.inl g)))]) (fun r w' => r = q.1 ∧ w' = (wSg E a S ++ [(o, .inl (eC E 1, 1, .inr (.inl q.2)))])) := by
  refine HI.of 1 (by decide) (Nat.le_of_ble_eq_true rfl) (fun p e s m below meth c A C hct hdc => ?_)
  refine r_weak (L' := [some (.ref (a 0)), some (.int p0), some (.int p1), some (.ref o), none]) (lSub_s (lSub_s (lSub_s (lSub_s (lSub_n lSub_e))))) ?_
  refine r_aload_n (pc := 0) C (i := 3) dL_queued_0 rfl rfl ?_
  refine r_iconst (pc := 1) C (v := 0) dL_queued_1 (by decide) ?_
  refine r_aload_n (pc := 2) C (i := 0) dL_queued_2 rfl rfl ?_
  refine r_iload_n (pc := 3) C (i := 1) dL_queued_3 rfl rfl ?_
  refine r_iload_n (pc := 4) C (i := 2) dL_queued_4 rfl rfl ?_
  obtain ⟨q, hq, hm⟩ := bnd hm
  refine r_callH (Cn := RX9) (pc := 5) C [.int p0, .int p1] hdc (c_X9_queued E l k a S p0 p1 hlt hq) [0, 1, 2, 3, 4, 5, 6, 7, 8, 9, 10, 11, 12, 13, 14, 15, 16, 17, 18, 19, 20, 21, 22, 23, 24, 25, 26, 27, 28, 29, 30, 31, 32, 33, 34, 35, 36, 37, 38, 39, 40, 41, 42, 43, 44, 45, 46, 47, 48, 49, 50, 51, 52, 53, 54, 55, 56, 57, 58, 59, 60] (hpA E a S [(o, .inl (eC E 1, 1, .inr (.inl g)))]) (by decide) 0 rfl rfl rfl g_L_33 hd_X9_queued ⟨Nat.le_of_ble_eq_true rfl, Nat.le_of_ble_eq_true rfl⟩ ⟨Nat.le_of_ble_eq_true rfl, Nat.le_of_ble_eq_true rfl⟩ (Nat.le_of_ble_eq_true rfl) rfl dL_queued_5 (fun cd w1 hx => ?_) (fun r w1 hx => ?_)
  · -- thrown
    obtain ⟨h1, h2, h3⟩ := hx
    rw [if_neg h2] at hm
    obtain ⟨h4, hm⟩ := ifn hm
    cases hm
    refine ⟨wSg E a S ++ [(o, .inl (eC E 1, 1, .inr (.inl g)))], by rw [h3]; exact pwA E a S S [(o, .inl (eC E 1, 1, .inr (.inl g)))], ⟨13, ⟨[], [], ⟨0, 10, 13, 18⟩, "java/util/NoSuchElementException", hct, (fun z hz => nomatch hz), rfl, by decide, C.2.2.2.2.1 _ wm_3_188, by rw [h1, h4]; exact va_tabs rfl rfl (C.2.2.2.2.2.2.1.cast 1 rfl), rfl⟩, fun q9 => ?_⟩⟩
    refine r_astore (pc := 13) C (i := 4) dL_queued_13 (by decide) rfl ?_
    refine r_iconst (pc := 15) C (v := 1) dL_queued_15 (by decide) ?_
    exact r_xI (r_ireti (pc := 16) C ⟨rfl, rfl⟩ (Nat.le_of_ble_eq_true rfl) (Nat.le_of_ble_eq_true rfl) dL_queued_16)
  · -- returned
    obtain ⟨h1, h2, h3⟩ := hx
    rw [if_pos h1] at hm
    cases hm
    subst h2
    refine ⟨wSg E a S ++ [(o, .inl (eC E 1, 1, .inr (.inl g)))], by rw [h3]; exact pwA E a S S [(o, .inl (eC E 1, 1, .inr (.inl g)))], ?_⟩
    refine r_i2l (pc := 8) C dL_queued_8 ?_
    refine r_last (pc := 9) C 61 rfl (by decide) (w' := (wSg E a S ++ [(o, .inl (eC E 1, 1, .inr (.inl (vp_updL g (0 : Int32).toNatClampNeg q.2.toInt64))))])) rfl dL_queued_9 ?_
    refine r_goto (pc := 10) C (tgt := 17) dL_queued_10 rfl ?_
    refine r_iconst (pc := 17) C (v := 0) dL_queued_17 (by decide) ?_
    exact r_xI (r_ireti (pc := 18) C ⟨rfl, rfl⟩ (Nat.le_of_ble_eq_true rfl) (Nat.le_of_ble_eq_true rfl) dL_queued_18)
-- ShardGuardLaw.parked
theorem dL_parked_0 : decode cL_parked 0 = .ok (.aload_n 2, 1) := by decide +kernel
theorem dL_parked_1 : decode cL_parked 1 = .ok (.iconst 0, 1) := by decide +kernel
theorem dL_parked_2 : decode cL_parked 2 = .ok (.aload_n 0, 1) := by decide +kernel
theorem dL_parked_3 : decode cL_parked 3 = .ok (.iload_n 1, 1) := by decide +kernel
theorem dL_parked_4 : decode cL_parked 4 = .ok (.invokevirtual 36, 3) := by decide +kernel
theorem dL_parked_7 : decode cL_parked 7 = .ok (.i2l, 1) := by decide +kernel
theorem dL_parked_8 : decode cL_parked 8 = .ok (.lastore, 1) := by decide +kernel
theorem dL_parked_9 : decode cL_parked 9 = .ok (.goto 6, 3) := by decide +kernel
theorem dL_parked_12 : decode cL_parked 12 = .ok (.astore_n 3, 1) := by decide +kernel
theorem dL_parked_13 : decode cL_parked 13 = .ok (.iconst 1, 1) := by decide +kernel
theorem dL_parked_14 : decode cL_parked 14 = .ok (.ireturn, 1) := by decide +kernel
theorem dL_parked_15 : decode cL_parked 15 = .ok (.iconst 0, 1) := by decide +kernel
theorem dL_parked_16 : decode cL_parked 16 = .ok (.ireturn, 1) := by decide +kernel
def M_L_parked (k : Nat) (S : VV × VV × VV × VV × VV × Int32) (g : Nat → Int64) (p0 : Int32) : Option (Int32 × (Nat → Int64)) := (M_X9_parked k S p0).bind fun q => if q.1 = 0 then some ((0 : Int32), (vp_updL g (0 : Int32).toNatClampNeg q.2.toInt64)) else if q.1 = 1 then some ((1 : Int32), g) else none
def rm_L_parked : Room := { frames := 7, cells := 1, slots := 6, locals := 122 }
theorem hd_X9_parked : yX9_parked.cls = RX9 ∧ yX9_parked.cls ≠ "java/lang/invoke/MethodHandle" ∧ yX9_parked.cls ≠ "java/lang/invoke/VarHandle" ∧ (parseMethodDescriptor yX9_parked.desc).map (fun d => d.parameters.length) = some 1 := by decide +kernel
theorem g_L_36 : GoodIn GW (wsV RL 36 RX9 yX9_parked (wsG yX9_parked cX9_parked 3 (some .int))) := gw_V wm_4_85 wm_4_86 wm_4_87 wm_1_1 wm_4_88
set_option maxRecDepth 100000 in
set_option maxHeartbeats 4000000 in
theorem c_L_parked (E : ENV) (l : Launch) (k : Nat) (a : Nat → Nat) (o : Nat) (S : VV × VV × VV × VV × VV × Int32) (g : Nat → Int64) (p0 : Int32) (hlt : l.stackTraces = false) {q : Int32 × (Nat → Int64)} (hm : M_L_parked k S g p0 = some q) : HI E l yL_parked cL_parked 4 (some .int) [(0, 9, 12, 18)] rm_L_parked [.ref (a 0), .int p0, .ref o] (wSg E a S ++ [(o, .inl (eC E 1, 1, .inr (.inl g)))]) (fun r w' => r = q.1 ∧ w' = (wSg E a S ++ [(o, .inl (eC E 1, 1, .inr (.inl q.2)))])) := by
  refine HI.of 1 (by decide) (Nat.le_of_ble_eq_true rfl) (fun p e s m below meth c A C hct hdc => ?_)
  refine r_weak (L' := [some (.ref (a 0)), some (.int p0), some (.ref o), none]) (lSub_s (lSub_s (lSub_s (lSub_n lSub_e)))) ?_
  refine r_aload_n (pc := 0) C (i := 2) dL_parked_0 rfl rfl ?_
  refine r_iconst (pc := 1) C (v := 0) dL_parked_1 (by decide) ?_
  refine r_aload_n (pc := 2) C (i := 0) dL_parked_2 rfl rfl ?_
  refine r_iload_n (pc := 3) C (i := 1) dL_parked_3 rfl rfl ?_
  obtain ⟨q, hq, hm⟩ := bnd hm
  refine r_callH (Cn := RX9) (pc := 4) C [.int p0] hdc (c_X9_parked E l k a S p0 hlt hq) [0, 1, 2, 3, 4, 5, 6, 7, 8, 9, 10, 11, 12, 13, 14, 15, 16, 17, 18, 19, 20, 21, 22, 23, 24, 25, 26, 27, 28, 29, 30, 31, 32, 33, 34, 35, 36, 37, 38, 39, 40, 41, 42, 43, 44, 45, 46, 47, 48, 49, 50, 51, 52, 53, 54, 55, 56, 57, 58, 59, 60] (hpA E a S [(o, .inl (eC E 1, 1, .inr (.inl g)))]) (by decide) 0 rfl rfl rfl g_L_36 hd_X9_parked ⟨Nat.le_of_ble_eq_true rfl, Nat.le_of_ble_eq_true rfl⟩ ⟨Nat.le_of_ble_eq_true rfl, Nat.le_of_ble_eq_true rfl⟩ (Nat.le_of_ble_eq_true rfl) rfl dL_parked_4 (fun cd w1 hx => ?_) (fun r w1 hx => ?_)
  · -- thrown
    obtain ⟨h1, h2, h3⟩ := hx
    rw [if_neg h2] at hm
    obtain ⟨h4, hm⟩ := ifn hm
    cases hm
    refine ⟨wSg E a S ++ [(o, .inl (eC E 1, 1, .inr (.inl g)))], by rw [h3]; exact pwA E a S S [(o, .inl (eC E 1, 1, .inr (.inl g)))], ⟨12, ⟨[], [], ⟨0, 9, 12, 18⟩, "java/util/NoSuchElementException", hct, (fun z hz => nomatch hz), rfl, by decide, C.2.2.2.2.1 _ wm_3_188, by rw [h1, h4]; exact va_tabs rfl rfl (C.2.2.2.2.2.2.1.cast 1 rfl), rfl⟩, fun q9 => ?_⟩⟩
    refine r_astore_n (pc := 12) C (i := 3) dL_parked_12 rfl (by decide) rfl ?_
    refine r_iconst (pc := 13) C (v := 1) dL_parked_13 (by decide) ?_
    exact r_xI (r_ireti (pc := 14) C ⟨rfl, rfl⟩ (Nat.le_of_ble_eq_true rfl) (Nat.le_of_ble_eq_true rfl) dL_parked_14)
  · -- returned
    obtain ⟨h1, h2, h3⟩ := hx
    rw [if_pos h1] at hm
    cases hm
    subst h2
    refine ⟨wSg E a S ++ [(o, .inl (eC E 1, 1, .inr (.inl g)))], by rw [h3]; exact pwA E a S S [(o, .inl (eC E 1, 1, .inr (.inl g)))], ?_⟩
    refine r_i2l (pc := 7) C dL_parked_7 ?_
    refine r_last (pc := 8) C 61 rfl (by decide) (w' := (wSg E a S ++ [(o, .inl (eC E 1, 1, .inr (.inl (vp_updL g (0 : Int32).toNatClampNeg q.2.toInt64))))])) rfl dL_parked_8 ?_
    refine r_goto (pc := 9) C (tgt := 15) dL_parked_9 rfl ?_
    refine r_iconst (pc := 15) C (v := 0) dL_parked_15 (by decide) ?_
    exact r_xI (r_ireti (pc := 16) C ⟨rfl, rfl⟩ (Nat.le_of_ble_eq_true rfl) (Nat.le_of_ble_eq_true rfl) dL_parked_16)
-- ShardGuardLaw.killsOf
theorem dL_killsOf_0 : decode cL_killsOf 0 = .ok (.aload_n 3, 1) := by decide +kernel
theorem dL_killsOf_1 : decode cL_killsOf 1 = .ok (.iconst 0, 1) := by decide +kernel
theorem dL_killsOf_2 : decode cL_killsOf 2 = .ok (.aload_n 0, 1) := by decide +kernel
theorem dL_killsOf_3 : decode cL_killsOf 3 = .ok (.iload_n 1, 1) := by decide +kernel
theorem dL_killsOf_4 : decode cL_killsOf 4 = .ok (.iload_n 2, 1) := by decide +kernel
theorem dL_killsOf_5 : decode cL_killsOf 5 = .ok (.invokevirtual 39, 3) := by decide +kernel
theorem dL_killsOf_8 : decode cL_killsOf 8 = .ok (.i2l, 1) := by decide +kernel
theorem dL_killsOf_9 : decode cL_killsOf 9 = .ok (.lastore, 1) := by decide +kernel
theorem dL_killsOf_10 : decode cL_killsOf 10 = .ok (.goto 7, 3) := by decide +kernel
theorem dL_killsOf_13 : decode cL_killsOf 13 = .ok (.astore 4, 2) := by decide +kernel
theorem dL_killsOf_15 : decode cL_killsOf 15 = .ok (.iconst 1, 1) := by decide +kernel
theorem dL_killsOf_16 : decode cL_killsOf 16 = .ok (.ireturn, 1) := by decide +kernel
theorem dL_killsOf_17 : decode cL_killsOf 17 = .ok (.iconst 0, 1) := by decide +kernel
theorem dL_killsOf_18 : decode cL_killsOf 18 = .ok (.ireturn, 1) := by decide +kernel
def M_L_killsOf (k : Nat) (S : VV × VV × VV × VV × VV × Int32) (g : Nat → Int64) (p0 : Int32) (p1 : Int32) : Option (Int32 × (Nat → Int64)) := (M_X9_killsOf k S p0 p1).bind fun q => if q.1 = 0 then some ((0 : Int32), (vp_updL g (0 : Int32).toNatClampNeg q.2.toInt64)) else if q.1 = 1 then some ((1 : Int32), g) else none
def rm_L_killsOf : Room := { frames := 8, cells := 2, slots := 12, locals := 143 }
theorem hd_X9_killsOf : yX9_killsOf.cls = RX9 ∧ yX9_killsOf.cls ≠ "java/lang/invoke/MethodHandle" ∧ yX9_killsOf.cls ≠ "java/lang/invoke/VarHandle" ∧ (parseMethodDescriptor yX9_killsOf.desc).map (fun d => d.parameters.length) = some 2 := by decide +kernel
theorem g_L_39 : GoodIn GW (wsV RL 39 RX9 yX9_killsOf (wsG yX9_killsOf cX9_killsOf 3 (some .int))) := gw_V wm_4_93 wm_4_94 wm_4_95 wm_1_1 wm_4_96
set_option maxRecDepth 100000 in
set_option maxHeartbeats 4000000 in
theorem c_L_killsOf (E : ENV) (l : Launch) (k : Nat) (a : Nat → Nat) (o : Nat) (S : VV × VV × VV × VV × VV × Int32) (g : Nat → Int64) (p0 : Int32) (p1 : Int32) (hlt : l.stackTraces = false) {q : Int32 × (Nat → Int64)} (hm : M_L_killsOf k S g p0 p1 = some q) : HI E l yL_killsOf cL_killsOf 5 (some .int) [(0, 10, 13, 18)] rm_L_killsOf [.ref (a 0), .int p0, .int p1, .ref o] (wSg E a S ++ [(o, .inl (eC E 1, 1, .inr (.inl g)))]) (fun r w' => r = q.1 ∧ w' = (wSg E a S ++ [(o, .inl (eC E 1, 1, .inr (.inl q.2)))])) := by
  refine HI.of 1 (by decide) (Nat.le_of_ble_eq_true rfl) (fun p e s m below meth c A C hct hdc => ?_)
  refine r_weak (L' := [some (.ref (a 0)), some (.int p0), some (.int p1), some (.ref o), none]) (lSub_s (lSub_s (lSub_s (lSub_s (lSub_n lSub_e))))) ?_
  refine r_aload_n (pc := 0) C (i := 3) dL_killsOf_0 rfl rfl ?_
  refine r_iconst (pc := 1) C (v := 0) dL_killsOf_1 (by decide) ?_
  refine r_aload_n (pc := 2) C (i := 0) dL_killsOf_2 rfl rfl ?_
  refine r_iload_n (pc := 3) C (i := 1) dL_killsOf_3 rfl rfl ?_
  refine r_iload_n (pc := 4) C (i := 2) dL_killsOf_4 rfl rfl ?_
  obtain ⟨q, hq, hm⟩ := bnd hm
  refine r_callH (Cn := RX9) (pc := 5) C [.int p0, .int p1] hdc (c_X9_killsOf E l k a S p0 p1 hlt hq) [0, 1, 2, 3, 4, 5, 6, 7, 8, 9, 10, 11, 12, 13, 14, 15, 16, 17, 18, 19, 20, 21, 22, 23, 24, 25, 26, 27, 28, 29, 30, 31, 32, 33, 34, 35, 36, 37, 38, 39, 40, 41, 42, 43, 44, 45, 46, 47, 48, 49, 50, 51, 52, 53, 54, 55, 56, 57, 58, 59, 60] (hpA E a S [(o, .inl (eC E 1, 1, .inr (.inl g)))]) (by decide) 0 rfl rfl rfl g_L_39 hd_X9_killsOf ⟨Nat.le_of_ble_eq_true rfl, Nat.le_of_ble_eq_true rfl⟩ ⟨Nat.le_of_ble_eq_true rfl, Nat.le_of_ble_eq_true rfl⟩ (Nat.le_of_ble_eq_true rfl) rfl dL_killsOf_5 (fun cd w1 hx => ?_) (fun r w1 hx => ?_)
  · -- thrown
    obtain ⟨h1, h2, h3⟩ := hx
    rw [if_neg h2] at hm
    obtain ⟨h4, hm⟩ := ifn hm
    cases hm
    refine ⟨wSg E a S ++ [(o, .inl (eC E 1, 1, .inr (.inl g)))], by rw [h3]; exact pwA E a S S [(o, .inl (eC E 1, 1, .inr (.inl g)))], ⟨13, ⟨[], [], ⟨0, 10, 13, 18⟩, "java/util/NoSuchElementException", hct, (fun z hz => nomatch hz), rfl, by decide, C.2.2.2.2.1 _ wm_3_188, by rw [h1, h4]; exact va_tabs rfl rfl (C.2.2.2.2.2.2.1.cast 1 rfl), rfl⟩, fun q9 => ?_⟩⟩
    refine r_astore (pc := 13) C (i := 4) dL_killsOf_13 (by decide) rfl ?_
    refine r_iconst (pc := 15) C (v := 1) dL_killsOf_15 (by decide) ?_
    exact r_xI (r_ireti (pc := 16) C ⟨rfl, rfl⟩ (Nat.le_of_ble_eq_true rfl) (Nat.le_of_ble_eq_true rfl) dL_killsOf_16)
  · -- returned
    obtain ⟨h1, h2, h3⟩ := hx
    rw [if_pos h1] at hm
    cases hm
    subst h2
    refine ⟨wSg E a S ++ [(o, .inl (eC E 1, 1, .inr (.inl g)))], by rw [h3]; exact pwA E a S S [(o, .inl (eC E 1, 1, .inr (.inl g)))], ?_⟩
    refine r_i2l (pc := 8) C dL_killsOf_8 ?_
    refine r_last (pc := 9) C 61 rfl (by decide) (w' := (wSg E a S ++ [(o, .inl (eC E 1, 1, .inr (.inl (vp_updL g (0 : Int32).toNatClampNeg q.2.toInt64))))])) rfl dL_killsOf_9 ?_
    refine r_goto (pc := 10) C (tgt := 17) dL_killsOf_10 rfl ?_
    refine r_iconst (pc := 17) C (v := 0) dL_killsOf_17 (by decide) ?_
    exact r_xI (r_ireti (pc := 18) C ⟨rfl, rfl⟩ (Nat.le_of_ble_eq_true rfl) (Nat.le_of_ble_eq_true rfl) dL_killsOf_18)
-- ShardGuardLaw.overlap
theorem dL_overlap_0 : decode cL_overlap 0 = .ok (.aload_n 3, 1) := by decide +kernel
theorem dL_overlap_1 : decode cL_overlap 1 = .ok (.iconst 0, 1) := by decide +kernel
theorem dL_overlap_2 : decode cL_overlap 2 = .ok (.aload_n 0, 1) := by decide +kernel
theorem dL_overlap_3 : decode cL_overlap 3 = .ok (.iload_n 1, 1) := by decide +kernel
theorem dL_overlap_4 : decode cL_overlap 4 = .ok (.iload_n 2, 1) := by decide +kernel
theorem dL_overlap_5 : decode cL_overlap 5 = .ok (.invokevirtual 42, 3) := by decide +kernel
theorem dL_overlap_8 : decode cL_overlap 8 = .ok (.i2l, 1) := by decide +kernel
theorem dL_overlap_9 : decode cL_overlap 9 = .ok (.lastore, 1) := by decide +kernel
theorem dL_overlap_10 : decode cL_overlap 10 = .ok (.goto 7, 3) := by decide +kernel
theorem dL_overlap_13 : decode cL_overlap 13 = .ok (.astore 4, 2) := by decide +kernel
theorem dL_overlap_15 : decode cL_overlap 15 = .ok (.iconst 1, 1) := by decide +kernel
theorem dL_overlap_16 : decode cL_overlap 16 = .ok (.ireturn, 1) := by decide +kernel
theorem dL_overlap_17 : decode cL_overlap 17 = .ok (.iconst 0, 1) := by decide +kernel
theorem dL_overlap_18 : decode cL_overlap 18 = .ok (.ireturn, 1) := by decide +kernel
def M_L_overlap (k : Nat) (S : VV × VV × VV × VV × VV × Int32) (g : Nat → Int64) (p0 : Int32) (p1 : Int32) : Option (Int32 × (Nat → Int64)) := (M_X9_overlap k S p0 p1).bind fun q => if q.1 = 0 then some ((0 : Int32), (vp_updL g (0 : Int32).toNatClampNeg q.2.toInt64)) else if q.1 = 1 then some ((1 : Int32), g) else none
def rm_L_overlap : Room := { frames := 8, cells := 2, slots := 12, locals := 143 }
theorem hd_X9_overlap : yX9_overlap.cls = RX9 ∧ yX9_overlap.cls ≠ "java/lang/invoke/MethodHandle" ∧ yX9_overlap.cls ≠ "java/lang/invoke/VarHandle" ∧ (parseMethodDescriptor yX9_overlap.desc).map (fun d => d.parameters.length) = some 2 := by decide +kernel
theorem g_L_42 : GoodIn GW (wsV RL 42 RX9 yX9_overlap (wsG yX9_overlap cX9_overlap 3 (some .int))) := gw_V wm_4_100 wm_4_101 wm_4_102 wm_1_1 wm_4_103
set_option maxRecDepth 100000 in
set_option maxHeartbeats 4000000 in
theorem c_L_overlap (E : ENV) (l : Launch) (k : Nat) (a : Nat → Nat) (o : Nat) (S : VV × VV × VV × VV × VV × Int32) (g : Nat → Int64) (p0 : Int32) (p1 : Int32) (hlt : l.stackTraces = false) {q : Int32 × (Nat → Int64)} (hm : M_L_overlap k S g p0 p1 = some q) : HI E l yL_overlap cL_overlap 5 (some .int) [(0, 10, 13, 18)] rm_L_overlap [.ref (a 0), .int p0, .int p1, .ref o] (wSg E a S ++ [(o, .inl (eC E 1, 1, .inr (.inl g)))]) (fun r w' => r = q.1 ∧ w' = (wSg E a S ++ [(o, .inl (eC E 1, 1, .inr (.inl q.2)))])) := by
  refine HI.of 1 (by decide) (Nat.le_of_ble_eq_true rfl) (fun p e s m below meth c A C hct hdc => ?_)
  refine r_weak (L' := [some (.ref (a 0)), some (.int p0), some (.int p1), some (.ref o), none]) (lSub_s (lSub_s (lSub_s (lSub_s (lSub_n lSub_e))))) ?_
  refine r_aload_n (pc := 0) C (i := 3) dL_overlap_0 rfl rfl ?_
  refine r_iconst (pc := 1) C (v := 0) dL_overlap_1 (by decide) ?_
  refine r_aload_n (pc := 2) C (i := 0) dL_overlap_2 rfl rfl ?_
  refine r_iload_n (pc := 3) C (i := 1) dL_overlap_3 rfl rfl ?_
  refine r_iload_n (pc := 4) C (i := 2) dL_overlap_4 rfl rfl ?_
  obtain ⟨q, hq, hm⟩ := bnd hm
  refine r_callH (Cn := RX9) (pc := 5) C [.int p0, .int p1] hdc (c_X9_overlap E l k a S p0 p1 hlt hq) [0, 1, 2, 3, 4, 5, 6, 7, 8, 9, 10, 11, 12, 13, 14, 15, 16, 17, 18, 19, 20, 21, 22, 23, 24, 25, 26, 27, 28, 29, 30, 31, 32, 33, 34, 35, 36, 37, 38, 39, 40, 41, 42, 43, 44, 45, 46, 47, 48, 49, 50, 51, 52, 53, 54, 55, 56, 57, 58, 59, 60] (hpA E a S [(o, .inl (eC E 1, 1, .inr (.inl g)))]) (by decide) 0 rfl rfl rfl g_L_42 hd_X9_overlap ⟨Nat.le_of_ble_eq_true rfl, Nat.le_of_ble_eq_true rfl⟩ ⟨Nat.le_of_ble_eq_true rfl, Nat.le_of_ble_eq_true rfl⟩ (Nat.le_of_ble_eq_true rfl) rfl dL_overlap_5 (fun cd w1 hx => ?_) (fun r w1 hx => ?_)
  · -- thrown
    obtain ⟨h1, h2, h3⟩ := hx
    rw [if_neg h2] at hm
    obtain ⟨h4, hm⟩ := ifn hm
    cases hm
    refine ⟨wSg E a S ++ [(o, .inl (eC E 1, 1, .inr (.inl g)))], by rw [h3]; exact pwA E a S S [(o, .inl (eC E 1, 1, .inr (.inl g)))], ⟨13, ⟨[], [], ⟨0, 10, 13, 18⟩, "java/util/NoSuchElementException", hct, (fun z hz => nomatch hz), rfl, by decide, C.2.2.2.2.1 _ wm_3_188, by rw [h1, h4]; exact va_tabs rfl rfl (C.2.2.2.2.2.2.1.cast 1 rfl), rfl⟩, fun q9 => ?_⟩⟩
    refine r_astore (pc := 13) C (i := 4) dL_overlap_13 (by decide) rfl ?_
    refine r_iconst (pc := 15) C (v := 1) dL_overlap_15 (by decide) ?_
    exact r_xI (r_ireti (pc := 16) C ⟨rfl, rfl⟩ (Nat.le_of_ble_eq_true rfl) (Nat.le_of_ble_eq_true rfl) dL_overlap_16)
  · -- returned
    obtain ⟨h1, h2, h3⟩ := hx
    rw [if_pos h1] at hm
    cases hm
    subst h2
    refine ⟨wSg E a S ++ [(o, .inl (eC E 1, 1, .inr (.inl g)))], by rw [h3]; exact pwA E a S S [(o, .inl (eC E 1, 1, .inr (.inl g)))], ?_⟩
    refine r_i2l (pc := 8) C dL_overlap_8 ?_
    refine r_last (pc := 9) C 61 rfl (by decide) (w' := (wSg E a S ++ [(o, .inl (eC E 1, 1, .inr (.inl (vp_updL g (0 : Int32).toNatClampNeg q.2.toInt64))))])) rfl dL_overlap_9 ?_
    refine r_goto (pc := 10) C (tgt := 17) dL_overlap_10 rfl ?_
    refine r_iconst (pc := 17) C (v := 0) dL_overlap_17 (by decide) ?_
    exact r_xI (r_ireti (pc := 18) C ⟨rfl, rfl⟩ (Nat.le_of_ble_eq_true rfl) (Nat.le_of_ble_eq_true rfl) dL_overlap_18)
-- ShardGuardLaw.covered
theorem dL_covered_0 : decode cL_covered 0 = .ok (.aload_n 2, 1) := by decide +kernel
theorem dL_covered_1 : decode cL_covered 1 = .ok (.iconst 0, 1) := by decide +kernel
theorem dL_covered_2 : decode cL_covered 2 = .ok (.aload_n 0, 1) := by decide +kernel
theorem dL_covered_3 : decode cL_covered 3 = .ok (.iload_n 1, 1) := by decide +kernel
theorem dL_covered_4 : decode cL_covered 4 = .ok (.invokevirtual 45, 3) := by decide +kernel
theorem dL_covered_7 : decode cL_covered 7 = .ok (.i2l, 1) := by decide +kernel
theorem dL_covered_8 : decode cL_covered 8 = .ok (.lastore, 1) := by decide +kernel
theorem dL_covered_9 : decode cL_covered 9 = .ok (.goto 6, 3) := by decide +kernel
theorem dL_covered_12 : decode cL_covered 12 = .ok (.astore_n 3, 1) := by decide +kernel
theorem dL_covered_13 : decode cL_covered 13 = .ok (.iconst 1, 1) := by decide +kernel
theorem dL_covered_14 : decode cL_covered 14 = .ok (.ireturn, 1) := by decide +kernel
theorem dL_covered_15 : decode cL_covered 15 = .ok (.iconst 0, 1) := by decide +kernel
theorem dL_covered_16 : decode cL_covered 16 = .ok (.ireturn, 1) := by decide +kernel
def M_L_covered (k : Nat) (S : VV × VV × VV × VV × VV × Int32) (g : Nat → Int64) (p0 : Int32) : Option (Int32 × (Nat → Int64)) := (M_X9_covered k S p0).bind fun q => if q.1 = 0 then some ((0 : Int32), (vp_updL g (0 : Int32).toNatClampNeg q.2.toInt64)) else if q.1 = 1 then some ((1 : Int32), g) else none
def rm_L_covered : Room := { frames := 8, cells := 1, slots := 6, locals := 145 }
theorem hd_X9_covered : yX9_covered.cls = RX9 ∧ yX9_covered.cls ≠ "java/lang/invoke/MethodHandle" ∧ yX9_covered.cls ≠ "java/lang/invoke/VarHandle" ∧ (parseMethodDescriptor yX9_covered.desc).map (fun d => d.parameters.length) = some 1 := by decide +kernel
theorem g_L_45 : GoodIn GW (wsV RL 45 RX9 yX9_covered (wsG yX9_covered cX9_covered 5 (some .int))) := gw_V wm_4_107 wm_4_108 wm_4_109 wm_1_1 wm_4_110
set_option maxRecDepth 100000 in
set_option maxHeartbeats 4000000 in
theorem c_L_covered (E : ENV) (l : Launch) (k : Nat) (a : Nat → Nat) (o : Nat) (S : VV × VV × VV × VV × VV × Int32) (g : Nat → Int64) (p0 : Int32) (hlt : l.stackTraces = false) {q : Int32 × (Nat → Int64)} (hm : M_L_covered k S g p0 = some q) : HI E l yL_covered cL_covered 4 (some .int) [(0, 9, 12, 18)] rm_L_covered [.ref (a 0), .int p0, .ref o] (wSg E a S ++ [(o, .inl (eC E 1, 1, .inr (.inl g)))]) (fun r w' => r = q.1 ∧ w' = (wSg E a S ++ [(o, .inl (eC E 1, 1, .inr (.inl q.2)))])) := by
  refine HI.of 1 (by decide) (Nat.le_of_ble_eq_true rfl) (fun p e s m below meth c A C hct hdc => ?_)
  refine r_weak (L' := [some (.ref (a 0)), some (.int p0), some (.ref o), none]) (lSub_s (lSub_s (lSub_s (lSub_n lSub_e)))) ?_
  refine r_aload_n (pc := 0) C (i := 2) dL_covered_0 rfl rfl ?_
  refine r_iconst (pc := 1) C (v := 0) dL_covered_1 (by decide) ?_
  refine r_aload_n (pc := 2) C (i := 0) dL_covered_2 rfl rfl ?_
  refine r_iload_n (pc := 3) C (i := 1) dL_covered_3 rfl rfl ?_
  obtain ⟨q, hq, hm⟩ := bnd hm
  refine r_callH (Cn := RX9) (pc := 4) C [.int p0] hdc (c_X9_covered E l k a S p0 hlt hq) [0, 1, 2, 3, 4, 5, 6, 7, 8, 9, 10, 11, 12, 13, 14, 15, 16, 17, 18, 19, 20, 21, 22, 23, 24, 25, 26, 27, 28, 29, 30, 31, 32, 33, 34, 35, 36, 37, 38, 39, 40, 41, 42, 43, 44, 45, 46, 47, 48, 49, 50, 51, 52, 53, 54, 55, 56, 57, 58, 59, 60] (hpA E a S [(o, .inl (eC E 1, 1, .inr (.inl g)))]) (by decide) 0 rfl rfl rfl g_L_45 hd_X9_covered ⟨Nat.le_of_ble_eq_true rfl, Nat.le_of_ble_eq_true rfl⟩ ⟨Nat.le_of_ble_eq_true rfl, Nat.le_of_ble_eq_true rfl⟩ (Nat.le_of_ble_eq_true rfl) rfl dL_covered_4 (fun cd w1 hx => ?_) (fun r w1 hx => ?_)
  · -- thrown
    obtain ⟨h1, h2, h3⟩ := hx
    rw [if_neg h2] at hm
    obtain ⟨h4, hm⟩ := ifn hm
    cases hm
    refine ⟨wSg E a S ++ [(o, .inl (eC E 1, 1, .inr (.inl g)))], by rw [h3]; exact pwA E a S S [(o, .inl (eC E 1, 1, .inr (.inl g)))], ⟨12, ⟨[], [], ⟨0, 9, 12, 18⟩, "java/util/NoSuchElementException", hct, (fun z hz => nomatch hz), rfl, by decide, C.2.2.2.2.1 _ wm_3_188, by rw [h1, h4]; exact va_tabs rfl rfl (C.2.2.2.2.2.2.1.cast 1 rfl), rfl⟩, fun q9 => ?_⟩⟩
    refine r_astore_n (pc := 12) C (i := 3) dL_covered_12 rfl (by decide) rfl ?_
    refine r_iconst (pc := 13) C (v := 1) dL_covered_13 (by decide) ?_
    exact r_xI (r_ireti (pc := 14) C ⟨rfl, rfl⟩ (Nat.le_of_ble_eq_true rfl) (Nat.le_of_ble_eq_true rfl) dL_covered_14)
  · -- returned
    obtain ⟨h1, h2, h3⟩ := hx
    rw [if_pos h1] at hm
    cases hm
    subst h2
    refine ⟨wSg E a S ++ [(o, .inl (eC E 1, 1, .inr (.inl g)))], by rw [h3]; exact pwA E a S S [(o, .inl (eC E 1, 1, .inr (.inl g)))], ?_⟩
    refine r_i2l (pc := 7) C dL_covered_7 ?_
    refine r_last (pc := 8) C 61 rfl (by decide) (w' := (wSg E a S ++ [(o, .inl (eC E 1, 1, .inr (.inl (vp_updL g (0 : Int32).toNatClampNeg q.2.toInt64))))])) rfl dL_covered_8 ?_
    refine r_goto (pc := 9) C (tgt := 15) dL_covered_9 rfl ?_
    refine r_iconst (pc := 15) C (v := 0) dL_covered_15 (by decide) ?_
    exact r_xI (r_ireti (pc := 16) C ⟨rfl, rfl⟩ (Nat.le_of_ble_eq_true rfl) (Nat.le_of_ble_eq_true rfl) dL_covered_16)
-- ShardGuardLaw.bestShard
theorem dL_bestShard_0 : decode cL_bestShard 0 = .ok (.aload_n 2, 1) := by decide +kernel
theorem dL_bestShard_1 : decode cL_bestShard 1 = .ok (.iconst 0, 1) := by decide +kernel
theorem dL_bestShard_2 : decode cL_bestShard 2 = .ok (.aload_n 0, 1) := by decide +kernel
theorem dL_bestShard_3 : decode cL_bestShard 3 = .ok (.iload_n 1, 1) := by decide +kernel
theorem dL_bestShard_4 : decode cL_bestShard 4 = .ok (.invokevirtual 48, 3) := by decide +kernel
theorem dL_bestShard_7 : decode cL_bestShard 7 = .ok (.i2l, 1) := by decide +kernel
theorem dL_bestShard_8 : decode cL_bestShard 8 = .ok (.lastore, 1) := by decide +kernel
theorem dL_bestShard_9 : decode cL_bestShard 9 = .ok (.goto 6, 3) := by decide +kernel
theorem dL_bestShard_12 : decode cL_bestShard 12 = .ok (.astore_n 3, 1) := by decide +kernel
theorem dL_bestShard_13 : decode cL_bestShard 13 = .ok (.iconst 1, 1) := by decide +kernel
theorem dL_bestShard_14 : decode cL_bestShard 14 = .ok (.ireturn, 1) := by decide +kernel
theorem dL_bestShard_15 : decode cL_bestShard 15 = .ok (.iconst 0, 1) := by decide +kernel
theorem dL_bestShard_16 : decode cL_bestShard 16 = .ok (.ireturn, 1) := by decide +kernel
def M_L_bestShard (k : Nat) (S : VV × VV × VV × VV × VV × Int32) (g : Nat → Int64) (p0 : Int32) : Option (Int32 × (Nat → Int64)) := (M_X9_bestShard k S p0).bind fun q => if q.1 = 0 then some ((0 : Int32), (vp_updL g (0 : Int32).toNatClampNeg q.2.toInt64)) else if q.1 = 1 then some ((1 : Int32), g) else none
def rm_L_bestShard : Room := { frames := 8, cells := 1, slots := 6, locals := 142 }
theorem hd_X9_bestShard : yX9_bestShard.cls = RX9 ∧ yX9_bestShard.cls ≠ "java/lang/invoke/MethodHandle" ∧ yX9_bestShard.cls ≠ "java/lang/invoke/VarHandle" ∧ (parseMethodDescriptor yX9_bestShard.desc).map (fun d => d.parameters.length) = some 1 := by decide +kernel
theorem g_L_48 : GoodIn GW (wsV RL 48 RX9 yX9_bestShard (wsG yX9_bestShard cX9_bestShard 2 (some .int))) := gw_V wm_4_114 wm_4_115 wm_4_116 wm_1_1 wm_4_117
set_option maxRecDepth 100000 in
set_option maxHeartbeats 4000000 in
theorem c_L_bestShard (E : ENV) (l : Launch) (k : Nat) (a : Nat → Nat) (o : Nat) (S : VV × VV × VV × VV × VV × Int32) (g : Nat → Int64) (p0 : Int32) (hlt : l.stackTraces = false) {q : Int32 × (Nat → Int64)} (hm : M_L_bestShard k S g p0 = some q) : HI E l yL_bestShard cL_bestShard 4 (some .int) [(0, 9, 12, 18)] rm_L_bestShard [.ref (a 0), .int p0, .ref o] (wSg E a S ++ [(o, .inl (eC E 1, 1, .inr (.inl g)))]) (fun r w' => r = q.1 ∧ w' = (wSg E a S ++ [(o, .inl (eC E 1, 1, .inr (.inl q.2)))])) := by
  refine HI.of 1 (by decide) (Nat.le_of_ble_eq_true rfl) (fun p e s m below meth c A C hct hdc => ?_)
  refine r_weak (L' := [some (.ref (a 0)), some (.int p0), some (.ref o), none]) (lSub_s (lSub_s (lSub_s (lSub_n lSub_e)))) ?_
  refine r_aload_n (pc := 0) C (i := 2) dL_bestShard_0 rfl rfl ?_
  refine r_iconst (pc := 1) C (v := 0) dL_bestShard_1 (by decide) ?_
  refine r_aload_n (pc := 2) C (i := 0) dL_bestShard_2 rfl rfl ?_
  refine r_iload_n (pc := 3) C (i := 1) dL_bestShard_3 rfl rfl ?_
  obtain ⟨q, hq, hm⟩ := bnd hm
  refine r_callH (Cn := RX9) (pc := 4) C [.int p0] hdc (c_X9_bestShard E l k a S p0 hlt hq) [0, 1, 2, 3, 4, 5, 6, 7, 8, 9, 10, 11, 12, 13, 14, 15, 16, 17, 18, 19, 20, 21, 22, 23, 24, 25, 26, 27, 28, 29, 30, 31, 32, 33, 34, 35, 36, 37, 38, 39, 40, 41, 42, 43, 44, 45, 46, 47, 48, 49, 50, 51, 52, 53, 54, 55, 56, 57, 58, 59, 60] (hpA E a S [(o, .inl (eC E 1, 1, .inr (.inl g)))]) (by decide) 0 rfl rfl rfl g_L_48 hd_X9_bestShard ⟨Nat.le_of_ble_eq_true rfl, Nat.le_of_ble_eq_true rfl⟩ ⟨Nat.le_of_ble_eq_true rfl, Nat.le_of_ble_eq_true rfl⟩ (Nat.le_of_ble_eq_true rfl) rfl dL_bestShard_4 (fun cd w1 hx => ?_) (fun r w1 hx => ?_)
  · -- thrown
    obtain ⟨h1, h2, h3⟩ := hx
    rw [if_neg h2] at hm
    obtain ⟨h4, hm⟩ := ifn hm
    cases hm
    refine ⟨wSg E a S ++ [(o, .inl (eC E 1, 1, .inr (.inl g)))], by rw [h3]; exact pwA E a S S [(o, .inl (eC E 1, 1, .inr (.inl g)))], ⟨12, ⟨[], [], ⟨0, 9, 12, 18⟩, "java/util/NoSuchElementException", hct, (fun z hz => nomatch hz), rfl, by decide, C.2.2.2.2.1 _ wm_3_188, by rw [h1, h4]; exact va_tabs rfl rfl (C.2.2.2.2.2.2.1.cast 1 rfl), rfl⟩, fun q9 => ?_⟩⟩
    refine r_astore_n (pc := 12) C (i := 3) dL_bestShard_12 rfl (by decide) rfl ?_
    refine r_iconst (pc := 13) C (v := 1) dL_bestShard_13 (by decide) ?_
    exact r_xI (r_ireti (pc := 14) C ⟨rfl, rfl⟩ (Nat.le_of_ble_eq_true rfl) (Nat.le_of_ble_eq_true rfl) dL_bestShard_14)
  · -- returned
    obtain ⟨h1, h2, h3⟩ := hx
    rw [if_pos h1] at hm
    cases hm
    subst h2
    refine ⟨wSg E a S ++ [(o, .inl (eC E 1, 1, .inr (.inl g)))], by rw [h3]; exact pwA E a S S [(o, .inl (eC E 1, 1, .inr (.inl g)))], ?_⟩
    refine r_i2l (pc := 7) C dL_bestShard_7 ?_
    refine r_last (pc := 8) C 61 rfl (by decide) (w' := (wSg E a S ++ [(o, .inl (eC E 1, 1, .inr (.inl (vp_updL g (0 : Int32).toNatClampNeg q.2.toInt64))))])) rfl dL_bestShard_8 ?_
    refine r_goto (pc := 9) C (tgt := 15) dL_bestShard_9 rfl ?_
    refine r_iconst (pc := 15) C (v := 0) dL_bestShard_15 (by decide) ?_
    exact r_xI (r_ireti (pc := 16) C ⟨rfl, rfl⟩ (Nat.le_of_ble_eq_true rfl) (Nat.le_of_ble_eq_true rfl) dL_bestShard_16)
-- ShardGuardLaw.drawn
theorem dL_drawn_0 : decode cL_drawn 0 = .ok (.aload_n 3, 1) := by decide +kernel
theorem dL_drawn_1 : decode cL_drawn 1 = .ok (.iconst 0, 1) := by decide +kernel
theorem dL_drawn_2 : decode cL_drawn 2 = .ok (.aload_n 0, 1) := by decide +kernel
theorem dL_drawn_3 : decode cL_drawn 3 = .ok (.iload_n 1, 1) := by decide +kernel
theorem dL_drawn_4 : decode cL_drawn 4 = .ok (.iload_n 2, 1) := by decide +kernel
theorem dL_drawn_5 : decode cL_drawn 5 = .ok (.invokevirtual 51, 3) := by decide +kernel
theorem dL_drawn_8 : decode cL_drawn 8 = .ok (.i2l, 1) := by decide +kernel
theorem dL_drawn_9 : decode cL_drawn 9 = .ok (.lastore, 1) := by decide +kernel
theorem dL_drawn_10 : decode cL_drawn 10 = .ok (.goto 11, 3) := by decide +kernel
theorem dL_drawn_13 : decode cL_drawn 13 = .ok (.astore 4, 2) := by decide +kernel
theorem dL_drawn_15 : decode cL_drawn 15 = .ok (.iconst 1, 1) := by decide +kernel
theorem dL_drawn_16 : decode cL_drawn 16 = .ok (.ireturn, 1) := by decide +kernel
theorem dL_drawn_17 : decode cL_drawn 17 = .ok (.astore 4, 2) := by decide +kernel
theorem dL_drawn_19 : decode cL_drawn 19 = .ok (.iconst 2, 1) := by decide +kernel
theorem dL_drawn_20 : decode cL_drawn 20 = .ok (.ireturn, 1) := by decide +kernel
theorem dL_drawn_21 : decode cL_drawn 21 = .ok (.iconst 0, 1) := by decide +kernel
theorem dL_drawn_22 : decode cL_drawn 22 = .ok (.ireturn, 1) := by decide +kernel
def M_L_drawn (k : Nat) (S : VV × VV × VV × VV × VV × Int32) (g : Nat → Int64) (p0 : Int32) (p1 : Int32) : Option (Int32 × (VV × VV × VV × VV × VV × Int32) × (Nat → Int64)) := (M_X9_drawn k S p0 p1).bind fun q => if q.1 = 0 then some ((0 : Int32), q.2.2, (vp_updL g (0 : Int32).toNatClampNeg q.2.1.toInt64)) else if q.1 = 1 then some ((1 : Int32), q.2.2, g) else if q.1 = 2 then some ((2 : Int32), q.2.2, g) else none
def rm_L_drawn : Room := { frames := 8, cells := 2, slots := 12, locals := 165 }
theorem hd_X9_drawn : yX9_drawn.cls = RX9 ∧ yX9_drawn.cls ≠ "java/lang/invoke/MethodHandle" ∧ yX9_drawn.cls ≠ "java/lang/invoke/VarHandle" ∧ (parseMethodDescriptor yX9_drawn.desc).map (fun d => d.parameters.length) = some 2 := by decide +kernel
theorem g_L_51 : GoodIn GW (wsV RL 51 RX9 yX9_drawn (wsG yX9_drawn cX9_drawn 3 (some .int))) := gw_V wm_4_129 wm_4_130 wm_4_131 wm_1_1 wm_4_132
set_option maxRecDepth 100000 in
set_option maxHeartbeats 4000000 in
theorem c_L_drawn (E : ENV) (l : Launch) (k : Nat) (a : Nat → Nat) (o : Nat) (S : VV × VV × VV × VV × VV × Int32) (g : Nat → Int64) (p0 : Int32) (p1 : Int32) (hlt : l.stackTraces = false) {q : Int32 × (VV × VV × VV × VV × VV × Int32) × (Nat → Int64)} (hm : M_L_drawn k S g p0 p1 = some q) : HI E l yL_drawn cL_drawn 5 (some .int) [(0, 10, 13, 18), (0, 10, 17, 13)] rm_L_drawn [.ref (a 0), .int p0, .int p1, .ref o] (wSg E a S ++ [(o, .inl (eC E 1, 1, .inr (.inl g)))]) (fun r w' => r = q.1 ∧ w' = (wSg E a q.2.1 ++ [(o, .inl (eC E 1, 1, .inr (.inl q.2.2)))])) := by
  refine HI.of 1 (by decide) (Nat.le_of_ble_eq_true rfl) (fun p e s m below meth c A C hct hdc => ?_)
  refine r_weak (L' := [some (.ref (a 0)), some (.int p0), some (.int p1), some (.ref o), none]) (lSub_s (lSub_s (lSub_s (lSub_s (lSub_n lSub_e))))) ?_
  refine r_aload_n (pc := 0) C (i := 3) dL_drawn_0 rfl rfl ?_
  refine r_iconst (pc := 1) C (v := 0) dL_drawn_1 (by decide) ?_
  refine r_aload_n (pc := 2) C (i := 0) dL_drawn_2 rfl rfl ?_
  refine r_iload_n (pc := 3) C (i := 1) dL_drawn_3 rfl rfl ?_
  refine r_iload_n (pc := 4) C (i := 2) dL_drawn_4 rfl rfl ?_
  obtain ⟨q, hq, hm⟩ := bnd hm
  refine r_callH (Cn := RX9) (pc := 5) C [.int p0, .int p1] hdc (c_X9_drawn E l k a S p0 p1 hlt hq) [0, 1, 2, 3, 4, 5, 6, 7, 8, 9, 10, 11, 12, 13, 14, 15, 16, 17, 18, 19, 20, 21, 22, 23, 24, 25, 26, 27, 28, 29, 30, 31, 32, 33, 34, 35, 36, 37, 38, 39, 40, 41, 42, 43, 44, 45, 46, 47, 48, 49, 50, 51, 52, 53, 54, 55, 56, 57, 58, 59, 60] (hpA E a S [(o, .inl (eC E 1, 1, .inr (.inl g)))]) (by decide) 0 rfl rfl rfl g_L_51 hd_X9_drawn ⟨Nat.le_of_ble_eq_true rfl, Nat.le_of_ble_eq_true rfl⟩ ⟨Nat.le_of_ble_eq_true rfl, Nat.le_of_ble_eq_true rfl⟩ (Nat.le_of_ble_eq_true rfl) rfl dL_drawn_5 (fun cd w1 hx => ?_) (fun r w1 hx => ?_)
  · -- thrown
    obtain ⟨h1, h2, h3⟩ := hx
    rw [if_neg h2] at hm
    by_cases h4 : q.1 = 1
    · rw [if_pos h4] at hm
      cases hm
      refine ⟨wSg E a q.2.2 ++ [(o, .inl (eC E 1, 1, .inr (.inl g)))], by rw [h3]; exact pwA E a S q.2.2 [(o, .inl (eC E 1, 1, .inr (.inl g)))], ⟨13, ⟨[], [⟨0, 10, 17, 13⟩], ⟨0, 10, 13, 18⟩, "java/util/NoSuchElementException", hct, (fun z hz => nomatch hz), rfl, by decide, C.2.2.2.2.1 _ wm_3_188, by rw [h1, h4]; exact va_tabs rfl rfl (C.2.2.2.2.2.2.1.cast 1 rfl), rfl⟩, fun q9 => ?_⟩⟩
      refine r_astore (pc := 13) C (i := 4) dL_drawn_13 (by decide) rfl ?_
      refine r_iconst (pc := 15) C (v := 1) dL_drawn_15 (by decide) ?_
      exact r_xI (r_ireti (pc := 16) C ⟨rfl, rfl⟩ (Nat.le_of_ble_eq_true rfl) (Nat.le_of_ble_eq_true rfl) dL_drawn_16)
    rw [if_neg h4] at hm
    obtain ⟨h4, hm⟩ := ifn hm
    cases hm
    refine ⟨wSg E a q.2.2 ++ [(o, .inl (eC E 1, 1, .inr (.inl g)))], by rw [h3]; exact pwA E a S q.2.2 [(o, .inl (eC E 1, 1, .inr (.inl g)))], ⟨17, ⟨[⟨0, 10, 13, 18⟩], [], ⟨0, 10, 17, 13⟩, "java/lang/IllegalArgumentException", hct, (fun z hz => by rcases List.mem_singleton.mp hz with rfl; exact Or.inr ⟨by decide, "java/util/NoSuchElementException", C.2.2.2.2.1 _ wm_3_188, by rw [h1, h4]; exact hdc.2⟩), rfl, by decide, C.2.2.2.2.1 _ wm_2_181, by rw [h1, h4]; exact va_tabs rfl rfl (C.2.2.2.2.2.2.1.cast 0 rfl), rfl⟩, fun q9 => ?_⟩⟩
    refine r_astore (pc := 17) C (i := 4) dL_drawn_17 (by decide) rfl ?_
    refine r_iconst (pc := 19) C (v := 2) dL_drawn_19 (by decide) ?_
    exact r_xI (r_ireti (pc := 20) C ⟨rfl, rfl⟩ (Nat.le_of_ble_eq_true rfl) (Nat.le_of_ble_eq_true rfl) dL_drawn_20)
  · -- returned
    obtain ⟨h1, h2, h3⟩ := hx
    rw [if_pos h1] at hm
    cases hm
    subst h2
    refine ⟨wSg E a q.2.2 ++ [(o, .inl (eC E 1, 1, .inr (.inl g)))], by rw [h3]; exact pwA E a S q.2.2 [(o, .inl (eC E 1, 1, .inr (.inl g)))], ?_⟩
    refine r_i2l (pc := 8) C dL_drawn_8 ?_
    refine r_last (pc := 9) C 61 rfl (by decide) (w' := (wSg E a q.2.2 ++ [(o, .inl (eC E 1, 1, .inr (.inl (vp_updL g (0 : Int32).toNatClampNeg q.2.1.toInt64))))])) rfl dL_drawn_9 ?_
    refine r_goto (pc := 10) C (tgt := 21) dL_drawn_10 rfl ?_
    refine r_iconst (pc := 21) C (v := 0) dL_drawn_21 (by decide) ?_
    exact r_xI (r_ireti (pc := 22) C ⟨rfl, rfl⟩ (Nat.le_of_ble_eq_true rfl) (Nat.le_of_ble_eq_true rfl) dL_drawn_22)
end WALKS
