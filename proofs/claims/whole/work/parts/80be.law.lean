section WALKS
variable {E : ENV} {p : Program} {l : Launch} {e : Env} {s : State} {m : MethodId} {args : Array Value} {below : List Frame} {meth : Method} {c : Code} {A : Nat → Prop} {bs : Nat}
theorem hd_X10_poisonKills : yX10_poisonKills.cls = RX10 ∧ yX10_poisonKills.cls ≠ "java/lang/invoke/MethodHandle" ∧ yX10_poisonKills.cls ≠ "java/lang/invoke/VarHandle" ∧ (parseMethodDescriptor yX10_poisonKills.desc).map (fun d => d.parameters.length) = some 1 := by decide +kernel
theorem g_L_165 : GoodIn GW (wsV RL 165 RX10 yX10_poisonKills (wsG yX10_poisonKills cX10_poisonKills 2 (some .int))) := gw_V wm_7_31 wm_7_32 wm_7_33 wm_1_9 wm_7_34
theorem hd_L_poisonKills : yL_poisonKills.cls = RL ∧ yL_poisonKills.cls ≠ "java/lang/invoke/MethodHandle" ∧ yL_poisonKills.cls ≠ "java/lang/invoke/VarHandle" ∧ (parseMethodDescriptor yL_poisonKills.desc).map (fun d => d.parameters.length) = some 3 := by decide +kernel
theorem gL_163 : GoodIn GW (va_wsS RL 163 yL_poisonKills (Cond.codeWith yL_poisonKills cL_poisonKills 4 (some .int) [(0, 9, 12, 18)] :: GW)) := gw_SW wm_4_137 wm_4_138 wm_1_0 wm_4_139
-- the law from 1141
theorem dL_law_1141 : decode cL_law 1141 = .ok (.aload_n 1, 1) := by decide +kernel
theorem dL_law_1142 : decode cL_law 1142 = .ok (.aload_n 0, 1) := by decide +kernel
theorem dL_law_1143 : decode cL_law 1143 = .ok (.iload 4, 2) := by decide +kernel
theorem dL_law_1145 : decode cL_law 1145 = .ok (.iconst 1, 1) := by decide +kernel
theorem dL_law_1146 : decode cL_law 1146 = .ok (.iadd, 1) := by decide +kernel
theorem dL_law_1147 : decode cL_law 1147 = .ok (.iaload, 1) := by decide +kernel
theorem dL_law_1148 : decode cL_law 1148 = .ok (.aload_n 3, 1) := by decide +kernel
theorem dL_law_1149 : decode cL_law 1149 = .ok (.invokestatic 163, 3) := by decide +kernel
theorem dL_law_1152 : decode cL_law 1152 = .ok (.istore 5, 2) := by decide +kernel
theorem dL_law_1154 : decode cL_law 1154 = .ok (.aload_n 2, 1) := by decide +kernel
theorem dL_law_1155 : decode cL_law 1155 = .ok (.aload_n 0, 1) := by decide +kernel
theorem dL_law_1156 : decode cL_law 1156 = .ok (.iload 4, 2) := by decide +kernel
theorem dL_law_1158 : decode cL_law 1158 = .ok (.iconst 1, 1) := by decide +kernel
theorem dL_law_1159 : decode cL_law 1159 = .ok (.iadd, 1) := by decide +kernel
theorem dL_law_1160 : decode cL_law 1160 = .ok (.iaload, 1) := by decide +kernel
theorem dL_law_1161 : decode cL_law 1161 = .ok (.invokevirtual 165, 3) := by decide +kernel
theorem dL_law_1164 : decode cL_law 1164 = .ok (.istore 6, 2) := by decide +kernel
theorem dL_law_1166 : decode cL_law 1166 = .ok (.aload_n 2, 1) := by decide +kernel
theorem dL_law_1167 : decode cL_law 1167 = .ok (.invokevirtual 106, 3) := by decide +kernel
theorem dL_law_1170 : decode cL_law 1170 = .ok (.iload 5, 2) := by decide +kernel
theorem dL_law_1172 : decode cL_law 1172 = .ok (.if_icmp .eq 5, 3) := by decide +kernel
theorem dL_law_1175 : decode cL_law 1175 = .ok (.iconst 0, 1) := by decide +kernel
theorem dL_law_1176 : decode cL_law 1176 = .ok (.ireturn, 1) := by decide +kernel
theorem dL_law_1177 : decode cL_law 1177 = .ok (.iload 5, 2) := by decide +kernel
theorem dL_law_1179 : decode cL_law 1179 = .ok (.ifCond .ne 15, 3) := by decide +kernel
theorem dL_law_1182 : decode cL_law 1182 = .ok (.aload_n 3, 1) := by decide +kernel
theorem dL_law_1183 : decode cL_law 1183 = .ok (.iconst 0, 1) := by decide +kernel
theorem dL_law_1184 : decode cL_law 1184 = .ok (.laload, 1) := by decide +kernel
theorem dL_law_1185 : decode cL_law 1185 = .ok (.iload 6, 2) := by decide +kernel
theorem dL_law_1187 : decode cL_law 1187 = .ok (.i2l, 1) := by decide +kernel
theorem dL_law_1188 : decode cL_law 1188 = .ok (.lcmp, 1) := by decide +kernel
theorem dL_law_1189 : decode cL_law 1189 = .ok (.ifCond .eq 5, 3) := by decide +kernel
theorem dL_law_1192 : decode cL_law 1192 = .ok (.iconst 0, 1) := by decide +kernel
theorem dL_law_1193 : decode cL_law 1193 = .ok (.ireturn, 1) := by decide +kernel
theorem dL_law_1194 : decode cL_law 1194 = .ok (.goto 842, 3) := by decide +kernel
def M_L_1141_1141 (k Ls : Nat) (xs : Nat → Int32) (x4 : Int32) (S : VV × VV × VV × VV × VV × Int32) (T : Nat → Nat → Int32) (U : Nat → Int64) (V : Nat × Int32 × Int32 × (Nat → VV)) : Option ((VV × VV × VV × VV × VV × Int32) × (Nat → Nat → Int32) × (Nat → Int64) × (Nat × Int32 × Int32 × (Nat → VV))) := (if inb (x4 + (1 : Int32)) Ls = true then (M_L_poisonKills k S U (xs (x4 + (1 : Int32)).toNatClampNeg)).bind fun q2 => (if inb (x4 + (1 : Int32)) Ls = true then (M_X10_poisonKills k T (xs (x4 + (1 : Int32)).toNatClampNeg)).bind fun q4 => (M_X10_thrown k q4.2).bind fun q5 => if q5 = q2.1 then (if q2.1 = 0 then ((if inb (0 : Int32) 1 = true then if (lg_cmp (q2.2.2 (0 : Int32).toNatClampNeg) (q4.1.toInt64)) = 0 then (some (q2.2.1, q4.2, q2.2.2, V)) else (none) else none)) else (some (q2.2.1, q4.2, q2.2.2, V))) else (none) else none) else none)
set_option maxRecDepth 100000 in
set_option maxHeartbeats 4000000 in
theorem N_L_1141_1141 (C : CX E p l s m #[Value.ref bs] meth c cL_law 9 RL ret A) (a : Nat → Nat) (b : Nat → Nat) (c0 : Nat → Nat) (k Ls : Nat) (xs : Nat → Int32) (hX : va_X bs Ls xs s s.heap) (hbl : bs < s.heap.size) (hbA : ¬ A bs) (hlt : l.stackTraces = false) (hdc : DC s) (cN sN : Nat) (hcN : cN + 20 ≤ 601024 ∧ sN + 1600 ≤ 7293034) (fa : Nat → Nat → Nat) :
    ∀ (x4 : Int32) (S : VV × VV × VV × VV × VV × Int32) (T : Nat → Nat → Int32) (U : Nat → Int64) (V : Nat × Int32 × Int32 × (Nat → VV)) (q : (VV × VV × VV × VV × VV × Int32) × (Nat → Nat → Int32) × (Nat → Int64) × (Nat × Int32 × Int32 × (Nat → VV))), M_L_1141_1141 k Ls xs x4 S T U V = some q → (∀ fa' : Nat → Nat → Nat, WW E p l e room_1 s m #[Value.ref bs] below meth c A (cN + 20) (sN + 1600) (lw_Z below #[Value.ref bs] s) (wSg E a q.1 ++ wMd E b q.2.1 ++ wLo E c0 q.2.2.1 ++ wHi E a fa' q.2.2.2) 9 [some (.ref bs), some (.ref (a 0)), some (.ref (b 0)), some (.ref (c0 0)), some (.int x4), none, none, none, none] 2036 []) →
      WW E p l e room_1 s m #[Value.ref bs] below meth c A (cN + 0) (sN + 0) (lw_Z below #[Value.ref bs] s) (wSg E a S ++ wMd E b T ++ wLo E c0 U ++ wHi E a fa V) 9 [some (.ref bs), some (.ref (a 0)), some (.ref (b 0)), some (.ref (c0 0)), some (.int x4), none, none, none, none] 1141 [] := by
  intro x4 S T U V q  h hq
  unfold M_L_1141_1141 at h
  refine r_aload_n (pc := 1141) C (i := 1) dL_law_1141 rfl rfl ?_
  refine r_aload_n (pc := 1142) C (i := 0) dL_law_1142 rfl rfl ?_
  refine r_iload (pc := 1143) C (i := 4) dL_law_1143 rfl ?_
  refine r_iconst (pc := 1145) C (v := 1) dL_law_1145 (by decide) ?_
  refine r_iadd (pc := 1146) C dL_law_1146 ?_
  obtain ⟨hi1, h⟩ := ifn h
  refine r_sld (pc := 1147) C hX hbl hbA hi1 dL_law_1147 ?_
  refine r_aload_n (pc := 1148) C (i := 3) dL_law_1148 rfl rfl ?_
  obtain ⟨q2, hq2, h⟩ := bnd h
  refine r_callSH (pc := 1149) C [.ref (a 0), .int (xs (x4 + (1 : Int32)).toNatClampNeg), .ref (c0 0)] hdc (c_L_poisonKills E l k a (c0 0) S U (xs (x4 + (1 : Int32)).toNatClampNeg) hlt hq2) [0, 1, 2, 3, 4, 5, 6, 7, 8, 9, 10, 11, 12, 13, 14, 15, 16, 17, 18, 19, 20, 21, 22, 23, 24, 25, 26, 27, 28, 29, 30, 31, 32, 33, 34, 35, 36, 37, 38, 39, 40, 41, 42, 43, 44, 45, 46, 47, 48, 49, 50, 51, 52, 53, 54, 55, 56, 57, 58, 59, 60, 74] (hps_hi (List.append_assoc _ _ _).symm (hpL1 E a b c0 fa S T U V)) (by decide) gL_163 hd_L_poisonKills.2 ⟨Nat.le_of_ble_eq_true rfl, Nat.le_of_ble_eq_true rfl⟩ ⟨by have h1 : room_1.cells = 601024 := rfl; have h2 := hcN.1; simp only [Nat.le_refl, rm_L_poisonKills]; omega, by have h1 : room_1.slots = 7293034 := rfl; have h2 := hcN.2; simp only [Nat.le_refl, rm_L_poisonKills]; omega⟩ (Nat.le_of_ble_eq_true rfl) rfl dL_law_1149 (fun r w1 hw1 => ?_)
  obtain ⟨hr1, hw1⟩ := hw1
  subst hr1 hw1
  refine ⟨(wSg E a q2.2.1 ++ wMd E b T ++ wLo E c0 q2.2.2 ++ wHi E a fa V), putW_hi (List.append_assoc _ _ _).symm (List.append_assoc _ _ _).symm (hpL1 E a b c0 fa S T U V) rfl (pwL1 E a b c0 fa S T U V q2.2.1 q2.2.2), ?_⟩
  refine r_istore (pc := 1152) C (i := 5) dL_law_1152 (by decide) rfl ?_
  refine r_aload_n (pc := 1154) C (i := 2) dL_law_1154 rfl rfl ?_
  refine r_aload_n (pc := 1155) C (i := 0) dL_law_1155 rfl rfl ?_
  refine r_iload (pc := 1156) C (i := 4) dL_law_1156 rfl ?_
  refine r_iconst (pc := 1158) C (v := 1) dL_law_1158 (by decide) ?_
  refine r_iadd (pc := 1159) C dL_law_1159 ?_
  obtain ⟨hi3, h⟩ := ifn h
  refine r_sld (pc := 1160) C hX hbl hbA hi3 dL_law_1160 ?_
  obtain ⟨q4, hq4, h⟩ := bnd h
  refine r_callV_CI (Cn := RX10) (pc := 1161) C [.int (xs (x4 + (1 : Int32)).toNatClampNeg)] (c_X10_poisonKills E l k b T (xs (x4 + (1 : Int32)).toNatClampNeg) hq4) [61, 62, 63, 64, 65, 66, 67, 68, 69, 70, 71, 72, 73] (hps_hi (List.append_assoc _ _ _).symm (hp_L_204_1 E a b c0 fa q2.2.1 T q2.2.2 V)) (by decide) 0 rfl rfl rfl g_L_165 hd_X10_poisonKills ⟨Nat.le_of_ble_eq_true rfl, Nat.le_of_ble_eq_true rfl⟩ ⟨by have h1 : room_1.cells = 601024 := rfl; have h2 := hcN.1; simp only [Nat.le_refl, rm_L_poisonKills, rm_X10_poisonKills]; omega, by have h1 : room_1.slots = 7293034 := rfl; have h2 := hcN.2; simp only [Nat.le_refl, rm_L_poisonKills, rm_X10_poisonKills]; omega⟩ (Nat.le_of_ble_eq_true rfl) rfl dL_law_1161 (fun r w1 hw1 => ?_)
  obtain ⟨hr1, hw1⟩ := hw1
  subst hr1 hw1
  refine ⟨(wSg E a q2.2.1 ++ wMd E b q4.2 ++ wLo E c0 q2.2.2 ++ wHi E a fa V), by exact putW_hi (List.append_assoc _ _ _).symm (List.append_assoc _ _ _).symm (hp_L_204_1 E a b c0 fa q2.2.1 T q2.2.2 V) rfl (pw_L_204_1 E a b c0 fa q2.2.1 T q2.2.2 V q4.2), ?_⟩
  refine r_istore (pc := 1164) C (i := 6) dL_law_1164 (by decide) rfl ?_
  refine r_aload_n (pc := 1166) C (i := 2) dL_law_1166 rfl rfl ?_
  obtain ⟨q5, hq5, h⟩ := bnd h
  refine r_callVp_CI (Cn := RX10) (pc := 1167) C [] (c_X10_thrown E l k b q4.2 hq5) [61, 62, 63, 64, 65, 66, 67, 68, 69, 70, 71, 72, 73] (hps_hi (List.append_assoc _ _ _).symm (hp_L_204_1 E a b c0 fa q2.2.1 q4.2 q2.2.2 V)) (by decide) 0 rfl rfl rfl g_L_106 hd_X10_thrown ⟨Nat.le_of_ble_eq_true rfl, Nat.le_of_ble_eq_true rfl⟩ ⟨by have h1 : room_1.cells = 601024 := rfl; have h2 := hcN.1; simp only [Nat.le_refl, rm_L_poisonKills, rm_X10_poisonKills, rm_X10_thrown]; omega, by have h1 : room_1.slots = 7293034 := rfl; have h2 := hcN.2; simp only [Nat.le_refl, rm_L_poisonKills, rm_X10_poisonKills, rm_X10_thrown]; omega⟩ (Nat.le_of_ble_eq_true rfl) rfl dL_law_1167 (fun r hr => ?_)
  have hr := hr.symm
  subst hr
  refine r_iload (pc := 1170) C (i := 5) dL_law_1170 rfl ?_
  refine r_icmp_eq (pc := 1172) C (tgt := 1177) dL_law_1172 rfl (fun c6 => ?_) (fun c6 => ?_)
  · rw [if_pos c6] at h
    refine r_iload (pc := 1177) C (i := 5) dL_law_1177 rfl ?_
    refine r_if_ne (pc := 1179) C (tgt := 1194) dL_law_1179 rfl (fun c7 => ?_) (fun c7 => ?_)
    · rw [if_neg c7] at h
      refine r_goto (pc := 1194) C (tgt := 2036) dL_law_1194 rfl ?_
      cases h
      refine r_widen (k1 := cN + 20) (n1 := sN + 1600) (by simp only [Nat.le_refl, rm_L_poisonKills, rm_X10_poisonKills, rm_X10_thrown]; omega) (by simp only [Nat.le_refl, rm_L_poisonKills, rm_X10_poisonKills, rm_X10_thrown]; omega) ?_
      refine r_weak (lSub_s (lSub_s (lSub_s (lSub_s (lSub_s (lSub_n (lSub_n (lSub_n (lSub_n lSub_e))))))))) ?_
      exact hq fa
    · rw [if_pos c7] at h
      refine r_aload_n (pc := 1182) C (i := 3) dL_law_1182 rfl rfl ?_
      refine r_iconst (pc := 1183) C (v := 0) dL_law_1183 (by decide) ?_
      obtain ⟨hi8, h⟩ := ifn h
      refine r_lald (pc := 1184) C 74 rfl hi8 dL_law_1184 ?_
      refine r_iload (pc := 1185) C (i := 6) dL_law_1185 rfl ?_
      refine r_i2l (pc := 1187) C dL_law_1187 ?_
      refine r_lcmp (pc := 1188) C dL_law_1188 ?_
      refine r_if_eq (pc := 1189) C (tgt := 1194) dL_law_1189 rfl (fun c9 => ?_) (fun c9 => ?_)
      · rw [if_pos c9] at h
        refine r_goto (pc := 1194) C (tgt := 2036) dL_law_1194 rfl ?_
        cases h
        refine r_widen (k1 := cN + 20) (n1 := sN + 1600) (by simp only [Nat.le_refl, rm_L_poisonKills, rm_X10_poisonKills, rm_X10_thrown]; omega) (by simp only [Nat.le_refl, rm_L_poisonKills, rm_X10_poisonKills, rm_X10_thrown]; omega) ?_
        refine r_weak (lSub_s (lSub_s (lSub_s (lSub_s (lSub_s (lSub_n (lSub_n (lSub_n (lSub_n lSub_e))))))))) ?_
        exact hq fa
      · rw [if_neg c9] at h
        refine r_iconst (pc := 1192) C (v := 0) dL_law_1192 (by decide) ?_
        cases h
  · rw [if_neg c6] at h
    refine r_iconst (pc := 1175) C (v := 0) dL_law_1175 (by decide) ?_
    cases h
theorem hd_X10_poisonHarm : yX10_poisonHarm.cls = RX10 ∧ yX10_poisonHarm.cls ≠ "java/lang/invoke/MethodHandle" ∧ yX10_poisonHarm.cls ≠ "java/lang/invoke/VarHandle" ∧ (parseMethodDescriptor yX10_poisonHarm.desc).map (fun d => d.parameters.length) = some 1 := by decide +kernel
theorem g_L_168 : GoodIn GW (wsV RL 168 RX10 yX10_poisonHarm (wsG yX10_poisonHarm cX10_poisonHarm 3 (some .int))) := gw_V wm_7_107 wm_7_108 wm_7_109 wm_1_9 wm_7_110
theorem hd_L_poisonHarm : yL_poisonHarm.cls = RL ∧ yL_poisonHarm.cls ≠ "java/lang/invoke/MethodHandle" ∧ yL_poisonHarm.cls ≠ "java/lang/invoke/VarHandle" ∧ (parseMethodDescriptor yL_poisonHarm.desc).map (fun d => d.parameters.length) = some 3 := by decide +kernel
theorem gL_166 : GoodIn GW (va_wsS RL 166 yL_poisonHarm (Cond.codeWith yL_poisonHarm cL_poisonHarm 4 (some .int) [(0, 9, 12, 18)] :: GW)) := gw_SW wm_4_221 wm_4_222 wm_1_0 wm_4_223
-- the law from 1197
theorem dL_law_1197 : decode cL_law 1197 = .ok (.aload_n 1, 1) := by decide +kernel
theorem dL_law_1198 : decode cL_law 1198 = .ok (.aload_n 0, 1) := by decide +kernel
theorem dL_law_1199 : decode cL_law 1199 = .ok (.iload 4, 2) := by decide +kernel
theorem dL_law_1201 : decode cL_law 1201 = .ok (.iconst 1, 1) := by decide +kernel
theorem dL_law_1202 : decode cL_law 1202 = .ok (.iadd, 1) := by decide +kernel
theorem dL_law_1203 : decode cL_law 1203 = .ok (.iaload, 1) := by decide +kernel
theorem dL_law_1204 : decode cL_law 1204 = .ok (.aload_n 3, 1) := by decide +kernel
theorem dL_law_1205 : decode cL_law 1205 = .ok (.invokestatic 166, 3) := by decide +kernel
theorem dL_law_1208 : decode cL_law 1208 = .ok (.istore 5, 2) := by decide +kernel
theorem dL_law_1210 : decode cL_law 1210 = .ok (.aload_n 2, 1) := by decide +kernel
theorem dL_law_1211 : decode cL_law 1211 = .ok (.aload_n 0, 1) := by decide +kernel
theorem dL_law_1212 : decode cL_law 1212 = .ok (.iload 4, 2) := by decide +kernel
theorem dL_law_1214 : decode cL_law 1214 = .ok (.iconst 1, 1) := by decide +kernel
theorem dL_law_1215 : decode cL_law 1215 = .ok (.iadd, 1) := by decide +kernel
theorem dL_law_1216 : decode cL_law 1216 = .ok (.iaload, 1) := by decide +kernel
theorem dL_law_1217 : decode cL_law 1217 = .ok (.invokevirtual 168, 3) := by decide +kernel
theorem dL_law_1220 : decode cL_law 1220 = .ok (.istore 6, 2) := by decide +kernel
theorem dL_law_1222 : decode cL_law 1222 = .ok (.aload_n 2, 1) := by decide +kernel
theorem dL_law_1223 : decode cL_law 1223 = .ok (.invokevirtual 106, 3) := by decide +kernel
theorem dL_law_1226 : decode cL_law 1226 = .ok (.iload 5, 2) := by decide +kernel
theorem dL_law_1228 : decode cL_law 1228 = .ok (.if_icmp .eq 5, 3) := by decide +kernel
theorem dL_law_1231 : decode cL_law 1231 = .ok (.iconst 0, 1) := by decide +kernel
theorem dL_law_1232 : decode cL_law 1232 = .ok (.ireturn, 1) := by decide +kernel
theorem dL_law_1233 : decode cL_law 1233 = .ok (.iload 5, 2) := by decide +kernel
theorem dL_law_1235 : decode cL_law 1235 = .ok (.ifCond .ne 15, 3) := by decide +kernel
theorem dL_law_1238 : decode cL_law 1238 = .ok (.aload_n 3, 1) := by decide +kernel
theorem dL_law_1239 : decode cL_law 1239 = .ok (.iconst 0, 1) := by decide +kernel
theorem dL_law_1240 : decode cL_law 1240 = .ok (.laload, 1) := by decide +kernel
theorem dL_law_1241 : decode cL_law 1241 = .ok (.iload 6, 2) := by decide +kernel
theorem dL_law_1243 : decode cL_law 1243 = .ok (.i2l, 1) := by decide +kernel
theorem dL_law_1244 : decode cL_law 1244 = .ok (.lcmp, 1) := by decide +kernel
theorem dL_law_1245 : decode cL_law 1245 = .ok (.ifCond .eq 5, 3) := by decide +kernel
theorem dL_law_1248 : decode cL_law 1248 = .ok (.iconst 0, 1) := by decide +kernel
theorem dL_law_1249 : decode cL_law 1249 = .ok (.ireturn, 1) := by decide +kernel
theorem dL_law_1250 : decode cL_law 1250 = .ok (.goto 786, 3) := by decide +kernel
def M_L_1197_1197 (k Ls : Nat) (xs : Nat → Int32) (x4 : Int32) (S : VV × VV × VV × VV × VV × Int32) (T : Nat → Nat → Int32) (U : Nat → Int64) (V : Nat × Int32 × Int32 × (Nat → VV)) : Option ((VV × VV × VV × VV × VV × Int32) × (Nat → Nat → Int32) × (Nat → Int64) × (Nat × Int32 × Int32 × (Nat → VV))) := (if inb (x4 + (1 : Int32)) Ls = true then (M_L_poisonHarm k S U (xs (x4 + (1 : Int32)).toNatClampNeg)).bind fun q2 => (if inb (x4 + (1 : Int32)) Ls = true then (M_X10_poisonHarm k T (xs (x4 + (1 : Int32)).toNatClampNeg)).bind fun q4 => (M_X10_thrown k q4.2).bind fun q5 => if q5 = q2.1 then (if q2.1 = 0 then ((if inb (0 : Int32) 1 = true then if (lg_cmp (q2.2.2 (0 : Int32).toNatClampNeg) (q4.1.toInt64)) = 0 then (some (q2.2.1, q4.2, q2.2.2, V)) else (none) else none)) else (some (q2.2.1, q4.2, q2.2.2, V))) else (none) else none) else none)
set_option maxRecDepth 100000 in
set_option maxHeartbeats 4000000 in
theorem N_L_1197_1197 (C : CX E p l s m #[Value.ref bs] meth c cL_law 9 RL ret A) (a : Nat → Nat) (b : Nat → Nat) (c0 : Nat → Nat) (k Ls : Nat) (xs : Nat → Int32) (hX : va_X bs Ls xs s s.heap) (hbl : bs < s.heap.size) (hbA : ¬ A bs) (hlt : l.stackTraces = false) (hdc : DC s) (cN sN : Nat) (hcN : cN + 20 ≤ 601024 ∧ sN + 1600 ≤ 7293034) (fa : Nat → Nat → Nat) :
    ∀ (x4 : Int32) (S : VV × VV × VV × VV × VV × Int32) (T : Nat → Nat → Int32) (U : Nat → Int64) (V : Nat × Int32 × Int32 × (Nat → VV)) (q : (VV × VV × VV × VV × VV × Int32) × (Nat → Nat → Int32) × (Nat → Int64) × (Nat × Int32 × Int32 × (Nat → VV))), M_L_1197_1197 k Ls xs x4 S T U V = some q → (∀ fa' : Nat → Nat → Nat, WW E p l e room_1 s m #[Value.ref bs] below meth c A (cN + 20) (sN + 1600) (lw_Z below #[Value.ref bs] s) (wSg E a q.1 ++ wMd E b q.2.1 ++ wLo E c0 q.2.2.1 ++ wHi E a fa' q.2.2.2) 9 [some (.ref bs), some (.ref (a 0)), some (.ref (b 0)), some (.ref (c0 0)), some (.int x4), none, none, none, none] 2036 []) →
      WW E p l e room_1 s m #[Value.ref bs] below meth c A (cN + 0) (sN + 0) (lw_Z below #[Value.ref bs] s) (wSg E a S ++ wMd E b T ++ wLo E c0 U ++ wHi E a fa V) 9 [some (.ref bs), some (.ref (a 0)), some (.ref (b 0)), some (.ref (c0 0)), some (.int x4), none, none, none, none] 1197 [] := by
  intro x4 S T U V q  h hq
  unfold M_L_1197_1197 at h
  refine r_aload_n (pc := 1197) C (i := 1) dL_law_1197 rfl rfl ?_
  refine r_aload_n (pc := 1198) C (i := 0) dL_law_1198 rfl rfl ?_
  refine r_iload (pc := 1199) C (i := 4) dL_law_1199 rfl ?_
  refine r_iconst (pc := 1201) C (v := 1) dL_law_1201 (by decide) ?_
  refine r_iadd (pc := 1202) C dL_law_1202 ?_
  obtain ⟨hi1, h⟩ := ifn h
  refine r_sld (pc := 1203) C hX hbl hbA hi1 dL_law_1203 ?_
  refine r_aload_n (pc := 1204) C (i := 3) dL_law_1204 rfl rfl ?_
  obtain ⟨q2, hq2, h⟩ := bnd h
  refine r_callSH (pc := 1205) C [.ref (a 0), .int (xs (x4 + (1 : Int32)).toNatClampNeg), .ref (c0 0)] hdc (c_L_poisonHarm E l k a (c0 0) S U (xs (x4 + (1 : Int32)).toNatClampNeg) hlt hq2) [0, 1, 2, 3, 4, 5, 6, 7, 8, 9, 10, 11, 12, 13, 14, 15, 16, 17, 18, 19, 20, 21, 22, 23, 24, 25, 26, 27, 28, 29, 30, 31, 32, 33, 34, 35, 36, 37, 38, 39, 40, 41, 42, 43, 44, 45, 46, 47, 48, 49, 50, 51, 52, 53, 54, 55, 56, 57, 58, 59, 60, 74] (hps_hi (List.append_assoc _ _ _).symm (hpL1 E a b c0 fa S T U V)) (by decide) gL_166 hd_L_poisonHarm.2 ⟨Nat.le_of_ble_eq_true rfl, Nat.le_of_ble_eq_true rfl⟩ ⟨by have h1 : room_1.cells = 601024 := rfl; have h2 := hcN.1; simp only [Nat.le_refl, rm_L_poisonHarm]; omega, by have h1 : room_1.slots = 7293034 := rfl; have h2 := hcN.2; simp only [Nat.le_refl, rm_L_poisonHarm]; omega⟩ (Nat.le_of_ble_eq_true rfl) rfl dL_law_1205 (fun r w1 hw1 => ?_)
  obtain ⟨hr1, hw1⟩ := hw1
  subst hr1 hw1
  refine ⟨(wSg E a q2.2.1 ++ wMd E b T ++ wLo E c0 q2.2.2 ++ wHi E a fa V), putW_hi (List.append_assoc _ _ _).symm (List.append_assoc _ _ _).symm (hpL1 E a b c0 fa S T U V) rfl (pwL1 E a b c0 fa S T U V q2.2.1 q2.2.2), ?_⟩
  refine r_istore (pc := 1208) C (i := 5) dL_law_1208 (by decide) rfl ?_
  refine r_aload_n (pc := 1210) C (i := 2) dL_law_1210 rfl rfl ?_
  refine r_aload_n (pc := 1211) C (i := 0) dL_law_1211 rfl rfl ?_
  refine r_iload (pc := 1212) C (i := 4) dL_law_1212 rfl ?_
  refine r_iconst (pc := 1214) C (v := 1) dL_law_1214 (by decide) ?_
  refine r_iadd (pc := 1215) C dL_law_1215 ?_
  obtain ⟨hi3, h⟩ := ifn h
  refine r_sld (pc := 1216) C hX hbl hbA hi3 dL_law_1216 ?_
  obtain ⟨q4, hq4, h⟩ := bnd h
  refine r_callV_CI (Cn := RX10) (pc := 1217) C [.int (xs (x4 + (1 : Int32)).toNatClampNeg)] (c_X10_poisonHarm E l k b T (xs (x4 + (1 : Int32)).toNatClampNeg) hq4) [61, 62, 63, 64, 65, 66, 67, 68, 69, 70, 71, 72, 73] (hps_hi (List.append_assoc _ _ _).symm (hp_L_204_1 E a b c0 fa q2.2.1 T q2.2.2 V)) (by decide) 0 rfl rfl rfl g_L_168 hd_X10_poisonHarm ⟨Nat.le_of_ble_eq_true rfl, Nat.le_of_ble_eq_true rfl⟩ ⟨by have h1 : room_1.cells = 601024 := rfl; have h2 := hcN.1; simp only [Nat.le_refl, rm_L_poisonHarm, rm_X10_poisonHarm]; omega, by have h1 : room_1.slots = 7293034 := rfl; have h2 := hcN.2; simp only [Nat.le_refl, rm_L_poisonHarm, rm_X10_poisonHarm]; omega⟩ (Nat.le_of_ble_eq_true rfl) rfl dL_law_1217 (fun r w1 hw1 => ?_)
  obtain ⟨hr1, hw1⟩ := hw1
  subst hr1 hw1
  refine ⟨(wSg E a q2.2.1 ++ wMd E b q4.2 ++ wLo E c0 q2.2.2 ++ wHi E a fa V), by exact putW_hi (List.append_assoc _ _ _).symm (List.append_assoc _ _ _).symm (hp_L_204_1 E a b c0 fa q2.2.1 T q2.2.2 V) rfl (pw_L_204_1 E a b c0 fa q2.2.1 T q2.2.2 V q4.2), ?_⟩
  refine r_istore (pc := 1220) C (i := 6) dL_law_1220 (by decide) rfl ?_
  refine r_aload_n (pc := 1222) C (i := 2) dL_law_1222 rfl rfl ?_
  obtain ⟨q5, hq5, h⟩ := bnd h
  refine r_callVp_CI (Cn := RX10) (pc := 1223) C [] (c_X10_thrown E l k b q4.2 hq5) [61, 62, 63, 64, 65, 66, 67, 68, 69, 70, 71, 72, 73] (hps_hi (List.append_assoc _ _ _).symm (hp_L_204_1 E a b c0 fa q2.2.1 q4.2 q2.2.2 V)) (by decide) 0 rfl rfl rfl g_L_106 hd_X10_thrown ⟨Nat.le_of_ble_eq_true rfl, Nat.le_of_ble_eq_true rfl⟩ ⟨by have h1 : room_1.cells = 601024 := rfl; have h2 := hcN.1; simp only [Nat.le_refl, rm_L_poisonHarm, rm_X10_poisonHarm, rm_X10_thrown]; omega, by have h1 : room_1.slots = 7293034 := rfl; have h2 := hcN.2; simp only [Nat.le_refl, rm_L_poisonHarm, rm_X10_poisonHarm, rm_X10_thrown]; omega⟩ (Nat.le_of_ble_eq_true rfl) rfl dL_law_1223 (fun r hr => ?_)
  have hr := hr.symm
  subst hr
  refine r_iload (pc := 1226) C (i := 5) dL_law_1226 rfl ?_
  refine r_icmp_eq (pc := 1228) C (tgt := 1233) dL_law_1228 rfl (fun c6 => ?_) (fun c6 => ?_)
  · rw [if_pos c6] at h
    refine r_iload (pc := 1233) C (i := 5) dL_law_1233 rfl ?_
    refine r_if_ne (pc := 1235) C (tgt := 1250) dL_law_1235 rfl (fun c7 => ?_) (fun c7 => ?_)
    · rw [if_neg c7] at h
      refine r_goto (pc := 1250) C (tgt := 2036) dL_law_1250 rfl ?_
      cases h
      refine r_widen (k1 := cN + 20) (n1 := sN + 1600) (by simp only [Nat.le_refl, rm_L_poisonHarm, rm_X10_poisonHarm, rm_X10_thrown]; omega) (by simp only [Nat.le_refl, rm_L_poisonHarm, rm_X10_poisonHarm, rm_X10_thrown]; omega) ?_
      refine r_weak (lSub_s (lSub_s (lSub_s (lSub_s (lSub_s (lSub_n (lSub_n (lSub_n (lSub_n lSub_e))))))))) ?_
      exact hq fa
    · rw [if_pos c7] at h
      refine r_aload_n (pc := 1238) C (i := 3) dL_law_1238 rfl rfl ?_
      refine r_iconst (pc := 1239) C (v := 0) dL_law_1239 (by decide) ?_
      obtain ⟨hi8, h⟩ := ifn h
      refine r_lald (pc := 1240) C 74 rfl hi8 dL_law_1240 ?_
      refine r_iload (pc := 1241) C (i := 6) dL_law_1241 rfl ?_
      refine r_i2l (pc := 1243) C dL_law_1243 ?_
      refine r_lcmp (pc := 1244) C dL_law_1244 ?_
      refine r_if_eq (pc := 1245) C (tgt := 1250) dL_law_1245 rfl (fun c9 => ?_) (fun c9 => ?_)
      · rw [if_pos c9] at h
        refine r_goto (pc := 1250) C (tgt := 2036) dL_law_1250 rfl ?_
        cases h
        refine r_widen (k1 := cN + 20) (n1 := sN + 1600) (by simp only [Nat.le_refl, rm_L_poisonHarm, rm_X10_poisonHarm, rm_X10_thrown]; omega) (by simp only [Nat.le_refl, rm_L_poisonHarm, rm_X10_poisonHarm, rm_X10_thrown]; omega) ?_
        refine r_weak (lSub_s (lSub_s (lSub_s (lSub_s (lSub_s (lSub_n (lSub_n (lSub_n (lSub_n lSub_e))))))))) ?_
        exact hq fa
      · rw [if_neg c9] at h
        refine r_iconst (pc := 1248) C (v := 0) dL_law_1248 (by decide) ?_
        cases h
  · rw [if_neg c6] at h
    refine r_iconst (pc := 1231) C (v := 0) dL_law_1231 (by decide) ?_
    cases h
theorem hd_X10_doneBehind : yX10_doneBehind.cls = RX10 ∧ yX10_doneBehind.cls ≠ "java/lang/invoke/MethodHandle" ∧ yX10_doneBehind.cls ≠ "java/lang/invoke/VarHandle" ∧ (parseMethodDescriptor yX10_doneBehind.desc).map (fun d => d.parameters.length) = some 1 := by decide +kernel
theorem g_L_171 : GoodIn GW (wsV RL 171 RX10 yX10_doneBehind (wsG yX10_doneBehind cX10_doneBehind 3 (some .int))) := gw_V wm_7_111 wm_7_112 wm_7_113 wm_1_9 wm_7_114
theorem hd_L_doneBehind : yL_doneBehind.cls = RL ∧ yL_doneBehind.cls ≠ "java/lang/invoke/MethodHandle" ∧ yL_doneBehind.cls ≠ "java/lang/invoke/VarHandle" ∧ (parseMethodDescriptor yL_doneBehind.desc).map (fun d => d.parameters.length) = some 3 := by decide +kernel
theorem gL_169 : GoodIn GW (va_wsS RL 169 yL_doneBehind (Cond.codeWith yL_doneBehind cL_doneBehind 4 (some .int) [(0, 9, 12, 13)] :: GW)) := gw_SW wm_4_228 wm_4_229 wm_1_0 wm_4_230
-- the law from 1253
theorem dL_law_1253 : decode cL_law 1253 = .ok (.aload_n 1, 1) := by decide +kernel
theorem dL_law_1254 : decode cL_law 1254 = .ok (.aload_n 0, 1) := by decide +kernel
theorem dL_law_1255 : decode cL_law 1255 = .ok (.iload 4, 2) := by decide +kernel
theorem dL_law_1257 : decode cL_law 1257 = .ok (.iconst 1, 1) := by decide +kernel
theorem dL_law_1258 : decode cL_law 1258 = .ok (.iadd, 1) := by decide +kernel
theorem dL_law_1259 : decode cL_law 1259 = .ok (.iaload, 1) := by decide +kernel
theorem dL_law_1260 : decode cL_law 1260 = .ok (.aload_n 3, 1) := by decide +kernel
theorem dL_law_1261 : decode cL_law 1261 = .ok (.invokestatic 169, 3) := by decide +kernel
theorem dL_law_1264 : decode cL_law 1264 = .ok (.istore 5, 2) := by decide +kernel
theorem dL_law_1266 : decode cL_law 1266 = .ok (.aload_n 2, 1) := by decide +kernel
theorem dL_law_1267 : decode cL_law 1267 = .ok (.aload_n 0, 1) := by decide +kernel
theorem dL_law_1268 : decode cL_law 1268 = .ok (.iload 4, 2) := by decide +kernel
theorem dL_law_1270 : decode cL_law 1270 = .ok (.iconst 1, 1) := by decide +kernel
theorem dL_law_1271 : decode cL_law 1271 = .ok (.iadd, 1) := by decide +kernel
theorem dL_law_1272 : decode cL_law 1272 = .ok (.iaload, 1) := by decide +kernel
theorem dL_law_1273 : decode cL_law 1273 = .ok (.invokevirtual 171, 3) := by decide +kernel
theorem dL_law_1276 : decode cL_law 1276 = .ok (.istore 6, 2) := by decide +kernel
theorem dL_law_1278 : decode cL_law 1278 = .ok (.aload_n 2, 1) := by decide +kernel
theorem dL_law_1279 : decode cL_law 1279 = .ok (.invokevirtual 106, 3) := by decide +kernel
theorem dL_law_1282 : decode cL_law 1282 = .ok (.iload 5, 2) := by decide +kernel
theorem dL_law_1284 : decode cL_law 1284 = .ok (.if_icmp .eq 5, 3) := by decide +kernel
theorem dL_law_1287 : decode cL_law 1287 = .ok (.iconst 0, 1) := by decide +kernel
theorem dL_law_1288 : decode cL_law 1288 = .ok (.ireturn, 1) := by decide +kernel
theorem dL_law_1289 : decode cL_law 1289 = .ok (.iload 5, 2) := by decide +kernel
theorem dL_law_1291 : decode cL_law 1291 = .ok (.ifCond .ne 15, 3) := by decide +kernel
theorem dL_law_1294 : decode cL_law 1294 = .ok (.aload_n 3, 1) := by decide +kernel
theorem dL_law_1295 : decode cL_law 1295 = .ok (.iconst 0, 1) := by decide +kernel
theorem dL_law_1296 : decode cL_law 1296 = .ok (.laload, 1) := by decide +kernel
theorem dL_law_1297 : decode cL_law 1297 = .ok (.iload 6, 2) := by decide +kernel
theorem dL_law_1299 : decode cL_law 1299 = .ok (.i2l, 1) := by decide +kernel
theorem dL_law_1300 : decode cL_law 1300 = .ok (.lcmp, 1) := by decide +kernel
theorem dL_law_1301 : decode cL_law 1301 = .ok (.ifCond .eq 5, 3) := by decide +kernel
theorem dL_law_1304 : decode cL_law 1304 = .ok (.iconst 0, 1) := by decide +kernel
theorem dL_law_1305 : decode cL_law 1305 = .ok (.ireturn, 1) := by decide +kernel
theorem dL_law_1306 : decode cL_law 1306 = .ok (.goto 730, 3) := by decide +kernel
def M_L_1253_1253 (k Ls : Nat) (xs : Nat → Int32) (x4 : Int32) (S : VV × VV × VV × VV × VV × Int32) (T : Nat → Nat → Int32) (U : Nat → Int64) (V : Nat × Int32 × Int32 × (Nat → VV)) : Option ((VV × VV × VV × VV × VV × Int32) × (Nat → Nat → Int32) × (Nat → Int64) × (Nat × Int32 × Int32 × (Nat → VV))) := (if inb (x4 + (1 : Int32)) Ls = true then (M_L_doneBehind k S U (xs (x4 + (1 : Int32)).toNatClampNeg)).bind fun q2 => (if inb (x4 + (1 : Int32)) Ls = true then (M_X10_doneBehind k T (xs (x4 + (1 : Int32)).toNatClampNeg)).bind fun q4 => (M_X10_thrown k q4.2).bind fun q5 => if q5 = q2.1 then (if q2.1 = 0 then ((if inb (0 : Int32) 1 = true then if (lg_cmp (q2.2.2 (0 : Int32).toNatClampNeg) (q4.1.toInt64)) = 0 then (some (q2.2.1, q4.2, q2.2.2, V)) else (none) else none)) else (some (q2.2.1, q4.2, q2.2.2, V))) else (none) else none) else none)
set_option maxRecDepth 100000 in
set_option maxHeartbeats 4000000 in
theorem N_L_1253_1253 (C : CX E p l s m #[Value.ref bs] meth c cL_law 9 RL ret A) (a : Nat → Nat) (b : Nat → Nat) (c0 : Nat → Nat) (k Ls : Nat) (xs : Nat → Int32) (hX : va_X bs Ls xs s s.heap) (hbl : bs < s.heap.size) (hbA : ¬ A bs) (hlt : l.stackTraces = false) (hdc : DC s) (cN sN : Nat) (hcN : cN + 20 ≤ 601024 ∧ sN + 1600 ≤ 7293034) (fa : Nat → Nat → Nat) :
    ∀ (x4 : Int32) (S : VV × VV × VV × VV × VV × Int32) (T : Nat → Nat → Int32) (U : Nat → Int64) (V : Nat × Int32 × Int32 × (Nat → VV)) (q : (VV × VV × VV × VV × VV × Int32) × (Nat → Nat → Int32) × (Nat → Int64) × (Nat × Int32 × Int32 × (Nat → VV))), M_L_1253_1253 k Ls xs x4 S T U V = some q → (∀ fa' : Nat → Nat → Nat, WW E p l e room_1 s m #[Value.ref bs] below meth c A (cN + 20) (sN + 1600) (lw_Z below #[Value.ref bs] s) (wSg E a q.1 ++ wMd E b q.2.1 ++ wLo E c0 q.2.2.1 ++ wHi E a fa' q.2.2.2) 9 [some (.ref bs), some (.ref (a 0)), some (.ref (b 0)), some (.ref (c0 0)), some (.int x4), none, none, none, none] 2036 []) →
      WW E p l e room_1 s m #[Value.ref bs] below meth c A (cN + 0) (sN + 0) (lw_Z below #[Value.ref bs] s) (wSg E a S ++ wMd E b T ++ wLo E c0 U ++ wHi E a fa V) 9 [some (.ref bs), some (.ref (a 0)), some (.ref (b 0)), some (.ref (c0 0)), some (.int x4), none, none, none, none] 1253 [] := by
  intro x4 S T U V q  h hq
  unfold M_L_1253_1253 at h
  refine r_aload_n (pc := 1253) C (i := 1) dL_law_1253 rfl rfl ?_
  refine r_aload_n (pc := 1254) C (i := 0) dL_law_1254 rfl rfl ?_
  refine r_iload (pc := 1255) C (i := 4) dL_law_1255 rfl ?_
  refine r_iconst (pc := 1257) C (v := 1) dL_law_1257 (by decide) ?_
  refine r_iadd (pc := 1258) C dL_law_1258 ?_
  obtain ⟨hi1, h⟩ := ifn h
  refine r_sld (pc := 1259) C hX hbl hbA hi1 dL_law_1259 ?_
  refine r_aload_n (pc := 1260) C (i := 3) dL_law_1260 rfl rfl ?_
  obtain ⟨q2, hq2, h⟩ := bnd h
  refine r_callSH (pc := 1261) C [.ref (a 0), .int (xs (x4 + (1 : Int32)).toNatClampNeg), .ref (c0 0)] hdc (c_L_doneBehind E l k a (c0 0) S U (xs (x4 + (1 : Int32)).toNatClampNeg) hlt hq2) [0, 1, 2, 3, 4, 5, 6, 7, 8, 9, 10, 11, 12, 13, 14, 15, 16, 17, 18, 19, 20, 21, 22, 23, 24, 25, 26, 27, 28, 29, 30, 31, 32, 33, 34, 35, 36, 37, 38, 39, 40, 41, 42, 43, 44, 45, 46, 47, 48, 49, 50, 51, 52, 53, 54, 55, 56, 57, 58, 59, 60, 74] (hps_hi (List.append_assoc _ _ _).symm (hpL1 E a b c0 fa S T U V)) (by decide) gL_169 hd_L_doneBehind.2 ⟨Nat.le_of_ble_eq_true rfl, Nat.le_of_ble_eq_true rfl⟩ ⟨by have h1 : room_1.cells = 601024 := rfl; have h2 := hcN.1; simp only [Nat.le_refl, rm_L_doneBehind]; omega, by have h1 : room_1.slots = 7293034 := rfl; have h2 := hcN.2; simp only [Nat.le_refl, rm_L_doneBehind]; omega⟩ (Nat.le_of_ble_eq_true rfl) rfl dL_law_1261 (fun r w1 hw1 => ?_)
  obtain ⟨hr1, hw1⟩ := hw1
  subst hr1 hw1
  refine ⟨(wSg E a q2.2.1 ++ wMd E b T ++ wLo E c0 q2.2.2 ++ wHi E a fa V), putW_hi (List.append_assoc _ _ _).symm (List.append_assoc _ _ _).symm (hpL1 E a b c0 fa S T U V) rfl (pwL1 E a b c0 fa S T U V q2.2.1 q2.2.2), ?_⟩
  refine r_istore (pc := 1264) C (i := 5) dL_law_1264 (by decide) rfl ?_
  refine r_aload_n (pc := 1266) C (i := 2) dL_law_1266 rfl rfl ?_
  refine r_aload_n (pc := 1267) C (i := 0) dL_law_1267 rfl rfl ?_
  refine r_iload (pc := 1268) C (i := 4) dL_law_1268 rfl ?_
  refine r_iconst (pc := 1270) C (v := 1) dL_law_1270 (by decide) ?_
  refine r_iadd (pc := 1271) C dL_law_1271 ?_
  obtain ⟨hi3, h⟩ := ifn h
  refine r_sld (pc := 1272) C hX hbl hbA hi3 dL_law_1272 ?_
  obtain ⟨q4, hq4, h⟩ := bnd h
  refine r_callV_CI (Cn := RX10) (pc := 1273) C [.int (xs (x4 + (1 : Int32)).toNatClampNeg)] (c_X10_doneBehind E l k b T (xs (x4 + (1 : Int32)).toNatClampNeg) hq4) [61, 62, 63, 64, 65, 66, 67, 68, 69, 70, 71, 72, 73] (hps_hi (List.append_assoc _ _ _).symm (hp_L_204_1 E a b c0 fa q2.2.1 T q2.2.2 V)) (by decide) 0 rfl rfl rfl g_L_171 hd_X10_doneBehind ⟨Nat.le_of_ble_eq_true rfl, Nat.le_of_ble_eq_true rfl⟩ ⟨by have h1 : room_1.cells = 601024 := rfl; have h2 := hcN.1; simp only [Nat.le_refl, rm_L_doneBehind, rm_X10_doneBehind]; omega, by have h1 : room_1.slots = 7293034 := rfl; have h2 := hcN.2; simp only [Nat.le_refl, rm_L_doneBehind, rm_X10_doneBehind]; omega⟩ (Nat.le_of_ble_eq_true rfl) rfl dL_law_1273 (fun r w1 hw1 => ?_)
  obtain ⟨hr1, hw1⟩ := hw1
  subst hr1 hw1
  refine ⟨(wSg E a q2.2.1 ++ wMd E b q4.2 ++ wLo E c0 q2.2.2 ++ wHi E a fa V), by exact putW_hi (List.append_assoc _ _ _).symm (List.append_assoc _ _ _).symm (hp_L_204_1 E a b c0 fa q2.2.1 T q2.2.2 V) rfl (pw_L_204_1 E a b c0 fa q2.2.1 T q2.2.2 V q4.2), ?_⟩
  refine r_istore (pc := 1276) C (i := 6) dL_law_1276 (by decide) rfl ?_
  refine r_aload_n (pc := 1278) C (i := 2) dL_law_1278 rfl rfl ?_
  obtain ⟨q5, hq5, h⟩ := bnd h
  refine r_callVp_CI (Cn := RX10) (pc := 1279) C [] (c_X10_thrown E l k b q4.2 hq5) [61, 62, 63, 64, 65, 66, 67, 68, 69, 70, 71, 72, 73] (hps_hi (List.append_assoc _ _ _).symm (hp_L_204_1 E a b c0 fa q2.2.1 q4.2 q2.2.2 V)) (by decide) 0 rfl rfl rfl g_L_106 hd_X10_thrown ⟨Nat.le_of_ble_eq_true rfl, Nat.le_of_ble_eq_true rfl⟩ ⟨by have h1 : room_1.cells = 601024 := rfl; have h2 := hcN.1; simp only [Nat.le_refl, rm_L_doneBehind, rm_X10_doneBehind, rm_X10_thrown]; omega, by have h1 : room_1.slots = 7293034 := rfl; have h2 := hcN.2; simp only [Nat.le_refl, rm_L_doneBehind, rm_X10_doneBehind, rm_X10_thrown]; omega⟩ (Nat.le_of_ble_eq_true rfl) rfl dL_law_1279 (fun r hr => ?_)
  have hr := hr.symm
  subst hr
  refine r_iload (pc := 1282) C (i := 5) dL_law_1282 rfl ?_
  refine r_icmp_eq (pc := 1284) C (tgt := 1289) dL_law_1284 rfl (fun c6 => ?_) (fun c6 => ?_)
  · rw [if_pos c6] at h
    refine r_iload (pc := 1289) C (i := 5) dL_law_1289 rfl ?_
    refine r_if_ne (pc := 1291) C (tgt := 1306) dL_law_1291 rfl (fun c7 => ?_) (fun c7 => ?_)
    · rw [if_neg c7] at h
      refine r_goto (pc := 1306) C (tgt := 2036) dL_law_1306 rfl ?_
      cases h
      refine r_widen (k1 := cN + 20) (n1 := sN + 1600) (by simp only [Nat.le_refl, rm_L_doneBehind, rm_X10_doneBehind, rm_X10_thrown]; omega) (by simp only [Nat.le_refl, rm_L_doneBehind, rm_X10_doneBehind, rm_X10_thrown]; omega) ?_
      refine r_weak (lSub_s (lSub_s (lSub_s (lSub_s (lSub_s (lSub_n (lSub_n (lSub_n (lSub_n lSub_e))))))))) ?_
      exact hq fa
    · rw [if_pos c7] at h
      refine r_aload_n (pc := 1294) C (i := 3) dL_law_1294 rfl rfl ?_
      refine r_iconst (pc := 1295) C (v := 0) dL_law_1295 (by decide) ?_
      obtain ⟨hi8, h⟩ := ifn h
      refine r_lald (pc := 1296) C 74 rfl hi8 dL_law_1296 ?_
      refine r_iload (pc := 1297) C (i := 6) dL_law_1297 rfl ?_
      refine r_i2l (pc := 1299) C dL_law_1299 ?_
      refine r_lcmp (pc := 1300) C dL_law_1300 ?_
      refine r_if_eq (pc := 1301) C (tgt := 1306) dL_law_1301 rfl (fun c9 => ?_) (fun c9 => ?_)
      · rw [if_pos c9] at h
        refine r_goto (pc := 1306) C (tgt := 2036) dL_law_1306 rfl ?_
        cases h
        refine r_widen (k1 := cN + 20) (n1 := sN + 1600) (by simp only [Nat.le_refl, rm_L_doneBehind, rm_X10_doneBehind, rm_X10_thrown]; omega) (by simp only [Nat.le_refl, rm_L_doneBehind, rm_X10_doneBehind, rm_X10_thrown]; omega) ?_
        refine r_weak (lSub_s (lSub_s (lSub_s (lSub_s (lSub_s (lSub_n (lSub_n (lSub_n (lSub_n lSub_e))))))))) ?_
        exact hq fa
      · rw [if_neg c9] at h
        refine r_iconst (pc := 1304) C (v := 0) dL_law_1304 (by decide) ?_
        cases h
  · rw [if_neg c6] at h
    refine r_iconst (pc := 1287) C (v := 0) dL_law_1287 (by decide) ?_
    cases h
theorem hd_X9_meanOverlap : yX9_meanOverlap.cls = RX9 ∧ yX9_meanOverlap.cls ≠ "java/lang/invoke/MethodHandle" ∧ yX9_meanOverlap.cls ≠ "java/lang/invoke/VarHandle" ∧ (parseMethodDescriptor yX9_meanOverlap.desc).map (fun d => d.parameters.length) = some 0 := by decide +kernel
theorem g_L_172 : GoodIn GW (wsV RL 172 RX9 yX9_meanOverlap (wsG yX9_meanOverlap cX9_meanOverlap 5 (some .double))) := gw_V wm_2_132 wm_2_133 wm_2_134 wm_1_1 wm_2_135
theorem hd_X10_meanOverlap : yX10_meanOverlap.cls = RX10 ∧ yX10_meanOverlap.cls ≠ "java/lang/invoke/MethodHandle" ∧ yX10_meanOverlap.cls ≠ "java/lang/invoke/VarHandle" ∧ (parseMethodDescriptor yX10_meanOverlap.desc).map (fun d => d.parameters.length) = some 0 := by decide +kernel
theorem g_L_176 : GoodIn GW (wsV RL 176 RX10 yX10_meanOverlap (wsG yX10_meanOverlap cX10_meanOverlap 5 (some .double))) := gw_V wm_7_115 wm_7_116 wm_7_117 wm_1_9 wm_7_118
-- the law from 1309
theorem dL_law_1309 : decode cL_law 1309 = .ok (.aload_n 1, 1) := by decide +kernel
theorem dL_law_1310 : decode cL_law 1310 = .ok (.invokevirtual 172, 3) := by decide +kernel
theorem dL_law_1313 : decode cL_law 1313 = .ok (.dstore 5, 2) := by decide +kernel
theorem dL_law_1315 : decode cL_law 1315 = .ok (.aload_n 2, 1) := by decide +kernel
theorem dL_law_1316 : decode cL_law 1316 = .ok (.invokevirtual 176, 3) := by decide +kernel
theorem dL_law_1319 : decode cL_law 1319 = .ok (.dstore 7, 2) := by decide +kernel
theorem dL_law_1321 : decode cL_law 1321 = .ok (.dload 5, 2) := by decide +kernel
theorem dL_law_1323 : decode cL_law 1323 = .ok (.dload 7, 2) := by decide +kernel
theorem dL_law_1325 : decode cL_law 1325 = .ok (.dcmp .l, 1) := by decide +kernel
theorem dL_law_1326 : decode cL_law 1326 = .ok (.ifCond .eq 21, 3) := by decide +kernel
theorem dL_law_1329 : decode cL_law 1329 = .ok (.dload 5, 2) := by decide +kernel
theorem dL_law_1331 : decode cL_law 1331 = .ok (.dload 5, 2) := by decide +kernel
theorem dL_law_1333 : decode cL_law 1333 = .ok (.dcmp .l, 1) := by decide +kernel
theorem dL_law_1334 : decode cL_law 1334 = .ok (.ifCond .eq 11, 3) := by decide +kernel
theorem dL_law_1337 : decode cL_law 1337 = .ok (.dload 7, 2) := by decide +kernel
theorem dL_law_1339 : decode cL_law 1339 = .ok (.dload 7, 2) := by decide +kernel
theorem dL_law_1341 : decode cL_law 1341 = .ok (.dcmp .l, 1) := by decide +kernel
theorem dL_law_1342 : decode cL_law 1342 = .ok (.ifCond .ne 5, 3) := by decide +kernel
theorem dL_law_1345 : decode cL_law 1345 = .ok (.iconst 0, 1) := by decide +kernel
theorem dL_law_1346 : decode cL_law 1346 = .ok (.ireturn, 1) := by decide +kernel
theorem dL_law_1347 : decode cL_law 1347 = .ok (.goto 689, 3) := by decide +kernel
def M_L_1309_1309 (k Ls : Nat) (xs : Nat → Int32) (x4 : Int32) (S : VV × VV × VV × VV × VV × Int32) (T : Nat → Nat → Int32) (U : Nat → Int64) (V : Nat × Int32 × Int32 × (Nat → VV)) : Option ((VV × VV × VV × VV × VV × Int32) × (Nat → Nat → Int32) × (Nat → Int64) × (Nat × Int32 × Int32 × (Nat → VV))) := (M_X9_meanOverlap k S).bind fun q1 => (M_X10_meanOverlap k T).bind fun q2 => if (Op.cmpValue (FP.dcmp q1 q2.1) CmpOp.l) = 0 then (some (S, q2.2, U, V)) else (if (Op.cmpValue (FP.dcmp q1 q1) CmpOp.l) = 0 then (none) else (if (Op.cmpValue (FP.dcmp q2.1 q2.1) CmpOp.l) = 0 then (none) else (some (S, q2.2, U, V))))
set_option maxRecDepth 100000 in
set_option maxHeartbeats 4000000 in
theorem N_L_1309_1309 (C : CX E p l s m #[Value.ref bs] meth c cL_law 9 RL ret A) (a : Nat → Nat) (b : Nat → Nat) (c0 : Nat → Nat) (k Ls : Nat) (xs : Nat → Int32) (hX : va_X bs Ls xs s s.heap) (hbl : bs < s.heap.size) (hbA : ¬ A bs) (hlt : l.stackTraces = false) (hdc : DC s) (cN sN : Nat) (hcN : cN + 20 ≤ 601024 ∧ sN + 1600 ≤ 7293034) (fa : Nat → Nat → Nat) :
    ∀ (x4 : Int32) (S : VV × VV × VV × VV × VV × Int32) (T : Nat → Nat → Int32) (U : Nat → Int64) (V : Nat × Int32 × Int32 × (Nat → VV)) (q : (VV × VV × VV × VV × VV × Int32) × (Nat → Nat → Int32) × (Nat → Int64) × (Nat × Int32 × Int32 × (Nat → VV))), M_L_1309_1309 k Ls xs x4 S T U V = some q → (∀ fa' : Nat → Nat → Nat, WW E p l e room_1 s m #[Value.ref bs] below meth c A (cN + 20) (sN + 1600) (lw_Z below #[Value.ref bs] s) (wSg E a q.1 ++ wMd E b q.2.1 ++ wLo E c0 q.2.2.1 ++ wHi E a fa' q.2.2.2) 9 [some (.ref bs), some (.ref (a 0)), some (.ref (b 0)), some (.ref (c0 0)), some (.int x4), none, none, none, none] 2036 []) →
      WW E p l e room_1 s m #[Value.ref bs] below meth c A (cN + 0) (sN + 0) (lw_Z below #[Value.ref bs] s) (wSg E a S ++ wMd E b T ++ wLo E c0 U ++ wHi E a fa V) 9 [some (.ref bs), some (.ref (a 0)), some (.ref (b 0)), some (.ref (c0 0)), some (.int x4), none, none, none, none] 1309 [] := by
  intro x4 S T U V q  h hq
  unfold M_L_1309_1309 at h
  refine r_aload_n (pc := 1309) C (i := 1) dL_law_1309 rfl rfl ?_
  obtain ⟨q1, hq1, h⟩ := bnd h
  refine r_callVp_CD (Cn := RX9) (pc := 1310) C [] (c_X9_meanOverlap E l k a S hq1) [0, 1, 2, 3, 4, 5, 6, 7, 8, 9, 10, 11, 12, 13, 14, 15, 16, 17, 18, 19, 20, 21, 22, 23, 24, 25, 26, 27, 28, 29, 30, 31, 32, 33, 34, 35, 36, 37, 38, 39, 40, 41, 42, 43, 44, 45, 46, 47, 48, 49, 50, 51, 52, 53, 54, 55, 56, 57, 58, 59, 60] (hps_hi (List.append_assoc _ _ _).symm (hp_L_204_0 E a b c0 fa S T U V)) (by decide) 0 rfl rfl rfl g_L_172 hd_X9_meanOverlap ⟨Nat.le_of_ble_eq_true rfl, Nat.le_of_ble_eq_true rfl⟩ ⟨by have h1 : room_1.cells = 601024 := rfl; have h2 := hcN.1; simp only [Nat.le_refl, rm_X9_meanOverlap]; omega, by have h1 : room_1.slots = 7293034 := rfl; have h2 := hcN.2; simp only [Nat.le_refl, rm_X9_meanOverlap]; omega⟩ (Nat.le_of_ble_eq_true rfl) rfl dL_law_1310 (fun r hr => ?_)
  have hr := hr.symm
  subst hr
  refine r_dstore (pc := 1313) C (i := 5) dL_law_1313 (by decide) rfl ?_
  refine r_aload_n (pc := 1315) C (i := 2) dL_law_1315 rfl rfl ?_
  obtain ⟨q2, hq2, h⟩ := bnd h
  refine r_callV_CD (Cn := RX10) (pc := 1316) C [] (c_X10_meanOverlap E l k b T hq2) [61, 62, 63, 64, 65, 66, 67, 68, 69, 70, 71, 72, 73] (hps_hi (List.append_assoc _ _ _).symm (hp_L_204_1 E a b c0 fa S T U V)) (by decide) 0 rfl rfl rfl g_L_176 hd_X10_meanOverlap ⟨Nat.le_of_ble_eq_true rfl, Nat.le_of_ble_eq_true rfl⟩ ⟨by have h1 : room_1.cells = 601024 := rfl; have h2 := hcN.1; simp only [Nat.le_refl, rm_X9_meanOverlap, rm_X10_meanOverlap]; omega, by have h1 : room_1.slots = 7293034 := rfl; have h2 := hcN.2; simp only [Nat.le_refl, rm_X9_meanOverlap, rm_X10_meanOverlap]; omega⟩ (Nat.le_of_ble_eq_true rfl) rfl dL_law_1316 (fun r w1 hw1 => ?_)
  obtain ⟨hr1, hw1⟩ := hw1
  subst hr1 hw1
  refine ⟨(wSg E a S ++ wMd E b q2.2 ++ wLo E c0 U ++ wHi E a fa V), by exact putW_hi (List.append_assoc _ _ _).symm (List.append_assoc _ _ _).symm (hp_L_204_1 E a b c0 fa S T U V) rfl (pw_L_204_1 E a b c0 fa S T U V q2.2), ?_⟩
  refine r_dstore (pc := 1319) C (i := 7) dL_law_1319 (by decide) rfl ?_
  refine r_dload (pc := 1321) C (i := 5) dL_law_1321 rfl ?_
  refine r_dload (pc := 1323) C (i := 7) dL_law_1323 rfl ?_
  refine r_dcmp (pc := 1325) C dL_law_1325 ?_
  refine r_if_eq (pc := 1326) C (tgt := 1347) dL_law_1326 rfl (fun c3 => ?_) (fun c3 => ?_)
  · rw [if_pos c3] at h
    refine r_goto (pc := 1347) C (tgt := 2036) dL_law_1347 rfl ?_
    cases h
    refine r_widen (k1 := cN + 20) (n1 := sN + 1600) (by simp only [Nat.le_refl, rm_X9_meanOverlap, rm_X10_meanOverlap]; omega) (by simp only [Nat.le_refl, rm_X9_meanOverlap, rm_X10_meanOverlap]; omega) ?_
    refine r_weak (lSub_s (lSub_s (lSub_s (lSub_s (lSub_s (lSub_n (lSub_n (lSub_n (lSub_n lSub_e))))))))) ?_
    exact hq fa
  · rw [if_neg c3] at h
    refine r_dload (pc := 1329) C (i := 5) dL_law_1329 rfl ?_
    refine r_dload (pc := 1331) C (i := 5) dL_law_1331 rfl ?_
    refine r_dcmp (pc := 1333) C dL_law_1333 ?_
    refine r_if_eq (pc := 1334) C (tgt := 1345) dL_law_1334 rfl (fun c4 => ?_) (fun c4 => ?_)
    · rw [if_pos c4] at h
      refine r_iconst (pc := 1345) C (v := 0) dL_law_1345 (by decide) ?_
      cases h
    · rw [if_neg c4] at h
      refine r_dload (pc := 1337) C (i := 7) dL_law_1337 rfl ?_
      refine r_dload (pc := 1339) C (i := 7) dL_law_1339 rfl ?_
      refine r_dcmp (pc := 1341) C dL_law_1341 ?_
      refine r_if_ne (pc := 1342) C (tgt := 1347) dL_law_1342 rfl (fun c5 => ?_) (fun c5 => ?_)
      · rw [if_neg c5] at h
        refine r_goto (pc := 1347) C (tgt := 2036) dL_law_1347 rfl ?_
        cases h
        refine r_widen (k1 := cN + 20) (n1 := sN + 1600) (by simp only [Nat.le_refl, rm_X9_meanOverlap, rm_X10_meanOverlap]; omega) (by simp only [Nat.le_refl, rm_X9_meanOverlap, rm_X10_meanOverlap]; omega) ?_
        refine r_weak (lSub_s (lSub_s (lSub_s (lSub_s (lSub_s (lSub_n (lSub_n (lSub_n (lSub_n lSub_e))))))))) ?_
        exact hq fa
      · rw [if_pos c5] at h
        refine r_iconst (pc := 1345) C (v := 0) dL_law_1345 (by decide) ?_
        cases h
theorem hd_X9_served : yX9_served.cls = RX9 ∧ yX9_served.cls ≠ "java/lang/invoke/MethodHandle" ∧ yX9_served.cls ≠ "java/lang/invoke/VarHandle" ∧ (parseMethodDescriptor yX9_served.desc).map (fun d => d.parameters.length) = some 0 := by decide +kernel
theorem g_L_177 : GoodIn GW (wsV RL 177 RX9 yX9_served (wsG yX9_served cX9_served 1 (some .float))) := gw_V wm_2_137 wm_2_138 wm_2_139 wm_1_1 wm_2_140
theorem hd_X10_served : yX10_served.cls = RX10 ∧ yX10_served.cls ≠ "java/lang/invoke/MethodHandle" ∧ yX10_served.cls ≠ "java/lang/invoke/VarHandle" ∧ (parseMethodDescriptor yX10_served.desc).map (fun d => d.parameters.length) = some 0 := by decide +kernel
theorem g_L_181 : GoodIn GW (wsV RL 181 RX10 yX10_served (wsG yX10_served cX10_served 1 (some .float))) := gw_V wm_7_119 wm_7_120 wm_7_121 wm_1_9 wm_7_122
-- the law from 1350
theorem dL_law_1350 : decode cL_law 1350 = .ok (.aload_n 1, 1) := by decide +kernel
theorem dL_law_1351 : decode cL_law 1351 = .ok (.invokevirtual 177, 3) := by decide +kernel
theorem dL_law_1354 : decode cL_law 1354 = .ok (.f2d, 1) := by decide +kernel
theorem dL_law_1355 : decode cL_law 1355 = .ok (.dstore 5, 2) := by decide +kernel
theorem dL_law_1357 : decode cL_law 1357 = .ok (.aload_n 2, 1) := by decide +kernel
theorem dL_law_1358 : decode cL_law 1358 = .ok (.invokevirtual 181, 3) := by decide +kernel
theorem dL_law_1361 : decode cL_law 1361 = .ok (.f2d, 1) := by decide +kernel
theorem dL_law_1362 : decode cL_law 1362 = .ok (.dstore 7, 2) := by decide +kernel
theorem dL_law_1364 : decode cL_law 1364 = .ok (.dload 5, 2) := by decide +kernel
theorem dL_law_1366 : decode cL_law 1366 = .ok (.dload 7, 2) := by decide +kernel
theorem dL_law_1368 : decode cL_law 1368 = .ok (.dcmp .l, 1) := by decide +kernel
theorem dL_law_1369 : decode cL_law 1369 = .ok (.ifCond .eq 21, 3) := by decide +kernel
theorem dL_law_1372 : decode cL_law 1372 = .ok (.dload 5, 2) := by decide +kernel
theorem dL_law_1374 : decode cL_law 1374 = .ok (.dload 5, 2) := by decide +kernel
theorem dL_law_1376 : decode cL_law 1376 = .ok (.dcmp .l, 1) := by decide +kernel
theorem dL_law_1377 : decode cL_law 1377 = .ok (.ifCond .eq 11, 3) := by decide +kernel
theorem dL_law_1380 : decode cL_law 1380 = .ok (.dload 7, 2) := by decide +kernel
theorem dL_law_1382 : decode cL_law 1382 = .ok (.dload 7, 2) := by decide +kernel
theorem dL_law_1384 : decode cL_law 1384 = .ok (.dcmp .l, 1) := by decide +kernel
theorem dL_law_1385 : decode cL_law 1385 = .ok (.ifCond .ne 5, 3) := by decide +kernel
theorem dL_law_1388 : decode cL_law 1388 = .ok (.iconst 0, 1) := by decide +kernel
theorem dL_law_1389 : decode cL_law 1389 = .ok (.ireturn, 1) := by decide +kernel
theorem dL_law_1390 : decode cL_law 1390 = .ok (.goto 646, 3) := by decide +kernel
def M_L_1350_1350 (k Ls : Nat) (xs : Nat → Int32) (x4 : Int32) (S : VV × VV × VV × VV × VV × Int32) (T : Nat → Nat → Int32) (U : Nat → Int64) (V : Nat × Int32 × Int32 × (Nat → VV)) : Option ((VV × VV × VV × VV × VV × Int32) × (Nat → Nat → Int32) × (Nat → Int64) × (Nat × Int32 × Int32 × (Nat → VV))) := (M_X9_served k S).bind fun q1 => (if (FP.f2d q1) &&& (0x7fffffffffffffff : UInt64) ≤ (0x7ff0000000000000 : UInt64) then lt (FP.f2d q1) fun v3 => (M_X10_served k T).bind fun q4 => (if (FP.f2d q4.1) &&& (0x7fffffffffffffff : UInt64) ≤ (0x7ff0000000000000 : UInt64) then lt (FP.f2d q4.1) fun v6 => if (Op.cmpValue (FP.dcmp v3 v6) CmpOp.l) = 0 then (some (S, q4.2, U, V)) else (if (Op.cmpValue (FP.dcmp v3 v3) CmpOp.l) = 0 then (none) else (if (Op.cmpValue (FP.dcmp v6 v6) CmpOp.l) = 0 then (none) else (some (S, q4.2, U, V)))) else none) else none)
set_option maxRecDepth 100000 in
set_option maxHeartbeats 4000000 in
theorem N_L_1350_1350 (C : CX E p l s m #[Value.ref bs] meth c cL_law 9 RL ret A) (a : Nat → Nat) (b : Nat → Nat) (c0 : Nat → Nat) (k Ls : Nat) (xs : Nat → Int32) (hX : va_X bs Ls xs s s.heap) (hbl : bs < s.heap.size) (hbA : ¬ A bs) (hlt : l.stackTraces = false) (hdc : DC s) (cN sN : Nat) (hcN : cN + 20 ≤ 601024 ∧ sN + 1600 ≤ 7293034) (fa : Nat → Nat → Nat) :
    ∀ (x4 : Int32) (S : VV × VV × VV × VV × VV × Int32) (T : Nat → Nat → Int32) (U : Nat → Int64) (V : Nat × Int32 × Int32 × (Nat → VV)) (q : (VV × VV × VV × VV × VV × Int32) × (Nat → Nat → Int32) × (Nat → Int64) × (Nat × Int32 × Int32 × (Nat → VV))), M_L_1350_1350 k Ls xs x4 S T U V = some q → (∀ fa' : Nat → Nat → Nat, WW E p l e room_1 s m #[Value.ref bs] below meth c A (cN + 20) (sN + 1600) (lw_Z below #[Value.ref bs] s) (wSg E a q.1 ++ wMd E b q.2.1 ++ wLo E c0 q.2.2.1 ++ wHi E a fa' q.2.2.2) 9 [some (.ref bs), some (.ref (a 0)), some (.ref (b 0)), some (.ref (c0 0)), some (.int x4), none, none, none, none] 2036 []) →
      WW E p l e room_1 s m #[Value.ref bs] below meth c A (cN + 0) (sN + 0) (lw_Z below #[Value.ref bs] s) (wSg E a S ++ wMd E b T ++ wLo E c0 U ++ wHi E a fa V) 9 [some (.ref bs), some (.ref (a 0)), some (.ref (b 0)), some (.ref (c0 0)), some (.int x4), none, none, none, none] 1350 [] := by
  intro x4 S T U V q  h hq
  unfold M_L_1350_1350 at h
  refine r_aload_n (pc := 1350) C (i := 1) dL_law_1350 rfl rfl ?_
  obtain ⟨q1, hq1, h⟩ := bnd h
  refine r_callVp_CF (Cn := RX9) (pc := 1351) C [] (c_X9_served E l k a S hq1) [0, 1, 2, 3, 4, 5, 6, 7, 8, 9, 10, 11, 12, 13, 14, 15, 16, 17, 18, 19, 20, 21, 22, 23, 24, 25, 26, 27, 28, 29, 30, 31, 32, 33, 34, 35, 36, 37, 38, 39, 40, 41, 42, 43, 44, 45, 46, 47, 48, 49, 50, 51, 52, 53, 54, 55, 56, 57, 58, 59, 60] (hps_hi (List.append_assoc _ _ _).symm (hp_L_204_0 E a b c0 fa S T U V)) (by decide) 0 rfl rfl rfl g_L_177 hd_X9_served ⟨Nat.le_of_ble_eq_true rfl, Nat.le_of_ble_eq_true rfl⟩ ⟨by have h1 : room_1.cells = 601024 := rfl; have h2 := hcN.1; simp only [Nat.le_refl, rm_X9_served]; omega, by have h1 : room_1.slots = 7293034 := rfl; have h2 := hcN.2; simp only [Nat.le_refl, rm_X9_served]; omega⟩ (Nat.le_of_ble_eq_true rfl) rfl dL_law_1351 (fun r hr => ?_)
  have hr := hr.symm
  subst hr
  obtain ⟨hn2, h⟩ := ifn h
  refine r_f2d (pc := 1354) C dL_law_1354 hn2 ?_
  obtain ⟨v3, hv3, h⟩ := lt_e h
  refine r_topd hv3 ?_
  refine r_dstore (pc := 1355) C (i := 5) dL_law_1355 (by decide) rfl ?_
  refine r_aload_n (pc := 1357) C (i := 2) dL_law_1357 rfl rfl ?_
  obtain ⟨q4, hq4, h⟩ := bnd h
  refine r_callV_CF (Cn := RX10) (pc := 1358) C [] (c_X10_served E l k b T hq4) [61, 62, 63, 64, 65, 66, 67, 68, 69, 70, 71, 72, 73] (hps_hi (List.append_assoc _ _ _).symm (hp_L_204_1 E a b c0 fa S T U V)) (by decide) 0 rfl rfl rfl g_L_181 hd_X10_served ⟨Nat.le_of_ble_eq_true rfl, Nat.le_of_ble_eq_true rfl⟩ ⟨by have h1 : room_1.cells = 601024 := rfl; have h2 := hcN.1; simp only [Nat.le_refl, rm_X9_served, rm_X10_served]; omega, by have h1 : room_1.slots = 7293034 := rfl; have h2 := hcN.2; simp only [Nat.le_refl, rm_X9_served, rm_X10_served]; omega⟩ (Nat.le_of_ble_eq_true rfl) rfl dL_law_1358 (fun r w1 hw1 => ?_)
  obtain ⟨hr1, hw1⟩ := hw1
  subst hr1 hw1
  refine ⟨(wSg E a S ++ wMd E b q4.2 ++ wLo E c0 U ++ wHi E a fa V), by exact putW_hi (List.append_assoc _ _ _).symm (List.append_assoc _ _ _).symm (hp_L_204_1 E a b c0 fa S T U V) rfl (pw_L_204_1 E a b c0 fa S T U V q4.2), ?_⟩
  obtain ⟨hn5, h⟩ := ifn h
  refine r_f2d (pc := 1361) C dL_law_1361 hn5 ?_
  obtain ⟨v6, hv6, h⟩ := lt_e h
  refine r_topd hv6 ?_
  refine r_dstore (pc := 1362) C (i := 7) dL_law_1362 (by decide) rfl ?_
  refine r_dload (pc := 1364) C (i := 5) dL_law_1364 rfl ?_
  refine r_dload (pc := 1366) C (i := 7) dL_law_1366 rfl ?_
  refine r_dcmp (pc := 1368) C dL_law_1368 ?_
  refine r_if_eq (pc := 1369) C (tgt := 1390) dL_law_1369 rfl (fun c7 => ?_) (fun c7 => ?_)
  · rw [if_pos c7] at h
    refine r_goto (pc := 1390) C (tgt := 2036) dL_law_1390 rfl ?_
    cases h
    refine r_widen (k1 := cN + 20) (n1 := sN + 1600) (by simp only [Nat.le_refl, rm_X9_served, rm_X10_served]; omega) (by simp only [Nat.le_refl, rm_X9_served, rm_X10_served]; omega) ?_
    refine r_weak (lSub_s (lSub_s (lSub_s (lSub_s (lSub_s (lSub_n (lSub_n (lSub_n (lSub_n lSub_e))))))))) ?_
    exact hq fa
  · rw [if_neg c7] at h
    refine r_dload (pc := 1372) C (i := 5) dL_law_1372 rfl ?_
    refine r_dload (pc := 1374) C (i := 5) dL_law_1374 rfl ?_
    refine r_dcmp (pc := 1376) C dL_law_1376 ?_
    refine r_if_eq (pc := 1377) C (tgt := 1388) dL_law_1377 rfl (fun c8 => ?_) (fun c8 => ?_)
    · rw [if_pos c8] at h
      refine r_iconst (pc := 1388) C (v := 0) dL_law_1388 (by decide) ?_
      cases h
    · rw [if_neg c8] at h
      refine r_dload (pc := 1380) C (i := 7) dL_law_1380 rfl ?_
      refine r_dload (pc := 1382) C (i := 7) dL_law_1382 rfl ?_
      refine r_dcmp (pc := 1384) C dL_law_1384 ?_
      refine r_if_ne (pc := 1385) C (tgt := 1390) dL_law_1385 rfl (fun c9 => ?_) (fun c9 => ?_)
      · rw [if_neg c9] at h
        refine r_goto (pc := 1390) C (tgt := 2036) dL_law_1390 rfl ?_
        cases h
        refine r_widen (k1 := cN + 20) (n1 := sN + 1600) (by simp only [Nat.le_refl, rm_X9_served, rm_X10_served]; omega) (by simp only [Nat.le_refl, rm_X9_served, rm_X10_served]; omega) ?_
        refine r_weak (lSub_s (lSub_s (lSub_s (lSub_s (lSub_s (lSub_n (lSub_n (lSub_n (lSub_n lSub_e))))))))) ?_
        exact hq fa
      · rw [if_pos c9] at h
        refine r_iconst (pc := 1388) C (v := 0) dL_law_1388 (by decide) ?_
        cases h
end WALKS
