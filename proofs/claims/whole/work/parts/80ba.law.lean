section WALKS
variable {E : ENV} {p : Program} {l : Launch} {e : Env} {s : State} {m : MethodId} {args : Array Value} {below : List Frame} {meth : Method} {c : Code} {A : Nat → Prop} {bs : Nat}
theorem hd_X9_feed : yX9_feed.cls = RX9 ∧ yX9_feed.cls ≠ "java/lang/invoke/MethodHandle" ∧ yX9_feed.cls ≠ "java/lang/invoke/VarHandle" ∧ (parseMethodDescriptor yX9_feed.desc).map (fun d => d.parameters.length) = some 5 := by decide +kernel
theorem g_L_95 : GoodIn GW (wsV RL 95 RX9 yX9_feed (wsG yX9_feed cX9_feed 6 (some .int))) := gw_V wm_2_37 wm_2_38 wm_2_39 wm_1_1 wm_2_40
theorem hd_X10_feed : yX10_feed.cls = RX10 ∧ yX10_feed.cls ≠ "java/lang/invoke/MethodHandle" ∧ yX10_feed.cls ≠ "java/lang/invoke/VarHandle" ∧ (parseMethodDescriptor yX10_feed.desc).map (fun d => d.parameters.length) = some 5 := by decide +kernel
theorem g_L_99 : GoodIn GW (wsV RL 99 RX10 yX10_feed (wsG yX10_feed cX10_feed 8 (some .int))) := gw_V wm_7_207 wm_7_208 wm_7_209 wm_1_9 wm_7_210
-- the law from 204
set_option maxHeartbeats 8000000 in
theorem hp_L_204_0 (E : ENV) (a : Nat → Nat) (b : Nat → Nat) (c0 : Nat → Nat) (fa : Nat → Nat → Nat) (S : VV × VV × VV × VV × VV × Int32) (T : Nat → Nat → Int32) (U : Nat → Int64) (V : Nat × Int32 × Int32 × (Nat → VV)) : ([0, 1, 2, 3, 4, 5, 6, 7, 8, 9, 10, 11, 12, 13, 14, 15, 16, 17, 18, 19, 20, 21, 22, 23, 24, 25, 26, 27, 28, 29, 30, 31, 32, 33, 34, 35, 36, 37, 38, 39, 40, 41, 42, 43, 44, 45, 46, 47, 48, 49, 50, 51, 52, 53, 54, 55, 56, 57, 58, 59, 60] : List Nat).map (fun i => ((wSg E a S ++ wMd E b T ++ wLo E c0 U) ++ hiC E a fa V)[i]?) = (wSg E a S).map some := (seg_mapL ([] : va_W) (wSg E a S) (wMd E b T ++ (wLo E c0 U ++ (hiC E a fa V))) (by first | (simp only [wSg, List.append_assoc, List.nil_append, List.append_nil]; done) | (simp only [wSg, List.append_assoc, List.nil_append, List.append_nil]; rfl) | rfl) 61 rfl [0, 1, 2, 3, 4, 5, 6, 7, 8, 9, 10, 11, 12, 13, 14, 15, 16, 17, 18, 19, 20, 21, 22, 23, 24, 25, 26, 27, 28, 29, 30, 31, 32, 33, 34, 35, 36, 37, 38, 39, 40, 41, 42, 43, 44, 45, 46, 47, 48, 49, 50, 51, 52, 53, 54, 55, 56, 57, 58, 59, 60] (by first | (simp only [List.length_append, List.length_cons, List.length_nil, wFl_len, wTk_len, wTx_len]; rfl) | rfl))
set_option maxHeartbeats 8000000 in
theorem pw_L_204_0 (E : ENV) (a : Nat → Nat) (b : Nat → Nat) (c0 : Nat → Nat) (fa : Nat → Nat → Nat) (S : VV × VV × VV × VV × VV × Int32) (T : Nat → Nat → Int32) (U : Nat → Int64) (V : Nat × Int32 × Int32 × (Nat → VV)) (X0 : VV × VV × VV × VV × VV × Int32) : putW ((wSg E a S ++ wMd E b T ++ wLo E c0 U) ++ hiC E a fa V) [0, 1, 2, 3, 4, 5, 6, 7, 8, 9, 10, 11, 12, 13, 14, 15, 16, 17, 18, 19, 20, 21, 22, 23, 24, 25, 26, 27, 28, 29, 30, 31, 32, 33, 34, 35, 36, 37, 38, 39, 40, 41, 42, 43, 44, 45, 46, 47, 48, 49, 50, 51, 52, 53, 54, 55, 56, 57, 58, 59, 60] (wSg E a X0) = some ((wSg E a X0 ++ wMd E b T ++ wLo E c0 U) ++ hiC E a fa V) := seg_put1 ([] : va_W) (wSg E a S) (wSg E a X0) (wMd E b T ++ (wLo E c0 U ++ (hiC E a fa V))) (by first | (simp only [wSg, List.append_assoc, List.nil_append, List.append_nil]; done) | (simp only [wSg, List.append_assoc, List.nil_append, List.append_nil]; rfl) | rfl) (by first | (simp only [wSg, List.append_assoc, List.nil_append, List.append_nil]; done) | (simp only [wSg, List.append_assoc, List.nil_append, List.append_nil]; rfl) | rfl) 61 rfl rfl [0, 1, 2, 3, 4, 5, 6, 7, 8, 9, 10, 11, 12, 13, 14, 15, 16, 17, 18, 19, 20, 21, 22, 23, 24, 25, 26, 27, 28, 29, 30, 31, 32, 33, 34, 35, 36, 37, 38, 39, 40, 41, 42, 43, 44, 45, 46, 47, 48, 49, 50, 51, 52, 53, 54, 55, 56, 57, 58, 59, 60] (by first | (simp only [List.length_append, List.length_cons, List.length_nil, wFl_len, wTk_len, wTx_len]; rfl) | rfl)
set_option maxHeartbeats 8000000 in
theorem hp_L_204_1 (E : ENV) (a : Nat → Nat) (b : Nat → Nat) (c0 : Nat → Nat) (fa : Nat → Nat → Nat) (S : VV × VV × VV × VV × VV × Int32) (T : Nat → Nat → Int32) (U : Nat → Int64) (V : Nat × Int32 × Int32 × (Nat → VV)) : ([61, 62, 63, 64, 65, 66, 67, 68, 69, 70, 71, 72, 73] : List Nat).map (fun i => ((wSg E a S ++ wMd E b T ++ wLo E c0 U) ++ hiC E a fa V)[i]?) = (wMd E b T).map some := (seg_mapL (wSg E a S) (wMd E b T) (wLo E c0 U ++ (hiC E a fa V)) (by first | (simp only [wSg, List.append_assoc, List.nil_append, List.append_nil]; done) | (simp only [wSg, List.append_assoc, List.nil_append, List.append_nil]; rfl) | rfl) 13 rfl [61, 62, 63, 64, 65, 66, 67, 68, 69, 70, 71, 72, 73] (by first | (simp only [List.length_append, List.length_cons, List.length_nil, wFl_len, wTk_len, wTx_len]; rfl) | rfl))
set_option maxHeartbeats 8000000 in
theorem pw_L_204_1 (E : ENV) (a : Nat → Nat) (b : Nat → Nat) (c0 : Nat → Nat) (fa : Nat → Nat → Nat) (S : VV × VV × VV × VV × VV × Int32) (T : Nat → Nat → Int32) (U : Nat → Int64) (V : Nat × Int32 × Int32 × (Nat → VV)) (X0 : Nat → Nat → Int32) : putW ((wSg E a S ++ wMd E b T ++ wLo E c0 U) ++ hiC E a fa V) [61, 62, 63, 64, 65, 66, 67, 68, 69, 70, 71, 72, 73] (wMd E b X0) = some ((wSg E a S ++ wMd E b X0 ++ wLo E c0 U) ++ hiC E a fa V) := seg_put1 (wSg E a S) (wMd E b T) (wMd E b X0) (wLo E c0 U ++ (hiC E a fa V)) (by first | (simp only [wSg, List.append_assoc, List.nil_append, List.append_nil]; done) | (simp only [wSg, List.append_assoc, List.nil_append, List.append_nil]; rfl) | rfl) (by first | (simp only [wSg, List.append_assoc, List.nil_append, List.append_nil]; done) | (simp only [wSg, List.append_assoc, List.nil_append, List.append_nil]; rfl) | rfl) 13 rfl rfl [61, 62, 63, 64, 65, 66, 67, 68, 69, 70, 71, 72, 73] (by first | (simp only [List.length_append, List.length_cons, List.length_nil, wFl_len, wTk_len, wTx_len]; rfl) | rfl)
theorem dL_law_204 : decode cL_law 204 = .ok (.aload_n 1, 1) := by decide +kernel
theorem dL_law_205 : decode cL_law 205 = .ok (.aload_n 0, 1) := by decide +kernel
theorem dL_law_206 : decode cL_law 206 = .ok (.iload 4, 2) := by decide +kernel
theorem dL_law_208 : decode cL_law 208 = .ok (.iconst 1, 1) := by decide +kernel
theorem dL_law_209 : decode cL_law 209 = .ok (.iadd, 1) := by decide +kernel
theorem dL_law_210 : decode cL_law 210 = .ok (.iaload, 1) := by decide +kernel
theorem dL_law_211 : decode cL_law 211 = .ok (.aload_n 0, 1) := by decide +kernel
theorem dL_law_212 : decode cL_law 212 = .ok (.iload 4, 2) := by decide +kernel
theorem dL_law_214 : decode cL_law 214 = .ok (.iconst 2, 1) := by decide +kernel
theorem dL_law_215 : decode cL_law 215 = .ok (.iadd, 1) := by decide +kernel
theorem dL_law_216 : decode cL_law 216 = .ok (.iaload, 1) := by decide +kernel
theorem dL_law_217 : decode cL_law 217 = .ok (.aload_n 0, 1) := by decide +kernel
theorem dL_law_218 : decode cL_law 218 = .ok (.iload 4, 2) := by decide +kernel
theorem dL_law_220 : decode cL_law 220 = .ok (.iconst 3, 1) := by decide +kernel
theorem dL_law_221 : decode cL_law 221 = .ok (.iadd, 1) := by decide +kernel
theorem dL_law_222 : decode cL_law 222 = .ok (.iaload, 1) := by decide +kernel
theorem dL_law_223 : decode cL_law 223 = .ok (.aload_n 0, 1) := by decide +kernel
theorem dL_law_224 : decode cL_law 224 = .ok (.iload 4, 2) := by decide +kernel
theorem dL_law_226 : decode cL_law 226 = .ok (.iconst 4, 1) := by decide +kernel
theorem dL_law_227 : decode cL_law 227 = .ok (.iadd, 1) := by decide +kernel
theorem dL_law_228 : decode cL_law 228 = .ok (.iaload, 1) := by decide +kernel
theorem dL_law_229 : decode cL_law 229 = .ok (.aload_n 0, 1) := by decide +kernel
theorem dL_law_230 : decode cL_law 230 = .ok (.iload 4, 2) := by decide +kernel
theorem dL_law_232 : decode cL_law 232 = .ok (.iconst 5, 1) := by decide +kernel
theorem dL_law_233 : decode cL_law 233 = .ok (.iadd, 1) := by decide +kernel
theorem dL_law_234 : decode cL_law 234 = .ok (.iaload, 1) := by decide +kernel
theorem dL_law_235 : decode cL_law 235 = .ok (.invokevirtual 95, 3) := by decide +kernel
theorem dL_law_238 : decode cL_law 238 = .ok (.aload_n 2, 1) := by decide +kernel
theorem dL_law_239 : decode cL_law 239 = .ok (.aload_n 0, 1) := by decide +kernel
theorem dL_law_240 : decode cL_law 240 = .ok (.iload 4, 2) := by decide +kernel
theorem dL_law_242 : decode cL_law 242 = .ok (.iconst 1, 1) := by decide +kernel
theorem dL_law_243 : decode cL_law 243 = .ok (.iadd, 1) := by decide +kernel
theorem dL_law_244 : decode cL_law 244 = .ok (.iaload, 1) := by decide +kernel
theorem dL_law_245 : decode cL_law 245 = .ok (.aload_n 0, 1) := by decide +kernel
theorem dL_law_246 : decode cL_law 246 = .ok (.iload 4, 2) := by decide +kernel
theorem dL_law_248 : decode cL_law 248 = .ok (.iconst 2, 1) := by decide +kernel
theorem dL_law_249 : decode cL_law 249 = .ok (.iadd, 1) := by decide +kernel
theorem dL_law_250 : decode cL_law 250 = .ok (.iaload, 1) := by decide +kernel
theorem dL_law_251 : decode cL_law 251 = .ok (.aload_n 0, 1) := by decide +kernel
theorem dL_law_252 : decode cL_law 252 = .ok (.iload 4, 2) := by decide +kernel
theorem dL_law_254 : decode cL_law 254 = .ok (.iconst 3, 1) := by decide +kernel
theorem dL_law_255 : decode cL_law 255 = .ok (.iadd, 1) := by decide +kernel
theorem dL_law_256 : decode cL_law 256 = .ok (.iaload, 1) := by decide +kernel
theorem dL_law_257 : decode cL_law 257 = .ok (.aload_n 0, 1) := by decide +kernel
theorem dL_law_258 : decode cL_law 258 = .ok (.iload 4, 2) := by decide +kernel
theorem dL_law_260 : decode cL_law 260 = .ok (.iconst 4, 1) := by decide +kernel
theorem dL_law_261 : decode cL_law 261 = .ok (.iadd, 1) := by decide +kernel
theorem dL_law_262 : decode cL_law 262 = .ok (.iaload, 1) := by decide +kernel
theorem dL_law_263 : decode cL_law 263 = .ok (.aload_n 0, 1) := by decide +kernel
theorem dL_law_264 : decode cL_law 264 = .ok (.iload 4, 2) := by decide +kernel
theorem dL_law_266 : decode cL_law 266 = .ok (.iconst 5, 1) := by decide +kernel
theorem dL_law_267 : decode cL_law 267 = .ok (.iadd, 1) := by decide +kernel
theorem dL_law_268 : decode cL_law 268 = .ok (.iaload, 1) := by decide +kernel
theorem dL_law_269 : decode cL_law 269 = .ok (.invokevirtual 99, 3) := by decide +kernel
theorem dL_law_272 : decode cL_law 272 = .ok (.if_icmp .eq 1764, 3) := by decide +kernel
theorem dL_law_275 : decode cL_law 275 = .ok (.iconst 0, 1) := by decide +kernel
theorem dL_law_276 : decode cL_law 276 = .ok (.ireturn, 1) := by decide +kernel
def M_L_204_204 (k Ls : Nat) (xs : Nat → Int32) (x4 : Int32) (S : VV × VV × VV × VV × VV × Int32) (T : Nat → Nat → Int32) (U : Nat → Int64) (V : Nat × Int32 × Int32 × (Nat → VV)) : Option ((VV × VV × VV × VV × VV × Int32) × (Nat → Nat → Int32) × (Nat → Int64) × (Nat × Int32 × Int32 × (Nat → VV))) := (if inb (x4 + (1 : Int32)) Ls = true then (if inb (x4 + (2 : Int32)) Ls = true then (if inb (x4 + (3 : Int32)) Ls = true then (if inb (x4 + (4 : Int32)) Ls = true then (if inb (x4 + (5 : Int32)) Ls = true then (M_X9_feed k S (xs (x4 + (1 : Int32)).toNatClampNeg) (xs (x4 + (2 : Int32)).toNatClampNeg) (xs (x4 + (3 : Int32)).toNatClampNeg) (xs (x4 + (4 : Int32)).toNatClampNeg) (xs (x4 + (5 : Int32)).toNatClampNeg)).bind fun q6 => (if inb (x4 + (1 : Int32)) Ls = true then (if inb (x4 + (2 : Int32)) Ls = true then (if inb (x4 + (3 : Int32)) Ls = true then (if inb (x4 + (4 : Int32)) Ls = true then (if inb (x4 + (5 : Int32)) Ls = true then (M_X10_feed k T (xs (x4 + (1 : Int32)).toNatClampNeg) (xs (x4 + (2 : Int32)).toNatClampNeg) (xs (x4 + (3 : Int32)).toNatClampNeg) (xs (x4 + (4 : Int32)).toNatClampNeg) (xs (x4 + (5 : Int32)).toNatClampNeg)).bind fun q12 => if q6.1 = q12.1 then (some (q6.2, q12.2, U, V)) else (none) else none) else none) else none) else none) else none) else none) else none) else none) else none) else none)
set_option maxRecDepth 100000 in
set_option maxHeartbeats 4000000 in
theorem N_L_204_204 (C : CX E p l s m #[Value.ref bs] meth c cL_law 9 RL ret A) (a : Nat → Nat) (b : Nat → Nat) (c0 : Nat → Nat) (k Ls : Nat) (xs : Nat → Int32) (hX : va_X bs Ls xs s s.heap) (hbl : bs < s.heap.size) (hbA : ¬ A bs) (hlt : l.stackTraces = false) (hdc : DC s) (cN sN : Nat) (hcN : cN + 20 ≤ 601024 ∧ sN + 1600 ≤ 7293034) (fa : Nat → Nat → Nat) :
    ∀ (x4 : Int32) (S : VV × VV × VV × VV × VV × Int32) (T : Nat → Nat → Int32) (U : Nat → Int64) (V : Nat × Int32 × Int32 × (Nat → VV)) (q : (VV × VV × VV × VV × VV × Int32) × (Nat → Nat → Int32) × (Nat → Int64) × (Nat × Int32 × Int32 × (Nat → VV))), M_L_204_204 k Ls xs x4 S T U V = some q → (∀ fa' : Nat → Nat → Nat, WW E p l e room_1 s m #[Value.ref bs] below meth c A (cN + 20) (sN + 1600) (lw_Z below #[Value.ref bs] s) (wSg E a q.1 ++ wMd E b q.2.1 ++ wLo E c0 q.2.2.1 ++ wHi E a fa' q.2.2.2) 9 [some (.ref bs), some (.ref (a 0)), some (.ref (b 0)), some (.ref (c0 0)), some (.int x4), none, none, none, none] 2036 []) →
      WW E p l e room_1 s m #[Value.ref bs] below meth c A (cN + 0) (sN + 0) (lw_Z below #[Value.ref bs] s) (wSg E a S ++ wMd E b T ++ wLo E c0 U ++ wHi E a fa V) 9 [some (.ref bs), some (.ref (a 0)), some (.ref (b 0)), some (.ref (c0 0)), some (.int x4), none, none, none, none] 204 [] := by
  intro x4 S T U V q  h hq
  unfold M_L_204_204 at h
  refine r_aload_n (pc := 204) C (i := 1) dL_law_204 rfl rfl ?_
  refine r_aload_n (pc := 205) C (i := 0) dL_law_205 rfl rfl ?_
  refine r_iload (pc := 206) C (i := 4) dL_law_206 rfl ?_
  refine r_iconst (pc := 208) C (v := 1) dL_law_208 (by decide) ?_
  refine r_iadd (pc := 209) C dL_law_209 ?_
  obtain ⟨hi1, h⟩ := ifn h
  refine r_sld (pc := 210) C hX hbl hbA hi1 dL_law_210 ?_
  refine r_aload_n (pc := 211) C (i := 0) dL_law_211 rfl rfl ?_
  refine r_iload (pc := 212) C (i := 4) dL_law_212 rfl ?_
  refine r_iconst (pc := 214) C (v := 2) dL_law_214 (by decide) ?_
  refine r_iadd (pc := 215) C dL_law_215 ?_
  obtain ⟨hi2, h⟩ := ifn h
  refine r_sld (pc := 216) C hX hbl hbA hi2 dL_law_216 ?_
  refine r_aload_n (pc := 217) C (i := 0) dL_law_217 rfl rfl ?_
  refine r_iload (pc := 218) C (i := 4) dL_law_218 rfl ?_
  refine r_iconst (pc := 220) C (v := 3) dL_law_220 (by decide) ?_
  refine r_iadd (pc := 221) C dL_law_221 ?_
  obtain ⟨hi3, h⟩ := ifn h
  refine r_sld (pc := 222) C hX hbl hbA hi3 dL_law_222 ?_
  refine r_aload_n (pc := 223) C (i := 0) dL_law_223 rfl rfl ?_
  refine r_iload (pc := 224) C (i := 4) dL_law_224 rfl ?_
  refine r_iconst (pc := 226) C (v := 4) dL_law_226 (by decide) ?_
  refine r_iadd (pc := 227) C dL_law_227 ?_
  obtain ⟨hi4, h⟩ := ifn h
  refine r_sld (pc := 228) C hX hbl hbA hi4 dL_law_228 ?_
  refine r_aload_n (pc := 229) C (i := 0) dL_law_229 rfl rfl ?_
  refine r_iload (pc := 230) C (i := 4) dL_law_230 rfl ?_
  refine r_iconst (pc := 232) C (v := 5) dL_law_232 (by decide) ?_
  refine r_iadd (pc := 233) C dL_law_233 ?_
  obtain ⟨hi5, h⟩ := ifn h
  refine r_sld (pc := 234) C hX hbl hbA hi5 dL_law_234 ?_
  obtain ⟨q6, hq6, h⟩ := bnd h
  refine r_callV_CI (Cn := RX9) (pc := 235) C [.int (xs (x4 + (1 : Int32)).toNatClampNeg), .int (xs (x4 + (2 : Int32)).toNatClampNeg), .int (xs (x4 + (3 : Int32)).toNatClampNeg), .int (xs (x4 + (4 : Int32)).toNatClampNeg), .int (xs (x4 + (5 : Int32)).toNatClampNeg)] (c_X9_feed E l k a S (xs (x4 + (1 : Int32)).toNatClampNeg) (xs (x4 + (2 : Int32)).toNatClampNeg) (xs (x4 + (3 : Int32)).toNatClampNeg) (xs (x4 + (4 : Int32)).toNatClampNeg) (xs (x4 + (5 : Int32)).toNatClampNeg) hq6) [0, 1, 2, 3, 4, 5, 6, 7, 8, 9, 10, 11, 12, 13, 14, 15, 16, 17, 18, 19, 20, 21, 22, 23, 24, 25, 26, 27, 28, 29, 30, 31, 32, 33, 34, 35, 36, 37, 38, 39, 40, 41, 42, 43, 44, 45, 46, 47, 48, 49, 50, 51, 52, 53, 54, 55, 56, 57, 58, 59, 60] (hps_hi (List.append_assoc _ _ _).symm (hp_L_204_0 E a b c0 fa S T U V)) (by decide) 0 rfl rfl rfl g_L_95 hd_X9_feed ⟨Nat.le_of_ble_eq_true rfl, Nat.le_of_ble_eq_true rfl⟩ ⟨by have h1 : room_1.cells = 601024 := rfl; have h2 := hcN.1; simp only [Nat.le_refl, rm_X9_feed]; omega, by have h1 : room_1.slots = 7293034 := rfl; have h2 := hcN.2; simp only [Nat.le_refl, rm_X9_feed]; omega⟩ (Nat.le_of_ble_eq_true rfl) rfl dL_law_235 (fun r w1 hw1 => ?_)
  obtain ⟨hr1, hw1⟩ := hw1
  subst hr1 hw1
  refine ⟨(wSg E a q6.2 ++ wMd E b T ++ wLo E c0 U ++ wHi E a fa V), by exact putW_hi (List.append_assoc _ _ _).symm (List.append_assoc _ _ _).symm (hp_L_204_0 E a b c0 fa S T U V) rfl (pw_L_204_0 E a b c0 fa S T U V q6.2), ?_⟩
  refine r_aload_n (pc := 238) C (i := 2) dL_law_238 rfl rfl ?_
  refine r_aload_n (pc := 239) C (i := 0) dL_law_239 rfl rfl ?_
  refine r_iload (pc := 240) C (i := 4) dL_law_240 rfl ?_
  refine r_iconst (pc := 242) C (v := 1) dL_law_242 (by decide) ?_
  refine r_iadd (pc := 243) C dL_law_243 ?_
  obtain ⟨hi7, h⟩ := ifn h
  refine r_sld (pc := 244) C hX hbl hbA hi7 dL_law_244 ?_
  refine r_aload_n (pc := 245) C (i := 0) dL_law_245 rfl rfl ?_
  refine r_iload (pc := 246) C (i := 4) dL_law_246 rfl ?_
  refine r_iconst (pc := 248) C (v := 2) dL_law_248 (by decide) ?_
  refine r_iadd (pc := 249) C dL_law_249 ?_
  obtain ⟨hi8, h⟩ := ifn h
  refine r_sld (pc := 250) C hX hbl hbA hi8 dL_law_250 ?_
  refine r_aload_n (pc := 251) C (i := 0) dL_law_251 rfl rfl ?_
  refine r_iload (pc := 252) C (i := 4) dL_law_252 rfl ?_
  refine r_iconst (pc := 254) C (v := 3) dL_law_254 (by decide) ?_
  refine r_iadd (pc := 255) C dL_law_255 ?_
  obtain ⟨hi9, h⟩ := ifn h
  refine r_sld (pc := 256) C hX hbl hbA hi9 dL_law_256 ?_
  refine r_aload_n (pc := 257) C (i := 0) dL_law_257 rfl rfl ?_
  refine r_iload (pc := 258) C (i := 4) dL_law_258 rfl ?_
  refine r_iconst (pc := 260) C (v := 4) dL_law_260 (by decide) ?_
  refine r_iadd (pc := 261) C dL_law_261 ?_
  obtain ⟨hi10, h⟩ := ifn h
  refine r_sld (pc := 262) C hX hbl hbA hi10 dL_law_262 ?_
  refine r_aload_n (pc := 263) C (i := 0) dL_law_263 rfl rfl ?_
  refine r_iload (pc := 264) C (i := 4) dL_law_264 rfl ?_
  refine r_iconst (pc := 266) C (v := 5) dL_law_266 (by decide) ?_
  refine r_iadd (pc := 267) C dL_law_267 ?_
  obtain ⟨hi11, h⟩ := ifn h
  refine r_sld (pc := 268) C hX hbl hbA hi11 dL_law_268 ?_
  obtain ⟨q12, hq12, h⟩ := bnd h
  refine r_callV_CI (Cn := RX10) (pc := 269) C [.int (xs (x4 + (1 : Int32)).toNatClampNeg), .int (xs (x4 + (2 : Int32)).toNatClampNeg), .int (xs (x4 + (3 : Int32)).toNatClampNeg), .int (xs (x4 + (4 : Int32)).toNatClampNeg), .int (xs (x4 + (5 : Int32)).toNatClampNeg)] (c_X10_feed E l k b T (xs (x4 + (1 : Int32)).toNatClampNeg) (xs (x4 + (2 : Int32)).toNatClampNeg) (xs (x4 + (3 : Int32)).toNatClampNeg) (xs (x4 + (4 : Int32)).toNatClampNeg) (xs (x4 + (5 : Int32)).toNatClampNeg) hq12) [61, 62, 63, 64, 65, 66, 67, 68, 69, 70, 71, 72, 73] (hps_hi (List.append_assoc _ _ _).symm (hp_L_204_1 E a b c0 fa q6.2 T U V)) (by decide) 0 rfl rfl rfl g_L_99 hd_X10_feed ⟨Nat.le_of_ble_eq_true rfl, Nat.le_of_ble_eq_true rfl⟩ ⟨by have h1 : room_1.cells = 601024 := rfl; have h2 := hcN.1; simp only [Nat.le_refl, rm_X9_feed, rm_X10_feed]; omega, by have h1 : room_1.slots = 7293034 := rfl; have h2 := hcN.2; simp only [Nat.le_refl, rm_X9_feed, rm_X10_feed]; omega⟩ (Nat.le_of_ble_eq_true rfl) rfl dL_law_269 (fun r w1 hw1 => ?_)
  obtain ⟨hr1, hw1⟩ := hw1
  subst hr1 hw1
  refine ⟨(wSg E a q6.2 ++ wMd E b q12.2 ++ wLo E c0 U ++ wHi E a fa V), by exact putW_hi (List.append_assoc _ _ _).symm (List.append_assoc _ _ _).symm (hp_L_204_1 E a b c0 fa q6.2 T U V) rfl (pw_L_204_1 E a b c0 fa q6.2 T U V q12.2), ?_⟩
  refine r_icmp_eq (pc := 272) C (tgt := 2036) dL_law_272 rfl (fun c13 => ?_) (fun c13 => ?_)
  · rw [if_pos c13] at h
    cases h
    refine r_widen (k1 := cN + 20) (n1 := sN + 1600) (by simp only [Nat.le_refl, rm_X9_feed, rm_X10_feed]; omega) (by simp only [Nat.le_refl, rm_X9_feed, rm_X10_feed]; omega) ?_
    refine r_weak (lSub_s (lSub_s (lSub_s (lSub_s (lSub_s (lSub_n (lSub_n (lSub_n (lSub_n lSub_e))))))))) ?_
    exact hq fa
  · rw [if_neg c13] at h
    refine r_iconst (pc := 275) C (v := 0) dL_law_275 (by decide) ?_
    cases h
theorem hd_X10_load : yX10_load.cls = RX10 ∧ yX10_load.cls ≠ "java/lang/invoke/MethodHandle" ∧ yX10_load.cls ≠ "java/lang/invoke/VarHandle" ∧ (parseMethodDescriptor yX10_load.desc).map (fun d => d.parameters.length) = some 1 := by decide +kernel
theorem g_L_105 : GoodIn GW (wsV RL 105 RX10 yX10_load (wsG yX10_load cX10_load 2 (some .int))) := gw_V wm_7_215 wm_7_216 wm_7_217 wm_1_9 wm_7_218
theorem hd_X10_thrown : yX10_thrown.cls = RX10 ∧ yX10_thrown.cls ≠ "java/lang/invoke/MethodHandle" ∧ yX10_thrown.cls ≠ "java/lang/invoke/VarHandle" ∧ (parseMethodDescriptor yX10_thrown.desc).map (fun d => d.parameters.length) = some 0 := by decide +kernel
theorem g_L_106 : GoodIn GW (wsV RL 106 RX10 yX10_thrown (wsG yX10_thrown cX10_thrown 1 (some .int))) := gw_V wm_6_49 wm_6_50 wm_6_51 wm_1_9 wm_6_52
theorem hd_L_load : yL_load.cls = RL ∧ yL_load.cls ≠ "java/lang/invoke/MethodHandle" ∧ yL_load.cls ≠ "java/lang/invoke/VarHandle" ∧ (parseMethodDescriptor yL_load.desc).map (fun d => d.parameters.length) = some 3 := by decide +kernel
theorem gL_100 : GoodIn GW (va_wsS RL 100 yL_load (Cond.codeWith yL_load cL_load 4 (some .int) [(0, 9, 12, 13)] :: GW)) := gw_SW wm_2_178 wm_2_179 wm_1_0 wm_2_180
-- the law from 277
theorem dL_law_277 : decode cL_law 277 = .ok (.aload_n 1, 1) := by decide +kernel
theorem dL_law_278 : decode cL_law 278 = .ok (.aload_n 0, 1) := by decide +kernel
theorem dL_law_279 : decode cL_law 279 = .ok (.iload 4, 2) := by decide +kernel
theorem dL_law_281 : decode cL_law 281 = .ok (.iconst 1, 1) := by decide +kernel
theorem dL_law_282 : decode cL_law 282 = .ok (.iadd, 1) := by decide +kernel
theorem dL_law_283 : decode cL_law 283 = .ok (.iaload, 1) := by decide +kernel
theorem dL_law_284 : decode cL_law 284 = .ok (.aload_n 3, 1) := by decide +kernel
theorem dL_law_285 : decode cL_law 285 = .ok (.invokestatic 100, 3) := by decide +kernel
theorem dL_law_288 : decode cL_law 288 = .ok (.istore 5, 2) := by decide +kernel
theorem dL_law_290 : decode cL_law 290 = .ok (.aload_n 2, 1) := by decide +kernel
theorem dL_law_291 : decode cL_law 291 = .ok (.aload_n 0, 1) := by decide +kernel
theorem dL_law_292 : decode cL_law 292 = .ok (.iload 4, 2) := by decide +kernel
theorem dL_law_294 : decode cL_law 294 = .ok (.iconst 1, 1) := by decide +kernel
theorem dL_law_295 : decode cL_law 295 = .ok (.iadd, 1) := by decide +kernel
theorem dL_law_296 : decode cL_law 296 = .ok (.iaload, 1) := by decide +kernel
theorem dL_law_297 : decode cL_law 297 = .ok (.invokevirtual 105, 3) := by decide +kernel
theorem dL_law_300 : decode cL_law 300 = .ok (.istore 6, 2) := by decide +kernel
theorem dL_law_302 : decode cL_law 302 = .ok (.aload_n 2, 1) := by decide +kernel
theorem dL_law_303 : decode cL_law 303 = .ok (.invokevirtual 106, 3) := by decide +kernel
theorem dL_law_306 : decode cL_law 306 = .ok (.iload 5, 2) := by decide +kernel
theorem dL_law_308 : decode cL_law 308 = .ok (.if_icmp .eq 5, 3) := by decide +kernel
theorem dL_law_311 : decode cL_law 311 = .ok (.iconst 0, 1) := by decide +kernel
theorem dL_law_312 : decode cL_law 312 = .ok (.ireturn, 1) := by decide +kernel
theorem dL_law_313 : decode cL_law 313 = .ok (.iload 5, 2) := by decide +kernel
theorem dL_law_315 : decode cL_law 315 = .ok (.ifCond .ne 15, 3) := by decide +kernel
theorem dL_law_318 : decode cL_law 318 = .ok (.aload_n 3, 1) := by decide +kernel
theorem dL_law_319 : decode cL_law 319 = .ok (.iconst 0, 1) := by decide +kernel
theorem dL_law_320 : decode cL_law 320 = .ok (.laload, 1) := by decide +kernel
theorem dL_law_321 : decode cL_law 321 = .ok (.iload 6, 2) := by decide +kernel
theorem dL_law_323 : decode cL_law 323 = .ok (.i2l, 1) := by decide +kernel
theorem dL_law_324 : decode cL_law 324 = .ok (.lcmp, 1) := by decide +kernel
theorem dL_law_325 : decode cL_law 325 = .ok (.ifCond .eq 5, 3) := by decide +kernel
theorem dL_law_328 : decode cL_law 328 = .ok (.iconst 0, 1) := by decide +kernel
theorem dL_law_329 : decode cL_law 329 = .ok (.ireturn, 1) := by decide +kernel
theorem dL_law_330 : decode cL_law 330 = .ok (.goto 1706, 3) := by decide +kernel
def M_L_277_277 (k Ls : Nat) (xs : Nat → Int32) (x4 : Int32) (S : VV × VV × VV × VV × VV × Int32) (T : Nat → Nat → Int32) (U : Nat → Int64) (V : Nat × Int32 × Int32 × (Nat → VV)) : Option ((VV × VV × VV × VV × VV × Int32) × (Nat → Nat → Int32) × (Nat → Int64) × (Nat × Int32 × Int32 × (Nat → VV))) := (if inb (x4 + (1 : Int32)) Ls = true then (M_L_load k S V U (xs (x4 + (1 : Int32)).toNatClampNeg)).bind fun q2 => (if inb (x4 + (1 : Int32)) Ls = true then (M_X10_load k T (xs (x4 + (1 : Int32)).toNatClampNeg)).bind fun q5 => (M_X10_thrown k q5.2).bind fun q6 => if q6 = q2.1 then (if q2.1 = 0 then ((if inb (0 : Int32) 1 = true then if (lg_cmp (q2.2.2.2 (0 : Int32).toNatClampNeg) (q5.1.toInt64)) = 0 then (some (q2.2.1, q5.2, q2.2.2.2, q2.2.2.1)) else (none) else none)) else (some (q2.2.1, q5.2, q2.2.2.2, q2.2.2.1))) else (none) else none) else none)
set_option maxRecDepth 100000 in
set_option maxHeartbeats 4000000 in
theorem N_L_277_277 (C : CX E p l s m #[Value.ref bs] meth c cL_law 9 RL ret A) (a : Nat → Nat) (b : Nat → Nat) (c0 : Nat → Nat) (k Ls : Nat) (xs : Nat → Int32) (hX : va_X bs Ls xs s s.heap) (hbl : bs < s.heap.size) (hbA : ¬ A bs) (hlt : l.stackTraces = false) (hdc : DC s) (cN sN : Nat) (hcN : cN + 20 ≤ 601024 ∧ sN + 1600 ≤ 7293034) (fa : Nat → Nat → Nat) :
    ∀ (x4 : Int32) (S : VV × VV × VV × VV × VV × Int32) (T : Nat → Nat → Int32) (U : Nat → Int64) (V : Nat × Int32 × Int32 × (Nat → VV)) (q : (VV × VV × VV × VV × VV × Int32) × (Nat → Nat → Int32) × (Nat → Int64) × (Nat × Int32 × Int32 × (Nat → VV))), M_L_277_277 k Ls xs x4 S T U V = some q → (∀ fa' : Nat → Nat → Nat, WW E p l e room_1 s m #[Value.ref bs] below meth c A (cN + 20) (sN + 1600) (lw_Z below #[Value.ref bs] s) (wSg E a q.1 ++ wMd E b q.2.1 ++ wLo E c0 q.2.2.1 ++ wHi E a fa' q.2.2.2) 9 [some (.ref bs), some (.ref (a 0)), some (.ref (b 0)), some (.ref (c0 0)), some (.int x4), none, none, none, none] 2036 []) →
      WW E p l e room_1 s m #[Value.ref bs] below meth c A (cN + 0) (sN + 0) (lw_Z below #[Value.ref bs] s) (wSg E a S ++ wMd E b T ++ wLo E c0 U ++ wHi E a fa V) 9 [some (.ref bs), some (.ref (a 0)), some (.ref (b 0)), some (.ref (c0 0)), some (.int x4), none, none, none, none] 277 [] := by
  intro x4 S T U V q  h hq
  unfold M_L_277_277 at h
  refine r_aload_n (pc := 277) C (i := 1) dL_law_277 rfl rfl ?_
  refine r_aload_n (pc := 278) C (i := 0) dL_law_278 rfl rfl ?_
  refine r_iload (pc := 279) C (i := 4) dL_law_279 rfl ?_
  refine r_iconst (pc := 281) C (v := 1) dL_law_281 (by decide) ?_
  refine r_iadd (pc := 282) C dL_law_282 ?_
  obtain ⟨hi1, h⟩ := ifn h
  refine r_sld (pc := 283) C hX hbl hbA hi1 dL_law_283 ?_
  refine r_aload_n (pc := 284) C (i := 3) dL_law_284 rfl rfl ?_
  obtain ⟨q2, hq2, h⟩ := bnd h
  refine r_callSHT (c0 := (wSg E a S ++ ([(c0 0, .inl (eC E 1, 1, .inr (.inl U)))] ++ hiC E a fa V))) (w0 := (wSg E a S ++ wMd E b T ++ wLo E c0 U ++ hiC E a fa V)) (t := hiT E fa V) (pc := 285) C [.ref (a 0), .int (xs (x4 + (1 : Int32)).toNatClampNeg), .ref (c0 0)] hdc (c_L_load E l k a (c0 0) fa S V U (xs (x4 + (1 : Int32)).toNatClampNeg) hlt hq2) [0, 1, 2, 3, 4, 5, 6, 7, 8, 9, 10, 11, 12, 13, 14, 15, 16, 17, 18, 19, 20, 21, 22, 23, 24, 25, 26, 27, 28, 29, 30, 31, 32, 33, 34, 35, 36, 37, 38, 39, 40, 41, 42, 43, 44, 45, 46, 47, 48, 49, 50, 51, 52, 53, 54, 55, 56, 57, 58, 59, 60, 74, 75, 76] (hpL2 E a b c0 fa S T U V) (by decide) gL_100 hd_L_load.2 ⟨Nat.le_of_ble_eq_true rfl, Nat.le_of_ble_eq_true rfl⟩ ⟨by have h1 : room_1.cells = 601024 := rfl; have h2 := hcN.1; simp only [Nat.le_refl, rm_L_load]; omega, by have h1 : room_1.slots = 7293034 := rfl; have h2 := hcN.2; simp only [Nat.le_refl, rm_L_load]; omega⟩ (Nat.le_of_ble_eq_true rfl) rfl dL_law_285 (List.append_assoc _ _ _).symm (fun r w1 hw1 => ?_)
  obtain ⟨hr1, fa3, hw1, hmo⟩ := hw1
  subst hr1 hw1
  refine ⟨(wSg E a q2.2.1 ++ ([(c0 0, .inl (eC E 1, 1, .inr (.inl q2.2.2.2)))] ++ hiC E a fa3 q2.2.2.1)), hiT E fa3 q2.2.2.1, (wSg E a q2.2.1 ++ wMd E b T ++ wLo E c0 q2.2.2.2 ++ hiC E a fa3 q2.2.2.1), rfl, ?_, ?_, ?_, ?_⟩
  · exact len_L2 E a (c0 0) fa fa3 S q2.2.1 U q2.2.2.2 V q2.2.2.1
  · exact hiT_le hmo
  · exact pwL2 E a b c0 fa fa3 S T U V q2.2.1 q2.2.2.2 q2.2.2.1
  refine r_world (w' := (wSg E a q2.2.1 ++ wMd E b T ++ wLo E c0 q2.2.2.2 ++ wHi E a fa3 q2.2.2.1)) (List.append_assoc _ _ _) ?_
  refine r_istore (pc := 288) C (i := 5) dL_law_288 (by decide) rfl ?_
  refine r_aload_n (pc := 290) C (i := 2) dL_law_290 rfl rfl ?_
  refine r_aload_n (pc := 291) C (i := 0) dL_law_291 rfl rfl ?_
  refine r_iload (pc := 292) C (i := 4) dL_law_292 rfl ?_
  refine r_iconst (pc := 294) C (v := 1) dL_law_294 (by decide) ?_
  refine r_iadd (pc := 295) C dL_law_295 ?_
  obtain ⟨hi4, h⟩ := ifn h
  refine r_sld (pc := 296) C hX hbl hbA hi4 dL_law_296 ?_
  obtain ⟨q5, hq5, h⟩ := bnd h
  refine r_callV_CI (Cn := RX10) (pc := 297) C [.int (xs (x4 + (1 : Int32)).toNatClampNeg)] (c_X10_load E l k b T (xs (x4 + (1 : Int32)).toNatClampNeg) hq5) [61, 62, 63, 64, 65, 66, 67, 68, 69, 70, 71, 72, 73] (hps_hi (List.append_assoc _ _ _).symm (hp_L_204_1 E a b c0 fa3 q2.2.1 T q2.2.2.2 q2.2.2.1)) (by decide) 0 rfl rfl rfl g_L_105 hd_X10_load ⟨Nat.le_of_ble_eq_true rfl, Nat.le_of_ble_eq_true rfl⟩ ⟨by have h1 : room_1.cells = 601024 := rfl; have h2 := hcN.1; simp only [Nat.le_refl, rm_L_load, rm_X10_load]; omega, by have h1 : room_1.slots = 7293034 := rfl; have h2 := hcN.2; simp only [Nat.le_refl, rm_L_load, rm_X10_load]; omega⟩ (Nat.le_of_ble_eq_true rfl) rfl dL_law_297 (fun r w1 hw1 => ?_)
  obtain ⟨hr1, hw1⟩ := hw1
  subst hr1 hw1
  refine ⟨(wSg E a q2.2.1 ++ wMd E b q5.2 ++ wLo E c0 q2.2.2.2 ++ wHi E a fa3 q2.2.2.1), by exact putW_hi (List.append_assoc _ _ _).symm (List.append_assoc _ _ _).symm (hp_L_204_1 E a b c0 fa3 q2.2.1 T q2.2.2.2 q2.2.2.1) rfl (pw_L_204_1 E a b c0 fa3 q2.2.1 T q2.2.2.2 q2.2.2.1 q5.2), ?_⟩
  refine r_istore (pc := 300) C (i := 6) dL_law_300 (by decide) rfl ?_
  refine r_aload_n (pc := 302) C (i := 2) dL_law_302 rfl rfl ?_
  obtain ⟨q6, hq6, h⟩ := bnd h
  refine r_callVp_CI (Cn := RX10) (pc := 303) C [] (c_X10_thrown E l k b q5.2 hq6) [61, 62, 63, 64, 65, 66, 67, 68, 69, 70, 71, 72, 73] (hps_hi (List.append_assoc _ _ _).symm (hp_L_204_1 E a b c0 fa3 q2.2.1 q5.2 q2.2.2.2 q2.2.2.1)) (by decide) 0 rfl rfl rfl g_L_106 hd_X10_thrown ⟨Nat.le_of_ble_eq_true rfl, Nat.le_of_ble_eq_true rfl⟩ ⟨by have h1 : room_1.cells = 601024 := rfl; have h2 := hcN.1; simp only [Nat.le_refl, rm_L_load, rm_X10_load, rm_X10_thrown]; omega, by have h1 : room_1.slots = 7293034 := rfl; have h2 := hcN.2; simp only [Nat.le_refl, rm_L_load, rm_X10_load, rm_X10_thrown]; omega⟩ (Nat.le_of_ble_eq_true rfl) rfl dL_law_303 (fun r hr => ?_)
  have hr := hr.symm
  subst hr
  refine r_iload (pc := 306) C (i := 5) dL_law_306 rfl ?_
  refine r_icmp_eq (pc := 308) C (tgt := 313) dL_law_308 rfl (fun c7 => ?_) (fun c7 => ?_)
  · rw [if_pos c7] at h
    refine r_iload (pc := 313) C (i := 5) dL_law_313 rfl ?_
    refine r_if_ne (pc := 315) C (tgt := 330) dL_law_315 rfl (fun c8 => ?_) (fun c8 => ?_)
    · rw [if_neg c8] at h
      refine r_goto (pc := 330) C (tgt := 2036) dL_law_330 rfl ?_
      cases h
      refine r_widen (k1 := cN + 20) (n1 := sN + 1600) (by simp only [Nat.le_refl, rm_L_load, rm_X10_load, rm_X10_thrown]; omega) (by simp only [Nat.le_refl, rm_L_load, rm_X10_load, rm_X10_thrown]; omega) ?_
      refine r_weak (lSub_s (lSub_s (lSub_s (lSub_s (lSub_s (lSub_n (lSub_n (lSub_n (lSub_n lSub_e))))))))) ?_
      exact hq fa3
    · rw [if_pos c8] at h
      refine r_aload_n (pc := 318) C (i := 3) dL_law_318 rfl rfl ?_
      refine r_iconst (pc := 319) C (v := 0) dL_law_319 (by decide) ?_
      obtain ⟨hi9, h⟩ := ifn h
      refine r_lald (pc := 320) C 74 rfl hi9 dL_law_320 ?_
      refine r_iload (pc := 321) C (i := 6) dL_law_321 rfl ?_
      refine r_i2l (pc := 323) C dL_law_323 ?_
      refine r_lcmp (pc := 324) C dL_law_324 ?_
      refine r_if_eq (pc := 325) C (tgt := 330) dL_law_325 rfl (fun c10 => ?_) (fun c10 => ?_)
      · rw [if_pos c10] at h
        refine r_goto (pc := 330) C (tgt := 2036) dL_law_330 rfl ?_
        cases h
        refine r_widen (k1 := cN + 20) (n1 := sN + 1600) (by simp only [Nat.le_refl, rm_L_load, rm_X10_load, rm_X10_thrown]; omega) (by simp only [Nat.le_refl, rm_L_load, rm_X10_load, rm_X10_thrown]; omega) ?_
        refine r_weak (lSub_s (lSub_s (lSub_s (lSub_s (lSub_s (lSub_n (lSub_n (lSub_n (lSub_n lSub_e))))))))) ?_
        exact hq fa3
      · rw [if_neg c10] at h
        refine r_iconst (pc := 328) C (v := 0) dL_law_328 (by decide) ?_
        cases h
  · rw [if_neg c7] at h
    refine r_iconst (pc := 311) C (v := 0) dL_law_311 (by decide) ?_
    cases h
theorem hd_X9_errorPosition : yX9_errorPosition.cls = RX9 ∧ yX9_errorPosition.cls ≠ "java/lang/invoke/MethodHandle" ∧ yX9_errorPosition.cls ≠ "java/lang/invoke/VarHandle" ∧ (parseMethodDescriptor yX9_errorPosition.desc).map (fun d => d.parameters.length) = some 0 := by decide +kernel
theorem g_L_110 : GoodIn GW (wsV RL 110 RX9 yX9_errorPosition (wsG yX9_errorPosition cX9_errorPosition 1 (some .int))) := gw_V wm_2_46 wm_2_47 wm_2_48 wm_1_1 wm_2_49
theorem hd_X10_errorPosition : yX10_errorPosition.cls = RX10 ∧ yX10_errorPosition.cls ≠ "java/lang/invoke/MethodHandle" ∧ yX10_errorPosition.cls ≠ "java/lang/invoke/VarHandle" ∧ (parseMethodDescriptor yX10_errorPosition.desc).map (fun d => d.parameters.length) = some 0 := by decide +kernel
theorem g_L_113 : GoodIn GW (wsV RL 113 RX10 yX10_errorPosition (wsG yX10_errorPosition cX10_errorPosition 1 (some .int))) := gw_V wm_7_211 wm_7_212 wm_7_213 wm_1_9 wm_7_214
-- the law from 333
theorem dL_law_333 : decode cL_law 333 = .ok (.aload_n 1, 1) := by decide +kernel
theorem dL_law_334 : decode cL_law 334 = .ok (.invokevirtual 110, 3) := by decide +kernel
theorem dL_law_337 : decode cL_law 337 = .ok (.aload_n 2, 1) := by decide +kernel
theorem dL_law_338 : decode cL_law 338 = .ok (.invokevirtual 113, 3) := by decide +kernel
theorem dL_law_341 : decode cL_law 341 = .ok (.if_icmp .eq 1695, 3) := by decide +kernel
theorem dL_law_344 : decode cL_law 344 = .ok (.iconst 0, 1) := by decide +kernel
theorem dL_law_345 : decode cL_law 345 = .ok (.ireturn, 1) := by decide +kernel
def M_L_333_333 (k Ls : Nat) (xs : Nat → Int32) (x4 : Int32) (S : VV × VV × VV × VV × VV × Int32) (T : Nat → Nat → Int32) (U : Nat → Int64) (V : Nat × Int32 × Int32 × (Nat → VV)) : Option ((VV × VV × VV × VV × VV × Int32) × (Nat → Nat → Int32) × (Nat → Int64) × (Nat × Int32 × Int32 × (Nat → VV))) := (M_X9_errorPosition k S).bind fun q1 => (M_X10_errorPosition k T).bind fun q2 => if q1 = q2.1 then (some (S, q2.2, U, V)) else (none)
set_option maxRecDepth 100000 in
set_option maxHeartbeats 4000000 in
theorem N_L_333_333 (C : CX E p l s m #[Value.ref bs] meth c cL_law 9 RL ret A) (a : Nat → Nat) (b : Nat → Nat) (c0 : Nat → Nat) (k Ls : Nat) (xs : Nat → Int32) (hX : va_X bs Ls xs s s.heap) (hbl : bs < s.heap.size) (hbA : ¬ A bs) (hlt : l.stackTraces = false) (hdc : DC s) (cN sN : Nat) (hcN : cN + 20 ≤ 601024 ∧ sN + 1600 ≤ 7293034) (fa : Nat → Nat → Nat) :
    ∀ (x4 : Int32) (S : VV × VV × VV × VV × VV × Int32) (T : Nat → Nat → Int32) (U : Nat → Int64) (V : Nat × Int32 × Int32 × (Nat → VV)) (q : (VV × VV × VV × VV × VV × Int32) × (Nat → Nat → Int32) × (Nat → Int64) × (Nat × Int32 × Int32 × (Nat → VV))), M_L_333_333 k Ls xs x4 S T U V = some q → (∀ fa' : Nat → Nat → Nat, WW E p l e room_1 s m #[Value.ref bs] below meth c A (cN + 20) (sN + 1600) (lw_Z below #[Value.ref bs] s) (wSg E a q.1 ++ wMd E b q.2.1 ++ wLo E c0 q.2.2.1 ++ wHi E a fa' q.2.2.2) 9 [some (.ref bs), some (.ref (a 0)), some (.ref (b 0)), some (.ref (c0 0)), some (.int x4), none, none, none, none] 2036 []) →
      WW E p l e room_1 s m #[Value.ref bs] below meth c A (cN + 0) (sN + 0) (lw_Z below #[Value.ref bs] s) (wSg E a S ++ wMd E b T ++ wLo E c0 U ++ wHi E a fa V) 9 [some (.ref bs), some (.ref (a 0)), some (.ref (b 0)), some (.ref (c0 0)), some (.int x4), none, none, none, none] 333 [] := by
  intro x4 S T U V q  h hq
  unfold M_L_333_333 at h
  refine r_aload_n (pc := 333) C (i := 1) dL_law_333 rfl rfl ?_
  obtain ⟨q1, hq1, h⟩ := bnd h
  refine r_callVp_CI (Cn := RX9) (pc := 334) C [] (c_X9_errorPosition E l k a S hq1) [0, 1, 2, 3, 4, 5, 6, 7, 8, 9, 10, 11, 12, 13, 14, 15, 16, 17, 18, 19, 20, 21, 22, 23, 24, 25, 26, 27, 28, 29, 30, 31, 32, 33, 34, 35, 36, 37, 38, 39, 40, 41, 42, 43, 44, 45, 46, 47, 48, 49, 50, 51, 52, 53, 54, 55, 56, 57, 58, 59, 60] (hps_hi (List.append_assoc _ _ _).symm (hp_L_204_0 E a b c0 fa S T U V)) (by decide) 0 rfl rfl rfl g_L_110 hd_X9_errorPosition ⟨Nat.le_of_ble_eq_true rfl, Nat.le_of_ble_eq_true rfl⟩ ⟨by have h1 : room_1.cells = 601024 := rfl; have h2 := hcN.1; simp only [Nat.le_refl, rm_X9_errorPosition]; omega, by have h1 : room_1.slots = 7293034 := rfl; have h2 := hcN.2; simp only [Nat.le_refl, rm_X9_errorPosition]; omega⟩ (Nat.le_of_ble_eq_true rfl) rfl dL_law_334 (fun r hr => ?_)
  have hr := hr.symm
  subst hr
  refine r_aload_n (pc := 337) C (i := 2) dL_law_337 rfl rfl ?_
  obtain ⟨q2, hq2, h⟩ := bnd h
  refine r_callV_CI (Cn := RX10) (pc := 338) C [] (c_X10_errorPosition E l k b T hq2) [61, 62, 63, 64, 65, 66, 67, 68, 69, 70, 71, 72, 73] (hps_hi (List.append_assoc _ _ _).symm (hp_L_204_1 E a b c0 fa S T U V)) (by decide) 0 rfl rfl rfl g_L_113 hd_X10_errorPosition ⟨Nat.le_of_ble_eq_true rfl, Nat.le_of_ble_eq_true rfl⟩ ⟨by have h1 : room_1.cells = 601024 := rfl; have h2 := hcN.1; simp only [Nat.le_refl, rm_X9_errorPosition, rm_X10_errorPosition]; omega, by have h1 : room_1.slots = 7293034 := rfl; have h2 := hcN.2; simp only [Nat.le_refl, rm_X9_errorPosition, rm_X10_errorPosition]; omega⟩ (Nat.le_of_ble_eq_true rfl) rfl dL_law_338 (fun r w1 hw1 => ?_)
  obtain ⟨hr1, hw1⟩ := hw1
  subst hr1 hw1
  refine ⟨(wSg E a S ++ wMd E b q2.2 ++ wLo E c0 U ++ wHi E a fa V), by exact putW_hi (List.append_assoc _ _ _).symm (List.append_assoc _ _ _).symm (hp_L_204_1 E a b c0 fa S T U V) rfl (pw_L_204_1 E a b c0 fa S T U V q2.2), ?_⟩
  refine r_icmp_eq (pc := 341) C (tgt := 2036) dL_law_341 rfl (fun c3 => ?_) (fun c3 => ?_)
  · rw [if_pos c3] at h
    cases h
    refine r_widen (k1 := cN + 20) (n1 := sN + 1600) (by simp only [Nat.le_refl, rm_X9_errorPosition, rm_X10_errorPosition]; omega) (by simp only [Nat.le_refl, rm_X9_errorPosition, rm_X10_errorPosition]; omega) ?_
    refine r_weak (lSub_s (lSub_s (lSub_s (lSub_s (lSub_s (lSub_n (lSub_n (lSub_n (lSub_n lSub_e))))))))) ?_
    exact hq fa
  · rw [if_neg c3] at h
    refine r_iconst (pc := 344) C (v := 0) dL_law_344 (by decide) ?_
    cases h
theorem hd_X10_size : yX10_size.cls = RX10 ∧ yX10_size.cls ≠ "java/lang/invoke/MethodHandle" ∧ yX10_size.cls ≠ "java/lang/invoke/VarHandle" ∧ (parseMethodDescriptor yX10_size.desc).map (fun d => d.parameters.length) = some 1 := by decide +kernel
theorem g_L_116 : GoodIn GW (wsV RL 116 RX10 yX10_size (wsG yX10_size cX10_size 2 (some .int))) := gw_V wm_6_53 wm_6_54 wm_6_55 wm_1_9 wm_6_56
theorem hd_L_size : yL_size.cls = RL ∧ yL_size.cls ≠ "java/lang/invoke/MethodHandle" ∧ yL_size.cls ≠ "java/lang/invoke/VarHandle" ∧ (parseMethodDescriptor yL_size.desc).map (fun d => d.parameters.length) = some 3 := by decide +kernel
theorem gL_114 : GoodIn GW (va_wsS RL 114 yL_size (Cond.codeWith yL_size cL_size 4 (some .int) [(0, 9, 12, 18)] :: GW)) := gw_SW wm_3_185 wm_3_186 wm_1_0 wm_3_187
-- the law from 346
theorem dL_law_346 : decode cL_law 346 = .ok (.aload_n 1, 1) := by decide +kernel
theorem dL_law_347 : decode cL_law 347 = .ok (.aload_n 0, 1) := by decide +kernel
theorem dL_law_348 : decode cL_law 348 = .ok (.iload 4, 2) := by decide +kernel
theorem dL_law_350 : decode cL_law 350 = .ok (.iconst 1, 1) := by decide +kernel
theorem dL_law_351 : decode cL_law 351 = .ok (.iadd, 1) := by decide +kernel
theorem dL_law_352 : decode cL_law 352 = .ok (.iaload, 1) := by decide +kernel
theorem dL_law_353 : decode cL_law 353 = .ok (.aload_n 3, 1) := by decide +kernel
theorem dL_law_354 : decode cL_law 354 = .ok (.invokestatic 114, 3) := by decide +kernel
theorem dL_law_357 : decode cL_law 357 = .ok (.istore 5, 2) := by decide +kernel
theorem dL_law_359 : decode cL_law 359 = .ok (.aload_n 2, 1) := by decide +kernel
theorem dL_law_360 : decode cL_law 360 = .ok (.aload_n 0, 1) := by decide +kernel
theorem dL_law_361 : decode cL_law 361 = .ok (.iload 4, 2) := by decide +kernel
theorem dL_law_363 : decode cL_law 363 = .ok (.iconst 1, 1) := by decide +kernel
theorem dL_law_364 : decode cL_law 364 = .ok (.iadd, 1) := by decide +kernel
theorem dL_law_365 : decode cL_law 365 = .ok (.iaload, 1) := by decide +kernel
theorem dL_law_366 : decode cL_law 366 = .ok (.invokevirtual 116, 3) := by decide +kernel
theorem dL_law_369 : decode cL_law 369 = .ok (.istore 6, 2) := by decide +kernel
theorem dL_law_371 : decode cL_law 371 = .ok (.aload_n 2, 1) := by decide +kernel
theorem dL_law_372 : decode cL_law 372 = .ok (.invokevirtual 106, 3) := by decide +kernel
theorem dL_law_375 : decode cL_law 375 = .ok (.iload 5, 2) := by decide +kernel
theorem dL_law_377 : decode cL_law 377 = .ok (.if_icmp .eq 5, 3) := by decide +kernel
theorem dL_law_380 : decode cL_law 380 = .ok (.iconst 0, 1) := by decide +kernel
theorem dL_law_381 : decode cL_law 381 = .ok (.ireturn, 1) := by decide +kernel
theorem dL_law_382 : decode cL_law 382 = .ok (.iload 5, 2) := by decide +kernel
theorem dL_law_384 : decode cL_law 384 = .ok (.ifCond .ne 15, 3) := by decide +kernel
theorem dL_law_387 : decode cL_law 387 = .ok (.aload_n 3, 1) := by decide +kernel
theorem dL_law_388 : decode cL_law 388 = .ok (.iconst 0, 1) := by decide +kernel
theorem dL_law_389 : decode cL_law 389 = .ok (.laload, 1) := by decide +kernel
theorem dL_law_390 : decode cL_law 390 = .ok (.iload 6, 2) := by decide +kernel
theorem dL_law_392 : decode cL_law 392 = .ok (.i2l, 1) := by decide +kernel
theorem dL_law_393 : decode cL_law 393 = .ok (.lcmp, 1) := by decide +kernel
theorem dL_law_394 : decode cL_law 394 = .ok (.ifCond .eq 5, 3) := by decide +kernel
theorem dL_law_397 : decode cL_law 397 = .ok (.iconst 0, 1) := by decide +kernel
theorem dL_law_398 : decode cL_law 398 = .ok (.ireturn, 1) := by decide +kernel
theorem dL_law_399 : decode cL_law 399 = .ok (.goto 1637, 3) := by decide +kernel
def M_L_346_346 (k Ls : Nat) (xs : Nat → Int32) (x4 : Int32) (S : VV × VV × VV × VV × VV × Int32) (T : Nat → Nat → Int32) (U : Nat → Int64) (V : Nat × Int32 × Int32 × (Nat → VV)) : Option ((VV × VV × VV × VV × VV × Int32) × (Nat → Nat → Int32) × (Nat → Int64) × (Nat × Int32 × Int32 × (Nat → VV))) := (if inb (x4 + (1 : Int32)) Ls = true then (M_L_size k S U (xs (x4 + (1 : Int32)).toNatClampNeg)).bind fun q2 => (if inb (x4 + (1 : Int32)) Ls = true then (M_X10_size k T (xs (x4 + (1 : Int32)).toNatClampNeg)).bind fun q4 => (M_X10_thrown k q4.2).bind fun q5 => if q5 = q2.1 then (if q2.1 = 0 then ((if inb (0 : Int32) 1 = true then if (lg_cmp (q2.2 (0 : Int32).toNatClampNeg) (q4.1.toInt64)) = 0 then (some (S, q4.2, q2.2, V)) else (none) else none)) else (some (S, q4.2, q2.2, V))) else (none) else none) else none)
set_option maxRecDepth 100000 in
set_option maxHeartbeats 4000000 in
theorem N_L_346_346 (C : CX E p l s m #[Value.ref bs] meth c cL_law 9 RL ret A) (a : Nat → Nat) (b : Nat → Nat) (c0 : Nat → Nat) (k Ls : Nat) (xs : Nat → Int32) (hX : va_X bs Ls xs s s.heap) (hbl : bs < s.heap.size) (hbA : ¬ A bs) (hlt : l.stackTraces = false) (hdc : DC s) (cN sN : Nat) (hcN : cN + 20 ≤ 601024 ∧ sN + 1600 ≤ 7293034) (fa : Nat → Nat → Nat) :
    ∀ (x4 : Int32) (S : VV × VV × VV × VV × VV × Int32) (T : Nat → Nat → Int32) (U : Nat → Int64) (V : Nat × Int32 × Int32 × (Nat → VV)) (q : (VV × VV × VV × VV × VV × Int32) × (Nat → Nat → Int32) × (Nat → Int64) × (Nat × Int32 × Int32 × (Nat → VV))), M_L_346_346 k Ls xs x4 S T U V = some q → (∀ fa' : Nat → Nat → Nat, WW E p l e room_1 s m #[Value.ref bs] below meth c A (cN + 20) (sN + 1600) (lw_Z below #[Value.ref bs] s) (wSg E a q.1 ++ wMd E b q.2.1 ++ wLo E c0 q.2.2.1 ++ wHi E a fa' q.2.2.2) 9 [some (.ref bs), some (.ref (a 0)), some (.ref (b 0)), some (.ref (c0 0)), some (.int x4), none, none, none, none] 2036 []) →
      WW E p l e room_1 s m #[Value.ref bs] below meth c A (cN + 0) (sN + 0) (lw_Z below #[Value.ref bs] s) (wSg E a S ++ wMd E b T ++ wLo E c0 U ++ wHi E a fa V) 9 [some (.ref bs), some (.ref (a 0)), some (.ref (b 0)), some (.ref (c0 0)), some (.int x4), none, none, none, none] 346 [] := by
  intro x4 S T U V q  h hq
  unfold M_L_346_346 at h
  refine r_aload_n (pc := 346) C (i := 1) dL_law_346 rfl rfl ?_
  refine r_aload_n (pc := 347) C (i := 0) dL_law_347 rfl rfl ?_
  refine r_iload (pc := 348) C (i := 4) dL_law_348 rfl ?_
  refine r_iconst (pc := 350) C (v := 1) dL_law_350 (by decide) ?_
  refine r_iadd (pc := 351) C dL_law_351 ?_
  obtain ⟨hi1, h⟩ := ifn h
  refine r_sld (pc := 352) C hX hbl hbA hi1 dL_law_352 ?_
  refine r_aload_n (pc := 353) C (i := 3) dL_law_353 rfl rfl ?_
  obtain ⟨q2, hq2, h⟩ := bnd h
  refine r_callSH (pc := 354) C [.ref (a 0), .int (xs (x4 + (1 : Int32)).toNatClampNeg), .ref (c0 0)] hdc (c_L_size E l k a (c0 0) S U (xs (x4 + (1 : Int32)).toNatClampNeg) hlt hq2) [0, 1, 2, 3, 4, 5, 6, 7, 8, 9, 10, 11, 12, 13, 14, 15, 16, 17, 18, 19, 20, 21, 22, 23, 24, 25, 26, 27, 28, 29, 30, 31, 32, 33, 34, 35, 36, 37, 38, 39, 40, 41, 42, 43, 44, 45, 46, 47, 48, 49, 50, 51, 52, 53, 54, 55, 56, 57, 58, 59, 60, 74] (hps_hi (List.append_assoc _ _ _).symm (hpL1 E a b c0 fa S T U V)) (by decide) gL_114 hd_L_size.2 ⟨Nat.le_of_ble_eq_true rfl, Nat.le_of_ble_eq_true rfl⟩ ⟨by have h1 : room_1.cells = 601024 := rfl; have h2 := hcN.1; simp only [Nat.le_refl, rm_L_size]; omega, by have h1 : room_1.slots = 7293034 := rfl; have h2 := hcN.2; simp only [Nat.le_refl, rm_L_size]; omega⟩ (Nat.le_of_ble_eq_true rfl) rfl dL_law_354 (fun r w1 hw1 => ?_)
  obtain ⟨hr1, hw1⟩ := hw1
  subst hr1 hw1
  refine ⟨(wSg E a S ++ wMd E b T ++ wLo E c0 q2.2 ++ wHi E a fa V), putW_hi (List.append_assoc _ _ _).symm (List.append_assoc _ _ _).symm (hpL1 E a b c0 fa S T U V) rfl (pwL1 E a b c0 fa S T U V S q2.2), ?_⟩
  refine r_istore (pc := 357) C (i := 5) dL_law_357 (by decide) rfl ?_
  refine r_aload_n (pc := 359) C (i := 2) dL_law_359 rfl rfl ?_
  refine r_aload_n (pc := 360) C (i := 0) dL_law_360 rfl rfl ?_
  refine r_iload (pc := 361) C (i := 4) dL_law_361 rfl ?_
  refine r_iconst (pc := 363) C (v := 1) dL_law_363 (by decide) ?_
  refine r_iadd (pc := 364) C dL_law_364 ?_
  obtain ⟨hi3, h⟩ := ifn h
  refine r_sld (pc := 365) C hX hbl hbA hi3 dL_law_365 ?_
  obtain ⟨q4, hq4, h⟩ := bnd h
  refine r_callV_CI (Cn := RX10) (pc := 366) C [.int (xs (x4 + (1 : Int32)).toNatClampNeg)] (c_X10_size E l k b T (xs (x4 + (1 : Int32)).toNatClampNeg) hq4) [61, 62, 63, 64, 65, 66, 67, 68, 69, 70, 71, 72, 73] (hps_hi (List.append_assoc _ _ _).symm (hp_L_204_1 E a b c0 fa S T q2.2 V)) (by decide) 0 rfl rfl rfl g_L_116 hd_X10_size ⟨Nat.le_of_ble_eq_true rfl, Nat.le_of_ble_eq_true rfl⟩ ⟨by have h1 : room_1.cells = 601024 := rfl; have h2 := hcN.1; simp only [Nat.le_refl, rm_L_size, rm_X10_size]; omega, by have h1 : room_1.slots = 7293034 := rfl; have h2 := hcN.2; simp only [Nat.le_refl, rm_L_size, rm_X10_size]; omega⟩ (Nat.le_of_ble_eq_true rfl) rfl dL_law_366 (fun r w1 hw1 => ?_)
  obtain ⟨hr1, hw1⟩ := hw1
  subst hr1 hw1
  refine ⟨(wSg E a S ++ wMd E b q4.2 ++ wLo E c0 q2.2 ++ wHi E a fa V), by exact putW_hi (List.append_assoc _ _ _).symm (List.append_assoc _ _ _).symm (hp_L_204_1 E a b c0 fa S T q2.2 V) rfl (pw_L_204_1 E a b c0 fa S T q2.2 V q4.2), ?_⟩
  refine r_istore (pc := 369) C (i := 6) dL_law_369 (by decide) rfl ?_
  refine r_aload_n (pc := 371) C (i := 2) dL_law_371 rfl rfl ?_
  obtain ⟨q5, hq5, h⟩ := bnd h
  refine r_callVp_CI (Cn := RX10) (pc := 372) C [] (c_X10_thrown E l k b q4.2 hq5) [61, 62, 63, 64, 65, 66, 67, 68, 69, 70, 71, 72, 73] (hps_hi (List.append_assoc _ _ _).symm (hp_L_204_1 E a b c0 fa S q4.2 q2.2 V)) (by decide) 0 rfl rfl rfl g_L_106 hd_X10_thrown ⟨Nat.le_of_ble_eq_true rfl, Nat.le_of_ble_eq_true rfl⟩ ⟨by have h1 : room_1.cells = 601024 := rfl; have h2 := hcN.1; simp only [Nat.le_refl, rm_L_size, rm_X10_size, rm_X10_thrown]; omega, by have h1 : room_1.slots = 7293034 := rfl; have h2 := hcN.2; simp only [Nat.le_refl, rm_L_size, rm_X10_size, rm_X10_thrown]; omega⟩ (Nat.le_of_ble_eq_true rfl) rfl dL_law_372 (fun r hr => ?_)
  have hr := hr.symm
  subst hr
  refine r_iload (pc := 375) C (i := 5) dL_law_375 rfl ?_
  refine r_icmp_eq (pc := 377) C (tgt := 382) dL_law_377 rfl (fun c6 => ?_) (fun c6 => ?_)
  · rw [if_pos c6] at h
    refine r_iload (pc := 382) C (i := 5) dL_law_382 rfl ?_
    refine r_if_ne (pc := 384) C (tgt := 399) dL_law_384 rfl (fun c7 => ?_) (fun c7 => ?_)
    · rw [if_neg c7] at h
      refine r_goto (pc := 399) C (tgt := 2036) dL_law_399 rfl ?_
      cases h
      refine r_widen (k1 := cN + 20) (n1 := sN + 1600) (by simp only [Nat.le_refl, rm_L_size, rm_X10_size, rm_X10_thrown]; omega) (by simp only [Nat.le_refl, rm_L_size, rm_X10_size, rm_X10_thrown]; omega) ?_
      refine r_weak (lSub_s (lSub_s (lSub_s (lSub_s (lSub_s (lSub_n (lSub_n (lSub_n (lSub_n lSub_e))))))))) ?_
      exact hq fa
    · rw [if_pos c7] at h
      refine r_aload_n (pc := 387) C (i := 3) dL_law_387 rfl rfl ?_
      refine r_iconst (pc := 388) C (v := 0) dL_law_388 (by decide) ?_
      obtain ⟨hi8, h⟩ := ifn h
      refine r_lald (pc := 389) C 74 rfl hi8 dL_law_389 ?_
      refine r_iload (pc := 390) C (i := 6) dL_law_390 rfl ?_
      refine r_i2l (pc := 392) C dL_law_392 ?_
      refine r_lcmp (pc := 393) C dL_law_393 ?_
      refine r_if_eq (pc := 394) C (tgt := 399) dL_law_394 rfl (fun c9 => ?_) (fun c9 => ?_)
      · rw [if_pos c9] at h
        refine r_goto (pc := 399) C (tgt := 2036) dL_law_399 rfl ?_
        cases h
        refine r_widen (k1 := cN + 20) (n1 := sN + 1600) (by simp only [Nat.le_refl, rm_L_size, rm_X10_size, rm_X10_thrown]; omega) (by simp only [Nat.le_refl, rm_L_size, rm_X10_size, rm_X10_thrown]; omega) ?_
        refine r_weak (lSub_s (lSub_s (lSub_s (lSub_s (lSub_s (lSub_n (lSub_n (lSub_n (lSub_n lSub_e))))))))) ?_
        exact hq fa
      · rw [if_neg c9] at h
        refine r_iconst (pc := 397) C (v := 0) dL_law_397 (by decide) ?_
        cases h
  · rw [if_neg c6] at h
    refine r_iconst (pc := 380) C (v := 0) dL_law_380 (by decide) ?_
    cases h
end WALKS
