theorem hd_X9_init : yX9_init.cls = RX9 ∧ yX9_init.cls ≠ "java/lang/invoke/MethodHandle" ∧ yX9_init.cls ≠ "java/lang/invoke/VarHandle" ∧ (parseMethodDescriptor yX9_init.desc).map (fun d => d.parameters.length) = some 0 := by decide +kernel
theorem gn_X9_init : GoodIn GW (wsG yX9_init cX9_init 1 none) := gw_sub (gw_G wm_1_30)
theorem hd_X10_init : yX10_init.cls = RX10 ∧ yX10_init.cls ≠ "java/lang/invoke/MethodHandle" ∧ yX10_init.cls ≠ "java/lang/invoke/VarHandle" ∧ (parseMethodDescriptor yX10_init.desc).map (fun d => d.parameters.length) = some 0 := by decide +kernel
theorem gn_X10_init : GoodIn GW (wsG yX10_init cX10_init 1 none) := gw_sub (gw_G wm_5_176)
-- ===== the law, from its entry: open in the runs of the two mirrors =====
theorem dL_law_0 : decode cL_law 0 = .ok (.new 8, 3) := by decide +kernel
theorem dL_law_3 : decode cL_law 3 = .ok (.dup, 1) := by decide +kernel
theorem dL_law_4 : decode cL_law 4 = .ok (.invokespecial 91, 3) := by decide +kernel
theorem dL_law_7 : decode cL_law 7 = .ok (.astore_n 1, 1) := by decide +kernel
theorem dL_law_8 : decode cL_law 8 = .ok (.new 92, 3) := by decide +kernel
theorem dL_law_11 : decode cL_law 11 = .ok (.dup, 1) := by decide +kernel
theorem dL_law_12 : decode cL_law 12 = .ok (.invokespecial 94, 3) := by decide +kernel
theorem dL_law_15 : decode cL_law 15 = .ok (.astore_n 2, 1) := by decide +kernel
theorem dL_law_16 : decode cL_law 16 = .ok (.iconst 1, 1) := by decide +kernel
theorem dL_law_17 : decode cL_law 17 = .ok (.newarray .long, 2) := by decide +kernel
theorem dL_law_19 : decode cL_law 19 = .ok (.astore_n 3, 1) := by decide +kernel
theorem dL_law_20 : decode cL_law 20 = .ok (.iconst 0, 1) := by decide +kernel
theorem dL_law_21 : decode cL_law 21 = .ok (.istore 4, 2) := by decide +kernel
set_option maxRecDepth 100000 in
set_option maxHeartbeats 4000000 in
theorem whole_start_open (hrun : ∀ (Ls : Nat) (xs : Nat → Int32), Ls ≤ 3072 → ∃ (k : Nat) (F : VV) (G1 G : Nat → Int32), M_X0_begin k (fun _ _ => 0) 2 1 = some F ∧ M_X10_clear k 1692 (fun _ => 0) = some G1 ∧ M_X10_layWorkers k 1692 G1 2 1 = some G ∧ M_law k Ls xs 513 0 (F, (fun _ _ => 0), (fun _ _ => 0), tk0, (fun _ _ => 0), 0) (md0 G) (fun _ => 0) (0, 0, 0, fun _ => (fun _ _ => 0)) = some ())
    {p : Program} {e : Env} {s : State} {m : MethodId} {below : List Frame} {meth : Method} {c : Code} (l : Launch) (hflags : l.flags = flags0) {b9 L : Nat} {xs : Nat → Int32} (hL : L ≤ 3072) (C0 : lw_At p s m meth c b9 L xs) : W p l e room_1 s m #[Value.ref b9] below meth c s.heap [] 0 0 (lw_Z below #[Value.ref b9] s) (entryFrame m ([Value.ref b9] : List Value).toArray 9) := by
  obtain ⟨hx, hb, hr, hml, hown, hts, hX, hbl, hlocks, hgv⟩ := C0
  obtain ⟨k, F, G1, G, hm0, hm1, hm2, hrun⟩ := hrun L xs hL
  have hlt : l.stackTraces = false := by
    unfold Launch.stackTraces
    rw [hflags]
    decide
  obtain ⟨E, hK, hE, hdc⟩ := env_start (A := fun q : Nat => s.heap.size ≤ q) (pR hgv) hts (fun a h => Nat.not_le.mpr h)
  have C : CX E p l s m #[Value.ref b9] meth c cL_law 9 RL ret (fun q : Nat => s.heap.size ≤ q) := ⟨hx, hb, hml, hown, fun w hw => hts w (List.mem_filter.mp hw).1, hK, hE, fun q h => h, hlocks, hr⟩
  suffices K : WW E p l e room_1 s m #[Value.ref b9] below meth c (fun q : Nat => s.heap.size ≤ q) 0 0 (lw_Z below #[Value.ref b9] s) [] 9 (lPad [.ref b9] 8) 0 [] by
    rw [lg_entry_eq]
    exact K s.heap [] _ (fun k q h => by simp at h) ⟨fun i j p q h => by simp at h, fun k q h => by simp at h⟩ va_S.rf (lH.entry [.ref b9] (Nat.le_of_ble_eq_true rfl))
  refine r_new (pc := 0) C (ci := 7) (fs := [.null, .null, .null, .int 0, .null, .null, .null]) gwX9 tyX9 tyX9_ok wm_1_26 wm_1_27 wm_1_1 rfl (fun j hj => by rcases (show j = 0 ∨ j = 1 ∨ j = 2 ∨ j = 3 ∨ j = 4 ∨ j = 5 ∨ j = 6 by omega) with rfl | rfl | rfl | rfl | rfl | rfl | rfl <;> rfl) ⟨Nat.le_of_ble_eq_true rfl, Nat.le_of_ble_eq_true rfl⟩ dL_law_0 (fun q1 => ?_)
  refine r_dup (pc := 3) C dL_law_3 rfl ?_
  refine r_callI_CV (pc := 4) C [] (c_X9_init E l q1 k hm0) [0] rfl (by decide) gn_X9_init wm_1_1 wm_1_28 wm_1_29 rfl hd_X9_init.2 ⟨Nat.le_of_ble_eq_true rfl, Nat.le_of_ble_eq_true rfl⟩ ⟨Nat.le_of_ble_eq_true rfl, Nat.le_of_ble_eq_true rfl⟩ (Nat.le_of_ble_eq_true rfl) rfl dL_law_4 (fun w1 hw1 => ?_)
  obtain ⟨a, fa, rfl, rfl⟩ := hw1
  refine ⟨wSg E a (F, (fun _ _ => 0), (fun _ _ => 0), tk0, (fun _ _ => 0), 0) ++ wHi E a fa (0, 0, 0, fun _ => (fun _ _ => 0)), rfl, ?_⟩
  refine r_astore_n (pc := 7) C (i := 1) dL_law_7 rfl (by decide) rfl ?_
  refine r_new (pc := 8) C (ci := 8) (fs := [.null, .null, .null, .null, .null, .int 0, .int 0, .int 0, .null, .null, .int 0, .null, .int 0, .null, .int 0, .int 0, .int 0, .int 0, .int 0, .int 0, .int 0, .int 0, .int 0, .null, .null, .null, .null, .int 0]) gwX10 tyX10 tyX10_ok wm_5_172 wm_5_173 wm_1_9 rfl (fun j hj => by rcases (show j = 0 ∨ j = 1 ∨ j = 2 ∨ j = 3 ∨ j = 4 ∨ j = 5 ∨ j = 6 ∨ j = 7 ∨ j = 8 ∨ j = 9 ∨ j = 10 ∨ j = 11 ∨ j = 12 ∨ j = 13 ∨ j = 14 ∨ j = 15 ∨ j = 16 ∨ j = 17 ∨ j = 18 ∨ j = 19 ∨ j = 20 ∨ j = 21 ∨ j = 22 ∨ j = 23 ∨ j = 24 ∨ j = 25 ∨ j = 26 ∨ j = 27 by omega) with rfl | rfl | rfl | rfl | rfl | rfl | rfl | rfl | rfl | rfl | rfl | rfl | rfl | rfl | rfl | rfl | rfl | rfl | rfl | rfl | rfl | rfl | rfl | rfl | rfl | rfl | rfl | rfl <;> rfl) ⟨Nat.le_of_ble_eq_true rfl, Nat.le_of_ble_eq_true rfl⟩ dL_law_8 (fun q2 => ?_)
  refine r_dup (pc := 11) C dL_law_11 rfl ?_
  refine r_callI_CV (pc := 12) C [] (c_X10_init E l q2 k hm1 hm2) [63] rfl (by decide) gn_X10_init wm_1_9 wm_5_174 wm_5_175 rfl hd_X10_init.2 ⟨Nat.le_of_ble_eq_true rfl, Nat.le_of_ble_eq_true rfl⟩ ⟨Nat.le_of_ble_eq_true rfl, Nat.le_of_ble_eq_true rfl⟩ (Nat.le_of_ble_eq_true rfl) rfl dL_law_12 (fun w1 hw1 => ?_)
  obtain ⟨b, rfl, rfl⟩ := hw1
  refine ⟨(wSg E a (F, (fun _ _ => 0), (fun _ _ => 0), tk0, (fun _ _ => 0), 0) ++ wHi E a fa (0, 0, 0, fun _ => (fun _ _ => 0))) ++ wMd E b (md0 G), rfl, ?_⟩
  refine r_astore_n (pc := 15) C (i := 2) dL_law_15 rfl (by decide) rfl ?_
  refine r_iconst (pc := 16) C (v := 1) dL_law_16 (by decide) ?_
  refine r_newl (pc := 17) C wm_arr_l (N' := 1) (by decide) (by decide +kernel) (Nat.le_of_ble_eq_true rfl) ⟨Nat.le_of_ble_eq_true rfl, Nat.le_of_ble_eq_true rfl⟩ dL_law_17 (fun o => ?_)
  refine r_astore_n (pc := 19) C (i := 3) dL_law_19 rfl (by decide) rfl ?_
  refine r_iconst (pc := 20) C (v := 0) dL_law_20 (by decide) ?_
  refine r_istore (pc := 21) C (i := 4) dL_law_21 (by decide) rfl ?_
  refine r_perm (w' := (wSg E a (F, (fun _ _ => 0), (fun _ _ => 0), tk0, (fun _ _ => 0), 0) ++ wMd E b (md0 G) ++ wLo E (fun _ => o) (fun _ => 0) ++ wHi E a fa (0, 0, 0, fun _ => (fun _ _ => 0)))) [0, 1, 2, 3, 4, 5, 6, 7, 8, 9, 10, 11, 12, 13, 14, 15, 16, 17, 18, 19, 20, 21, 22, 23, 24, 25, 26, 27, 28, 29, 30, 31, 32, 33, 34, 35, 36, 37, 38, 39, 40, 41, 42, 43, 44, 45, 46, 47, 48, 49, 50, 51, 52, 53, 54, 55, 56, 57, 58, 59, 60, 63, 64, 65, 66, 67, 68, 69, 70, 71, 72, 73, 74, 75, 76, 61, 62] (seg_map2 (seg_map2 (seg_map2 (seg_mapL [] (wSg E a (F, (fun _ _ => 0), (fun _ _ => 0), tk0, (fun _ _ => 0), 0)) (wHi E a fa (0, 0, 0, fun _ => (fun _ _ => 0)) ++ (wMd E b (md0 G) ++ [(o, .inl (eC E 1, 1, .inr (.inl (fun _ => 0))))])) (by first | (simp only [List.append_assoc, List.nil_append, List.append_nil]; done) | rfl) 61 rfl [0, 1, 2, 3, 4, 5, 6, 7, 8, 9, 10, 11, 12, 13, 14, 15, 16, 17, 18, 19, 20, 21, 22, 23, 24, 25, 26, 27, 28, 29, 30, 31, 32, 33, 34, 35, 36, 37, 38, 39, 40, 41, 42, 43, 44, 45, 46, 47, 48, 49, 50, 51, 52, 53, 54, 55, 56, 57, 58, 59, 60] (by first | (simp only [List.length_append, List.length_cons, List.length_nil, wSg_len, wMd_len]; rfl) | rfl)) (seg_mapL (wSg E a (F, (fun _ _ => 0), (fun _ _ => 0), tk0, (fun _ _ => 0), 0) ++ wHi E a fa (0, 0, 0, fun _ => (fun _ _ => 0))) (wMd E b (md0 G)) [(o, .inl (eC E 1, 1, .inr (.inl (fun _ => 0))))] (by first | (simp only [List.append_assoc, List.nil_append, List.append_nil]; done) | rfl) 13 rfl [63, 64, 65, 66, 67, 68, 69, 70, 71, 72, 73, 74, 75] (by first | (simp only [List.length_append, List.length_cons, List.length_nil, wSg_len, wMd_len]; rfl) | rfl))) (seg_mapL ((wSg E a (F, (fun _ _ => 0), (fun _ _ => 0), tk0, (fun _ _ => 0), 0) ++ wHi E a fa (0, 0, 0, fun _ => (fun _ _ => 0))) ++ wMd E b (md0 G)) [(o, .inl (eC E 1, 1, .inr (.inl (fun _ => 0))))] [] (by first | (simp only [List.append_assoc, List.nil_append, List.append_nil]; done) | rfl) 1 rfl [76] (by first | (simp only [List.length_append, List.length_cons, List.length_nil, wSg_len, wMd_len]; rfl) | rfl))) (seg_mapL (wSg E a (F, (fun _ _ => 0), (fun _ _ => 0), tk0, (fun _ _ => 0), 0)) (wHi E a fa (0, 0, 0, fun _ => (fun _ _ => 0))) (wMd E b (md0 G) ++ [(o, .inl (eC E 1, 1, .inr (.inl (fun _ => 0))))]) (by first | (simp only [List.append_assoc, List.nil_append, List.append_nil]; done) | rfl) 2 rfl [61, 62] (by first | (simp only [List.length_append, List.length_cons, List.length_nil, wSg_len, wMd_len]; rfl) | rfl))) (by decide) ?_
  refine r_widen (k1 := 300) (n1 := 60000) (Nat.le_of_ble_eq_true rfl) (Nat.le_of_ble_eq_true rfl) ?_
  exact law_loop C (fun q h => h) a b (fun _ => o) k L xs hX hbl (Nat.not_le.mpr hbl) hlt hdc 513 300 60000 fa 0 _ _ _ _ (Nat.le_of_ble_eq_true rfl) (Nat.le_of_ble_eq_true rfl) hrun
