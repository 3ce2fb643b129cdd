section WALKS
variable {E : ENV} {p : Program} {l : Launch} {e : Env} {s : State} {m : MethodId} {args : Array Value} {below : List Frame} {meth : Method} {c : Code} {A : Nat → Prop}
-- ShardGuard.release(I)I
theorem dX9_release_0 : decode cX9_release 0 = .ok (.aload_n 0, 1) := by decide +kernel
theorem dX9_release_1 : decode cX9_release 1 = .ok (.iload_n 1, 1) := by decide +kernel
theorem dX9_release_2 : decode cX9_release 2 = .ok (.invokevirtual 172, 3) := by decide +kernel
theorem dX9_release_5 : decode cX9_release 5 = .ok (.aload_n 0, 1) := by decide +kernel
theorem dX9_release_6 : decode cX9_release 6 = .ok (.getfield 12, 3) := by decide +kernel
theorem dX9_release_9 : decode cX9_release 9 = .ok (.iload_n 1, 1) := by decide +kernel
theorem dX9_release_10 : decode cX9_release 10 = .ok (.invokevirtual 178, 3) := by decide +kernel
theorem dX9_release_13 : decode cX9_release 13 = .ok (.ifCond .ne 6, 3) := by decide +kernel
theorem dX9_release_16 : decode cX9_release 16 = .ok (.bipush (-2), 2) := by decide +kernel
theorem dX9_release_18 : decode cX9_release 18 = .ok (.ireturn, 1) := by decide +kernel
theorem dX9_release_19 : decode cX9_release 19 = .ok (.aload_n 0, 1) := by decide +kernel
theorem dX9_release_20 : decode cX9_release 20 = .ok (.getfield 29, 3) := by decide +kernel
theorem dX9_release_23 : decode cX9_release 23 = .ok (.aload_n 0, 1) := by decide +kernel
theorem dX9_release_24 : decode cX9_release 24 = .ok (.getfield 12, 3) := by decide +kernel
theorem dX9_release_27 : decode cX9_release 27 = .ok (.invokevirtual 254, 3) := by decide +kernel
theorem dX9_release_30 : decode cX9_release 30 = .ok (.aload_n 0, 1) := by decide +kernel
theorem dX9_release_31 : decode cX9_release 31 = .ok (.getfield 12, 3) := by decide +kernel
theorem dX9_release_34 : decode cX9_release 34 = .ok (.getfield 181, 3) := by decide +kernel
theorem dX9_release_37 : decode cX9_release 37 = .ok (.iload_n 1, 1) := by decide +kernel
theorem dX9_release_38 : decode cX9_release 38 = .ok (.iconst 1, 1) := by decide +kernel
theorem dX9_release_39 : decode cX9_release 39 = .ok (.invokevirtual 185, 3) := by decide +kernel
theorem dX9_release_42 : decode cX9_release 42 = .ok (.aload_n 0, 1) := by decide +kernel
theorem dX9_release_43 : decode cX9_release 43 = .ok (.getfield 12, 3) := by decide +kernel
theorem dX9_release_46 : decode cX9_release 46 = .ok (.getfield 103, 3) := by decide +kernel
theorem dX9_release_49 : decode cX9_release 49 = .ok (.isub, 1) := by decide +kernel
theorem dX9_release_50 : decode cX9_release 50 = .ok (.istore_n 2, 1) := by decide +kernel
theorem dX9_release_51 : decode cX9_release 51 = .ok (.aload_n 0, 1) := by decide +kernel
theorem dX9_release_52 : decode cX9_release 52 = .ok (.getfield 12, 3) := by decide +kernel
theorem dX9_release_55 : decode cX9_release 55 = .ok (.getfield 181, 3) := by decide +kernel
theorem dX9_release_58 : decode cX9_release 58 = .ok (.iload_n 1, 1) := by decide +kernel
theorem dX9_release_59 : decode cX9_release 59 = .ok (.iconst 1, 1) := by decide +kernel
theorem dX9_release_60 : decode cX9_release 60 = .ok (.iconst (-1), 1) := by decide +kernel
theorem dX9_release_61 : decode cX9_release 61 = .ok (.invokevirtual 274, 3) := by decide +kernel
theorem dX9_release_64 : decode cX9_release 64 = .ok (.iload_n 2, 1) := by decide +kernel
theorem dX9_release_65 : decode cX9_release 65 = .ok (.ireturn, 1) := by decide +kernel
def rm_X9_release : Room := { frames := 7, cells := 19, slots := 1494, locals := 222 }
def M_X9_release_0 (k : Nat) (p0 : Int32) (S : VV × VV × VV × VV × VV × Int32) (T : Nat × Int32 × Int32 × (Nat → VV)) : Option (Int32 × Int32 × (VV × VV × VV × VV × VV × Int32) × (Nat × Int32 × Int32 × (Nat → VV))) := (M_X9_needTenant k S p0).bind fun q1 => (if q1 = 0 then (M_X0_isQuarantined k (S.1) p0).bind fun q3 => if q3 = 0 then (some ((0 : Int32), (-2 : Int32), S, T)) else ((Hkeep k T (S.1)).bind fun q5 => (M_X6_at k 12 3 36 ((S.1) 3) p0 (1 : Int32)).bind fun q7 => lt (q7 - ((S.1) 0 4)) fun v8 => (M_X6_put k 12 3 36 ((S.1) 3) p0 (1 : Int32) (-1 : Int32)).bind fun q9 => lt (((va_up (S.1) 3 q9), S.2)) fun F10 => some ((0 : Int32), v8, F10, q5)) else some (q1, (0 : Int32), S, T))
set_option maxRecDepth 100000 in
set_option maxHeartbeats 4000000 in
theorem N_X9_release_0 (C : CX E p l s m args meth c cX9_release 3 RX9 (some .int) A) (a : Nat → Nat) (k : Nat) (fa : Nat → Nat → Nat) {post : Int32 → va_W → Prop} {px : Int32 → va_W → Prop} (hlt : l.stackTraces = false) (hno : ∀ x ∈ c.exceptionTable.toList, False) (hdc : DC s) :
    ∀ (p0 : Int32) (S : VV × VV × VV × VV × VV × Int32) (T : Nat × Int32 × Int32 × (Nat → VV)) (q : Int32 × Int32 × (VV × VV × VV × VV × VV × Int32) × (Nat × Int32 × Int32 × (Nat → VV))), M_X9_release_0 k p0 S T = some q → (∀ fa' : Nat → Nat → Nat, T.1 ≤ q.2.2.2.1 → TI post px q.1 q.2.1 (wSg E a q.2.2.1 ++ wHi E a fa' q.2.2.2)) →
      WW E p l e rm_X9_release s m args below meth c A 0 0 (QXI E below post px args s rm_X9_release A) (wSg E a S ++ wHi E a fa T) 3 [some (.ref (a 0)), some (.int p0), none] 0 [] := by
  intro p0 S T q  h hq
  unfold M_X9_release_0 at h
  refine r_aload_n (pc := 0) C (i := 0) dX9_release_0 rfl rfl ?_
  refine r_iload_n (pc := 1) C (i := 1) dX9_release_1 rfl rfl ?_
  obtain ⟨q1, hq1, h⟩ := bnd h
  -- may throw
  by_cases c2 : q1 = 0
  case neg =>
    rw [if_neg c2] at h
    cases h
    exact r_callXV_V (Cn := RX9) (pc := 2) C [.int p0] hno hdc (c_X9_needTenant E l k a S p0 hlt hq1) [0, 1, 2, 3, 4, 5, 6, 7, 8, 9, 10, 11, 12, 13, 14, 15, 16, 17, 18, 19, 20, 21, 22, 23, 24, 25, 26, 27, 28, 29, 30, 31, 32, 33, 34, 35, 36, 37, 38, 39, 40, 41, 42, 43, 44, 45, 46, 47, 48, 49, 50, 51, 52, 53, 54, 55, 56, 57, 58, 59, 60] (hps_hi (List.append_assoc _ _ _).symm (hp_X9_submit_0 E a fa S T)) (by decide) 0 rfl rfl rfl g_X9_172 hd_X9_needTenant ⟨Nat.le_of_ble_eq_true rfl, Nat.le_of_ble_eq_true rfl⟩ ⟨Nat.le_of_ble_eq_true rfl, Nat.le_of_ble_eq_true rfl⟩ (Nat.le_of_ble_eq_true rfl) rfl dX9_release_2 (fun cd w1 hx => ⟨(wSg E a S ++ wHi E a fa T), by rw [hx.2.2]; exact (putW_self _ _ _ (hps_hi (List.append_assoc _ _ _).symm (hp_X9_submit_0 E a fa S T))), by rw [hx.1]; exact TI_x c2 (hq fa (Nat.le_refl _))⟩) (fun w1 hx => absurd hx.1 c2)
  rw [if_pos c2] at h
  refine r_callXV_V (Cn := RX9) (pc := 2) C [.int p0] hno hdc (c_X9_needTenant E l k a S p0 hlt hq1) [0, 1, 2, 3, 4, 5, 6, 7, 8, 9, 10, 11, 12, 13, 14, 15, 16, 17, 18, 19, 20, 21, 22, 23, 24, 25, 26, 27, 28, 29, 30, 31, 32, 33, 34, 35, 36, 37, 38, 39, 40, 41, 42, 43, 44, 45, 46, 47, 48, 49, 50, 51, 52, 53, 54, 55, 56, 57, 58, 59, 60] (hps_hi (List.append_assoc _ _ _).symm (hp_X9_submit_0 E a fa S T)) (by decide) 0 rfl rfl rfl g_X9_172 hd_X9_needTenant ⟨Nat.le_of_ble_eq_true rfl, Nat.le_of_ble_eq_true rfl⟩ ⟨Nat.le_of_ble_eq_true rfl, Nat.le_of_ble_eq_true rfl⟩ (Nat.le_of_ble_eq_true rfl) rfl dX9_release_2 (fun cd w1 hx => absurd c2 hx.2.1) (fun w1 hx => ?_)
  refine ⟨(wSg E a S ++ wHi E a fa T), by rw [hx.2]; exact (putW_self _ _ _ (hps_hi (List.append_assoc _ _ _).symm (hp_X9_submit_0 E a fa S T))), ?_⟩
  refine r_aload_n (pc := 5) C (i := 0) dX9_release_5 rfl rfl ?_
  refine r_get (pc := 6) C gwX9 0 rfl rfl 0 (by decide) wm_2_15 rfl dX9_release_6 ?_
  refine r_iload_n (pc := 9) C (i := 1) dX9_release_9 rfl rfl ?_
  obtain ⟨q3, hq3, h⟩ := bnd h
  refine r_callVp_CI (Cn := RX0) (pc := 10) C [.int p0] (c_X0_isQuarantined E l k (fun i => a (i + 1)) (S.1) p0 hq3) [1, 2, 3, 4, 5, 6, 7, 8, 9, 10, 11, 12, 13, 14, 15, 16, 17, 18] (hps_hi (List.append_assoc _ _ _).symm (hp_X9_pass_0 E a fa S T)) (by decide) 0 rfl rfl rfl g_X9_178 hd_X0_isQuarantined ⟨Nat.le_of_ble_eq_true rfl, Nat.le_of_ble_eq_true rfl⟩ ⟨Nat.le_of_ble_eq_true rfl, Nat.le_of_ble_eq_true rfl⟩ (Nat.le_of_ble_eq_true rfl) rfl dX9_release_10 (fun r hr => ?_)
  have hr := hr.symm
  subst hr
  refine r_if_ne (pc := 13) C (tgt := 19) dX9_release_13 rfl (fun c4 => ?_) (fun c4 => ?_)
  · rw [if_neg c4] at h
    refine r_aload_n (pc := 19) C (i := 0) dX9_release_19 rfl rfl ?_
    refine r_get (pc := 20) C gwX9 0 rfl rfl 4 (by decide) wm_2_19 rfl dX9_release_20 ?_
    refine r_aload_n (pc := 23) C (i := 0) dX9_release_23 rfl rfl ?_
    refine r_get (pc := 24) C gwX9 0 rfl rfl 0 (by decide) wm_2_15 rfl dX9_release_24 ?_
    obtain ⟨q5, hq5, h⟩ := bnd h
    refine r_callT_CV (Cn := RX2) (c0 := wFl E (fun i => a (i + 1)) (S.1) ++ hiC E a fa T) (w0 := ((wSg E a S) ++ hiC E a fa T)) (t := hiT E fa T) (pc := 27) C [.ref (a 1)] (c_X2_keep E l k a (fun i => a (i + 1)) fa T (S.1) hq5) [1, 2, 3, 4, 5, 6, 7, 8, 9, 10, 11, 12, 13, 14, 15, 16, 17, 18, 61, 62] (hpH2 E a fa S T) (by decide) 18 rfl rfl rfl g_X9_254 hd_X2_keep ⟨Nat.le_of_ble_eq_true rfl, Nat.le_of_ble_eq_true rfl⟩ ⟨Nat.le_of_ble_eq_true rfl, Nat.le_of_ble_eq_true rfl⟩ (Nat.le_of_ble_eq_true rfl) rfl dX9_release_27 (List.append_assoc _ _ _).symm (fun w1 hw1 => ?_)
    obtain ⟨fa6, hw1⟩ := hw1
    subst hw1
    refine ⟨wFl E (fun i => a (i + 1)) (S.1) ++ hiC E a fa6 q5, hiT E fa6 q5, (wSg E a S) ++ hiC E a fa6 q5, (List.append_assoc _ _ _).symm, rfl, hiT_le (Hkeep_h hq5), pwH2 E a _ _ _ _ _ _, ?_⟩
    refine r_world (List.append_assoc _ _ _) ?_
    refine r_aload_n (pc := 30) C (i := 0) dX9_release_30 rfl rfl ?_
    refine r_get (pc := 31) C gwX9 0 rfl rfl 0 (by decide) wm_2_15 rfl dX9_release_31 ?_
    refine r_get (pc := 34) C gwX0 1 rfl rfl 8 (by decide) wm_1_114 rfl dX9_release_34 ?_
    refine r_iload_n (pc := 37) C (i := 1) dX9_release_37 rfl rfl ?_
    refine r_iconst (pc := 38) C (v := 1) dX9_release_38 (by decide) ?_
    obtain ⟨q7, hq7, h⟩ := bnd h
    refine r_callVp_CI (Cn := RX6) (pc := 39) C [.int p0, .int (1 : Int32)] (c_X6_at E l k (fun i => a (i + 6)) 12 3 36 ((S.1) 3) p0 (1 : Int32) hq7) [6, 7] (hps_hi (List.append_assoc _ _ _).symm (hp_X9_move_0 E a fa6 S q5)) (by decide) 0 rfl rfl rfl g_X9_185 hd_X6_at ⟨Nat.le_of_ble_eq_true rfl, Nat.le_of_ble_eq_true rfl⟩ ⟨Nat.le_of_ble_eq_true rfl, Nat.le_of_ble_eq_true rfl⟩ (Nat.le_of_ble_eq_true rfl) rfl dX9_release_39 (fun r hr => ?_)
    have hr := hr.symm
    subst hr
    refine r_aload_n (pc := 42) C (i := 0) dX9_release_42 rfl rfl ?_
    refine r_get (pc := 43) C gwX9 0 rfl rfl 0 (by decide) wm_2_15 rfl dX9_release_43 ?_
    refine r_get (pc := 46) C gwX0 1 rfl rfl 4 (by decide) wm_1_105 rfl dX9_release_46 ?_
    refine r_isub (pc := 49) C dX9_release_49 ?_
    obtain ⟨v8, hv8, h⟩ := lt_e h
    refine r_topi hv8 ?_
    refine r_istore_n (pc := 50) C (i := 2) dX9_release_50 rfl (by decide) rfl ?_
    refine r_aload_n (pc := 51) C (i := 0) dX9_release_51 rfl rfl ?_
    refine r_get (pc := 52) C gwX9 0 rfl rfl 0 (by decide) wm_2_15 rfl dX9_release_52 ?_
    refine r_get (pc := 55) C gwX0 1 rfl rfl 8 (by decide) wm_1_114 rfl dX9_release_55 ?_
    refine r_iload_n (pc := 58) C (i := 1) dX9_release_58 rfl rfl ?_
    refine r_iconst (pc := 59) C (v := 1) dX9_release_59 (by decide) ?_
    refine r_iconst (pc := 60) C (v := (-1)) dX9_release_60 (by decide) ?_
    obtain ⟨q9, hq9, h⟩ := bnd h
    obtain ⟨F10, hF10, h⟩ := lt_e h
    refine r_callV_CV (Cn := RX6) (pc := 61) C [.int p0, .int (1 : Int32), .int (-1 : Int32)] (c_X6_put E l k (fun i => a (i + 6)) 12 3 36 ((S.1) 3) p0 (1 : Int32) (-1 : Int32) hq9) [6, 7] (hps_hi (List.append_assoc _ _ _).symm (hp_X9_move_0 E a fa6 S q5)) (by decide) 0 rfl rfl rfl g_X9_274 hd_X6_put ⟨Nat.le_of_ble_eq_true rfl, Nat.le_of_ble_eq_true rfl⟩ ⟨Nat.le_of_ble_eq_true rfl, Nat.le_of_ble_eq_true rfl⟩ (Nat.le_of_ble_eq_true rfl) rfl dX9_release_61 (fun w1 hw1 => ?_)
    subst hw1
    refine ⟨(wSg E a F10 ++ wHi E a fa6 q5), by rw [hF10]; exact putW_hi (List.append_assoc _ _ _).symm (List.append_assoc _ _ _).symm (hp_X9_move_0 E a fa6 S q5) rfl (pw_X9_move_0 E a fa6 S q5 q9), ?_⟩
    refine r_iload_n (pc := 64) C (i := 2) dX9_release_64 rfl rfl ?_
    cases h
    exact r_xI (r_ireti (pc := 65) C (TI_0 (hq fa6 (Nat.le_trans (Nat.le_refl _) (Hkeep_h hq5)))) (Nat.le_of_ble_eq_true rfl) (Nat.le_of_ble_eq_true rfl) dX9_release_65)
  · rw [if_pos c4] at h
    refine r_bipush (pc := 16) C (v := (-2)) dX9_release_16 (by decide) ?_
    have h := Option.some.inj h
    subst h
    exact r_xI (r_ireti (pc := 18) C (TI_0 (hq fa (Nat.le_refl _))) (Nat.le_of_ble_eq_true rfl) (Nat.le_of_ble_eq_true rfl) dX9_release_18)
def M_X9_release (k : Nat) (S : VV × VV × VV × VV × VV × Int32) (T : Nat × Int32 × Int32 × (Nat → VV)) (p0 : Int32) : Option (Int32 × Int32 × (VV × VV × VV × VV × VV × Int32) × (Nat × Int32 × Int32 × (Nat → VV))) := M_X9_release_0 k p0 S T
set_option maxRecDepth 100000 in
set_option maxHeartbeats 4000000 in
theorem c_X9_release (E : ENV) (l : Launch) (k : Nat) (a : Nat → Nat) (fa : Nat → Nat → Nat) (S : VV × VV × VV × VV × VV × Int32) (T : Nat × Int32 × Int32 × (Nat → VV)) (p0 : Int32) (hlt : l.stackTraces = false) {q : Int32 × Int32 × (VV × VV × VV × VV × VV × Int32) × (Nat × Int32 × Int32 × (Nat → VV))} (hm : M_X9_release k S T p0 = some q) : XI E l yX9_release cX9_release 3 (some .int) rm_X9_release [.ref (a 0), .int p0] (wSg E a S ++ wHi E a fa T) (fun r w' => q.1 = 0 ∧ r = q.2.1 ∧ ∃ fa' : Nat → Nat → Nat, w' = (wSg E a q.2.2.1 ++ wHi E a fa' q.2.2.2) ∧ T.1 ≤ q.2.2.2.1) (fun cd w' => cd = q.1 ∧ ¬ q.1 = 0 ∧ ∃ fa' : Nat → Nat → Nat, w' = (wSg E a q.2.2.1 ++ wHi E a fa' q.2.2.2) ∧ T.1 ≤ q.2.2.2.1) :=
  XI.of 1 (by decide) (Nat.le_of_ble_eq_true rfl) (fun p e s m below meth c A C hno hdc => r_weak (lSub_s (lSub_s (lSub_n lSub_e))) (N_X9_release_0 C a k fa hlt hno hdc p0 S T q  hm (fun fa' hm' => TI_of ⟨fa', rfl, hm'⟩)))
set_option maxRecDepth 100000 in
theorem c2_X9_release (E : ENV) (l : Launch) (k : Nat) (a : Nat → Nat) (fa : Nat → Nat → Nat) (S : VV × VV × VV × VV × VV × Int32) (T : Nat × Int32 × Int32 × (Nat → VV)) (p0 : Int32) (hlt : l.stackTraces = false) {q : Int32 × Int32 × (VV × VV × VV × VV × VV × Int32) × (Nat × Int32 × Int32 × (Nat → VV))} (hm : M_X9_release k S T p0 = some q) : XI E l yX9_release cX9_release 3 (some .int) rm_X9_release [.ref (a 0), .int p0] (((wSg E a S) ++ hiC E a fa T) ++ hiT E fa T) (fun r w' => q.1 = 0 ∧ r = q.2.1 ∧ ∃ fa' : Nat → Nat → Nat, w' = (wSg E a q.2.2.1 ++ wHi E a fa' q.2.2.2) ∧ T.1 ≤ q.2.2.2.1) (fun cd w' => cd = q.1 ∧ ¬ q.1 = 0 ∧ ∃ fa' : Nat → Nat → Nat, w' = (wSg E a q.2.2.1 ++ wHi E a fa' q.2.2.2) ∧ T.1 ≤ q.2.2.2.1) := by
  rw [show ((wSg E a S) ++ hiC E a fa T) ++ hiT E fa T = (wSg E a S ++ wHi E a fa T) from List.append_assoc _ _ _]
  exact c_X9_release E l k a fa S T p0 hlt hm
theorem g_X9_278 : GoodIn GW (va_wsS RX9 278 yX9_leastSetting (wsG yX9_leastSetting cX9_leastSetting 1 (some .int))) := gw_S wm_5_58 wm_3_124 wm_1_1 wm_3_125
theorem g_X9_281 : GoodIn GW (va_wsS RX9 281 yX9_greatestSetting (wsG yX9_greatestSetting cX9_greatestSetting 1 (some .int))) := gw_S wm_5_59 wm_3_129 wm_1_1 wm_3_130
theorem g_X9_286 : GoodIn GW (wsV RX9 286 RX5 yX5_put (wsG yX5_put cX5_put 3 none)) := gw_V wm_5_61 wm_1_234 wm_1_235 wm_1_3 wm_1_236
-- ShardGuard.set(II)I
set_option maxHeartbeats 8000000 in
theorem hp_X9_set_0 (E : ENV) (a : Nat → Nat) (fa : Nat → Nat → Nat) (S : VV × VV × VV × VV × VV × Int32) (T : Nat × Int32 × Int32 × (Nat → VV)) : ([2, 3] : List Nat).map (fun i => ((wSg E a S) ++ hiC E a fa T)[i]?) = (wRow E (fun i => a (i + 2)) 5 ((S.1) 1)).map some := rfl
set_option maxHeartbeats 8000000 in
theorem pw_X9_set_0 (E : ENV) (a : Nat → Nat) (fa : Nat → Nat → Nat) (S : VV × VV × VV × VV × VV × Int32) (T : Nat × Int32 × Int32 × (Nat → VV)) (X0 : Nat → Int32) : putW ((wSg E a S) ++ hiC E a fa T) [2, 3] (wRow E (fun i => a (i + 2)) 5 X0) = some ((wSg E a ((va_up (S.1) 1 X0), S.2)) ++ hiC E a fa T) := rfl
theorem dX9_set_0 : decode cX9_set 0 = .ok (.iload_n 1, 1) := by decide +kernel
theorem dX9_set_1 : decode cX9_set 1 = .ok (.invokestatic 139, 3) := by decide +kernel
theorem dX9_set_4 : decode cX9_set 4 = .ok (.iload_n 2, 1) := by decide +kernel
theorem dX9_set_5 : decode cX9_set 5 = .ok (.iload_n 1, 1) := by decide +kernel
theorem dX9_set_6 : decode cX9_set 6 = .ok (.invokestatic 278, 3) := by decide +kernel
theorem dX9_set_9 : decode cX9_set 9 = .ok (.if_icmp .lt 11, 3) := by decide +kernel
theorem dX9_set_12 : decode cX9_set 12 = .ok (.iload_n 2, 1) := by decide +kernel
theorem dX9_set_13 : decode cX9_set 13 = .ok (.iload_n 1, 1) := by decide +kernel
theorem dX9_set_14 : decode cX9_set 14 = .ok (.invokestatic 281, 3) := by decide +kernel
theorem dX9_set_17 : decode cX9_set 17 = .ok (.if_icmp .le 14, 3) := by decide +kernel
theorem dX9_set_20 : decode cX9_set 20 = .ok (.new 59, 3) := by decide +kernel
theorem dX9_set_23 : decode cX9_set 23 = .ok (.dup, 1) := by decide +kernel
theorem dX9_set_24 : decode cX9_set 24 = .ok (.ldc_w 284, 3) := by decide +kernel
theorem dX9_set_27 : decode cX9_set 27 = .ok (.invokespecial 63, 3) := by decide +kernel
theorem dX9_set_30 : decode cX9_set 30 = .ok (.athrow, 1) := by decide +kernel
theorem dX9_set_31 : decode cX9_set 31 = .ok (.aload_n 0, 1) := by decide +kernel
theorem dX9_set_32 : decode cX9_set 32 = .ok (.getfield 29, 3) := by decide +kernel
theorem dX9_set_35 : decode cX9_set 35 = .ok (.aload_n 0, 1) := by decide +kernel
theorem dX9_set_36 : decode cX9_set 36 = .ok (.getfield 12, 3) := by decide +kernel
theorem dX9_set_39 : decode cX9_set 39 = .ok (.invokevirtual 254, 3) := by decide +kernel
theorem dX9_set_42 : decode cX9_set 42 = .ok (.aload_n 0, 1) := by decide +kernel
theorem dX9_set_43 : decode cX9_set 43 = .ok (.getfield 12, 3) := by decide +kernel
theorem dX9_set_46 : decode cX9_set 46 = .ok (.getfield 142, 3) := by decide +kernel
theorem dX9_set_49 : decode cX9_set 49 = .ok (.iload_n 1, 1) := by decide +kernel
theorem dX9_set_50 : decode cX9_set 50 = .ok (.invokevirtual 146, 3) := by decide +kernel
theorem dX9_set_53 : decode cX9_set 53 = .ok (.istore_n 3, 1) := by decide +kernel
theorem dX9_set_54 : decode cX9_set 54 = .ok (.aload_n 0, 1) := by decide +kernel
theorem dX9_set_55 : decode cX9_set 55 = .ok (.getfield 12, 3) := by decide +kernel
theorem dX9_set_58 : decode cX9_set 58 = .ok (.getfield 142, 3) := by decide +kernel
theorem dX9_set_61 : decode cX9_set 61 = .ok (.iload_n 1, 1) := by decide +kernel
theorem dX9_set_62 : decode cX9_set 62 = .ok (.iload_n 2, 1) := by decide +kernel
theorem dX9_set_63 : decode cX9_set 63 = .ok (.invokevirtual 286, 3) := by decide +kernel
theorem dX9_set_66 : decode cX9_set 66 = .ok (.iload_n 3, 1) := by decide +kernel
theorem dX9_set_67 : decode cX9_set 67 = .ok (.ireturn, 1) := by decide +kernel
def rm_X9_set : Room := { frames := 7, cells := 19, slots := 1494, locals := 222 }
def M_X9_set_0 (k : Nat) (p0 : Int32) (p1 : Int32) (S : VV × VV × VV × VV × VV × Int32) (T : Nat × Int32 × Int32 × (Nat → VV)) : Option (Int32 × Int32 × (VV × VV × VV × VV × VV × Int32) × (Nat × Int32 × Int32 × (Nat → VV))) := (M_X9_needSetting k p0).bind fun q1 => (if q1 = 0 then (M_X9_leastSetting k p0).bind fun q3 => if p1 < q3 then (some ((2 : Int32), (0 : Int32), S, T)) else ((M_X9_greatestSetting k p0).bind fun q5 => if p1 ≤ q5 then ((Hkeep k T (S.1)).bind fun q7 => (M_X5_at k 5 ((S.1) 1) p0).bind fun q9 => (M_X5_put k 5 ((S.1) 1) p0 p1).bind fun q10 => lt (((va_up (S.1) 1 q10), S.2)) fun F11 => some ((0 : Int32), q9, F11, q7)) else (some ((2 : Int32), (0 : Int32), S, T))) else some (q1, (0 : Int32), S, T))
set_option maxRecDepth 100000 in
set_option maxHeartbeats 4000000 in
theorem N_X9_set_0 (C : CX E p l s m args meth c cX9_set 4 RX9 (some .int) A) (a : Nat → Nat) (k : Nat) (fa : Nat → Nat → Nat) {post : Int32 → va_W → Prop} {px : Int32 → va_W → Prop} (hlt : l.stackTraces = false) (hno : ∀ x ∈ c.exceptionTable.toList, False) (hdc : DC s) :
    ∀ (p0 : Int32) (p1 : Int32) (S : VV × VV × VV × VV × VV × Int32) (T : Nat × Int32 × Int32 × (Nat → VV)) (q : Int32 × Int32 × (VV × VV × VV × VV × VV × Int32) × (Nat × Int32 × Int32 × (Nat → VV))), M_X9_set_0 k p0 p1 S T = some q → (∀ fa' : Nat → Nat → Nat, T.1 ≤ q.2.2.2.1 → TI post px q.1 q.2.1 (wSg E a q.2.2.1 ++ wHi E a fa' q.2.2.2)) →
      WW E p l e rm_X9_set s m args below meth c A 0 0 (QXI E below post px args s rm_X9_set A) (wSg E a S ++ wHi E a fa T) 4 [some (.ref (a 0)), some (.int p0), some (.int p1), none] 0 [] := by
  intro p0 p1 S T q  h hq
  unfold M_X9_set_0 at h
  refine r_iload_n (pc := 0) C (i := 1) dX9_set_0 rfl rfl ?_
  obtain ⟨q1, hq1, h⟩ := bnd h
  -- may throw
  by_cases c2 : q1 = 0
  case neg =>
    rw [if_neg c2] at h
    cases h
    exact r_callXS_V (pc := 1) C [.int p0] hno hdc (c_X9_needSetting E l k p0 hlt hq1) [] rfl (by decide) g_X9_139 hd_X9_needSetting.2 ⟨Nat.le_of_ble_eq_true rfl, Nat.le_of_ble_eq_true rfl⟩ ⟨Nat.le_of_ble_eq_true rfl, Nat.le_of_ble_eq_true rfl⟩ (Nat.le_of_ble_eq_true rfl) rfl dX9_set_1 (fun cd w1 hx => ⟨(wSg E a S ++ wHi E a fa T), by rw [hx.2.2]; exact (by simp only [putW, List.append_nil]), by rw [hx.1]; exact TI_x c2 (hq fa (Nat.le_refl _))⟩) (fun w1 hx => absurd hx.1 c2)
  rw [if_pos c2] at h
  refine r_callXS_V (pc := 1) C [.int p0] hno hdc (c_X9_needSetting E l k p0 hlt hq1) [] rfl (by decide) g_X9_139 hd_X9_needSetting.2 ⟨Nat.le_of_ble_eq_true rfl, Nat.le_of_ble_eq_true rfl⟩ ⟨Nat.le_of_ble_eq_true rfl, Nat.le_of_ble_eq_true rfl⟩ (Nat.le_of_ble_eq_true rfl) rfl dX9_set_1 (fun cd w1 hx => absurd c2 hx.2.1) (fun w1 hx => ?_)
  refine ⟨(wSg E a S ++ wHi E a fa T), by rw [hx.2]; exact (by simp only [putW, List.append_nil]), ?_⟩
  refine r_iload_n (pc := 4) C (i := 2) dX9_set_4 rfl rfl ?_
  refine r_iload_n (pc := 5) C (i := 1) dX9_set_5 rfl rfl ?_
  obtain ⟨q3, hq3, h⟩ := bnd h
  refine r_callSp_CI (pc := 6) C [.int p0] (c_X9_leastSetting E l k p0 hq3) [] rfl (by decide) g_X9_278 hd_X9_leastSetting.2 ⟨Nat.le_of_ble_eq_true rfl, Nat.le_of_ble_eq_true rfl⟩ ⟨Nat.le_of_ble_eq_true rfl, Nat.le_of_ble_eq_true rfl⟩ (Nat.le_of_ble_eq_true rfl) rfl dX9_set_6 (fun r hr => ?_)
  have hr := hr.symm
  subst hr
  refine r_icmp_lt (pc := 9) C (tgt := 20) dX9_set_9 rfl (fun c4 => ?_) (fun c4 => ?_)
  · rw [if_pos c4] at h
    cases h
    exact r_throwAW (pc := 20) C hlt hno hdc 27 rfl wm_2_186 wm_1_13 dX9_set_20 dX9_set_23 dX9_set_24 dX9_set_27 dX9_set_30 (Nat.le_of_ble_eq_true rfl) (Nat.le_of_ble_eq_true rfl) (Nat.le_of_ble_eq_true rfl) (Nat.le_of_ble_eq_true rfl) (Nat.le_of_ble_eq_true rfl) (TI_x (by decide) (hq fa (Nat.le_refl _)))
  · rw [if_neg c4] at h
    refine r_iload_n (pc := 12) C (i := 2) dX9_set_12 rfl rfl ?_
    refine r_iload_n (pc := 13) C (i := 1) dX9_set_13 rfl rfl ?_
    obtain ⟨q5, hq5, h⟩ := bnd h
    refine r_callSp_CI (pc := 14) C [.int p0] (c_X9_greatestSetting E l k p0 hq5) [] rfl (by decide) g_X9_281 hd_X9_greatestSetting.2 ⟨Nat.le_of_ble_eq_true rfl, Nat.le_of_ble_eq_true rfl⟩ ⟨Nat.le_of_ble_eq_true rfl, Nat.le_of_ble_eq_true rfl⟩ (Nat.le_of_ble_eq_true rfl) rfl dX9_set_14 (fun r hr => ?_)
    have hr := hr.symm
    subst hr
    refine r_icmp_le (pc := 17) C (tgt := 31) dX9_set_17 rfl (fun c6 => ?_) (fun c6 => ?_)
    · rw [if_pos c6] at h
      refine r_aload_n (pc := 31) C (i := 0) dX9_set_31 rfl rfl ?_
      refine r_get (pc := 32) C gwX9 0 rfl rfl 4 (by decide) wm_2_19 rfl dX9_set_32 ?_
      refine r_aload_n (pc := 35) C (i := 0) dX9_set_35 rfl rfl ?_
      refine r_get (pc := 36) C gwX9 0 rfl rfl 0 (by decide) wm_2_15 rfl dX9_set_36 ?_
      obtain ⟨q7, hq7, h⟩ := bnd h
      refine r_callT_CV (Cn := RX2) (c0 := wFl E (fun i => a (i + 1)) (S.1) ++ hiC E a fa T) (w0 := ((wSg E a S) ++ hiC E a fa T)) (t := hiT E fa T) (pc := 39) C [.ref (a 1)] (c_X2_keep E l k a (fun i => a (i + 1)) fa T (S.1) hq7) [1, 2, 3, 4, 5, 6, 7, 8, 9, 10, 11, 12, 13, 14, 15, 16, 17, 18, 61, 62] (hpH2 E a fa S T) (by decide) 18 rfl rfl rfl g_X9_254 hd_X2_keep ⟨Nat.le_of_ble_eq_true rfl, Nat.le_of_ble_eq_true rfl⟩ ⟨Nat.le_of_ble_eq_true rfl, Nat.le_of_ble_eq_true rfl⟩ (Nat.le_of_ble_eq_true rfl) rfl dX9_set_39 (List.append_assoc _ _ _).symm (fun w1 hw1 => ?_)
      obtain ⟨fa8, hw1⟩ := hw1
      subst hw1
      refine ⟨wFl E (fun i => a (i + 1)) (S.1) ++ hiC E a fa8 q7, hiT E fa8 q7, (wSg E a S) ++ hiC E a fa8 q7, (List.append_assoc _ _ _).symm, rfl, hiT_le (Hkeep_h hq7), pwH2 E a _ _ _ _ _ _, ?_⟩
      refine r_world (List.append_assoc _ _ _) ?_
      refine r_aload_n (pc := 42) C (i := 0) dX9_set_42 rfl rfl ?_
      refine r_get (pc := 43) C gwX9 0 rfl rfl 0 (by decide) wm_2_15 rfl dX9_set_43 ?_
      refine r_get (pc := 46) C gwX0 1 rfl rfl 6 (by decide) wm_1_110 rfl dX9_set_46 ?_
      refine r_iload_n (pc := 49) C (i := 1) dX9_set_49 rfl rfl ?_
      obtain ⟨q9, hq9, h⟩ := bnd h
      refine r_callVp_CI (Cn := RX5) (pc := 50) C [.int p0] (c_X5_at E l k (fun i => a (i + 2)) 5 ((S.1) 1) p0 hq9) [2, 3] (hps_hi (List.append_assoc _ _ _).symm (hp_X9_set_0 E a fa8 S q7)) (by decide) 0 rfl rfl rfl g_X9_146 hd_X5_at ⟨Nat.le_of_ble_eq_true rfl, Nat.le_of_ble_eq_true rfl⟩ ⟨Nat.le_of_ble_eq_true rfl, Nat.le_of_ble_eq_true rfl⟩ (Nat.le_of_ble_eq_true rfl) rfl dX9_set_50 (fun r hr => ?_)
      have hr := hr.symm
      subst hr
      refine r_istore_n (pc := 53) C (i := 3) dX9_set_53 rfl (by decide) rfl ?_
      refine r_aload_n (pc := 54) C (i := 0) dX9_set_54 rfl rfl ?_
      refine r_get (pc := 55) C gwX9 0 rfl rfl 0 (by decide) wm_2_15 rfl dX9_set_55 ?_
      refine r_get (pc := 58) C gwX0 1 rfl rfl 6 (by decide) wm_1_110 rfl dX9_set_58 ?_
      refine r_iload_n (pc := 61) C (i := 1) dX9_set_61 rfl rfl ?_
      refine r_iload_n (pc := 62) C (i := 2) dX9_set_62 rfl rfl ?_
      obtain ⟨q10, hq10, h⟩ := bnd h
      obtain ⟨F11, hF11, h⟩ := lt_e h
      refine r_callV_CV (Cn := RX5) (pc := 63) C [.int p0, .int p1] (c_X5_put E l k (fun i => a (i + 2)) 5 ((S.1) 1) p0 p1 hq10) [2, 3] (hps_hi (List.append_assoc _ _ _).symm (hp_X9_set_0 E a fa8 S q7)) (by decide) 0 rfl rfl rfl g_X9_286 hd_X5_put ⟨Nat.le_of_ble_eq_true rfl, Nat.le_of_ble_eq_true rfl⟩ ⟨Nat.le_of_ble_eq_true rfl, Nat.le_of_ble_eq_true rfl⟩ (Nat.le_of_ble_eq_true rfl) rfl dX9_set_63 (fun w1 hw1 => ?_)
      subst hw1
      refine ⟨(wSg E a F11 ++ wHi E a fa8 q7), by rw [hF11]; exact putW_hi (List.append_assoc _ _ _).symm (List.append_assoc _ _ _).symm (hp_X9_set_0 E a fa8 S q7) rfl (pw_X9_set_0 E a fa8 S q7 q10), ?_⟩
      refine r_iload_n (pc := 66) C (i := 3) dX9_set_66 rfl rfl ?_
      cases h
      exact r_xI (r_ireti (pc := 67) C (TI_0 (hq fa8 (Nat.le_trans (Nat.le_refl _) (Hkeep_h hq7)))) (Nat.le_of_ble_eq_true rfl) (Nat.le_of_ble_eq_true rfl) dX9_set_67)
    · rw [if_neg c6] at h
      cases h
      exact r_throwAW (pc := 20) C hlt hno hdc 27 rfl wm_2_186 wm_1_13 dX9_set_20 dX9_set_23 dX9_set_24 dX9_set_27 dX9_set_30 (Nat.le_of_ble_eq_true rfl) (Nat.le_of_ble_eq_true rfl) (Nat.le_of_ble_eq_true rfl) (Nat.le_of_ble_eq_true rfl) (Nat.le_of_ble_eq_true rfl) (TI_x (by decide) (hq fa (Nat.le_refl _)))
def M_X9_set (k : Nat) (S : VV × VV × VV × VV × VV × Int32) (T : Nat × Int32 × Int32 × (Nat → VV)) (p0 : Int32) (p1 : Int32) : Option (Int32 × Int32 × (VV × VV × VV × VV × VV × Int32) × (Nat × Int32 × Int32 × (Nat → VV))) := M_X9_set_0 k p0 p1 S T
set_option maxRecDepth 100000 in
set_option maxHeartbeats 4000000 in
theorem c_X9_set (E : ENV) (l : Launch) (k : Nat) (a : Nat → Nat) (fa : Nat → Nat → Nat) (S : VV × VV × VV × VV × VV × Int32) (T : Nat × Int32 × Int32 × (Nat → VV)) (p0 : Int32) (p1 : Int32) (hlt : l.stackTraces = false) {q : Int32 × Int32 × (VV × VV × VV × VV × VV × Int32) × (Nat × Int32 × Int32 × (Nat → VV))} (hm : M_X9_set k S T p0 p1 = some q) : XI E l yX9_set cX9_set 4 (some .int) rm_X9_set [.ref (a 0), .int p0, .int p1] (wSg E a S ++ wHi E a fa T) (fun r w' => q.1 = 0 ∧ r = q.2.1 ∧ ∃ fa' : Nat → Nat → Nat, w' = (wSg E a q.2.2.1 ++ wHi E a fa' q.2.2.2) ∧ T.1 ≤ q.2.2.2.1) (fun cd w' => cd = q.1 ∧ ¬ q.1 = 0 ∧ ∃ fa' : Nat → Nat → Nat, w' = (wSg E a q.2.2.1 ++ wHi E a fa' q.2.2.2) ∧ T.1 ≤ q.2.2.2.1) :=
  XI.of 1 (by decide) (Nat.le_of_ble_eq_true rfl) (fun p e s m below meth c A C hno hdc => r_weak (lSub_s (lSub_s (lSub_s (lSub_n lSub_e)))) (N_X9_set_0 C a k fa hlt hno hdc p0 p1 S T q  hm (fun fa' hm' => TI_of ⟨fa', rfl, hm'⟩)))
set_option maxRecDepth 100000 in
theorem c2_X9_set (E : ENV) (l : Launch) (k : Nat) (a : Nat → Nat) (fa : Nat → Nat → Nat) (S : VV × VV × VV × VV × VV × Int32) (T : Nat × Int32 × Int32 × (Nat → VV)) (p0 : Int32) (p1 : Int32) (hlt : l.stackTraces = false) {q : Int32 × Int32 × (VV × VV × VV × VV × VV × Int32) × (Nat × Int32 × Int32 × (Nat → VV))} (hm : M_X9_set k S T p0 p1 = some q) : XI E l yX9_set cX9_set 4 (some .int) rm_X9_set [.ref (a 0), .int p0, .int p1] (((wSg E a S) ++ hiC E a fa T) ++ hiT E fa T) (fun r w' => q.1 = 0 ∧ r = q.2.1 ∧ ∃ fa' : Nat → Nat → Nat, w' = (wSg E a q.2.2.1 ++ wHi E a fa' q.2.2.2) ∧ T.1 ≤ q.2.2.2.1) (fun cd w' => cd = q.1 ∧ ¬ q.1 = 0 ∧ ∃ fa' : Nat → Nat → Nat, w' = (wSg E a q.2.2.1 ++ wHi E a fa' q.2.2.2) ∧ T.1 ≤ q.2.2.2.1) := by
  rw [show ((wSg E a S) ++ hiC E a fa T) ++ hiT E fa T = (wSg E a S ++ wHi E a fa T) from List.append_assoc _ _ _]
  exact c_X9_set E l k a fa S T p0 p1 hlt hm
theorem hd_X8_write : yX8_write.cls = RX8 ∧ yX8_write.cls ≠ "java/lang/invoke/MethodHandle" ∧ yX8_write.cls ≠ "java/lang/invoke/VarHandle" ∧ (parseMethodDescriptor yX8_write.desc).map (fun d => d.parameters.length) = some 2 := by decide +kernel
theorem g_X9_288 : GoodIn GW (wsV RX9 288 RX8 yX8_write (wsG yX8_write cX8_write 6 none)) := gw_V wm_5_69 wm_5_70 wm_5_71 wm_1_8 wm_5_72
-- ShardGuard.format(I)I
set_option maxHeartbeats 8000000 in
theorem hp_X9_format_0 (E : ENV) (a : Nat → Nat) (S : VV × VV × VV × VV × VV × Int32) : ([58, 59, 60, 1, 2, 3, 4, 5, 6, 7, 8, 9, 10, 11, 12, 13, 14, 15, 16, 17, 18] : List Nat).map (fun i => (wSg E a S)[i]?) = (wTx E (fun i => a (i + 58)) (S.2.2.2.2.1) ++ wFl E (fun i => a (i + 1)) (S.1)).map some := (seg_map2 (seg_mapE ([(a 0, .inr (7, [.ref (a 1), .ref (a 19), .ref (a 37), .int ((S.2.2.2.2.2)), .ref (a 61), .ref (a 55), .ref (a 58)]))] ++ (wFl E (fun i => a (i + 1)) (S.1) ++ (wFl E (fun i => a (i + 19)) (S.2.1) ++ (wFl E (fun i => a (i + 37)) (S.2.2.1) ++ (wTk E (fun i => a (i + 55)) (S.2.2.2.1)))))) (wTx E (fun i => a (i + 58)) (S.2.2.2.2.1)) (by first | (simp only [wSg, List.append_assoc, List.nil_append, List.append_nil]; done) | (simp only [wSg, List.append_assoc, List.nil_append, List.append_nil]; rfl) | rfl) 3 rfl [58, 59, 60] (by first | (simp only [List.length_append, List.length_cons, List.length_nil, wFl_len, wTk_len, wTx_len]; rfl) | rfl)) (seg_mapL ([(a 0, .inr (7, [.ref (a 1), .ref (a 19), .ref (a 37), .int ((S.2.2.2.2.2)), .ref (a 61), .ref (a 55), .ref (a 58)]))]) (wFl E (fun i => a (i + 1)) (S.1)) (wFl E (fun i => a (i + 19)) (S.2.1) ++ (wFl E (fun i => a (i + 37)) (S.2.2.1) ++ (wTk E (fun i => a (i + 55)) (S.2.2.2.1) ++ (wTx E (fun i => a (i + 58)) (S.2.2.2.2.1))))) (by first | (simp only [wSg, List.append_assoc, List.nil_append, List.append_nil]; done) | (simp only [wSg, List.append_assoc, List.nil_append, List.append_nil]; rfl) | rfl) 18 rfl [1, 2, 3, 4, 5, 6, 7, 8, 9, 10, 11, 12, 13, 14, 15, 16, 17, 18] (by first | (simp only [List.length_append, List.length_cons, List.length_nil, wFl_len, wTk_len, wTx_len]; rfl) | rfl)))
set_option maxHeartbeats 8000000 in
theorem pw_X9_format_0 (E : ENV) (a : Nat → Nat) (S : VV × VV × VV × VV × VV × Int32) (X0 : Nat → Nat → Int32) : putW (wSg E a S) [58, 59, 60, 1, 2, 3, 4, 5, 6, 7, 8, 9, 10, 11, 12, 13, 14, 15, 16, 17, 18] (wTx E (fun i => a (i + 58)) X0 ++ wFl E (fun i => a (i + 1)) (S.1)) = some (wSg E a (S.1, S.2.1, S.2.2.1, S.2.2.2.1, X0, S.2.2.2.2.2)) := seg_put2 ([(a 0, .inr (7, [.ref (a 1), .ref (a 19), .ref (a 37), .int ((S.2.2.2.2.2)), .ref (a 61), .ref (a 55), .ref (a 58)]))] ++ (wFl E (fun i => a (i + 1)) (S.1) ++ (wFl E (fun i => a (i + 19)) (S.2.1) ++ (wFl E (fun i => a (i + 37)) (S.2.2.1) ++ (wTk E (fun i => a (i + 55)) (S.2.2.2.1)))))) (wTx E (fun i => a (i + 58)) (S.2.2.2.2.1)) (wTx E (fun i => a (i + 58)) X0) ([] : va_W) (by first | (simp only [wSg, List.append_assoc, List.nil_append, List.append_nil]; done) | (simp only [wSg, List.append_assoc, List.nil_append, List.append_nil]; rfl) | rfl) 3 rfl rfl [58, 59, 60] (by first | (simp only [List.length_append, List.length_cons, List.length_nil, wFl_len, wTk_len, wTx_len]; rfl) | rfl) (seg_put1 (([(a 0, .inr (7, [.ref (a 1), .ref (a 19), .ref (a 37), .int ((S.2.2.2.2.2)), .ref (a 61), .ref (a 55), .ref (a 58)]))])) (wFl E (fun i => a (i + 1)) (S.1)) (wFl E (fun i => a (i + 1)) (S.1)) ((wFl E (fun i => a (i + 19)) (S.2.1) ++ (wFl E (fun i => a (i + 37)) (S.2.2.1) ++ (wTk E (fun i => a (i + 55)) (S.2.2.2.1)))) ++ (wTx E (fun i => a (i + 58)) X0)) (by first | (simp only [wSg, List.append_assoc, List.nil_append, List.append_nil]; done) | (simp only [wSg, List.append_assoc, List.nil_append, List.append_nil]; rfl) | rfl) (by first | (simp only [wSg, List.append_assoc, List.nil_append, List.append_nil]; done) | (simp only [wSg, List.append_assoc, List.nil_append, List.append_nil]; rfl) | rfl) 18 rfl rfl [1, 2, 3, 4, 5, 6, 7, 8, 9, 10, 11, 12, 13, 14, 15, 16, 17, 18] (by first | (simp only [List.length_append, List.length_cons, List.length_nil, wFl_len, wTk_len, wTx_len]; rfl) | rfl))
theorem dX9_format_0 : decode cX9_format 0 = .ok (.aload_n 0, 1) := by decide +kernel
theorem dX9_format_1 : decode cX9_format 1 = .ok (.iload_n 1, 1) := by decide +kernel
theorem dX9_format_2 : decode cX9_format 2 = .ok (.invokevirtual 151, 3) := by decide +kernel
theorem dX9_format_5 : decode cX9_format 5 = .ok (.aload_n 0, 1) := by decide +kernel
theorem dX9_format_6 : decode cX9_format 6 = .ok (.getfield 43, 3) := by decide +kernel
theorem dX9_format_9 : decode cX9_format 9 = .ok (.aload_n 0, 1) := by decide +kernel
theorem dX9_format_10 : decode cX9_format 10 = .ok (.getfield 12, 3) := by decide +kernel
theorem dX9_format_13 : decode cX9_format 13 = .ok (.iload_n 1, 1) := by decide +kernel
theorem dX9_format_14 : decode cX9_format 14 = .ok (.invokevirtual 288, 3) := by decide +kernel
theorem dX9_format_17 : decode cX9_format 17 = .ok (.aload_n 0, 1) := by decide +kernel
theorem dX9_format_18 : decode cX9_format 18 = .ok (.getfield 43, 3) := by decide +kernel
theorem dX9_format_21 : decode cX9_format 21 = .ok (.getfield 292, 3) := by decide +kernel
theorem dX9_format_24 : decode cX9_format 24 = .ok (.ireturn, 1) := by decide +kernel
def rm_X9_format : Room := { frames := 8, cells := 1, slots := 6, locals := 197 }
def M_X9_format_0 (k : Nat) (p0 : Int32) (S : VV × VV × VV × VV × VV × Int32) : Option (Int32 × Int32 × (VV × VV × VV × VV × VV × Int32)) := (M_X9_needWorker k S p0).bind fun q1 => (if q1 = 0 then (M_X8_write k (S.2.2.2.2.1) (S.1) p0).bind fun q3 => lt ((S.1, S.2.1, S.2.2.1, S.2.2.2.1, q3, S.2.2.2.2.2)) fun F4 => some ((0 : Int32), ((F4.2.2.2.2.1) 0 0), F4) else some (q1, (0 : Int32), S))
set_option maxRecDepth 100000 in
set_option maxHeartbeats 4000000 in
theorem N_X9_format_0 (C : CX E p l s m args meth c cX9_format 2 RX9 (some .int) A) (a : Nat → Nat) (k : Nat) {post : Int32 → va_W → Prop} {px : Int32 → va_W → Prop} (hlt : l.stackTraces = false) (hno : ∀ x ∈ c.exceptionTable.toList, False) (hdc : DC s) :
    ∀ (p0 : Int32) (S : VV × VV × VV × VV × VV × Int32) (q : Int32 × Int32 × (VV × VV × VV × VV × VV × Int32)), M_X9_format_0 k p0 S = some q → TI post px q.1 q.2.1 (wSg E a q.2.2) →
      WW E p l e rm_X9_format s m args below meth c A 0 0 (QXI E below post px args s rm_X9_format A) (wSg E a S) 2 [some (.ref (a 0)), some (.int p0)] 0 [] := by
  intro p0 S q  h hq
  unfold M_X9_format_0 at h
  refine r_aload_n (pc := 0) C (i := 0) dX9_format_0 rfl rfl ?_
  refine r_iload_n (pc := 1) C (i := 1) dX9_format_1 rfl rfl ?_
  obtain ⟨q1, hq1, h⟩ := bnd h
  -- may throw
  by_cases c2 : q1 = 0
  case neg =>
    rw [if_neg c2] at h
    cases h
    exact r_callXV_V (Cn := RX9) (pc := 2) C [.int p0] hno hdc (c_X9_needWorker E l k a S p0 hlt hq1) [0, 1, 2, 3, 4, 5, 6, 7, 8, 9, 10, 11, 12, 13, 14, 15, 16, 17, 18, 19, 20, 21, 22, 23, 24, 25, 26, 27, 28, 29, 30, 31, 32, 33, 34, 35, 36, 37, 38, 39, 40, 41, 42, 43, 44, 45, 46, 47, 48, 49, 50, 51, 52, 53, 54, 55, 56, 57, 58, 59, 60] (hp_X9_worker_0 E a S) (by decide) 0 rfl rfl rfl g_X9_151 hd_X9_needWorker ⟨Nat.le_of_ble_eq_true rfl, Nat.le_of_ble_eq_true rfl⟩ ⟨Nat.le_of_ble_eq_true rfl, Nat.le_of_ble_eq_true rfl⟩ (Nat.le_of_ble_eq_true rfl) rfl dX9_format_2 (fun cd w1 hx => ⟨(wSg E a S), by rw [hx.2.2]; exact (putW_self _ _ _ (hp_X9_worker_0 E a S)), by rw [hx.1]; exact TI_x c2 hq⟩) (fun w1 hx => absurd hx.1 c2)
  rw [if_pos c2] at h
  refine r_callXV_V (Cn := RX9) (pc := 2) C [.int p0] hno hdc (c_X9_needWorker E l k a S p0 hlt hq1) [0, 1, 2, 3, 4, 5, 6, 7, 8, 9, 10, 11, 12, 13, 14, 15, 16, 17, 18, 19, 20, 21, 22, 23, 24, 25, 26, 27, 28, 29, 30, 31, 32, 33, 34, 35, 36, 37, 38, 39, 40, 41, 42, 43, 44, 45, 46, 47, 48, 49, 50, 51, 52, 53, 54, 55, 56, 57, 58, 59, 60] (hp_X9_worker_0 E a S) (by decide) 0 rfl rfl rfl g_X9_151 hd_X9_needWorker ⟨Nat.le_of_ble_eq_true rfl, Nat.le_of_ble_eq_true rfl⟩ ⟨Nat.le_of_ble_eq_true rfl, Nat.le_of_ble_eq_true rfl⟩ (Nat.le_of_ble_eq_true rfl) rfl dX9_format_2 (fun cd w1 hx => absurd c2 hx.2.1) (fun w1 hx => ?_)
  refine ⟨(wSg E a S), by rw [hx.2]; exact (putW_self _ _ _ (hp_X9_worker_0 E a S)), ?_⟩
  refine r_aload_n (pc := 5) C (i := 0) dX9_format_5 rfl rfl ?_
  refine r_get (pc := 6) C gwX9 0 rfl rfl 6 (by decide) wm_2_21 rfl dX9_format_6 ?_
  refine r_aload_n (pc := 9) C (i := 0) dX9_format_9 rfl rfl ?_
  refine r_get (pc := 10) C gwX9 0 rfl rfl 0 (by decide) wm_2_15 rfl dX9_format_10 ?_
  refine r_iload_n (pc := 13) C (i := 1) dX9_format_13 rfl rfl ?_
  obtain ⟨q3, hq3, h⟩ := bnd h
  obtain ⟨F4, hF4, h⟩ := lt_e h
  refine r_callV_CV (Cn := RX8) (pc := 14) C [.ref (a 1), .int p0] (c_X8_write E l k (fun i => a (i + 58)) (fun i => a (i + 1)) (S.2.2.2.2.1) (S.1) p0 hq3) [58, 59, 60, 1, 2, 3, 4, 5, 6, 7, 8, 9, 10, 11, 12, 13, 14, 15, 16, 17, 18] (hp_X9_format_0 E a S) (by decide) 0 rfl rfl rfl g_X9_288 hd_X8_write ⟨Nat.le_of_ble_eq_true rfl, Nat.le_of_ble_eq_true rfl⟩ ⟨Nat.le_of_ble_eq_true rfl, Nat.le_of_ble_eq_true rfl⟩ (Nat.le_of_ble_eq_true rfl) rfl dX9_format_14 (fun w1 hw1 => ?_)
  subst hw1
  refine ⟨(wSg E a F4), by rw [hF4]; exact (pw_X9_format_0 E a S q3), ?_⟩
  refine r_aload_n (pc := 17) C (i := 0) dX9_format_17 rfl rfl ?_
  refine r_get (pc := 18) C gwX9 0 rfl rfl 6 (by decide) wm_2_21 rfl dX9_format_18 ?_
  refine r_get (pc := 21) C gwX8 58 rfl rfl 0 (by decide) wm_1_217 rfl dX9_format_21 ?_
  cases h
  exact r_xI (r_ireti (pc := 24) C (TI_0 hq) (Nat.le_of_ble_eq_true rfl) (Nat.le_of_ble_eq_true rfl) dX9_format_24)
def M_X9_format (k : Nat) (S : VV × VV × VV × VV × VV × Int32) (p0 : Int32) : Option (Int32 × Int32 × (VV × VV × VV × VV × VV × Int32)) := M_X9_format_0 k p0 S
set_option maxRecDepth 100000 in
set_option maxHeartbeats 4000000 in
theorem c_X9_format (E : ENV) (l : Launch) (k : Nat) (a : Nat → Nat) (S : VV × VV × VV × VV × VV × Int32) (p0 : Int32) (hlt : l.stackTraces = false) {q : Int32 × Int32 × (VV × VV × VV × VV × VV × Int32)} (hm : M_X9_format k S p0 = some q) : XI E l yX9_format cX9_format 2 (some .int) rm_X9_format [.ref (a 0), .int p0] (wSg E a S) (fun r w' => q.1 = 0 ∧ r = q.2.1 ∧ w' = (wSg E a q.2.2)) (fun cd w' => cd = q.1 ∧ ¬ q.1 = 0 ∧ w' = (wSg E a q.2.2)) :=
  XI.of 0 (by decide) (Nat.le_of_ble_eq_true rfl) (fun p e s m below meth c A C hno hdc => r_weak (lSub_s (lSub_s lSub_e)) (N_X9_format_0 C a k hlt hno hdc p0 S q  hm (TI_of rfl)))
end WALKS
