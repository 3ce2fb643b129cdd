section WALKS
variable {E : ENV} {p : Program} {l : Launch} {e : Env} {s : State} {m : MethodId} {args : Array Value} {below : List Frame} {meth : Method} {c : Code} {A : Nat → Prop}
-- ShardGuard.submit(IIZ)I
set_option maxHeartbeats 8000000 in
theorem hp_X9_submit_0 (E : ENV) (a : Nat → Nat) (fa : Nat → Nat → Nat) (S : VV × VV × VV × VV × VV × Int32) (T : Nat × Int32 × Int32 × (Nat → VV)) : ([0, 1, 2, 3, 4, 5, 6, 7, 8, 9, 10, 11, 12, 13, 14, 15, 16, 17, 18, 19, 20, 21, 22, 23, 24, 25, 26, 27, 28, 29, 30, 31, 32, 33, 34, 35, 36, 37, 38, 39, 40, 41, 42, 43, 44, 45, 46, 47, 48, 49, 50, 51, 52, 53, 54, 55, 56, 57, 58, 59, 60] : List Nat).map (fun i => ((wSg E a S) ++ hiC E a fa T)[i]?) = (wSg E a S).map some := (seg_mapL ([] : va_W) (wSg E a S) (hiC E a fa T) (by first | (simp only [wSg, List.append_assoc, List.nil_append, List.append_nil]; done) | (simp only [wSg, List.append_assoc, List.nil_append, List.append_nil]; rfl) | rfl) 61 rfl [0, 1, 2, 3, 4, 5, 6, 7, 8, 9, 10, 11, 12, 13, 14, 15, 16, 17, 18, 19, 20, 21, 22, 23, 24, 25, 26, 27, 28, 29, 30, 31, 32, 33, 34, 35, 36, 37, 38, 39, 40, 41, 42, 43, 44, 45, 46, 47, 48, 49, 50, 51, 52, 53, 54, 55, 56, 57, 58, 59, 60] (by first | (simp only [List.length_append, List.length_cons, List.length_nil, wFl_len, wTk_len, wTx_len]; rfl) | rfl))
theorem dX9_submit_0 : decode cX9_submit 0 = .ok (.aload_n 0, 1) := by decide +kernel
theorem dX9_submit_1 : decode cX9_submit 1 = .ok (.iload_n 1, 1) := by decide +kernel
theorem dX9_submit_2 : decode cX9_submit 2 = .ok (.invokevirtual 172, 3) := by decide +kernel
theorem dX9_submit_5 : decode cX9_submit 5 = .ok (.iload_n 2, 1) := by decide +kernel
theorem dX9_submit_6 : decode cX9_submit 6 = .ok (.iconst 1, 1) := by decide +kernel
theorem dX9_submit_7 : decode cX9_submit 7 = .ok (.if_icmp .lt 9, 3) := by decide +kernel
theorem dX9_submit_10 : decode cX9_submit 10 = .ok (.iload_n 2, 1) := by decide +kernel
theorem dX9_submit_11 : decode cX9_submit 11 = .ok (.bipush 20, 2) := by decide +kernel
theorem dX9_submit_13 : decode cX9_submit 13 = .ok (.if_icmp .le 13, 3) := by decide +kernel
theorem dX9_submit_16 : decode cX9_submit 16 = .ok (.new 59, 3) := by decide +kernel
theorem dX9_submit_19 : decode cX9_submit 19 = .ok (.dup, 1) := by decide +kernel
theorem dX9_submit_20 : decode cX9_submit 20 = .ok (.ldc 252, 2) := by decide +kernel
theorem dX9_submit_22 : decode cX9_submit 22 = .ok (.invokespecial 63, 3) := by decide +kernel
theorem dX9_submit_25 : decode cX9_submit 25 = .ok (.athrow, 1) := by decide +kernel
theorem dX9_submit_26 : decode cX9_submit 26 = .ok (.aload_n 0, 1) := by decide +kernel
theorem dX9_submit_27 : decode cX9_submit 27 = .ok (.getfield 12, 3) := by decide +kernel
theorem dX9_submit_30 : decode cX9_submit 30 = .ok (.getfield 100, 3) := by decide +kernel
theorem dX9_submit_33 : decode cX9_submit 33 = .ok (.bipush 60, 2) := by decide +kernel
theorem dX9_submit_35 : decode cX9_submit 35 = .ok (.if_icmp .lt 6, 3) := by decide +kernel
theorem dX9_submit_38 : decode cX9_submit 38 = .ok (.bipush (-3), 2) := by decide +kernel
theorem dX9_submit_40 : decode cX9_submit 40 = .ok (.ireturn, 1) := by decide +kernel
theorem dX9_submit_41 : decode cX9_submit 41 = .ok (.aload_n 0, 1) := by decide +kernel
theorem dX9_submit_42 : decode cX9_submit 42 = .ok (.getfield 29, 3) := by decide +kernel
theorem dX9_submit_45 : decode cX9_submit 45 = .ok (.aload_n 0, 1) := by decide +kernel
theorem dX9_submit_46 : decode cX9_submit 46 = .ok (.getfield 12, 3) := by decide +kernel
theorem dX9_submit_49 : decode cX9_submit 49 = .ok (.invokevirtual 254, 3) := by decide +kernel
theorem dX9_submit_52 : decode cX9_submit 52 = .ok (.aload_n 0, 1) := by decide +kernel
theorem dX9_submit_53 : decode cX9_submit 53 = .ok (.getfield 12, 3) := by decide +kernel
theorem dX9_submit_56 : decode cX9_submit 56 = .ok (.iload_n 1, 1) := by decide +kernel
theorem dX9_submit_57 : decode cX9_submit 57 = .ok (.iload_n 2, 1) := by decide +kernel
theorem dX9_submit_58 : decode cX9_submit 58 = .ok (.iload_n 3, 1) := by decide +kernel
theorem dX9_submit_59 : decode cX9_submit 59 = .ok (.invokevirtual 257, 3) := by decide +kernel
theorem dX9_submit_62 : decode cX9_submit 62 = .ok (.ireturn, 1) := by decide +kernel
def rm_X9_submit : Room := { frames := 7, cells := 19, slots := 1494, locals := 222 }
def M_X9_submit_0 (k : Nat) (p0 : Int32) (p1 : Int32) (p2 : Int32) (S : VV × VV × VV × VV × VV × Int32) (T : Nat × Int32 × Int32 × (Nat → VV)) : Option (Int32 × Int32 × (VV × VV × VV × VV × VV × Int32) × (Nat × Int32 × Int32 × (Nat → VV))) := (M_X9_needTenant k S p0).bind fun q1 => (if q1 = 0 then if p1 < (1 : Int32) then (some ((2 : Int32), (0 : Int32), S, T)) else (if p1 ≤ (20 : Int32) then (if ((S.1) 0 3) < (60 : Int32) then ((Hkeep k T (S.1)).bind fun q6 => (M_X0_addRequest k (S.1) p0 p1 p2).bind fun q8 => lt ((q8.2, S.2)) fun F9 => some ((0 : Int32), q8.1, F9, q6)) else (some ((0 : Int32), (-3 : Int32), S, T))) else (some ((2 : Int32), (0 : Int32), S, T))) else some (q1, (0 : Int32), S, T))
set_option maxRecDepth 100000 in
set_option maxHeartbeats 4000000 in
theorem N_X9_submit_0 (C : CX E p l s m args meth c cX9_submit 4 RX9 (some .int) A) (a : Nat → Nat) (k : Nat) (fa : Nat → Nat → Nat) {post : Int32 → va_W → Prop} {px : Int32 → va_W → Prop} (hlt : l.stackTraces = false) (hno : ∀ x ∈ c.exceptionTable.toList, False) (hdc : DC s) :
    ∀ (p0 : Int32) (p1 : Int32) (p2 : Int32) (S : VV × VV × VV × VV × VV × Int32) (T : Nat × Int32 × Int32 × (Nat → VV)) (q : Int32 × Int32 × (VV × VV × VV × VV × VV × Int32) × (Nat × Int32 × Int32 × (Nat → VV))), M_X9_submit_0 k p0 p1 p2 S T = some q → (∀ fa' : Nat → Nat → Nat, T.1 ≤ q.2.2.2.1 → TI post px q.1 q.2.1 (wSg E a q.2.2.1 ++ wHi E a fa' q.2.2.2)) →
      WW E p l e rm_X9_submit s m args below meth c A 0 0 (QXI E below post px args s rm_X9_submit A) (wSg E a S ++ wHi E a fa T) 4 [some (.ref (a 0)), some (.int p0), some (.int p1), some (.int p2)] 0 [] := by
  intro p0 p1 p2 S T q  h hq
  unfold M_X9_submit_0 at h
  refine r_aload_n (pc := 0) C (i := 0) dX9_submit_0 rfl rfl ?_
  refine r_iload_n (pc := 1) C (i := 1) dX9_submit_1 rfl rfl ?_
  obtain ⟨q1, hq1, h⟩ := bnd h
  -- may throw
  by_cases c2 : q1 = 0
  case neg =>
    rw [if_neg c2] at h
    cases h
    exact r_callXV_V (Cn := RX9) (pc := 2) C [.int p0] hno hdc (c_X9_needTenant E l k a S p0 hlt hq1) [0, 1, 2, 3, 4, 5, 6, 7, 8, 9, 10, 11, 12, 13, 14, 15, 16, 17, 18, 19, 20, 21, 22, 23, 24, 25, 26, 27, 28, 29, 30, 31, 32, 33, 34, 35, 36, 37, 38, 39, 40, 41, 42, 43, 44, 45, 46, 47, 48, 49, 50, 51, 52, 53, 54, 55, 56, 57, 58, 59, 60] (hps_hi (List.append_assoc _ _ _).symm (hp_X9_submit_0 E a fa S T)) (by decide) 0 rfl rfl rfl g_X9_172 hd_X9_needTenant ⟨Nat.le_of_ble_eq_true rfl, Nat.le_of_ble_eq_true rfl⟩ ⟨Nat.le_of_ble_eq_true rfl, Nat.le_of_ble_eq_true rfl⟩ (Nat.le_of_ble_eq_true rfl) rfl dX9_submit_2 (fun cd w1 hx => ⟨(wSg E a S ++ wHi E a fa T), by rw [hx.2.2]; exact (putW_self _ _ _ (hps_hi (List.append_assoc _ _ _).symm (hp_X9_submit_0 E a fa S T))), by rw [hx.1]; exact TI_x c2 (hq fa (Nat.le_refl _))⟩) (fun w1 hx => absurd hx.1 c2)
  rw [if_pos c2] at h
  refine r_callXV_V (Cn := RX9) (pc := 2) C [.int p0] hno hdc (c_X9_needTenant E l k a S p0 hlt hq1) [0, 1, 2, 3, 4, 5, 6, 7, 8, 9, 10, 11, 12, 13, 14, 15, 16, 17, 18, 19, 20, 21, 22, 23, 24, 25, 26, 27, 28, 29, 30, 31, 32, 33, 34, 35, 36, 37, 38, 39, 40, 41, 42, 43, 44, 45, 46, 47, 48, 49, 50, 51, 52, 53, 54, 55, 56, 57, 58, 59, 60] (hps_hi (List.append_assoc _ _ _).symm (hp_X9_submit_0 E a fa S T)) (by decide) 0 rfl rfl rfl g_X9_172 hd_X9_needTenant ⟨Nat.le_of_ble_eq_true rfl, Nat.le_of_ble_eq_true rfl⟩ ⟨Nat.le_of_ble_eq_true rfl, Nat.le_of_ble_eq_true rfl⟩ (Nat.le_of_ble_eq_true rfl) rfl dX9_submit_2 (fun cd w1 hx => absurd c2 hx.2.1) (fun w1 hx => ?_)
  refine ⟨(wSg E a S ++ wHi E a fa T), by rw [hx.2]; exact (putW_self _ _ _ (hps_hi (List.append_assoc _ _ _).symm (hp_X9_submit_0 E a fa S T))), ?_⟩
  refine r_iload_n (pc := 5) C (i := 2) dX9_submit_5 rfl rfl ?_
  refine r_iconst (pc := 6) C (v := 1) dX9_submit_6 (by decide) ?_
  refine r_icmp_lt (pc := 7) C (tgt := 16) dX9_submit_7 rfl (fun c3 => ?_) (fun c3 => ?_)
  · rw [if_pos c3] at h
    cases h
    exact r_throwA (pc := 16) C hlt hno hdc 24 rfl wm_2_186 wm_1_13 dX9_submit_16 dX9_submit_19 dX9_submit_20 dX9_submit_22 dX9_submit_25 (Nat.le_of_ble_eq_true rfl) (Nat.le_of_ble_eq_true rfl) (Nat.le_of_ble_eq_true rfl) (Nat.le_of_ble_eq_true rfl) (Nat.le_of_ble_eq_true rfl) (TI_x (by decide) (hq fa (Nat.le_refl _)))
  · rw [if_neg c3] at h
    refine r_iload_n (pc := 10) C (i := 2) dX9_submit_10 rfl rfl ?_
    refine r_bipush (pc := 11) C (v := 20) dX9_submit_11 (by decide) ?_
    refine r_icmp_le (pc := 13) C (tgt := 26) dX9_submit_13 rfl (fun c4 => ?_) (fun c4 => ?_)
    · rw [if_pos c4] at h
      refine r_aload_n (pc := 26) C (i := 0) dX9_submit_26 rfl rfl ?_
      refine r_get (pc := 27) C gwX9 0 rfl rfl 0 (by decide) wm_2_15 rfl dX9_submit_27 ?_
      refine r_get (pc := 30) C gwX0 1 rfl rfl 3 (by decide) wm_1_103 rfl dX9_submit_30 ?_
      refine r_bipush (pc := 33) C (v := 60) dX9_submit_33 (by decide) ?_
      refine r_icmp_lt (pc := 35) C (tgt := 41) dX9_submit_35 rfl (fun c5 => ?_) (fun c5 => ?_)
      · rw [if_pos c5] at h
        refine r_aload_n (pc := 41) C (i := 0) dX9_submit_41 rfl rfl ?_
        refine r_get (pc := 42) C gwX9 0 rfl rfl 4 (by decide) wm_2_19 rfl dX9_submit_42 ?_
        refine r_aload_n (pc := 45) C (i := 0) dX9_submit_45 rfl rfl ?_
        refine r_get (pc := 46) C gwX9 0 rfl rfl 0 (by decide) wm_2_15 rfl dX9_submit_46 ?_
        obtain ⟨q6, hq6, h⟩ := bnd h
        refine r_callT_CV (Cn := RX2) (c0 := wFl E (fun i => a (i + 1)) (S.1) ++ hiC E a fa T) (w0 := ((wSg E a S) ++ hiC E a fa T)) (t := hiT E fa T) (pc := 49) C [.ref (a 1)] (c_X2_keep E l k a (fun i => a (i + 1)) fa T (S.1) hq6) [1, 2, 3, 4, 5, 6, 7, 8, 9, 10, 11, 12, 13, 14, 15, 16, 17, 18, 61, 62] (hpH2 E a fa S T) (by decide) 18 rfl rfl rfl g_X9_254 hd_X2_keep ⟨Nat.le_of_ble_eq_true rfl, Nat.le_of_ble_eq_true rfl⟩ ⟨Nat.le_of_ble_eq_true rfl, Nat.le_of_ble_eq_true rfl⟩ (Nat.le_of_ble_eq_true rfl) rfl dX9_submit_49 (List.append_assoc _ _ _).symm (fun w1 hw1 => ?_)
        obtain ⟨fa7, hw1⟩ := hw1
        subst hw1
        refine ⟨wFl E (fun i => a (i + 1)) (S.1) ++ hiC E a fa7 q6, hiT E fa7 q6, (wSg E a S) ++ hiC E a fa7 q6, (List.append_assoc _ _ _).symm, rfl, hiT_le (Hkeep_h hq6), pwH2 E a _ _ _ _ _ _, ?_⟩
        refine r_world (List.append_assoc _ _ _) ?_
        refine r_aload_n (pc := 52) C (i := 0) dX9_submit_52 rfl rfl ?_
        refine r_get (pc := 53) C gwX9 0 rfl rfl 0 (by decide) wm_2_15 rfl dX9_submit_53 ?_
        refine r_iload_n (pc := 56) C (i := 1) dX9_submit_56 rfl rfl ?_
        refine r_iload_n (pc := 57) C (i := 2) dX9_submit_57 rfl rfl ?_
        refine r_iload_n (pc := 58) C (i := 3) dX9_submit_58 rfl rfl ?_
        obtain ⟨q8, hq8, h⟩ := bnd h
        obtain ⟨F9, hF9, h⟩ := lt_e h
        refine r_callV_CI (Cn := RX0) (pc := 59) C [.int p0, .int p1, .int p2] (c_X0_addRequest E l k (fun i => a (i + 1)) (S.1) p0 p1 p2 hq8) [1, 2, 3, 4, 5, 6, 7, 8, 9, 10, 11, 12, 13, 14, 15, 16, 17, 18] (hps_hi (List.append_assoc _ _ _).symm (hp_X9_pass_0 E a fa7 S q6)) (by decide) 0 rfl rfl rfl g_X9_257 hd_X0_addRequest ⟨Nat.le_of_ble_eq_true rfl, Nat.le_of_ble_eq_true rfl⟩ ⟨Nat.le_of_ble_eq_true rfl, Nat.le_of_ble_eq_true rfl⟩ (Nat.le_of_ble_eq_true rfl) rfl dX9_submit_59 (fun r w1 hw1 => ?_)
        obtain ⟨hr1, hw1⟩ := hw1
        subst hr1 hw1
        refine ⟨(wSg E a F9 ++ wHi E a fa7 q6), by rw [hF9]; exact putW_hi (List.append_assoc _ _ _).symm (List.append_assoc _ _ _).symm (hp_X9_pass_0 E a fa7 S q6) rfl (pw_X9_pass_0 E a fa7 S q6 q8.2), ?_⟩
        cases h
        exact r_xI (r_ireti (pc := 62) C (TI_0 (hq fa7 (Nat.le_trans (Nat.le_refl _) (Hkeep_h hq6)))) (Nat.le_of_ble_eq_true rfl) (Nat.le_of_ble_eq_true rfl) dX9_submit_62)
      · rw [if_neg c5] at h
        refine r_bipush (pc := 38) C (v := (-3)) dX9_submit_38 (by decide) ?_
        have h := Option.some.inj h
        subst h
        exact r_xI (r_ireti (pc := 40) C (TI_0 (hq fa (Nat.le_refl _))) (Nat.le_of_ble_eq_true rfl) (Nat.le_of_ble_eq_true rfl) dX9_submit_40)
    · rw [if_neg c4] at h
      cases h
      exact r_throwA (pc := 16) C hlt hno hdc 24 rfl wm_2_186 wm_1_13 dX9_submit_16 dX9_submit_19 dX9_submit_20 dX9_submit_22 dX9_submit_25 (Nat.le_of_ble_eq_true rfl) (Nat.le_of_ble_eq_true rfl) (Nat.le_of_ble_eq_true rfl) (Nat.le_of_ble_eq_true rfl) (Nat.le_of_ble_eq_true rfl) (TI_x (by decide) (hq fa (Nat.le_refl _)))
def M_X9_submit (k : Nat) (S : VV × VV × VV × VV × VV × Int32) (T : Nat × Int32 × Int32 × (Nat → VV)) (p0 : Int32) (p1 : Int32) (p2 : Int32) : Option (Int32 × Int32 × (VV × VV × VV × VV × VV × Int32) × (Nat × Int32 × Int32 × (Nat → VV))) := M_X9_submit_0 k p0 p1 p2 S T
set_option maxRecDepth 100000 in
set_option maxHeartbeats 4000000 in
theorem c_X9_submit (E : ENV) (l : Launch) (k : Nat) (a : Nat → Nat) (fa : Nat → Nat → Nat) (S : VV × VV × VV × VV × VV × Int32) (T : Nat × Int32 × Int32 × (Nat → VV)) (p0 : Int32) (p1 : Int32) (p2 : Int32) (hlt : l.stackTraces = false) {q : Int32 × Int32 × (VV × VV × VV × VV × VV × Int32) × (Nat × Int32 × Int32 × (Nat → VV))} (hm : M_X9_submit k S T p0 p1 p2 = some q) : XI E l yX9_submit cX9_submit 4 (some .int) rm_X9_submit [.ref (a 0), .int p0, .int p1, .int p2] (wSg E a S ++ wHi E a fa T) (fun r w' => q.1 = 0 ∧ r = q.2.1 ∧ ∃ fa' : Nat → Nat → Nat, w' = (wSg E a q.2.2.1 ++ wHi E a fa' q.2.2.2) ∧ T.1 ≤ q.2.2.2.1) (fun cd w' => cd = q.1 ∧ ¬ q.1 = 0 ∧ ∃ fa' : Nat → Nat → Nat, w' = (wSg E a q.2.2.1 ++ wHi E a fa' q.2.2.2) ∧ T.1 ≤ q.2.2.2.1) :=
  XI.of 0 (by decide) (Nat.le_of_ble_eq_true rfl) (fun p e s m below meth c A C hno hdc => r_weak (lSub_s (lSub_s (lSub_s (lSub_s lSub_e)))) (N_X9_submit_0 C a k fa hlt hno hdc p0 p1 p2 S T q  hm (fun fa' hm' => TI_of ⟨fa', rfl, hm'⟩)))
set_option maxRecDepth 100000 in
theorem c2_X9_submit (E : ENV) (l : Launch) (k : Nat) (a : Nat → Nat) (fa : Nat → Nat → Nat) (S : VV × VV × VV × VV × VV × Int32) (T : Nat × Int32 × Int32 × (Nat → VV)) (p0 : Int32) (p1 : Int32) (p2 : Int32) (hlt : l.stackTraces = false) {q : Int32 × Int32 × (VV × VV × VV × VV × VV × Int32) × (Nat × Int32 × Int32 × (Nat → VV))} (hm : M_X9_submit k S T p0 p1 p2 = some q) : XI E l yX9_submit cX9_submit 4 (some .int) rm_X9_submit [.ref (a 0), .int p0, .int p1, .int p2] (((wSg E a S) ++ hiC E a fa T) ++ hiT E fa T) (fun r w' => q.1 = 0 ∧ r = q.2.1 ∧ ∃ fa' : Nat → Nat → Nat, w' = (wSg E a q.2.2.1 ++ wHi E a fa' q.2.2.2) ∧ T.1 ≤ q.2.2.2.1) (fun cd w' => cd = q.1 ∧ ¬ q.1 = 0 ∧ ∃ fa' : Nat → Nat → Nat, w' = (wSg E a q.2.2.1 ++ wHi E a fa' q.2.2.2) ∧ T.1 ≤ q.2.2.2.1) := by
  rw [show ((wSg E a S) ++ hiC E a fa T) ++ hiT E fa T = (wSg E a S ++ wHi E a fa T) from List.append_assoc _ _ _]
  exact c_X9_submit E l k a fa S T p0 p1 p2 hlt hm
theorem g_X9_263 : GoodIn GW (wsV RX9 263 RX0 yX0_takeDown (wsG yX0_takeDown cX0_takeDown 2 none)) := gw_V wm_5_25 wm_4_192 wm_4_193 wm_1_2 wm_4_194
theorem g_X9_266 : GoodIn GW (wsV RX9 266 RX0 yX0_routeQueue (wsG yX0_routeQueue cX0_routeQueue 5 none)) := gw_V wm_5_26 wm_4_205 wm_4_206 wm_1_2 wm_4_207
-- ShardGuard.kill(I)I
theorem dX9_kill_0 : decode cX9_kill 0 = .ok (.aload_n 0, 1) := by decide +kernel
theorem dX9_kill_1 : decode cX9_kill 1 = .ok (.iload_n 1, 1) := by decide +kernel
theorem dX9_kill_2 : decode cX9_kill 2 = .ok (.invokevirtual 151, 3) := by decide +kernel
theorem dX9_kill_5 : decode cX9_kill 5 = .ok (.aload_n 0, 1) := by decide +kernel
theorem dX9_kill_6 : decode cX9_kill 6 = .ok (.getfield 12, 3) := by decide +kernel
theorem dX9_kill_9 : decode cX9_kill 9 = .ok (.iload_n 1, 1) := by decide +kernel
theorem dX9_kill_10 : decode cX9_kill 10 = .ok (.invokevirtual 154, 3) := by decide +kernel
theorem dX9_kill_13 : decode cX9_kill 13 = .ok (.ifCond .ne 6, 3) := by decide +kernel
theorem dX9_kill_16 : decode cX9_kill 16 = .ok (.bipush (-2), 2) := by decide +kernel
theorem dX9_kill_18 : decode cX9_kill 18 = .ok (.ireturn, 1) := by decide +kernel
theorem dX9_kill_19 : decode cX9_kill 19 = .ok (.aload_n 0, 1) := by decide +kernel
theorem dX9_kill_20 : decode cX9_kill 20 = .ok (.getfield 29, 3) := by decide +kernel
theorem dX9_kill_23 : decode cX9_kill 23 = .ok (.aload_n 0, 1) := by decide +kernel
theorem dX9_kill_24 : decode cX9_kill 24 = .ok (.getfield 12, 3) := by decide +kernel
theorem dX9_kill_27 : decode cX9_kill 27 = .ok (.invokevirtual 254, 3) := by decide +kernel
theorem dX9_kill_30 : decode cX9_kill 30 = .ok (.aload_n 0, 1) := by decide +kernel
theorem dX9_kill_31 : decode cX9_kill 31 = .ok (.getfield 12, 3) := by decide +kernel
theorem dX9_kill_34 : decode cX9_kill 34 = .ok (.iload_n 1, 1) := by decide +kernel
theorem dX9_kill_35 : decode cX9_kill 35 = .ok (.invokevirtual 263, 3) := by decide +kernel
theorem dX9_kill_38 : decode cX9_kill 38 = .ok (.aload_n 0, 1) := by decide +kernel
theorem dX9_kill_39 : decode cX9_kill 39 = .ok (.getfield 12, 3) := by decide +kernel
theorem dX9_kill_42 : decode cX9_kill 42 = .ok (.iload_n 1, 1) := by decide +kernel
theorem dX9_kill_43 : decode cX9_kill 43 = .ok (.invokevirtual 266, 3) := by decide +kernel
theorem dX9_kill_46 : decode cX9_kill 46 = .ok (.aload_n 0, 1) := by decide +kernel
theorem dX9_kill_47 : decode cX9_kill 47 = .ok (.getfield 12, 3) := by decide +kernel
theorem dX9_kill_50 : decode cX9_kill 50 = .ok (.getfield 106, 3) := by decide +kernel
theorem dX9_kill_53 : decode cX9_kill 53 = .ok (.invokestatic 109, 3) := by decide +kernel
theorem dX9_kill_56 : decode cX9_kill 56 = .ok (.ireturn, 1) := by decide +kernel
def rm_X9_kill : Room := { frames := 7, cells := 19, slots := 1494, locals := 222 }
def M_X9_kill_0 (k : Nat) (p0 : Int32) (S : VV × VV × VV × VV × VV × Int32) (T : Nat × Int32 × Int32 × (Nat → VV)) : Option (Int32 × Int32 × (VV × VV × VV × VV × VV × Int32) × (Nat × Int32 × Int32 × (Nat → VV))) := (M_X9_needWorker k S p0).bind fun q1 => (if q1 = 0 then (M_X0_isUp k (S.1) p0).bind fun q3 => if q3 = 0 then (some ((0 : Int32), (-2 : Int32), S, T)) else ((Hkeep k T (S.1)).bind fun q5 => (M_X0_takeDown k (S.1) p0).bind fun q7 => lt ((q7, S.2)) fun F8 => (M_X0_routeQueue k (F8.1) p0).bind fun q9 => lt ((q9, F8.2)) fun F10 => (M_J6_bitCount_0f7a4 k ((F10.1) 0 5)).bind fun q11 => some ((0 : Int32), q11, F10, q5)) else some (q1, (0 : Int32), S, T))
set_option maxRecDepth 100000 in
set_option maxHeartbeats 4000000 in
theorem N_X9_kill_0 (C : CX E p l s m args meth c cX9_kill 2 RX9 (some .int) A) (a : Nat → Nat) (k : Nat) (fa : Nat → Nat → Nat) {post : Int32 → va_W → Prop} {px : Int32 → va_W → Prop} (hlt : l.stackTraces = false) (hno : ∀ x ∈ c.exceptionTable.toList, False) (hdc : DC s) :
    ∀ (p0 : Int32) (S : VV × VV × VV × VV × VV × Int32) (T : Nat × Int32 × Int32 × (Nat → VV)) (q : Int32 × Int32 × (VV × VV × VV × VV × VV × Int32) × (Nat × Int32 × Int32 × (Nat → VV))), M_X9_kill_0 k p0 S T = some q → (∀ fa' : Nat → Nat → Nat, T.1 ≤ q.2.2.2.1 → TI post px q.1 q.2.1 (wSg E a q.2.2.1 ++ wHi E a fa' q.2.2.2)) →
      WW E p l e rm_X9_kill s m args below meth c A 0 0 (QXI E below post px args s rm_X9_kill A) (wSg E a S ++ wHi E a fa T) 2 [some (.ref (a 0)), some (.int p0)] 0 [] := by
  intro p0 S T q  h hq
  unfold M_X9_kill_0 at h
  refine r_aload_n (pc := 0) C (i := 0) dX9_kill_0 rfl rfl ?_
  refine r_iload_n (pc := 1) C (i := 1) dX9_kill_1 rfl rfl ?_
  obtain ⟨q1, hq1, h⟩ := bnd h
  -- may throw
  by_cases c2 : q1 = 0
  case neg =>
    rw [if_neg c2] at h
    cases h
    exact r_callXV_V (Cn := RX9) (pc := 2) C [.int p0] hno hdc (c_X9_needWorker E l k a S p0 hlt hq1) [0, 1, 2, 3, 4, 5, 6, 7, 8, 9, 10, 11, 12, 13, 14, 15, 16, 17, 18, 19, 20, 21, 22, 23, 24, 25, 26, 27, 28, 29, 30, 31, 32, 33, 34, 35, 36, 37, 38, 39, 40, 41, 42, 43, 44, 45, 46, 47, 48, 49, 50, 51, 52, 53, 54, 55, 56, 57, 58, 59, 60] (hps_hi (List.append_assoc _ _ _).symm (hp_X9_submit_0 E a fa S T)) (by decide) 0 rfl rfl rfl g_X9_151 hd_X9_needWorker ⟨Nat.le_of_ble_eq_true rfl, Nat.le_of_ble_eq_true rfl⟩ ⟨Nat.le_of_ble_eq_true rfl, Nat.le_of_ble_eq_true rfl⟩ (Nat.le_of_ble_eq_true rfl) rfl dX9_kill_2 (fun cd w1 hx => ⟨(wSg E a S ++ wHi E a fa T), by rw [hx.2.2]; exact (putW_self _ _ _ (hps_hi (List.append_assoc _ _ _).symm (hp_X9_submit_0 E a fa S T))), by rw [hx.1]; exact TI_x c2 (hq fa (Nat.le_refl _))⟩) (fun w1 hx => absurd hx.1 c2)
  rw [if_pos c2] at h
  refine r_callXV_V (Cn := RX9) (pc := 2) C [.int p0] hno hdc (c_X9_needWorker E l k a S p0 hlt hq1) [0, 1, 2, 3, 4, 5, 6, 7, 8, 9, 10, 11, 12, 13, 14, 15, 16, 17, 18, 19, 20, 21, 22, 23, 24, 25, 26, 27, 28, 29, 30, 31, 32, 33, 34, 35, 36, 37, 38, 39, 40, 41, 42, 43, 44, 45, 46, 47, 48, 49, 50, 51, 52, 53, 54, 55, 56, 57, 58, 59, 60] (hps_hi (List.append_assoc _ _ _).symm (hp_X9_submit_0 E a fa S T)) (by decide) 0 rfl rfl rfl g_X9_151 hd_X9_needWorker ⟨Nat.le_of_ble_eq_true rfl, Nat.le_of_ble_eq_true rfl⟩ ⟨Nat.le_of_ble_eq_true rfl, Nat.le_of_ble_eq_true rfl⟩ (Nat.le_of_ble_eq_true rfl) rfl dX9_kill_2 (fun cd w1 hx => absurd c2 hx.2.1) (fun w1 hx => ?_)
  refine ⟨(wSg E a S ++ wHi E a fa T), by rw [hx.2]; exact (putW_self _ _ _ (hps_hi (List.append_assoc _ _ _).symm (hp_X9_submit_0 E a fa S T))), ?_⟩
  refine r_aload_n (pc := 5) C (i := 0) dX9_kill_5 rfl rfl ?_
  refine r_get (pc := 6) C gwX9 0 rfl rfl 0 (by decide) wm_2_15 rfl dX9_kill_6 ?_
  refine r_iload_n (pc := 9) C (i := 1) dX9_kill_9 rfl rfl ?_
  obtain ⟨q3, hq3, h⟩ := bnd h
  refine r_callVp_CI (Cn := RX0) (pc := 10) C [.int p0] (c_X0_isUp E l k (fun i => a (i + 1)) (S.1) p0 hq3) [1, 2, 3, 4, 5, 6, 7, 8, 9, 10, 11, 12, 13, 14, 15, 16, 17, 18] (hps_hi (List.append_assoc _ _ _).symm (hp_X9_pass_0 E a fa S T)) (by decide) 0 rfl rfl rfl g_X9_154 hd_X0_isUp ⟨Nat.le_of_ble_eq_true rfl, Nat.le_of_ble_eq_true rfl⟩ ⟨Nat.le_of_ble_eq_true rfl, Nat.le_of_ble_eq_true rfl⟩ (Nat.le_of_ble_eq_true rfl) rfl dX9_kill_10 (fun r hr => ?_)
  have hr := hr.symm
  subst hr
  refine r_if_ne (pc := 13) C (tgt := 19) dX9_kill_13 rfl (fun c4 => ?_) (fun c4 => ?_)
  · rw [if_neg c4] at h
    refine r_aload_n (pc := 19) C (i := 0) dX9_kill_19 rfl rfl ?_
    refine r_get (pc := 20) C gwX9 0 rfl rfl 4 (by decide) wm_2_19 rfl dX9_kill_20 ?_
    refine r_aload_n (pc := 23) C (i := 0) dX9_kill_23 rfl rfl ?_
    refine r_get (pc := 24) C gwX9 0 rfl rfl 0 (by decide) wm_2_15 rfl dX9_kill_24 ?_
    obtain ⟨q5, hq5, h⟩ := bnd h
    refine r_callT_CV (Cn := RX2) (c0 := wFl E (fun i => a (i + 1)) (S.1) ++ hiC E a fa T) (w0 := ((wSg E a S) ++ hiC E a fa T)) (t := hiT E fa T) (pc := 27) C [.ref (a 1)] (c_X2_keep E l k a (fun i => a (i + 1)) fa T (S.1) hq5) [1, 2, 3, 4, 5, 6, 7, 8, 9, 10, 11, 12, 13, 14, 15, 16, 17, 18, 61, 62] (hpH2 E a fa S T) (by decide) 18 rfl rfl rfl g_X9_254 hd_X2_keep ⟨Nat.le_of_ble_eq_true rfl, Nat.le_of_ble_eq_true rfl⟩ ⟨Nat.le_of_ble_eq_true rfl, Nat.le_of_ble_eq_true rfl⟩ (Nat.le_of_ble_eq_true rfl) rfl dX9_kill_27 (List.append_assoc _ _ _).symm (fun w1 hw1 => ?_)
    obtain ⟨fa6, hw1⟩ := hw1
    subst hw1
    refine ⟨wFl E (fun i => a (i + 1)) (S.1) ++ hiC E a fa6 q5, hiT E fa6 q5, (wSg E a S) ++ hiC E a fa6 q5, (List.append_assoc _ _ _).symm, rfl, hiT_le (Hkeep_h hq5), pwH2 E a _ _ _ _ _ _, ?_⟩
    refine r_world (List.append_assoc _ _ _) ?_
    refine r_aload_n (pc := 30) C (i := 0) dX9_kill_30 rfl rfl ?_
    refine r_get (pc := 31) C gwX9 0 rfl rfl 0 (by decide) wm_2_15 rfl dX9_kill_31 ?_
    refine r_iload_n (pc := 34) C (i := 1) dX9_kill_34 rfl rfl ?_
    obtain ⟨q7, hq7, h⟩ := bnd h
    obtain ⟨F8, hF8, h⟩ := lt_e h
    refine r_callV_CV (Cn := RX0) (pc := 35) C [.int p0] (c_X0_takeDown E l k (fun i => a (i + 1)) (S.1) p0 hq7) [1, 2, 3, 4, 5, 6, 7, 8, 9, 10, 11, 12, 13, 14, 15, 16, 17, 18] (hps_hi (List.append_assoc _ _ _).symm (hp_X9_pass_0 E a fa6 S q5)) (by decide) 0 rfl rfl rfl g_X9_263 hd_X0_takeDown ⟨Nat.le_of_ble_eq_true rfl, Nat.le_of_ble_eq_true rfl⟩ ⟨Nat.le_of_ble_eq_true rfl, Nat.le_of_ble_eq_true rfl⟩ (Nat.le_of_ble_eq_true rfl) rfl dX9_kill_35 (fun w1 hw1 => ?_)
    subst hw1
    refine ⟨(wSg E a F8 ++ wHi E a fa6 q5), by rw [hF8]; exact putW_hi (List.append_assoc _ _ _).symm (List.append_assoc _ _ _).symm (hp_X9_pass_0 E a fa6 S q5) rfl (pw_X9_pass_0 E a fa6 S q5 q7), ?_⟩
    refine r_aload_n (pc := 38) C (i := 0) dX9_kill_38 rfl rfl ?_
    refine r_get (pc := 39) C gwX9 0 rfl rfl 0 (by decide) wm_2_15 rfl dX9_kill_39 ?_
    refine r_iload_n (pc := 42) C (i := 1) dX9_kill_42 rfl rfl ?_
    obtain ⟨q9, hq9, h⟩ := bnd h
    obtain ⟨F10, hF10, h⟩ := lt_e h
    refine r_callV_CV (Cn := RX0) (pc := 43) C [.int p0] (c_X0_routeQueue E l k (fun i => a (i + 1)) (F8.1) p0 hq9) [1, 2, 3, 4, 5, 6, 7, 8, 9, 10, 11, 12, 13, 14, 15, 16, 17, 18] (hps_hi (List.append_assoc _ _ _).symm (hp_X9_pass_0 E a fa6 F8 q5)) (by decide) 0 rfl rfl rfl g_X9_266 hd_X0_routeQueue ⟨Nat.le_of_ble_eq_true rfl, Nat.le_of_ble_eq_true rfl⟩ ⟨Nat.le_of_ble_eq_true rfl, Nat.le_of_ble_eq_true rfl⟩ (Nat.le_of_ble_eq_true rfl) rfl dX9_kill_43 (fun w1 hw1 => ?_)
    subst hw1
    refine ⟨(wSg E a F10 ++ wHi E a fa6 q5), by rw [hF10]; exact putW_hi (List.append_assoc _ _ _).symm (List.append_assoc _ _ _).symm (hp_X9_pass_0 E a fa6 F8 q5) rfl (pw_X9_pass_0 E a fa6 F8 q5 q9), ?_⟩
    refine r_aload_n (pc := 46) C (i := 0) dX9_kill_46 rfl rfl ?_
    refine r_get (pc := 47) C gwX9 0 rfl rfl 0 (by decide) wm_2_15 rfl dX9_kill_47 ?_
    refine r_get (pc := 50) C gwX0 1 rfl rfl 5 (by decide) wm_1_107 rfl dX9_kill_50 ?_
    obtain ⟨q11, hq11, h⟩ := bnd h
    refine r_callSp_CI (pc := 53) C [.int ((F10.1) 0 5)] (c_J6_bitCount_0f7a4 E l k ((F10.1) 0 5) hq11) [] rfl (by decide) g_X9_109 hd_J6_bitCount_0f7a4.2 ⟨Nat.le_of_ble_eq_true rfl, Nat.le_of_ble_eq_true rfl⟩ ⟨Nat.le_of_ble_eq_true rfl, Nat.le_of_ble_eq_true rfl⟩ (Nat.le_of_ble_eq_true rfl) rfl dX9_kill_53 (fun r hr => ?_)
    have hr := hr.symm
    subst hr
    cases h
    exact r_xI (r_ireti (pc := 56) C (TI_0 (hq fa6 (Nat.le_trans (Nat.le_refl _) (Hkeep_h hq5)))) (Nat.le_of_ble_eq_true rfl) (Nat.le_of_ble_eq_true rfl) dX9_kill_56)
  · rw [if_pos c4] at h
    refine r_bipush (pc := 16) C (v := (-2)) dX9_kill_16 (by decide) ?_
    have h := Option.some.inj h
    subst h
    exact r_xI (r_ireti (pc := 18) C (TI_0 (hq fa (Nat.le_refl _))) (Nat.le_of_ble_eq_true rfl) (Nat.le_of_ble_eq_true rfl) dX9_kill_18)
def M_X9_kill (k : Nat) (S : VV × VV × VV × VV × VV × Int32) (T : Nat × Int32 × Int32 × (Nat → VV)) (p0 : Int32) : Option (Int32 × Int32 × (VV × VV × VV × VV × VV × Int32) × (Nat × Int32 × Int32 × (Nat → VV))) := M_X9_kill_0 k p0 S T
set_option maxRecDepth 100000 in
set_option maxHeartbeats 4000000 in
theorem c_X9_kill (E : ENV) (l : Launch) (k : Nat) (a : Nat → Nat) (fa : Nat → Nat → Nat) (S : VV × VV × VV × VV × VV × Int32) (T : Nat × Int32 × Int32 × (Nat → VV)) (p0 : Int32) (hlt : l.stackTraces = false) {q : Int32 × Int32 × (VV × VV × VV × VV × VV × Int32) × (Nat × Int32 × Int32 × (Nat → VV))} (hm : M_X9_kill k S T p0 = some q) : XI E l yX9_kill cX9_kill 2 (some .int) rm_X9_kill [.ref (a 0), .int p0] (wSg E a S ++ wHi E a fa T) (fun r w' => q.1 = 0 ∧ r = q.2.1 ∧ ∃ fa' : Nat → Nat → Nat, w' = (wSg E a q.2.2.1 ++ wHi E a fa' q.2.2.2) ∧ T.1 ≤ q.2.2.2.1) (fun cd w' => cd = q.1 ∧ ¬ q.1 = 0 ∧ ∃ fa' : Nat → Nat → Nat, w' = (wSg E a q.2.2.1 ++ wHi E a fa' q.2.2.2) ∧ T.1 ≤ q.2.2.2.1) :=
  XI.of 0 (by decide) (Nat.le_of_ble_eq_true rfl) (fun p e s m below meth c A C hno hdc => r_weak (lSub_s (lSub_s lSub_e)) (N_X9_kill_0 C a k fa hlt hno hdc p0 S T q  hm (fun fa' hm' => TI_of ⟨fa', rfl, hm'⟩)))
set_option maxRecDepth 100000 in
theorem c2_X9_kill (E : ENV) (l : Launch) (k : Nat) (a : Nat → Nat) (fa : Nat → Nat → Nat) (S : VV × VV × VV × VV × VV × Int32) (T : Nat × Int32 × Int32 × (Nat → VV)) (p0 : Int32) (hlt : l.stackTraces = false) {q : Int32 × Int32 × (VV × VV × VV × VV × VV × Int32) × (Nat × Int32 × Int32 × (Nat → VV))} (hm : M_X9_kill k S T p0 = some q) : XI E l yX9_kill cX9_kill 2 (some .int) rm_X9_kill [.ref (a 0), .int p0] (((wSg E a S) ++ hiC E a fa T) ++ hiT E fa T) (fun r w' => q.1 = 0 ∧ r = q.2.1 ∧ ∃ fa' : Nat → Nat → Nat, w' = (wSg E a q.2.2.1 ++ wHi E a fa' q.2.2.2) ∧ T.1 ≤ q.2.2.2.1) (fun cd w' => cd = q.1 ∧ ¬ q.1 = 0 ∧ ∃ fa' : Nat → Nat → Nat, w' = (wSg E a q.2.2.1 ++ wHi E a fa' q.2.2.2) ∧ T.1 ≤ q.2.2.2.1) := by
  rw [show ((wSg E a S) ++ hiC E a fa T) ++ hiT E fa T = (wSg E a S ++ wHi E a fa T) from List.append_assoc _ _ _]
  exact c_X9_kill E l k a fa S T p0 hlt hm
theorem g_X9_269 : GoodIn GW (wsV RX9 269 RX0 yX0_allWorkers (wsG yX0_allWorkers cX0_allWorkers 1 (some .int))) := gw_V wm_5_34 wm_1_230 wm_1_231 wm_1_2 wm_1_232
theorem g_X9_274 : GoodIn GW (wsV RX9 274 RX6 yX6_put (wsG yX6_put cX6_put 6 none)) := gw_V wm_5_36 wm_2_12 wm_2_13 wm_1_4 wm_2_14
-- ShardGuard.move(II)I
set_option maxHeartbeats 8000000 in
theorem hp_X9_move_0 (E : ENV) (a : Nat → Nat) (fa : Nat → Nat → Nat) (S : VV × VV × VV × VV × VV × Int32) (T : Nat × Int32 × Int32 × (Nat → VV)) : ([6, 7] : List Nat).map (fun i => ((wSg E a S) ++ hiC E a fa T)[i]?) = (wTab E (fun i => a (i + 6)) 12 3 36 ((S.1) 3)).map some := rfl
set_option maxHeartbeats 8000000 in
theorem pw_X9_move_0 (E : ENV) (a : Nat → Nat) (fa : Nat → Nat → Nat) (S : VV × VV × VV × VV × VV × Int32) (T : Nat × Int32 × Int32 × (Nat → VV)) (X0 : Nat → Int32) : putW ((wSg E a S) ++ hiC E a fa T) [6, 7] (wTab E (fun i => a (i + 6)) 12 3 36 X0) = some ((wSg E a ((va_up (S.1) 3 X0), S.2)) ++ hiC E a fa T) := rfl
theorem dX9_move_0 : decode cX9_move 0 = .ok (.aload_n 0, 1) := by decide +kernel
theorem dX9_move_1 : decode cX9_move 1 = .ok (.iload_n 1, 1) := by decide +kernel
theorem dX9_move_2 : decode cX9_move 2 = .ok (.invokevirtual 172, 3) := by decide +kernel
theorem dX9_move_5 : decode cX9_move 5 = .ok (.iload_n 2, 1) := by decide +kernel
theorem dX9_move_6 : decode cX9_move 6 = .ok (.ifCond .lt 14, 3) := by decide +kernel
theorem dX9_move_9 : decode cX9_move 9 = .ok (.iload_n 2, 1) := by decide +kernel
theorem dX9_move_10 : decode cX9_move 10 = .ok (.aload_n 0, 1) := by decide +kernel
theorem dX9_move_11 : decode cX9_move 11 = .ok (.getfield 12, 3) := by decide +kernel
theorem dX9_move_14 : decode cX9_move 14 = .ok (.invokevirtual 269, 3) := by decide +kernel
theorem dX9_move_17 : decode cX9_move 17 = .ok (.if_icmp .le 14, 3) := by decide +kernel
theorem dX9_move_20 : decode cX9_move 20 = .ok (.new 59, 3) := by decide +kernel
theorem dX9_move_23 : decode cX9_move 23 = .ok (.dup, 1) := by decide +kernel
theorem dX9_move_24 : decode cX9_move 24 = .ok (.ldc_w 272, 3) := by decide +kernel
theorem dX9_move_27 : decode cX9_move 27 = .ok (.invokespecial 63, 3) := by decide +kernel
theorem dX9_move_30 : decode cX9_move 30 = .ok (.athrow, 1) := by decide +kernel
theorem dX9_move_31 : decode cX9_move 31 = .ok (.iload_n 2, 1) := by decide +kernel
theorem dX9_move_32 : decode cX9_move 32 = .ok (.invokestatic 109, 3) := by decide +kernel
theorem dX9_move_35 : decode cX9_move 35 = .ok (.aload_n 0, 1) := by decide +kernel
theorem dX9_move_36 : decode cX9_move 36 = .ok (.getfield 12, 3) := by decide +kernel
theorem dX9_move_39 : decode cX9_move 39 = .ok (.getfield 97, 3) := by decide +kernel
theorem dX9_move_42 : decode cX9_move 42 = .ok (.if_icmp .eq 6, 3) := by decide +kernel
theorem dX9_move_45 : decode cX9_move 45 = .ok (.bipush (-2), 2) := by decide +kernel
theorem dX9_move_47 : decode cX9_move 47 = .ok (.ireturn, 1) := by decide +kernel
theorem dX9_move_48 : decode cX9_move 48 = .ok (.aload_n 0, 1) := by decide +kernel
theorem dX9_move_49 : decode cX9_move 49 = .ok (.getfield 29, 3) := by decide +kernel
theorem dX9_move_52 : decode cX9_move 52 = .ok (.aload_n 0, 1) := by decide +kernel
theorem dX9_move_53 : decode cX9_move 53 = .ok (.getfield 12, 3) := by decide +kernel
theorem dX9_move_56 : decode cX9_move 56 = .ok (.invokevirtual 254, 3) := by decide +kernel
theorem dX9_move_59 : decode cX9_move 59 = .ok (.aload_n 0, 1) := by decide +kernel
theorem dX9_move_60 : decode cX9_move 60 = .ok (.getfield 12, 3) := by decide +kernel
theorem dX9_move_63 : decode cX9_move 63 = .ok (.iload_n 1, 1) := by decide +kernel
theorem dX9_move_64 : decode cX9_move 64 = .ok (.invokevirtual 175, 3) := by decide +kernel
theorem dX9_move_67 : decode cX9_move 67 = .ok (.istore_n 3, 1) := by decide +kernel
theorem dX9_move_68 : decode cX9_move 68 = .ok (.aload_n 0, 1) := by decide +kernel
theorem dX9_move_69 : decode cX9_move 69 = .ok (.getfield 12, 3) := by decide +kernel
theorem dX9_move_72 : decode cX9_move 72 = .ok (.getfield 181, 3) := by decide +kernel
theorem dX9_move_75 : decode cX9_move 75 = .ok (.iload_n 1, 1) := by decide +kernel
theorem dX9_move_76 : decode cX9_move 76 = .ok (.iconst 0, 1) := by decide +kernel
theorem dX9_move_77 : decode cX9_move 77 = .ok (.iload_n 2, 1) := by decide +kernel
theorem dX9_move_78 : decode cX9_move 78 = .ok (.invokevirtual 274, 3) := by decide +kernel
theorem dX9_move_81 : decode cX9_move 81 = .ok (.iload_n 3, 1) := by decide +kernel
theorem dX9_move_82 : decode cX9_move 82 = .ok (.ireturn, 1) := by decide +kernel
def rm_X9_move : Room := { frames := 7, cells := 19, slots := 1494, locals := 222 }
def M_X9_move_0 (k : Nat) (p0 : Int32) (p1 : Int32) (S : VV × VV × VV × VV × VV × Int32) (T : Nat × Int32 × Int32 × (Nat → VV)) : Option (Int32 × Int32 × (VV × VV × VV × VV × VV × Int32) × (Nat × Int32 × Int32 × (Nat → VV))) := (M_X9_needTenant k S p0).bind fun q1 => (if q1 = 0 then if p1 < 0 then (some ((2 : Int32), (0 : Int32), S, T)) else ((M_X0_allWorkers k (S.1)).bind fun q4 => if p1 ≤ q4 then ((M_J6_bitCount_0f7a4 k p1).bind fun q6 => if q6 = ((S.1) 0 1) then ((Hkeep k T (S.1)).bind fun q8 => (M_X0_shardOf k (S.1) p0).bind fun q10 => (M_X6_put k 12 3 36 ((S.1) 3) p0 (0 : Int32) p1).bind fun q11 => lt (((va_up (S.1) 3 q11), S.2)) fun F12 => some ((0 : Int32), q10, F12, q8)) else (some ((0 : Int32), (-2 : Int32), S, T))) else (some ((2 : Int32), (0 : Int32), S, T))) else some (q1, (0 : Int32), S, T))
set_option maxRecDepth 100000 in
set_option maxHeartbeats 4000000 in
theorem N_X9_move_0 (C : CX E p l s m args meth c cX9_move 4 RX9 (some .int) A) (a : Nat → Nat) (k : Nat) (fa : Nat → Nat → Nat) {post : Int32 → va_W → Prop} {px : Int32 → va_W → Prop} (hlt : l.stackTraces = false) (hno : ∀ x ∈ c.exceptionTable.toList, False) (hdc : DC s) :
    ∀ (p0 : Int32) (p1 : Int32) (S : VV × VV × VV × VV × VV × Int32) (T : Nat × Int32 × Int32 × (Nat → VV)) (q : Int32 × Int32 × (VV × VV × VV × VV × VV × Int32) × (Nat × Int32 × Int32 × (Nat → VV))), M_X9_move_0 k p0 p1 S T = some q → (∀ fa' : Nat → Nat → Nat, T.1 ≤ q.2.2.2.1 → TI post px q.1 q.2.1 (wSg E a q.2.2.1 ++ wHi E a fa' q.2.2.2)) →
      WW E p l e rm_X9_move s m args below meth c A 0 0 (QXI E below post px args s rm_X9_move A) (wSg E a S ++ wHi E a fa T) 4 [some (.ref (a 0)), some (.int p0), some (.int p1), none] 0 [] := by
  intro p0 p1 S T q  h hq
  unfold M_X9_move_0 at h
  refine r_aload_n (pc := 0) C (i := 0) dX9_move_0 rfl rfl ?_
  refine r_iload_n (pc := 1) C (i := 1) dX9_move_1 rfl rfl ?_
  obtain ⟨q1, hq1, h⟩ := bnd h
  -- may throw
  by_cases c2 : q1 = 0
  case neg =>
    rw [if_neg c2] at h
    cases h
    exact r_callXV_V (Cn := RX9) (pc := 2) C [.int p0] hno hdc (c_X9_needTenant E l k a S p0 hlt hq1) [0, 1, 2, 3, 4, 5, 6, 7, 8, 9, 10, 11, 12, 13, 14, 15, 16, 17, 18, 19, 20, 21, 22, 23, 24, 25, 26, 27, 28, 29, 30, 31, 32, 33, 34, 35, 36, 37, 38, 39, 40, 41, 42, 43, 44, 45, 46, 47, 48, 49, 50, 51, 52, 53, 54, 55, 56, 57, 58, 59, 60] (hps_hi (List.append_assoc _ _ _).symm (hp_X9_submit_0 E a fa S T)) (by decide) 0 rfl rfl rfl g_X9_172 hd_X9_needTenant ⟨Nat.le_of_ble_eq_true rfl, Nat.le_of_ble_eq_true rfl⟩ ⟨Nat.le_of_ble_eq_true rfl, Nat.le_of_ble_eq_true rfl⟩ (Nat.le_of_ble_eq_true rfl) rfl dX9_move_2 (fun cd w1 hx => ⟨(wSg E a S ++ wHi E a fa T), by rw [hx.2.2]; exact (putW_self _ _ _ (hps_hi (List.append_assoc _ _ _).symm (hp_X9_submit_0 E a fa S T))), by rw [hx.1]; exact TI_x c2 (hq fa (Nat.le_refl _))⟩) (fun w1 hx => absurd hx.1 c2)
  rw [if_pos c2] at h
  refine r_callXV_V (Cn := RX9) (pc := 2) C [.int p0] hno hdc (c_X9_needTenant E l k a S p0 hlt hq1) [0, 1, 2, 3, 4, 5, 6, 7, 8, 9, 10, 11, 12, 13, 14, 15, 16, 17, 18, 19, 20, 21, 22, 23, 24, 25, 26, 27, 28, 29, 30, 31, 32, 33, 34, 35, 36, 37, 38, 39, 40, 41, 42, 43, 44, 45, 46, 47, 48, 49, 50, 51, 52, 53, 54, 55, 56, 57, 58, 59, 60] (hps_hi (List.append_assoc _ _ _).symm (hp_X9_submit_0 E a fa S T)) (by decide) 0 rfl rfl rfl g_X9_172 hd_X9_needTenant ⟨Nat.le_of_ble_eq_true rfl, Nat.le_of_ble_eq_true rfl⟩ ⟨Nat.le_of_ble_eq_true rfl, Nat.le_of_ble_eq_true rfl⟩ (Nat.le_of_ble_eq_true rfl) rfl dX9_move_2 (fun cd w1 hx => absurd c2 hx.2.1) (fun w1 hx => ?_)
  refine ⟨(wSg E a S ++ wHi E a fa T), by rw [hx.2]; exact (putW_self _ _ _ (hps_hi (List.append_assoc _ _ _).symm (hp_X9_submit_0 E a fa S T))), ?_⟩
  refine r_iload_n (pc := 5) C (i := 2) dX9_move_5 rfl rfl ?_
  refine r_if_lt (pc := 6) C (tgt := 20) dX9_move_6 rfl (fun c3 => ?_) (fun c3 => ?_)
  · rw [if_pos c3] at h
    cases h
    exact r_throwAW (pc := 20) C hlt hno hdc 26 rfl wm_2_186 wm_1_13 dX9_move_20 dX9_move_23 dX9_move_24 dX9_move_27 dX9_move_30 (Nat.le_of_ble_eq_true rfl) (Nat.le_of_ble_eq_true rfl) (Nat.le_of_ble_eq_true rfl) (Nat.le_of_ble_eq_true rfl) (Nat.le_of_ble_eq_true rfl) (TI_x (by decide) (hq fa (Nat.le_refl _)))
  · rw [if_neg c3] at h
    refine r_iload_n (pc := 9) C (i := 2) dX9_move_9 rfl rfl ?_
    refine r_aload_n (pc := 10) C (i := 0) dX9_move_10 rfl rfl ?_
    refine r_get (pc := 11) C gwX9 0 rfl rfl 0 (by decide) wm_2_15 rfl dX9_move_11 ?_
    obtain ⟨q4, hq4, h⟩ := bnd h
    refine r_callVp_CI (Cn := RX0) (pc := 14) C [] (c_X0_allWorkers E l k (fun i => a (i + 1)) (S.1) hq4) [1, 2, 3, 4, 5, 6, 7, 8, 9, 10, 11, 12, 13, 14, 15, 16, 17, 18] (hps_hi (List.append_assoc _ _ _).symm (hp_X9_pass_0 E a fa S T)) (by decide) 0 rfl rfl rfl g_X9_269 hd_X0_allWorkers ⟨Nat.le_of_ble_eq_true rfl, Nat.le_of_ble_eq_true rfl⟩ ⟨Nat.le_of_ble_eq_true rfl, Nat.le_of_ble_eq_true rfl⟩ (Nat.le_of_ble_eq_true rfl) rfl dX9_move_14 (fun r hr => ?_)
    have hr := hr.symm
    subst hr
    refine r_icmp_le (pc := 17) C (tgt := 31) dX9_move_17 rfl (fun c5 => ?_) (fun c5 => ?_)
    · rw [if_pos c5] at h
      refine r_iload_n (pc := 31) C (i := 2) dX9_move_31 rfl rfl ?_
      obtain ⟨q6, hq6, h⟩ := bnd h
      refine r_callSp_CI (pc := 32) C [.int p1] (c_J6_bitCount_0f7a4 E l k p1 hq6) [] rfl (by decide) g_X9_109 hd_J6_bitCount_0f7a4.2 ⟨Nat.le_of_ble_eq_true rfl, Nat.le_of_ble_eq_true rfl⟩ ⟨Nat.le_of_ble_eq_true rfl, Nat.le_of_ble_eq_true rfl⟩ (Nat.le_of_ble_eq_true rfl) rfl dX9_move_32 (fun r hr => ?_)
      have hr := hr.symm
      subst hr
      refine r_aload_n (pc := 35) C (i := 0) dX9_move_35 rfl rfl ?_
      refine r_get (pc := 36) C gwX9 0 rfl rfl 0 (by decide) wm_2_15 rfl dX9_move_36 ?_
      refine r_get (pc := 39) C gwX0 1 rfl rfl 1 (by decide) wm_1_96 rfl dX9_move_39 ?_
      refine r_icmp_eq (pc := 42) C (tgt := 48) dX9_move_42 rfl (fun c7 => ?_) (fun c7 => ?_)
      · rw [if_pos c7] at h
        refine r_aload_n (pc := 48) C (i := 0) dX9_move_48 rfl rfl ?_
        refine r_get (pc := 49) C gwX9 0 rfl rfl 4 (by decide) wm_2_19 rfl dX9_move_49 ?_
        refine r_aload_n (pc := 52) C (i := 0) dX9_move_52 rfl rfl ?_
        refine r_get (pc := 53) C gwX9 0 rfl rfl 0 (by decide) wm_2_15 rfl dX9_move_53 ?_
        obtain ⟨q8, hq8, h⟩ := bnd h
        refine r_callT_CV (Cn := RX2) (c0 := wFl E (fun i => a (i + 1)) (S.1) ++ hiC E a fa T) (w0 := ((wSg E a S) ++ hiC E a fa T)) (t := hiT E fa T) (pc := 56) C [.ref (a 1)] (c_X2_keep E l k a (fun i => a (i + 1)) fa T (S.1) hq8) [1, 2, 3, 4, 5, 6, 7, 8, 9, 10, 11, 12, 13, 14, 15, 16, 17, 18, 61, 62] (hpH2 E a fa S T) (by decide) 18 rfl rfl rfl g_X9_254 hd_X2_keep ⟨Nat.le_of_ble_eq_true rfl, Nat.le_of_ble_eq_true rfl⟩ ⟨Nat.le_of_ble_eq_true rfl, Nat.le_of_ble_eq_true rfl⟩ (Nat.le_of_ble_eq_true rfl) rfl dX9_move_56 (List.append_assoc _ _ _).symm (fun w1 hw1 => ?_)
        obtain ⟨fa9, hw1⟩ := hw1
        subst hw1
        refine ⟨wFl E (fun i => a (i + 1)) (S.1) ++ hiC E a fa9 q8, hiT E fa9 q8, (wSg E a S) ++ hiC E a fa9 q8, (List.append_assoc _ _ _).symm, rfl, hiT_le (Hkeep_h hq8), pwH2 E a _ _ _ _ _ _, ?_⟩
        refine r_world (List.append_assoc _ _ _) ?_
        refine r_aload_n (pc := 59) C (i := 0) dX9_move_59 rfl rfl ?_
        refine r_get (pc := 60) C gwX9 0 rfl rfl 0 (by decide) wm_2_15 rfl dX9_move_60 ?_
        refine r_iload_n (pc := 63) C (i := 1) dX9_move_63 rfl rfl ?_
        obtain ⟨q10, hq10, h⟩ := bnd h
        refine r_callVp_CI (Cn := RX0) (pc := 64) C [.int p0] (c_X0_shardOf E l k (fun i => a (i + 1)) (S.1) p0 hq10) [1, 2, 3, 4, 5, 6, 7, 8, 9, 10, 11, 12, 13, 14, 15, 16, 17, 18] (hps_hi (List.append_assoc _ _ _).symm (hp_X9_pass_0 E a fa9 S q8)) (by decide) 0 rfl rfl rfl g_X9_175 hd_X0_shardOf ⟨Nat.le_of_ble_eq_true rfl, Nat.le_of_ble_eq_true rfl⟩ ⟨Nat.le_of_ble_eq_true rfl, Nat.le_of_ble_eq_true rfl⟩ (Nat.le_of_ble_eq_true rfl) rfl dX9_move_64 (fun r hr => ?_)
        have hr := hr.symm
        subst hr
        refine r_istore_n (pc := 67) C (i := 3) dX9_move_67 rfl (by decide) rfl ?_
        refine r_aload_n (pc := 68) C (i := 0) dX9_move_68 rfl rfl ?_
        refine r_get (pc := 69) C gwX9 0 rfl rfl 0 (by decide) wm_2_15 rfl dX9_move_69 ?_
        refine r_get (pc := 72) C gwX0 1 rfl rfl 8 (by decide) wm_1_114 rfl dX9_move_72 ?_
        refine r_iload_n (pc := 75) C (i := 1) dX9_move_75 rfl rfl ?_
        refine r_iconst (pc := 76) C (v := 0) dX9_move_76 (by decide) ?_
        refine r_iload_n (pc := 77) C (i := 2) dX9_move_77 rfl rfl ?_
        obtain ⟨q11, hq11, h⟩ := bnd h
        obtain ⟨F12, hF12, h⟩ := lt_e h
        refine r_callV_CV (Cn := RX6) (pc := 78) C [.int p0, .int (0 : Int32), .int p1] (c_X6_put E l k (fun i => a (i + 6)) 12 3 36 ((S.1) 3) p0 (0 : Int32) p1 hq11) [6, 7] (hps_hi (List.append_assoc _ _ _).symm (hp_X9_move_0 E a fa9 S q8)) (by decide) 0 rfl rfl rfl g_X9_274 hd_X6_put ⟨Nat.le_of_ble_eq_true rfl, Nat.le_of_ble_eq_true rfl⟩ ⟨Nat.le_of_ble_eq_true rfl, Nat.le_of_ble_eq_true rfl⟩ (Nat.le_of_ble_eq_true rfl) rfl dX9_move_78 (fun w1 hw1 => ?_)
        subst hw1
        refine ⟨(wSg E a F12 ++ wHi E a fa9 q8), by rw [hF12]; exact putW_hi (List.append_assoc _ _ _).symm (List.append_assoc _ _ _).symm (hp_X9_move_0 E a fa9 S q8) rfl (pw_X9_move_0 E a fa9 S q8 q11), ?_⟩
        refine r_iload_n (pc := 81) C (i := 3) dX9_move_81 rfl rfl ?_
        cases h
        exact r_xI (r_ireti (pc := 82) C (TI_0 (hq fa9 (Nat.le_trans (Nat.le_refl _) (Hkeep_h hq8)))) (Nat.le_of_ble_eq_true rfl) (Nat.le_of_ble_eq_true rfl) dX9_move_82)
      · rw [if_neg c7] at h
        refine r_bipush (pc := 45) C (v := (-2)) dX9_move_45 (by decide) ?_
        have h := Option.some.inj h
        subst h
        exact r_xI (r_ireti (pc := 47) C (TI_0 (hq fa (Nat.le_refl _))) (Nat.le_of_ble_eq_true rfl) (Nat.le_of_ble_eq_true rfl) dX9_move_47)
    · rw [if_neg c5] at h
      cases h
      exact r_throwAW (pc := 20) C hlt hno hdc 26 rfl wm_2_186 wm_1_13 dX9_move_20 dX9_move_23 dX9_move_24 dX9_move_27 dX9_move_30 (Nat.le_of_ble_eq_true rfl) (Nat.le_of_ble_eq_true rfl) (Nat.le_of_ble_eq_true rfl) (Nat.le_of_ble_eq_true rfl) (Nat.le_of_ble_eq_true rfl) (TI_x (by decide) (hq fa (Nat.le_refl _)))
def M_X9_move (k : Nat) (S : VV × VV × VV × VV × VV × Int32) (T : Nat × Int32 × Int32 × (Nat → VV)) (p0 : Int32) (p1 : Int32) : Option (Int32 × Int32 × (VV × VV × VV × VV × VV × Int32) × (Nat × Int32 × Int32 × (Nat → VV))) := M_X9_move_0 k p0 p1 S T
set_option maxRecDepth 100000 in
set_option maxHeartbeats 4000000 in
theorem c_X9_move (E : ENV) (l : Launch) (k : Nat) (a : Nat → Nat) (fa : Nat → Nat → Nat) (S : VV × VV × VV × VV × VV × Int32) (T : Nat × Int32 × Int32 × (Nat → VV)) (p0 : Int32) (p1 : Int32) (hlt : l.stackTraces = false) {q : Int32 × Int32 × (VV × VV × VV × VV × VV × Int32) × (Nat × Int32 × Int32 × (Nat → VV))} (hm : M_X9_move k S T p0 p1 = some q) : XI E l yX9_move cX9_move 4 (some .int) rm_X9_move [.ref (a 0), .int p0, .int p1] (wSg E a S ++ wHi E a fa T) (fun r w' => q.1 = 0 ∧ r = q.2.1 ∧ ∃ fa' : Nat → Nat → Nat, w' = (wSg E a q.2.2.1 ++ wHi E a fa' q.2.2.2) ∧ T.1 ≤ q.2.2.2.1) (fun cd w' => cd = q.1 ∧ ¬ q.1 = 0 ∧ ∃ fa' : Nat → Nat → Nat, w' = (wSg E a q.2.2.1 ++ wHi E a fa' q.2.2.2) ∧ T.1 ≤ q.2.2.2.1) :=
  XI.of 1 (by decide) (Nat.le_of_ble_eq_true rfl) (fun p e s m below meth c A C hno hdc => r_weak (lSub_s (lSub_s (lSub_s (lSub_n lSub_e)))) (N_X9_move_0 C a k fa hlt hno hdc p0 p1 S T q  hm (fun fa' hm' => TI_of ⟨fa', rfl, hm'⟩)))
set_option maxRecDepth 100000 in
theorem c2_X9_move (E : ENV) (l : Launch) (k : Nat) (a : Nat → Nat) (fa : Nat → Nat → Nat) (S : VV × VV × VV × VV × VV × Int32) (T : Nat × Int32 × Int32 × (Nat → VV)) (p0 : Int32) (p1 : Int32) (hlt : l.stackTraces = false) {q : Int32 × Int32 × (VV × VV × VV × VV × VV × Int32) × (Nat × Int32 × Int32 × (Nat → VV))} (hm : M_X9_move k S T p0 p1 = some q) : XI E l yX9_move cX9_move 4 (some .int) rm_X9_move [.ref (a 0), .int p0, .int p1] (((wSg E a S) ++ hiC E a fa T) ++ hiT E fa T) (fun r w' => q.1 = 0 ∧ r = q.2.1 ∧ ∃ fa' : Nat → Nat → Nat, w' = (wSg E a q.2.2.1 ++ wHi E a fa' q.2.2.2) ∧ T.1 ≤ q.2.2.2.1) (fun cd w' => cd = q.1 ∧ ¬ q.1 = 0 ∧ ∃ fa' : Nat → Nat → Nat, w' = (wSg E a q.2.2.1 ++ wHi E a fa' q.2.2.2) ∧ T.1 ≤ q.2.2.2.1) := by
  rw [show ((wSg E a S) ++ hiC E a fa T) ++ hiT E fa T = (wSg E a S ++ wHi E a fa T) from List.append_assoc _ _ _]
  exact c_X9_move E l k a fa S T p0 p1 hlt hm
-- ShardGuard.draw(I)I
theorem dX9_draw_0 : decode cX9_draw 0 = .ok (.iload_n 1, 1) := by decide +kernel
theorem dX9_draw_1 : decode cX9_draw 1 = .ok (.invokestatic 235, 3) := by decide +kernel
theorem dX9_draw_4 : decode cX9_draw 4 = .ok (.aload_n 0, 1) := by decide +kernel
theorem dX9_draw_5 : decode cX9_draw 5 = .ok (.getfield 29, 3) := by decide +kernel
theorem dX9_draw_8 : decode cX9_draw 8 = .ok (.aload_n 0, 1) := by decide +kernel
theorem dX9_draw_9 : decode cX9_draw 9 = .ok (.getfield 12, 3) := by decide +kernel
theorem dX9_draw_12 : decode cX9_draw 12 = .ok (.invokevirtual 254, 3) := by decide +kernel
theorem dX9_draw_15 : decode cX9_draw 15 = .ok (.aload_n 0, 1) := by decide +kernel
theorem dX9_draw_16 : decode cX9_draw 16 = .ok (.getfield 12, 3) := by decide +kernel
theorem dX9_draw_19 : decode cX9_draw 19 = .ok (.iload_n 1, 1) := by decide +kernel
theorem dX9_draw_20 : decode cX9_draw 20 = .ok (.invokevirtual 238, 3) := by decide +kernel
theorem dX9_draw_23 : decode cX9_draw 23 = .ok (.aload_n 0, 1) := by decide +kernel
theorem dX9_draw_24 : decode cX9_draw 24 = .ok (.getfield 12, 3) := by decide +kernel
theorem dX9_draw_27 : decode cX9_draw 27 = .ok (.invokevirtual 229, 3) := by decide +kernel
theorem dX9_draw_30 : decode cX9_draw 30 = .ok (.ireturn, 1) := by decide +kernel
def rm_X9_draw : Room := { frames := 7, cells := 19, slots := 1494, locals := 222 }
def M_X9_draw_0 (k : Nat) (p0 : Int32) (S : VV × VV × VV × VV × VV × Int32) (T : Nat × Int32 × Int32 × (Nat → VV)) : Option (Int32 × Int32 × (VV × VV × VV × VV × VV × Int32) × (Nat × Int32 × Int32 × (Nat → VV))) := (M_X9_needSeed k p0).bind fun q1 => (if q1 = 0 then (Hkeep k T (S.1)).bind fun q3 => (M_X0_drawShards k (S.1) p0).bind fun q5 => lt ((q5, S.2)) fun F6 => (M_X0_greatestShared k (F6.1)).bind fun q7 => some ((0 : Int32), q7, F6, q3) else some (q1, (0 : Int32), S, T))
set_option maxRecDepth 100000 in
set_option maxHeartbeats 4000000 in
theorem N_X9_draw_0 (C : CX E p l s m args meth c cX9_draw 2 RX9 (some .int) A) (a : Nat → Nat) (k : Nat) (fa : Nat → Nat → Nat) {post : Int32 → va_W → Prop} {px : Int32 → va_W → Prop} (hlt : l.stackTraces = false) (hno : ∀ x ∈ c.exceptionTable.toList, False) (hdc : DC s) :
    ∀ (p0 : Int32) (S : VV × VV × VV × VV × VV × Int32) (T : Nat × Int32 × Int32 × (Nat → VV)) (q : Int32 × Int32 × (VV × VV × VV × VV × VV × Int32) × (Nat × Int32 × Int32 × (Nat → VV))), M_X9_draw_0 k p0 S T = some q → (∀ fa' : Nat → Nat → Nat, T.1 ≤ q.2.2.2.1 → TI post px q.1 q.2.1 (wSg E a q.2.2.1 ++ wHi E a fa' q.2.2.2)) →
      WW E p l e rm_X9_draw s m args below meth c A 0 0 (QXI E below post px args s rm_X9_draw A) (wSg E a S ++ wHi E a fa T) 2 [some (.ref (a 0)), some (.int p0)] 0 [] := by
  intro p0 S T q  h hq
  unfold M_X9_draw_0 at h
  refine r_iload_n (pc := 0) C (i := 1) dX9_draw_0 rfl rfl ?_
  obtain ⟨q1, hq1, h⟩ := bnd h
  -- may throw
  by_cases c2 : q1 = 0
  case neg =>
    rw [if_neg c2] at h
    cases h
    exact r_callXS_V (pc := 1) C [.int p0] hno hdc (c_X9_needSeed E l k p0 hlt hq1) [] rfl (by decide) g_X9_235 hd_X9_needSeed.2 ⟨Nat.le_of_ble_eq_true rfl, Nat.le_of_ble_eq_true rfl⟩ ⟨Nat.le_of_ble_eq_true rfl, Nat.le_of_ble_eq_true rfl⟩ (Nat.le_of_ble_eq_true rfl) rfl dX9_draw_1 (fun cd w1 hx => ⟨(wSg E a S ++ wHi E a fa T), by rw [hx.2.2]; exact (by simp only [putW, List.append_nil]), by rw [hx.1]; exact TI_x c2 (hq fa (Nat.le_refl _))⟩) (fun w1 hx => absurd hx.1 c2)
  rw [if_pos c2] at h
  refine r_callXS_V (pc := 1) C [.int p0] hno hdc (c_X9_needSeed E l k p0 hlt hq1) [] rfl (by decide) g_X9_235 hd_X9_needSeed.2 ⟨Nat.le_of_ble_eq_true rfl, Nat.le_of_ble_eq_true rfl⟩ ⟨Nat.le_of_ble_eq_true rfl, Nat.le_of_ble_eq_true rfl⟩ (Nat.le_of_ble_eq_true rfl) rfl dX9_draw_1 (fun cd w1 hx => absurd c2 hx.2.1) (fun w1 hx => ?_)
  refine ⟨(wSg E a S ++ wHi E a fa T), by rw [hx.2]; exact (by simp only [putW, List.append_nil]), ?_⟩
  refine r_aload_n (pc := 4) C (i := 0) dX9_draw_4 rfl rfl ?_
  refine r_get (pc := 5) C gwX9 0 rfl rfl 4 (by decide) wm_2_19 rfl dX9_draw_5 ?_
  refine r_aload_n (pc := 8) C (i := 0) dX9_draw_8 rfl rfl ?_
  refine r_get (pc := 9) C gwX9 0 rfl rfl 0 (by decide) wm_2_15 rfl dX9_draw_9 ?_
  obtain ⟨q3, hq3, h⟩ := bnd h
  refine r_callT_CV (Cn := RX2) (c0 := wFl E (fun i => a (i + 1)) (S.1) ++ hiC E a fa T) (w0 := ((wSg E a S) ++ hiC E a fa T)) (t := hiT E fa T) (pc := 12) C [.ref (a 1)] (c_X2_keep E l k a (fun i => a (i + 1)) fa T (S.1) hq3) [1, 2, 3, 4, 5, 6, 7, 8, 9, 10, 11, 12, 13, 14, 15, 16, 17, 18, 61, 62] (hpH2 E a fa S T) (by decide) 18 rfl rfl rfl g_X9_254 hd_X2_keep ⟨Nat.le_of_ble_eq_true rfl, Nat.le_of_ble_eq_true rfl⟩ ⟨Nat.le_of_ble_eq_true rfl, Nat.le_of_ble_eq_true rfl⟩ (Nat.le_of_ble_eq_true rfl) rfl dX9_draw_12 (List.append_assoc _ _ _).symm (fun w1 hw1 => ?_)
  obtain ⟨fa4, hw1⟩ := hw1
  subst hw1
  refine ⟨wFl E (fun i => a (i + 1)) (S.1) ++ hiC E a fa4 q3, hiT E fa4 q3, (wSg E a S) ++ hiC E a fa4 q3, (List.append_assoc _ _ _).symm, rfl, hiT_le (Hkeep_h hq3), pwH2 E a _ _ _ _ _ _, ?_⟩
  refine r_world (List.append_assoc _ _ _) ?_
  refine r_aload_n (pc := 15) C (i := 0) dX9_draw_15 rfl rfl ?_
  refine r_get (pc := 16) C gwX9 0 rfl rfl 0 (by decide) wm_2_15 rfl dX9_draw_16 ?_
  refine r_iload_n (pc := 19) C (i := 1) dX9_draw_19 rfl rfl ?_
  obtain ⟨q5, hq5, h⟩ := bnd h
  obtain ⟨F6, hF6, h⟩ := lt_e h
  refine r_callV_CV (Cn := RX0) (pc := 20) C [.int p0] (c_X0_drawShards E l k (fun i => a (i + 1)) (S.1) p0 hq5) [1, 2, 3, 4, 5, 6, 7, 8, 9, 10, 11, 12, 13, 14, 15, 16, 17, 18] (hps_hi (List.append_assoc _ _ _).symm (hp_X9_pass_0 E a fa4 S q3)) (by decide) 0 rfl rfl rfl g_X9_238 hd_X0_drawShards ⟨Nat.le_of_ble_eq_true rfl, Nat.le_of_ble_eq_true rfl⟩ ⟨Nat.le_of_ble_eq_true rfl, Nat.le_of_ble_eq_true rfl⟩ (Nat.le_of_ble_eq_true rfl) rfl dX9_draw_20 (fun w1 hw1 => ?_)
  subst hw1
  refine ⟨(wSg E a F6 ++ wHi E a fa4 q3), by rw [hF6]; exact putW_hi (List.append_assoc _ _ _).symm (List.append_assoc _ _ _).symm (hp_X9_pass_0 E a fa4 S q3) rfl (pw_X9_pass_0 E a fa4 S q3 q5), ?_⟩
  refine r_aload_n (pc := 23) C (i := 0) dX9_draw_23 rfl rfl ?_
  refine r_get (pc := 24) C gwX9 0 rfl rfl 0 (by decide) wm_2_15 rfl dX9_draw_24 ?_
  obtain ⟨q7, hq7, h⟩ := bnd h
  refine r_callVp_CI (Cn := RX0) (pc := 27) C [] (c_X0_greatestShared E l k (fun i => a (i + 1)) (F6.1) hq7) [1, 2, 3, 4, 5, 6, 7, 8, 9, 10, 11, 12, 13, 14, 15, 16, 17, 18] (hps_hi (List.append_assoc _ _ _).symm (hp_X9_pass_0 E a fa4 F6 q3)) (by decide) 0 rfl rfl rfl g_X9_229 hd_X0_greatestShared ⟨Nat.le_of_ble_eq_true rfl, Nat.le_of_ble_eq_true rfl⟩ ⟨Nat.le_of_ble_eq_true rfl, Nat.le_of_ble_eq_true rfl⟩ (Nat.le_of_ble_eq_true rfl) rfl dX9_draw_27 (fun r hr => ?_)
  have hr := hr.symm
  subst hr
  cases h
  exact r_xI (r_ireti (pc := 30) C (TI_0 (hq fa4 (Nat.le_trans (Nat.le_refl _) (Hkeep_h hq3)))) (Nat.le_of_ble_eq_true rfl) (Nat.le_of_ble_eq_true rfl) dX9_draw_30)
def M_X9_draw (k : Nat) (S : VV × VV × VV × VV × VV × Int32) (T : Nat × Int32 × Int32 × (Nat → VV)) (p0 : Int32) : Option (Int32 × Int32 × (VV × VV × VV × VV × VV × Int32) × (Nat × Int32 × Int32 × (Nat → VV))) := M_X9_draw_0 k p0 S T
set_option maxRecDepth 100000 in
set_option maxHeartbeats 4000000 in
theorem c_X9_draw (E : ENV) (l : Launch) (k : Nat) (a : Nat → Nat) (fa : Nat → Nat → Nat) (S : VV × VV × VV × VV × VV × Int32) (T : Nat × Int32 × Int32 × (Nat → VV)) (p0 : Int32) (hlt : l.stackTraces = false) {q : Int32 × Int32 × (VV × VV × VV × VV × VV × Int32) × (Nat × Int32 × Int32 × (Nat → VV))} (hm : M_X9_draw k S T p0 = some q) : XI E l yX9_draw cX9_draw 2 (some .int) rm_X9_draw [.ref (a 0), .int p0] (wSg E a S ++ wHi E a fa T) (fun r w' => q.1 = 0 ∧ r = q.2.1 ∧ ∃ fa' : Nat → Nat → Nat, w' = (wSg E a q.2.2.1 ++ wHi E a fa' q.2.2.2) ∧ T.1 ≤ q.2.2.2.1) (fun cd w' => cd = q.1 ∧ ¬ q.1 = 0 ∧ ∃ fa' : Nat → Nat → Nat, w' = (wSg E a q.2.2.1 ++ wHi E a fa' q.2.2.2) ∧ T.1 ≤ q.2.2.2.1) :=
  XI.of 0 (by decide) (Nat.le_of_ble_eq_true rfl) (fun p e s m below meth c A C hno hdc => r_weak (lSub_s (lSub_s lSub_e)) (N_X9_draw_0 C a k fa hlt hno hdc p0 S T q  hm (fun fa' hm' => TI_of ⟨fa', rfl, hm'⟩)))
set_option maxRecDepth 100000 in
theorem c2_X9_draw (E : ENV) (l : Launch) (k : Nat) (a : Nat → Nat) (fa : Nat → Nat → Nat) (S : VV × VV × VV × VV × VV × Int32) (T : Nat × Int32 × Int32 × (Nat → VV)) (p0 : Int32) (hlt : l.stackTraces = false) {q : Int32 × Int32 × (VV × VV × VV × VV × VV × Int32) × (Nat × Int32 × Int32 × (Nat → VV))} (hm : M_X9_draw k S T p0 = some q) : XI E l yX9_draw cX9_draw 2 (some .int) rm_X9_draw [.ref (a 0), .int p0] (((wSg E a S) ++ hiC E a fa T) ++ hiT E fa T) (fun r w' => q.1 = 0 ∧ r = q.2.1 ∧ ∃ fa' : Nat → Nat → Nat, w' = (wSg E a q.2.2.1 ++ wHi E a fa' q.2.2.2) ∧ T.1 ≤ q.2.2.2.1) (fun cd w' => cd = q.1 ∧ ¬ q.1 = 0 ∧ ∃ fa' : Nat → Nat → Nat, w' = (wSg E a q.2.2.1 ++ wHi E a fa' q.2.2.2) ∧ T.1 ≤ q.2.2.2.1) := by
  rw [show ((wSg E a S) ++ hiC E a fa T) ++ hiT E fa T = (wSg E a S ++ wHi E a fa T) from List.append_assoc _ _ _]
  exact c_X9_draw E l k a fa S T p0 hlt hm
end WALKS
