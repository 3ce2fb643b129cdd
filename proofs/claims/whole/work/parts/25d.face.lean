section WALKS
variable {E : ENV} {p : Program} {l : Launch} {e : Env} {s : State} {m : MethodId} {args : Array Value} {below : List Frame} {meth : Method} {c : Code} {A : Nat → Prop}
theorem hd_X2_takeBack : yX2_takeBack.cls = RX2 ∧ yX2_takeBack.cls ≠ "java/lang/invoke/MethodHandle" ∧ yX2_takeBack.cls ≠ "java/lang/invoke/VarHandle" ∧ (parseMethodDescriptor yX2_takeBack.desc).map (fun d => d.parameters.length) = some 1 := by decide +kernel
theorem g_X9_299 : GoodIn GW (wsV RX9 299 RX2 yX2_takeBack (wsG yX2_takeBack cX2_takeBack 4 (some .boolean))) := gw_V wm_2_161 wm_2_162 wm_2_163 wm_1_6 wm_2_164
-- ShardGuard.undo()I
theorem dX9_undo_0 : decode cX9_undo 0 = .ok (.aload_n 0, 1) := by decide +kernel
theorem dX9_undo_1 : decode cX9_undo 1 = .ok (.getfield 29, 3) := by decide +kernel
theorem dX9_undo_4 : decode cX9_undo 4 = .ok (.aload_n 0, 1) := by decide +kernel
theorem dX9_undo_5 : decode cX9_undo 5 = .ok (.getfield 12, 3) := by decide +kernel
theorem dX9_undo_8 : decode cX9_undo 8 = .ok (.invokevirtual 299, 3) := by decide +kernel
theorem dX9_undo_11 : decode cX9_undo 11 = .ok (.ifCond .eq 13, 3) := by decide +kernel
theorem dX9_undo_14 : decode cX9_undo 14 = .ok (.aload_n 0, 1) := by decide +kernel
theorem dX9_undo_15 : decode cX9_undo 15 = .ok (.getfield 29, 3) := by decide +kernel
theorem dX9_undo_18 : decode cX9_undo 18 = .ok (.getfield 298, 3) := by decide +kernel
theorem dX9_undo_21 : decode cX9_undo 21 = .ok (.goto 4, 3) := by decide +kernel
theorem dX9_undo_24 : decode cX9_undo 24 = .ok (.iconst (-1), 1) := by decide +kernel
theorem dX9_undo_25 : decode cX9_undo 25 = .ok (.ireturn, 1) := by decide +kernel
def rm_X9_undo : Room := { frames := 5, cells := 0, slots := 0, locals := 173 }
def M_X9_undo_0 (k : Nat) (S : VV × VV × VV × VV × VV × Int32) (T : Nat × Int32 × Int32 × (Nat → VV)) : Option (Int32 × (VV × VV × VV × VV × VV × Int32) × (Nat × Int32 × Int32 × (Nat → VV))) := (HtakeBack k T (S.1)).bind fun q1 => lt ((q1.2.2, S.2)) fun F3 => if q1.1 = 0 then (some ((-1 : Int32), F3, (q1.2.1))) else (some ((((q1.2.1).2.1)), F3, (q1.2.1)))
set_option maxRecDepth 100000 in
set_option maxHeartbeats 4000000 in
theorem N_X9_undo_0 (C : CX E p l s m args meth c cX9_undo 1 RX9 (some .int) A) (a : Nat → Nat) (k : Nat) (fa : Nat → Nat → Nat) {post : Int32 → va_W → Prop} :
    ∀ (S : VV × VV × VV × VV × VV × Int32) (T : Nat × Int32 × Int32 × (Nat → VV)) (q : Int32 × (VV × VV × VV × VV × VV × Int32) × (Nat × Int32 × Int32 × (Nat → VV))), M_X9_undo_0 k S T = some q → (∀ fa' : Nat → Nat → Nat, T.1 ≤ q.2.2.1 → post q.1 (wSg E a q.2.1 ++ wHi E a fa' q.2.2)) →
      WW E p l e rm_X9_undo s m args below meth c A 0 0 (QI E below post args s rm_X9_undo A) (wSg E a S ++ wHi E a fa T) 1 [some (.ref (a 0))] 0 [] := by
  intro S T q  h hq
  unfold M_X9_undo_0 at h
  refine r_aload_n (pc := 0) C (i := 0) dX9_undo_0 rfl rfl ?_
  refine r_get (pc := 1) C gwX9 0 rfl rfl 4 (by decide) wm_2_19 rfl dX9_undo_1 ?_
  refine r_aload_n (pc := 4) C (i := 0) dX9_undo_4 rfl rfl ?_
  refine r_get (pc := 5) C gwX9 0 rfl rfl 0 (by decide) wm_2_15 rfl dX9_undo_5 ?_
  obtain ⟨q1, hq1, h⟩ := bnd h
  refine r_callT_CI (Cn := RX2) (c0 := wFl E (fun i => a (i + 1)) (S.1) ++ hiC E a fa T) (w0 := ((wSg E a S) ++ hiC E a fa T)) (t := hiT E fa T) (pc := 8) C [.ref (a 1)] (c_X2_takeBack E l k a (fun i => a (i + 1)) fa T (S.1) hq1) [1, 2, 3, 4, 5, 6, 7, 8, 9, 10, 11, 12, 13, 14, 15, 16, 17, 18, 61, 62] (hpH2 E a fa S T) (by decide) 18 rfl rfl rfl g_X9_299 hd_X2_takeBack ⟨Nat.le_of_ble_eq_true rfl, Nat.le_of_ble_eq_true rfl⟩ ⟨Nat.le_of_ble_eq_true rfl, Nat.le_of_ble_eq_true rfl⟩ (Nat.le_of_ble_eq_true rfl) rfl dX9_undo_8 (List.append_assoc _ _ _).symm (fun r w1 hw1 => ?_)
  obtain ⟨hr1, fa2, hw1⟩ := hw1
  subst hr1 hw1
  obtain ⟨F3, hF3, h⟩ := lt_e h
  refine ⟨wFl E (fun i => a (i + 1)) q1.2.2 ++ hiC E a fa2 q1.2.1, hiT E fa2 (q1.2.1), (wSg E a F3) ++ hiC E a fa2 (q1.2.1), (List.append_assoc _ _ _).symm, rfl, hiT_le (Htake_h hq1), by rw [hF3]; exact pwH2 E a _ _ _ _ _ _, ?_⟩
  refine r_world (List.append_assoc _ _ _) ?_
  refine r_if_eq (pc := 11) C (tgt := 24) dX9_undo_11 rfl (fun c4 => ?_) (fun c4 => ?_)
  · rw [if_pos c4] at h
    refine r_iconst (pc := 24) C (v := (-1)) dX9_undo_24 (by decide) ?_
    have h := Option.some.inj h
    subst h
    exact r_ireti (pc := 25) C (hq fa2 (Nat.le_trans (Nat.le_refl _) (Htake_h hq1))) (Nat.zero_le _) (Nat.zero_le _) dX9_undo_25
  · rw [if_neg c4] at h
    refine r_aload_n (pc := 14) C (i := 0) dX9_undo_14 rfl rfl ?_
    refine r_get (pc := 15) C gwX9 0 rfl rfl 4 (by decide) wm_2_19 rfl dX9_undo_15 ?_
    refine r_get (pc := 18) C gwX2 61 rfl rfl 0 (by decide) wm_1_159 rfl dX9_undo_18 ?_
    refine r_goto (pc := 21) C (tgt := 25) dX9_undo_21 rfl ?_
    cases h
    exact r_ireti (pc := 25) C (hq fa2 (Nat.le_trans (Nat.le_refl _) (Htake_h hq1))) (Nat.zero_le _) (Nat.zero_le _) dX9_undo_25
def M_X9_undo (k : Nat) (S : VV × VV × VV × VV × VV × Int32) (T : Nat × Int32 × Int32 × (Nat → VV)) : Option (Int32 × (VV × VV × VV × VV × VV × Int32) × (Nat × Int32 × Int32 × (Nat → VV))) := M_X9_undo_0 k S T
set_option maxRecDepth 100000 in
set_option maxHeartbeats 4000000 in
theorem c_X9_undo (E : ENV) (l : Launch) (k : Nat) (a : Nat → Nat) (fa : Nat → Nat → Nat) (S : VV × VV × VV × VV × VV × Int32) (T : Nat × Int32 × Int32 × (Nat → VV)) {q : Int32 × (VV × VV × VV × VV × VV × Int32) × (Nat × Int32 × Int32 × (Nat → VV))} (hm : M_X9_undo k S T = some q) : CI E l yX9_undo cX9_undo 1 (some .int) rm_X9_undo [.ref (a 0)] (wSg E a S ++ wHi E a fa T) (fun r w' => r = q.1 ∧ ∃ fa' : Nat → Nat → Nat, w' = (wSg E a q.2.1 ++ wHi E a fa' q.2.2) ∧ T.1 ≤ q.2.2.1) :=
  CI.of 0 (by decide) (Nat.le_of_ble_eq_true rfl) (fun p e s m below meth c A C _ => r_weak (lSub_s lSub_e) (N_X9_undo_0 C a k fa S T q  hm (fun fa' hm' => ⟨rfl, fa', rfl, hm'⟩)))
set_option maxRecDepth 100000 in
theorem c2_X9_undo (E : ENV) (l : Launch) (k : Nat) (a : Nat → Nat) (fa : Nat → Nat → Nat) (S : VV × VV × VV × VV × VV × Int32) (T : Nat × Int32 × Int32 × (Nat → VV)) {q : Int32 × (VV × VV × VV × VV × VV × Int32) × (Nat × Int32 × Int32 × (Nat → VV))} (hm : M_X9_undo k S T = some q) : CI E l yX9_undo cX9_undo 1 (some .int) rm_X9_undo [.ref (a 0)] (((wSg E a S) ++ hiC E a fa T) ++ hiT E fa T) (fun r w' => r = q.1 ∧ ∃ fa' : Nat → Nat → Nat, w' = (wSg E a q.2.1 ++ wHi E a fa' q.2.2) ∧ T.1 ≤ q.2.2.1) := by
  rw [show ((wSg E a S) ++ hiC E a fa T) ++ hiT E fa T = (wSg E a S ++ wHi E a fa T) from List.append_assoc _ _ _]
  exact c_X9_undo E l k a fa S T hm
-- ShardGuard.saveSnapshot()V
set_option maxHeartbeats 8000000 in
theorem hp_X9_saveSnapshot_0 (E : ENV) (a : Nat → Nat) (S : VV × VV × VV × VV × VV × Int32) : ([37, 38, 39, 40, 41, 42, 43, 44, 45, 46, 47, 48, 49, 50, 51, 52, 53, 54, 1, 2, 3, 4, 5, 6, 7, 8, 9, 10, 11, 12, 13, 14, 15, 16, 17, 18] : List Nat).map (fun i => (wSg E a S)[i]?) = (wFl E (fun i => a (i + 37)) (S.2.2.1) ++ wFl E (fun i => a (i + 1)) (S.1)).map some := (seg_map2 (seg_mapL ([(a 0, .inr (7, [.ref (a 1), .ref (a 19), .ref (a 37), .int ((S.2.2.2.2.2)), .ref (a 61), .ref (a 55), .ref (a 58)]))] ++ (wFl E (fun i => a (i + 1)) (S.1) ++ (wFl E (fun i => a (i + 19)) (S.2.1)))) (wFl E (fun i => a (i + 37)) (S.2.2.1)) (wTk E (fun i => a (i + 55)) (S.2.2.2.1) ++ (wTx E (fun i => a (i + 58)) (S.2.2.2.2.1))) (by first | (simp only [wSg, List.append_assoc, List.nil_append, List.append_nil]; done) | (simp only [wSg, List.append_assoc, List.nil_append, List.append_nil]; rfl) | rfl) 18 rfl [37, 38, 39, 40, 41, 42, 43, 44, 45, 46, 47, 48, 49, 50, 51, 52, 53, 54] (by first | (simp only [List.length_append, List.length_cons, List.length_nil, wFl_len, wTk_len, wTx_len]; rfl) | rfl)) (seg_mapL ([(a 0, .inr (7, [.ref (a 1), .ref (a 19), .ref (a 37), .int ((S.2.2.2.2.2)), .ref (a 61), .ref (a 55), .ref (a 58)]))]) (wFl E (fun i => a (i + 1)) (S.1)) (wFl E (fun i => a (i + 19)) (S.2.1) ++ (wFl E (fun i => a (i + 37)) (S.2.2.1) ++ (wTk E (fun i => a (i + 55)) (S.2.2.2.1) ++ (wTx E (fun i => a (i + 58)) (S.2.2.2.2.1))))) (by first | (simp only [wSg, List.append_assoc, List.nil_append, List.append_nil]; done) | (simp only [wSg, List.append_assoc, List.nil_append, List.append_nil]; rfl) | rfl) 18 rfl [1, 2, 3, 4, 5, 6, 7, 8, 9, 10, 11, 12, 13, 14, 15, 16, 17, 18] (by first | (simp only [List.length_append, List.length_cons, List.length_nil, wFl_len, wTk_len, wTx_len]; rfl) | rfl)))
set_option maxHeartbeats 8000000 in
theorem pw_X9_saveSnapshot_0 (E : ENV) (a : Nat → Nat) (S : VV × VV × VV × VV × VV × Int32) (X0 : Nat → Nat → Int32) : putW (wSg E a S) [37, 38, 39, 40, 41, 42, 43, 44, 45, 46, 47, 48, 49, 50, 51, 52, 53, 54, 1, 2, 3, 4, 5, 6, 7, 8, 9, 10, 11, 12, 13, 14, 15, 16, 17, 18] (wFl E (fun i => a (i + 37)) X0 ++ wFl E (fun i => a (i + 1)) (S.1)) = some (wSg E a (S.1, S.2.1, X0, S.2.2.2)) := seg_put2 ([(a 0, .inr (7, [.ref (a 1), .ref (a 19), .ref (a 37), .int ((S.2.2.2.2.2)), .ref (a 61), .ref (a 55), .ref (a 58)]))] ++ (wFl E (fun i => a (i + 1)) (S.1) ++ (wFl E (fun i => a (i + 19)) (S.2.1)))) (wFl E (fun i => a (i + 37)) (S.2.2.1)) (wFl E (fun i => a (i + 37)) X0) (wTk E (fun i => a (i + 55)) (S.2.2.2.1) ++ (wTx E (fun i => a (i + 58)) (S.2.2.2.2.1))) (by first | (simp only [wSg, List.append_assoc, List.nil_append, List.append_nil]; done) | (simp only [wSg, List.append_assoc, List.nil_append, List.append_nil]; rfl) | rfl) 18 rfl rfl [37, 38, 39, 40, 41, 42, 43, 44, 45, 46, 47, 48, 49, 50, 51, 52, 53, 54] (by first | (simp only [List.length_append, List.length_cons, List.length_nil, wFl_len, wTk_len, wTx_len]; rfl) | rfl) (seg_put1 (([(a 0, .inr (7, [.ref (a 1), .ref (a 19), .ref (a 37), .int ((S.2.2.2.2.2)), .ref (a 61), .ref (a 55), .ref (a 58)]))])) (wFl E (fun i => a (i + 1)) (S.1)) (wFl E (fun i => a (i + 1)) (S.1)) ((wFl E (fun i => a (i + 19)) (S.2.1)) ++ (wFl E (fun i => a (i + 37)) X0) ++ (wTk E (fun i => a (i + 55)) (S.2.2.2.1) ++ (wTx E (fun i => a (i + 58)) (S.2.2.2.2.1)))) (by first | (simp only [wSg, List.append_assoc, List.nil_append, List.append_nil]; done) | (simp only [wSg, List.append_assoc, List.nil_append, List.append_nil]; rfl) | rfl) (by first | (simp only [wSg, List.append_assoc, List.nil_append, List.append_nil]; done) | (simp only [wSg, List.append_assoc, List.nil_append, List.append_nil]; rfl) | rfl) 18 rfl rfl [1, 2, 3, 4, 5, 6, 7, 8, 9, 10, 11, 12, 13, 14, 15, 16, 17, 18] (by first | (simp only [List.length_append, List.length_cons, List.length_nil, wFl_len, wTk_len, wTx_len]; rfl) | rfl))
theorem dX9_saveSnapshot_0 : decode cX9_saveSnapshot 0 = .ok (.aload_n 0, 1) := by decide +kernel
theorem dX9_saveSnapshot_1 : decode cX9_saveSnapshot 1 = .ok (.getfield 19, 3) := by decide +kernel
theorem dX9_saveSnapshot_4 : decode cX9_saveSnapshot 4 = .ok (.aload_n 0, 1) := by decide +kernel
theorem dX9_saveSnapshot_5 : decode cX9_saveSnapshot 5 = .ok (.getfield 12, 3) := by decide +kernel
theorem dX9_saveSnapshot_8 : decode cX9_saveSnapshot 8 = .ok (.invokevirtual 81, 3) := by decide +kernel
theorem dX9_saveSnapshot_11 : decode cX9_saveSnapshot 11 = .ok (.aload_n 0, 1) := by decide +kernel
theorem dX9_saveSnapshot_12 : decode cX9_saveSnapshot 12 = .ok (.iconst 1, 1) := by decide +kernel
theorem dX9_saveSnapshot_13 : decode cX9_saveSnapshot 13 = .ok (.putfield 22, 3) := by decide +kernel
theorem dX9_saveSnapshot_16 : decode cX9_saveSnapshot 16 = .ok (.return_, 1) := by decide +kernel
def rm_X9_saveSnapshot : Room := { frames := 4, cells := 0, slots := 0, locals := 143 }
def M_X9_saveSnapshot_0 (k : Nat) (S : VV × VV × VV × VV × VV × Int32) : Option ((VV × VV × VV × VV × VV × Int32)) := (M_X0_copyFrom k (S.2.2.1) (S.1)).bind fun q1 => lt ((S.1, S.2.1, q1, S.2.2.2)) fun F2 => lt ((F2.1, F2.2.1, F2.2.2.1, F2.2.2.2.1, F2.2.2.2.2.1, (1 : Int32))) fun F3 => some F3
set_option maxRecDepth 100000 in
set_option maxHeartbeats 4000000 in
theorem N_X9_saveSnapshot_0 (C : CX E p l s m args meth c cX9_saveSnapshot 1 RX9 none A) (a : Nat → Nat) (k : Nat) {post : va_W → Prop} :
    ∀ (S : VV × VV × VV × VV × VV × Int32) (q : (VV × VV × VV × VV × VV × Int32)), M_X9_saveSnapshot_0 k S = some q → post (wSg E a q) →
      WW E p l e rm_X9_saveSnapshot s m args below meth c A 0 0 (QV E below post args s rm_X9_saveSnapshot A) (wSg E a S) 1 [some (.ref (a 0))] 0 [] := by
  intro S q  h hq
  unfold M_X9_saveSnapshot_0 at h
  refine r_aload_n (pc := 0) C (i := 0) dX9_saveSnapshot_0 rfl rfl ?_
  refine r_get (pc := 1) C gwX9 0 rfl rfl 2 (by decide) wm_2_17 rfl dX9_saveSnapshot_1 ?_
  refine r_aload_n (pc := 4) C (i := 0) dX9_saveSnapshot_4 rfl rfl ?_
  refine r_get (pc := 5) C gwX9 0 rfl rfl 0 (by decide) wm_2_15 rfl dX9_saveSnapshot_5 ?_
  obtain ⟨q1, hq1, h⟩ := bnd h
  obtain ⟨F2, hF2, h⟩ := lt_e h
  refine r_callV_CV (Cn := RX0) (pc := 8) C [.ref (a 1)] (c_X0_copyFrom E l k (fun i => a (i + 37)) (fun i => a (i + 1)) (S.2.2.1) (S.1) hq1) [37, 38, 39, 40, 41, 42, 43, 44, 45, 46, 47, 48, 49, 50, 51, 52, 53, 54, 1, 2, 3, 4, 5, 6, 7, 8, 9, 10, 11, 12, 13, 14, 15, 16, 17, 18] (hp_X9_saveSnapshot_0 E a S) (by decide) 0 rfl rfl rfl g_X9_81 hd_X0_copyFrom ⟨Nat.le_of_ble_eq_true rfl, Nat.le_of_ble_eq_true rfl⟩ ⟨Nat.zero_le _, Nat.zero_le _⟩ (Nat.le_of_ble_eq_true rfl) rfl dX9_saveSnapshot_8 (fun w1 hw1 => ?_)
  subst hw1
  refine ⟨(wSg E a F2), by rw [hF2]; exact (pw_X9_saveSnapshot_0 E a S q1), ?_⟩
  refine r_aload_n (pc := 11) C (i := 0) dX9_saveSnapshot_11 rfl rfl ?_
  refine r_iconst (pc := 12) C (v := 1) dX9_saveSnapshot_12 (by decide) ?_
  obtain ⟨F3, hF3, h⟩ := lt_e h
  refine r_put (pc := 13) C gwX9 tyX9 tyX9_ok nmX9 0 rfl rfl 3 (by decide) wm_2_18 rfl rfl rfl rfl (Nat.le_of_ble_eq_true rfl) (w' := (wSg E a F3)) (by rw [hF3]; rfl) dX9_saveSnapshot_13 ?_
  cases h
  exact r_vret (pc := 16) C hq (Nat.zero_le _) (Nat.zero_le _) dX9_saveSnapshot_16
def M_X9_saveSnapshot (k : Nat) (S : VV × VV × VV × VV × VV × Int32) : Option ((VV × VV × VV × VV × VV × Int32)) := M_X9_saveSnapshot_0 k S
set_option maxRecDepth 100000 in
set_option maxHeartbeats 4000000 in
theorem c_X9_saveSnapshot (E : ENV) (l : Launch) (k : Nat) (a : Nat → Nat) (S : VV × VV × VV × VV × VV × Int32) {q : (VV × VV × VV × VV × VV × Int32)} (hm : M_X9_saveSnapshot k S = some q) : CV E l yX9_saveSnapshot cX9_saveSnapshot 1 none rm_X9_saveSnapshot [.ref (a 0)] (wSg E a S) (fun w' => w' = (wSg E a q)) :=
  CV.of 0 (by decide) (Nat.le_of_ble_eq_true rfl) (fun p e s m below meth c A C _ => r_weak (lSub_s lSub_e) (N_X9_saveSnapshot_0 C a k S q  hm rfl))
-- ShardGuard.restoreSnapshot()Z
set_option maxHeartbeats 8000000 in
theorem hp_X9_restoreSnapshot_0 (E : ENV) (a : Nat → Nat) (fa : Nat → Nat → Nat) (S : VV × VV × VV × VV × VV × Int32) (T : Nat × Int32 × Int32 × (Nat → VV)) : ([1, 2, 3, 4, 5, 6, 7, 8, 9, 10, 11, 12, 13, 14, 15, 16, 17, 18, 37, 38, 39, 40, 41, 42, 43, 44, 45, 46, 47, 48, 49, 50, 51, 52, 53, 54] : List Nat).map (fun i => ((wSg E a S) ++ hiC E a fa T)[i]?) = (wFl E (fun i => a (i + 1)) (S.1) ++ wFl E (fun i => a (i + 37)) (S.2.2.1)).map some := (seg_map2 (seg_mapL ([(a 0, .inr (7, [.ref (a 1), .ref (a 19), .ref (a 37), .int ((S.2.2.2.2.2)), .ref (a 61), .ref (a 55), .ref (a 58)]))]) (wFl E (fun i => a (i + 1)) (S.1)) (wFl E (fun i => a (i + 19)) (S.2.1) ++ (wFl E (fun i => a (i + 37)) (S.2.2.1) ++ (wTk E (fun i => a (i + 55)) (S.2.2.2.1) ++ (wTx E (fun i => a (i + 58)) (S.2.2.2.2.1) ++ (hiC E a fa T))))) (by first | (simp only [wSg, List.append_assoc, List.nil_append, List.append_nil]; done) | (simp only [wSg, List.append_assoc, List.nil_append, List.append_nil]; rfl) | rfl) 18 rfl [1, 2, 3, 4, 5, 6, 7, 8, 9, 10, 11, 12, 13, 14, 15, 16, 17, 18] (by first | (simp only [List.length_append, List.length_cons, List.length_nil, wFl_len, wTk_len, wTx_len]; rfl) | rfl)) (seg_mapL ([(a 0, .inr (7, [.ref (a 1), .ref (a 19), .ref (a 37), .int ((S.2.2.2.2.2)), .ref (a 61), .ref (a 55), .ref (a 58)]))] ++ (wFl E (fun i => a (i + 1)) (S.1) ++ (wFl E (fun i => a (i + 19)) (S.2.1)))) (wFl E (fun i => a (i + 37)) (S.2.2.1)) (wTk E (fun i => a (i + 55)) (S.2.2.2.1) ++ (wTx E (fun i => a (i + 58)) (S.2.2.2.2.1) ++ (hiC E a fa T))) (by first | (simp only [wSg, List.append_assoc, List.nil_append, List.append_nil]; done) | (simp only [wSg, List.append_assoc, List.nil_append, List.append_nil]; rfl) | rfl) 18 rfl [37, 38, 39, 40, 41, 42, 43, 44, 45, 46, 47, 48, 49, 50, 51, 52, 53, 54] (by first | (simp only [List.length_append, List.length_cons, List.length_nil, wFl_len, wTk_len, wTx_len]; rfl) | rfl)))
set_option maxHeartbeats 8000000 in
theorem pw_X9_restoreSnapshot_0 (E : ENV) (a : Nat → Nat) (fa : Nat → Nat → Nat) (S : VV × VV × VV × VV × VV × Int32) (T : Nat × Int32 × Int32 × (Nat → VV)) (X0 : Nat → Nat → Int32) : putW ((wSg E a S) ++ hiC E a fa T) [1, 2, 3, 4, 5, 6, 7, 8, 9, 10, 11, 12, 13, 14, 15, 16, 17, 18, 37, 38, 39, 40, 41, 42, 43, 44, 45, 46, 47, 48, 49, 50, 51, 52, 53, 54] (wFl E (fun i => a (i + 1)) X0 ++ wFl E (fun i => a (i + 37)) (S.2.2.1)) = some ((wSg E a (X0, S.2)) ++ hiC E a fa T) := seg_put2 ([(a 0, .inr (7, [.ref (a 1), .ref (a 19), .ref (a 37), .int ((S.2.2.2.2.2)), .ref (a 61), .ref (a 55), .ref (a 58)]))]) (wFl E (fun i => a (i + 1)) (S.1)) (wFl E (fun i => a (i + 1)) X0) (wFl E (fun i => a (i + 19)) (S.2.1) ++ (wFl E (fun i => a (i + 37)) (S.2.2.1) ++ (wTk E (fun i => a (i + 55)) (S.2.2.2.1) ++ (wTx E (fun i => a (i + 58)) (S.2.2.2.2.1) ++ (hiC E a fa T))))) (by first | (simp only [wSg, List.append_assoc, List.nil_append, List.append_nil]; done) | (simp only [wSg, List.append_assoc, List.nil_append, List.append_nil]; rfl) | rfl) 18 rfl rfl [1, 2, 3, 4, 5, 6, 7, 8, 9, 10, 11, 12, 13, 14, 15, 16, 17, 18] (by first | (simp only [List.length_append, List.length_cons, List.length_nil, wFl_len, wTk_len, wTx_len]; rfl) | rfl) (seg_put1 (([(a 0, .inr (7, [.ref (a 1), .ref (a 19), .ref (a 37), .int ((S.2.2.2.2.2)), .ref (a 61), .ref (a 55), .ref (a 58)]))]) ++ (wFl E (fun i => a (i + 1)) X0) ++ (wFl E (fun i => a (i + 19)) (S.2.1))) (wFl E (fun i => a (i + 37)) (S.2.2.1)) (wFl E (fun i => a (i + 37)) (S.2.2.1)) ((wTk E (fun i => a (i + 55)) (S.2.2.2.1) ++ (wTx E (fun i => a (i + 58)) (S.2.2.2.2.1) ++ (hiC E a fa T)))) (by first | (simp only [wSg, List.append_assoc, List.nil_append, List.append_nil]; done) | (simp only [wSg, List.append_assoc, List.nil_append, List.append_nil]; rfl) | rfl) (by first | (simp only [wSg, List.append_assoc, List.nil_append, List.append_nil]; done) | (simp only [wSg, List.append_assoc, List.nil_append, List.append_nil]; rfl) | rfl) 18 rfl rfl [37, 38, 39, 40, 41, 42, 43, 44, 45, 46, 47, 48, 49, 50, 51, 52, 53, 54] (by first | (simp only [List.length_append, List.length_cons, List.length_nil, wFl_len, wTk_len, wTx_len]; rfl) | rfl))
theorem dX9_restoreSnapshot_0 : decode cX9_restoreSnapshot 0 = .ok (.aload_n 0, 1) := by decide +kernel
theorem dX9_restoreSnapshot_1 : decode cX9_restoreSnapshot 1 = .ok (.getfield 22, 3) := by decide +kernel
theorem dX9_restoreSnapshot_4 : decode cX9_restoreSnapshot 4 = .ok (.ifCond .ne 5, 3) := by decide +kernel
theorem dX9_restoreSnapshot_7 : decode cX9_restoreSnapshot 7 = .ok (.iconst 0, 1) := by decide +kernel
theorem dX9_restoreSnapshot_8 : decode cX9_restoreSnapshot 8 = .ok (.ireturn, 1) := by decide +kernel
theorem dX9_restoreSnapshot_9 : decode cX9_restoreSnapshot 9 = .ok (.aload_n 0, 1) := by decide +kernel
theorem dX9_restoreSnapshot_10 : decode cX9_restoreSnapshot 10 = .ok (.getfield 12, 3) := by decide +kernel
theorem dX9_restoreSnapshot_13 : decode cX9_restoreSnapshot 13 = .ok (.aload_n 0, 1) := by decide +kernel
theorem dX9_restoreSnapshot_14 : decode cX9_restoreSnapshot 14 = .ok (.getfield 19, 3) := by decide +kernel
theorem dX9_restoreSnapshot_17 : decode cX9_restoreSnapshot 17 = .ok (.invokevirtual 81, 3) := by decide +kernel
theorem dX9_restoreSnapshot_20 : decode cX9_restoreSnapshot 20 = .ok (.aload_n 0, 1) := by decide +kernel
theorem dX9_restoreSnapshot_21 : decode cX9_restoreSnapshot 21 = .ok (.getfield 29, 3) := by decide +kernel
theorem dX9_restoreSnapshot_24 : decode cX9_restoreSnapshot 24 = .ok (.invokevirtual 85, 3) := by decide +kernel
theorem dX9_restoreSnapshot_27 : decode cX9_restoreSnapshot 27 = .ok (.iconst 1, 1) := by decide +kernel
theorem dX9_restoreSnapshot_28 : decode cX9_restoreSnapshot 28 = .ok (.ireturn, 1) := by decide +kernel
def rm_X9_restoreSnapshot : Room := { frames := 4, cells := 0, slots := 0, locals := 143 }
def M_X9_restoreSnapshot_0 (k : Nat) (S : VV × VV × VV × VV × VV × Int32) (T : Nat × Int32 × Int32 × (Nat → VV)) : Option (Int32 × (VV × VV × VV × VV × VV × Int32) × (Nat × Int32 × Int32 × (Nat → VV))) := if ((S.2.2.2.2.2)) = 0 then (some ((0 : Int32), S, T)) else ((M_X0_copyFrom k (S.1) (S.2.2.1)).bind fun q2 => lt ((q2, S.2)) fun F3 => (M_X2_clear k T).bind fun q4 => some ((1 : Int32), F3, q4))
set_option maxRecDepth 100000 in
set_option maxHeartbeats 4000000 in
theorem N_X9_restoreSnapshot_0 (C : CX E p l s m args meth c cX9_restoreSnapshot 1 RX9 (some .boolean) A) (a : Nat → Nat) (k : Nat) (fa : Nat → Nat → Nat) {post : Int32 → va_W → Prop} :
    ∀ (S : VV × VV × VV × VV × VV × Int32) (T : Nat × Int32 × Int32 × (Nat → VV)) (q : Int32 × (VV × VV × VV × VV × VV × Int32) × (Nat × Int32 × Int32 × (Nat → VV))), M_X9_restoreSnapshot_0 k S T = some q → (∀ fa' : Nat → Nat → Nat, T.1 ≤ q.2.2.1 → post q.1 (wSg E a q.2.1 ++ wHi E a fa' q.2.2)) →
      WW E p l e rm_X9_restoreSnapshot s m args below meth c A 0 0 (QI E below post args s rm_X9_restoreSnapshot A) (wSg E a S ++ wHi E a fa T) 1 [some (.ref (a 0))] 0 [] := by
  intro S T q  h hq
  unfold M_X9_restoreSnapshot_0 at h
  refine r_aload_n (pc := 0) C (i := 0) dX9_restoreSnapshot_0 rfl rfl ?_
  refine r_get (pc := 1) C gwX9 0 rfl rfl 3 (by decide) wm_2_18 rfl dX9_restoreSnapshot_1 ?_
  refine r_if_ne (pc := 4) C (tgt := 9) dX9_restoreSnapshot_4 rfl (fun c1 => ?_) (fun c1 => ?_)
  · rw [if_neg c1] at h
    refine r_aload_n (pc := 9) C (i := 0) dX9_restoreSnapshot_9 rfl rfl ?_
    refine r_get (pc := 10) C gwX9 0 rfl rfl 0 (by decide) wm_2_15 rfl dX9_restoreSnapshot_10 ?_
    refine r_aload_n (pc := 13) C (i := 0) dX9_restoreSnapshot_13 rfl rfl ?_
    refine r_get (pc := 14) C gwX9 0 rfl rfl 2 (by decide) wm_2_17 rfl dX9_restoreSnapshot_14 ?_
    obtain ⟨q2, hq2, h⟩ := bnd h
    obtain ⟨F3, hF3, h⟩ := lt_e h
    refine r_callV_CV (Cn := RX0) (pc := 17) C [.ref (a 37)] (c_X0_copyFrom E l k (fun i => a (i + 1)) (fun i => a (i + 37)) (S.1) (S.2.2.1) hq2) [1, 2, 3, 4, 5, 6, 7, 8, 9, 10, 11, 12, 13, 14, 15, 16, 17, 18, 37, 38, 39, 40, 41, 42, 43, 44, 45, 46, 47, 48, 49, 50, 51, 52, 53, 54] (hps_hi (List.append_assoc _ _ _).symm (hp_X9_restoreSnapshot_0 E a fa S T)) (by decide) 0 rfl rfl rfl g_X9_81 hd_X0_copyFrom ⟨Nat.le_of_ble_eq_true rfl, Nat.le_of_ble_eq_true rfl⟩ ⟨Nat.zero_le _, Nat.zero_le _⟩ (Nat.le_of_ble_eq_true rfl) rfl dX9_restoreSnapshot_17 (fun w1 hw1 => ?_)
    subst hw1
    refine ⟨(wSg E a F3 ++ wHi E a fa T), by rw [hF3]; exact putW_hi (List.append_assoc _ _ _).symm (List.append_assoc _ _ _).symm (hp_X9_restoreSnapshot_0 E a fa S T) rfl (pw_X9_restoreSnapshot_0 E a fa S T q2), ?_⟩
    refine r_aload_n (pc := 20) C (i := 0) dX9_restoreSnapshot_20 rfl rfl ?_
    refine r_get (pc := 21) C gwX9 0 rfl rfl 4 (by decide) wm_2_19 rfl dX9_restoreSnapshot_21 ?_
    obtain ⟨q4, hq4, h⟩ := bnd h
    refine r_callT_CV (Cn := RX2) (c0 := hiC E a fa T) (w0 := ((wSg E a F3) ++ hiC E a fa T)) (t := hiT E fa T) (pc := 24) C [] (c_X2_clear E l k a fa T hq4) [61, 62] (hpH1 E a fa F3 T) (by decide) 0 rfl rfl rfl g_X9_85 hd_X2_clear ⟨Nat.le_of_ble_eq_true rfl, Nat.le_of_ble_eq_true rfl⟩ ⟨Nat.le_of_ble_eq_true rfl, Nat.le_of_ble_eq_true rfl⟩ (Nat.le_of_ble_eq_true rfl) rfl dX9_restoreSnapshot_24 (List.append_assoc _ _ _).symm (fun w1 hw1 => ?_)
    obtain ⟨fa5, hw1, -⟩ := hw1
    subst hw1
    refine ⟨hiC E a fa5 q4, hiT E fa5 q4, (wSg E a F3) ++ hiC E a fa5 q4, rfl, rfl, hiT_le (Hclear_h hq4), pwH1 E a _ _ _ _ _, ?_⟩
    refine r_world (List.append_assoc _ _ _) ?_
    refine r_iconst (pc := 27) C (v := 1) dX9_restoreSnapshot_27 (by decide) ?_
    cases h
    exact r_iretz (pc := 28) C (Or.inr rfl) (hq fa5 (Nat.le_trans (Nat.le_refl _) (Hclear_h hq4))) (Nat.zero_le _) (Nat.zero_le _) dX9_restoreSnapshot_28
  · rw [if_pos c1] at h
    refine r_iconst (pc := 7) C (v := 0) dX9_restoreSnapshot_7 (by decide) ?_
    cases h
    exact r_iretz (pc := 8) C (Or.inl rfl) (hq fa (Nat.le_refl _)) (Nat.zero_le _) (Nat.zero_le _) dX9_restoreSnapshot_8
def M_X9_restoreSnapshot (k : Nat) (S : VV × VV × VV × VV × VV × Int32) (T : Nat × Int32 × Int32 × (Nat → VV)) : Option (Int32 × (VV × VV × VV × VV × VV × Int32) × (Nat × Int32 × Int32 × (Nat → VV))) := M_X9_restoreSnapshot_0 k S T
set_option maxRecDepth 100000 in
set_option maxHeartbeats 4000000 in
theorem c_X9_restoreSnapshot (E : ENV) (l : Launch) (k : Nat) (a : Nat → Nat) (fa : Nat → Nat → Nat) (S : VV × VV × VV × VV × VV × Int32) (T : Nat × Int32 × Int32 × (Nat → VV)) {q : Int32 × (VV × VV × VV × VV × VV × Int32) × (Nat × Int32 × Int32 × (Nat → VV))} (hm : M_X9_restoreSnapshot k S T = some q) : CI E l yX9_restoreSnapshot cX9_restoreSnapshot 1 (some .boolean) rm_X9_restoreSnapshot [.ref (a 0)] (wSg E a S ++ wHi E a fa T) (fun r w' => r = q.1 ∧ ∃ fa' : Nat → Nat → Nat, w' = (wSg E a q.2.1 ++ wHi E a fa' q.2.2) ∧ T.1 ≤ q.2.2.1) :=
  CI.of 0 (by decide) (Nat.le_of_ble_eq_true rfl) (fun p e s m below meth c A C _ => r_weak (lSub_s lSub_e) (N_X9_restoreSnapshot_0 C a k fa S T q  hm (fun fa' hm' => ⟨rfl, fa', rfl, hm'⟩)))
set_option maxRecDepth 100000 in
theorem c2_X9_restoreSnapshot (E : ENV) (l : Launch) (k : Nat) (a : Nat → Nat) (fa : Nat → Nat → Nat) (S : VV × VV × VV × VV × VV × Int32) (T : Nat × Int32 × Int32 × (Nat → VV)) {q : Int32 × (VV × VV × VV × VV × VV × Int32) × (Nat × Int32 × Int32 × (Nat → VV))} (hm : M_X9_restoreSnapshot k S T = some q) : CI E l yX9_restoreSnapshot cX9_restoreSnapshot 1 (some .boolean) rm_X9_restoreSnapshot [.ref (a 0)] (((wSg E a S) ++ hiC E a fa T) ++ hiT E fa T) (fun r w' => r = q.1 ∧ ∃ fa' : Nat → Nat → Nat, w' = (wSg E a q.2.1 ++ wHi E a fa' q.2.2) ∧ T.1 ≤ q.2.2.1) := by
  rw [show ((wSg E a S) ++ hiC E a fa T) ++ hiT E fa T = (wSg E a S ++ wHi E a fa T) from List.append_assoc _ _ _]
  exact c_X9_restoreSnapshot E l k a fa S T hm
theorem g_X9_313 : GoodIn GW (wsV RX9 313 RX7 yX7_take (wsG yX7_take cX7_take 2 none)) := gw_V wm_5_105 wm_3_38 wm_3_39 wm_1_7 wm_3_40
theorem gn_X4_test : GoodIn GW (wsG yX4_test cX4_test 11 (some .long)) := gw_sub (gw_G wm_5_108)
theorem g_X9_322 : GoodIn GW (wsV RX9 322 RX7 yX7_takeEnd (wsG yX7_takeEnd cX7_takeEnd 1 none)) := gw_V wm_5_157 wm_3_181 wm_3_182 wm_1_7 wm_3_183
theorem hd_J13_numberOfTrailingZeros_95d88 : yJ13_numberOfTrailingZeros_95d88.cls = RJ13 ∧ yJ13_numberOfTrailingZeros_95d88.cls ≠ "java/lang/invoke/MethodHandle" ∧ yJ13_numberOfTrailingZeros_95d88.cls ≠ "java/lang/invoke/VarHandle" ∧ (parseMethodDescriptor yJ13_numberOfTrailingZeros_95d88.desc).map (fun d => d.parameters.length) = some 1 := by decide +kernel
theorem g_X9_331 : GoodIn GW (va_wsS RX9 331 yJ13_numberOfTrailingZeros_95d88 (wsG yJ13_numberOfTrailingZeros_95d88 cJ13_numberOfTrailingZeros_95d88 3 (some .int))) := gw_S wm_5_165 wm_5_166 wm_1_25 wm_5_167
theorem hd_J13_bitCount_95d88 : yJ13_bitCount_95d88.cls = RJ13 ∧ yJ13_bitCount_95d88.cls ≠ "java/lang/invoke/MethodHandle" ∧ yJ13_bitCount_95d88.cls ≠ "java/lang/invoke/VarHandle" ∧ (parseMethodDescriptor yJ13_bitCount_95d88.desc).map (fun d => d.parameters.length) = some 1 := by decide +kernel
theorem g_X9_326 : GoodIn GW (va_wsS RX9 326 yJ13_bitCount_95d88 (wsG yJ13_bitCount_95d88 cJ13_bitCount_95d88 2 (some .int))) := gw_S wm_5_159 wm_5_160 wm_1_25 wm_5_161
theorem g_X9_307 : GoodIn GW (wsV RX9 307 RX7 yX7_is (wsG yX7_is cX7_is 3 (some .boolean))) := gw_V wm_5_103 wm_3_42 wm_3_43 wm_1_7 wm_3_44
-- ShardGuard.query(I)I
set_option maxHeartbeats 8000000 in
theorem hp_X9_query_0 (E : ENV) (a : Nat → Nat) (S : VV × VV × VV × VV × VV × Int32) : ([55, 56, 57, 1, 2, 3, 4, 5, 6, 7, 8, 9, 10, 11, 12, 13, 14, 15, 16, 17, 18] : List Nat).map (fun i => (wSg E a S)[i]?) = (wTk E (fun i => a (i + 55)) (S.2.2.2.1) ++ wFl E (fun i => a (i + 1)) (S.1)).map some := (seg_map2 (seg_mapL ([(a 0, .inr (7, [.ref (a 1), .ref (a 19), .ref (a 37), .int ((S.2.2.2.2.2)), .ref (a 61), .ref (a 55), .ref (a 58)]))] ++ (wFl E (fun i => a (i + 1)) (S.1) ++ (wFl E (fun i => a (i + 19)) (S.2.1) ++ (wFl E (fun i => a (i + 37)) (S.2.2.1))))) (wTk E (fun i => a (i + 55)) (S.2.2.2.1)) (wTx E (fun i => a (i + 58)) (S.2.2.2.2.1)) (by first | (simp only [wSg, List.append_assoc, List.nil_append, List.append_nil]; done) | (simp only [wSg, List.append_assoc, List.nil_append, List.append_nil]; rfl) | rfl) 3 rfl [55, 56, 57] (by first | (simp only [List.length_append, List.length_cons, List.length_nil, wFl_len, wTk_len, wTx_len]; rfl) | rfl)) (seg_mapL ([(a 0, .inr (7, [.ref (a 1), .ref (a 19), .ref (a 37), .int ((S.2.2.2.2.2)), .ref (a 61), .ref (a 55), .ref (a 58)]))]) (wFl E (fun i => a (i + 1)) (S.1)) (wFl E (fun i => a (i + 19)) (S.2.1) ++ (wFl E (fun i => a (i + 37)) (S.2.2.1) ++ (wTk E (fun i => a (i + 55)) (S.2.2.2.1) ++ (wTx E (fun i => a (i + 58)) (S.2.2.2.2.1))))) (by first | (simp only [wSg, List.append_assoc, List.nil_append, List.append_nil]; done) | (simp only [wSg, List.append_assoc, List.nil_append, List.append_nil]; rfl) | rfl) 18 rfl [1, 2, 3, 4, 5, 6, 7, 8, 9, 10, 11, 12, 13, 14, 15, 16, 17, 18] (by first | (simp only [List.length_append, List.length_cons, List.length_nil, wFl_len, wTk_len, wTx_len]; rfl) | rfl)))
set_option maxHeartbeats 8000000 in
theorem pw_X9_query_0 (E : ENV) (a : Nat → Nat) (S : VV × VV × VV × VV × VV × Int32) (X0 : Nat → Nat → Int32) : putW (wSg E a S) [55, 56, 57, 1, 2, 3, 4, 5, 6, 7, 8, 9, 10, 11, 12, 13, 14, 15, 16, 17, 18] (wTk E (fun i => a (i + 55)) X0 ++ wFl E (fun i => a (i + 1)) (S.1)) = some (wSg E a (S.1, S.2.1, S.2.2.1, X0, S.2.2.2.2)) := seg_put2 ([(a 0, .inr (7, [.ref (a 1), .ref (a 19), .ref (a 37), .int ((S.2.2.2.2.2)), .ref (a 61), .ref (a 55), .ref (a 58)]))] ++ (wFl E (fun i => a (i + 1)) (S.1) ++ (wFl E (fun i => a (i + 19)) (S.2.1) ++ (wFl E (fun i => a (i + 37)) (S.2.2.1))))) (wTk E (fun i => a (i + 55)) (S.2.2.2.1)) (wTk E (fun i => a (i + 55)) X0) (wTx E (fun i => a (i + 58)) (S.2.2.2.2.1)) (by first | (simp only [wSg, List.append_assoc, List.nil_append, List.append_nil]; done) | (simp only [wSg, List.append_assoc, List.nil_append, List.append_nil]; rfl) | rfl) 3 rfl rfl [55, 56, 57] (by first | (simp only [List.length_append, List.length_cons, List.length_nil, wFl_len, wTk_len, wTx_len]; rfl) | rfl) (seg_put1 (([(a 0, .inr (7, [.ref (a 1), .ref (a 19), .ref (a 37), .int ((S.2.2.2.2.2)), .ref (a 61), .ref (a 55), .ref (a 58)]))])) (wFl E (fun i => a (i + 1)) (S.1)) (wFl E (fun i => a (i + 1)) (S.1)) ((wFl E (fun i => a (i + 19)) (S.2.1) ++ (wFl E (fun i => a (i + 37)) (S.2.2.1))) ++ (wTk E (fun i => a (i + 55)) X0) ++ (wTx E (fun i => a (i + 58)) (S.2.2.2.2.1))) (by first | (simp only [wSg, List.append_assoc, List.nil_append, List.append_nil]; done) | (simp only [wSg, List.append_assoc, List.nil_append, List.append_nil]; rfl) | rfl) (by first | (simp only [wSg, List.append_assoc, List.nil_append, List.append_nil]; done) | (simp only [wSg, List.append_assoc, List.nil_append, List.append_nil]; rfl) | rfl) 18 rfl rfl [1, 2, 3, 4, 5, 6, 7, 8, 9, 10, 11, 12, 13, 14, 15, 16, 17, 18] (by first | (simp only [List.length_append, List.length_cons, List.length_nil, wFl_len, wTk_len, wTx_len]; rfl) | rfl))
theorem dX9_query_0 : decode cX9_query 0 = .ok (.iload_n 1, 1) := by decide +kernel
theorem dX9_query_1 : decode cX9_query 1 = .ok (.ifCond .lt 21, 3) := by decide +kernel
theorem dX9_query_4 : decode cX9_query 4 = .ok (.iload_n 1, 1) := by decide +kernel
theorem dX9_query_5 : decode cX9_query 5 = .ok (.sipush 200, 3) := by decide +kernel
theorem dX9_query_8 : decode cX9_query 8 = .ok (.if_icmp .gt 14, 3) := by decide +kernel
theorem dX9_query_11 : decode cX9_query 11 = .ok (.iload_n 1, 1) := by decide +kernel
theorem dX9_query_12 : decode cX9_query 12 = .ok (.aload_n 0, 1) := by decide +kernel
theorem dX9_query_13 : decode cX9_query 13 = .ok (.getfield 36, 3) := by decide +kernel
theorem dX9_query_16 : decode cX9_query 16 = .ok (.getfield 51, 3) := by decide +kernel
theorem dX9_query_19 : decode cX9_query 19 = .ok (.if_icmp .le 14, 3) := by decide +kernel
theorem dX9_query_22 : decode cX9_query 22 = .ok (.new 59, 3) := by decide +kernel
theorem dX9_query_25 : decode cX9_query 25 = .ok (.dup, 1) := by decide +kernel
theorem dX9_query_26 : decode cX9_query 26 = .ok (.ldc_w 303, 3) := by decide +kernel
theorem dX9_query_29 : decode cX9_query 29 = .ok (.invokespecial 63, 3) := by decide +kernel
theorem dX9_query_32 : decode cX9_query 32 = .ok (.athrow, 1) := by decide +kernel
theorem dX9_query_33 : decode cX9_query 33 = .ok (.aload_n 0, 1) := by decide +kernel
theorem dX9_query_34 : decode cX9_query 34 = .ok (.getfield 36, 3) := by decide +kernel
theorem dX9_query_37 : decode cX9_query 37 = .ok (.iload_n 1, 1) := by decide +kernel
theorem dX9_query_38 : decode cX9_query 38 = .ok (.invokevirtual 66, 3) := by decide +kernel
theorem dX9_query_41 : decode cX9_query 41 = .ok (.aload_n 0, 1) := by decide +kernel
theorem dX9_query_42 : decode cX9_query 42 = .ok (.getfield 36, 3) := by decide +kernel
theorem dX9_query_45 : decode cX9_query 45 = .ok (.ldc_w 305, 3) := by decide +kernel
theorem dX9_query_48 : decode cX9_query 48 = .ok (.invokevirtual 307, 3) := by decide +kernel
theorem dX9_query_51 : decode cX9_query 51 = .ok (.istore_n 2, 1) := by decide +kernel
theorem dX9_query_52 : decode cX9_query 52 = .ok (.aload_n 0, 1) := by decide +kernel
theorem dX9_query_53 : decode cX9_query 53 = .ok (.getfield 36, 3) := by decide +kernel
theorem dX9_query_56 : decode cX9_query 56 = .ok (.iload_n 2, 1) := by decide +kernel
theorem dX9_query_57 : decode cX9_query 57 = .ok (.ifCond .eq 9, 3) := by decide +kernel
theorem dX9_query_60 : decode cX9_query 60 = .ok (.ldc_w 305, 3) := by decide +kernel
theorem dX9_query_63 : decode cX9_query 63 = .ok (.goto 6, 3) := by decide +kernel
theorem dX9_query_66 : decode cX9_query 66 = .ok (.ldc_w 311, 3) := by decide +kernel
theorem dX9_query_69 : decode cX9_query 69 = .ok (.invokevirtual 313, 3) := by decide +kernel
theorem dX9_query_72 : decode cX9_query 72 = .ok (.aload_n 0, 1) := by decide +kernel
theorem dX9_query_73 : decode cX9_query 73 = .ok (.getfield 36, 3) := by decide +kernel
theorem dX9_query_76 : decode cX9_query 76 = .ok (.aload_n 0, 1) := by decide +kernel
theorem dX9_query_77 : decode cX9_query 77 = .ok (.getfield 12, 3) := by decide +kernel
theorem dX9_query_80 : decode cX9_query 80 = .ok (.iconst 0, 1) := by decide +kernel
theorem dX9_query_81 : decode cX9_query 81 = .ok (.invokestatic 316, 3) := by decide +kernel
theorem dX9_query_84 : decode cX9_query 84 = .ok (.lstore_n 3, 1) := by decide +kernel
theorem dX9_query_85 : decode cX9_query 85 = .ok (.aload_n 0, 1) := by decide +kernel
theorem dX9_query_86 : decode cX9_query 86 = .ok (.getfield 36, 3) := by decide +kernel
theorem dX9_query_89 : decode cX9_query 89 = .ok (.invokevirtual 322, 3) := by decide +kernel
theorem dX9_query_92 : decode cX9_query 92 = .ok (.aload_n 0, 1) := by decide +kernel
theorem dX9_query_93 : decode cX9_query 93 = .ok (.getfield 36, 3) := by decide +kernel
theorem dX9_query_96 : decode cX9_query 96 = .ok (.invokevirtual 74, 3) := by decide +kernel
theorem dX9_query_99 : decode cX9_query 99 = .ok (.ifCond .ne 15, 3) := by decide +kernel
theorem dX9_query_102 : decode cX9_query 102 = .ok (.ldc_w 325, 3) := by decide +kernel
theorem dX9_query_105 : decode cX9_query 105 = .ok (.aload_n 0, 1) := by decide +kernel
theorem dX9_query_106 : decode cX9_query 106 = .ok (.getfield 36, 3) := by decide +kernel
theorem dX9_query_109 : decode cX9_query 109 = .ok (.getfield 78, 3) := by decide +kernel
theorem dX9_query_112 : decode cX9_query 112 = .ok (.isub, 1) := by decide +kernel
theorem dX9_query_113 : decode cX9_query 113 = .ok (.ireturn, 1) := by decide +kernel
theorem dX9_query_114 : decode cX9_query 114 = .ok (.iload_n 2, 1) := by decide +kernel
theorem dX9_query_115 : decode cX9_query 115 = .ok (.ifCond .eq 8, 3) := by decide +kernel
theorem dX9_query_118 : decode cX9_query 118 = .ok (.lload_n 3, 1) := by decide +kernel
theorem dX9_query_119 : decode cX9_query 119 = .ok (.invokestatic 326, 3) := by decide +kernel
theorem dX9_query_122 : decode cX9_query 122 = .ok (.ireturn, 1) := by decide +kernel
theorem dX9_query_123 : decode cX9_query 123 = .ok (.lload_n 3, 1) := by decide +kernel
theorem dX9_query_124 : decode cX9_query 124 = .ok (.lconst 0, 1) := by decide +kernel
theorem dX9_query_125 : decode cX9_query 125 = .ok (.lcmp, 1) := by decide +kernel
theorem dX9_query_126 : decode cX9_query 126 = .ok (.ifCond .ne 7, 3) := by decide +kernel
theorem dX9_query_129 : decode cX9_query 129 = .ok (.iconst (-1), 1) := by decide +kernel
theorem dX9_query_130 : decode cX9_query 130 = .ok (.goto 7, 3) := by decide +kernel
theorem dX9_query_133 : decode cX9_query 133 = .ok (.lload_n 3, 1) := by decide +kernel
theorem dX9_query_134 : decode cX9_query 134 = .ok (.invokestatic 331, 3) := by decide +kernel
theorem dX9_query_137 : decode cX9_query 137 = .ok (.ireturn, 1) := by decide +kernel
def rm_X9_query : Room := { frames := 88, cells := 1, slots := 6, locals := 2146 }
def M_X9_query_69 (k : Nat) (x2 : Int32) (y1 : Nat) (S : VV × VV × VV × VV × VV × Int32) : Option (Int32 × Int32 × (VV × VV × VV × VV × VV × Int32)) := (M_X7_take k (S.2.2.2.1) y1).bind fun q1 => lt ((S.1, S.2.1, S.2.2.1, q1, S.2.2.2.2)) fun F2 => (M_X4_testT k (F2.2.2.2.1) (F2.1) (0 : Int32)).bind fun q3 => lt ((F2.1, F2.2.1, F2.2.2.1, q3.2, F2.2.2.2.2)) fun F4 => (M_X7_takeEnd k (F4.2.2.2.1)).bind fun q5 => lt ((F4.1, F4.2.1, F4.2.2.1, q5, F4.2.2.2.2)) fun F6 => (M_X7_isGood k (F6.2.2.2.1)).bind fun q7 => if q7 = 0 then (some ((0 : Int32), ((-1000000000 : Int32) - ((F6.2.2.2.1) 0 1)), F6)) else (if x2 = 0 then (if (lg_cmp q3.1 (0 : Int64)) = 0 then (some ((0 : Int32), (-1 : Int32), F6)) else ((M_J13_numberOfTrailingZeros_95d88 k q3.1).bind fun q11 => some ((0 : Int32), q11, F6))) else ((M_J13_bitCount_95d88 k q3.1).bind fun q12 => some ((0 : Int32), q12, F6)))
set_option maxRecDepth 100000 in
set_option maxHeartbeats 4000000 in
theorem N_X9_query_69 (C : CX E p l s m args meth c cX9_query 5 RX9 (some .int) A) (a : Nat → Nat) (k : Nat) {post : Int32 → va_W → Prop} {px : Int32 → va_W → Prop} (hlt : l.stackTraces = false) (hno : ∀ x ∈ c.exceptionTable.toList, False) (hdc : DC s) :
    ∀ (x2 : Int32) (y1 : Nat) (S : VV × VV × VV × VV × VV × Int32) (q : Int32 × Int32 × (VV × VV × VV × VV × VV × Int32)), y1 < 79 → M_X9_query_69 k x2 y1 S = some q → TI post px q.1 q.2.1 (wSg E a q.2.2) →
      WW E p l e rm_X9_query s m args below meth c A 0 0 (QXI E below post px args s rm_X9_query A) (wSg E a S) 5 [some (.ref (a 0)), none, some (.int x2), none, none] 69 [.ref (eS E y1), .ref (a 55)] := by
  intro x2 y1 S q hj_y1 h hq
  unfold M_X9_query_69 at h
  obtain ⟨q1, hq1, h⟩ := bnd h
  obtain ⟨F2, hF2, h⟩ := lt_e h
  refine r_callV_CV (Cn := RX7) (pc := 69) C [.ref (eS E y1)] (c_X7_take E l k (fun i => a (i + 55)) (S.2.2.2.1) y1 hj_y1 hq1) [55, 56, 57] (hp_X9_feed_0 E a S) (by decide) 0 rfl rfl rfl g_X9_313 hd_X7_take ⟨Nat.le_of_ble_eq_true rfl, Nat.le_of_ble_eq_true rfl⟩ ⟨Nat.zero_le _, Nat.zero_le _⟩ (Nat.le_of_ble_eq_true rfl) rfl dX9_query_69 (fun w1 hw1 => ?_)
  subst hw1
  refine ⟨(wSg E a F2), by rw [hF2]; exact (pw_X9_feed_0 E a S q1), ?_⟩
  refine r_aload_n (pc := 72) C (i := 0) dX9_query_72 rfl rfl ?_
  refine r_get (pc := 73) C gwX9 0 rfl rfl 5 (by decide) wm_2_20 rfl dX9_query_73 ?_
  refine r_aload_n (pc := 76) C (i := 0) dX9_query_76 rfl rfl ?_
  refine r_get (pc := 77) C gwX9 0 rfl rfl 0 (by decide) wm_2_15 rfl dX9_query_77 ?_
  refine r_iconst (pc := 80) C (v := 0) dX9_query_80 (by decide) ?_
  obtain ⟨q3, hq3, h⟩ := bnd h
  obtain ⟨F4, hF4, h⟩ := lt_e h
  refine r_callSN_CL (pc := 81) C [.ref (a 55), .ref (a 1), .int (0 : Int32)] (c_X4_testT E l k (fun i => a (i + 55)) (fun i => a (i + 1)) (F2.2.2.2.1) (F2.1) (0 : Int32) hq3) [55, 56, 57, 1, 2, 3, 4, 5, 6, 7, 8, 9, 10, 11, 12, 13, 14, 15, 16, 17, 18] (hp_X9_query_0 E a F2) (by decide) gn_X4_test wm_1_24 wm_5_107 (C.2.2.2.2.2.2.1.nest 8 rfl) hd_X4_test.2 ⟨Nat.le_of_ble_eq_true rfl, Nat.le_of_ble_eq_true rfl⟩ ⟨Nat.zero_le _, Nat.zero_le _⟩ (Nat.le_of_ble_eq_true rfl) rfl dX9_query_81 (fun r w1 hw1 => ?_)
  obtain ⟨hr1, hw1⟩ := hw1
  subst hr1 hw1
  refine ⟨(wSg E a F4), by rw [hF4]; exact (pw_X9_query_0 E a F2 q3.2), ?_⟩
  refine r_lstore_n (pc := 84) C (i := 3) dX9_query_84 rfl (by decide) rfl ?_
  refine r_aload_n (pc := 85) C (i := 0) dX9_query_85 rfl rfl ?_
  refine r_get (pc := 86) C gwX9 0 rfl rfl 5 (by decide) wm_2_20 rfl dX9_query_86 ?_
  obtain ⟨q5, hq5, h⟩ := bnd h
  obtain ⟨F6, hF6, h⟩ := lt_e h
  refine r_callV_CV (Cn := RX7) (pc := 89) C [] (c_X7_takeEnd E l k (fun i => a (i + 55)) (F4.2.2.2.1) hq5) [55, 56, 57] (hp_X9_feed_0 E a F4) (by decide) 0 rfl rfl rfl g_X9_322 hd_X7_takeEnd ⟨Nat.le_of_ble_eq_true rfl, Nat.le_of_ble_eq_true rfl⟩ ⟨Nat.zero_le _, Nat.zero_le _⟩ (Nat.le_of_ble_eq_true rfl) rfl dX9_query_89 (fun w1 hw1 => ?_)
  subst hw1
  refine ⟨(wSg E a F6), by rw [hF6]; exact (pw_X9_feed_0 E a F4 q5), ?_⟩
  refine r_aload_n (pc := 92) C (i := 0) dX9_query_92 rfl rfl ?_
  refine r_get (pc := 93) C gwX9 0 rfl rfl 5 (by decide) wm_2_20 rfl dX9_query_93 ?_
  obtain ⟨q7, hq7, h⟩ := bnd h
  refine r_callVp_CI (Cn := RX7) (pc := 96) C [] (c_X7_isGood E l k (fun i => a (i + 55)) (F6.2.2.2.1) hq7) [55, 56, 57] (hp_X9_feed_0 E a F6) (by decide) 0 rfl rfl rfl g_X9_74 hd_X7_isGood ⟨Nat.le_of_ble_eq_true rfl, Nat.le_of_ble_eq_true rfl⟩ ⟨Nat.zero_le _, Nat.zero_le _⟩ (Nat.le_of_ble_eq_true rfl) rfl dX9_query_96 (fun r hr => ?_)
  have hr := hr.symm
  subst hr
  refine r_if_ne (pc := 99) C (tgt := 114) dX9_query_99 rfl (fun c8 => ?_) (fun c8 => ?_)
  · rw [if_neg c8] at h
    refine r_iload_n (pc := 114) C (i := 2) dX9_query_114 rfl rfl ?_
    refine r_if_eq (pc := 115) C (tgt := 123) dX9_query_115 rfl (fun c9 => ?_) (fun c9 => ?_)
    · rw [if_pos c9] at h
      refine r_lload_n (pc := 123) C (i := 3) dX9_query_123 rfl rfl ?_
      refine r_lconst (pc := 124) C (v := 0) dX9_query_124 (by decide) ?_
      refine r_lcmp (pc := 125) C dX9_query_125 ?_
      refine r_if_ne (pc := 126) C (tgt := 133) dX9_query_126 rfl (fun c10 => ?_) (fun c10 => ?_)
      · rw [if_neg c10] at h
        refine r_lload_n (pc := 133) C (i := 3) dX9_query_133 rfl rfl ?_
        obtain ⟨q11, hq11, h⟩ := bnd h
        refine r_callSp_CI (pc := 134) C [.long q3.1] (c_J13_numberOfTrailingZeros_95d88 E l k q3.1 hq11) [] rfl (by decide) g_X9_331 hd_J13_numberOfTrailingZeros_95d88.2 ⟨Nat.le_of_ble_eq_true rfl, Nat.le_of_ble_eq_true rfl⟩ ⟨Nat.zero_le _, Nat.zero_le _⟩ (Nat.le_of_ble_eq_true rfl) rfl dX9_query_134 (fun r hr => ?_)
        have hr := hr.symm
        subst hr
        cases h
        exact r_xI (r_ireti (pc := 137) C (TI_0 hq) (Nat.zero_le _) (Nat.zero_le _) dX9_query_137)
      · rw [if_pos c10] at h
        refine r_iconst (pc := 129) C (v := (-1)) dX9_query_129 (by decide) ?_
        refine r_goto (pc := 130) C (tgt := 137) dX9_query_130 rfl ?_
        have h := Option.some.inj h
        subst h
        exact r_xI (r_ireti (pc := 137) C (TI_0 hq) (Nat.zero_le _) (Nat.zero_le _) dX9_query_137)
    · rw [if_neg c9] at h
      refine r_lload_n (pc := 118) C (i := 3) dX9_query_118 rfl rfl ?_
      obtain ⟨q12, hq12, h⟩ := bnd h
      refine r_callSp_CI (pc := 119) C [.long q3.1] (c_J13_bitCount_95d88 E l k q3.1 hq12) [] rfl (by decide) g_X9_326 hd_J13_bitCount_95d88.2 ⟨Nat.le_of_ble_eq_true rfl, Nat.le_of_ble_eq_true rfl⟩ ⟨Nat.zero_le _, Nat.zero_le _⟩ (Nat.le_of_ble_eq_true rfl) rfl dX9_query_119 (fun r hr => ?_)
      have hr := hr.symm
      subst hr
      cases h
      exact r_xI (r_ireti (pc := 122) C (TI_0 hq) (Nat.zero_le _) (Nat.zero_le _) dX9_query_122)
  · rw [if_pos c8] at h
    refine r_ldcw (pc := 102) C (v := (-1000000000)) wm_5_158 dX9_query_102 ?_
    refine r_aload_n (pc := 105) C (i := 0) dX9_query_105 rfl rfl ?_
    refine r_get (pc := 106) C gwX9 0 rfl rfl 5 (by decide) wm_2_20 rfl dX9_query_106 ?_
    refine r_get (pc := 109) C gwX7 55 rfl rfl 1 (by decide) wm_1_180 rfl dX9_query_109 ?_
    refine r_isub (pc := 112) C dX9_query_112 ?_
    have h := Option.some.inj h
    subst h
    exact r_xI (r_ireti (pc := 113) C (TI_0 hq) (Nat.zero_le _) (Nat.zero_le _) dX9_query_113)
def M_X9_query_0 (k : Nat) (p0 : Int32) (S : VV × VV × VV × VV × VV × Int32) : Option (Int32 × Int32 × (VV × VV × VV × VV × VV × Int32)) := if p0 < 0 then (some ((2 : Int32), (0 : Int32), S)) else (if (200 : Int32) < p0 then (some ((2 : Int32), (0 : Int32), S)) else (if p0 ≤ ((S.2.2.2.1) 0 0) then ((M_X7_begin k (S.2.2.2.1) p0).bind fun q16 => lt ((S.1, S.2.1, S.2.2.1, q16, S.2.2.2.2)) fun F17 => (M_X7_is k (F17.2.2.2.1) 35).bind fun q18 => if q18 = 0 then (M_X9_query_69 k q18 36 F17) else (M_X9_query_69 k q18 35 F17)) else (some ((2 : Int32), (0 : Int32), S))))
set_option maxRecDepth 100000 in
set_option maxHeartbeats 4000000 in
theorem N_X9_query_0 (C : CX E p l s m args meth c cX9_query 5 RX9 (some .int) A) (a : Nat → Nat) (k : Nat) {post : Int32 → va_W → Prop} {px : Int32 → va_W → Prop} (hlt : l.stackTraces = false) (hno : ∀ x ∈ c.exceptionTable.toList, False) (hdc : DC s) :
    ∀ (p0 : Int32) (S : VV × VV × VV × VV × VV × Int32) (q : Int32 × Int32 × (VV × VV × VV × VV × VV × Int32)), M_X9_query_0 k p0 S = some q → TI post px q.1 q.2.1 (wSg E a q.2.2) →
      WW E p l e rm_X9_query s m args below meth c A 0 0 (QXI E below post px args s rm_X9_query A) (wSg E a S) 5 [some (.ref (a 0)), some (.int p0), none, none, none] 0 [] := by
  intro p0 S q  h hq
  unfold M_X9_query_0 at h
  refine r_iload_n (pc := 0) C (i := 1) dX9_query_0 rfl rfl ?_
  refine r_if_lt (pc := 1) C (tgt := 22) dX9_query_1 rfl (fun c13 => ?_) (fun c13 => ?_)
  · rw [if_pos c13] at h
    cases h
    exact r_throwAW (pc := 22) C hlt hno hdc 34 rfl wm_2_186 wm_1_13 dX9_query_22 dX9_query_25 dX9_query_26 dX9_query_29 dX9_query_32 (Nat.le_of_ble_eq_true rfl) (Nat.le_of_ble_eq_true rfl) (Nat.le_of_ble_eq_true rfl) (Nat.le_of_ble_eq_true rfl) (Nat.le_of_ble_eq_true rfl) (TI_x (by decide) hq)
  · rw [if_neg c13] at h
    refine r_iload_n (pc := 4) C (i := 1) dX9_query_4 rfl rfl ?_
    refine r_sipush (pc := 5) C (v := 200) dX9_query_5 (by decide) ?_
    refine r_icmp_gt (pc := 8) C (tgt := 22) dX9_query_8 rfl (fun c14 => ?_) (fun c14 => ?_)
    · rw [if_pos c14] at h
      cases h
      exact r_throwAW (pc := 22) C hlt hno hdc 34 rfl wm_2_186 wm_1_13 dX9_query_22 dX9_query_25 dX9_query_26 dX9_query_29 dX9_query_32 (Nat.le_of_ble_eq_true rfl) (Nat.le_of_ble_eq_true rfl) (Nat.le_of_ble_eq_true rfl) (Nat.le_of_ble_eq_true rfl) (Nat.le_of_ble_eq_true rfl) (TI_x (by decide) hq)
    · rw [if_neg c14] at h
      refine r_iload_n (pc := 11) C (i := 1) dX9_query_11 rfl rfl ?_
      refine r_aload_n (pc := 12) C (i := 0) dX9_query_12 rfl rfl ?_
      refine r_get (pc := 13) C gwX9 0 rfl rfl 5 (by decide) wm_2_20 rfl dX9_query_13 ?_
      refine r_get (pc := 16) C gwX7 55 rfl rfl 0 (by decide) wm_1_178 rfl dX9_query_16 ?_
      refine r_icmp_le (pc := 19) C (tgt := 33) dX9_query_19 rfl (fun c15 => ?_) (fun c15 => ?_)
      · rw [if_pos c15] at h
        refine r_aload_n (pc := 33) C (i := 0) dX9_query_33 rfl rfl ?_
        refine r_get (pc := 34) C gwX9 0 rfl rfl 5 (by decide) wm_2_20 rfl dX9_query_34 ?_
        refine r_iload_n (pc := 37) C (i := 1) dX9_query_37 rfl rfl ?_
        obtain ⟨q16, hq16, h⟩ := bnd h
        obtain ⟨F17, hF17, h⟩ := lt_e h
        refine r_callV_CV (Cn := RX7) (pc := 38) C [.int p0] (c_X7_begin E l k (fun i => a (i + 55)) (S.2.2.2.1) p0 hq16) [55, 56, 57] (hp_X9_feed_0 E a S) (by decide) 0 rfl rfl rfl g_X9_66 hd_X7_begin ⟨Nat.le_of_ble_eq_true rfl, Nat.le_of_ble_eq_true rfl⟩ ⟨Nat.zero_le _, Nat.zero_le _⟩ (Nat.le_of_ble_eq_true rfl) rfl dX9_query_38 (fun w1 hw1 => ?_)
        subst hw1
        refine ⟨(wSg E a F17), by rw [hF17]; exact (pw_X9_feed_0 E a S q16), ?_⟩
        refine r_aload_n (pc := 41) C (i := 0) dX9_query_41 rfl rfl ?_
        refine r_get (pc := 42) C gwX9 0 rfl rfl 5 (by decide) wm_2_20 rfl dX9_query_42 ?_
        refine r_ldcwS (pc := 45) C 35 rfl dX9_query_45 ?_
        obtain ⟨q18, hq18, h⟩ := bnd h
        refine r_callVp_CI (Cn := RX7) (pc := 48) C [.ref (eS E 35)] (c_X7_is E l k (fun i => a (i + 55)) (F17.2.2.2.1) 35 (by decide) hq18) [55, 56, 57] (hp_X9_feed_0 E a F17) (by decide) 0 rfl rfl rfl g_X9_307 hd_X7_is ⟨Nat.le_of_ble_eq_true rfl, Nat.le_of_ble_eq_true rfl⟩ ⟨Nat.zero_le _, Nat.zero_le _⟩ (Nat.le_of_ble_eq_true rfl) rfl dX9_query_48 (fun r hr => ?_)
        have hr := hr.symm
        subst hr
        refine r_istore_n (pc := 51) C (i := 2) dX9_query_51 rfl (by decide) rfl ?_
        refine r_aload_n (pc := 52) C (i := 0) dX9_query_52 rfl rfl ?_
        refine r_get (pc := 53) C gwX9 0 rfl rfl 5 (by decide) wm_2_20 rfl dX9_query_53 ?_
        refine r_iload_n (pc := 56) C (i := 2) dX9_query_56 rfl rfl ?_
        refine r_if_eq (pc := 57) C (tgt := 66) dX9_query_57 rfl (fun c19 => ?_) (fun c19 => ?_)
        · rw [if_pos c19] at h
          refine r_ldcwS (pc := 66) C 36 rfl dX9_query_66 ?_
          refine r_weak (lSub_s (lSub_n (lSub_s (lSub_n (lSub_n lSub_e))))) ?_
          exact N_X9_query_69 C a k hlt hno hdc q18 36 F17 q (by decide) h hq
        · rw [if_neg c19] at h
          refine r_ldcwS (pc := 60) C 35 rfl dX9_query_60 ?_
          refine r_goto (pc := 63) C (tgt := 69) dX9_query_63 rfl ?_
          refine r_weak (lSub_s (lSub_n (lSub_s (lSub_n (lSub_n lSub_e))))) ?_
          exact N_X9_query_69 C a k hlt hno hdc q18 35 F17 q (by decide) h hq
      · rw [if_neg c15] at h
        cases h
        exact r_throwAW (pc := 22) C hlt hno hdc 34 rfl wm_2_186 wm_1_13 dX9_query_22 dX9_query_25 dX9_query_26 dX9_query_29 dX9_query_32 (Nat.le_of_ble_eq_true rfl) (Nat.le_of_ble_eq_true rfl) (Nat.le_of_ble_eq_true rfl) (Nat.le_of_ble_eq_true rfl) (Nat.le_of_ble_eq_true rfl) (TI_x (by decide) hq)
def M_X9_query (k : Nat) (S : VV × VV × VV × VV × VV × Int32) (p0 : Int32) : Option (Int32 × Int32 × (VV × VV × VV × VV × VV × Int32)) := M_X9_query_0 k p0 S
set_option maxRecDepth 100000 in
set_option maxHeartbeats 4000000 in
theorem c_X9_query (E : ENV) (l : Launch) (k : Nat) (a : Nat → Nat) (S : VV × VV × VV × VV × VV × Int32) (p0 : Int32) (hlt : l.stackTraces = false) {q : Int32 × Int32 × (VV × VV × VV × VV × VV × Int32)} (hm : M_X9_query k S p0 = some q) : XI E l yX9_query cX9_query 5 (some .int) rm_X9_query [.ref (a 0), .int p0] (wSg E a S) (fun r w' => q.1 = 0 ∧ r = q.2.1 ∧ w' = (wSg E a q.2.2)) (fun cd w' => cd = q.1 ∧ ¬ q.1 = 0 ∧ w' = (wSg E a q.2.2)) :=
  XI.of 3 (by decide) (Nat.le_of_ble_eq_true rfl) (fun p e s m below meth c A C hno hdc => r_weak (lSub_s (lSub_s (lSub_n (lSub_n (lSub_n lSub_e))))) (N_X9_query_0 C a k hlt hno hdc p0 S q  hm (TI_of rfl)))
-- ShardGuard.needWorker(I)V
theorem dX9_needWorker_0 : decode cX9_needWorker 0 = .ok (.iload_n 1, 1) := by decide +kernel
theorem dX9_needWorker_1 : decode cX9_needWorker 1 = .ok (.ifCond .lt 14, 3) := by decide +kernel
theorem dX9_needWorker_4 : decode cX9_needWorker 4 = .ok (.iload_n 1, 1) := by decide +kernel
theorem dX9_needWorker_5 : decode cX9_needWorker 5 = .ok (.aload_n 0, 1) := by decide +kernel
theorem dX9_needWorker_6 : decode cX9_needWorker 6 = .ok (.getfield 12, 3) := by decide +kernel
theorem dX9_needWorker_9 : decode cX9_needWorker 9 = .ok (.getfield 94, 3) := by decide +kernel
theorem dX9_needWorker_12 : decode cX9_needWorker 12 = .ok (.if_icmp .lt 14, 3) := by decide +kernel
theorem dX9_needWorker_15 : decode cX9_needWorker 15 = .ok (.new 134, 3) := by decide +kernel
theorem dX9_needWorker_18 : decode cX9_needWorker 18 = .ok (.dup, 1) := by decide +kernel
theorem dX9_needWorker_19 : decode cX9_needWorker 19 = .ok (.ldc_w 334, 3) := by decide +kernel
theorem dX9_needWorker_22 : decode cX9_needWorker 22 = .ok (.invokespecial 138, 3) := by decide +kernel
theorem dX9_needWorker_25 : decode cX9_needWorker 25 = .ok (.athrow, 1) := by decide +kernel
theorem dX9_needWorker_26 : decode cX9_needWorker 26 = .ok (.return_, 1) := by decide +kernel
def rm_X9_needWorker : Room := { frames := 6, cells := 1, slots := 6, locals := 100 }
def M_X9_needWorker_0 (k : Nat) (S : VV × VV × VV × VV × VV × Int32) (p0 : Int32) : Option (Int32) := if p0 < 0 then (some (1 : Int32)) else (if p0 < ((S.1) 0 0) then (some (0 : Int32)) else (some (1 : Int32)))
set_option maxRecDepth 100000 in
set_option maxHeartbeats 4000000 in
theorem N_X9_needWorker_0 (C : CX E p l s m args meth c cX9_needWorker 2 RX9 none A) (a : Nat → Nat) (k : Nat) (S : VV × VV × VV × VV × VV × Int32) {post : va_W → Prop} {px : Int32 → va_W → Prop} (hlt : l.stackTraces = false) (hno : ∀ x ∈ c.exceptionTable.toList, False) (hdc : DC s) :
    ∀ (p0 : Int32) (q : Int32), M_X9_needWorker_0 k S p0 = some q → TV post px q (wSg E a S) →
      WW E p l e rm_X9_needWorker s m args below meth c A 0 0 (QXV E below post px args s rm_X9_needWorker A) (wSg E a S) 2 [some (.ref (a 0)), some (.int p0)] 0 [] := by
  intro p0 q  h hq
  unfold M_X9_needWorker_0 at h
  refine r_iload_n (pc := 0) C (i := 1) dX9_needWorker_0 rfl rfl ?_
  refine r_if_lt (pc := 1) C (tgt := 15) dX9_needWorker_1 rfl (fun c1 => ?_) (fun c1 => ?_)
  · rw [if_pos c1] at h
    cases h
    exact r_throwNW (pc := 15) C hlt hno hdc 14 rfl wm_3_210 wm_1_23 dX9_needWorker_15 dX9_needWorker_18 dX9_needWorker_19 dX9_needWorker_22 dX9_needWorker_25 (Nat.le_of_ble_eq_true rfl) (Nat.le_of_ble_eq_true rfl) (Nat.le_of_ble_eq_true rfl) (Nat.le_of_ble_eq_true rfl) (Nat.le_of_ble_eq_true rfl) (TV_x (by decide) hq)
  · rw [if_neg c1] at h
    refine r_iload_n (pc := 4) C (i := 1) dX9_needWorker_4 rfl rfl ?_
    refine r_aload_n (pc := 5) C (i := 0) dX9_needWorker_5 rfl rfl ?_
    refine r_get (pc := 6) C gwX9 0 rfl rfl 0 (by decide) wm_2_15 rfl dX9_needWorker_6 ?_
    refine r_get (pc := 9) C gwX0 1 rfl rfl 0 (by decide) wm_1_93 rfl dX9_needWorker_9 ?_
    refine r_icmp_lt (pc := 12) C (tgt := 26) dX9_needWorker_12 rfl (fun c2 => ?_) (fun c2 => ?_)
    · rw [if_pos c2] at h
      cases h
      exact r_xV (r_vret (pc := 26) C (TV_0 hq) (Nat.zero_le _) (Nat.zero_le _) dX9_needWorker_26)
    · rw [if_neg c2] at h
      cases h
      exact r_throwNW (pc := 15) C hlt hno hdc 14 rfl wm_3_210 wm_1_23 dX9_needWorker_15 dX9_needWorker_18 dX9_needWorker_19 dX9_needWorker_22 dX9_needWorker_25 (Nat.le_of_ble_eq_true rfl) (Nat.le_of_ble_eq_true rfl) (Nat.le_of_ble_eq_true rfl) (Nat.le_of_ble_eq_true rfl) (Nat.le_of_ble_eq_true rfl) (TV_x (by decide) hq)
def M_X9_needWorker (k : Nat) (S : VV × VV × VV × VV × VV × Int32) (p0 : Int32) : Option (Int32) := M_X9_needWorker_0 k S p0
set_option maxRecDepth 100000 in
set_option maxHeartbeats 4000000 in
theorem c_X9_needWorker (E : ENV) (l : Launch) (k : Nat) (a : Nat → Nat) (S : VV × VV × VV × VV × VV × Int32) (p0 : Int32) (hlt : l.stackTraces = false) {q : Int32} (hm : M_X9_needWorker k S p0 = some q) : XV E l yX9_needWorker cX9_needWorker 2 none rm_X9_needWorker [.ref (a 0), .int p0] (wSg E a S) (fun w' => q = 0 ∧ w' = (wSg E a S)) (fun cd w' => cd = q ∧ ¬ q = 0 ∧ w' = (wSg E a S)) :=
  XV.of 0 (by decide) (Nat.le_of_ble_eq_true rfl) (fun p e s m below meth c A C hno hdc => r_weak (lSub_s (lSub_s lSub_e)) (N_X9_needWorker_0 C a k S hlt hno hdc p0 q  hm (TV_of rfl)))
-- ShardGuard.needTenant(I)V
theorem dX9_needTenant_0 : decode cX9_needTenant 0 = .ok (.iload_n 1, 1) := by decide +kernel
theorem dX9_needTenant_1 : decode cX9_needTenant 1 = .ok (.ifCond .lt 14, 3) := by decide +kernel
theorem dX9_needTenant_4 : decode cX9_needTenant 4 = .ok (.iload_n 1, 1) := by decide +kernel
theorem dX9_needTenant_5 : decode cX9_needTenant 5 = .ok (.aload_n 0, 1) := by decide +kernel
theorem dX9_needTenant_6 : decode cX9_needTenant 6 = .ok (.getfield 12, 3) := by decide +kernel
theorem dX9_needTenant_9 : decode cX9_needTenant 9 = .ok (.getfield 88, 3) := by decide +kernel
theorem dX9_needTenant_12 : decode cX9_needTenant 12 = .ok (.if_icmp .lt 14, 3) := by decide +kernel
theorem dX9_needTenant_15 : decode cX9_needTenant 15 = .ok (.new 134, 3) := by decide +kernel
theorem dX9_needTenant_18 : decode cX9_needTenant 18 = .ok (.dup, 1) := by decide +kernel
theorem dX9_needTenant_19 : decode cX9_needTenant 19 = .ok (.ldc_w 336, 3) := by decide +kernel
theorem dX9_needTenant_22 : decode cX9_needTenant 22 = .ok (.invokespecial 138, 3) := by decide +kernel
theorem dX9_needTenant_25 : decode cX9_needTenant 25 = .ok (.athrow, 1) := by decide +kernel
theorem dX9_needTenant_26 : decode cX9_needTenant 26 = .ok (.return_, 1) := by decide +kernel
def rm_X9_needTenant : Room := { frames := 6, cells := 1, slots := 6, locals := 100 }
def M_X9_needTenant_0 (k : Nat) (S : VV × VV × VV × VV × VV × Int32) (p0 : Int32) : Option (Int32) := if p0 < 0 then (some (1 : Int32)) else (if p0 < ((S.1) 0 2) then (some (0 : Int32)) else (some (1 : Int32)))
set_option maxRecDepth 100000 in
set_option maxHeartbeats 4000000 in
theorem N_X9_needTenant_0 (C : CX E p l s m args meth c cX9_needTenant 2 RX9 none A) (a : Nat → Nat) (k : Nat) (S : VV × VV × VV × VV × VV × Int32) {post : va_W → Prop} {px : Int32 → va_W → Prop} (hlt : l.stackTraces = false) (hno : ∀ x ∈ c.exceptionTable.toList, False) (hdc : DC s) :
    ∀ (p0 : Int32) (q : Int32), M_X9_needTenant_0 k S p0 = some q → TV post px q (wSg E a S) →
      WW E p l e rm_X9_needTenant s m args below meth c A 0 0 (QXV E below post px args s rm_X9_needTenant A) (wSg E a S) 2 [some (.ref (a 0)), some (.int p0)] 0 [] := by
  intro p0 q  h hq
  unfold M_X9_needTenant_0 at h
  refine r_iload_n (pc := 0) C (i := 1) dX9_needTenant_0 rfl rfl ?_
  refine r_if_lt (pc := 1) C (tgt := 15) dX9_needTenant_1 rfl (fun c1 => ?_) (fun c1 => ?_)
  · rw [if_pos c1] at h
    cases h
    exact r_throwNW (pc := 15) C hlt hno hdc 16 rfl wm_3_210 wm_1_23 dX9_needTenant_15 dX9_needTenant_18 dX9_needTenant_19 dX9_needTenant_22 dX9_needTenant_25 (Nat.le_of_ble_eq_true rfl) (Nat.le_of_ble_eq_true rfl) (Nat.le_of_ble_eq_true rfl) (Nat.le_of_ble_eq_true rfl) (Nat.le_of_ble_eq_true rfl) (TV_x (by decide) hq)
  · rw [if_neg c1] at h
    refine r_iload_n (pc := 4) C (i := 1) dX9_needTenant_4 rfl rfl ?_
    refine r_aload_n (pc := 5) C (i := 0) dX9_needTenant_5 rfl rfl ?_
    refine r_get (pc := 6) C gwX9 0 rfl rfl 0 (by decide) wm_2_15 rfl dX9_needTenant_6 ?_
    refine r_get (pc := 9) C gwX0 1 rfl rfl 2 (by decide) wm_1_99 rfl dX9_needTenant_9 ?_
    refine r_icmp_lt (pc := 12) C (tgt := 26) dX9_needTenant_12 rfl (fun c2 => ?_) (fun c2 => ?_)
    · rw [if_pos c2] at h
      cases h
      exact r_xV (r_vret (pc := 26) C (TV_0 hq) (Nat.zero_le _) (Nat.zero_le _) dX9_needTenant_26)
    · rw [if_neg c2] at h
      cases h
      exact r_throwNW (pc := 15) C hlt hno hdc 16 rfl wm_3_210 wm_1_23 dX9_needTenant_15 dX9_needTenant_18 dX9_needTenant_19 dX9_needTenant_22 dX9_needTenant_25 (Nat.le_of_ble_eq_true rfl) (Nat.le_of_ble_eq_true rfl) (Nat.le_of_ble_eq_true rfl) (Nat.le_of_ble_eq_true rfl) (Nat.le_of_ble_eq_true rfl) (TV_x (by decide) hq)
def M_X9_needTenant (k : Nat) (S : VV × VV × VV × VV × VV × Int32) (p0 : Int32) : Option (Int32) := M_X9_needTenant_0 k S p0
set_option maxRecDepth 100000 in
set_option maxHeartbeats 4000000 in
theorem c_X9_needTenant (E : ENV) (l : Launch) (k : Nat) (a : Nat → Nat) (S : VV × VV × VV × VV × VV × Int32) (p0 : Int32) (hlt : l.stackTraces = false) {q : Int32} (hm : M_X9_needTenant k S p0 = some q) : XV E l yX9_needTenant cX9_needTenant 2 none rm_X9_needTenant [.ref (a 0), .int p0] (wSg E a S) (fun w' => q = 0 ∧ w' = (wSg E a S)) (fun cd w' => cd = q ∧ ¬ q = 0 ∧ w' = (wSg E a S)) :=
  XV.of 0 (by decide) (Nat.le_of_ble_eq_true rfl) (fun p e s m below meth c A C hno hdc => r_weak (lSub_s (lSub_s lSub_e)) (N_X9_needTenant_0 C a k S hlt hno hdc p0 q  hm (TV_of rfl)))
end WALKS
