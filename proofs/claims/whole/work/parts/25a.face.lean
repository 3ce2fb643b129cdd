section WALKS
variable {E : ENV} {p : Program} {l : Launch} {e : Env} {s : State} {m : MethodId} {args : Array Value} {below : List Frame} {meth : Method} {c : Code} {A : Nat → Prop}
theorem hd_X7_append : yX7_append.cls = RX7 ∧ yX7_append.cls ≠ "java/lang/invoke/MethodHandle" ∧ yX7_append.cls ≠ "java/lang/invoke/VarHandle" ∧ (parseMethodDescriptor yX7_append.desc).map (fun d => d.parameters.length) = some 1 := by decide +kernel
theorem g_X9_55 : GoodIn GW (wsV RX9 55 RX7 yX7_append (wsG yX7_append cX7_append 3 none)) := gw_V wm_2_41 wm_2_42 wm_2_43 wm_1_7 wm_2_44
-- ShardGuard.feed(IIIII)I
set_option maxHeartbeats 8000000 in
theorem hp_X9_feed_0 (E : ENV) (a : Nat → Nat) (S : VV × VV × VV × VV × VV × Int32) : ([55, 56, 57] : List Nat).map (fun i => (wSg E a S)[i]?) = (wTk E (fun i => a (i + 55)) (S.2.2.2.1)).map some := (seg_mapL ([(a 0, .inr (7, [.ref (a 1), .ref (a 19), .ref (a 37), .int ((S.2.2.2.2.2)), .ref (a 61), .ref (a 55), .ref (a 58)]))] ++ (wFl E (fun i => a (i + 1)) (S.1) ++ (wFl E (fun i => a (i + 19)) (S.2.1) ++ (wFl E (fun i => a (i + 37)) (S.2.2.1))))) (wTk E (fun i => a (i + 55)) (S.2.2.2.1)) (wTx E (fun i => a (i + 58)) (S.2.2.2.2.1)) (by first | (simp only [wSg, List.append_assoc, List.nil_append, List.append_nil]; done) | (simp only [wSg, List.append_assoc, List.nil_append, List.append_nil]; rfl) | rfl) 3 rfl [55, 56, 57] (by first | (simp only [List.length_append, List.length_cons, List.length_nil, wFl_len, wTk_len, wTx_len]; rfl) | rfl))
set_option maxHeartbeats 8000000 in
theorem pw_X9_feed_0 (E : ENV) (a : Nat → Nat) (S : VV × VV × VV × VV × VV × Int32) (X0 : Nat → Nat → Int32) : putW (wSg E a S) [55, 56, 57] (wTk E (fun i => a (i + 55)) X0) = some (wSg E a (S.1, S.2.1, S.2.2.1, X0, S.2.2.2.2)) := seg_put1 ([(a 0, .inr (7, [.ref (a 1), .ref (a 19), .ref (a 37), .int ((S.2.2.2.2.2)), .ref (a 61), .ref (a 55), .ref (a 58)]))] ++ (wFl E (fun i => a (i + 1)) (S.1) ++ (wFl E (fun i => a (i + 19)) (S.2.1) ++ (wFl E (fun i => a (i + 37)) (S.2.2.1))))) (wTk E (fun i => a (i + 55)) (S.2.2.2.1)) (wTk E (fun i => a (i + 55)) X0) (wTx E (fun i => a (i + 58)) (S.2.2.2.2.1)) (by first | (simp only [wSg, List.append_assoc, List.nil_append, List.append_nil]; done) | (simp only [wSg, List.append_assoc, List.nil_append, List.append_nil]; rfl) | rfl) (by first | (simp only [wSg, List.append_assoc, List.nil_append, List.append_nil]; done) | (simp only [wSg, List.append_assoc, List.nil_append, List.append_nil]; rfl) | rfl) 3 rfl rfl [55, 56, 57] (by first | (simp only [List.length_append, List.length_cons, List.length_nil, wFl_len, wTk_len, wTx_len]; rfl) | rfl)
theorem dX9_feed_0 : decode cX9_feed 0 = .ok (.aload_n 0, 1) := by decide +kernel
theorem dX9_feed_1 : decode cX9_feed 1 = .ok (.getfield 36, 3) := by decide +kernel
theorem dX9_feed_4 : decode cX9_feed 4 = .ok (.getfield 51, 3) := by decide +kernel
theorem dX9_feed_7 : decode cX9_feed 7 = .ok (.bipush 20, 2) := by decide +kernel
theorem dX9_feed_9 : decode cX9_feed 9 = .ok (.iadd, 1) := by decide +kernel
theorem dX9_feed_10 : decode cX9_feed 10 = .ok (.sipush 700, 3) := by decide +kernel
theorem dX9_feed_13 : decode cX9_feed 13 = .ok (.if_icmp .le 5, 3) := by decide +kernel
theorem dX9_feed_16 : decode cX9_feed 16 = .ok (.iconst (-1), 1) := by decide +kernel
theorem dX9_feed_17 : decode cX9_feed 17 = .ok (.ireturn, 1) := by decide +kernel
theorem dX9_feed_18 : decode cX9_feed 18 = .ok (.aload_n 0, 1) := by decide +kernel
theorem dX9_feed_19 : decode cX9_feed 19 = .ok (.getfield 36, 3) := by decide +kernel
theorem dX9_feed_22 : decode cX9_feed 22 = .ok (.iload_n 1, 1) := by decide +kernel
theorem dX9_feed_23 : decode cX9_feed 23 = .ok (.invokevirtual 55, 3) := by decide +kernel
theorem dX9_feed_26 : decode cX9_feed 26 = .ok (.aload_n 0, 1) := by decide +kernel
theorem dX9_feed_27 : decode cX9_feed 27 = .ok (.getfield 36, 3) := by decide +kernel
theorem dX9_feed_30 : decode cX9_feed 30 = .ok (.iload_n 2, 1) := by decide +kernel
theorem dX9_feed_31 : decode cX9_feed 31 = .ok (.invokevirtual 55, 3) := by decide +kernel
theorem dX9_feed_34 : decode cX9_feed 34 = .ok (.aload_n 0, 1) := by decide +kernel
theorem dX9_feed_35 : decode cX9_feed 35 = .ok (.getfield 36, 3) := by decide +kernel
theorem dX9_feed_38 : decode cX9_feed 38 = .ok (.iload_n 3, 1) := by decide +kernel
theorem dX9_feed_39 : decode cX9_feed 39 = .ok (.invokevirtual 55, 3) := by decide +kernel
theorem dX9_feed_42 : decode cX9_feed 42 = .ok (.aload_n 0, 1) := by decide +kernel
theorem dX9_feed_43 : decode cX9_feed 43 = .ok (.getfield 36, 3) := by decide +kernel
theorem dX9_feed_46 : decode cX9_feed 46 = .ok (.iload 4, 2) := by decide +kernel
theorem dX9_feed_48 : decode cX9_feed 48 = .ok (.invokevirtual 55, 3) := by decide +kernel
theorem dX9_feed_51 : decode cX9_feed 51 = .ok (.aload_n 0, 1) := by decide +kernel
theorem dX9_feed_52 : decode cX9_feed 52 = .ok (.getfield 36, 3) := by decide +kernel
theorem dX9_feed_55 : decode cX9_feed 55 = .ok (.iload 5, 2) := by decide +kernel
theorem dX9_feed_57 : decode cX9_feed 57 = .ok (.invokevirtual 55, 3) := by decide +kernel
theorem dX9_feed_60 : decode cX9_feed 60 = .ok (.aload_n 0, 1) := by decide +kernel
theorem dX9_feed_61 : decode cX9_feed 61 = .ok (.getfield 36, 3) := by decide +kernel
theorem dX9_feed_64 : decode cX9_feed 64 = .ok (.getfield 51, 3) := by decide +kernel
theorem dX9_feed_67 : decode cX9_feed 67 = .ok (.ireturn, 1) := by decide +kernel
def rm_X9_feed : Room := { frames := 2, cells := 0, slots := 0, locals := 44 }
def M_X9_feed_0 (k : Nat) (p0 : Int32) (p1 : Int32) (p2 : Int32) (p3 : Int32) (p4 : Int32) (S : VV × VV × VV × VV × VV × Int32) : Option (Int32 × (VV × VV × VV × VV × VV × Int32)) := if (((S.2.2.2.1) 0 0) + (20 : Int32)) ≤ (700 : Int32) then ((M_X7_append k (S.2.2.2.1) p0).bind fun q2 => lt ((S.1, S.2.1, S.2.2.1, q2, S.2.2.2.2)) fun F3 => (M_X7_append k (F3.2.2.2.1) p1).bind fun q4 => lt ((F3.1, F3.2.1, F3.2.2.1, q4, F3.2.2.2.2)) fun F5 => (M_X7_append k (F5.2.2.2.1) p2).bind fun q6 => lt ((F5.1, F5.2.1, F5.2.2.1, q6, F5.2.2.2.2)) fun F7 => (M_X7_append k (F7.2.2.2.1) p3).bind fun q8 => lt ((F7.1, F7.2.1, F7.2.2.1, q8, F7.2.2.2.2)) fun F9 => (M_X7_append k (F9.2.2.2.1) p4).bind fun q10 => lt ((F9.1, F9.2.1, F9.2.2.1, q10, F9.2.2.2.2)) fun F11 => some (((F11.2.2.2.1) 0 0), F11)) else (some ((-1 : Int32), S))
set_option maxRecDepth 100000 in
set_option maxHeartbeats 4000000 in
theorem N_X9_feed_0 (C : CX E p l s m args meth c cX9_feed 6 RX9 (some .int) A) (a : Nat → Nat) (k : Nat) {post : Int32 → va_W → Prop} :
    ∀ (p0 : Int32) (p1 : Int32) (p2 : Int32) (p3 : Int32) (p4 : Int32) (S : VV × VV × VV × VV × VV × Int32) (q : Int32 × (VV × VV × VV × VV × VV × Int32)), M_X9_feed_0 k p0 p1 p2 p3 p4 S = some q → post q.1 (wSg E a q.2) →
      WW E p l e rm_X9_feed s m args below meth c A 0 0 (QI E below post args s rm_X9_feed A) (wSg E a S) 6 [some (.ref (a 0)), some (.int p0), some (.int p1), some (.int p2), some (.int p3), some (.int p4)] 0 [] := by
  intro p0 p1 p2 p3 p4 S q  h hq
  unfold M_X9_feed_0 at h
  refine r_aload_n (pc := 0) C (i := 0) dX9_feed_0 rfl rfl ?_
  refine r_get (pc := 1) C gwX9 0 rfl rfl 5 (by decide) wm_2_20 rfl dX9_feed_1 ?_
  refine r_get (pc := 4) C gwX7 55 rfl rfl 0 (by decide) wm_1_178 rfl dX9_feed_4 ?_
  refine r_bipush (pc := 7) C (v := 20) dX9_feed_7 (by decide) ?_
  refine r_iadd (pc := 9) C dX9_feed_9 ?_
  refine r_sipush (pc := 10) C (v := 700) dX9_feed_10 (by decide) ?_
  refine r_icmp_le (pc := 13) C (tgt := 18) dX9_feed_13 rfl (fun c1 => ?_) (fun c1 => ?_)
  · rw [if_pos c1] at h
    refine r_aload_n (pc := 18) C (i := 0) dX9_feed_18 rfl rfl ?_
    refine r_get (pc := 19) C gwX9 0 rfl rfl 5 (by decide) wm_2_20 rfl dX9_feed_19 ?_
    refine r_iload_n (pc := 22) C (i := 1) dX9_feed_22 rfl rfl ?_
    obtain ⟨q2, hq2, h⟩ := bnd h
    obtain ⟨F3, hF3, h⟩ := lt_e h
    refine r_callV_CV (Cn := RX7) (pc := 23) C [.int p0] (c_X7_append E l k (fun i => a (i + 55)) (S.2.2.2.1) p0 hq2) [55, 56, 57] (hp_X9_feed_0 E a S) (by decide) 0 rfl rfl rfl g_X9_55 hd_X7_append ⟨Nat.le_of_ble_eq_true rfl, Nat.le_of_ble_eq_true rfl⟩ ⟨Nat.zero_le _, Nat.zero_le _⟩ (Nat.le_of_ble_eq_true rfl) rfl dX9_feed_23 (fun w1 hw1 => ?_)
    subst hw1
    refine ⟨(wSg E a F3), by rw [hF3]; exact (pw_X9_feed_0 E a S q2), ?_⟩
    refine r_aload_n (pc := 26) C (i := 0) dX9_feed_26 rfl rfl ?_
    refine r_get (pc := 27) C gwX9 0 rfl rfl 5 (by decide) wm_2_20 rfl dX9_feed_27 ?_
    refine r_iload_n (pc := 30) C (i := 2) dX9_feed_30 rfl rfl ?_
    obtain ⟨q4, hq4, h⟩ := bnd h
    obtain ⟨F5, hF5, h⟩ := lt_e h
    refine r_callV_CV (Cn := RX7) (pc := 31) C [.int p1] (c_X7_append E l k (fun i => a (i + 55)) (F3.2.2.2.1) p1 hq4) [55, 56, 57] (hp_X9_feed_0 E a F3) (by decide) 0 rfl rfl rfl g_X9_55 hd_X7_append ⟨Nat.le_of_ble_eq_true rfl, Nat.le_of_ble_eq_true rfl⟩ ⟨Nat.zero_le _, Nat.zero_le _⟩ (Nat.le_of_ble_eq_true rfl) rfl dX9_feed_31 (fun w1 hw1 => ?_)
    subst hw1
    refine ⟨(wSg E a F5), by rw [hF5]; exact (pw_X9_feed_0 E a F3 q4), ?_⟩
    refine r_aload_n (pc := 34) C (i := 0) dX9_feed_34 rfl rfl ?_
    refine r_get (pc := 35) C gwX9 0 rfl rfl 5 (by decide) wm_2_20 rfl dX9_feed_35 ?_
    refine r_iload_n (pc := 38) C (i := 3) dX9_feed_38 rfl rfl ?_
    obtain ⟨q6, hq6, h⟩ := bnd h
    obtain ⟨F7, hF7, h⟩ := lt_e h
    refine r_callV_CV (Cn := RX7) (pc := 39) C [.int p2] (c_X7_append E l k (fun i => a (i + 55)) (F5.2.2.2.1) p2 hq6) [55, 56, 57] (hp_X9_feed_0 E a F5) (by decide) 0 rfl rfl rfl g_X9_55 hd_X7_append ⟨Nat.le_of_ble_eq_true rfl, Nat.le_of_ble_eq_true rfl⟩ ⟨Nat.zero_le _, Nat.zero_le _⟩ (Nat.le_of_ble_eq_true rfl) rfl dX9_feed_39 (fun w1 hw1 => ?_)
    subst hw1
    refine ⟨(wSg E a F7), by rw [hF7]; exact (pw_X9_feed_0 E a F5 q6), ?_⟩
    refine r_aload_n (pc := 42) C (i := 0) dX9_feed_42 rfl rfl ?_
    refine r_get (pc := 43) C gwX9 0 rfl rfl 5 (by decide) wm_2_20 rfl dX9_feed_43 ?_
    refine r_iload (pc := 46) C (i := 4) dX9_feed_46 rfl ?_
    obtain ⟨q8, hq8, h⟩ := bnd h
    obtain ⟨F9, hF9, h⟩ := lt_e h
    refine r_callV_CV (Cn := RX7) (pc := 48) C [.int p3] (c_X7_append E l k (fun i => a (i + 55)) (F7.2.2.2.1) p3 hq8) [55, 56, 57] (hp_X9_feed_0 E a F7) (by decide) 0 rfl rfl rfl g_X9_55 hd_X7_append ⟨Nat.le_of_ble_eq_true rfl, Nat.le_of_ble_eq_true rfl⟩ ⟨Nat.zero_le _, Nat.zero_le _⟩ (Nat.le_of_ble_eq_true rfl) rfl dX9_feed_48 (fun w1 hw1 => ?_)
    subst hw1
    refine ⟨(wSg E a F9), by rw [hF9]; exact (pw_X9_feed_0 E a F7 q8), ?_⟩
    refine r_aload_n (pc := 51) C (i := 0) dX9_feed_51 rfl rfl ?_
    refine r_get (pc := 52) C gwX9 0 rfl rfl 5 (by decide) wm_2_20 rfl dX9_feed_52 ?_
    refine r_iload (pc := 55) C (i := 5) dX9_feed_55 rfl ?_
    obtain ⟨q10, hq10, h⟩ := bnd h
    obtain ⟨F11, hF11, h⟩ := lt_e h
    refine r_callV_CV (Cn := RX7) (pc := 57) C [.int p4] (c_X7_append E l k (fun i => a (i + 55)) (F9.2.2.2.1) p4 hq10) [55, 56, 57] (hp_X9_feed_0 E a F9) (by decide) 0 rfl rfl rfl g_X9_55 hd_X7_append ⟨Nat.le_of_ble_eq_true rfl, Nat.le_of_ble_eq_true rfl⟩ ⟨Nat.zero_le _, Nat.zero_le _⟩ (Nat.le_of_ble_eq_true rfl) rfl dX9_feed_57 (fun w1 hw1 => ?_)
    subst hw1
    refine ⟨(wSg E a F11), by rw [hF11]; exact (pw_X9_feed_0 E a F9 q10), ?_⟩
    refine r_aload_n (pc := 60) C (i := 0) dX9_feed_60 rfl rfl ?_
    refine r_get (pc := 61) C gwX9 0 rfl rfl 5 (by decide) wm_2_20 rfl dX9_feed_61 ?_
    refine r_get (pc := 64) C gwX7 55 rfl rfl 0 (by decide) wm_1_178 rfl dX9_feed_64 ?_
    cases h
    exact r_ireti (pc := 67) C hq (Nat.zero_le _) (Nat.zero_le _) dX9_feed_67
  · rw [if_neg c1] at h
    refine r_iconst (pc := 16) C (v := (-1)) dX9_feed_16 (by decide) ?_
    have h := Option.some.inj h
    subst h
    exact r_ireti (pc := 17) C hq (Nat.zero_le _) (Nat.zero_le _) dX9_feed_17
def M_X9_feed (k : Nat) (S : VV × VV × VV × VV × VV × Int32) (p0 : Int32) (p1 : Int32) (p2 : Int32) (p3 : Int32) (p4 : Int32) : Option (Int32 × (VV × VV × VV × VV × VV × Int32)) := M_X9_feed_0 k p0 p1 p2 p3 p4 S
set_option maxRecDepth 100000 in
set_option maxHeartbeats 4000000 in
theorem c_X9_feed (E : ENV) (l : Launch) (k : Nat) (a : Nat → Nat) (S : VV × VV × VV × VV × VV × Int32) (p0 : Int32) (p1 : Int32) (p2 : Int32) (p3 : Int32) (p4 : Int32) {q : Int32 × (VV × VV × VV × VV × VV × Int32)} (hm : M_X9_feed k S p0 p1 p2 p3 p4 = some q) : CI E l yX9_feed cX9_feed 6 (some .int) rm_X9_feed [.ref (a 0), .int p0, .int p1, .int p2, .int p3, .int p4] (wSg E a S) (fun r w' => r = q.1 ∧ w' = (wSg E a q.2)) :=
  CI.of 0 (by decide) (Nat.le_of_ble_eq_true rfl) (fun p e s m below meth c A C _ => r_weak (lSub_s (lSub_s (lSub_s (lSub_s (lSub_s (lSub_s lSub_e)))))) (N_X9_feed_0 C a k p0 p1 p2 p3 p4 S q  hm ⟨rfl, rfl⟩))
theorem hd_X7_begin : yX7_begin.cls = RX7 ∧ yX7_begin.cls ≠ "java/lang/invoke/MethodHandle" ∧ yX7_begin.cls ≠ "java/lang/invoke/VarHandle" ∧ (parseMethodDescriptor yX7_begin.desc).map (fun d => d.parameters.length) = some 1 := by decide +kernel
theorem g_X9_66 : GoodIn GW (wsV RX9 66 RX7 yX7_begin (wsG yX7_begin cX7_begin 2 none)) := gw_V wm_3_13 wm_3_14 wm_3_15 wm_1_7 wm_3_16
theorem hd_X1_read : yX1_read.cls = RX1 ∧ yX1_read.cls ≠ "java/lang/invoke/MethodHandle" ∧ yX1_read.cls ≠ "java/lang/invoke/VarHandle" ∧ (parseMethodDescriptor yX1_read.desc).map (fun d => d.parameters.length) = some 2 := by decide +kernel
theorem g_X9_68 : GoodIn GW (va_wsS RX9 68 yX1_read (wsG yX1_read cX1_read 2 none)) := gw_S wm_3_30 wm_3_31 wm_1_15 wm_3_32
theorem g_X9_74 : GoodIn GW (wsV RX9 74 RX7 yX7_isGood (wsG yX7_isGood cX7_isGood 1 (some .boolean))) := gw_V wm_3_184 wm_3_46 wm_3_47 wm_1_7 wm_3_48
theorem g_X9_81 : GoodIn GW (wsV RX9 81 RX0 yX0_copyFrom (wsG yX0_copyFrom cX0_copyFrom 2 none)) := gw_V wm_2_92 wm_2_93 wm_2_94 wm_1_2 wm_2_95
theorem hd_X2_clear : yX2_clear.cls = RX2 ∧ yX2_clear.cls ≠ "java/lang/invoke/MethodHandle" ∧ yX2_clear.cls ≠ "java/lang/invoke/VarHandle" ∧ (parseMethodDescriptor yX2_clear.desc).map (fun d => d.parameters.length) = some 0 := by decide +kernel
theorem g_X9_85 : GoodIn GW (wsV RX9 85 RX2 yX2_clear (wsG yX2_clear cX2_clear 1 none)) := gw_V wm_2_174 wm_2_175 wm_2_176 wm_1_6 wm_2_177
-- ShardGuard.load(I)I
set_option maxHeartbeats 8000000 in
theorem hp_X9_load_0 (E : ENV) (a : Nat → Nat) (fa : Nat → Nat → Nat) (S : VV × VV × VV × VV × VV × Int32) (T : Nat × Int32 × Int32 × (Nat → VV)) : ([55, 56, 57] : List Nat).map (fun i => ((wSg E a S) ++ hiC E a fa T)[i]?) = (wTk E (fun i => a (i + 55)) (S.2.2.2.1)).map some := (seg_mapL ([(a 0, .inr (7, [.ref (a 1), .ref (a 19), .ref (a 37), .int ((S.2.2.2.2.2)), .ref (a 61), .ref (a 55), .ref (a 58)]))] ++ (wFl E (fun i => a (i + 1)) (S.1) ++ (wFl E (fun i => a (i + 19)) (S.2.1) ++ (wFl E (fun i => a (i + 37)) (S.2.2.1))))) (wTk E (fun i => a (i + 55)) (S.2.2.2.1)) (wTx E (fun i => a (i + 58)) (S.2.2.2.2.1) ++ (hiC E a fa T)) (by first | (simp only [wSg, List.append_assoc, List.nil_append, List.append_nil]; done) | (simp only [wSg, List.append_assoc, List.nil_append, List.append_nil]; rfl) | rfl) 3 rfl [55, 56, 57] (by first | (simp only [List.length_append, List.length_cons, List.length_nil, wFl_len, wTk_len, wTx_len]; rfl) | rfl))
set_option maxHeartbeats 8000000 in
theorem pw_X9_load_0 (E : ENV) (a : Nat → Nat) (fa : Nat → Nat → Nat) (S : VV × VV × VV × VV × VV × Int32) (T : Nat × Int32 × Int32 × (Nat → VV)) (X0 : Nat → Nat → Int32) : putW ((wSg E a S) ++ hiC E a fa T) [55, 56, 57] (wTk E (fun i => a (i + 55)) X0) = some ((wSg E a (S.1, S.2.1, S.2.2.1, X0, S.2.2.2.2)) ++ hiC E a fa T) := seg_put1 ([(a 0, .inr (7, [.ref (a 1), .ref (a 19), .ref (a 37), .int ((S.2.2.2.2.2)), .ref (a 61), .ref (a 55), .ref (a 58)]))] ++ (wFl E (fun i => a (i + 1)) (S.1) ++ (wFl E (fun i => a (i + 19)) (S.2.1) ++ (wFl E (fun i => a (i + 37)) (S.2.2.1))))) (wTk E (fun i => a (i + 55)) (S.2.2.2.1)) (wTk E (fun i => a (i + 55)) X0) (wTx E (fun i => a (i + 58)) (S.2.2.2.2.1) ++ (hiC E a fa T)) (by first | (simp only [wSg, List.append_assoc, List.nil_append, List.append_nil]; done) | (simp only [wSg, List.append_assoc, List.nil_append, List.append_nil]; rfl) | rfl) (by first | (simp only [wSg, List.append_assoc, List.nil_append, List.append_nil]; done) | (simp only [wSg, List.append_assoc, List.nil_append, List.append_nil]; rfl) | rfl) 3 rfl rfl [55, 56, 57] (by first | (simp only [List.length_append, List.length_cons, List.length_nil, wFl_len, wTk_len, wTx_len]; rfl) | rfl)
set_option maxHeartbeats 8000000 in
theorem hp_X9_load_1 (E : ENV) (a : Nat → Nat) (fa : Nat → Nat → Nat) (S : VV × VV × VV × VV × VV × Int32) (T : Nat × Int32 × Int32 × (Nat → VV)) : ([55, 56, 57, 19, 20, 21, 22, 23, 24, 25, 26, 27, 28, 29, 30, 31, 32, 33, 34, 35, 36] : List Nat).map (fun i => ((wSg E a S) ++ hiC E a fa T)[i]?) = (wTk E (fun i => a (i + 55)) (S.2.2.2.1) ++ wFl E (fun i => a (i + 19)) (S.2.1)).map some := (seg_map2 (seg_mapL ([(a 0, .inr (7, [.ref (a 1), .ref (a 19), .ref (a 37), .int ((S.2.2.2.2.2)), .ref (a 61), .ref (a 55), .ref (a 58)]))] ++ (wFl E (fun i => a (i + 1)) (S.1) ++ (wFl E (fun i => a (i + 19)) (S.2.1) ++ (wFl E (fun i => a (i + 37)) (S.2.2.1))))) (wTk E (fun i => a (i + 55)) (S.2.2.2.1)) (wTx E (fun i => a (i + 58)) (S.2.2.2.2.1) ++ (hiC E a fa T)) (by first | (simp only [wSg, List.append_assoc, List.nil_append, List.append_nil]; done) | (simp only [wSg, List.append_assoc, List.nil_append, List.append_nil]; rfl) | rfl) 3 rfl [55, 56, 57] (by first | (simp only [List.length_append, List.length_cons, List.length_nil, wFl_len, wTk_len, wTx_len]; rfl) | rfl)) (seg_mapL ([(a 0, .inr (7, [.ref (a 1), .ref (a 19), .ref (a 37), .int ((S.2.2.2.2.2)), .ref (a 61), .ref (a 55), .ref (a 58)]))] ++ (wFl E (fun i => a (i + 1)) (S.1))) (wFl E (fun i => a (i + 19)) (S.2.1)) (wFl E (fun i => a (i + 37)) (S.2.2.1) ++ (wTk E (fun i => a (i + 55)) (S.2.2.2.1) ++ (wTx E (fun i => a (i + 58)) (S.2.2.2.2.1) ++ (hiC E a fa T)))) (by first | (simp only [wSg, List.append_assoc, List.nil_append, List.append_nil]; done) | (simp only [wSg, List.append_assoc, List.nil_append, List.append_nil]; rfl) | rfl) 18 rfl [19, 20, 21, 22, 23, 24, 25, 26, 27, 28, 29, 30, 31, 32, 33, 34, 35, 36] (by first | (simp only [List.length_append, List.length_cons, List.length_nil, wFl_len, wTk_len, wTx_len]; rfl) | rfl)))
set_option maxHeartbeats 8000000 in
theorem pw_X9_load_1 (E : ENV) (a : Nat → Nat) (fa : Nat → Nat → Nat) (S : VV × VV × VV × VV × VV × Int32) (T : Nat × Int32 × Int32 × (Nat → VV)) (X0 : Nat → Nat → Int32) (X1 : Nat → Nat → Int32) : putW ((wSg E a S) ++ hiC E a fa T) [55, 56, 57, 19, 20, 21, 22, 23, 24, 25, 26, 27, 28, 29, 30, 31, 32, 33, 34, 35, 36] (wTk E (fun i => a (i + 55)) X0 ++ wFl E (fun i => a (i + 19)) X1) = some ((wSg E a ((S.1, S.2.1, S.2.2.1, X0, S.2.2.2.2).1, X1, (S.1, S.2.1, S.2.2.1, X0, S.2.2.2.2).2.2)) ++ hiC E a fa T) := seg_put2 ([(a 0, .inr (7, [.ref (a 1), .ref (a 19), .ref (a 37), .int ((S.2.2.2.2.2)), .ref (a 61), .ref (a 55), .ref (a 58)]))] ++ (wFl E (fun i => a (i + 1)) (S.1) ++ (wFl E (fun i => a (i + 19)) (S.2.1) ++ (wFl E (fun i => a (i + 37)) (S.2.2.1))))) (wTk E (fun i => a (i + 55)) (S.2.2.2.1)) (wTk E (fun i => a (i + 55)) X0) (wTx E (fun i => a (i + 58)) (S.2.2.2.2.1) ++ (hiC E a fa T)) (by first | (simp only [wSg, List.append_assoc, List.nil_append, List.append_nil]; done) | (simp only [wSg, List.append_assoc, List.nil_append, List.append_nil]; rfl) | rfl) 3 rfl rfl [55, 56, 57] (by first | (simp only [List.length_append, List.length_cons, List.length_nil, wFl_len, wTk_len, wTx_len]; rfl) | rfl) (seg_put1 (([(a 0, .inr (7, [.ref (a 1), .ref (a 19), .ref (a 37), .int ((S.2.2.2.2.2)), .ref (a 61), .ref (a 55), .ref (a 58)]))] ++ (wFl E (fun i => a (i + 1)) (S.1)))) (wFl E (fun i => a (i + 19)) (S.2.1)) (wFl E (fun i => a (i + 19)) X1) ((wFl E (fun i => a (i + 37)) (S.2.2.1)) ++ (wTk E (fun i => a (i + 55)) X0) ++ (wTx E (fun i => a (i + 58)) (S.2.2.2.2.1) ++ (hiC E a fa T))) (by first | (simp only [wSg, List.append_assoc, List.nil_append, List.append_nil]; done) | (simp only [wSg, List.append_assoc, List.nil_append, List.append_nil]; rfl) | rfl) (by first | (simp only [wSg, List.append_assoc, List.nil_append, List.append_nil]; done) | (simp only [wSg, List.append_assoc, List.nil_append, List.append_nil]; rfl) | rfl) 18 rfl rfl [19, 20, 21, 22, 23, 24, 25, 26, 27, 28, 29, 30, 31, 32, 33, 34, 35, 36] (by first | (simp only [List.length_append, List.length_cons, List.length_nil, wFl_len, wTk_len, wTx_len]; rfl) | rfl))
set_option maxHeartbeats 8000000 in
theorem hp_X9_load_2 (E : ENV) (a : Nat → Nat) (fa : Nat → Nat → Nat) (S : VV × VV × VV × VV × VV × Int32) (T : Nat × Int32 × Int32 × (Nat → VV)) : ([1, 2, 3, 4, 5, 6, 7, 8, 9, 10, 11, 12, 13, 14, 15, 16, 17, 18, 19, 20, 21, 22, 23, 24, 25, 26, 27, 28, 29, 30, 31, 32, 33, 34, 35, 36] : List Nat).map (fun i => ((wSg E a S) ++ hiC E a fa T)[i]?) = (wFl E (fun i => a (i + 1)) (S.1) ++ wFl E (fun i => a (i + 19)) (S.2.1)).map some := (seg_map2 (seg_mapL ([(a 0, .inr (7, [.ref (a 1), .ref (a 19), .ref (a 37), .int ((S.2.2.2.2.2)), .ref (a 61), .ref (a 55), .ref (a 58)]))]) (wFl E (fun i => a (i + 1)) (S.1)) (wFl E (fun i => a (i + 19)) (S.2.1) ++ (wFl E (fun i => a (i + 37)) (S.2.2.1) ++ (wTk E (fun i => a (i + 55)) (S.2.2.2.1) ++ (wTx E (fun i => a (i + 58)) (S.2.2.2.2.1) ++ (hiC E a fa T))))) (by first | (simp only [wSg, List.append_assoc, List.nil_append, List.append_nil]; done) | (simp only [wSg, List.append_assoc, List.nil_append, List.append_nil]; rfl) | rfl) 18 rfl [1, 2, 3, 4, 5, 6, 7, 8, 9, 10, 11, 12, 13, 14, 15, 16, 17, 18] (by first | (simp only [List.length_append, List.length_cons, List.length_nil, wFl_len, wTk_len, wTx_len]; rfl) | rfl)) (seg_mapL ([(a 0, .inr (7, [.ref (a 1), .ref (a 19), .ref (a 37), .int ((S.2.2.2.2.2)), .ref (a 61), .ref (a 55), .ref (a 58)]))] ++ (wFl E (fun i => a (i + 1)) (S.1))) (wFl E (fun i => a (i + 19)) (S.2.1)) (wFl E (fun i => a (i + 37)) (S.2.2.1) ++ (wTk E (fun i => a (i + 55)) (S.2.2.2.1) ++ (wTx E (fun i => a (i + 58)) (S.2.2.2.2.1) ++ (hiC E a fa T)))) (by first | (simp only [wSg, List.append_assoc, List.nil_append, List.append_nil]; done) | (simp only [wSg, List.append_assoc, List.nil_append, List.append_nil]; rfl) | rfl) 18 rfl [19, 20, 21, 22, 23, 24, 25, 26, 27, 28, 29, 30, 31, 32, 33, 34, 35, 36] (by first | (simp only [List.length_append, List.length_cons, List.length_nil, wFl_len, wTk_len, wTx_len]; rfl) | rfl)))
set_option maxHeartbeats 8000000 in
theorem pw_X9_load_2 (E : ENV) (a : Nat → Nat) (fa : Nat → Nat → Nat) (S : VV × VV × VV × VV × VV × Int32) (T : Nat × Int32 × Int32 × (Nat → VV)) (X0 : Nat → Nat → Int32) : putW ((wSg E a S) ++ hiC E a fa T) [1, 2, 3, 4, 5, 6, 7, 8, 9, 10, 11, 12, 13, 14, 15, 16, 17, 18, 19, 20, 21, 22, 23, 24, 25, 26, 27, 28, 29, 30, 31, 32, 33, 34, 35, 36] (wFl E (fun i => a (i + 1)) X0 ++ wFl E (fun i => a (i + 19)) (S.2.1)) = some ((wSg E a (X0, S.2)) ++ hiC E a fa T) := seg_put2 ([(a 0, .inr (7, [.ref (a 1), .ref (a 19), .ref (a 37), .int ((S.2.2.2.2.2)), .ref (a 61), .ref (a 55), .ref (a 58)]))]) (wFl E (fun i => a (i + 1)) (S.1)) (wFl E (fun i => a (i + 1)) X0) (wFl E (fun i => a (i + 19)) (S.2.1) ++ (wFl E (fun i => a (i + 37)) (S.2.2.1) ++ (wTk E (fun i => a (i + 55)) (S.2.2.2.1) ++ (wTx E (fun i => a (i + 58)) (S.2.2.2.2.1) ++ (hiC E a fa T))))) (by first | (simp only [wSg, List.append_assoc, List.nil_append, List.append_nil]; done) | (simp only [wSg, List.append_assoc, List.nil_append, List.append_nil]; rfl) | rfl) 18 rfl rfl [1, 2, 3, 4, 5, 6, 7, 8, 9, 10, 11, 12, 13, 14, 15, 16, 17, 18] (by first | (simp only [List.length_append, List.length_cons, List.length_nil, wFl_len, wTk_len, wTx_len]; rfl) | rfl) (seg_put1 (([(a 0, .inr (7, [.ref (a 1), .ref (a 19), .ref (a 37), .int ((S.2.2.2.2.2)), .ref (a 61), .ref (a 55), .ref (a 58)]))]) ++ (wFl E (fun i => a (i + 1)) X0)) (wFl E (fun i => a (i + 19)) (S.2.1)) (wFl E (fun i => a (i + 19)) (S.2.1)) ((wFl E (fun i => a (i + 37)) (S.2.2.1) ++ (wTk E (fun i => a (i + 55)) (S.2.2.2.1) ++ (wTx E (fun i => a (i + 58)) (S.2.2.2.2.1) ++ (hiC E a fa T))))) (by first | (simp only [wSg, List.append_assoc, List.nil_append, List.append_nil]; done) | (simp only [wSg, List.append_assoc, List.nil_append, List.append_nil]; rfl) | rfl) (by first | (simp only [wSg, List.append_assoc, List.nil_append, List.append_nil]; done) | (simp only [wSg, List.append_assoc, List.nil_append, List.append_nil]; rfl) | rfl) 18 rfl rfl [19, 20, 21, 22, 23, 24, 25, 26, 27, 28, 29, 30, 31, 32, 33, 34, 35, 36] (by first | (simp only [List.length_append, List.length_cons, List.length_nil, wFl_len, wTk_len, wTx_len]; rfl) | rfl))
theorem dX9_load_0 : decode cX9_load 0 = .ok (.iload_n 1, 1) := by decide +kernel
theorem dX9_load_1 : decode cX9_load 1 = .ok (.ifCond .lt 14, 3) := by decide +kernel
theorem dX9_load_4 : decode cX9_load 4 = .ok (.iload_n 1, 1) := by decide +kernel
theorem dX9_load_5 : decode cX9_load 5 = .ok (.aload_n 0, 1) := by decide +kernel
theorem dX9_load_6 : decode cX9_load 6 = .ok (.getfield 36, 3) := by decide +kernel
theorem dX9_load_9 : decode cX9_load 9 = .ok (.getfield 51, 3) := by decide +kernel
theorem dX9_load_12 : decode cX9_load 12 = .ok (.if_icmp .le 13, 3) := by decide +kernel
theorem dX9_load_15 : decode cX9_load 15 = .ok (.new 59, 3) := by decide +kernel
theorem dX9_load_18 : decode cX9_load 18 = .ok (.dup, 1) := by decide +kernel
theorem dX9_load_19 : decode cX9_load 19 = .ok (.ldc 61, 2) := by decide +kernel
theorem dX9_load_21 : decode cX9_load 21 = .ok (.invokespecial 63, 3) := by decide +kernel
theorem dX9_load_24 : decode cX9_load 24 = .ok (.athrow, 1) := by decide +kernel
theorem dX9_load_25 : decode cX9_load 25 = .ok (.aload_n 0, 1) := by decide +kernel
theorem dX9_load_26 : decode cX9_load 26 = .ok (.getfield 36, 3) := by decide +kernel
theorem dX9_load_29 : decode cX9_load 29 = .ok (.iload_n 1, 1) := by decide +kernel
theorem dX9_load_30 : decode cX9_load 30 = .ok (.invokevirtual 66, 3) := by decide +kernel
theorem dX9_load_33 : decode cX9_load 33 = .ok (.aload_n 0, 1) := by decide +kernel
theorem dX9_load_34 : decode cX9_load 34 = .ok (.getfield 36, 3) := by decide +kernel
theorem dX9_load_37 : decode cX9_load 37 = .ok (.aload_n 0, 1) := by decide +kernel
theorem dX9_load_38 : decode cX9_load 38 = .ok (.getfield 16, 3) := by decide +kernel
theorem dX9_load_41 : decode cX9_load 41 = .ok (.invokestatic 68, 3) := by decide +kernel
theorem dX9_load_44 : decode cX9_load 44 = .ok (.aload_n 0, 1) := by decide +kernel
theorem dX9_load_45 : decode cX9_load 45 = .ok (.getfield 36, 3) := by decide +kernel
theorem dX9_load_48 : decode cX9_load 48 = .ok (.invokevirtual 74, 3) := by decide +kernel
theorem dX9_load_51 : decode cX9_load 51 = .ok (.ifCond .ne 14, 3) := by decide +kernel
theorem dX9_load_54 : decode cX9_load 54 = .ok (.bipush (-10), 2) := by decide +kernel
theorem dX9_load_56 : decode cX9_load 56 = .ok (.aload_n 0, 1) := by decide +kernel
theorem dX9_load_57 : decode cX9_load 57 = .ok (.getfield 36, 3) := by decide +kernel
theorem dX9_load_60 : decode cX9_load 60 = .ok (.getfield 78, 3) := by decide +kernel
theorem dX9_load_63 : decode cX9_load 63 = .ok (.isub, 1) := by decide +kernel
theorem dX9_load_64 : decode cX9_load 64 = .ok (.ireturn, 1) := by decide +kernel
theorem dX9_load_65 : decode cX9_load 65 = .ok (.aload_n 0, 1) := by decide +kernel
theorem dX9_load_66 : decode cX9_load 66 = .ok (.getfield 12, 3) := by decide +kernel
theorem dX9_load_69 : decode cX9_load 69 = .ok (.aload_n 0, 1) := by decide +kernel
theorem dX9_load_70 : decode cX9_load 70 = .ok (.getfield 16, 3) := by decide +kernel
theorem dX9_load_73 : decode cX9_load 73 = .ok (.invokevirtual 81, 3) := by decide +kernel
theorem dX9_load_76 : decode cX9_load 76 = .ok (.aload_n 0, 1) := by decide +kernel
theorem dX9_load_77 : decode cX9_load 77 = .ok (.getfield 29, 3) := by decide +kernel
theorem dX9_load_80 : decode cX9_load 80 = .ok (.invokevirtual 85, 3) := by decide +kernel
theorem dX9_load_83 : decode cX9_load 83 = .ok (.aload_n 0, 1) := by decide +kernel
theorem dX9_load_84 : decode cX9_load 84 = .ok (.iconst 0, 1) := by decide +kernel
theorem dX9_load_85 : decode cX9_load 85 = .ok (.putfield 22, 3) := by decide +kernel
theorem dX9_load_88 : decode cX9_load 88 = .ok (.aload_n 0, 1) := by decide +kernel
theorem dX9_load_89 : decode cX9_load 89 = .ok (.getfield 12, 3) := by decide +kernel
theorem dX9_load_92 : decode cX9_load 92 = .ok (.getfield 88, 3) := by decide +kernel
theorem dX9_load_95 : decode cX9_load 95 = .ok (.ireturn, 1) := by decide +kernel
def rm_X9_load : Room := { frames := 10, cells := 1, slots := 6, locals := 239 }
def M_X9_load_0 (k : Nat) (p0 : Int32) (S : VV × VV × VV × VV × VV × Int32) (T : Nat × Int32 × Int32 × (Nat → VV)) : Option (Int32 × Int32 × (VV × VV × VV × VV × VV × Int32) × (Nat × Int32 × Int32 × (Nat → VV))) := if p0 < 0 then (some ((2 : Int32), (0 : Int32), S, T)) else (if p0 ≤ ((S.2.2.2.1) 0 0) then ((M_X7_begin k (S.2.2.2.1) p0).bind fun q3 => lt ((S.1, S.2.1, S.2.2.1, q3, S.2.2.2.2)) fun F4 => (M_X1_read k (F4.2.2.2.1) (F4.2.1)).bind fun q5 => lt ((F4.1, F4.2.1, F4.2.2.1, q5.1, F4.2.2.2.2)) fun F6 => lt ((F6.1, q5.2, F6.2.2)) fun F7 => (M_X7_isGood k (F7.2.2.2.1)).bind fun q8 => if q8 = 0 then (some ((0 : Int32), ((-10 : Int32) - ((F7.2.2.2.1) 0 1)), F7, T)) else ((M_X0_copyFrom k (F7.1) (F7.2.1)).bind fun q10 => lt ((q10, F7.2)) fun F11 => (M_X2_clear k T).bind fun q12 => lt ((F11.1, F11.2.1, F11.2.2.1, F11.2.2.2.1, F11.2.2.2.2.1, (0 : Int32))) fun F14 => some ((0 : Int32), ((F14.1) 0 2), F14, q12))) else (some ((2 : Int32), (0 : Int32), S, T)))
set_option maxRecDepth 100000 in
set_option maxHeartbeats 4000000 in
theorem N_X9_load_0 (C : CX E p l s m args meth c cX9_load 2 RX9 (some .int) A) (a : Nat → Nat) (k : Nat) (fa : Nat → Nat → Nat) {post : Int32 → va_W → Prop} {px : Int32 → va_W → Prop} (hlt : l.stackTraces = false) (hno : ∀ x ∈ c.exceptionTable.toList, False) (hdc : DC s) :
    ∀ (p0 : Int32) (S : VV × VV × VV × VV × VV × Int32) (T : Nat × Int32 × Int32 × (Nat → VV)) (q : Int32 × Int32 × (VV × VV × VV × VV × VV × Int32) × (Nat × Int32 × Int32 × (Nat → VV))), M_X9_load_0 k p0 S T = some q → (∀ fa' : Nat → Nat → Nat, T.1 ≤ q.2.2.2.1 → TI post px q.1 q.2.1 (wSg E a q.2.2.1 ++ wHi E a fa' q.2.2.2)) →
      WW E p l e rm_X9_load s m args below meth c A 0 0 (QXI E below post px args s rm_X9_load A) (wSg E a S ++ wHi E a fa T) 2 [some (.ref (a 0)), some (.int p0)] 0 [] := by
  intro p0 S T q  h hq
  unfold M_X9_load_0 at h
  refine r_iload_n (pc := 0) C (i := 1) dX9_load_0 rfl rfl ?_
  refine r_if_lt (pc := 1) C (tgt := 15) dX9_load_1 rfl (fun c1 => ?_) (fun c1 => ?_)
  · rw [if_pos c1] at h
    cases h
    exact r_throwA (pc := 15) C hlt hno hdc 0 rfl wm_2_186 wm_1_13 dX9_load_15 dX9_load_18 dX9_load_19 dX9_load_21 dX9_load_24 (Nat.le_of_ble_eq_true rfl) (Nat.le_of_ble_eq_true rfl) (Nat.le_of_ble_eq_true rfl) (Nat.le_of_ble_eq_true rfl) (Nat.le_of_ble_eq_true rfl) (TI_x (by decide) (hq fa (Nat.le_refl _)))
  · rw [if_neg c1] at h
    refine r_iload_n (pc := 4) C (i := 1) dX9_load_4 rfl rfl ?_
    refine r_aload_n (pc := 5) C (i := 0) dX9_load_5 rfl rfl ?_
    refine r_get (pc := 6) C gwX9 0 rfl rfl 5 (by decide) wm_2_20 rfl dX9_load_6 ?_
    refine r_get (pc := 9) C gwX7 55 rfl rfl 0 (by decide) wm_1_178 rfl dX9_load_9 ?_
    refine r_icmp_le (pc := 12) C (tgt := 25) dX9_load_12 rfl (fun c2 => ?_) (fun c2 => ?_)
    · rw [if_pos c2] at h
      refine r_aload_n (pc := 25) C (i := 0) dX9_load_25 rfl rfl ?_
      refine r_get (pc := 26) C gwX9 0 rfl rfl 5 (by decide) wm_2_20 rfl dX9_load_26 ?_
      refine r_iload_n (pc := 29) C (i := 1) dX9_load_29 rfl rfl ?_
      obtain ⟨q3, hq3, h⟩ := bnd h
      obtain ⟨F4, hF4, h⟩ := lt_e h
      refine r_callV_CV (Cn := RX7) (pc := 30) C [.int p0] (c_X7_begin E l k (fun i => a (i + 55)) (S.2.2.2.1) p0 hq3) [55, 56, 57] (hps_hi (List.append_assoc _ _ _).symm (hp_X9_load_0 E a fa S T)) (by decide) 0 rfl rfl rfl g_X9_66 hd_X7_begin ⟨Nat.le_of_ble_eq_true rfl, Nat.le_of_ble_eq_true rfl⟩ ⟨Nat.zero_le _, Nat.zero_le _⟩ (Nat.le_of_ble_eq_true rfl) rfl dX9_load_30 (fun w1 hw1 => ?_)
      subst hw1
      refine ⟨(wSg E a F4 ++ wHi E a fa T), by rw [hF4]; exact putW_hi (List.append_assoc _ _ _).symm (List.append_assoc _ _ _).symm (hp_X9_load_0 E a fa S T) rfl (pw_X9_load_0 E a fa S T q3), ?_⟩
      refine r_aload_n (pc := 33) C (i := 0) dX9_load_33 rfl rfl ?_
      refine r_get (pc := 34) C gwX9 0 rfl rfl 5 (by decide) wm_2_20 rfl dX9_load_34 ?_
      refine r_aload_n (pc := 37) C (i := 0) dX9_load_37 rfl rfl ?_
      refine r_get (pc := 38) C gwX9 0 rfl rfl 1 (by decide) wm_2_16 rfl dX9_load_38 ?_
      obtain ⟨q5, hq5, h⟩ := bnd h
      obtain ⟨F6, hF6, h⟩ := lt_e h
      obtain ⟨F7, hF7, h⟩ := lt_e h
      refine r_callS_CV (pc := 41) C [.ref (a 55), .ref (a 19)] (c_X1_read E l k (fun i => a (i + 55)) (fun i => a (i + 19)) (F4.2.2.2.1) (F4.2.1) hq5) [55, 56, 57, 19, 20, 21, 22, 23, 24, 25, 26, 27, 28, 29, 30, 31, 32, 33, 34, 35, 36] (hps_hi (List.append_assoc _ _ _).symm (hp_X9_load_1 E a fa F4 T)) (by decide) g_X9_68 hd_X1_read.2 ⟨Nat.le_of_ble_eq_true rfl, Nat.le_of_ble_eq_true rfl⟩ ⟨Nat.zero_le _, Nat.zero_le _⟩ (Nat.le_of_ble_eq_true rfl) rfl dX9_load_41 (fun w1 hw1 => ?_)
      subst hw1
      refine ⟨(wSg E a F7 ++ wHi E a fa T), by rw [hF7]; rw [hF6]; exact putW_hi (List.append_assoc _ _ _).symm (List.append_assoc _ _ _).symm (hp_X9_load_1 E a fa F4 T) rfl (pw_X9_load_1 E a fa F4 T q5.1 q5.2), ?_⟩
      refine r_aload_n (pc := 44) C (i := 0) dX9_load_44 rfl rfl ?_
      refine r_get (pc := 45) C gwX9 0 rfl rfl 5 (by decide) wm_2_20 rfl dX9_load_45 ?_
      obtain ⟨q8, hq8, h⟩ := bnd h
      refine r_callVp_CI (Cn := RX7) (pc := 48) C [] (c_X7_isGood E l k (fun i => a (i + 55)) (F7.2.2.2.1) hq8) [55, 56, 57] (hps_hi (List.append_assoc _ _ _).symm (hp_X9_load_0 E a fa F7 T)) (by decide) 0 rfl rfl rfl g_X9_74 hd_X7_isGood ⟨Nat.le_of_ble_eq_true rfl, Nat.le_of_ble_eq_true rfl⟩ ⟨Nat.zero_le _, Nat.zero_le _⟩ (Nat.le_of_ble_eq_true rfl) rfl dX9_load_48 (fun r hr => ?_)
      have hr := hr.symm
      subst hr
      refine r_if_ne (pc := 51) C (tgt := 65) dX9_load_51 rfl (fun c9 => ?_) (fun c9 => ?_)
      · rw [if_neg c9] at h
        refine r_aload_n (pc := 65) C (i := 0) dX9_load_65 rfl rfl ?_
        refine r_get (pc := 66) C gwX9 0 rfl rfl 0 (by decide) wm_2_15 rfl dX9_load_66 ?_
        refine r_aload_n (pc := 69) C (i := 0) dX9_load_69 rfl rfl ?_
        refine r_get (pc := 70) C gwX9 0 rfl rfl 1 (by decide) wm_2_16 rfl dX9_load_70 ?_
        obtain ⟨q10, hq10, h⟩ := bnd h
        obtain ⟨F11, hF11, h⟩ := lt_e h
        refine r_callV_CV (Cn := RX0) (pc := 73) C [.ref (a 19)] (c_X0_copyFrom E l k (fun i => a (i + 1)) (fun i => a (i + 19)) (F7.1) (F7.2.1) hq10) [1, 2, 3, 4, 5, 6, 7, 8, 9, 10, 11, 12, 13, 14, 15, 16, 17, 18, 19, 20, 21, 22, 23, 24, 25, 26, 27, 28, 29, 30, 31, 32, 33, 34, 35, 36] (hps_hi (List.append_assoc _ _ _).symm (hp_X9_load_2 E a fa F7 T)) (by decide) 0 rfl rfl rfl g_X9_81 hd_X0_copyFrom ⟨Nat.le_of_ble_eq_true rfl, Nat.le_of_ble_eq_true rfl⟩ ⟨Nat.zero_le _, Nat.zero_le _⟩ (Nat.le_of_ble_eq_true rfl) rfl dX9_load_73 (fun w1 hw1 => ?_)
        subst hw1
        refine ⟨(wSg E a F11 ++ wHi E a fa T), by rw [hF11]; exact putW_hi (List.append_assoc _ _ _).symm (List.append_assoc _ _ _).symm (hp_X9_load_2 E a fa F7 T) rfl (pw_X9_load_2 E a fa F7 T q10), ?_⟩
        refine r_aload_n (pc := 76) C (i := 0) dX9_load_76 rfl rfl ?_
        refine r_get (pc := 77) C gwX9 0 rfl rfl 4 (by decide) wm_2_19 rfl dX9_load_77 ?_
        obtain ⟨q12, hq12, h⟩ := bnd h
        refine r_callT_CV (Cn := RX2) (c0 := hiC E a fa T) (w0 := ((wSg E a F11) ++ hiC E a fa T)) (t := hiT E fa T) (pc := 80) C [] (c_X2_clear E l k a fa T hq12) [61, 62] (hpH1 E a fa F11 T) (by decide) 0 rfl rfl rfl g_X9_85 hd_X2_clear ⟨Nat.le_of_ble_eq_true rfl, Nat.le_of_ble_eq_true rfl⟩ ⟨Nat.le_of_ble_eq_true rfl, Nat.le_of_ble_eq_true rfl⟩ (Nat.le_of_ble_eq_true rfl) rfl dX9_load_80 (List.append_assoc _ _ _).symm (fun w1 hw1 => ?_)
        obtain ⟨fa13, hw1, -⟩ := hw1
        subst hw1
        refine ⟨hiC E a fa13 q12, hiT E fa13 q12, (wSg E a F11) ++ hiC E a fa13 q12, rfl, rfl, hiT_le (Hclear_h hq12), pwH1 E a _ _ _ _ _, ?_⟩
        refine r_world (List.append_assoc _ _ _) ?_
        refine r_aload_n (pc := 83) C (i := 0) dX9_load_83 rfl rfl ?_
        refine r_iconst (pc := 84) C (v := 0) dX9_load_84 (by decide) ?_
        obtain ⟨F14, hF14, h⟩ := lt_e h
        refine r_put (pc := 85) C gwX9 tyX9 tyX9_ok nmX9 0 rfl rfl 3 (by decide) wm_2_18 rfl rfl rfl rfl (Nat.le_of_ble_eq_true rfl) (w' := (wSg E a F14 ++ wHi E a fa13 q12)) (by rw [hF14]; rfl) dX9_load_85 ?_
        refine r_aload_n (pc := 88) C (i := 0) dX9_load_88 rfl rfl ?_
        refine r_get (pc := 89) C gwX9 0 rfl rfl 0 (by decide) wm_2_15 rfl dX9_load_89 ?_
        refine r_get (pc := 92) C gwX0 1 rfl rfl 2 (by decide) wm_1_99 rfl dX9_load_92 ?_
        cases h
        exact r_xI (r_ireti (pc := 95) C (TI_0 (hq fa13 (Nat.le_trans (Nat.le_refl _) (Hclear_h hq12)))) (Nat.zero_le _) (Nat.zero_le _) dX9_load_95)
      · rw [if_pos c9] at h
        refine r_bipush (pc := 54) C (v := (-10)) dX9_load_54 (by decide) ?_
        refine r_aload_n (pc := 56) C (i := 0) dX9_load_56 rfl rfl ?_
        refine r_get (pc := 57) C gwX9 0 rfl rfl 5 (by decide) wm_2_20 rfl dX9_load_57 ?_
        refine r_get (pc := 60) C gwX7 55 rfl rfl 1 (by decide) wm_1_180 rfl dX9_load_60 ?_
        refine r_isub (pc := 63) C dX9_load_63 ?_
        have h := Option.some.inj h
        subst h
        exact r_xI (r_ireti (pc := 64) C (TI_0 (hq fa (Nat.le_refl _))) (Nat.zero_le _) (Nat.zero_le _) dX9_load_64)
    · rw [if_neg c2] at h
      cases h
      exact r_throwA (pc := 15) C hlt hno hdc 0 rfl wm_2_186 wm_1_13 dX9_load_15 dX9_load_18 dX9_load_19 dX9_load_21 dX9_load_24 (Nat.le_of_ble_eq_true rfl) (Nat.le_of_ble_eq_true rfl) (Nat.le_of_ble_eq_true rfl) (Nat.le_of_ble_eq_true rfl) (Nat.le_of_ble_eq_true rfl) (TI_x (by decide) (hq fa (Nat.le_refl _)))
def M_X9_load (k : Nat) (S : VV × VV × VV × VV × VV × Int32) (T : Nat × Int32 × Int32 × (Nat → VV)) (p0 : Int32) : Option (Int32 × Int32 × (VV × VV × VV × VV × VV × Int32) × (Nat × Int32 × Int32 × (Nat → VV))) := M_X9_load_0 k p0 S T
set_option maxRecDepth 100000 in
set_option maxHeartbeats 4000000 in
theorem c_X9_load (E : ENV) (l : Launch) (k : Nat) (a : Nat → Nat) (fa : Nat → Nat → Nat) (S : VV × VV × VV × VV × VV × Int32) (T : Nat × Int32 × Int32 × (Nat → VV)) (p0 : Int32) (hlt : l.stackTraces = false) {q : Int32 × Int32 × (VV × VV × VV × VV × VV × Int32) × (Nat × Int32 × Int32 × (Nat → VV))} (hm : M_X9_load k S T p0 = some q) : XI E l yX9_load cX9_load 2 (some .int) rm_X9_load [.ref (a 0), .int p0] (wSg E a S ++ wHi E a fa T) (fun r w' => q.1 = 0 ∧ r = q.2.1 ∧ ∃ fa' : Nat → Nat → Nat, w' = (wSg E a q.2.2.1 ++ wHi E a fa' q.2.2.2) ∧ T.1 ≤ q.2.2.2.1) (fun cd w' => cd = q.1 ∧ ¬ q.1 = 0 ∧ ∃ fa' : Nat → Nat → Nat, w' = (wSg E a q.2.2.1 ++ wHi E a fa' q.2.2.2) ∧ T.1 ≤ q.2.2.2.1) :=
  XI.of 0 (by decide) (Nat.le_of_ble_eq_true rfl) (fun p e s m below meth c A C hno hdc => r_weak (lSub_s (lSub_s lSub_e)) (N_X9_load_0 C a k fa hlt hno hdc p0 S T q  hm (fun fa' hm' => TI_of ⟨fa', rfl, hm'⟩)))
set_option maxRecDepth 100000 in
theorem c2_X9_load (E : ENV) (l : Launch) (k : Nat) (a : Nat → Nat) (fa : Nat → Nat → Nat) (S : VV × VV × VV × VV × VV × Int32) (T : Nat × Int32 × Int32 × (Nat → VV)) (p0 : Int32) (hlt : l.stackTraces = false) {q : Int32 × Int32 × (VV × VV × VV × VV × VV × Int32) × (Nat × Int32 × Int32 × (Nat → VV))} (hm : M_X9_load k S T p0 = some q) : XI E l yX9_load cX9_load 2 (some .int) rm_X9_load [.ref (a 0), .int p0] (((wSg E a S) ++ hiC E a fa T) ++ hiT E fa T) (fun r w' => q.1 = 0 ∧ r = q.2.1 ∧ ∃ fa' : Nat → Nat → Nat, w' = (wSg E a q.2.2.1 ++ wHi E a fa' q.2.2.2) ∧ T.1 ≤ q.2.2.2.1) (fun cd w' => cd = q.1 ∧ ¬ q.1 = 0 ∧ ∃ fa' : Nat → Nat → Nat, w' = (wSg E a q.2.2.1 ++ wHi E a fa' q.2.2.2) ∧ T.1 ≤ q.2.2.2.1) := by
  rw [show ((wSg E a S) ++ hiC E a fa T) ++ hiT E fa T = (wSg E a S ++ wHi E a fa T) from List.append_assoc _ _ _]
  exact c_X9_load E l k a fa S T p0 hlt hm
-- ShardGuard.errorPosition()I
theorem dX9_errorPosition_0 : decode cX9_errorPosition 0 = .ok (.aload_n 0, 1) := by decide +kernel
theorem dX9_errorPosition_1 : decode cX9_errorPosition 1 = .ok (.getfield 36, 3) := by decide +kernel
theorem dX9_errorPosition_4 : decode cX9_errorPosition 4 = .ok (.getfield 91, 3) := by decide +kernel
theorem dX9_errorPosition_7 : decode cX9_errorPosition 7 = .ok (.ireturn, 1) := by decide +kernel
def rm_X9_errorPosition : Room := { frames := 0, cells := 0, slots := 0, locals := 0 }
def M_X9_errorPosition_0 (k : Nat) (S : VV × VV × VV × VV × VV × Int32) : Option (Int32) := some ((S.2.2.2.1) 0 2)
set_option maxRecDepth 100000 in
set_option maxHeartbeats 4000000 in
theorem N_X9_errorPosition_0 (C : CX E p l s m args meth c cX9_errorPosition 1 RX9 (some .int) A) (a : Nat → Nat) (k : Nat) (S : VV × VV × VV × VV × VV × Int32) {post : Int32 → va_W → Prop} :
    ∀ (q : Int32), M_X9_errorPosition_0 k S = some q → post q (wSg E a S) →
      WW E p l e rm_X9_errorPosition s m args below meth c A 0 0 (QI E below post args s rm_X9_errorPosition A) (wSg E a S) 1 [some (.ref (a 0))] 0 [] := by
  intro  q  h hq
  unfold M_X9_errorPosition_0 at h
  refine r_aload_n (pc := 0) C (i := 0) dX9_errorPosition_0 rfl rfl ?_
  refine r_get (pc := 1) C gwX9 0 rfl rfl 5 (by decide) wm_2_20 rfl dX9_errorPosition_1 ?_
  refine r_get (pc := 4) C gwX7 55 rfl rfl 2 (by decide) wm_1_182 rfl dX9_errorPosition_4 ?_
  cases h
  exact r_ireti (pc := 7) C hq (Nat.zero_le _) (Nat.zero_le _) dX9_errorPosition_7
def M_X9_errorPosition (k : Nat) (S : VV × VV × VV × VV × VV × Int32) : Option (Int32) := M_X9_errorPosition_0 k S
set_option maxRecDepth 100000 in
set_option maxHeartbeats 4000000 in
theorem c_X9_errorPosition (E : ENV) (l : Launch) (k : Nat) (a : Nat → Nat) (S : VV × VV × VV × VV × VV × Int32) {q : Int32} (hm : M_X9_errorPosition k S = some q) : CI E l yX9_errorPosition cX9_errorPosition 1 (some .int) rm_X9_errorPosition [.ref (a 0)] (wSg E a S) (fun r w' => r = q ∧ w' = (wSg E a S)) :=
  CI.of 0 (by decide) (Nat.le_of_ble_eq_true rfl) (fun p e s m below meth c A C _ => r_weak (lSub_s lSub_e) (N_X9_errorPosition_0 C a k S q  hm ⟨rfl, rfl⟩))
end WALKS
