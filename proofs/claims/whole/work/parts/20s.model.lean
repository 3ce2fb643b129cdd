section WALKS
variable {E : ENV} {p : Program} {l : Launch} {e : Env} {s : State} {m : MethodId} {args : Array Value} {below : List Frame} {meth : Method} {c : Code} {A : Nat → Prop}
theorem hd_X10_clear : yX10_clear.cls = RX10 ∧ yX10_clear.cls ≠ "java/lang/invoke/MethodHandle" ∧ yX10_clear.cls ≠ "java/lang/invoke/VarHandle" ∧ (parseMethodDescriptor yX10_clear.desc).map (fun d => d.parameters.length) = some 1 := by decide +kernel
theorem g_X10_85 : GoodIn GW (va_wsS RX10 85 yX10_clear (wsG yX10_clear cX10_clear 2 none)) := gw_S wm_5_194 wm_5_195 wm_1_9 wm_5_196
theorem hd_X10_startText : yX10_startText.cls = RX10 ∧ yX10_startText.cls ≠ "java/lang/invoke/MethodHandle" ∧ yX10_startText.cls ≠ "java/lang/invoke/VarHandle" ∧ (parseMethodDescriptor yX10_startText.desc).map (fun d => d.parameters.length) = some 1 := by decide +kernel
theorem g_X10_443 : GoodIn GW (wsV RX10 443 RX10 yX10_startText (wsG yX10_startText cX10_startText 2 none)) := gw_V wm_7_219 wm_7_221 wm_0_78 wm_1_9 wm_7_222
theorem hd_X10_readAll : yX10_readAll.cls = RX10 ∧ yX10_readAll.cls ≠ "java/lang/invoke/MethodHandle" ∧ yX10_readAll.cls ≠ "java/lang/invoke/VarHandle" ∧ (parseMethodDescriptor yX10_readAll.desc).map (fun d => d.parameters.length) = some 0 := by decide +kernel
theorem g_X10_446 : GoodIn GW (wsV RX10 446 RX10 yX10_readAll (wsG yX10_readAll cX10_readAll 4 none)) := gw_V wm_7_239 wm_8_1 wm_0_83 wm_1_9 wm_8_2
theorem hd_X10_finish_ : yX10_finish_.cls = RX10 ∧ yX10_finish_.cls ≠ "java/lang/invoke/MethodHandle" ∧ yX10_finish_.cls ≠ "java/lang/invoke/VarHandle" ∧ (parseMethodDescriptor yX10_finish_.desc).map (fun d => d.parameters.length) = some 0 := by decide +kernel
theorem g_X10_449 : GoodIn GW (wsV RX10 449 RX10 yX10_finish_ (wsG yX10_finish_ cX10_finish_ 1 (some .int))) := gw_V wm_8_67 wm_8_69 wm_0_98 wm_1_9 wm_8_70
-- ShardGuardModel.load(I)I
theorem dX10_load_0 : decode cX10_load 0 = .ok (.aload_n 0, 1) := by decide +kernel
theorem dX10_load_1 : decode cX10_load 1 = .ok (.iconst 0, 1) := by decide +kernel
theorem dX10_load_2 : decode cX10_load 2 = .ok (.putfield 93, 3) := by decide +kernel
theorem dX10_load_5 : decode cX10_load 5 = .ok (.iload_n 1, 1) := by decide +kernel
theorem dX10_load_6 : decode cX10_load 6 = .ok (.iconst 0, 1) := by decide +kernel
theorem dX10_load_7 : decode cX10_load 7 = .ok (.aload_n 0, 1) := by decide +kernel
theorem dX10_load_8 : decode cX10_load 8 = .ok (.getfield 353, 3) := by decide +kernel
theorem dX10_load_11 : decode cX10_load 11 = .ok (.invokestatic 110, 3) := by decide +kernel
theorem dX10_load_14 : decode cX10_load 14 = .ok (.ifCond .ne 9, 3) := by decide +kernel
theorem dX10_load_17 : decode cX10_load 17 = .ok (.aload_n 0, 1) := by decide +kernel
theorem dX10_load_18 : decode cX10_load 18 = .ok (.iconst 1, 1) := by decide +kernel
theorem dX10_load_19 : decode cX10_load 19 = .ok (.invokevirtual 267, 3) := by decide +kernel
theorem dX10_load_22 : decode cX10_load 22 = .ok (.ireturn, 1) := by decide +kernel
theorem dX10_load_23 : decode cX10_load 23 = .ok (.aload_n 0, 1) := by decide +kernel
theorem dX10_load_24 : decode cX10_load 24 = .ok (.getfield 13, 3) := by decide +kernel
theorem dX10_load_27 : decode cX10_load 27 = .ok (.invokestatic 85, 3) := by decide +kernel
theorem dX10_load_30 : decode cX10_load 30 = .ok (.aload_n 0, 1) := by decide +kernel
theorem dX10_load_31 : decode cX10_load 31 = .ok (.aload_n 0, 1) := by decide +kernel
theorem dX10_load_32 : decode cX10_load 32 = .ok (.getfield 13, 3) := by decide +kernel
theorem dX10_load_35 : decode cX10_load 35 = .ok (.putfield 25, 3) := by decide +kernel
theorem dX10_load_38 : decode cX10_load 38 = .ok (.aload_n 0, 1) := by decide +kernel
theorem dX10_load_39 : decode cX10_load 39 = .ok (.iload_n 1, 1) := by decide +kernel
theorem dX10_load_40 : decode cX10_load 40 = .ok (.invokevirtual 443, 3) := by decide +kernel
theorem dX10_load_43 : decode cX10_load 43 = .ok (.aload_n 0, 1) := by decide +kernel
theorem dX10_load_44 : decode cX10_load 44 = .ok (.invokevirtual 446, 3) := by decide +kernel
theorem dX10_load_47 : decode cX10_load 47 = .ok (.aload_n 0, 1) := by decide +kernel
theorem dX10_load_48 : decode cX10_load 48 = .ok (.aload_n 0, 1) := by decide +kernel
theorem dX10_load_49 : decode cX10_load 49 = .ok (.getfield 9, 3) := by decide +kernel
theorem dX10_load_52 : decode cX10_load 52 = .ok (.putfield 25, 3) := by decide +kernel
theorem dX10_load_55 : decode cX10_load 55 = .ok (.aload_n 0, 1) := by decide +kernel
theorem dX10_load_56 : decode cX10_load 56 = .ok (.invokevirtual 449, 3) := by decide +kernel
theorem dX10_load_59 : decode cX10_load 59 = .ok (.ifCond .eq 11, 3) := by decide +kernel
theorem dX10_load_62 : decode cX10_load 62 = .ok (.bipush (-10), 2) := by decide +kernel
theorem dX10_load_64 : decode cX10_load 64 = .ok (.aload_n 0, 1) := by decide +kernel
theorem dX10_load_65 : decode cX10_load 65 = .ok (.getfield 375, 3) := by decide +kernel
theorem dX10_load_68 : decode cX10_load 68 = .ok (.isub, 1) := by decide +kernel
theorem dX10_load_69 : decode cX10_load 69 = .ok (.ireturn, 1) := by decide +kernel
theorem dX10_load_70 : decode cX10_load 70 = .ok (.aload_n 0, 1) := by decide +kernel
theorem dX10_load_71 : decode cX10_load 71 = .ok (.getfield 13, 3) := by decide +kernel
theorem dX10_load_74 : decode cX10_load 74 = .ok (.iconst 0, 1) := by decide +kernel
theorem dX10_load_75 : decode cX10_load 75 = .ok (.aload_n 0, 1) := by decide +kernel
theorem dX10_load_76 : decode cX10_load 76 = .ok (.getfield 9, 3) := by decide +kernel
theorem dX10_load_79 : decode cX10_load 79 = .ok (.iconst 0, 1) := by decide +kernel
theorem dX10_load_80 : decode cX10_load 80 = .ok (.invokestatic 235, 3) := by decide +kernel
theorem dX10_load_83 : decode cX10_load 83 = .ok (.aload_n 0, 1) := by decide +kernel
theorem dX10_load_84 : decode cX10_load 84 = .ok (.iconst 0, 1) := by decide +kernel
theorem dX10_load_85 : decode cX10_load 85 = .ok (.putfield 346, 3) := by decide +kernel
theorem dX10_load_88 : decode cX10_load 88 = .ok (.aload_n 0, 1) := by decide +kernel
theorem dX10_load_89 : decode cX10_load 89 = .ok (.iconst 0, 1) := by decide +kernel
theorem dX10_load_90 : decode cX10_load 90 = .ok (.putfield 349, 3) := by decide +kernel
theorem dX10_load_93 : decode cX10_load 93 = .ok (.aload_n 0, 1) := by decide +kernel
theorem dX10_load_94 : decode cX10_load 94 = .ok (.invokevirtual 114, 3) := by decide +kernel
theorem dX10_load_97 : decode cX10_load 97 = .ok (.ireturn, 1) := by decide +kernel
def rm_X10_load : Room := { frames := 10, cells := 0, slots := 0, locals := 241 }
def M_X10_load_0 (k : Nat) (p0 : Int32) (S : Nat → Nat → Int32) : Option (Int32 × (Nat → Nat → Int32)) := lt (va_up S 0 (upd (S 0) 1 (0 : Int32))) fun F1 => (M_X10_inRange k p0 (0 : Int32) (F1 0 6)).bind fun q2 => if q2 = 0 then ((M_X10_raise k F1 (1 : Int32)).bind fun q17 => some (q17.1, q17.2)) else ((M_X10_clear k 1692 (F1 2)).bind fun q4 => lt (va_up F1 2 q4) fun F5 => lt (va_up F5 0 (upd (F5 0) 3 2)) fun F6 => (M_X10_startText k F6 p0).bind fun q7 => (M_X10_readAll k q7).bind fun q8 => lt (va_up q8 0 (upd (q8 0) 3 1)) fun F9 => (M_X10_finish_ k F9).bind fun q10 => if q10.1 = 0 then ((M_X10_copy k 1692 1692 (q10.2 2) (q10.2 1) (0 : Int32) (0 : Int32)).bind fun q12 => lt (va_up q10.2 1 q12) fun F13 => lt (va_up F13 0 (upd (F13 0) 0 (0 : Int32))) fun F14 => lt (va_up F14 0 (upd (F14 0) 2 (0 : Int32))) fun F15 => (M_X10_tenants k F15).bind fun q16 => some (q16, F15)) else (some (((-10 : Int32) - (q10.2 0 11)), q10.2)))
set_option maxRecDepth 100000 in
set_option maxHeartbeats 4000000 in
theorem N_X10_load_0 (C : CX E p l s m args meth c cX10_load 2 RX10 (some .int) A) (a : Nat → Nat) (k : Nat) {post : Int32 → va_W → Prop} :
    ∀ (p0 : Int32) (S : Nat → Nat → Int32) (q : Int32 × (Nat → Nat → Int32)), M_X10_load_0 k p0 S = some q → post q.1 (wMd E a q.2) →
      WW E p l e rm_X10_load s m args below meth c A 0 0 (QI E below post args s rm_X10_load A) (wMd E a S) 2 [some (.ref (a 0)), some (.int p0)] 0 [] := by
  intro p0 S q  h hq
  unfold M_X10_load_0 at h
  refine r_aload_n (pc := 0) C (i := 0) dX10_load_0 rfl rfl ?_
  refine r_iconst (pc := 1) C (v := 0) dX10_load_1 (by decide) ?_
  obtain ⟨F1, hF1, h⟩ := lt_e h
  refine r_put (pc := 2) C gwX10 tyX10 tyX10_ok nmX10 0 rfl rfl 6 (by decide) wm_5_209 rfl rfl rfl rfl (Nat.le_of_ble_eq_true rfl) (w' := (wMd E a F1)) (by rw [hF1]; rfl) dX10_load_2 ?_
  refine r_iload_n (pc := 5) C (i := 1) dX10_load_5 rfl rfl ?_
  refine r_iconst (pc := 6) C (v := 0) dX10_load_6 (by decide) ?_
  refine r_aload_n (pc := 7) C (i := 0) dX10_load_7 rfl rfl ?_
  refine r_get (pc := 8) C gwX10 0 rfl rfl 14 (by decide) wm_5_217 rfl dX10_load_8 ?_
  obtain ⟨q2, hq2, h⟩ := bnd h
  refine r_callSp_CI (pc := 11) C [.int p0, .int (0 : Int32), .int (F1 0 6)] (c_X10_inRange E l k p0 (0 : Int32) (F1 0 6) hq2) [] rfl (by decide) g_X10_110 hd_X10_inRange.2 ⟨Nat.le_of_ble_eq_true rfl, Nat.le_of_ble_eq_true rfl⟩ ⟨Nat.zero_le _, Nat.zero_le _⟩ (Nat.le_of_ble_eq_true rfl) rfl dX10_load_11 (fun r hr => ?_)
  have hr := hr.symm
  subst hr
  refine r_if_ne (pc := 14) C (tgt := 23) dX10_load_14 rfl (fun c3 => ?_) (fun c3 => ?_)
  · rw [if_neg c3] at h
    refine r_aload_n (pc := 23) C (i := 0) dX10_load_23 rfl rfl ?_
    refine r_get (pc := 24) C gwX10 0 rfl rfl 1 (by decide) wm_5_204 rfl dX10_load_24 ?_
    obtain ⟨q4, hq4, h⟩ := bnd h
    obtain ⟨F5, hF5, h⟩ := lt_e h
    refine r_callS_CV (pc := 27) C [.ref (a 2)] (c_X10_clear E l k (fun i => a (i + 2)) 1692 (F1 2) hq4) [2] rfl (by decide) g_X10_85 hd_X10_clear.2 ⟨Nat.le_of_ble_eq_true rfl, Nat.le_of_ble_eq_true rfl⟩ ⟨Nat.zero_le _, Nat.zero_le _⟩ (Nat.le_of_ble_eq_true rfl) rfl dX10_load_27 (fun w1 hw1 => ?_)
    subst hw1
    refine ⟨(wMd E a F5), by rw [hF5]; rfl, ?_⟩
    refine r_aload_n (pc := 30) C (i := 0) dX10_load_30 rfl rfl ?_
    refine r_aload_n (pc := 31) C (i := 0) dX10_load_31 rfl rfl ?_
    refine r_get (pc := 32) C gwX10 0 rfl rfl 1 (by decide) wm_5_204 rfl dX10_load_32 ?_
    obtain ⟨F6, hF6, h⟩ := lt_e h
    refine r_put (pc := 35) C gwX10 tyX10 tyX10_ok nmX10 0 rfl rfl 8 (by decide) wm_5_211 rfl rfl rfl rfl (Nat.le_of_ble_eq_true rfl) (w' := (wMd E a F6)) (by rw [hF6]; rfl) dX10_load_35 ?_
    refine r_aload_n (pc := 38) C (i := 0) dX10_load_38 rfl rfl ?_
    refine r_iload_n (pc := 39) C (i := 1) dX10_load_39 rfl rfl ?_
    obtain ⟨q7, hq7, h⟩ := bnd h
    refine r_callV_CV (Cn := RX10) (pc := 40) C [.int p0] (c_X10_startText E l k a F6 p0 hq7) [0, 1, 2, 3, 4, 5, 6, 7, 8, 9, 10, 11, 12] rfl (by decide) 0 rfl rfl rfl g_X10_443 hd_X10_startText ⟨Nat.le_of_ble_eq_true rfl, Nat.le_of_ble_eq_true rfl⟩ ⟨Nat.zero_le _, Nat.zero_le _⟩ (Nat.le_of_ble_eq_true rfl) rfl dX10_load_40 (fun w1 hw1 => ?_)
    subst hw1
    refine ⟨(wMd E a q7), by rfl, ?_⟩
    refine r_aload_n (pc := 43) C (i := 0) dX10_load_43 rfl rfl ?_
    obtain ⟨q8, hq8, h⟩ := bnd h
    refine r_callV_CV (Cn := RX10) (pc := 44) C [] (c_X10_readAll E l k a q7 hq8) [0, 1, 2, 3, 4, 5, 6, 7, 8, 9, 10, 11, 12] rfl (by decide) 0 rfl rfl rfl g_X10_446 hd_X10_readAll ⟨Nat.le_of_ble_eq_true rfl, Nat.le_of_ble_eq_true rfl⟩ ⟨Nat.zero_le _, Nat.zero_le _⟩ (Nat.le_of_ble_eq_true rfl) rfl dX10_load_44 (fun w1 hw1 => ?_)
    subst hw1
    refine ⟨(wMd E a q8), by rfl, ?_⟩
    refine r_aload_n (pc := 47) C (i := 0) dX10_load_47 rfl rfl ?_
    refine r_aload_n (pc := 48) C (i := 0) dX10_load_48 rfl rfl ?_
    refine r_get (pc := 49) C gwX10 0 rfl rfl 0 (by decide) wm_5_203 rfl dX10_load_49 ?_
    obtain ⟨F9, hF9, h⟩ := lt_e h
    refine r_put (pc := 52) C gwX10 tyX10 tyX10_ok nmX10 0 rfl rfl 8 (by decide) wm_5_211 rfl rfl rfl rfl (Nat.le_of_ble_eq_true rfl) (w' := (wMd E a F9)) (by rw [hF9]; rfl) dX10_load_52 ?_
    refine r_aload_n (pc := 55) C (i := 0) dX10_load_55 rfl rfl ?_
    obtain ⟨q10, hq10, h⟩ := bnd h
    refine r_callV_CI (Cn := RX10) (pc := 56) C [] (c_X10_finish_ E l k a F9 hq10) [0, 1, 2, 3, 4, 5, 6, 7, 8, 9, 10, 11, 12] rfl (by decide) 0 rfl rfl rfl g_X10_449 hd_X10_finish_ ⟨Nat.le_of_ble_eq_true rfl, Nat.le_of_ble_eq_true rfl⟩ ⟨Nat.zero_le _, Nat.zero_le _⟩ (Nat.le_of_ble_eq_true rfl) rfl dX10_load_56 (fun r w1 hw1 => ?_)
    obtain ⟨hr1, hw1⟩ := hw1
    subst hr1 hw1
    refine ⟨(wMd E a q10.2), by rfl, ?_⟩
    refine r_if_eq (pc := 59) C (tgt := 70) dX10_load_59 rfl (fun c11 => ?_) (fun c11 => ?_)
    · rw [if_pos c11] at h
      refine r_aload_n (pc := 70) C (i := 0) dX10_load_70 rfl rfl ?_
      refine r_get (pc := 71) C gwX10 0 rfl rfl 1 (by decide) wm_5_204 rfl dX10_load_71 ?_
      refine r_iconst (pc := 74) C (v := 0) dX10_load_74 (by decide) ?_
      refine r_aload_n (pc := 75) C (i := 0) dX10_load_75 rfl rfl ?_
      refine r_get (pc := 76) C gwX10 0 rfl rfl 0 (by decide) wm_5_203 rfl dX10_load_76 ?_
      refine r_iconst (pc := 79) C (v := 0) dX10_load_79 (by decide) ?_
      obtain ⟨q12, hq12, h⟩ := bnd h
      obtain ⟨F13, hF13, h⟩ := lt_e h
      refine r_callS_CV (pc := 80) C [.ref (a 2), .int (0 : Int32), .ref (a 1), .int (0 : Int32)] (c_X10_copy E l k (fun i => a (i + 2)) (fun i => a (i + 1)) 1692 1692 (q10.2 2) (q10.2 1) (0 : Int32) (0 : Int32) hq12) [2, 1] rfl (by decide) g_X10_235 hd_X10_copy.2 ⟨Nat.le_of_ble_eq_true rfl, Nat.le_of_ble_eq_true rfl⟩ ⟨Nat.zero_le _, Nat.zero_le _⟩ (Nat.le_of_ble_eq_true rfl) rfl dX10_load_80 (fun w1 hw1 => ?_)
      subst hw1
      refine ⟨(wMd E a F13), by rw [hF13]; rfl, ?_⟩
      refine r_aload_n (pc := 83) C (i := 0) dX10_load_83 rfl rfl ?_
      refine r_iconst (pc := 84) C (v := 0) dX10_load_84 (by decide) ?_
      obtain ⟨F14, hF14, h⟩ := lt_e h
      refine r_put (pc := 85) C gwX10 tyX10 tyX10_ok nmX10 0 rfl rfl 5 (by decide) wm_5_208 rfl rfl rfl rfl (Nat.le_of_ble_eq_true rfl) (w' := (wMd E a F14)) (by rw [hF14]; rfl) dX10_load_85 ?_
      refine r_aload_n (pc := 88) C (i := 0) dX10_load_88 rfl rfl ?_
      refine r_iconst (pc := 89) C (v := 0) dX10_load_89 (by decide) ?_
      obtain ⟨F15, hF15, h⟩ := lt_e h
      refine r_put (pc := 90) C gwX10 tyX10 tyX10_ok nmX10 0 rfl rfl 7 (by decide) wm_5_210 rfl rfl rfl rfl (Nat.le_of_ble_eq_true rfl) (w' := (wMd E a F15)) (by rw [hF15]; rfl) dX10_load_90 ?_
      refine r_aload_n (pc := 93) C (i := 0) dX10_load_93 rfl rfl ?_
      obtain ⟨q16, hq16, h⟩ := bnd h
      refine r_callVp_CI (Cn := RX10) (pc := 94) C [] (c_X10_tenants E l k a F15 hq16) [0, 1, 2, 3, 4, 5, 6, 7, 8, 9, 10, 11, 12] rfl (by decide) 0 rfl rfl rfl g_X10_114 hd_X10_tenants ⟨Nat.le_of_ble_eq_true rfl, Nat.le_of_ble_eq_true rfl⟩ ⟨Nat.zero_le _, Nat.zero_le _⟩ (Nat.le_of_ble_eq_true rfl) rfl dX10_load_94 (fun r hr => ?_)
      have hr := hr.symm
      subst hr
      cases h
      exact r_ireti (pc := 97) C hq (Nat.zero_le _) (Nat.zero_le _) dX10_load_97
    · rw [if_neg c11] at h
      refine r_bipush (pc := 62) C (v := (-10)) dX10_load_62 (by decide) ?_
      refine r_aload_n (pc := 64) C (i := 0) dX10_load_64 rfl rfl ?_
      refine r_get (pc := 65) C gwX10 0 rfl rfl 19 (by decide) wm_5_222 rfl dX10_load_65 ?_
      refine r_isub (pc := 68) C dX10_load_68 ?_
      have h := Option.some.inj h
      subst h
      exact r_ireti (pc := 69) C hq (Nat.zero_le _) (Nat.zero_le _) dX10_load_69
  · rw [if_pos c3] at h
    refine r_aload_n (pc := 17) C (i := 0) dX10_load_17 rfl rfl ?_
    refine r_iconst (pc := 18) C (v := 1) dX10_load_18 (by decide) ?_
    obtain ⟨q17, hq17, h⟩ := bnd h
    refine r_callV_CI (Cn := RX10) (pc := 19) C [.int (1 : Int32)] (c_X10_raise E l k a F1 (1 : Int32) hq17) [0, 1, 2, 3, 4, 5, 6, 7, 8, 9, 10, 11, 12] rfl (by decide) 0 rfl rfl rfl g_X10_267 hd_X10_raise ⟨Nat.le_of_ble_eq_true rfl, Nat.le_of_ble_eq_true rfl⟩ ⟨Nat.zero_le _, Nat.zero_le _⟩ (Nat.le_of_ble_eq_true rfl) rfl dX10_load_19 (fun r w1 hw1 => ?_)
    obtain ⟨hr1, hw1⟩ := hw1
    subst hr1 hw1
    refine ⟨(wMd E a q17.2), by rfl, ?_⟩
    cases h
    exact r_ireti (pc := 22) C hq (Nat.zero_le _) (Nat.zero_le _) dX10_load_22
def M_X10_load (k : Nat) (S : Nat → Nat → Int32) (p0 : Int32) : Option (Int32 × (Nat → Nat → Int32)) := M_X10_load_0 k p0 S
set_option maxRecDepth 100000 in
set_option maxHeartbeats 4000000 in
theorem c_X10_load (E : ENV) (l : Launch) (k : Nat) (a : Nat → Nat) (S : Nat → Nat → Int32) (p0 : Int32) {q : Int32 × (Nat → Nat → Int32)} (hm : M_X10_load k S p0 = some q) : CI E l yX10_load cX10_load 2 (some .int) rm_X10_load [.ref (a 0), .int p0] (wMd E a S) (fun r w' => r = q.1 ∧ w' = (wMd E a q.2)) :=
  CI.of 0 (by decide) (Nat.le_of_ble_eq_true rfl) (fun p e s m below meth c A C _ => r_weak (lSub_s (lSub_s lSub_e)) (N_X10_load_0 C a k p0 S q  hm ⟨rfl, rfl⟩))
-- ShardGuardModel.emit(I)V
theorem dX10_emit_0 : decode cX10_emit 0 = .ok (.aload_n 0, 1) := by decide +kernel
theorem dX10_emit_1 : decode cX10_emit 1 = .ok (.getfield 375, 3) := by decide +kernel
theorem dX10_emit_4 : decode cX10_emit 4 = .ok (.ifCond .ne 23, 3) := by decide +kernel
theorem dX10_emit_7 : decode cX10_emit 7 = .ok (.aload_n 0, 1) := by decide +kernel
theorem dX10_emit_8 : decode cX10_emit 8 = .ok (.getfield 78, 3) := by decide +kernel
theorem dX10_emit_11 : decode cX10_emit 11 = .ok (.aload_n 0, 1) := by decide +kernel
theorem dX10_emit_12 : decode cX10_emit 12 = .ok (.getfield 451, 3) := by decide +kernel
theorem dX10_emit_15 : decode cX10_emit 15 = .ok (.iload_n 1, 1) := by decide +kernel
theorem dX10_emit_16 : decode cX10_emit 16 = .ok (.iastore, 1) := by decide +kernel
theorem dX10_emit_17 : decode cX10_emit 17 = .ok (.aload_n 0, 1) := by decide +kernel
theorem dX10_emit_18 : decode cX10_emit 18 = .ok (.dup, 1) := by decide +kernel
theorem dX10_emit_19 : decode cX10_emit 19 = .ok (.getfield 451, 3) := by decide +kernel
theorem dX10_emit_22 : decode cX10_emit 22 = .ok (.iconst 1, 1) := by decide +kernel
theorem dX10_emit_23 : decode cX10_emit 23 = .ok (.iadd, 1) := by decide +kernel
theorem dX10_emit_24 : decode cX10_emit 24 = .ok (.putfield 451, 3) := by decide +kernel
theorem dX10_emit_27 : decode cX10_emit 27 = .ok (.return_, 1) := by decide +kernel
def rm_X10_emit : Room := { frames := 0, cells := 0, slots := 0, locals := 0 }
def M_X10_emit_0 (k : Nat) (p0 : Int32) (S : Nat → Nat → Int32) : Option ((Nat → Nat → Int32)) := if (S 0 11) = 0 then ((if inb (S 0 15) 200 = true then lt (va_up S 9 (upd (S 9) (S 0 15).toNatClampNeg p0)) fun F3 => lt (va_up F3 0 (upd (F3 0) 15 ((F3 0 15) + (1 : Int32)))) fun F4 => some F4 else none)) else (some S)
set_option maxRecDepth 100000 in
set_option maxHeartbeats 4000000 in
theorem N_X10_emit_0 (C : CX E p l s m args meth c cX10_emit 2 RX10 none A) (a : Nat → Nat) (k : Nat) {post : va_W → Prop} :
    ∀ (p0 : Int32) (S : Nat → Nat → Int32) (q : (Nat → Nat → Int32)), M_X10_emit_0 k p0 S = some q → post (wMd E a q) →
      WW E p l e rm_X10_emit s m args below meth c A 0 0 (QV E below post args s rm_X10_emit A) (wMd E a S) 2 [some (.ref (a 0)), some (.int p0)] 0 [] := by
  intro p0 S q  h hq
  unfold M_X10_emit_0 at h
  refine r_aload_n (pc := 0) C (i := 0) dX10_emit_0 rfl rfl ?_
  refine r_get (pc := 1) C gwX10 0 rfl rfl 19 (by decide) wm_5_222 rfl dX10_emit_1 ?_
  refine r_if_ne (pc := 4) C (tgt := 27) dX10_emit_4 rfl (fun c1 => ?_) (fun c1 => ?_)
  · rw [if_neg c1] at h
    cases h
    exact r_vret (pc := 27) C hq (Nat.zero_le _) (Nat.zero_le _) dX10_emit_27
  · rw [if_pos c1] at h
    refine r_aload_n (pc := 7) C (i := 0) dX10_emit_7 rfl rfl ?_
    refine r_get (pc := 8) C gwX10 0 rfl rfl 25 (by decide) wm_5_228 rfl dX10_emit_8 ?_
    refine r_aload_n (pc := 11) C (i := 0) dX10_emit_11 rfl rfl ?_
    refine r_get (pc := 12) C gwX10 0 rfl rfl 27 (by decide) wm_5_230 rfl dX10_emit_12 ?_
    refine r_iload_n (pc := 15) C (i := 1) dX10_emit_15 rfl rfl ?_
    obtain ⟨hi2, h⟩ := ifn h
    obtain ⟨F3, hF3, h⟩ := lt_e h
    refine r_iast (pc := 16) C 9 rfl hi2 (w' := (wMd E a F3)) (by rw [hF3]; rfl) dX10_emit_16 ?_
    refine r_aload_n (pc := 17) C (i := 0) dX10_emit_17 rfl rfl ?_
    refine r_dup (pc := 18) C dX10_emit_18 rfl ?_
    refine r_get (pc := 19) C gwX10 0 rfl rfl 27 (by decide) wm_5_230 rfl dX10_emit_19 ?_
    refine r_iconst (pc := 22) C (v := 1) dX10_emit_22 (by decide) ?_
    refine r_iadd (pc := 23) C dX10_emit_23 ?_
    obtain ⟨F4, hF4, h⟩ := lt_e h
    refine r_put (pc := 24) C gwX10 tyX10 tyX10_ok nmX10 0 rfl rfl 27 (by decide) wm_5_230 rfl rfl rfl rfl (Nat.le_of_ble_eq_true rfl) (w' := (wMd E a F4)) (by rw [hF4]; rfl) dX10_emit_24 ?_
    cases h
    exact r_vret (pc := 27) C hq (Nat.zero_le _) (Nat.zero_le _) dX10_emit_27
def M_X10_emit (k : Nat) (S : Nat → Nat → Int32) (p0 : Int32) : Option ((Nat → Nat → Int32)) := M_X10_emit_0 k p0 S
set_option maxRecDepth 100000 in
set_option maxHeartbeats 4000000 in
theorem c_X10_emit (E : ENV) (l : Launch) (k : Nat) (a : Nat → Nat) (S : Nat → Nat → Int32) (p0 : Int32) {q : (Nat → Nat → Int32)} (hm : M_X10_emit k S p0 = some q) : CV E l yX10_emit cX10_emit 2 none rm_X10_emit [.ref (a 0), .int p0] (wMd E a S) (fun w' => w' = (wMd E a q)) :=
  CV.of 0 (by decide) (Nat.le_of_ble_eq_true rfl) (fun p e s m below meth c A C _ => r_weak (lSub_s (lSub_s lSub_e)) (N_X10_emit_0 C a k p0 S q  hm rfl))
-- ShardGuardModel.enter()V
theorem dX10_enter_0 : decode cX10_enter 0 = .ok (.aload_n 0, 1) := by decide +kernel
theorem dX10_enter_1 : decode cX10_enter 1 = .ok (.aload_n 0, 1) := by decide +kernel
theorem dX10_enter_2 : decode cX10_enter 2 = .ok (.getfield 378, 3) := by decide +kernel
theorem dX10_enter_5 : decode cX10_enter 5 = .ok (.bipush 6, 2) := by decide +kernel
theorem dX10_enter_7 : decode cX10_enter 7 = .ok (.if_icmp .ge 7, 3) := by decide +kernel
theorem dX10_enter_10 : decode cX10_enter 10 = .ok (.iconst 1, 1) := by decide +kernel
theorem dX10_enter_11 : decode cX10_enter 11 = .ok (.goto 4, 3) := by decide +kernel
theorem dX10_enter_14 : decode cX10_enter 14 = .ok (.iconst 0, 1) := by decide +kernel
theorem dX10_enter_15 : decode cX10_enter 15 = .ok (.iconst 3, 1) := by decide +kernel
theorem dX10_enter_16 : decode cX10_enter 16 = .ok (.invokevirtual 394, 3) := by decide +kernel
theorem dX10_enter_19 : decode cX10_enter 19 = .ok (.aload_n 0, 1) := by decide +kernel
theorem dX10_enter_20 : decode cX10_enter 20 = .ok (.dup, 1) := by decide +kernel
theorem dX10_enter_21 : decode cX10_enter 21 = .ok (.getfield 378, 3) := by decide +kernel
theorem dX10_enter_24 : decode cX10_enter 24 = .ok (.iconst 1, 1) := by decide +kernel
theorem dX10_enter_25 : decode cX10_enter 25 = .ok (.iadd, 1) := by decide +kernel
theorem dX10_enter_26 : decode cX10_enter 26 = .ok (.putfield 378, 3) := by decide +kernel
theorem dX10_enter_29 : decode cX10_enter 29 = .ok (.aload_n 0, 1) := by decide +kernel
theorem dX10_enter_30 : decode cX10_enter 30 = .ok (.invokevirtual 398, 3) := by decide +kernel
theorem dX10_enter_33 : decode cX10_enter 33 = .ok (.return_, 1) := by decide +kernel
def rm_X10_enter : Room := { frames := 4, cells := 0, slots := 0, locals := 82 }
def M_X10_enter_15 (k : Nat) (y1 : Int32) (S : Nat → Nat → Int32) : Option ((Nat → Nat → Int32)) := (M_X10_check k S y1 (3 : Int32)).bind fun q1 => lt (va_up q1 0 (upd (q1 0) 14 ((q1 0 14) + (1 : Int32)))) fun F2 => (M_X10_advance k F2).bind fun q3 => some q3
set_option maxRecDepth 100000 in
set_option maxHeartbeats 4000000 in
theorem N_X10_enter_15 (C : CX E p l s m args meth c cX10_enter 1 RX10 none A) (a : Nat → Nat) (k : Nat) {post : va_W → Prop} :
    ∀ (y1 : Int32) (S : Nat → Nat → Int32) (q : (Nat → Nat → Int32)), M_X10_enter_15 k y1 S = some q → post (wMd E a q) →
      WW E p l e rm_X10_enter s m args below meth c A 0 0 (QV E below post args s rm_X10_enter A) (wMd E a S) 1 [some (.ref (a 0))] 15 [.int y1, .ref (a 0)] := by
  intro y1 S q  h hq
  unfold M_X10_enter_15 at h
  refine r_iconst (pc := 15) C (v := 3) dX10_enter_15 (by decide) ?_
  obtain ⟨q1, hq1, h⟩ := bnd h
  refine r_callV_CV (Cn := RX10) (pc := 16) C [.int y1, .int (3 : Int32)] (c_X10_check E l k a S y1 (3 : Int32) hq1) [0, 1, 2, 3, 4, 5, 6, 7, 8, 9, 10, 11, 12] rfl (by decide) 0 rfl rfl rfl g_X10_394 hd_X10_check ⟨Nat.le_of_ble_eq_true rfl, Nat.le_of_ble_eq_true rfl⟩ ⟨Nat.zero_le _, Nat.zero_le _⟩ (Nat.le_of_ble_eq_true rfl) rfl dX10_enter_16 (fun w1 hw1 => ?_)
  subst hw1
  refine ⟨(wMd E a q1), by rfl, ?_⟩
  refine r_aload_n (pc := 19) C (i := 0) dX10_enter_19 rfl rfl ?_
  refine r_dup (pc := 20) C dX10_enter_20 rfl ?_
  refine r_get (pc := 21) C gwX10 0 rfl rfl 22 (by decide) wm_5_225 rfl dX10_enter_21 ?_
  refine r_iconst (pc := 24) C (v := 1) dX10_enter_24 (by decide) ?_
  refine r_iadd (pc := 25) C dX10_enter_25 ?_
  obtain ⟨F2, hF2, h⟩ := lt_e h
  refine r_put (pc := 26) C gwX10 tyX10 tyX10_ok nmX10 0 rfl rfl 22 (by decide) wm_5_225 rfl rfl rfl rfl (Nat.le_of_ble_eq_true rfl) (w' := (wMd E a F2)) (by rw [hF2]; rfl) dX10_enter_26 ?_
  refine r_aload_n (pc := 29) C (i := 0) dX10_enter_29 rfl rfl ?_
  obtain ⟨q3, hq3, h⟩ := bnd h
  refine r_callV_CV (Cn := RX10) (pc := 30) C [] (c_X10_advance E l k a F2 hq3) [0, 1, 2, 3, 4, 5, 6, 7, 8, 9, 10, 11, 12] rfl (by decide) 0 rfl rfl rfl g_X10_398 hd_X10_advance ⟨Nat.le_of_ble_eq_true rfl, Nat.le_of_ble_eq_true rfl⟩ ⟨Nat.zero_le _, Nat.zero_le _⟩ (Nat.le_of_ble_eq_true rfl) rfl dX10_enter_30 (fun w1 hw1 => ?_)
  subst hw1
  refine ⟨(wMd E a q3), by rfl, ?_⟩
  cases h
  exact r_vret (pc := 33) C hq (Nat.zero_le _) (Nat.zero_le _) dX10_enter_33
def M_X10_enter_0 (k : Nat) (S : Nat → Nat → Int32) : Option ((Nat → Nat → Int32)) := if (6 : Int32) ≤ (S 0 14) then (M_X10_enter_15 k (0 : Int32) S) else (M_X10_enter_15 k (1 : Int32) S)
set_option maxRecDepth 100000 in
set_option maxHeartbeats 4000000 in
theorem N_X10_enter_0 (C : CX E p l s m args meth c cX10_enter 1 RX10 none A) (a : Nat → Nat) (k : Nat) {post : va_W → Prop} :
    ∀ (S : Nat → Nat → Int32) (q : (Nat → Nat → Int32)), M_X10_enter_0 k S = some q → post (wMd E a q) →
      WW E p l e rm_X10_enter s m args below meth c A 0 0 (QV E below post args s rm_X10_enter A) (wMd E a S) 1 [some (.ref (a 0))] 0 [] := by
  intro S q  h hq
  unfold M_X10_enter_0 at h
  refine r_aload_n (pc := 0) C (i := 0) dX10_enter_0 rfl rfl ?_
  refine r_aload_n (pc := 1) C (i := 0) dX10_enter_1 rfl rfl ?_
  refine r_get (pc := 2) C gwX10 0 rfl rfl 22 (by decide) wm_5_225 rfl dX10_enter_2 ?_
  refine r_bipush (pc := 5) C (v := 6) dX10_enter_5 (by decide) ?_
  refine r_icmp_ge (pc := 7) C (tgt := 14) dX10_enter_7 rfl (fun c4 => ?_) (fun c4 => ?_)
  · rw [if_pos c4] at h
    refine r_iconst (pc := 14) C (v := 0) dX10_enter_14 (by decide) ?_
    refine r_weak (lSub_s lSub_e) ?_
    exact N_X10_enter_15 C a k (0 : Int32) S q  h hq
  · rw [if_neg c4] at h
    refine r_iconst (pc := 10) C (v := 1) dX10_enter_10 (by decide) ?_
    refine r_goto (pc := 11) C (tgt := 15) dX10_enter_11 rfl ?_
    refine r_weak (lSub_s lSub_e) ?_
    exact N_X10_enter_15 C a k (1 : Int32) S q  h hq
def M_X10_enter (k : Nat) (S : Nat → Nat → Int32) : Option ((Nat → Nat → Int32)) := M_X10_enter_0 k S
set_option maxRecDepth 100000 in
set_option maxHeartbeats 4000000 in
theorem c_X10_enter (E : ENV) (l : Launch) (k : Nat) (a : Nat → Nat) (S : Nat → Nat → Int32) {q : (Nat → Nat → Int32)} (hm : M_X10_enter k S = some q) : CV E l yX10_enter cX10_enter 1 none rm_X10_enter [.ref (a 0)] (wMd E a S) (fun w' => w' = (wMd E a q)) :=
  CV.of 0 (by decide) (Nat.le_of_ble_eq_true rfl) (fun p e s m below meth c A C _ => r_weak (lSub_s lSub_e) (N_X10_enter_0 C a k S q  hm rfl))
theorem hd_X10_emit : yX10_emit.cls = RX10 ∧ yX10_emit.cls ≠ "java/lang/invoke/MethodHandle" ∧ yX10_emit.cls ≠ "java/lang/invoke/VarHandle" ∧ (parseMethodDescriptor yX10_emit.desc).map (fun d => d.parameters.length) = some 1 := by decide +kernel
theorem g_X10_454 : GoodIn GW (wsV RX10 454 RX10 yX10_emit (wsG yX10_emit cX10_emit 2 none)) := gw_V wm_8_94 wm_8_96 wm_0_103 wm_1_9 wm_8_97
-- ShardGuardModel.compileValue()V
theorem dX10_compileValue_0 : decode cX10_compileValue 0 = .ok (.aload_n 0, 1) := by decide +kernel
theorem dX10_compileValue_1 : decode cX10_compileValue 1 = .ok (.getfield 375, 3) := by decide +kernel
theorem dX10_compileValue_4 : decode cX10_compileValue 4 = .ok (.ifCond .ne 11, 3) := by decide +kernel
theorem dX10_compileValue_7 : decode cX10_compileValue 7 = .ok (.aload_n 0, 1) := by decide +kernel
theorem dX10_compileValue_8 : decode cX10_compileValue 8 = .ok (.getfield 366, 3) := by decide +kernel
theorem dX10_compileValue_11 : decode cX10_compileValue 11 = .ok (.iconst 2, 1) := by decide +kernel
theorem dX10_compileValue_12 : decode cX10_compileValue 12 = .ok (.if_icmp .ne 16, 3) := by decide +kernel
theorem dX10_compileValue_15 : decode cX10_compileValue 15 = .ok (.aload_n 0, 1) := by decide +kernel
theorem dX10_compileValue_16 : decode cX10_compileValue 16 = .ok (.aload_n 0, 1) := by decide +kernel
theorem dX10_compileValue_17 : decode cX10_compileValue 17 = .ok (.iconst 0, 1) := by decide +kernel
theorem dX10_compileValue_18 : decode cX10_compileValue 18 = .ok (.sipush 9999, 3) := by decide +kernel
theorem dX10_compileValue_21 : decode cX10_compileValue 21 = .ok (.invokevirtual 416, 3) := by decide +kernel
theorem dX10_compileValue_24 : decode cX10_compileValue 24 = .ok (.invokevirtual 454, 3) := by decide +kernel
theorem dX10_compileValue_27 : decode cX10_compileValue 27 = .ok (.return_, 1) := by decide +kernel
theorem dX10_compileValue_28 : decode cX10_compileValue 28 = .ok (.iconst 0, 1) := by decide +kernel
theorem dX10_compileValue_29 : decode cX10_compileValue 29 = .ok (.istore_n 1, 1) := by decide +kernel
theorem dX10_compileValue_30 : decode cX10_compileValue 30 = .ok (.iload_n 1, 1) := by decide +kernel
theorem dX10_compileValue_31 : decode cX10_compileValue 31 = .ok (.aload_n 0, 1) := by decide +kernel
theorem dX10_compileValue_32 : decode cX10_compileValue 32 = .ok (.getfield 75, 3) := by decide +kernel
theorem dX10_compileValue_35 : decode cX10_compileValue 35 = .ok (.arraylength, 1) := by decide +kernel
theorem dX10_compileValue_36 : decode cX10_compileValue 36 = .ok (.if_icmp .ge 22, 3) := by decide +kernel
theorem dX10_compileValue_39 : decode cX10_compileValue 39 = .ok (.aload_n 0, 1) := by decide +kernel
theorem dX10_compileValue_40 : decode cX10_compileValue 40 = .ok (.aload_n 0, 1) := by decide +kernel
theorem dX10_compileValue_41 : decode cX10_compileValue 41 = .ok (.getfield 75, 3) := by decide +kernel
theorem dX10_compileValue_44 : decode cX10_compileValue 44 = .ok (.iload_n 1, 1) := by decide +kernel
theorem dX10_compileValue_45 : decode cX10_compileValue 45 = .ok (.aaload, 1) := by decide +kernel
theorem dX10_compileValue_46 : decode cX10_compileValue 46 = .ok (.invokevirtual 390, 3) := by decide +kernel
theorem dX10_compileValue_49 : decode cX10_compileValue 49 = .ok (.ifCond .ne 9, 3) := by decide +kernel
theorem dX10_compileValue_52 : decode cX10_compileValue 52 = .ok (.iinc 1 1, 3) := by decide +kernel
theorem dX10_compileValue_55 : decode cX10_compileValue 55 = .ok (.goto (-25), 3) := by decide +kernel
theorem dX10_compileValue_58 : decode cX10_compileValue 58 = .ok (.aload_n 0, 1) := by decide +kernel
theorem dX10_compileValue_59 : decode cX10_compileValue 59 = .ok (.iload_n 1, 1) := by decide +kernel
theorem dX10_compileValue_60 : decode cX10_compileValue 60 = .ok (.aload_n 0, 1) := by decide +kernel
theorem dX10_compileValue_61 : decode cX10_compileValue 61 = .ok (.getfield 75, 3) := by decide +kernel
theorem dX10_compileValue_64 : decode cX10_compileValue 64 = .ok (.arraylength, 1) := by decide +kernel
theorem dX10_compileValue_65 : decode cX10_compileValue 65 = .ok (.if_icmp .ge 7, 3) := by decide +kernel
theorem dX10_compileValue_68 : decode cX10_compileValue 68 = .ok (.iconst 1, 1) := by decide +kernel
theorem dX10_compileValue_69 : decode cX10_compileValue 69 = .ok (.goto 4, 3) := by decide +kernel
theorem dX10_compileValue_72 : decode cX10_compileValue 72 = .ok (.iconst 0, 1) := by decide +kernel
theorem dX10_compileValue_73 : decode cX10_compileValue 73 = .ok (.iconst 1, 1) := by decide +kernel
theorem dX10_compileValue_74 : decode cX10_compileValue 74 = .ok (.invokevirtual 394, 3) := by decide +kernel
theorem dX10_compileValue_77 : decode cX10_compileValue 77 = .ok (.aload_n 0, 1) := by decide +kernel
theorem dX10_compileValue_78 : decode cX10_compileValue 78 = .ok (.iconst (-1), 1) := by decide +kernel
theorem dX10_compileValue_79 : decode cX10_compileValue 79 = .ok (.iload_n 1, 1) := by decide +kernel
theorem dX10_compileValue_80 : decode cX10_compileValue 80 = .ok (.isub, 1) := by decide +kernel
theorem dX10_compileValue_81 : decode cX10_compileValue 81 = .ok (.invokevirtual 454, 3) := by decide +kernel
theorem dX10_compileValue_84 : decode cX10_compileValue 84 = .ok (.aload_n 0, 1) := by decide +kernel
theorem dX10_compileValue_85 : decode cX10_compileValue 85 = .ok (.invokevirtual 398, 3) := by decide +kernel
theorem dX10_compileValue_88 : decode cX10_compileValue 88 = .ok (.return_, 1) := by decide +kernel
def rm_X10_compileValue : Room := { frames := 7, cells := 0, slots := 0, locals := 173 }
def M_X10_compileValue_73 (k : Nat) (x1 : Int32) (y1 : Int32) (S : Nat → Nat → Int32) : Option ((Nat → Nat → Int32)) := (M_X10_check k S y1 (1 : Int32)).bind fun q1 => (M_X10_emit k q1 ((-1 : Int32) - x1)).bind fun q2 => (M_X10_advance k q2).bind fun q3 => some q3
set_option maxRecDepth 100000 in
set_option maxHeartbeats 4000000 in
theorem N_X10_compileValue_73 (C : CX E p l s m args meth c cX10_compileValue 2 RX10 none A) (a : Nat → Nat) (k : Nat) {post : va_W → Prop} :
    ∀ (x1 : Int32) (y1 : Int32) (S : Nat → Nat → Int32) (q : (Nat → Nat → Int32)), M_X10_compileValue_73 k x1 y1 S = some q → post (wMd E a q) →
      WW E p l e rm_X10_compileValue s m args below meth c A 0 0 (QV E below post args s rm_X10_compileValue A) (wMd E a S) 2 [some (.ref (a 0)), some (.int x1)] 73 [.int y1, .ref (a 0)] := by
  intro x1 y1 S q  h hq
  unfold M_X10_compileValue_73 at h
  refine r_iconst (pc := 73) C (v := 1) dX10_compileValue_73 (by decide) ?_
  obtain ⟨q1, hq1, h⟩ := bnd h
  refine r_callV_CV (Cn := RX10) (pc := 74) C [.int y1, .int (1 : Int32)] (c_X10_check E l k a S y1 (1 : Int32) hq1) [0, 1, 2, 3, 4, 5, 6, 7, 8, 9, 10, 11, 12] rfl (by decide) 0 rfl rfl rfl g_X10_394 hd_X10_check ⟨Nat.le_of_ble_eq_true rfl, Nat.le_of_ble_eq_true rfl⟩ ⟨Nat.zero_le _, Nat.zero_le _⟩ (Nat.le_of_ble_eq_true rfl) rfl dX10_compileValue_74 (fun w1 hw1 => ?_)
  subst hw1
  refine ⟨(wMd E a q1), by rfl, ?_⟩
  refine r_aload_n (pc := 77) C (i := 0) dX10_compileValue_77 rfl rfl ?_
  refine r_iconst (pc := 78) C (v := (-1)) dX10_compileValue_78 (by decide) ?_
  refine r_iload_n (pc := 79) C (i := 1) dX10_compileValue_79 rfl rfl ?_
  refine r_isub (pc := 80) C dX10_compileValue_80 ?_
  obtain ⟨q2, hq2, h⟩ := bnd h
  refine r_callV_CV (Cn := RX10) (pc := 81) C [.int ((-1 : Int32) - x1)] (c_X10_emit E l k a q1 ((-1 : Int32) - x1) hq2) [0, 1, 2, 3, 4, 5, 6, 7, 8, 9, 10, 11, 12] rfl (by decide) 0 rfl rfl rfl g_X10_454 hd_X10_emit ⟨Nat.le_of_ble_eq_true rfl, Nat.le_of_ble_eq_true rfl⟩ ⟨Nat.zero_le _, Nat.zero_le _⟩ (Nat.le_of_ble_eq_true rfl) rfl dX10_compileValue_81 (fun w1 hw1 => ?_)
  subst hw1
  refine ⟨(wMd E a q2), by rfl, ?_⟩
  refine r_aload_n (pc := 84) C (i := 0) dX10_compileValue_84 rfl rfl ?_
  obtain ⟨q3, hq3, h⟩ := bnd h
  refine r_callV_CV (Cn := RX10) (pc := 85) C [] (c_X10_advance E l k a q2 hq3) [0, 1, 2, 3, 4, 5, 6, 7, 8, 9, 10, 11, 12] rfl (by decide) 0 rfl rfl rfl g_X10_398 hd_X10_advance ⟨Nat.le_of_ble_eq_true rfl, Nat.le_of_ble_eq_true rfl⟩ ⟨Nat.zero_le _, Nat.zero_le _⟩ (Nat.le_of_ble_eq_true rfl) rfl dX10_compileValue_85 (fun w1 hw1 => ?_)
  subst hw1
  refine ⟨(wMd E a q3), by rfl, ?_⟩
  cases h
  exact r_vret (pc := 88) C hq (Nat.zero_le _) (Nat.zero_le _) dX10_compileValue_88
def M_X10_compileValue_58 (k : Nat) (x1 : Int32) (S : Nat → Nat → Int32) : Option ((Nat → Nat → Int32)) := if (nI 9) ≤ x1 then (M_X10_compileValue_73 k x1 (0 : Int32) S) else (M_X10_compileValue_73 k x1 (1 : Int32) S)
set_option maxRecDepth 100000 in
set_option maxHeartbeats 4000000 in
theorem N_X10_compileValue_58 (C : CX E p l s m args meth c cX10_compileValue 2 RX10 none A) (a : Nat → Nat) (k : Nat) {post : va_W → Prop} :
    ∀ (x1 : Int32) (S : Nat → Nat → Int32) (q : (Nat → Nat → Int32)), M_X10_compileValue_58 k x1 S = some q → post (wMd E a q) →
      WW E p l e rm_X10_compileValue s m args below meth c A 0 0 (QV E below post args s rm_X10_compileValue A) (wMd E a S) 2 [some (.ref (a 0)), some (.int x1)] 58 [] := by
  intro x1 S q  h hq
  unfold M_X10_compileValue_58 at h
  refine r_aload_n (pc := 58) C (i := 0) dX10_compileValue_58 rfl rfl ?_
  refine r_iload_n (pc := 59) C (i := 1) dX10_compileValue_59 rfl rfl ?_
  refine r_aload_n (pc := 60) C (i := 0) dX10_compileValue_60 rfl rfl ?_
  refine r_get (pc := 61) C gwX10 0 rfl rfl 24 (by decide) wm_5_227 rfl dX10_compileValue_61 ?_
  refine r_alen (pc := 64) C 12 3 rfl rfl dX10_compileValue_64 ?_
  refine r_icmp_ge (pc := 65) C (tgt := 72) dX10_compileValue_65 rfl (fun c4 => ?_) (fun c4 => ?_)
  · rw [if_pos c4] at h
    refine r_iconst (pc := 72) C (v := 0) dX10_compileValue_72 (by decide) ?_
    refine r_weak (lSub_s (lSub_s lSub_e)) ?_
    exact N_X10_compileValue_73 C a k x1 (0 : Int32) S q  h hq
  · rw [if_neg c4] at h
    refine r_iconst (pc := 68) C (v := 1) dX10_compileValue_68 (by decide) ?_
    refine r_goto (pc := 69) C (tgt := 73) dX10_compileValue_69 rfl ?_
    refine r_weak (lSub_s (lSub_s lSub_e)) ?_
    exact N_X10_compileValue_73 C a k x1 (1 : Int32) S q  h hq
def M_X10_compileValue_30 (k : Nat) : Nat → (Int32) → (Nat → Nat → Int32) → Option ((Nat → Nat → Int32))
  | 0, _, _ => none
  | n + 1, x1, S => if (nI 9) ≤ x1 then (M_X10_compileValue_58 k x1 S) else ((if inb x1 9 = true then lt (59 + x1.toNatClampNeg) fun j7 => (M_X10_isWord k S j7).bind fun q8 => if q8 = 0 then (M_X10_compileValue_30 k n (x1 + 1) S) else (M_X10_compileValue_58 k x1 S) else none))
theorem M_X10_compileValue_30_s (k : Nat) (n : Nat) (x1 : Int32) (S : Nat → Nat → Int32) : M_X10_compileValue_30 k (n + 1) x1 S = (if (nI 9) ≤ x1 then (M_X10_compileValue_58 k x1 S) else ((if inb x1 9 = true then lt (59 + x1.toNatClampNeg) fun j7 => (M_X10_isWord k S j7).bind fun q8 => if q8 = 0 then (M_X10_compileValue_30 k n (x1 + 1) S) else (M_X10_compileValue_58 k x1 S) else none))) := rfl
set_option maxRecDepth 100000 in
set_option maxHeartbeats 4000000 in
theorem N_X10_compileValue_30 (C : CX E p l s m args meth c cX10_compileValue 2 RX10 none A) (a : Nat → Nat) (k : Nat) {post : va_W → Prop} :
    ∀ (n : Nat) (x1 : Int32) (S : Nat → Nat → Int32) (q : (Nat → Nat → Int32)), M_X10_compileValue_30 k n x1 S = some q → post (wMd E a q) →
      WW E p l e rm_X10_compileValue s m args below meth c A 0 0 (QV E below post args s rm_X10_compileValue A) (wMd E a S) 2 [some (.ref (a 0)), some (.int x1)] 30 [] := by
  intro n
  induction n with
  | zero => intro x1 S q  h _; cases h
  | succ n ih =>
    intro x1 S q  h hq
    rw [M_X10_compileValue_30_s] at h
    refine r_iload_n (pc := 30) C (i := 1) dX10_compileValue_30 rfl rfl ?_
    refine r_aload_n (pc := 31) C (i := 0) dX10_compileValue_31 rfl rfl ?_
    refine r_get (pc := 32) C gwX10 0 rfl rfl 24 (by decide) wm_5_227 rfl dX10_compileValue_32 ?_
    refine r_alen (pc := 35) C 12 3 rfl rfl dX10_compileValue_35 ?_
    refine r_icmp_ge (pc := 36) C (tgt := 58) dX10_compileValue_36 rfl (fun c5 => ?_) (fun c5 => ?_)
    · rw [if_pos c5] at h
      refine r_weak (lSub_s (lSub_s lSub_e)) ?_
      exact N_X10_compileValue_58 C a k x1 S q  h hq
    · rw [if_neg c5] at h
      refine r_aload_n (pc := 39) C (i := 0) dX10_compileValue_39 rfl rfl ?_
      refine r_aload_n (pc := 40) C (i := 0) dX10_compileValue_40 rfl rfl ?_
      refine r_get (pc := 41) C gwX10 0 rfl rfl 24 (by decide) wm_5_227 rfl dX10_compileValue_41 ?_
      refine r_iload_n (pc := 44) C (i := 1) dX10_compileValue_44 rfl rfl ?_
      obtain ⟨hi6, h⟩ := ifn h
      obtain ⟨j7, ej7, h⟩ := lt_e h
      have hj_j7 : j7 < 79 := by rw [ej7]; exact strLt hi6 (by decide)
      refine r_aald (pc := 45) C 12 rfl hi6 (strF_at hi6) dX10_compileValue_45 ?_
      refine r_topg (a := eS E) ej7 ?_
      obtain ⟨q8, hq8, h⟩ := bnd h
      refine r_callVp_CI (Cn := RX10) (pc := 46) C [.ref (eS E j7)] (c_X10_isWord E l k a S j7 hj_j7 hq8) [0, 1, 2, 3, 4, 5, 6, 7, 8, 9, 10, 11, 12] rfl (by decide) 0 rfl rfl rfl g_X10_390 hd_X10_isWord ⟨Nat.le_of_ble_eq_true rfl, Nat.le_of_ble_eq_true rfl⟩ ⟨Nat.zero_le _, Nat.zero_le _⟩ (Nat.le_of_ble_eq_true rfl) rfl dX10_compileValue_46 (fun r hr => ?_)
      have hr := hr.symm
      subst hr
      refine r_if_ne (pc := 49) C (tgt := 58) dX10_compileValue_49 rfl (fun c9 => ?_) (fun c9 => ?_)
      · rw [if_neg c9] at h
        refine r_weak (lSub_s (lSub_s lSub_e)) ?_
        exact N_X10_compileValue_58 C a k x1 S q  h hq
      · rw [if_pos c9] at h
        refine r_iinc (pc := 52) C (v := (x1 + 1)) dX10_compileValue_52 rfl rfl (by decide) rfl ?_
        refine r_goto (pc := 55) C (tgt := 30) dX10_compileValue_55 rfl ?_
        refine r_weak (lSub_s (lSub_s lSub_e)) ?_
        exact ih (x1 + 1) S q  h hq
def M_X10_compileValue_15 (k : Nat) (S : Nat → Nat → Int32) : Option ((Nat → Nat → Int32)) := (M_X10_readNumber k S (0 : Int32) (9999 : Int32)).bind fun q10 => (M_X10_emit k q10.2 q10.1).bind fun q11 => some q11
set_option maxRecDepth 100000 in
set_option maxHeartbeats 4000000 in
theorem N_X10_compileValue_15 (C : CX E p l s m args meth c cX10_compileValue 2 RX10 none A) (a : Nat → Nat) (k : Nat) {post : va_W → Prop} :
    ∀ (S : Nat → Nat → Int32) (q : (Nat → Nat → Int32)), M_X10_compileValue_15 k S = some q → post (wMd E a q) →
      WW E p l e rm_X10_compileValue s m args below meth c A 0 0 (QV E below post args s rm_X10_compileValue A) (wMd E a S) 2 [some (.ref (a 0)), none] 15 [] := by
  intro S q  h hq
  unfold M_X10_compileValue_15 at h
  refine r_aload_n (pc := 15) C (i := 0) dX10_compileValue_15 rfl rfl ?_
  refine r_aload_n (pc := 16) C (i := 0) dX10_compileValue_16 rfl rfl ?_
  refine r_iconst (pc := 17) C (v := 0) dX10_compileValue_17 (by decide) ?_
  refine r_sipush (pc := 18) C (v := 9999) dX10_compileValue_18 (by decide) ?_
  obtain ⟨q10, hq10, h⟩ := bnd h
  refine r_callV_CI (Cn := RX10) (pc := 21) C [.int (0 : Int32), .int (9999 : Int32)] (c_X10_readNumber E l k a S (0 : Int32) (9999 : Int32) hq10) [0, 1, 2, 3, 4, 5, 6, 7, 8, 9, 10, 11, 12] rfl (by decide) 0 rfl rfl rfl g_X10_416 hd_X10_readNumber ⟨Nat.le_of_ble_eq_true rfl, Nat.le_of_ble_eq_true rfl⟩ ⟨Nat.zero_le _, Nat.zero_le _⟩ (Nat.le_of_ble_eq_true rfl) rfl dX10_compileValue_21 (fun r w1 hw1 => ?_)
  obtain ⟨hr1, hw1⟩ := hw1
  subst hr1 hw1
  refine ⟨(wMd E a q10.2), by rfl, ?_⟩
  obtain ⟨q11, hq11, h⟩ := bnd h
  refine r_callV_CV (Cn := RX10) (pc := 24) C [.int q10.1] (c_X10_emit E l k a q10.2 q10.1 hq11) [0, 1, 2, 3, 4, 5, 6, 7, 8, 9, 10, 11, 12] rfl (by decide) 0 rfl rfl rfl g_X10_454 hd_X10_emit ⟨Nat.le_of_ble_eq_true rfl, Nat.le_of_ble_eq_true rfl⟩ ⟨Nat.zero_le _, Nat.zero_le _⟩ (Nat.le_of_ble_eq_true rfl) rfl dX10_compileValue_24 (fun w1 hw1 => ?_)
  subst hw1
  refine ⟨(wMd E a q11), by rfl, ?_⟩
  cases h
  exact r_vret (pc := 27) C hq (Nat.zero_le _) (Nat.zero_le _) dX10_compileValue_27
def M_X10_compileValue_0 (k : Nat) (S : Nat → Nat → Int32) : Option ((Nat → Nat → Int32)) := if (S 0 11) = 0 then (if (S 0 10) = (2 : Int32) then (M_X10_compileValue_15 k S) else (M_X10_compileValue_30 k k (0 : Int32) S)) else (M_X10_compileValue_15 k S)
set_option maxRecDepth 100000 in
set_option maxHeartbeats 4000000 in
theorem N_X10_compileValue_0 (C : CX E p l s m args meth c cX10_compileValue 2 RX10 none A) (a : Nat → Nat) (k : Nat) {post : va_W → Prop} :
    ∀ (S : Nat → Nat → Int32) (q : (Nat → Nat → Int32)), M_X10_compileValue_0 k S = some q → post (wMd E a q) →
      WW E p l e rm_X10_compileValue s m args below meth c A 0 0 (QV E below post args s rm_X10_compileValue A) (wMd E a S) 2 [some (.ref (a 0)), none] 0 [] := by
  intro S q  h hq
  unfold M_X10_compileValue_0 at h
  refine r_aload_n (pc := 0) C (i := 0) dX10_compileValue_0 rfl rfl ?_
  refine r_get (pc := 1) C gwX10 0 rfl rfl 19 (by decide) wm_5_222 rfl dX10_compileValue_1 ?_
  refine r_if_ne (pc := 4) C (tgt := 15) dX10_compileValue_4 rfl (fun c12 => ?_) (fun c12 => ?_)
  · rw [if_neg c12] at h
    refine r_weak (lSub_s (lSub_n lSub_e)) ?_
    exact N_X10_compileValue_15 C a k S q  h hq
  · rw [if_pos c12] at h
    refine r_aload_n (pc := 7) C (i := 0) dX10_compileValue_7 rfl rfl ?_
    refine r_get (pc := 8) C gwX10 0 rfl rfl 18 (by decide) wm_5_221 rfl dX10_compileValue_8 ?_
    refine r_iconst (pc := 11) C (v := 2) dX10_compileValue_11 (by decide) ?_
    refine r_icmp_ne (pc := 12) C (tgt := 28) dX10_compileValue_12 rfl (fun c13 => ?_) (fun c13 => ?_)
    · rw [if_neg c13] at h
      refine r_iconst (pc := 28) C (v := 0) dX10_compileValue_28 (by decide) ?_
      refine r_istore_n (pc := 29) C (i := 1) dX10_compileValue_29 rfl (by decide) rfl ?_
      refine r_weak (lSub_s (lSub_s lSub_e)) ?_
      exact N_X10_compileValue_30 C a k k (0 : Int32) S q  h hq
    · rw [if_pos c13] at h
      refine r_weak (lSub_s (lSub_n lSub_e)) ?_
      exact N_X10_compileValue_15 C a k S q  h hq
def M_X10_compileValue (k : Nat) (S : Nat → Nat → Int32) : Option ((Nat → Nat → Int32)) := M_X10_compileValue_0 k S
set_option maxRecDepth 100000 in
set_option maxHeartbeats 4000000 in
theorem c_X10_compileValue (E : ENV) (l : Launch) (k : Nat) (a : Nat → Nat) (S : Nat → Nat → Int32) {q : (Nat → Nat → Int32)} (hm : M_X10_compileValue k S = some q) : CV E l yX10_compileValue cX10_compileValue 2 none rm_X10_compileValue [.ref (a 0)] (wMd E a S) (fun w' => w' = (wMd E a q)) :=
  CV.of 1 (by decide) (Nat.le_of_ble_eq_true rfl) (fun p e s m below meth c A C _ => r_weak (lSub_s (lSub_n lSub_e)) (N_X10_compileValue_0 C a k S q  hm rfl))
-- ShardGuardModel.operate(IJJ)J
theorem dX10_operate_0 : decode cX10_operate 0 = .ok (.iload_n 0, 1) := by decide +kernel
theorem dX10_operate_1 : decode cX10_operate 1 = .ok (.tableswitch 75 (-24) (-20) #[71, 75, 59, 47, 35], 35) := by decide +kernel
theorem dX10_operate_36 : decode cX10_operate 36 = .ok (.lload_n 1, 1) := by decide +kernel
theorem dX10_operate_37 : decode cX10_operate 37 = .ok (.lload_n 3, 1) := by decide +kernel
theorem dX10_operate_38 : decode cX10_operate 38 = .ok (.lcmp, 1) := by decide +kernel
theorem dX10_operate_39 : decode cX10_operate 39 = .ok (.ifCond .ge 7, 3) := by decide +kernel
theorem dX10_operate_42 : decode cX10_operate 42 = .ok (.lconst 1, 1) := by decide +kernel
theorem dX10_operate_43 : decode cX10_operate 43 = .ok (.goto 4, 3) := by decide +kernel
theorem dX10_operate_46 : decode cX10_operate 46 = .ok (.lconst 0, 1) := by decide +kernel
theorem dX10_operate_47 : decode cX10_operate 47 = .ok (.lreturn, 1) := by decide +kernel
theorem dX10_operate_48 : decode cX10_operate 48 = .ok (.lload_n 1, 1) := by decide +kernel
theorem dX10_operate_49 : decode cX10_operate 49 = .ok (.lload_n 3, 1) := by decide +kernel
theorem dX10_operate_50 : decode cX10_operate 50 = .ok (.lcmp, 1) := by decide +kernel
theorem dX10_operate_51 : decode cX10_operate 51 = .ok (.ifCond .ne 7, 3) := by decide +kernel
theorem dX10_operate_54 : decode cX10_operate 54 = .ok (.lconst 1, 1) := by decide +kernel
theorem dX10_operate_55 : decode cX10_operate 55 = .ok (.goto 4, 3) := by decide +kernel
theorem dX10_operate_58 : decode cX10_operate 58 = .ok (.lconst 0, 1) := by decide +kernel
theorem dX10_operate_59 : decode cX10_operate 59 = .ok (.lreturn, 1) := by decide +kernel
theorem dX10_operate_60 : decode cX10_operate 60 = .ok (.lload_n 1, 1) := by decide +kernel
theorem dX10_operate_61 : decode cX10_operate 61 = .ok (.lload_n 3, 1) := by decide +kernel
theorem dX10_operate_62 : decode cX10_operate 62 = .ok (.lcmp, 1) := by decide +kernel
theorem dX10_operate_63 : decode cX10_operate 63 = .ok (.ifCond .le 7, 3) := by decide +kernel
theorem dX10_operate_66 : decode cX10_operate 66 = .ok (.lconst 1, 1) := by decide +kernel
theorem dX10_operate_67 : decode cX10_operate 67 = .ok (.goto 4, 3) := by decide +kernel
theorem dX10_operate_70 : decode cX10_operate 70 = .ok (.lconst 0, 1) := by decide +kernel
theorem dX10_operate_71 : decode cX10_operate 71 = .ok (.lreturn, 1) := by decide +kernel
theorem dX10_operate_72 : decode cX10_operate 72 = .ok (.lload_n 1, 1) := by decide +kernel
theorem dX10_operate_73 : decode cX10_operate 73 = .ok (.lload_n 3, 1) := by decide +kernel
theorem dX10_operate_74 : decode cX10_operate 74 = .ok (.land, 1) := by decide +kernel
theorem dX10_operate_75 : decode cX10_operate 75 = .ok (.lreturn, 1) := by decide +kernel
theorem dX10_operate_76 : decode cX10_operate 76 = .ok (.lload_n 1, 1) := by decide +kernel
theorem dX10_operate_77 : decode cX10_operate 77 = .ok (.lload_n 3, 1) := by decide +kernel
theorem dX10_operate_78 : decode cX10_operate 78 = .ok (.lor, 1) := by decide +kernel
theorem dX10_operate_79 : decode cX10_operate 79 = .ok (.lreturn, 1) := by decide +kernel
def rm_X10_operate : Room := { frames := 0, cells := 0, slots := 0, locals := 0 }
def M_X10_operate_0 (k : Nat) (p0 : Int32) (p1 : Int64) (p2 : Int64) : Option (Int64) := if p0 = (-24 : Int32) then (some (p1 &&& p2)) else (if p0 = (-22 : Int32) then (if (lg_cmp p1 p2) ≤ 0 then (some (0 : Int64)) else (some (1 : Int64))) else (if p0 = (-21 : Int32) then (if (lg_cmp p1 p2) = 0 then (some (1 : Int64)) else (some (0 : Int64))) else (if p0 = (-20 : Int32) then (if 0 ≤ (lg_cmp p1 p2) then (some (0 : Int64)) else (some (1 : Int64))) else (some (p1 ||| p2)))))
set_option maxRecDepth 100000 in
set_option maxHeartbeats 4000000 in
theorem N_X10_operate_0 (C : CX E p l s m args meth c cX10_operate 5 RX10 (some .long) A) (k : Nat) {post : Int64 → va_W → Prop} :
    ∀ (p0 : Int32) (p1 : Int64) (p2 : Int64) (q : Int64), M_X10_operate_0 k p0 p1 p2 = some q → post q ([] : va_W) →
      WW E p l e rm_X10_operate s m args below meth c A 0 0 (QL E below post args s rm_X10_operate A) ([] : va_W) 5 [some (.int p0), some (.long p1), none, some (.long p2), none] 0 [] := by
  intro p0 p1 p2 q  h hq
  unfold M_X10_operate_0 at h
  refine r_iload_n (pc := 0) C (i := 0) dX10_operate_0 rfl rfl ?_
  by_cases c1 : p0 = (-24 : Int32)
  · rw [if_pos c1] at h
    refine r_tabIn (pc := 1) C 72 dX10_operate_1 c1 (by decide) (by decide) rfl rfl ?_
    refine r_lload_n (pc := 72) C (i := 1) dX10_operate_72 rfl rfl ?_
    refine r_lload_n (pc := 73) C (i := 3) dX10_operate_73 rfl rfl ?_
    refine r_land (pc := 74) C dX10_operate_74 ?_
    cases h
    exact r_lret (pc := 75) C hq (Nat.zero_le _) (Nat.zero_le _) dX10_operate_75
  · rw [if_neg c1] at h
    by_cases c2 : p0 = (-22 : Int32)
    · rw [if_pos c2] at h
      refine r_tabIn (pc := 1) C 60 dX10_operate_1 c2 (by decide) (by decide) rfl rfl ?_
      refine r_lload_n (pc := 60) C (i := 1) dX10_operate_60 rfl rfl ?_
      refine r_lload_n (pc := 61) C (i := 3) dX10_operate_61 rfl rfl ?_
      refine r_lcmp (pc := 62) C dX10_operate_62 ?_
      refine r_if_le (pc := 63) C (tgt := 70) dX10_operate_63 rfl (fun c3 => ?_) (fun c3 => ?_)
      · rw [if_pos c3] at h
        refine r_lconst (pc := 70) C (v := 0) dX10_operate_70 (by decide) ?_
        cases h
        exact r_lret (pc := 71) C hq (Nat.zero_le _) (Nat.zero_le _) dX10_operate_71
      · rw [if_neg c3] at h
        refine r_lconst (pc := 66) C (v := 1) dX10_operate_66 (by decide) ?_
        refine r_goto (pc := 67) C (tgt := 71) dX10_operate_67 rfl ?_
        cases h
        exact r_lret (pc := 71) C hq (Nat.zero_le _) (Nat.zero_le _) dX10_operate_71
    · rw [if_neg c2] at h
      by_cases c4 : p0 = (-21 : Int32)
      · rw [if_pos c4] at h
        refine r_tabIn (pc := 1) C 48 dX10_operate_1 c4 (by decide) (by decide) rfl rfl ?_
        refine r_lload_n (pc := 48) C (i := 1) dX10_operate_48 rfl rfl ?_
        refine r_lload_n (pc := 49) C (i := 3) dX10_operate_49 rfl rfl ?_
        refine r_lcmp (pc := 50) C dX10_operate_50 ?_
        refine r_if_ne (pc := 51) C (tgt := 58) dX10_operate_51 rfl (fun c5 => ?_) (fun c5 => ?_)
        · rw [if_neg c5] at h
          refine r_lconst (pc := 58) C (v := 0) dX10_operate_58 (by decide) ?_
          cases h
          exact r_lret (pc := 59) C hq (Nat.zero_le _) (Nat.zero_le _) dX10_operate_59
        · rw [if_pos c5] at h
          refine r_lconst (pc := 54) C (v := 1) dX10_operate_54 (by decide) ?_
          refine r_goto (pc := 55) C (tgt := 59) dX10_operate_55 rfl ?_
          cases h
          exact r_lret (pc := 59) C hq (Nat.zero_le _) (Nat.zero_le _) dX10_operate_59
      · rw [if_neg c4] at h
        by_cases c6 : p0 = (-20 : Int32)
        · rw [if_pos c6] at h
          refine r_tabIn (pc := 1) C 36 dX10_operate_1 c6 (by decide) (by decide) rfl rfl ?_
          refine r_lload_n (pc := 36) C (i := 1) dX10_operate_36 rfl rfl ?_
          refine r_lload_n (pc := 37) C (i := 3) dX10_operate_37 rfl rfl ?_
          refine r_lcmp (pc := 38) C dX10_operate_38 ?_
          refine r_if_ge (pc := 39) C (tgt := 46) dX10_operate_39 rfl (fun c7 => ?_) (fun c7 => ?_)
          · rw [if_pos c7] at h
            refine r_lconst (pc := 46) C (v := 0) dX10_operate_46 (by decide) ?_
            cases h
            exact r_lret (pc := 47) C hq (Nat.zero_le _) (Nat.zero_le _) dX10_operate_47
          · rw [if_neg c7] at h
            refine r_lconst (pc := 42) C (v := 1) dX10_operate_42 (by decide) ?_
            refine r_goto (pc := 43) C (tgt := 47) dX10_operate_43 rfl ?_
            cases h
            exact r_lret (pc := 47) C hq (Nat.zero_le _) (Nat.zero_le _) dX10_operate_47
        · rw [if_neg c6] at h
          refine r_tabGap (pc := 1) C 76 dX10_operate_1 (v := (-23 : Int32)) (by have := lv_neT (a := -24) c1 (by decide); have := lv_neT (a := -22) c2 (by decide); have := lv_neT (a := -21) c4 (by decide); have := lv_neT (a := -20) c6 (by decide); exact tabGap_of (a := -23) (by decide) (by omega)) (by decide) (by decide) rfl rfl ?_
          refine r_lload_n (pc := 76) C (i := 1) dX10_operate_76 rfl rfl ?_
          refine r_lload_n (pc := 77) C (i := 3) dX10_operate_77 rfl rfl ?_
          refine r_lor (pc := 78) C dX10_operate_78 ?_
          cases h
          exact r_lret (pc := 79) C hq (Nat.zero_le _) (Nat.zero_le _) dX10_operate_79
def M_X10_operate (k : Nat) (p0 : Int32) (p1 : Int64) (p2 : Int64) : Option (Int64) := M_X10_operate_0 k p0 p1 p2
set_option maxRecDepth 100000 in
set_option maxHeartbeats 4000000 in
theorem c_X10_operate (E : ENV) (l : Launch) (k : Nat) (p0 : Int32) (p1 : Int64) (p2 : Int64) {q : Int64} (hm : M_X10_operate k p0 p1 p2 = some q) : CL E l yX10_operate cX10_operate 5 (some .long) rm_X10_operate [.int p0, .long p1, .long p2] ([] : va_W) (fun r w' => r = q ∧ w' = ([] : va_W)) :=
  CL.of 0 (by decide) (Nat.le_of_ble_eq_true rfl) (fun p e s m below meth c A C _ => r_weak (lSub_s (lSub_s (lSub_n (lSub_s (lSub_n lSub_e))))) (N_X10_operate_0 C k p0 p1 p2 q  hm ⟨rfl, rfl⟩))
end WALKS
