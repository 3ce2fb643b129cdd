section WALKS
variable {E : ENV} {p : Program} {l : Launch} {e : Env} {s : State} {m : MethodId} {args : Array Value} {below : List Frame} {meth : Method} {c : Code} {A : Nat → Prop}
theorem g_X9_109 : GoodIn GW (va_wsS RX9 109 yJ6_bitCount_0f7a4 (wsG yJ6_bitCount_0f7a4 cJ6_bitCount_0f7a4 1 (some .int))) := gw_S wm_3_193 wm_2_80 wm_1_22 wm_2_81
theorem g_X9_115 : GoodIn GW (wsV RX9 115 RX0 yX0_queueLength (wsG yX0_queueLength cX0_queueLength 4 (some .int))) := gw_V wm_3_194 wm_3_195 wm_3_196 wm_1_2 wm_3_197
theorem hd_X0_cutOffMask : yX0_cutOffMask.cls = RX0 ∧ yX0_cutOffMask.cls ≠ "java/lang/invoke/MethodHandle" ∧ yX0_cutOffMask.cls ≠ "java/lang/invoke/VarHandle" ∧ (parseMethodDescriptor yX0_cutOffMask.desc).map (fun d => d.parameters.length) = some 0 := by decide +kernel
theorem g_X9_127 : GoodIn GW (wsV RX9 127 RX0 yX0_cutOffMask (wsG yX0_cutOffMask cX0_cutOffMask 3 (some .int))) := gw_V wm_3_198 wm_3_199 wm_3_200 wm_1_2 wm_3_201
theorem hd_X0_quarantined : yX0_quarantined.cls = RX0 ∧ yX0_quarantined.cls ≠ "java/lang/invoke/MethodHandle" ∧ yX0_quarantined.cls ≠ "java/lang/invoke/VarHandle" ∧ (parseMethodDescriptor yX0_quarantined.desc).map (fun d => d.parameters.length) = some 0 := by decide +kernel
theorem g_X9_131 : GoodIn GW (wsV RX9 131 RX0 yX0_quarantined (wsG yX0_quarantined cX0_quarantined 3 (some .int))) := gw_V wm_3_206 wm_3_207 wm_3_208 wm_1_2 wm_3_209
-- ShardGuard.size(I)I
set_option maxHeartbeats 8000000 in
theorem hp_X9_size_0 (E : ENV) (a : Nat → Nat) (S : VV × VV × VV × VV × VV × Int32) : ([1, 2, 3, 4, 5, 6, 7, 8, 9, 10, 11, 12, 13, 14, 15, 16, 17, 18] : List Nat).map (fun i => (wSg E a S)[i]?) = (wFl E (fun i => a (i + 1)) (S.1)).map some := (seg_mapL ([(a 0, .inr (7, [.ref (a 1), .ref (a 19), .ref (a 37), .int ((S.2.2.2.2.2)), .ref (a 61), .ref (a 55), .ref (a 58)]))]) (wFl E (fun i => a (i + 1)) (S.1)) (wFl E (fun i => a (i + 19)) (S.2.1) ++ (wFl E (fun i => a (i + 37)) (S.2.2.1) ++ (wTk E (fun i => a (i + 55)) (S.2.2.2.1) ++ (wTx E (fun i => a (i + 58)) (S.2.2.2.2.1))))) (by first | (simp only [wSg, List.append_assoc, List.nil_append, List.append_nil]; done) | (simp only [wSg, List.append_assoc, List.nil_append, List.append_nil]; rfl) | rfl) 18 rfl [1, 2, 3, 4, 5, 6, 7, 8, 9, 10, 11, 12, 13, 14, 15, 16, 17, 18] (by first | (simp only [List.length_append, List.length_cons, List.length_nil, wFl_len, wTk_len, wTx_len]; rfl) | rfl))
theorem dX9_size_0 : decode cX9_size 0 = .ok (.iload_n 1, 1) := by decide +kernel
theorem dX9_size_1 : decode cX9_size 1 = .ok (.tableswitch 145 0 9 #[55, 63, 71, 79, 87, 95, 106, 115, 126, 137], 55) := by decide +kernel
theorem dX9_size_56 : decode cX9_size 56 = .ok (.aload_n 0, 1) := by decide +kernel
theorem dX9_size_57 : decode cX9_size 57 = .ok (.getfield 12, 3) := by decide +kernel
theorem dX9_size_60 : decode cX9_size 60 = .ok (.getfield 94, 3) := by decide +kernel
theorem dX9_size_63 : decode cX9_size 63 = .ok (.ireturn, 1) := by decide +kernel
theorem dX9_size_64 : decode cX9_size 64 = .ok (.aload_n 0, 1) := by decide +kernel
theorem dX9_size_65 : decode cX9_size 65 = .ok (.getfield 12, 3) := by decide +kernel
theorem dX9_size_68 : decode cX9_size 68 = .ok (.getfield 97, 3) := by decide +kernel
theorem dX9_size_71 : decode cX9_size 71 = .ok (.ireturn, 1) := by decide +kernel
theorem dX9_size_72 : decode cX9_size 72 = .ok (.aload_n 0, 1) := by decide +kernel
theorem dX9_size_73 : decode cX9_size 73 = .ok (.getfield 12, 3) := by decide +kernel
theorem dX9_size_76 : decode cX9_size 76 = .ok (.getfield 88, 3) := by decide +kernel
theorem dX9_size_79 : decode cX9_size 79 = .ok (.ireturn, 1) := by decide +kernel
theorem dX9_size_80 : decode cX9_size 80 = .ok (.aload_n 0, 1) := by decide +kernel
theorem dX9_size_81 : decode cX9_size 81 = .ok (.getfield 12, 3) := by decide +kernel
theorem dX9_size_84 : decode cX9_size 84 = .ok (.getfield 100, 3) := by decide +kernel
theorem dX9_size_87 : decode cX9_size 87 = .ok (.ireturn, 1) := by decide +kernel
theorem dX9_size_88 : decode cX9_size 88 = .ok (.aload_n 0, 1) := by decide +kernel
theorem dX9_size_89 : decode cX9_size 89 = .ok (.getfield 12, 3) := by decide +kernel
theorem dX9_size_92 : decode cX9_size 92 = .ok (.getfield 103, 3) := by decide +kernel
theorem dX9_size_95 : decode cX9_size 95 = .ok (.ireturn, 1) := by decide +kernel
theorem dX9_size_96 : decode cX9_size 96 = .ok (.aload_n 0, 1) := by decide +kernel
theorem dX9_size_97 : decode cX9_size 97 = .ok (.getfield 12, 3) := by decide +kernel
theorem dX9_size_100 : decode cX9_size 100 = .ok (.getfield 106, 3) := by decide +kernel
theorem dX9_size_103 : decode cX9_size 103 = .ok (.invokestatic 109, 3) := by decide +kernel
theorem dX9_size_106 : decode cX9_size 106 = .ok (.ireturn, 1) := by decide +kernel
theorem dX9_size_107 : decode cX9_size 107 = .ok (.aload_n 0, 1) := by decide +kernel
theorem dX9_size_108 : decode cX9_size 108 = .ok (.getfield 12, 3) := by decide +kernel
theorem dX9_size_111 : decode cX9_size 111 = .ok (.iconst (-1), 1) := by decide +kernel
theorem dX9_size_112 : decode cX9_size 112 = .ok (.invokevirtual 115, 3) := by decide +kernel
theorem dX9_size_115 : decode cX9_size 115 = .ok (.ireturn, 1) := by decide +kernel
theorem dX9_size_116 : decode cX9_size 116 = .ok (.aload_n 0, 1) := by decide +kernel
theorem dX9_size_117 : decode cX9_size 117 = .ok (.getfield 12, 3) := by decide +kernel
theorem dX9_size_120 : decode cX9_size 120 = .ok (.getfield 118, 3) := by decide +kernel
theorem dX9_size_123 : decode cX9_size 123 = .ok (.getfield 122, 3) := by decide +kernel
theorem dX9_size_126 : decode cX9_size 126 = .ok (.ireturn, 1) := by decide +kernel
theorem dX9_size_127 : decode cX9_size 127 = .ok (.aload_n 0, 1) := by decide +kernel
theorem dX9_size_128 : decode cX9_size 128 = .ok (.getfield 12, 3) := by decide +kernel
theorem dX9_size_131 : decode cX9_size 131 = .ok (.invokevirtual 127, 3) := by decide +kernel
theorem dX9_size_134 : decode cX9_size 134 = .ok (.invokestatic 109, 3) := by decide +kernel
theorem dX9_size_137 : decode cX9_size 137 = .ok (.ireturn, 1) := by decide +kernel
theorem dX9_size_138 : decode cX9_size 138 = .ok (.aload_n 0, 1) := by decide +kernel
theorem dX9_size_139 : decode cX9_size 139 = .ok (.getfield 12, 3) := by decide +kernel
theorem dX9_size_142 : decode cX9_size 142 = .ok (.invokevirtual 131, 3) := by decide +kernel
theorem dX9_size_145 : decode cX9_size 145 = .ok (.ireturn, 1) := by decide +kernel
theorem dX9_size_146 : decode cX9_size 146 = .ok (.new 134, 3) := by decide +kernel
theorem dX9_size_149 : decode cX9_size 149 = .ok (.dup, 1) := by decide +kernel
theorem dX9_size_150 : decode cX9_size 150 = .ok (.ldc 136, 2) := by decide +kernel
theorem dX9_size_152 : decode cX9_size 152 = .ok (.invokespecial 138, 3) := by decide +kernel
theorem dX9_size_155 : decode cX9_size 155 = .ok (.athrow, 1) := by decide +kernel
def rm_X9_size : Room := { frames := 6, cells := 1, slots := 6, locals := 100 }
def M_X9_size_0 (k : Nat) (S : VV × VV × VV × VV × VV × Int32) (p0 : Int32) : Option (Int32 × Int32) := if p0 = (0 : Int32) then (some ((0 : Int32), ((S.1) 0 0))) else (if p0 = (1 : Int32) then (some ((0 : Int32), ((S.1) 0 1))) else (if p0 = (2 : Int32) then (some ((0 : Int32), ((S.1) 0 2))) else (if p0 = (3 : Int32) then (some ((0 : Int32), ((S.1) 0 3))) else (if p0 = (4 : Int32) then (some ((0 : Int32), ((S.1) 0 4))) else (if p0 = (5 : Int32) then ((M_J6_bitCount_0f7a4 k ((S.1) 0 5)).bind fun q7 => some ((0 : Int32), q7)) else (if p0 = (6 : Int32) then ((M_X0_queueLength k (S.1) (-1 : Int32)).bind fun q9 => some ((0 : Int32), q9)) else (if p0 = (7 : Int32) then (some ((0 : Int32), ((klF (S.1)) 0 0))) else (if p0 = (8 : Int32) then ((M_X0_cutOffMask k (S.1)).bind fun q12 => (M_J6_bitCount_0f7a4 k q12).bind fun q13 => some ((0 : Int32), q13)) else (if p0 = (9 : Int32) then ((M_X0_quarantined k (S.1)).bind fun q15 => some ((0 : Int32), q15)) else (some ((1 : Int32), (0 : Int32))))))))))))
set_option maxRecDepth 100000 in
set_option maxHeartbeats 4000000 in
theorem N_X9_size_0 (C : CX E p l s m args meth c cX9_size 2 RX9 (some .int) A) (a : Nat → Nat) (k : Nat) (S : VV × VV × VV × VV × VV × Int32) {post : Int32 → va_W → Prop} {px : Int32 → va_W → Prop} (hlt : l.stackTraces = false) (hno : ∀ x ∈ c.exceptionTable.toList, False) (hdc : DC s) :
    ∀ (p0 : Int32) (q : Int32 × Int32), M_X9_size_0 k S p0 = some q → TI post px q.1 q.2 (wSg E a S) →
      WW E p l e rm_X9_size s m args below meth c A 0 0 (QXI E below post px args s rm_X9_size A) (wSg E a S) 2 [some (.ref (a 0)), some (.int p0)] 0 [] := by
  intro p0 q  h hq
  unfold M_X9_size_0 at h
  refine r_iload_n (pc := 0) C (i := 1) dX9_size_0 rfl rfl ?_
  by_cases c1 : p0 = (0 : Int32)
  · rw [if_pos c1] at h
    refine r_tabIn (pc := 1) C 56 dX9_size_1 c1 (by decide) (by decide) rfl rfl ?_
    refine r_aload_n (pc := 56) C (i := 0) dX9_size_56 rfl rfl ?_
    refine r_get (pc := 57) C gwX9 0 rfl rfl 0 (by decide) wm_2_15 rfl dX9_size_57 ?_
    refine r_get (pc := 60) C gwX0 1 rfl rfl 0 (by decide) wm_1_93 rfl dX9_size_60 ?_
    cases h
    exact r_xI (r_ireti (pc := 63) C (TI_0 hq) (Nat.zero_le _) (Nat.zero_le _) dX9_size_63)
  · rw [if_neg c1] at h
    by_cases c2 : p0 = (1 : Int32)
    · rw [if_pos c2] at h
      refine r_tabIn (pc := 1) C 64 dX9_size_1 c2 (by decide) (by decide) rfl rfl ?_
      refine r_aload_n (pc := 64) C (i := 0) dX9_size_64 rfl rfl ?_
      refine r_get (pc := 65) C gwX9 0 rfl rfl 0 (by decide) wm_2_15 rfl dX9_size_65 ?_
      refine r_get (pc := 68) C gwX0 1 rfl rfl 1 (by decide) wm_1_96 rfl dX9_size_68 ?_
      cases h
      exact r_xI (r_ireti (pc := 71) C (TI_0 hq) (Nat.zero_le _) (Nat.zero_le _) dX9_size_71)
    · rw [if_neg c2] at h
      by_cases c3 : p0 = (2 : Int32)
      · rw [if_pos c3] at h
        refine r_tabIn (pc := 1) C 72 dX9_size_1 c3 (by decide) (by decide) rfl rfl ?_
        refine r_aload_n (pc := 72) C (i := 0) dX9_size_72 rfl rfl ?_
        refine r_get (pc := 73) C gwX9 0 rfl rfl 0 (by decide) wm_2_15 rfl dX9_size_73 ?_
        refine r_get (pc := 76) C gwX0 1 rfl rfl 2 (by decide) wm_1_99 rfl dX9_size_76 ?_
        cases h
        exact r_xI (r_ireti (pc := 79) C (TI_0 hq) (Nat.zero_le _) (Nat.zero_le _) dX9_size_79)
      · rw [if_neg c3] at h
        by_cases c4 : p0 = (3 : Int32)
        · rw [if_pos c4] at h
          refine r_tabIn (pc := 1) C 80 dX9_size_1 c4 (by decide) (by decide) rfl rfl ?_
          refine r_aload_n (pc := 80) C (i := 0) dX9_size_80 rfl rfl ?_
          refine r_get (pc := 81) C gwX9 0 rfl rfl 0 (by decide) wm_2_15 rfl dX9_size_81 ?_
          refine r_get (pc := 84) C gwX0 1 rfl rfl 3 (by decide) wm_1_103 rfl dX9_size_84 ?_
          cases h
          exact r_xI (r_ireti (pc := 87) C (TI_0 hq) (Nat.zero_le _) (Nat.zero_le _) dX9_size_87)
        · rw [if_neg c4] at h
          by_cases c5 : p0 = (4 : Int32)
          · rw [if_pos c5] at h
            refine r_tabIn (pc := 1) C 88 dX9_size_1 c5 (by decide) (by decide) rfl rfl ?_
            refine r_aload_n (pc := 88) C (i := 0) dX9_size_88 rfl rfl ?_
            refine r_get (pc := 89) C gwX9 0 rfl rfl 0 (by decide) wm_2_15 rfl dX9_size_89 ?_
            refine r_get (pc := 92) C gwX0 1 rfl rfl 4 (by decide) wm_1_105 rfl dX9_size_92 ?_
            cases h
            exact r_xI (r_ireti (pc := 95) C (TI_0 hq) (Nat.zero_le _) (Nat.zero_le _) dX9_size_95)
          · rw [if_neg c5] at h
            by_cases c6 : p0 = (5 : Int32)
            · rw [if_pos c6] at h
              refine r_tabIn (pc := 1) C 96 dX9_size_1 c6 (by decide) (by decide) rfl rfl ?_
              refine r_aload_n (pc := 96) C (i := 0) dX9_size_96 rfl rfl ?_
              refine r_get (pc := 97) C gwX9 0 rfl rfl 0 (by decide) wm_2_15 rfl dX9_size_97 ?_
              refine r_get (pc := 100) C gwX0 1 rfl rfl 5 (by decide) wm_1_107 rfl dX9_size_100 ?_
              obtain ⟨q7, hq7, h⟩ := bnd h
              refine r_callSp_CI (pc := 103) C [.int ((S.1) 0 5)] (c_J6_bitCount_0f7a4 E l k ((S.1) 0 5) hq7) [] rfl (by decide) g_X9_109 hd_J6_bitCount_0f7a4.2 ⟨Nat.le_of_ble_eq_true rfl, Nat.le_of_ble_eq_true rfl⟩ ⟨Nat.zero_le _, Nat.zero_le _⟩ (Nat.le_of_ble_eq_true rfl) rfl dX9_size_103 (fun r hr => ?_)
              have hr := hr.symm
              subst hr
              cases h
              exact r_xI (r_ireti (pc := 106) C (TI_0 hq) (Nat.zero_le _) (Nat.zero_le _) dX9_size_106)
            · rw [if_neg c6] at h
              by_cases c8 : p0 = (6 : Int32)
              · rw [if_pos c8] at h
                refine r_tabIn (pc := 1) C 107 dX9_size_1 c8 (by decide) (by decide) rfl rfl ?_
                refine r_aload_n (pc := 107) C (i := 0) dX9_size_107 rfl rfl ?_
                refine r_get (pc := 108) C gwX9 0 rfl rfl 0 (by decide) wm_2_15 rfl dX9_size_108 ?_
                refine r_iconst (pc := 111) C (v := (-1)) dX9_size_111 (by decide) ?_
                obtain ⟨q9, hq9, h⟩ := bnd h
                refine r_callVp_CI (Cn := RX0) (pc := 112) C [.int (-1 : Int32)] (c_X0_queueLength E l k (fun i => a (i + 1)) (S.1) (-1 : Int32) hq9) [1, 2, 3, 4, 5, 6, 7, 8, 9, 10, 11, 12, 13, 14, 15, 16, 17, 18] (hp_X9_size_0 E a S) (by decide) 0 rfl rfl rfl g_X9_115 hd_X0_queueLength ⟨Nat.le_of_ble_eq_true rfl, Nat.le_of_ble_eq_true rfl⟩ ⟨Nat.zero_le _, Nat.zero_le _⟩ (Nat.le_of_ble_eq_true rfl) rfl dX9_size_112 (fun r hr => ?_)
                have hr := hr.symm
                subst hr
                cases h
                exact r_xI (r_ireti (pc := 115) C (TI_0 hq) (Nat.zero_le _) (Nat.zero_le _) dX9_size_115)
              · rw [if_neg c8] at h
                by_cases c10 : p0 = (7 : Int32)
                · rw [if_pos c10] at h
                  refine r_tabIn (pc := 1) C 116 dX9_size_1 c10 (by decide) (by decide) rfl rfl ?_
                  refine r_aload_n (pc := 116) C (i := 0) dX9_size_116 rfl rfl ?_
                  refine r_get (pc := 117) C gwX9 0 rfl rfl 0 (by decide) wm_2_15 rfl dX9_size_117 ?_
                  refine r_get (pc := 120) C gwX0 1 rfl rfl 10 (by decide) wm_1_120 rfl dX9_size_120 ?_
                  refine r_get (pc := 123) C gwX3 10 rfl rfl 0 (by decide) wm_1_78 rfl dX9_size_123 ?_
                  cases h
                  exact r_xI (r_ireti (pc := 126) C (TI_0 hq) (Nat.zero_le _) (Nat.zero_le _) dX9_size_126)
                · rw [if_neg c10] at h
                  by_cases c11 : p0 = (8 : Int32)
                  · rw [if_pos c11] at h
                    refine r_tabIn (pc := 1) C 127 dX9_size_1 c11 (by decide) (by decide) rfl rfl ?_
                    refine r_aload_n (pc := 127) C (i := 0) dX9_size_127 rfl rfl ?_
                    refine r_get (pc := 128) C gwX9 0 rfl rfl 0 (by decide) wm_2_15 rfl dX9_size_128 ?_
                    obtain ⟨q12, hq12, h⟩ := bnd h
                    refine r_callVp_CI (Cn := RX0) (pc := 131) C [] (c_X0_cutOffMask E l k (fun i => a (i + 1)) (S.1) hq12) [1, 2, 3, 4, 5, 6, 7, 8, 9, 10, 11, 12, 13, 14, 15, 16, 17, 18] (hp_X9_size_0 E a S) (by decide) 0 rfl rfl rfl g_X9_127 hd_X0_cutOffMask ⟨Nat.le_of_ble_eq_true rfl, Nat.le_of_ble_eq_true rfl⟩ ⟨Nat.zero_le _, Nat.zero_le _⟩ (Nat.le_of_ble_eq_true rfl) rfl dX9_size_131 (fun r hr => ?_)
                    have hr := hr.symm
                    subst hr
                    obtain ⟨q13, hq13, h⟩ := bnd h
                    refine r_callSp_CI (pc := 134) C [.int q12] (c_J6_bitCount_0f7a4 E l k q12 hq13) [] rfl (by decide) g_X9_109 hd_J6_bitCount_0f7a4.2 ⟨Nat.le_of_ble_eq_true rfl, Nat.le_of_ble_eq_true rfl⟩ ⟨Nat.zero_le _, Nat.zero_le _⟩ (Nat.le_of_ble_eq_true rfl) rfl dX9_size_134 (fun r hr => ?_)
                    have hr := hr.symm
                    subst hr
                    cases h
                    exact r_xI (r_ireti (pc := 137) C (TI_0 hq) (Nat.zero_le _) (Nat.zero_le _) dX9_size_137)
                  · rw [if_neg c11] at h
                    by_cases c14 : p0 = (9 : Int32)
                    · rw [if_pos c14] at h
                      refine r_tabIn (pc := 1) C 138 dX9_size_1 c14 (by decide) (by decide) rfl rfl ?_
                      refine r_aload_n (pc := 138) C (i := 0) dX9_size_138 rfl rfl ?_
                      refine r_get (pc := 139) C gwX9 0 rfl rfl 0 (by decide) wm_2_15 rfl dX9_size_139 ?_
                      obtain ⟨q15, hq15, h⟩ := bnd h
                      refine r_callVp_CI (Cn := RX0) (pc := 142) C [] (c_X0_quarantined E l k (fun i => a (i + 1)) (S.1) hq15) [1, 2, 3, 4, 5, 6, 7, 8, 9, 10, 11, 12, 13, 14, 15, 16, 17, 18] (hp_X9_size_0 E a S) (by decide) 0 rfl rfl rfl g_X9_131 hd_X0_quarantined ⟨Nat.le_of_ble_eq_true rfl, Nat.le_of_ble_eq_true rfl⟩ ⟨Nat.zero_le _, Nat.zero_le _⟩ (Nat.le_of_ble_eq_true rfl) rfl dX9_size_142 (fun r hr => ?_)
                      have hr := hr.symm
                      subst hr
                      cases h
                      exact r_xI (r_ireti (pc := 145) C (TI_0 hq) (Nat.zero_le _) (Nat.zero_le _) dX9_size_145)
                    · rw [if_neg c14] at h
                      refine r_tabOut (pc := 1) C 146 dX9_size_1 (by have := lv_neT (a := 0) c1 (by decide); have := lv_neT (a := 1) c2 (by decide); have := lv_neT (a := 2) c3 (by decide); have := lv_neT (a := 3) c4 (by decide); have := lv_neT (a := 4) c5 (by decide); have := lv_neT (a := 5) c6 (by decide); have := lv_neT (a := 6) c8 (by decide); have := lv_neT (a := 7) c10 (by decide); have := lv_neT (a := 8) c11 (by decide); have := lv_neT (a := 9) c14 (by decide); omega) rfl ?_
                      cases h
                      exact r_throwN (pc := 146) C hlt hno hdc 12 rfl wm_3_210 wm_1_23 dX9_size_146 dX9_size_149 dX9_size_150 dX9_size_152 dX9_size_155 (Nat.le_of_ble_eq_true rfl) (Nat.le_of_ble_eq_true rfl) (Nat.le_of_ble_eq_true rfl) (Nat.le_of_ble_eq_true rfl) (Nat.le_of_ble_eq_true rfl) (TI_x (by decide) hq)
def M_X9_size (k : Nat) (S : VV × VV × VV × VV × VV × Int32) (p0 : Int32) : Option (Int32 × Int32) := M_X9_size_0 k S p0
set_option maxRecDepth 100000 in
set_option maxHeartbeats 4000000 in
theorem c_X9_size (E : ENV) (l : Launch) (k : Nat) (a : Nat → Nat) (S : VV × VV × VV × VV × VV × Int32) (p0 : Int32) (hlt : l.stackTraces = false) {q : Int32 × Int32} (hm : M_X9_size k S p0 = some q) : XI E l yX9_size cX9_size 2 (some .int) rm_X9_size [.ref (a 0), .int p0] (wSg E a S) (fun r w' => q.1 = 0 ∧ r = q.2 ∧ w' = (wSg E a S)) (fun cd w' => cd = q.1 ∧ ¬ q.1 = 0 ∧ w' = (wSg E a S)) :=
  XI.of 0 (by decide) (Nat.le_of_ble_eq_true rfl) (fun p e s m below meth c A C hno hdc => r_weak (lSub_s (lSub_s lSub_e)) (N_X9_size_0 C a k S hlt hno hdc p0 q  hm (TI_of rfl)))
theorem g_X9_185 : GoodIn GW (wsV RX9 185 RX6 yX6_at (wsG yX6_at cX6_at 5 (some .int))) := gw_V wm_4_37 wm_2_59 wm_2_60 wm_1_4 wm_2_61
-- ShardGuard.request(II)I
set_option maxHeartbeats 8000000 in
theorem hp_X9_request_0 (E : ENV) (a : Nat → Nat) (S : VV × VV × VV × VV × VV × Int32) : ([8, 9] : List Nat).map (fun i => (wSg E a S)[i]?) = (wTab E (fun i => a (i + 8)) 60 8 480 ((S.1) 4)).map some := rfl
theorem dX9_request_0 : decode cX9_request 0 = .ok (.iload_n 1, 1) := by decide +kernel
theorem dX9_request_1 : decode cX9_request 1 = .ok (.ifCond .lt 14, 3) := by decide +kernel
theorem dX9_request_4 : decode cX9_request 4 = .ok (.iload_n 1, 1) := by decide +kernel
theorem dX9_request_5 : decode cX9_request 5 = .ok (.aload_n 0, 1) := by decide +kernel
theorem dX9_request_6 : decode cX9_request 6 = .ok (.getfield 12, 3) := by decide +kernel
theorem dX9_request_9 : decode cX9_request 9 = .ok (.getfield 100, 3) := by decide +kernel
theorem dX9_request_12 : decode cX9_request 12 = .ok (.if_icmp .lt 13, 3) := by decide +kernel
theorem dX9_request_15 : decode cX9_request 15 = .ok (.new 134, 3) := by decide +kernel
theorem dX9_request_18 : decode cX9_request 18 = .ok (.dup, 1) := by decide +kernel
theorem dX9_request_19 : decode cX9_request 19 = .ok (.ldc 206, 2) := by decide +kernel
theorem dX9_request_21 : decode cX9_request 21 = .ok (.invokespecial 138, 3) := by decide +kernel
theorem dX9_request_24 : decode cX9_request 24 = .ok (.athrow, 1) := by decide +kernel
theorem dX9_request_25 : decode cX9_request 25 = .ok (.iload_n 2, 1) := by decide +kernel
theorem dX9_request_26 : decode cX9_request 26 = .ok (.ifCond .lt 9, 3) := by decide +kernel
theorem dX9_request_29 : decode cX9_request 29 = .ok (.iload_n 2, 1) := by decide +kernel
theorem dX9_request_30 : decode cX9_request 30 = .ok (.bipush 8, 2) := by decide +kernel
theorem dX9_request_32 : decode cX9_request 32 = .ok (.if_icmp .lt 13, 3) := by decide +kernel
theorem dX9_request_35 : decode cX9_request 35 = .ok (.new 134, 3) := by decide +kernel
theorem dX9_request_38 : decode cX9_request 38 = .ok (.dup, 1) := by decide +kernel
theorem dX9_request_39 : decode cX9_request 39 = .ok (.ldc 208, 2) := by decide +kernel
theorem dX9_request_41 : decode cX9_request 41 = .ok (.invokespecial 138, 3) := by decide +kernel
theorem dX9_request_44 : decode cX9_request 44 = .ok (.athrow, 1) := by decide +kernel
theorem dX9_request_45 : decode cX9_request 45 = .ok (.aload_n 0, 1) := by decide +kernel
theorem dX9_request_46 : decode cX9_request 46 = .ok (.getfield 12, 3) := by decide +kernel
theorem dX9_request_49 : decode cX9_request 49 = .ok (.getfield 210, 3) := by decide +kernel
theorem dX9_request_52 : decode cX9_request 52 = .ok (.iload_n 1, 1) := by decide +kernel
theorem dX9_request_53 : decode cX9_request 53 = .ok (.iload_n 2, 1) := by decide +kernel
theorem dX9_request_54 : decode cX9_request 54 = .ok (.invokevirtual 185, 3) := by decide +kernel
theorem dX9_request_57 : decode cX9_request 57 = .ok (.ireturn, 1) := by decide +kernel
def rm_X9_request : Room := { frames := 6, cells := 1, slots := 6, locals := 100 }
def M_X9_request_0 (k : Nat) (S : VV × VV × VV × VV × VV × Int32) (p0 : Int32) (p1 : Int32) : Option (Int32 × Int32) := if p0 < 0 then (some ((1 : Int32), (0 : Int32))) else (if p0 < ((S.1) 0 3) then (if p1 < 0 then (some ((1 : Int32), (0 : Int32))) else (if p1 < (8 : Int32) then ((M_X6_at k 60 8 480 ((S.1) 4) p0 p1).bind fun q5 => some ((0 : Int32), q5)) else (some ((1 : Int32), (0 : Int32))))) else (some ((1 : Int32), (0 : Int32))))
set_option maxRecDepth 100000 in
set_option maxHeartbeats 4000000 in
theorem N_X9_request_0 (C : CX E p l s m args meth c cX9_request 3 RX9 (some .int) A) (a : Nat → Nat) (k : Nat) (S : VV × VV × VV × VV × VV × Int32) {post : Int32 → va_W → Prop} {px : Int32 → va_W → Prop} (hlt : l.stackTraces = false) (hno : ∀ x ∈ c.exceptionTable.toList, False) (hdc : DC s) :
    ∀ (p0 : Int32) (p1 : Int32) (q : Int32 × Int32), M_X9_request_0 k S p0 p1 = some q → TI post px q.1 q.2 (wSg E a S) →
      WW E p l e rm_X9_request s m args below meth c A 0 0 (QXI E below post px args s rm_X9_request A) (wSg E a S) 3 [some (.ref (a 0)), some (.int p0), some (.int p1)] 0 [] := by
  intro p0 p1 q  h hq
  unfold M_X9_request_0 at h
  refine r_iload_n (pc := 0) C (i := 1) dX9_request_0 rfl rfl ?_
  refine r_if_lt (pc := 1) C (tgt := 15) dX9_request_1 rfl (fun c1 => ?_) (fun c1 => ?_)
  · rw [if_pos c1] at h
    cases h
    exact r_throwN (pc := 15) C hlt hno hdc 18 rfl wm_3_210 wm_1_23 dX9_request_15 dX9_request_18 dX9_request_19 dX9_request_21 dX9_request_24 (Nat.le_of_ble_eq_true rfl) (Nat.le_of_ble_eq_true rfl) (Nat.le_of_ble_eq_true rfl) (Nat.le_of_ble_eq_true rfl) (Nat.le_of_ble_eq_true rfl) (TI_x (by decide) hq)
  · rw [if_neg c1] at h
    refine r_iload_n (pc := 4) C (i := 1) dX9_request_4 rfl rfl ?_
    refine r_aload_n (pc := 5) C (i := 0) dX9_request_5 rfl rfl ?_
    refine r_get (pc := 6) C gwX9 0 rfl rfl 0 (by decide) wm_2_15 rfl dX9_request_6 ?_
    refine r_get (pc := 9) C gwX0 1 rfl rfl 3 (by decide) wm_1_103 rfl dX9_request_9 ?_
    refine r_icmp_lt (pc := 12) C (tgt := 25) dX9_request_12 rfl (fun c2 => ?_) (fun c2 => ?_)
    · rw [if_pos c2] at h
      refine r_iload_n (pc := 25) C (i := 2) dX9_request_25 rfl rfl ?_
      refine r_if_lt (pc := 26) C (tgt := 35) dX9_request_26 rfl (fun c3 => ?_) (fun c3 => ?_)
      · rw [if_pos c3] at h
        cases h
        exact r_throwN (pc := 35) C hlt hno hdc 19 rfl wm_3_210 wm_1_23 dX9_request_35 dX9_request_38 dX9_request_39 dX9_request_41 dX9_request_44 (Nat.le_of_ble_eq_true rfl) (Nat.le_of_ble_eq_true rfl) (Nat.le_of_ble_eq_true rfl) (Nat.le_of_ble_eq_true rfl) (Nat.le_of_ble_eq_true rfl) (TI_x (by decide) hq)
      · rw [if_neg c3] at h
        refine r_iload_n (pc := 29) C (i := 2) dX9_request_29 rfl rfl ?_
        refine r_bipush (pc := 30) C (v := 8) dX9_request_30 (by decide) ?_
        refine r_icmp_lt (pc := 32) C (tgt := 45) dX9_request_32 rfl (fun c4 => ?_) (fun c4 => ?_)
        · rw [if_pos c4] at h
          refine r_aload_n (pc := 45) C (i := 0) dX9_request_45 rfl rfl ?_
          refine r_get (pc := 46) C gwX9 0 rfl rfl 0 (by decide) wm_2_15 rfl dX9_request_46 ?_
          refine r_get (pc := 49) C gwX0 1 rfl rfl 9 (by decide) wm_1_118 rfl dX9_request_49 ?_
          refine r_iload_n (pc := 52) C (i := 1) dX9_request_52 rfl rfl ?_
          refine r_iload_n (pc := 53) C (i := 2) dX9_request_53 rfl rfl ?_
          obtain ⟨q5, hq5, h⟩ := bnd h
          refine r_callVp_CI (Cn := RX6) (pc := 54) C [.int p0, .int p1] (c_X6_at E l k (fun i => a (i + 8)) 60 8 480 ((S.1) 4) p0 p1 hq5) [8, 9] (hp_X9_request_0 E a S) (by decide) 0 rfl rfl rfl g_X9_185 hd_X6_at ⟨Nat.le_of_ble_eq_true rfl, Nat.le_of_ble_eq_true rfl⟩ ⟨Nat.zero_le _, Nat.zero_le _⟩ (Nat.le_of_ble_eq_true rfl) rfl dX9_request_54 (fun r hr => ?_)
          have hr := hr.symm
          subst hr
          cases h
          exact r_xI (r_ireti (pc := 57) C (TI_0 hq) (Nat.zero_le _) (Nat.zero_le _) dX9_request_57)
        · rw [if_neg c4] at h
          cases h
          exact r_throwN (pc := 35) C hlt hno hdc 19 rfl wm_3_210 wm_1_23 dX9_request_35 dX9_request_38 dX9_request_39 dX9_request_41 dX9_request_44 (Nat.le_of_ble_eq_true rfl) (Nat.le_of_ble_eq_true rfl) (Nat.le_of_ble_eq_true rfl) (Nat.le_of_ble_eq_true rfl) (Nat.le_of_ble_eq_true rfl) (TI_x (by decide) hq)
    · rw [if_neg c2] at h
      cases h
      exact r_throwN (pc := 15) C hlt hno hdc 18 rfl wm_3_210 wm_1_23 dX9_request_15 dX9_request_18 dX9_request_19 dX9_request_21 dX9_request_24 (Nat.le_of_ble_eq_true rfl) (Nat.le_of_ble_eq_true rfl) (Nat.le_of_ble_eq_true rfl) (Nat.le_of_ble_eq_true rfl) (Nat.le_of_ble_eq_true rfl) (TI_x (by decide) hq)
def M_X9_request (k : Nat) (S : VV × VV × VV × VV × VV × Int32) (p0 : Int32) (p1 : Int32) : Option (Int32 × Int32) := M_X9_request_0 k S p0 p1
set_option maxRecDepth 100000 in
set_option maxHeartbeats 4000000 in
theorem c_X9_request (E : ENV) (l : Launch) (k : Nat) (a : Nat → Nat) (S : VV × VV × VV × VV × VV × Int32) (p0 : Int32) (p1 : Int32) (hlt : l.stackTraces = false) {q : Int32 × Int32} (hm : M_X9_request k S p0 p1 = some q) : XI E l yX9_request cX9_request 3 (some .int) rm_X9_request [.ref (a 0), .int p0, .int p1] (wSg E a S) (fun r w' => q.1 = 0 ∧ r = q.2 ∧ w' = (wSg E a S)) (fun cd w' => cd = q.1 ∧ ¬ q.1 = 0 ∧ w' = (wSg E a S)) :=
  XI.of 0 (by decide) (Nat.le_of_ble_eq_true rfl) (fun p e s m below meth c A C hno hdc => r_weak (lSub_s (lSub_s (lSub_s lSub_e))) (N_X9_request_0 C a k S hlt hno hdc p0 p1 q  hm (TI_of rfl)))
theorem g_X9_213 : GoodIn GW (wsV RX9 213 RX0 yX0_waitingAt (wsG yX0_waitingAt cX0_waitingAt 6 (some .int))) := gw_V wm_4_77 wm_4_78 wm_4_79 wm_1_2 wm_4_80
-- ShardGuard.parked(I)I
theorem dX9_parked_0 : decode cX9_parked 0 = .ok (.aload_n 0, 1) := by decide +kernel
theorem dX9_parked_1 : decode cX9_parked 1 = .ok (.getfield 12, 3) := by decide +kernel
theorem dX9_parked_4 : decode cX9_parked 4 = .ok (.iconst (-1), 1) := by decide +kernel
theorem dX9_parked_5 : decode cX9_parked 5 = .ok (.iload_n 1, 1) := by decide +kernel
theorem dX9_parked_6 : decode cX9_parked 6 = .ok (.invokevirtual 213, 3) := by decide +kernel
theorem dX9_parked_9 : decode cX9_parked 9 = .ok (.istore_n 2, 1) := by decide +kernel
theorem dX9_parked_10 : decode cX9_parked 10 = .ok (.iload_n 2, 1) := by decide +kernel
theorem dX9_parked_11 : decode cX9_parked 11 = .ok (.iconst (-1), 1) := by decide +kernel
theorem dX9_parked_12 : decode cX9_parked 12 = .ok (.if_icmp .ne 13, 3) := by decide +kernel
theorem dX9_parked_15 : decode cX9_parked 15 = .ok (.new 134, 3) := by decide +kernel
theorem dX9_parked_18 : decode cX9_parked 18 = .ok (.dup, 1) := by decide +kernel
theorem dX9_parked_19 : decode cX9_parked 19 = .ok (.ldc 218, 2) := by decide +kernel
theorem dX9_parked_21 : decode cX9_parked 21 = .ok (.invokespecial 138, 3) := by decide +kernel
theorem dX9_parked_24 : decode cX9_parked 24 = .ok (.athrow, 1) := by decide +kernel
theorem dX9_parked_25 : decode cX9_parked 25 = .ok (.iload_n 2, 1) := by decide +kernel
theorem dX9_parked_26 : decode cX9_parked 26 = .ok (.ireturn, 1) := by decide +kernel
def rm_X9_parked : Room := { frames := 6, cells := 1, slots := 6, locals := 100 }
def M_X9_parked_0 (k : Nat) (S : VV × VV × VV × VV × VV × Int32) (p0 : Int32) : Option (Int32 × Int32) := (M_X0_waitingAt k (S.1) (-1 : Int32) p0).bind fun q1 => if q1 = (-1 : Int32) then (some ((1 : Int32), (0 : Int32))) else (some ((0 : Int32), q1))
set_option maxRecDepth 100000 in
set_option maxHeartbeats 4000000 in
theorem N_X9_parked_0 (C : CX E p l s m args meth c cX9_parked 3 RX9 (some .int) A) (a : Nat → Nat) (k : Nat) (S : VV × VV × VV × VV × VV × Int32) {post : Int32 → va_W → Prop} {px : Int32 → va_W → Prop} (hlt : l.stackTraces = false) (hno : ∀ x ∈ c.exceptionTable.toList, False) (hdc : DC s) :
    ∀ (p0 : Int32) (q : Int32 × Int32), M_X9_parked_0 k S p0 = some q → TI post px q.1 q.2 (wSg E a S) →
      WW E p l e rm_X9_parked s m args below meth c A 0 0 (QXI E below post px args s rm_X9_parked A) (wSg E a S) 3 [some (.ref (a 0)), some (.int p0), none] 0 [] := by
  intro p0 q  h hq
  unfold M_X9_parked_0 at h
  refine r_aload_n (pc := 0) C (i := 0) dX9_parked_0 rfl rfl ?_
  refine r_get (pc := 1) C gwX9 0 rfl rfl 0 (by decide) wm_2_15 rfl dX9_parked_1 ?_
  refine r_iconst (pc := 4) C (v := (-1)) dX9_parked_4 (by decide) ?_
  refine r_iload_n (pc := 5) C (i := 1) dX9_parked_5 rfl rfl ?_
  obtain ⟨q1, hq1, h⟩ := bnd h
  refine r_callVp_CI (Cn := RX0) (pc := 6) C [.int (-1 : Int32), .int p0] (c_X0_waitingAt E l k (fun i => a (i + 1)) (S.1) (-1 : Int32) p0 hq1) [1, 2, 3, 4, 5, 6, 7, 8, 9, 10, 11, 12, 13, 14, 15, 16, 17, 18] (hp_X9_size_0 E a S) (by decide) 0 rfl rfl rfl g_X9_213 hd_X0_waitingAt ⟨Nat.le_of_ble_eq_true rfl, Nat.le_of_ble_eq_true rfl⟩ ⟨Nat.zero_le _, Nat.zero_le _⟩ (Nat.le_of_ble_eq_true rfl) rfl dX9_parked_6 (fun r hr => ?_)
  have hr := hr.symm
  subst hr
  refine r_istore_n (pc := 9) C (i := 2) dX9_parked_9 rfl (by decide) rfl ?_
  refine r_iload_n (pc := 10) C (i := 2) dX9_parked_10 rfl rfl ?_
  refine r_iconst (pc := 11) C (v := (-1)) dX9_parked_11 (by decide) ?_
  refine r_icmp_ne (pc := 12) C (tgt := 25) dX9_parked_12 rfl (fun c2 => ?_) (fun c2 => ?_)
  · rw [if_neg c2] at h
    refine r_iload_n (pc := 25) C (i := 2) dX9_parked_25 rfl rfl ?_
    cases h
    exact r_xI (r_ireti (pc := 26) C (TI_0 hq) (Nat.zero_le _) (Nat.zero_le _) dX9_parked_26)
  · rw [if_pos c2] at h
    cases h
    exact r_throwN (pc := 15) C hlt hno hdc 21 rfl wm_3_210 wm_1_23 dX9_parked_15 dX9_parked_18 dX9_parked_19 dX9_parked_21 dX9_parked_24 (Nat.le_of_ble_eq_true rfl) (Nat.le_of_ble_eq_true rfl) (Nat.le_of_ble_eq_true rfl) (Nat.le_of_ble_eq_true rfl) (Nat.le_of_ble_eq_true rfl) (TI_x (by decide) hq)
def M_X9_parked (k : Nat) (S : VV × VV × VV × VV × VV × Int32) (p0 : Int32) : Option (Int32 × Int32) := M_X9_parked_0 k S p0
set_option maxRecDepth 100000 in
set_option maxHeartbeats 4000000 in
theorem c_X9_parked (E : ENV) (l : Launch) (k : Nat) (a : Nat → Nat) (S : VV × VV × VV × VV × VV × Int32) (p0 : Int32) (hlt : l.stackTraces = false) {q : Int32 × Int32} (hm : M_X9_parked k S p0 = some q) : XI E l yX9_parked cX9_parked 3 (some .int) rm_X9_parked [.ref (a 0), .int p0] (wSg E a S) (fun r w' => q.1 = 0 ∧ r = q.2 ∧ w' = (wSg E a S)) (fun cd w' => cd = q.1 ∧ ¬ q.1 = 0 ∧ w' = (wSg E a S)) :=
  XI.of 1 (by decide) (Nat.le_of_ble_eq_true rfl) (fun p e s m below meth c A C hno hdc => r_weak (lSub_s (lSub_s (lSub_n lSub_e))) (N_X9_parked_0 C a k S hlt hno hdc p0 q  hm (TI_of rfl)))
theorem hd_X3_pairsThatKilled : yX3_pairsThatKilled.cls = RX3 ∧ yX3_pairsThatKilled.cls ≠ "java/lang/invoke/MethodHandle" ∧ yX3_pairsThatKilled.cls ≠ "java/lang/invoke/VarHandle" ∧ (parseMethodDescriptor yX3_pairsThatKilled.desc).map (fun d => d.parameters.length) = some 0 := by decide +kernel
theorem g_X9_223 : GoodIn GW (wsV RX9 223 RX3 yX3_pairsThatKilled (wsG yX3_pairsThatKilled cX3_pairsThatKilled 4 (some .int))) := gw_V wm_2_54 wm_2_55 wm_2_56 wm_1_5 wm_2_57
-- ShardGuard.killingPairs()I
set_option maxHeartbeats 8000000 in
theorem hp_X9_killingPairs_0 (E : ENV) (a : Nat → Nat) (S : VV × VV × VV × VV × VV × Int32) : ([10, 11, 12, 13, 14, 15, 16] : List Nat).map (fun i => (wSg E a S)[i]?) = (wKl E (fun i => a (i + 10)) (klF (S.1))).map some := rfl
theorem dX9_killingPairs_0 : decode cX9_killingPairs 0 = .ok (.aload_n 0, 1) := by decide +kernel
theorem dX9_killingPairs_1 : decode cX9_killingPairs 1 = .ok (.getfield 12, 3) := by decide +kernel
theorem dX9_killingPairs_4 : decode cX9_killingPairs 4 = .ok (.getfield 118, 3) := by decide +kernel
theorem dX9_killingPairs_7 : decode cX9_killingPairs 7 = .ok (.invokevirtual 223, 3) := by decide +kernel
theorem dX9_killingPairs_10 : decode cX9_killingPairs 10 = .ok (.ireturn, 1) := by decide +kernel
def rm_X9_killingPairs : Room := { frames := 2, cells := 0, slots := 0, locals := 47 }
def M_X9_killingPairs_0 (k : Nat) (S : VV × VV × VV × VV × VV × Int32) : Option (Int32) := (M_X3_pairsThatKilled k (klF (S.1))).bind fun q1 => some q1
set_option maxRecDepth 100000 in
set_option maxHeartbeats 4000000 in
theorem N_X9_killingPairs_0 (C : CX E p l s m args meth c cX9_killingPairs 1 RX9 (some .int) A) (a : Nat → Nat) (k : Nat) (S : VV × VV × VV × VV × VV × Int32) {post : Int32 → va_W → Prop} :
    ∀ (q : Int32), M_X9_killingPairs_0 k S = some q → post q (wSg E a S) →
      WW E p l e rm_X9_killingPairs s m args below meth c A 0 0 (QI E below post args s rm_X9_killingPairs A) (wSg E a S) 1 [some (.ref (a 0))] 0 [] := by
  intro  q  h hq
  unfold M_X9_killingPairs_0 at h
  refine r_aload_n (pc := 0) C (i := 0) dX9_killingPairs_0 rfl rfl ?_
  refine r_get (pc := 1) C gwX9 0 rfl rfl 0 (by decide) wm_2_15 rfl dX9_killingPairs_1 ?_
  refine r_get (pc := 4) C gwX0 1 rfl rfl 10 (by decide) wm_1_120 rfl dX9_killingPairs_4 ?_
  obtain ⟨q1, hq1, h⟩ := bnd h
  refine r_callVp_CI (Cn := RX3) (pc := 7) C [] (c_X3_pairsThatKilled E l k (fun i => a (i + 10)) (klF (S.1)) hq1) [10, 11, 12, 13, 14, 15, 16] (hp_X9_killingPairs_0 E a S) (by decide) 0 rfl rfl rfl g_X9_223 hd_X3_pairsThatKilled ⟨Nat.le_of_ble_eq_true rfl, Nat.le_of_ble_eq_true rfl⟩ ⟨Nat.zero_le _, Nat.zero_le _⟩ (Nat.le_of_ble_eq_true rfl) rfl dX9_killingPairs_7 (fun r hr => ?_)
  have hr := hr.symm
  subst hr
  cases h
  exact r_ireti (pc := 10) C hq (Nat.zero_le _) (Nat.zero_le _) dX9_killingPairs_10
def M_X9_killingPairs (k : Nat) (S : VV × VV × VV × VV × VV × Int32) : Option (Int32) := M_X9_killingPairs_0 k S
set_option maxRecDepth 100000 in
set_option maxHeartbeats 4000000 in
theorem c_X9_killingPairs (E : ENV) (l : Launch) (k : Nat) (a : Nat → Nat) (S : VV × VV × VV × VV × VV × Int32) {q : Int32} (hm : M_X9_killingPairs k S = some q) : CI E l yX9_killingPairs cX9_killingPairs 1 (some .int) rm_X9_killingPairs [.ref (a 0)] (wSg E a S) (fun r w' => r = q ∧ w' = (wSg E a S)) :=
  CI.of 0 (by decide) (Nat.le_of_ble_eq_true rfl) (fun p e s m below meth c A C _ => r_weak (lSub_s lSub_e) (N_X9_killingPairs_0 C a k S q  hm ⟨rfl, rfl⟩))
theorem hd_X0_greatestShared : yX0_greatestShared.cls = RX0 ∧ yX0_greatestShared.cls ≠ "java/lang/invoke/MethodHandle" ∧ yX0_greatestShared.cls ≠ "java/lang/invoke/VarHandle" ∧ (parseMethodDescriptor yX0_greatestShared.desc).map (fun d => d.parameters.length) = some 0 := by decide +kernel
theorem g_X9_229 : GoodIn GW (wsV RX9 229 RX0 yX0_greatestShared (wsG yX0_greatestShared cX0_greatestShared 4 (some .int))) := gw_V wm_2_66 wm_2_67 wm_2_68 wm_1_2 wm_2_69
-- ShardGuard.greatestOverlap()I
theorem dX9_greatestOverlap_0 : decode cX9_greatestOverlap 0 = .ok (.aload_n 0, 1) := by decide +kernel
theorem dX9_greatestOverlap_1 : decode cX9_greatestOverlap 1 = .ok (.getfield 12, 3) := by decide +kernel
theorem dX9_greatestOverlap_4 : decode cX9_greatestOverlap 4 = .ok (.invokevirtual 229, 3) := by decide +kernel
theorem dX9_greatestOverlap_7 : decode cX9_greatestOverlap 7 = .ok (.ireturn, 1) := by decide +kernel
def rm_X9_greatestOverlap : Room := { frames := 4, cells := 0, slots := 0, locals := 90 }
def M_X9_greatestOverlap_0 (k : Nat) (S : VV × VV × VV × VV × VV × Int32) : Option (Int32) := (M_X0_greatestShared k (S.1)).bind fun q1 => some q1
set_option maxRecDepth 100000 in
set_option maxHeartbeats 4000000 in
theorem N_X9_greatestOverlap_0 (C : CX E p l s m args meth c cX9_greatestOverlap 1 RX9 (some .int) A) (a : Nat → Nat) (k : Nat) (S : VV × VV × VV × VV × VV × Int32) {post : Int32 → va_W → Prop} :
    ∀ (q : Int32), M_X9_greatestOverlap_0 k S = some q → post q (wSg E a S) →
      WW E p l e rm_X9_greatestOverlap s m args below meth c A 0 0 (QI E below post args s rm_X9_greatestOverlap A) (wSg E a S) 1 [some (.ref (a 0))] 0 [] := by
  intro  q  h hq
  unfold M_X9_greatestOverlap_0 at h
  refine r_aload_n (pc := 0) C (i := 0) dX9_greatestOverlap_0 rfl rfl ?_
  refine r_get (pc := 1) C gwX9 0 rfl rfl 0 (by decide) wm_2_15 rfl dX9_greatestOverlap_1 ?_
  obtain ⟨q1, hq1, h⟩ := bnd h
  refine r_callVp_CI (Cn := RX0) (pc := 4) C [] (c_X0_greatestShared E l k (fun i => a (i + 1)) (S.1) hq1) [1, 2, 3, 4, 5, 6, 7, 8, 9, 10, 11, 12, 13, 14, 15, 16, 17, 18] (hp_X9_size_0 E a S) (by decide) 0 rfl rfl rfl g_X9_229 hd_X0_greatestShared ⟨Nat.le_of_ble_eq_true rfl, Nat.le_of_ble_eq_true rfl⟩ ⟨Nat.zero_le _, Nat.zero_le _⟩ (Nat.le_of_ble_eq_true rfl) rfl dX9_greatestOverlap_4 (fun r hr => ?_)
  have hr := hr.symm
  subst hr
  cases h
  exact r_ireti (pc := 7) C hq (Nat.zero_le _) (Nat.zero_le _) dX9_greatestOverlap_7
def M_X9_greatestOverlap (k : Nat) (S : VV × VV × VV × VV × VV × Int32) : Option (Int32) := M_X9_greatestOverlap_0 k S
set_option maxRecDepth 100000 in
set_option maxHeartbeats 4000000 in
theorem c_X9_greatestOverlap (E : ENV) (l : Launch) (k : Nat) (a : Nat → Nat) (S : VV × VV × VV × VV × VV × Int32) {q : Int32} (hm : M_X9_greatestOverlap k S = some q) : CI E l yX9_greatestOverlap cX9_greatestOverlap 1 (some .int) rm_X9_greatestOverlap [.ref (a 0)] (wSg E a S) (fun r w' => r = q ∧ w' = (wSg E a S)) :=
  CI.of 0 (by decide) (Nat.le_of_ble_eq_true rfl) (fun p e s m below meth c A C _ => r_weak (lSub_s lSub_e) (N_X9_greatestOverlap_0 C a k S q  hm ⟨rfl, rfl⟩))
theorem hd_X0_drawShards : yX0_drawShards.cls = RX0 ∧ yX0_drawShards.cls ≠ "java/lang/invoke/MethodHandle" ∧ yX0_drawShards.cls ≠ "java/lang/invoke/VarHandle" ∧ (parseMethodDescriptor yX0_drawShards.desc).map (fun d => d.parameters.length) = some 1 := by decide +kernel
theorem g_X9_238 : GoodIn GW (wsV RX9 238 RX0 yX0_drawShards (wsG yX0_drawShards cX0_drawShards 6 none)) := gw_V wm_2_118 wm_2_119 wm_2_120 wm_1_2 wm_2_121
-- ShardGuard.bestSeed()I
set_option maxHeartbeats 8000000 in
theorem hp_X9_bestSeed_0 (E : ENV) (a : Nat → Nat) (S : VV × VV × VV × VV × VV × Int32) : ([19, 20, 21, 22, 23, 24, 25, 26, 27, 28, 29, 30, 31, 32, 33, 34, 35, 36] : List Nat).map (fun i => (wSg E a S)[i]?) = (wFl E (fun i => a (i + 19)) (S.2.1)).map some := (seg_mapL ([(a 0, .inr (7, [.ref (a 1), .ref (a 19), .ref (a 37), .int ((S.2.2.2.2.2)), .ref (a 61), .ref (a 55), .ref (a 58)]))] ++ (wFl E (fun i => a (i + 1)) (S.1))) (wFl E (fun i => a (i + 19)) (S.2.1)) (wFl E (fun i => a (i + 37)) (S.2.2.1) ++ (wTk E (fun i => a (i + 55)) (S.2.2.2.1) ++ (wTx E (fun i => a (i + 58)) (S.2.2.2.2.1)))) (by first | (simp only [wSg, List.append_assoc, List.nil_append, List.append_nil]; done) | (simp only [wSg, List.append_assoc, List.nil_append, List.append_nil]; rfl) | rfl) 18 rfl [19, 20, 21, 22, 23, 24, 25, 26, 27, 28, 29, 30, 31, 32, 33, 34, 35, 36] (by first | (simp only [List.length_append, List.length_cons, List.length_nil, wFl_len, wTk_len, wTx_len]; rfl) | rfl))
set_option maxHeartbeats 8000000 in
theorem pw_X9_bestSeed_0 (E : ENV) (a : Nat → Nat) (S : VV × VV × VV × VV × VV × Int32) (X0 : Nat → Nat → Int32) : putW (wSg E a S) [19, 20, 21, 22, 23, 24, 25, 26, 27, 28, 29, 30, 31, 32, 33, 34, 35, 36] (wFl E (fun i => a (i + 19)) X0) = some (wSg E a (S.1, X0, S.2.2)) := seg_put1 ([(a 0, .inr (7, [.ref (a 1), .ref (a 19), .ref (a 37), .int ((S.2.2.2.2.2)), .ref (a 61), .ref (a 55), .ref (a 58)]))] ++ (wFl E (fun i => a (i + 1)) (S.1))) (wFl E (fun i => a (i + 19)) (S.2.1)) (wFl E (fun i => a (i + 19)) X0) (wFl E (fun i => a (i + 37)) (S.2.2.1) ++ (wTk E (fun i => a (i + 55)) (S.2.2.2.1) ++ (wTx E (fun i => a (i + 58)) (S.2.2.2.2.1)))) (by first | (simp only [wSg, List.append_assoc, List.nil_append, List.append_nil]; done) | (simp only [wSg, List.append_assoc, List.nil_append, List.append_nil]; rfl) | rfl) (by first | (simp only [wSg, List.append_assoc, List.nil_append, List.append_nil]; done) | (simp only [wSg, List.append_assoc, List.nil_append, List.append_nil]; rfl) | rfl) 18 rfl rfl [19, 20, 21, 22, 23, 24, 25, 26, 27, 28, 29, 30, 31, 32, 33, 34, 35, 36] (by first | (simp only [List.length_append, List.length_cons, List.length_nil, wFl_len, wTk_len, wTx_len]; rfl) | rfl)
set_option maxHeartbeats 8000000 in
theorem hp_X9_bestSeed_1 (E : ENV) (a : Nat → Nat) (S : VV × VV × VV × VV × VV × Int32) : ([19, 20, 21, 22, 23, 24, 25, 26, 27, 28, 29, 30, 31, 32, 33, 34, 35, 36, 1, 2, 3, 4, 5, 6, 7, 8, 9, 10, 11, 12, 13, 14, 15, 16, 17, 18] : List Nat).map (fun i => (wSg E a S)[i]?) = (wFl E (fun i => a (i + 19)) (S.2.1) ++ wFl E (fun i => a (i + 1)) (S.1)).map some := (seg_map2 (seg_mapL ([(a 0, .inr (7, [.ref (a 1), .ref (a 19), .ref (a 37), .int ((S.2.2.2.2.2)), .ref (a 61), .ref (a 55), .ref (a 58)]))] ++ (wFl E (fun i => a (i + 1)) (S.1))) (wFl E (fun i => a (i + 19)) (S.2.1)) (wFl E (fun i => a (i + 37)) (S.2.2.1) ++ (wTk E (fun i => a (i + 55)) (S.2.2.2.1) ++ (wTx E (fun i => a (i + 58)) (S.2.2.2.2.1)))) (by first | (simp only [wSg, List.append_assoc, List.nil_append, List.append_nil]; done) | (simp only [wSg, List.append_assoc, List.nil_append, List.append_nil]; rfl) | rfl) 18 rfl [19, 20, 21, 22, 23, 24, 25, 26, 27, 28, 29, 30, 31, 32, 33, 34, 35, 36] (by first | (simp only [List.length_append, List.length_cons, List.length_nil, wFl_len, wTk_len, wTx_len]; rfl) | rfl)) (seg_mapL ([(a 0, .inr (7, [.ref (a 1), .ref (a 19), .ref (a 37), .int ((S.2.2.2.2.2)), .ref (a 61), .ref (a 55), .ref (a 58)]))]) (wFl E (fun i => a (i + 1)) (S.1)) (wFl E (fun i => a (i + 19)) (S.2.1) ++ (wFl E (fun i => a (i + 37)) (S.2.2.1) ++ (wTk E (fun i => a (i + 55)) (S.2.2.2.1) ++ (wTx E (fun i => a (i + 58)) (S.2.2.2.2.1))))) (by first | (simp only [wSg, List.append_assoc, List.nil_append, List.append_nil]; done) | (simp only [wSg, List.append_assoc, List.nil_append, List.append_nil]; rfl) | rfl) 18 rfl [1, 2, 3, 4, 5, 6, 7, 8, 9, 10, 11, 12, 13, 14, 15, 16, 17, 18] (by first | (simp only [List.length_append, List.length_cons, List.length_nil, wFl_len, wTk_len, wTx_len]; rfl) | rfl)))
set_option maxHeartbeats 8000000 in
theorem pw_X9_bestSeed_1 (E : ENV) (a : Nat → Nat) (S : VV × VV × VV × VV × VV × Int32) (X0 : Nat → Nat → Int32) : putW (wSg E a S) [19, 20, 21, 22, 23, 24, 25, 26, 27, 28, 29, 30, 31, 32, 33, 34, 35, 36, 1, 2, 3, 4, 5, 6, 7, 8, 9, 10, 11, 12, 13, 14, 15, 16, 17, 18] (wFl E (fun i => a (i + 19)) X0 ++ wFl E (fun i => a (i + 1)) (S.1)) = some (wSg E a (S.1, X0, S.2.2)) := seg_put2 ([(a 0, .inr (7, [.ref (a 1), .ref (a 19), .ref (a 37), .int ((S.2.2.2.2.2)), .ref (a 61), .ref (a 55), .ref (a 58)]))] ++ (wFl E (fun i => a (i + 1)) (S.1))) (wFl E (fun i => a (i + 19)) (S.2.1)) (wFl E (fun i => a (i + 19)) X0) (wFl E (fun i => a (i + 37)) (S.2.2.1) ++ (wTk E (fun i => a (i + 55)) (S.2.2.2.1) ++ (wTx E (fun i => a (i + 58)) (S.2.2.2.2.1)))) (by first | (simp only [wSg, List.append_assoc, List.nil_append, List.append_nil]; done) | (simp only [wSg, List.append_assoc, List.nil_append, List.append_nil]; rfl) | rfl) 18 rfl rfl [19, 20, 21, 22, 23, 24, 25, 26, 27, 28, 29, 30, 31, 32, 33, 34, 35, 36] (by first | (simp only [List.length_append, List.length_cons, List.length_nil, wFl_len, wTk_len, wTx_len]; rfl) | rfl) (seg_put1 (([(a 0, .inr (7, [.ref (a 1), .ref (a 19), .ref (a 37), .int ((S.2.2.2.2.2)), .ref (a 61), .ref (a 55), .ref (a 58)]))])) (wFl E (fun i => a (i + 1)) (S.1)) (wFl E (fun i => a (i + 1)) (S.1)) ((wFl E (fun i => a (i + 19)) X0) ++ (wFl E (fun i => a (i + 37)) (S.2.2.1) ++ (wTk E (fun i => a (i + 55)) (S.2.2.2.1) ++ (wTx E (fun i => a (i + 58)) (S.2.2.2.2.1))))) (by first | (simp only [wSg, List.append_assoc, List.nil_append, List.append_nil]; done) | (simp only [wSg, List.append_assoc, List.nil_append, List.append_nil]; rfl) | rfl) (by first | (simp only [wSg, List.append_assoc, List.nil_append, List.append_nil]; done) | (simp only [wSg, List.append_assoc, List.nil_append, List.append_nil]; rfl) | rfl) 18 rfl rfl [1, 2, 3, 4, 5, 6, 7, 8, 9, 10, 11, 12, 13, 14, 15, 16, 17, 18] (by first | (simp only [List.length_append, List.length_cons, List.length_nil, wFl_len, wTk_len, wTx_len]; rfl) | rfl))
theorem dX9_bestSeed_0 : decode cX9_bestSeed 0 = .ok (.aload_n 0, 1) := by decide +kernel
theorem dX9_bestSeed_1 : decode cX9_bestSeed 1 = .ok (.getfield 16, 3) := by decide +kernel
theorem dX9_bestSeed_4 : decode cX9_bestSeed 4 = .ok (.aload_n 0, 1) := by decide +kernel
theorem dX9_bestSeed_5 : decode cX9_bestSeed 5 = .ok (.getfield 12, 3) := by decide +kernel
theorem dX9_bestSeed_8 : decode cX9_bestSeed 8 = .ok (.invokevirtual 81, 3) := by decide +kernel
theorem dX9_bestSeed_11 : decode cX9_bestSeed 11 = .ok (.iconst 0, 1) := by decide +kernel
theorem dX9_bestSeed_12 : decode cX9_bestSeed 12 = .ok (.istore_n 1, 1) := by decide +kernel
theorem dX9_bestSeed_13 : decode cX9_bestSeed 13 = .ok (.bipush 12, 2) := by decide +kernel
theorem dX9_bestSeed_15 : decode cX9_bestSeed 15 = .ok (.istore_n 2, 1) := by decide +kernel
theorem dX9_bestSeed_16 : decode cX9_bestSeed 16 = .ok (.iconst 0, 1) := by decide +kernel
theorem dX9_bestSeed_17 : decode cX9_bestSeed 17 = .ok (.istore_n 3, 1) := by decide +kernel
theorem dX9_bestSeed_18 : decode cX9_bestSeed 18 = .ok (.iload_n 3, 1) := by decide +kernel
theorem dX9_bestSeed_19 : decode cX9_bestSeed 19 = .ok (.bipush 100, 2) := by decide +kernel
theorem dX9_bestSeed_21 : decode cX9_bestSeed 21 = .ok (.if_icmp .ge 37, 3) := by decide +kernel
theorem dX9_bestSeed_24 : decode cX9_bestSeed 24 = .ok (.aload_n 0, 1) := by decide +kernel
theorem dX9_bestSeed_25 : decode cX9_bestSeed 25 = .ok (.getfield 16, 3) := by decide +kernel
theorem dX9_bestSeed_28 : decode cX9_bestSeed 28 = .ok (.iload_n 3, 1) := by decide +kernel
theorem dX9_bestSeed_29 : decode cX9_bestSeed 29 = .ok (.invokevirtual 238, 3) := by decide +kernel
theorem dX9_bestSeed_32 : decode cX9_bestSeed 32 = .ok (.aload_n 0, 1) := by decide +kernel
theorem dX9_bestSeed_33 : decode cX9_bestSeed 33 = .ok (.getfield 16, 3) := by decide +kernel
theorem dX9_bestSeed_36 : decode cX9_bestSeed 36 = .ok (.invokevirtual 229, 3) := by decide +kernel
theorem dX9_bestSeed_39 : decode cX9_bestSeed 39 = .ok (.istore 4, 2) := by decide +kernel
theorem dX9_bestSeed_41 : decode cX9_bestSeed 41 = .ok (.iload 4, 2) := by decide +kernel
theorem dX9_bestSeed_43 : decode cX9_bestSeed 43 = .ok (.iload_n 2, 1) := by decide +kernel
theorem dX9_bestSeed_44 : decode cX9_bestSeed 44 = .ok (.if_icmp .ge 8, 3) := by decide +kernel
theorem dX9_bestSeed_47 : decode cX9_bestSeed 47 = .ok (.iload 4, 2) := by decide +kernel
theorem dX9_bestSeed_49 : decode cX9_bestSeed 49 = .ok (.istore_n 2, 1) := by decide +kernel
theorem dX9_bestSeed_50 : decode cX9_bestSeed 50 = .ok (.iload_n 3, 1) := by decide +kernel
theorem dX9_bestSeed_51 : decode cX9_bestSeed 51 = .ok (.istore_n 1, 1) := by decide +kernel
theorem dX9_bestSeed_52 : decode cX9_bestSeed 52 = .ok (.iinc 3 1, 3) := by decide +kernel
theorem dX9_bestSeed_55 : decode cX9_bestSeed 55 = .ok (.goto (-37), 3) := by decide +kernel
theorem dX9_bestSeed_58 : decode cX9_bestSeed 58 = .ok (.iload_n 1, 1) := by decide +kernel
theorem dX9_bestSeed_59 : decode cX9_bestSeed 59 = .ok (.ireturn, 1) := by decide +kernel
def rm_X9_bestSeed : Room := { frames := 4, cells := 0, slots := 0, locals := 143 }
def M_X9_bestSeed_18 (k : Nat) : Nat → (Int32) → (Int32) → (Int32) → (VV × VV × VV × VV × VV × Int32) → Option (Int32 × (VV × VV × VV × VV × VV × Int32))
  | 0, _, _, _, _ => none
  | n + 1, x1, x2, x3, S => if (100 : Int32) ≤ x3 then (some (x1, S)) else ((M_X0_drawShards k (S.2.1) x3).bind fun q2 => lt ((S.1, q2, S.2.2)) fun F3 => (M_X0_greatestShared k (F3.2.1)).bind fun q4 => if x2 ≤ q4 then (M_X9_bestSeed_18 k n x1 x2 (x3 + 1) F3) else (M_X9_bestSeed_18 k n x3 q4 (x3 + 1) F3))
theorem M_X9_bestSeed_18_s (k : Nat) (n : Nat) (x1 : Int32) (x2 : Int32) (x3 : Int32) (S : VV × VV × VV × VV × VV × Int32) : M_X9_bestSeed_18 k (n + 1) x1 x2 x3 S = (if (100 : Int32) ≤ x3 then (some (x1, S)) else ((M_X0_drawShards k (S.2.1) x3).bind fun q2 => lt ((S.1, q2, S.2.2)) fun F3 => (M_X0_greatestShared k (F3.2.1)).bind fun q4 => if x2 ≤ q4 then (M_X9_bestSeed_18 k n x1 x2 (x3 + 1) F3) else (M_X9_bestSeed_18 k n x3 q4 (x3 + 1) F3))) := rfl
set_option maxRecDepth 100000 in
set_option maxHeartbeats 4000000 in
theorem N_X9_bestSeed_18 (C : CX E p l s m args meth c cX9_bestSeed 5 RX9 (some .int) A) (a : Nat → Nat) (k : Nat) {post : Int32 → va_W → Prop} :
    ∀ (n : Nat) (x1 : Int32) (x2 : Int32) (x3 : Int32) (S : VV × VV × VV × VV × VV × Int32) (q : Int32 × (VV × VV × VV × VV × VV × Int32)), M_X9_bestSeed_18 k n x1 x2 x3 S = some q → post q.1 (wSg E a q.2) →
      WW E p l e rm_X9_bestSeed s m args below meth c A 0 0 (QI E below post args s rm_X9_bestSeed A) (wSg E a S) 5 [some (.ref (a 0)), some (.int x1), some (.int x2), some (.int x3), none] 18 [] := by
  intro n
  induction n with
  | zero => intro x1 x2 x3 S q  h _; cases h
  | succ n ih =>
    intro x1 x2 x3 S q  h hq
    rw [M_X9_bestSeed_18_s] at h
    refine r_iload_n (pc := 18) C (i := 3) dX9_bestSeed_18 rfl rfl ?_
    refine r_bipush (pc := 19) C (v := 100) dX9_bestSeed_19 (by decide) ?_
    refine r_icmp_ge (pc := 21) C (tgt := 58) dX9_bestSeed_21 rfl (fun c1 => ?_) (fun c1 => ?_)
    · rw [if_pos c1] at h
      refine r_iload_n (pc := 58) C (i := 1) dX9_bestSeed_58 rfl rfl ?_
      cases h
      exact r_ireti (pc := 59) C hq (Nat.zero_le _) (Nat.zero_le _) dX9_bestSeed_59
    · rw [if_neg c1] at h
      refine r_aload_n (pc := 24) C (i := 0) dX9_bestSeed_24 rfl rfl ?_
      refine r_get (pc := 25) C gwX9 0 rfl rfl 1 (by decide) wm_2_16 rfl dX9_bestSeed_25 ?_
      refine r_iload_n (pc := 28) C (i := 3) dX9_bestSeed_28 rfl rfl ?_
      obtain ⟨q2, hq2, h⟩ := bnd h
      obtain ⟨F3, hF3, h⟩ := lt_e h
      refine r_callV_CV (Cn := RX0) (pc := 29) C [.int x3] (c_X0_drawShards E l k (fun i => a (i + 19)) (S.2.1) x3 hq2) [19, 20, 21, 22, 23, 24, 25, 26, 27, 28, 29, 30, 31, 32, 33, 34, 35, 36] (hp_X9_bestSeed_0 E a S) (by decide) 0 rfl rfl rfl g_X9_238 hd_X0_drawShards ⟨Nat.le_of_ble_eq_true rfl, Nat.le_of_ble_eq_true rfl⟩ ⟨Nat.zero_le _, Nat.zero_le _⟩ (Nat.le_of_ble_eq_true rfl) rfl dX9_bestSeed_29 (fun w1 hw1 => ?_)
      subst hw1
      refine ⟨(wSg E a F3), by rw [hF3]; exact (pw_X9_bestSeed_0 E a S q2), ?_⟩
      refine r_aload_n (pc := 32) C (i := 0) dX9_bestSeed_32 rfl rfl ?_
      refine r_get (pc := 33) C gwX9 0 rfl rfl 1 (by decide) wm_2_16 rfl dX9_bestSeed_33 ?_
      obtain ⟨q4, hq4, h⟩ := bnd h
      refine r_callVp_CI (Cn := RX0) (pc := 36) C [] (c_X0_greatestShared E l k (fun i => a (i + 19)) (F3.2.1) hq4) [19, 20, 21, 22, 23, 24, 25, 26, 27, 28, 29, 30, 31, 32, 33, 34, 35, 36] (hp_X9_bestSeed_0 E a F3) (by decide) 0 rfl rfl rfl g_X9_229 hd_X0_greatestShared ⟨Nat.le_of_ble_eq_true rfl, Nat.le_of_ble_eq_true rfl⟩ ⟨Nat.zero_le _, Nat.zero_le _⟩ (Nat.le_of_ble_eq_true rfl) rfl dX9_bestSeed_36 (fun r hr => ?_)
      have hr := hr.symm
      subst hr
      refine r_istore (pc := 39) C (i := 4) dX9_bestSeed_39 (by decide) rfl ?_
      refine r_iload (pc := 41) C (i := 4) dX9_bestSeed_41 rfl ?_
      refine r_iload_n (pc := 43) C (i := 2) dX9_bestSeed_43 rfl rfl ?_
      refine r_icmp_ge (pc := 44) C (tgt := 52) dX9_bestSeed_44 rfl (fun c5 => ?_) (fun c5 => ?_)
      · rw [if_pos c5] at h
        refine r_iinc (pc := 52) C (v := (x3 + 1)) dX9_bestSeed_52 rfl rfl (by decide) rfl ?_
        refine r_goto (pc := 55) C (tgt := 18) dX9_bestSeed_55 rfl ?_
        refine r_weak (lSub_s (lSub_s (lSub_s (lSub_s (lSub_n lSub_e))))) ?_
        exact ih x1 x2 (x3 + 1) F3 q  h hq
      · rw [if_neg c5] at h
        refine r_iload (pc := 47) C (i := 4) dX9_bestSeed_47 rfl ?_
        refine r_istore_n (pc := 49) C (i := 2) dX9_bestSeed_49 rfl (by decide) rfl ?_
        refine r_iload_n (pc := 50) C (i := 3) dX9_bestSeed_50 rfl rfl ?_
        refine r_istore_n (pc := 51) C (i := 1) dX9_bestSeed_51 rfl (by decide) rfl ?_
        refine r_iinc (pc := 52) C (v := (x3 + 1)) dX9_bestSeed_52 rfl rfl (by decide) rfl ?_
        refine r_goto (pc := 55) C (tgt := 18) dX9_bestSeed_55 rfl ?_
        refine r_weak (lSub_s (lSub_s (lSub_s (lSub_s (lSub_n lSub_e))))) ?_
        exact ih x3 q4 (x3 + 1) F3 q  h hq
def M_X9_bestSeed_0 (k : Nat) (S : VV × VV × VV × VV × VV × Int32) : Option (Int32 × (VV × VV × VV × VV × VV × Int32)) := (M_X0_copyFrom k (S.2.1) (S.1)).bind fun q6 => lt ((S.1, q6, S.2.2)) fun F7 => M_X9_bestSeed_18 k k (0 : Int32) (12 : Int32) (0 : Int32) F7
set_option maxRecDepth 100000 in
set_option maxHeartbeats 4000000 in
theorem N_X9_bestSeed_0 (C : CX E p l s m args meth c cX9_bestSeed 5 RX9 (some .int) A) (a : Nat → Nat) (k : Nat) {post : Int32 → va_W → Prop} :
    ∀ (S : VV × VV × VV × VV × VV × Int32) (q : Int32 × (VV × VV × VV × VV × VV × Int32)), M_X9_bestSeed_0 k S = some q → post q.1 (wSg E a q.2) →
      WW E p l e rm_X9_bestSeed s m args below meth c A 0 0 (QI E below post args s rm_X9_bestSeed A) (wSg E a S) 5 [some (.ref (a 0)), none, none, none, none] 0 [] := by
  intro S q  h hq
  unfold M_X9_bestSeed_0 at h
  refine r_aload_n (pc := 0) C (i := 0) dX9_bestSeed_0 rfl rfl ?_
  refine r_get (pc := 1) C gwX9 0 rfl rfl 1 (by decide) wm_2_16 rfl dX9_bestSeed_1 ?_
  refine r_aload_n (pc := 4) C (i := 0) dX9_bestSeed_4 rfl rfl ?_
  refine r_get (pc := 5) C gwX9 0 rfl rfl 0 (by decide) wm_2_15 rfl dX9_bestSeed_5 ?_
  obtain ⟨q6, hq6, h⟩ := bnd h
  obtain ⟨F7, hF7, h⟩ := lt_e h
  refine r_callV_CV (Cn := RX0) (pc := 8) C [.ref (a 1)] (c_X0_copyFrom E l k (fun i => a (i + 19)) (fun i => a (i + 1)) (S.2.1) (S.1) hq6) [19, 20, 21, 22, 23, 24, 25, 26, 27, 28, 29, 30, 31, 32, 33, 34, 35, 36, 1, 2, 3, 4, 5, 6, 7, 8, 9, 10, 11, 12, 13, 14, 15, 16, 17, 18] (hp_X9_bestSeed_1 E a S) (by decide) 0 rfl rfl rfl g_X9_81 hd_X0_copyFrom ⟨Nat.le_of_ble_eq_true rfl, Nat.le_of_ble_eq_true rfl⟩ ⟨Nat.zero_le _, Nat.zero_le _⟩ (Nat.le_of_ble_eq_true rfl) rfl dX9_bestSeed_8 (fun w1 hw1 => ?_)
  subst hw1
  refine ⟨(wSg E a F7), by rw [hF7]; exact (pw_X9_bestSeed_1 E a S q6), ?_⟩
  refine r_iconst (pc := 11) C (v := 0) dX9_bestSeed_11 (by decide) ?_
  refine r_istore_n (pc := 12) C (i := 1) dX9_bestSeed_12 rfl (by decide) rfl ?_
  refine r_bipush (pc := 13) C (v := 12) dX9_bestSeed_13 (by decide) ?_
  refine r_istore_n (pc := 15) C (i := 2) dX9_bestSeed_15 rfl (by decide) rfl ?_
  refine r_iconst (pc := 16) C (v := 0) dX9_bestSeed_16 (by decide) ?_
  refine r_istore_n (pc := 17) C (i := 3) dX9_bestSeed_17 rfl (by decide) rfl ?_
  refine r_weak (lSub_s (lSub_s (lSub_s (lSub_s (lSub_n lSub_e))))) ?_
  exact N_X9_bestSeed_18 C a k k (0 : Int32) (12 : Int32) (0 : Int32) F7 q  h hq
def M_X9_bestSeed (k : Nat) (S : VV × VV × VV × VV × VV × Int32) : Option (Int32 × (VV × VV × VV × VV × VV × Int32)) := M_X9_bestSeed_0 k S
set_option maxRecDepth 100000 in
set_option maxHeartbeats 4000000 in
theorem c_X9_bestSeed (E : ENV) (l : Launch) (k : Nat) (a : Nat → Nat) (S : VV × VV × VV × VV × VV × Int32) {q : Int32 × (VV × VV × VV × VV × VV × Int32)} (hm : M_X9_bestSeed k S = some q) : CI E l yX9_bestSeed cX9_bestSeed 5 (some .int) rm_X9_bestSeed [.ref (a 0)] (wSg E a S) (fun r w' => r = q.1 ∧ w' = (wSg E a q.2)) :=
  CI.of 4 (by decide) (Nat.le_of_ble_eq_true rfl) (fun p e s m below meth c A C _ => r_weak (lSub_s (lSub_n (lSub_n (lSub_n (lSub_n lSub_e))))) (N_X9_bestSeed_0 C a k S q  hm ⟨rfl, rfl⟩))
end WALKS
