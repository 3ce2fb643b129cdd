section WALKS
variable {E : ENV} {p : Program} {l : Launch} {e : Env} {s : State} {m : MethodId} {args : Array Value} {below : List Frame} {meth : Method} {c : Code} {A : Nat → Prop}
theorem hd_X9_needTenant : yX9_needTenant.cls = RX9 ∧ yX9_needTenant.cls ≠ "java/lang/invoke/MethodHandle" ∧ yX9_needTenant.cls ≠ "java/lang/invoke/VarHandle" ∧ (parseMethodDescriptor yX9_needTenant.desc).map (fun d => d.parameters.length) = some 1 := by decide +kernel
theorem g_X9_172 : GoodIn GW (wsV RX9 172 RX9 yX9_needTenant (wsG yX9_needTenant cX9_needTenant 2 none)) := gw_V wm_4_30 wm_4_32 wm_0_6 wm_1_1 wm_4_33
theorem g_X9_175 : GoodIn GW (wsV RX9 175 RX0 yX0_shardOf (wsG yX0_shardOf cX0_shardOf 2 (some .int))) := gw_V wm_4_35 wm_2_75 wm_2_76 wm_1_2 wm_2_77
theorem g_X9_178 : GoodIn GW (wsV RX9 178 RX0 yX0_isQuarantined (wsG yX0_isQuarantined cX0_isQuarantined 2 (some .boolean))) := gw_V wm_4_36 wm_3_160 wm_3_161 wm_1_2 wm_3_162
theorem hd_X0_requestsOf : yX0_requestsOf.cls = RX0 ∧ yX0_requestsOf.cls ≠ "java/lang/invoke/MethodHandle" ∧ yX0_requestsOf.cls ≠ "java/lang/invoke/VarHandle" ∧ (parseMethodDescriptor yX0_requestsOf.desc).map (fun d => d.parameters.length) = some 1 := by decide +kernel
theorem g_X9_190 : GoodIn GW (wsV RX9 190 RX0 yX0_requestsOf (wsG yX0_requestsOf cX0_requestsOf 4 (some .int))) := gw_V wm_4_38 wm_4_39 wm_4_40 wm_1_2 wm_4_41
theorem hd_X0_requestsOf_ : yX0_requestsOf_.cls = RX0 ∧ yX0_requestsOf_.cls ≠ "java/lang/invoke/MethodHandle" ∧ yX0_requestsOf_.cls ≠ "java/lang/invoke/VarHandle" ∧ (parseMethodDescriptor yX0_requestsOf_.desc).map (fun d => d.parameters.length) = some 2 := by decide +kernel
theorem g_X9_193 : GoodIn GW (wsV RX9 193 RX0 yX0_requestsOf_ (wsG yX0_requestsOf_ cX0_requestsOf_ 5 (some .int))) := gw_V wm_4_42 wm_4_43 wm_4_44 wm_1_2 wm_4_45
theorem hd_X3_ofTenant : yX3_ofTenant.cls = RX3 ∧ yX3_ofTenant.cls ≠ "java/lang/invoke/MethodHandle" ∧ yX3_ofTenant.cls ≠ "java/lang/invoke/VarHandle" ∧ (parseMethodDescriptor yX3_ofTenant.desc).map (fun d => d.parameters.length) = some 1 := by decide +kernel
theorem g_X9_195 : GoodIn GW (wsV RX9 195 RX3 yX3_ofTenant (wsG yX3_ofTenant cX3_ofTenant 4 (some .int))) := gw_V wm_4_46 wm_4_47 wm_4_48 wm_1_5 wm_4_49
theorem g_X9_198 : GoodIn GW (wsV RX9 198 RX0 yX0_countedKills (wsG yX0_countedKills cX0_countedKills 3 (some .int))) := gw_V wm_4_50 wm_4_51 wm_4_52 wm_1_2 wm_4_53
theorem g_X9_201 : GoodIn GW (wsV RX9 201 RX0 yX0_isCutOff (wsG yX0_isCutOff cX0_isCutOff 2 (some .boolean))) := gw_V wm_4_59 wm_3_203 wm_3_204 wm_1_2 wm_3_205
-- ShardGuard.tenant(II)I
set_option maxHeartbeats 8000000 in
theorem hp_X9_tenant_0 (E : ENV) (a : Nat → Nat) (S : VV × VV × VV × VV × VV × Int32) : ([6, 7] : List Nat).map (fun i => (wSg E a S)[i]?) = (wTab E (fun i => a (i + 6)) 12 3 36 ((S.1) 3)).map some := rfl
theorem dX9_tenant_0 : decode cX9_tenant 0 = .ok (.aload_n 0, 1) := by decide +kernel
theorem dX9_tenant_1 : decode cX9_tenant 1 = .ok (.iload_n 1, 1) := by decide +kernel
theorem dX9_tenant_2 : decode cX9_tenant 2 = .ok (.invokevirtual 172, 3) := by decide +kernel
theorem dX9_tenant_5 : decode cX9_tenant 5 = .ok (.iload_n 2, 1) := by decide +kernel
theorem dX9_tenant_6 : decode cX9_tenant 6 = .ok (.tableswitch 156 0 8 #[50, 59, 76, 89, 98, 108, 118, 130, 139], 50) := by decide +kernel
theorem dX9_tenant_56 : decode cX9_tenant 56 = .ok (.aload_n 0, 1) := by decide +kernel
theorem dX9_tenant_57 : decode cX9_tenant 57 = .ok (.getfield 12, 3) := by decide +kernel
theorem dX9_tenant_60 : decode cX9_tenant 60 = .ok (.iload_n 1, 1) := by decide +kernel
theorem dX9_tenant_61 : decode cX9_tenant 61 = .ok (.invokevirtual 175, 3) := by decide +kernel
theorem dX9_tenant_64 : decode cX9_tenant 64 = .ok (.ireturn, 1) := by decide +kernel
theorem dX9_tenant_65 : decode cX9_tenant 65 = .ok (.aload_n 0, 1) := by decide +kernel
theorem dX9_tenant_66 : decode cX9_tenant 66 = .ok (.getfield 12, 3) := by decide +kernel
theorem dX9_tenant_69 : decode cX9_tenant 69 = .ok (.iload_n 1, 1) := by decide +kernel
theorem dX9_tenant_70 : decode cX9_tenant 70 = .ok (.invokevirtual 178, 3) := by decide +kernel
theorem dX9_tenant_73 : decode cX9_tenant 73 = .ok (.ifCond .eq 7, 3) := by decide +kernel
theorem dX9_tenant_76 : decode cX9_tenant 76 = .ok (.iconst 1, 1) := by decide +kernel
theorem dX9_tenant_77 : decode cX9_tenant 77 = .ok (.goto 4, 3) := by decide +kernel
theorem dX9_tenant_80 : decode cX9_tenant 80 = .ok (.iconst 0, 1) := by decide +kernel
theorem dX9_tenant_81 : decode cX9_tenant 81 = .ok (.ireturn, 1) := by decide +kernel
theorem dX9_tenant_82 : decode cX9_tenant 82 = .ok (.aload_n 0, 1) := by decide +kernel
theorem dX9_tenant_83 : decode cX9_tenant 83 = .ok (.getfield 12, 3) := by decide +kernel
theorem dX9_tenant_86 : decode cX9_tenant 86 = .ok (.getfield 181, 3) := by decide +kernel
theorem dX9_tenant_89 : decode cX9_tenant 89 = .ok (.iload_n 1, 1) := by decide +kernel
theorem dX9_tenant_90 : decode cX9_tenant 90 = .ok (.iconst 1, 1) := by decide +kernel
theorem dX9_tenant_91 : decode cX9_tenant 91 = .ok (.invokevirtual 185, 3) := by decide +kernel
theorem dX9_tenant_94 : decode cX9_tenant 94 = .ok (.ireturn, 1) := by decide +kernel
theorem dX9_tenant_95 : decode cX9_tenant 95 = .ok (.aload_n 0, 1) := by decide +kernel
theorem dX9_tenant_96 : decode cX9_tenant 96 = .ok (.getfield 12, 3) := by decide +kernel
theorem dX9_tenant_99 : decode cX9_tenant 99 = .ok (.iload_n 1, 1) := by decide +kernel
theorem dX9_tenant_100 : decode cX9_tenant 100 = .ok (.invokevirtual 190, 3) := by decide +kernel
theorem dX9_tenant_103 : decode cX9_tenant 103 = .ok (.ireturn, 1) := by decide +kernel
theorem dX9_tenant_104 : decode cX9_tenant 104 = .ok (.aload_n 0, 1) := by decide +kernel
theorem dX9_tenant_105 : decode cX9_tenant 105 = .ok (.getfield 12, 3) := by decide +kernel
theorem dX9_tenant_108 : decode cX9_tenant 108 = .ok (.iload_n 1, 1) := by decide +kernel
theorem dX9_tenant_109 : decode cX9_tenant 109 = .ok (.iconst 2, 1) := by decide +kernel
theorem dX9_tenant_110 : decode cX9_tenant 110 = .ok (.invokevirtual 193, 3) := by decide +kernel
theorem dX9_tenant_113 : decode cX9_tenant 113 = .ok (.ireturn, 1) := by decide +kernel
theorem dX9_tenant_114 : decode cX9_tenant 114 = .ok (.aload_n 0, 1) := by decide +kernel
theorem dX9_tenant_115 : decode cX9_tenant 115 = .ok (.getfield 12, 3) := by decide +kernel
theorem dX9_tenant_118 : decode cX9_tenant 118 = .ok (.iload_n 1, 1) := by decide +kernel
theorem dX9_tenant_119 : decode cX9_tenant 119 = .ok (.iconst 4, 1) := by decide +kernel
theorem dX9_tenant_120 : decode cX9_tenant 120 = .ok (.invokevirtual 193, 3) := by decide +kernel
theorem dX9_tenant_123 : decode cX9_tenant 123 = .ok (.ireturn, 1) := by decide +kernel
theorem dX9_tenant_124 : decode cX9_tenant 124 = .ok (.aload_n 0, 1) := by decide +kernel
theorem dX9_tenant_125 : decode cX9_tenant 125 = .ok (.getfield 12, 3) := by decide +kernel
theorem dX9_tenant_128 : decode cX9_tenant 128 = .ok (.getfield 118, 3) := by decide +kernel
theorem dX9_tenant_131 : decode cX9_tenant 131 = .ok (.iload_n 1, 1) := by decide +kernel
theorem dX9_tenant_132 : decode cX9_tenant 132 = .ok (.invokevirtual 195, 3) := by decide +kernel
theorem dX9_tenant_135 : decode cX9_tenant 135 = .ok (.ireturn, 1) := by decide +kernel
theorem dX9_tenant_136 : decode cX9_tenant 136 = .ok (.aload_n 0, 1) := by decide +kernel
theorem dX9_tenant_137 : decode cX9_tenant 137 = .ok (.getfield 12, 3) := by decide +kernel
theorem dX9_tenant_140 : decode cX9_tenant 140 = .ok (.iload_n 1, 1) := by decide +kernel
theorem dX9_tenant_141 : decode cX9_tenant 141 = .ok (.invokevirtual 198, 3) := by decide +kernel
theorem dX9_tenant_144 : decode cX9_tenant 144 = .ok (.ireturn, 1) := by decide +kernel
theorem dX9_tenant_145 : decode cX9_tenant 145 = .ok (.aload_n 0, 1) := by decide +kernel
theorem dX9_tenant_146 : decode cX9_tenant 146 = .ok (.getfield 12, 3) := by decide +kernel
theorem dX9_tenant_149 : decode cX9_tenant 149 = .ok (.iload_n 1, 1) := by decide +kernel
theorem dX9_tenant_150 : decode cX9_tenant 150 = .ok (.invokevirtual 201, 3) := by decide +kernel
theorem dX9_tenant_153 : decode cX9_tenant 153 = .ok (.ifCond .eq 7, 3) := by decide +kernel
theorem dX9_tenant_156 : decode cX9_tenant 156 = .ok (.iconst 1, 1) := by decide +kernel
theorem dX9_tenant_157 : decode cX9_tenant 157 = .ok (.goto 4, 3) := by decide +kernel
theorem dX9_tenant_160 : decode cX9_tenant 160 = .ok (.iconst 0, 1) := by decide +kernel
theorem dX9_tenant_161 : decode cX9_tenant 161 = .ok (.ireturn, 1) := by decide +kernel
theorem dX9_tenant_162 : decode cX9_tenant 162 = .ok (.new 134, 3) := by decide +kernel
theorem dX9_tenant_165 : decode cX9_tenant 165 = .ok (.dup, 1) := by decide +kernel
theorem dX9_tenant_166 : decode cX9_tenant 166 = .ok (.ldc 204, 2) := by decide +kernel
theorem dX9_tenant_168 : decode cX9_tenant 168 = .ok (.invokespecial 138, 3) := by decide +kernel
theorem dX9_tenant_171 : decode cX9_tenant 171 = .ok (.athrow, 1) := by decide +kernel
def rm_X9_tenant : Room := { frames := 7, cells := 2, slots := 12, locals := 121 }
def M_X9_tenant_0 (k : Nat) (S : VV × VV × VV × VV × VV × Int32) (p0 : Int32) (p1 : Int32) : Option (Int32 × Int32) := (M_X9_needTenant k S p0).bind fun q1 => (if q1 = 0 then if p1 = (0 : Int32) then ((M_X0_shardOf k (S.1) p0).bind fun q4 => some ((0 : Int32), q4)) else (if p1 = (1 : Int32) then ((M_X0_isQuarantined k (S.1) p0).bind fun q6 => if q6 = 0 then (some ((0 : Int32), (0 : Int32))) else (some ((0 : Int32), (1 : Int32)))) else (if p1 = (2 : Int32) then ((M_X6_at k 12 3 36 ((S.1) 3) p0 (1 : Int32)).bind fun q9 => some ((0 : Int32), q9)) else (if p1 = (3 : Int32) then ((M_X0_requestsOf k (S.1) p0).bind fun q11 => some ((0 : Int32), q11)) else (if p1 = (4 : Int32) then ((M_X0_requestsOf_ k (S.1) p0 (2 : Int32)).bind fun q13 => some ((0 : Int32), q13)) else (if p1 = (5 : Int32) then ((M_X0_requestsOf_ k (S.1) p0 (4 : Int32)).bind fun q15 => some ((0 : Int32), q15)) else (if p1 = (6 : Int32) then ((M_X3_ofTenant k (klF (S.1)) p0).bind fun q17 => some ((0 : Int32), q17)) else (if p1 = (7 : Int32) then ((M_X0_countedKills k (S.1) p0).bind fun q19 => some ((0 : Int32), q19)) else (if p1 = (8 : Int32) then ((M_X0_isCutOff k (S.1) p0).bind fun q21 => if q21 = 0 then (some ((0 : Int32), (0 : Int32))) else (some ((0 : Int32), (1 : Int32)))) else (some ((1 : Int32), (0 : Int32))))))))))) else some (q1, (0 : Int32)))
set_option maxRecDepth 100000 in
set_option maxHeartbeats 4000000 in
theorem N_X9_tenant_0 (C : CX E p l s m args meth c cX9_tenant 3 RX9 (some .int) A) (a : Nat → Nat) (k : Nat) (S : VV × VV × VV × VV × VV × Int32) {post : Int32 → va_W → Prop} {px : Int32 → va_W → Prop} (hlt : l.stackTraces = false) (hno : ∀ x ∈ c.exceptionTable.toList, False) (hdc : DC s) :
    ∀ (p0 : Int32) (p1 : Int32) (q : Int32 × Int32), M_X9_tenant_0 k S p0 p1 = some q → TI post px q.1 q.2 (wSg E a S) →
      WW E p l e rm_X9_tenant s m args below meth c A 0 0 (QXI E below post px args s rm_X9_tenant A) (wSg E a S) 3 [some (.ref (a 0)), some (.int p0), some (.int p1)] 0 [] := by
  intro p0 p1 q  h hq
  unfold M_X9_tenant_0 at h
  refine r_aload_n (pc := 0) C (i := 0) dX9_tenant_0 rfl rfl ?_
  refine r_iload_n (pc := 1) C (i := 1) dX9_tenant_1 rfl rfl ?_
  obtain ⟨q1, hq1, h⟩ := bnd h
  -- may throw
  by_cases c2 : q1 = 0
  case neg =>
    rw [if_neg c2] at h
    cases h
    exact r_callXV_V (Cn := RX9) (pc := 2) C [.int p0] hno hdc (c_X9_needTenant E l k a S p0 hlt hq1) [0, 1, 2, 3, 4, 5, 6, 7, 8, 9, 10, 11, 12, 13, 14, 15, 16, 17, 18, 19, 20, 21, 22, 23, 24, 25, 26, 27, 28, 29, 30, 31, 32, 33, 34, 35, 36, 37, 38, 39, 40, 41, 42, 43, 44, 45, 46, 47, 48, 49, 50, 51, 52, 53, 54, 55, 56, 57, 58, 59, 60] (hp_X9_worker_0 E a S) (by decide) 0 rfl rfl rfl g_X9_172 hd_X9_needTenant ⟨Nat.le_of_ble_eq_true rfl, Nat.le_of_ble_eq_true rfl⟩ ⟨Nat.le_of_ble_eq_true rfl, Nat.le_of_ble_eq_true rfl⟩ (Nat.le_of_ble_eq_true rfl) rfl dX9_tenant_2 (fun cd w1 hx => ⟨(wSg E a S), by rw [hx.2.2]; exact (putW_self _ _ _ (hp_X9_worker_0 E a S)), by rw [hx.1]; exact TI_x c2 hq⟩) (fun w1 hx => absurd hx.1 c2)
  rw [if_pos c2] at h
  refine r_callXV_V (Cn := RX9) (pc := 2) C [.int p0] hno hdc (c_X9_needTenant E l k a S p0 hlt hq1) [0, 1, 2, 3, 4, 5, 6, 7, 8, 9, 10, 11, 12, 13, 14, 15, 16, 17, 18, 19, 20, 21, 22, 23, 24, 25, 26, 27, 28, 29, 30, 31, 32, 33, 34, 35, 36, 37, 38, 39, 40, 41, 42, 43, 44, 45, 46, 47, 48, 49, 50, 51, 52, 53, 54, 55, 56, 57, 58, 59, 60] (hp_X9_worker_0 E a S) (by decide) 0 rfl rfl rfl g_X9_172 hd_X9_needTenant ⟨Nat.le_of_ble_eq_true rfl, Nat.le_of_ble_eq_true rfl⟩ ⟨Nat.le_of_ble_eq_true rfl, Nat.le_of_ble_eq_true rfl⟩ (Nat.le_of_ble_eq_true rfl) rfl dX9_tenant_2 (fun cd w1 hx => absurd c2 hx.2.1) (fun w1 hx => ?_)
  refine ⟨(wSg E a S), by rw [hx.2]; exact (putW_self _ _ _ (hp_X9_worker_0 E a S)), ?_⟩
  refine r_iload_n (pc := 5) C (i := 2) dX9_tenant_5 rfl rfl ?_
  by_cases c3 : p1 = (0 : Int32)
  · rw [if_pos c3] at h
    refine r_tabIn (pc := 6) C 56 dX9_tenant_6 c3 (by decide) (by decide) rfl rfl ?_
    refine r_aload_n (pc := 56) C (i := 0) dX9_tenant_56 rfl rfl ?_
    refine r_get (pc := 57) C gwX9 0 rfl rfl 0 (by decide) wm_2_15 rfl dX9_tenant_57 ?_
    refine r_iload_n (pc := 60) C (i := 1) dX9_tenant_60 rfl rfl ?_
    obtain ⟨q4, hq4, h⟩ := bnd h
    refine r_callVp_CI (Cn := RX0) (pc := 61) C [.int p0] (c_X0_shardOf E l k (fun i => a (i + 1)) (S.1) p0 hq4) [1, 2, 3, 4, 5, 6, 7, 8, 9, 10, 11, 12, 13, 14, 15, 16, 17, 18] (hp_X9_size_0 E a S) (by decide) 0 rfl rfl rfl g_X9_175 hd_X0_shardOf ⟨Nat.le_of_ble_eq_true rfl, Nat.le_of_ble_eq_true rfl⟩ ⟨Nat.le_of_ble_eq_true rfl, Nat.le_of_ble_eq_true rfl⟩ (Nat.le_of_ble_eq_true rfl) rfl dX9_tenant_61 (fun r hr => ?_)
    have hr := hr.symm
    subst hr
    cases h
    exact r_xI (r_ireti (pc := 64) C (TI_0 hq) (Nat.le_of_ble_eq_true rfl) (Nat.le_of_ble_eq_true rfl) dX9_tenant_64)
  · rw [if_neg c3] at h
    by_cases c5 : p1 = (1 : Int32)
    · rw [if_pos c5] at h
      refine r_tabIn (pc := 6) C 65 dX9_tenant_6 c5 (by decide) (by decide) rfl rfl ?_
      refine r_aload_n (pc := 65) C (i := 0) dX9_tenant_65 rfl rfl ?_
      refine r_get (pc := 66) C gwX9 0 rfl rfl 0 (by decide) wm_2_15 rfl dX9_tenant_66 ?_
      refine r_iload_n (pc := 69) C (i := 1) dX9_tenant_69 rfl rfl ?_
      obtain ⟨q6, hq6, h⟩ := bnd h
      refine r_callVp_CI (Cn := RX0) (pc := 70) C [.int p0] (c_X0_isQuarantined E l k (fun i => a (i + 1)) (S.1) p0 hq6) [1, 2, 3, 4, 5, 6, 7, 8, 9, 10, 11, 12, 13, 14, 15, 16, 17, 18] (hp_X9_size_0 E a S) (by decide) 0 rfl rfl rfl g_X9_178 hd_X0_isQuarantined ⟨Nat.le_of_ble_eq_true rfl, Nat.le_of_ble_eq_true rfl⟩ ⟨Nat.le_of_ble_eq_true rfl, Nat.le_of_ble_eq_true rfl⟩ (Nat.le_of_ble_eq_true rfl) rfl dX9_tenant_70 (fun r hr => ?_)
      have hr := hr.symm
      subst hr
      refine r_if_eq (pc := 73) C (tgt := 80) dX9_tenant_73 rfl (fun c7 => ?_) (fun c7 => ?_)
      · rw [if_pos c7] at h
        refine r_iconst (pc := 80) C (v := 0) dX9_tenant_80 (by decide) ?_
        cases h
        exact r_xI (r_ireti (pc := 81) C (TI_0 hq) (Nat.le_of_ble_eq_true rfl) (Nat.le_of_ble_eq_true rfl) dX9_tenant_81)
      · rw [if_neg c7] at h
        refine r_iconst (pc := 76) C (v := 1) dX9_tenant_76 (by decide) ?_
        refine r_goto (pc := 77) C (tgt := 81) dX9_tenant_77 rfl ?_
        cases h
        exact r_xI (r_ireti (pc := 81) C (TI_0 hq) (Nat.le_of_ble_eq_true rfl) (Nat.le_of_ble_eq_true rfl) dX9_tenant_81)
    · rw [if_neg c5] at h
      by_cases c8 : p1 = (2 : Int32)
      · rw [if_pos c8] at h
        refine r_tabIn (pc := 6) C 82 dX9_tenant_6 c8 (by decide) (by decide) rfl rfl ?_
        refine r_aload_n (pc := 82) C (i := 0) dX9_tenant_82 rfl rfl ?_
        refine r_get (pc := 83) C gwX9 0 rfl rfl 0 (by decide) wm_2_15 rfl dX9_tenant_83 ?_
        refine r_get (pc := 86) C gwX0 1 rfl rfl 8 (by decide) wm_1_114 rfl dX9_tenant_86 ?_
        refine r_iload_n (pc := 89) C (i := 1) dX9_tenant_89 rfl rfl ?_
        refine r_iconst (pc := 90) C (v := 1) dX9_tenant_90 (by decide) ?_
        obtain ⟨q9, hq9, h⟩ := bnd h
        refine r_callVp_CI (Cn := RX6) (pc := 91) C [.int p0, .int (1 : Int32)] (c_X6_at E l k (fun i => a (i + 6)) 12 3 36 ((S.1) 3) p0 (1 : Int32) hq9) [6, 7] (hp_X9_tenant_0 E a S) (by decide) 0 rfl rfl rfl g_X9_185 hd_X6_at ⟨Nat.le_of_ble_eq_true rfl, Nat.le_of_ble_eq_true rfl⟩ ⟨Nat.le_of_ble_eq_true rfl, Nat.le_of_ble_eq_true rfl⟩ (Nat.le_of_ble_eq_true rfl) rfl dX9_tenant_91 (fun r hr => ?_)
        have hr := hr.symm
        subst hr
        cases h
        exact r_xI (r_ireti (pc := 94) C (TI_0 hq) (Nat.le_of_ble_eq_true rfl) (Nat.le_of_ble_eq_true rfl) dX9_tenant_94)
      · rw [if_neg c8] at h
        by_cases c10 : p1 = (3 : Int32)
        · rw [if_pos c10] at h
          refine r_tabIn (pc := 6) C 95 dX9_tenant_6 c10 (by decide) (by decide) rfl rfl ?_
          refine r_aload_n (pc := 95) C (i := 0) dX9_tenant_95 rfl rfl ?_
          refine r_get (pc := 96) C gwX9 0 rfl rfl 0 (by decide) wm_2_15 rfl dX9_tenant_96 ?_
          refine r_iload_n (pc := 99) C (i := 1) dX9_tenant_99 rfl rfl ?_
          obtain ⟨q11, hq11, h⟩ := bnd h
          refine r_callVp_CI (Cn := RX0) (pc := 100) C [.int p0] (c_X0_requestsOf E l k (fun i => a (i + 1)) (S.1) p0 hq11) [1, 2, 3, 4, 5, 6, 7, 8, 9, 10, 11, 12, 13, 14, 15, 16, 17, 18] (hp_X9_size_0 E a S) (by decide) 0 rfl rfl rfl g_X9_190 hd_X0_requestsOf ⟨Nat.le_of_ble_eq_true rfl, Nat.le_of_ble_eq_true rfl⟩ ⟨Nat.le_of_ble_eq_true rfl, Nat.le_of_ble_eq_true rfl⟩ (Nat.le_of_ble_eq_true rfl) rfl dX9_tenant_100 (fun r hr => ?_)
          have hr := hr.symm
          subst hr
          cases h
          exact r_xI (r_ireti (pc := 103) C (TI_0 hq) (Nat.le_of_ble_eq_true rfl) (Nat.le_of_ble_eq_true rfl) dX9_tenant_103)
        · rw [if_neg c10] at h
          by_cases c12 : p1 = (4 : Int32)
          · rw [if_pos c12] at h
            refine r_tabIn (pc := 6) C 104 dX9_tenant_6 c12 (by decide) (by decide) rfl rfl ?_
            refine r_aload_n (pc := 104) C (i := 0) dX9_tenant_104 rfl rfl ?_
            refine r_get (pc := 105) C gwX9 0 rfl rfl 0 (by decide) wm_2_15 rfl dX9_tenant_105 ?_
            refine r_iload_n (pc := 108) C (i := 1) dX9_tenant_108 rfl rfl ?_
            refine r_iconst (pc := 109) C (v := 2) dX9_tenant_109 (by decide) ?_
            obtain ⟨q13, hq13, h⟩ := bnd h
            refine r_callVp_CI (Cn := RX0) (pc := 110) C [.int p0, .int (2 : Int32)] (c_X0_requestsOf_ E l k (fun i => a (i + 1)) (S.1) p0 (2 : Int32) hq13) [1, 2, 3, 4, 5, 6, 7, 8, 9, 10, 11, 12, 13, 14, 15, 16, 17, 18] (hp_X9_size_0 E a S) (by decide) 0 rfl rfl rfl g_X9_193 hd_X0_requestsOf_ ⟨Nat.le_of_ble_eq_true rfl, Nat.le_of_ble_eq_true rfl⟩ ⟨Nat.le_of_ble_eq_true rfl, Nat.le_of_ble_eq_true rfl⟩ (Nat.le_of_ble_eq_true rfl) rfl dX9_tenant_110 (fun r hr => ?_)
            have hr := hr.symm
            subst hr
            cases h
            exact r_xI (r_ireti (pc := 113) C (TI_0 hq) (Nat.le_of_ble_eq_true rfl) (Nat.le_of_ble_eq_true rfl) dX9_tenant_113)
          · rw [if_neg c12] at h
            by_cases c14 : p1 = (5 : Int32)
            · rw [if_pos c14] at h
              refine r_tabIn (pc := 6) C 114 dX9_tenant_6 c14 (by decide) (by decide) rfl rfl ?_
              refine r_aload_n (pc := 114) C (i := 0) dX9_tenant_114 rfl rfl ?_
              refine r_get (pc := 115) C gwX9 0 rfl rfl 0 (by decide) wm_2_15 rfl dX9_tenant_115 ?_
              refine r_iload_n (pc := 118) C (i := 1) dX9_tenant_118 rfl rfl ?_
              refine r_iconst (pc := 119) C (v := 4) dX9_tenant_119 (by decide) ?_
              obtain ⟨q15, hq15, h⟩ := bnd h
              refine r_callVp_CI (Cn := RX0) (pc := 120) C [.int p0, .int (4 : Int32)] (c_X0_requestsOf_ E l k (fun i => a (i + 1)) (S.1) p0 (4 : Int32) hq15) [1, 2, 3, 4, 5, 6, 7, 8, 9, 10, 11, 12, 13, 14, 15, 16, 17, 18] (hp_X9_size_0 E a S) (by decide) 0 rfl rfl rfl g_X9_193 hd_X0_requestsOf_ ⟨Nat.le_of_ble_eq_true rfl, Nat.le_of_ble_eq_true rfl⟩ ⟨Nat.le_of_ble_eq_true rfl, Nat.le_of_ble_eq_true rfl⟩ (Nat.le_of_ble_eq_true rfl) rfl dX9_tenant_120 (fun r hr => ?_)
              have hr := hr.symm
              subst hr
              cases h
              exact r_xI (r_ireti (pc := 123) C (TI_0 hq) (Nat.le_of_ble_eq_true rfl) (Nat.le_of_ble_eq_true rfl) dX9_tenant_123)
            · rw [if_neg c14] at h
              by_cases c16 : p1 = (6 : Int32)
              · rw [if_pos c16] at h
                refine r_tabIn (pc := 6) C 124 dX9_tenant_6 c16 (by decide) (by decide) rfl rfl ?_
                refine r_aload_n (pc := 124) C (i := 0) dX9_tenant_124 rfl rfl ?_
                refine r_get (pc := 125) C gwX9 0 rfl rfl 0 (by decide) wm_2_15 rfl dX9_tenant_125 ?_
                refine r_get (pc := 128) C gwX0 1 rfl rfl 10 (by decide) wm_1_120 rfl dX9_tenant_128 ?_
                refine r_iload_n (pc := 131) C (i := 1) dX9_tenant_131 rfl rfl ?_
                obtain ⟨q17, hq17, h⟩ := bnd h
                refine r_callVp_CI (Cn := RX3) (pc := 132) C [.int p0] (c_X3_ofTenant E l k (fun i => a (i + 10)) (klF (S.1)) p0 hq17) [10, 11, 12, 13, 14, 15, 16] (hp_X9_killingPairs_0 E a S) (by decide) 0 rfl rfl rfl g_X9_195 hd_X3_ofTenant ⟨Nat.le_of_ble_eq_true rfl, Nat.le_of_ble_eq_true rfl⟩ ⟨Nat.le_of_ble_eq_true rfl, Nat.le_of_ble_eq_true rfl⟩ (Nat.le_of_ble_eq_true rfl) rfl dX9_tenant_132 (fun r hr => ?_)
                have hr := hr.symm
                subst hr
                cases h
                exact r_xI (r_ireti (pc := 135) C (TI_0 hq) (Nat.le_of_ble_eq_true rfl) (Nat.le_of_ble_eq_true rfl) dX9_tenant_135)
              · rw [if_neg c16] at h
                by_cases c18 : p1 = (7 : Int32)
                · rw [if_pos c18] at h
                  refine r_tabIn (pc := 6) C 136 dX9_tenant_6 c18 (by decide) (by decide) rfl rfl ?_
                  refine r_aload_n (pc := 136) C (i := 0) dX9_tenant_136 rfl rfl ?_
                  refine r_get (pc := 137) C gwX9 0 rfl rfl 0 (by decide) wm_2_15 rfl dX9_tenant_137 ?_
                  refine r_iload_n (pc := 140) C (i := 1) dX9_tenant_140 rfl rfl ?_
                  obtain ⟨q19, hq19, h⟩ := bnd h
                  refine r_callVp_CI (Cn := RX0) (pc := 141) C [.int p0] (c_X0_countedKills E l k (fun i => a (i + 1)) (S.1) p0 hq19) [1, 2, 3, 4, 5, 6, 7, 8, 9, 10, 11, 12, 13, 14, 15, 16, 17, 18] (hp_X9_size_0 E a S) (by decide) 0 rfl rfl rfl g_X9_198 hd_X0_countedKills ⟨Nat.le_of_ble_eq_true rfl, Nat.le_of_ble_eq_true rfl⟩ ⟨Nat.le_of_ble_eq_true rfl, Nat.le_of_ble_eq_true rfl⟩ (Nat.le_of_ble_eq_true rfl) rfl dX9_tenant_141 (fun r hr => ?_)
                  have hr := hr.symm
                  subst hr
                  cases h
                  exact r_xI (r_ireti (pc := 144) C (TI_0 hq) (Nat.le_of_ble_eq_true rfl) (Nat.le_of_ble_eq_true rfl) dX9_tenant_144)
                · rw [if_neg c18] at h
                  by_cases c20 : p1 = (8 : Int32)
                  · rw [if_pos c20] at h
                    refine r_tabIn (pc := 6) C 145 dX9_tenant_6 c20 (by decide) (by decide) rfl rfl ?_
                    refine r_aload_n (pc := 145) C (i := 0) dX9_tenant_145 rfl rfl ?_
                    refine r_get (pc := 146) C gwX9 0 rfl rfl 0 (by decide) wm_2_15 rfl dX9_tenant_146 ?_
                    refine r_iload_n (pc := 149) C (i := 1) dX9_tenant_149 rfl rfl ?_
                    obtain ⟨q21, hq21, h⟩ := bnd h
                    refine r_callVp_CI (Cn := RX0) (pc := 150) C [.int p0] (c_X0_isCutOff E l k (fun i => a (i + 1)) (S.1) p0 hq21) [1, 2, 3, 4, 5, 6, 7, 8, 9, 10, 11, 12, 13, 14, 15, 16, 17, 18] (hp_X9_size_0 E a S) (by decide) 0 rfl rfl rfl g_X9_201 hd_X0_isCutOff ⟨Nat.le_of_ble_eq_true rfl, Nat.le_of_ble_eq_true rfl⟩ ⟨Nat.le_of_ble_eq_true rfl, Nat.le_of_ble_eq_true rfl⟩ (Nat.le_of_ble_eq_true rfl) rfl dX9_tenant_150 (fun r hr => ?_)
                    have hr := hr.symm
                    subst hr
                    refine r_if_eq (pc := 153) C (tgt := 160) dX9_tenant_153 rfl (fun c22 => ?_) (fun c22 => ?_)
                    · rw [if_pos c22] at h
                      refine r_iconst (pc := 160) C (v := 0) dX9_tenant_160 (by decide) ?_
                      cases h
                      exact r_xI (r_ireti (pc := 161) C (TI_0 hq) (Nat.le_of_ble_eq_true rfl) (Nat.le_of_ble_eq_true rfl) dX9_tenant_161)
                    · rw [if_neg c22] at h
                      refine r_iconst (pc := 156) C (v := 1) dX9_tenant_156 (by decide) ?_
                      refine r_goto (pc := 157) C (tgt := 161) dX9_tenant_157 rfl ?_
                      cases h
                      exact r_xI (r_ireti (pc := 161) C (TI_0 hq) (Nat.le_of_ble_eq_true rfl) (Nat.le_of_ble_eq_true rfl) dX9_tenant_161)
                  · rw [if_neg c20] at h
                    refine r_tabOut (pc := 6) C 162 dX9_tenant_6 (by have := lv_neT (a := 0) c3 (by decide); have := lv_neT (a := 1) c5 (by decide); have := lv_neT (a := 2) c8 (by decide); have := lv_neT (a := 3) c10 (by decide); have := lv_neT (a := 4) c12 (by decide); have := lv_neT (a := 5) c14 (by decide); have := lv_neT (a := 6) c16 (by decide); have := lv_neT (a := 7) c18 (by decide); have := lv_neT (a := 8) c20 (by decide); omega) rfl ?_
                    cases h
                    exact r_throwN (pc := 162) C hlt hno hdc 17 rfl wm_3_210 wm_1_23 dX9_tenant_162 dX9_tenant_165 dX9_tenant_166 dX9_tenant_168 dX9_tenant_171 (Nat.le_of_ble_eq_true rfl) (Nat.le_of_ble_eq_true rfl) (Nat.le_of_ble_eq_true rfl) (Nat.le_of_ble_eq_true rfl) (Nat.le_of_ble_eq_true rfl) (TI_x (by decide) hq)
def M_X9_tenant (k : Nat) (S : VV × VV × VV × VV × VV × Int32) (p0 : Int32) (p1 : Int32) : Option (Int32 × Int32) := M_X9_tenant_0 k S p0 p1
set_option maxRecDepth 100000 in
set_option maxHeartbeats 4000000 in
theorem c_X9_tenant (E : ENV) (l : Launch) (k : Nat) (a : Nat → Nat) (S : VV × VV × VV × VV × VV × Int32) (p0 : Int32) (p1 : Int32) (hlt : l.stackTraces = false) {q : Int32 × Int32} (hm : M_X9_tenant k S p0 p1 = some q) : XI E l yX9_tenant cX9_tenant 3 (some .int) rm_X9_tenant [.ref (a 0), .int p0, .int p1] (wSg E a S) (fun r w' => q.1 = 0 ∧ r = q.2 ∧ w' = (wSg E a S)) (fun cd w' => cd = q.1 ∧ ¬ q.1 = 0 ∧ w' = (wSg E a S)) :=
  XI.of 0 (by decide) (Nat.le_of_ble_eq_true rfl) (fun p e s m below meth c A C hno hdc => r_weak (lSub_s (lSub_s (lSub_s lSub_e))) (N_X9_tenant_0 C a k S hlt hno hdc p0 p1 q  hm (TI_of rfl)))
-- ShardGuard.queued(II)I
theorem dX9_queued_0 : decode cX9_queued 0 = .ok (.aload_n 0, 1) := by decide +kernel
theorem dX9_queued_1 : decode cX9_queued 1 = .ok (.iload_n 1, 1) := by decide +kernel
theorem dX9_queued_2 : decode cX9_queued 2 = .ok (.invokevirtual 151, 3) := by decide +kernel
theorem dX9_queued_5 : decode cX9_queued 5 = .ok (.aload_n 0, 1) := by decide +kernel
theorem dX9_queued_6 : decode cX9_queued 6 = .ok (.getfield 12, 3) := by decide +kernel
theorem dX9_queued_9 : decode cX9_queued 9 = .ok (.iload_n 1, 1) := by decide +kernel
theorem dX9_queued_10 : decode cX9_queued 10 = .ok (.iload_n 2, 1) := by decide +kernel
theorem dX9_queued_11 : decode cX9_queued 11 = .ok (.invokevirtual 213, 3) := by decide +kernel
theorem dX9_queued_14 : decode cX9_queued 14 = .ok (.istore_n 3, 1) := by decide +kernel
theorem dX9_queued_15 : decode cX9_queued 15 = .ok (.iload_n 3, 1) := by decide +kernel
theorem dX9_queued_16 : decode cX9_queued 16 = .ok (.iconst (-1), 1) := by decide +kernel
theorem dX9_queued_17 : decode cX9_queued 17 = .ok (.if_icmp .ne 13, 3) := by decide +kernel
theorem dX9_queued_20 : decode cX9_queued 20 = .ok (.new 134, 3) := by decide +kernel
theorem dX9_queued_23 : decode cX9_queued 23 = .ok (.dup, 1) := by decide +kernel
theorem dX9_queued_24 : decode cX9_queued 24 = .ok (.ldc 216, 2) := by decide +kernel
theorem dX9_queued_26 : decode cX9_queued 26 = .ok (.invokespecial 138, 3) := by decide +kernel
theorem dX9_queued_29 : decode cX9_queued 29 = .ok (.athrow, 1) := by decide +kernel
theorem dX9_queued_30 : decode cX9_queued 30 = .ok (.iload_n 3, 1) := by decide +kernel
theorem dX9_queued_31 : decode cX9_queued 31 = .ok (.ireturn, 1) := by decide +kernel
def rm_X9_queued : Room := { frames := 7, cells := 2, slots := 12, locals := 121 }
def M_X9_queued_0 (k : Nat) (S : VV × VV × VV × VV × VV × Int32) (p0 : Int32) (p1 : Int32) : Option (Int32 × Int32) := (M_X9_needWorker k S p0).bind fun q1 => (if q1 = 0 then (M_X0_waitingAt k (S.1) p0 p1).bind fun q3 => if q3 = (-1 : Int32) then (some ((1 : Int32), (0 : Int32))) else (some ((0 : Int32), q3)) else some (q1, (0 : Int32)))
set_option maxRecDepth 100000 in
set_option maxHeartbeats 4000000 in
theorem N_X9_queued_0 (C : CX E p l s m args meth c cX9_queued 4 RX9 (some .int) A) (a : Nat → Nat) (k : Nat) (S : VV × VV × VV × VV × VV × Int32) {post : Int32 → va_W → Prop} {px : Int32 → va_W → Prop} (hlt : l.stackTraces = false) (hno : ∀ x ∈ c.exceptionTable.toList, False) (hdc : DC s) :
    ∀ (p0 : Int32) (p1 : Int32) (q : Int32 × Int32), M_X9_queued_0 k S p0 p1 = some q → TI post px q.1 q.2 (wSg E a S) →
      WW E p l e rm_X9_queued s m args below meth c A 0 0 (QXI E below post px args s rm_X9_queued A) (wSg E a S) 4 [some (.ref (a 0)), some (.int p0), some (.int p1), none] 0 [] := by
  intro p0 p1 q  h hq
  unfold M_X9_queued_0 at h
  refine r_aload_n (pc := 0) C (i := 0) dX9_queued_0 rfl rfl ?_
  refine r_iload_n (pc := 1) C (i := 1) dX9_queued_1 rfl rfl ?_
  obtain ⟨q1, hq1, h⟩ := bnd h
  -- may throw
  by_cases c2 : q1 = 0
  case neg =>
    rw [if_neg c2] at h
    cases h
    exact r_callXV_V (Cn := RX9) (pc := 2) C [.int p0] hno hdc (c_X9_needWorker E l k a S p0 hlt hq1) [0, 1, 2, 3, 4, 5, 6, 7, 8, 9, 10, 11, 12, 13, 14, 15, 16, 17, 18, 19, 20, 21, 22, 23, 24, 25, 26, 27, 28, 29, 30, 31, 32, 33, 34, 35, 36, 37, 38, 39, 40, 41, 42, 43, 44, 45, 46, 47, 48, 49, 50, 51, 52, 53, 54, 55, 56, 57, 58, 59, 60] (hp_X9_worker_0 E a S) (by decide) 0 rfl rfl rfl g_X9_151 hd_X9_needWorker ⟨Nat.le_of_ble_eq_true rfl, Nat.le_of_ble_eq_true rfl⟩ ⟨Nat.le_of_ble_eq_true rfl, Nat.le_of_ble_eq_true rfl⟩ (Nat.le_of_ble_eq_true rfl) rfl dX9_queued_2 (fun cd w1 hx => ⟨(wSg E a S), by rw [hx.2.2]; exact (putW_self _ _ _ (hp_X9_worker_0 E a S)), by rw [hx.1]; exact TI_x c2 hq⟩) (fun w1 hx => absurd hx.1 c2)
  rw [if_pos c2] at h
  refine r_callXV_V (Cn := RX9) (pc := 2) C [.int p0] hno hdc (c_X9_needWorker E l k a S p0 hlt hq1) [0, 1, 2, 3, 4, 5, 6, 7, 8, 9, 10, 11, 12, 13, 14, 15, 16, 17, 18, 19, 20, 21, 22, 23, 24, 25, 26, 27, 28, 29, 30, 31, 32, 33, 34, 35, 36, 37, 38, 39, 40, 41, 42, 43, 44, 45, 46, 47, 48, 49, 50, 51, 52, 53, 54, 55, 56, 57, 58, 59, 60] (hp_X9_worker_0 E a S) (by decide) 0 rfl rfl rfl g_X9_151 hd_X9_needWorker ⟨Nat.le_of_ble_eq_true rfl, Nat.le_of_ble_eq_true rfl⟩ ⟨Nat.le_of_ble_eq_true rfl, Nat.le_of_ble_eq_true rfl⟩ (Nat.le_of_ble_eq_true rfl) rfl dX9_queued_2 (fun cd w1 hx => absurd c2 hx.2.1) (fun w1 hx => ?_)
  refine ⟨(wSg E a S), by rw [hx.2]; exact (putW_self _ _ _ (hp_X9_worker_0 E a S)), ?_⟩
  refine r_aload_n (pc := 5) C (i := 0) dX9_queued_5 rfl rfl ?_
  refine r_get (pc := 6) C gwX9 0 rfl rfl 0 (by decide) wm_2_15 rfl dX9_queued_6 ?_
  refine r_iload_n (pc := 9) C (i := 1) dX9_queued_9 rfl rfl ?_
  refine r_iload_n (pc := 10) C (i := 2) dX9_queued_10 rfl rfl ?_
  obtain ⟨q3, hq3, h⟩ := bnd h
  refine r_callVp_CI (Cn := RX0) (pc := 11) C [.int p0, .int p1] (c_X0_waitingAt E l k (fun i => a (i + 1)) (S.1) p0 p1 hq3) [1, 2, 3, 4, 5, 6, 7, 8, 9, 10, 11, 12, 13, 14, 15, 16, 17, 18] (hp_X9_size_0 E a S) (by decide) 0 rfl rfl rfl g_X9_213 hd_X0_waitingAt ⟨Nat.le_of_ble_eq_true rfl, Nat.le_of_ble_eq_true rfl⟩ ⟨Nat.le_of_ble_eq_true rfl, Nat.le_of_ble_eq_true rfl⟩ (Nat.le_of_ble_eq_true rfl) rfl dX9_queued_11 (fun r hr => ?_)
  have hr := hr.symm
  subst hr
  refine r_istore_n (pc := 14) C (i := 3) dX9_queued_14 rfl (by decide) rfl ?_
  refine r_iload_n (pc := 15) C (i := 3) dX9_queued_15 rfl rfl ?_
  refine r_iconst (pc := 16) C (v := (-1)) dX9_queued_16 (by decide) ?_
  refine r_icmp_ne (pc := 17) C (tgt := 30) dX9_queued_17 rfl (fun c4 => ?_) (fun c4 => ?_)
  · rw [if_neg c4] at h
    refine r_iload_n (pc := 30) C (i := 3) dX9_queued_30 rfl rfl ?_
    cases h
    exact r_xI (r_ireti (pc := 31) C (TI_0 hq) (Nat.le_of_ble_eq_true rfl) (Nat.le_of_ble_eq_true rfl) dX9_queued_31)
  · rw [if_pos c4] at h
    cases h
    exact r_throwN (pc := 20) C hlt hno hdc 20 rfl wm_3_210 wm_1_23 dX9_queued_20 dX9_queued_23 dX9_queued_24 dX9_queued_26 dX9_queued_29 (Nat.le_of_ble_eq_true rfl) (Nat.le_of_ble_eq_true rfl) (Nat.le_of_ble_eq_true rfl) (Nat.le_of_ble_eq_true rfl) (Nat.le_of_ble_eq_true rfl) (TI_x (by decide) hq)
def M_X9_queued (k : Nat) (S : VV × VV × VV × VV × VV × Int32) (p0 : Int32) (p1 : Int32) : Option (Int32 × Int32) := M_X9_queued_0 k S p0 p1
set_option maxRecDepth 100000 in
set_option maxHeartbeats 4000000 in
theorem c_X9_queued (E : ENV) (l : Launch) (k : Nat) (a : Nat → Nat) (S : VV × VV × VV × VV × VV × Int32) (p0 : Int32) (p1 : Int32) (hlt : l.stackTraces = false) {q : Int32 × Int32} (hm : M_X9_queued k S p0 p1 = some q) : XI E l yX9_queued cX9_queued 4 (some .int) rm_X9_queued [.ref (a 0), .int p0, .int p1] (wSg E a S) (fun r w' => q.1 = 0 ∧ r = q.2 ∧ w' = (wSg E a S)) (fun cd w' => cd = q.1 ∧ ¬ q.1 = 0 ∧ w' = (wSg E a S)) :=
  XI.of 1 (by decide) (Nat.le_of_ble_eq_true rfl) (fun p e s m below meth c A C hno hdc => r_weak (lSub_s (lSub_s (lSub_s (lSub_n lSub_e)))) (N_X9_queued_0 C a k S hlt hno hdc p0 p1 q  hm (TI_of rfl)))
-- ShardGuard.killsOf(II)I
set_option maxHeartbeats 8000000 in
theorem hp_X9_killsOf_0 (E : ENV) (a : Nat → Nat) (S : VV × VV × VV × VV × VV × Int32) : ([15, 16] : List Nat).map (fun i => (wSg E a S)[i]?) = (wTab E (fun i => a (i + 15)) 12 12 144 ((klF (S.1)) 3)).map some := rfl
theorem dX9_killsOf_0 : decode cX9_killsOf 0 = .ok (.aload_n 0, 1) := by decide +kernel
theorem dX9_killsOf_1 : decode cX9_killsOf 1 = .ok (.iload_n 1, 1) := by decide +kernel
theorem dX9_killsOf_2 : decode cX9_killsOf 2 = .ok (.invokevirtual 172, 3) := by decide +kernel
theorem dX9_killsOf_5 : decode cX9_killsOf 5 = .ok (.aload_n 0, 1) := by decide +kernel
theorem dX9_killsOf_6 : decode cX9_killsOf 6 = .ok (.iload_n 2, 1) := by decide +kernel
theorem dX9_killsOf_7 : decode cX9_killsOf 7 = .ok (.invokevirtual 151, 3) := by decide +kernel
theorem dX9_killsOf_10 : decode cX9_killsOf 10 = .ok (.aload_n 0, 1) := by decide +kernel
theorem dX9_killsOf_11 : decode cX9_killsOf 11 = .ok (.getfield 12, 3) := by decide +kernel
theorem dX9_killsOf_14 : decode cX9_killsOf 14 = .ok (.getfield 118, 3) := by decide +kernel
theorem dX9_killsOf_17 : decode cX9_killsOf 17 = .ok (.getfield 220, 3) := by decide +kernel
theorem dX9_killsOf_20 : decode cX9_killsOf 20 = .ok (.iload_n 1, 1) := by decide +kernel
theorem dX9_killsOf_21 : decode cX9_killsOf 21 = .ok (.iload_n 2, 1) := by decide +kernel
theorem dX9_killsOf_22 : decode cX9_killsOf 22 = .ok (.invokevirtual 185, 3) := by decide +kernel
theorem dX9_killsOf_25 : decode cX9_killsOf 25 = .ok (.ireturn, 1) := by decide +kernel
def rm_X9_killsOf : Room := { frames := 7, cells := 2, slots := 12, locals := 121 }
def M_X9_killsOf_0 (k : Nat) (S : VV × VV × VV × VV × VV × Int32) (p0 : Int32) (p1 : Int32) : Option (Int32 × Int32) := (M_X9_needTenant k S p0).bind fun q1 => (if q1 = 0 then (M_X9_needWorker k S p1).bind fun q3 => (if q3 = 0 then (M_X6_at k 12 12 144 ((klF (S.1)) 3) p0 p1).bind fun q5 => some ((0 : Int32), q5) else some (q3, (0 : Int32))) else some (q1, (0 : Int32)))
set_option maxRecDepth 100000 in
set_option maxHeartbeats 4000000 in
theorem N_X9_killsOf_0 (C : CX E p l s m args meth c cX9_killsOf 3 RX9 (some .int) A) (a : Nat → Nat) (k : Nat) (S : VV × VV × VV × VV × VV × Int32) {post : Int32 → va_W → Prop} {px : Int32 → va_W → Prop} (hlt : l.stackTraces = false) (hno : ∀ x ∈ c.exceptionTable.toList, False) (hdc : DC s) :
    ∀ (p0 : Int32) (p1 : Int32) (q : Int32 × Int32), M_X9_killsOf_0 k S p0 p1 = some q → TI post px q.1 q.2 (wSg E a S) →
      WW E p l e rm_X9_killsOf s m args below meth c A 0 0 (QXI E below post px args s rm_X9_killsOf A) (wSg E a S) 3 [some (.ref (a 0)), some (.int p0), some (.int p1)] 0 [] := by
  intro p0 p1 q  h hq
  unfold M_X9_killsOf_0 at h
  refine r_aload_n (pc := 0) C (i := 0) dX9_killsOf_0 rfl rfl ?_
  refine r_iload_n (pc := 1) C (i := 1) dX9_killsOf_1 rfl rfl ?_
  obtain ⟨q1, hq1, h⟩ := bnd h
  -- may throw
  by_cases c2 : q1 = 0
  case neg =>
    rw [if_neg c2] at h
    cases h
    exact r_callXV_V (Cn := RX9) (pc := 2) C [.int p0] hno hdc (c_X9_needTenant E l k a S p0 hlt hq1) [0, 1, 2, 3, 4, 5, 6, 7, 8, 9, 10, 11, 12, 13, 14, 15, 16, 17, 18, 19, 20, 21, 22, 23, 24, 25, 26, 27, 28, 29, 30, 31, 32, 33, 34, 35, 36, 37, 38, 39, 40, 41, 42, 43, 44, 45, 46, 47, 48, 49, 50, 51, 52, 53, 54, 55, 56, 57, 58, 59, 60] (hp_X9_worker_0 E a S) (by decide) 0 rfl rfl rfl g_X9_172 hd_X9_needTenant ⟨Nat.le_of_ble_eq_true rfl, Nat.le_of_ble_eq_true rfl⟩ ⟨Nat.le_of_ble_eq_true rfl, Nat.le_of_ble_eq_true rfl⟩ (Nat.le_of_ble_eq_true rfl) rfl dX9_killsOf_2 (fun cd w1 hx => ⟨(wSg E a S), by rw [hx.2.2]; exact (putW_self _ _ _ (hp_X9_worker_0 E a S)), by rw [hx.1]; exact TI_x c2 hq⟩) (fun w1 hx => absurd hx.1 c2)
  rw [if_pos c2] at h
  refine r_callXV_V (Cn := RX9) (pc := 2) C [.int p0] hno hdc (c_X9_needTenant E l k a S p0 hlt hq1) [0, 1, 2, 3, 4, 5, 6, 7, 8, 9, 10, 11, 12, 13, 14, 15, 16, 17, 18, 19, 20, 21, 22, 23, 24, 25, 26, 27, 28, 29, 30, 31, 32, 33, 34, 35, 36, 37, 38, 39, 40, 41, 42, 43, 44, 45, 46, 47, 48, 49, 50, 51, 52, 53, 54, 55, 56, 57, 58, 59, 60] (hp_X9_worker_0 E a S) (by decide) 0 rfl rfl rfl g_X9_172 hd_X9_needTenant ⟨Nat.le_of_ble_eq_true rfl, Nat.le_of_ble_eq_true rfl⟩ ⟨Nat.le_of_ble_eq_true rfl, Nat.le_of_ble_eq_true rfl⟩ (Nat.le_of_ble_eq_true rfl) rfl dX9_killsOf_2 (fun cd w1 hx => absurd c2 hx.2.1) (fun w1 hx => ?_)
  refine ⟨(wSg E a S), by rw [hx.2]; exact (putW_self _ _ _ (hp_X9_worker_0 E a S)), ?_⟩
  refine r_aload_n (pc := 5) C (i := 0) dX9_killsOf_5 rfl rfl ?_
  refine r_iload_n (pc := 6) C (i := 2) dX9_killsOf_6 rfl rfl ?_
  obtain ⟨q3, hq3, h⟩ := bnd h
  -- may throw
  by_cases c4 : q3 = 0
  case neg =>
    rw [if_neg c4] at h
    cases h
    exact r_callXV_V (Cn := RX9) (pc := 7) C [.int p1] hno hdc (c_X9_needWorker E l k a S p1 hlt hq3) [0, 1, 2, 3, 4, 5, 6, 7, 8, 9, 10, 11, 12, 13, 14, 15, 16, 17, 18, 19, 20, 21, 22, 23, 24, 25, 26, 27, 28, 29, 30, 31, 32, 33, 34, 35, 36, 37, 38, 39, 40, 41, 42, 43, 44, 45, 46, 47, 48, 49, 50, 51, 52, 53, 54, 55, 56, 57, 58, 59, 60] (hp_X9_worker_0 E a S) (by decide) 0 rfl rfl rfl g_X9_151 hd_X9_needWorker ⟨Nat.le_of_ble_eq_true rfl, Nat.le_of_ble_eq_true rfl⟩ ⟨Nat.le_of_ble_eq_true rfl, Nat.le_of_ble_eq_true rfl⟩ (Nat.le_of_ble_eq_true rfl) rfl dX9_killsOf_7 (fun cd w1 hx => ⟨(wSg E a S), by rw [hx.2.2]; exact (putW_self _ _ _ (hp_X9_worker_0 E a S)), by rw [hx.1]; exact TI_x c4 hq⟩) (fun w1 hx => absurd hx.1 c4)
  rw [if_pos c4] at h
  refine r_callXV_V (Cn := RX9) (pc := 7) C [.int p1] hno hdc (c_X9_needWorker E l k a S p1 hlt hq3) [0, 1, 2, 3, 4, 5, 6, 7, 8, 9, 10, 11, 12, 13, 14, 15, 16, 17, 18, 19, 20, 21, 22, 23, 24, 25, 26, 27, 28, 29, 30, 31, 32, 33, 34, 35, 36, 37, 38, 39, 40, 41, 42, 43, 44, 45, 46, 47, 48, 49, 50, 51, 52, 53, 54, 55, 56, 57, 58, 59, 60] (hp_X9_worker_0 E a S) (by decide) 0 rfl rfl rfl g_X9_151 hd_X9_needWorker ⟨Nat.le_of_ble_eq_true rfl, Nat.le_of_ble_eq_true rfl⟩ ⟨Nat.le_of_ble_eq_true rfl, Nat.le_of_ble_eq_true rfl⟩ (Nat.le_of_ble_eq_true rfl) rfl dX9_killsOf_7 (fun cd w1 hx => absurd c4 hx.2.1) (fun w1 hx => ?_)
  refine ⟨(wSg E a S), by rw [hx.2]; exact (putW_self _ _ _ (hp_X9_worker_0 E a S)), ?_⟩
  refine r_aload_n (pc := 10) C (i := 0) dX9_killsOf_10 rfl rfl ?_
  refine r_get (pc := 11) C gwX9 0 rfl rfl 0 (by decide) wm_2_15 rfl dX9_killsOf_11 ?_
  refine r_get (pc := 14) C gwX0 1 rfl rfl 10 (by decide) wm_1_120 rfl dX9_killsOf_14 ?_
  refine r_get (pc := 17) C gwX3 10 rfl rfl 3 (by decide) wm_1_82 rfl dX9_killsOf_17 ?_
  refine r_iload_n (pc := 20) C (i := 1) dX9_killsOf_20 rfl rfl ?_
  refine r_iload_n (pc := 21) C (i := 2) dX9_killsOf_21 rfl rfl ?_
  obtain ⟨q5, hq5, h⟩ := bnd h
  refine r_callVp_CI (Cn := RX6) (pc := 22) C [.int p0, .int p1] (c_X6_at E l k (fun i => a (i + 15)) 12 12 144 ((klF (S.1)) 3) p0 p1 hq5) [15, 16] (hp_X9_killsOf_0 E a S) (by decide) 0 rfl rfl rfl g_X9_185 hd_X6_at ⟨Nat.le_of_ble_eq_true rfl, Nat.le_of_ble_eq_true rfl⟩ ⟨Nat.le_of_ble_eq_true rfl, Nat.le_of_ble_eq_true rfl⟩ (Nat.le_of_ble_eq_true rfl) rfl dX9_killsOf_22 (fun r hr => ?_)
  have hr := hr.symm
  subst hr
  cases h
  exact r_xI (r_ireti (pc := 25) C (TI_0 hq) (Nat.le_of_ble_eq_true rfl) (Nat.le_of_ble_eq_true rfl) dX9_killsOf_25)
def M_X9_killsOf (k : Nat) (S : VV × VV × VV × VV × VV × Int32) (p0 : Int32) (p1 : Int32) : Option (Int32 × Int32) := M_X9_killsOf_0 k S p0 p1
set_option maxRecDepth 100000 in
set_option maxHeartbeats 4000000 in
theorem c_X9_killsOf (E : ENV) (l : Launch) (k : Nat) (a : Nat → Nat) (S : VV × VV × VV × VV × VV × Int32) (p0 : Int32) (p1 : Int32) (hlt : l.stackTraces = false) {q : Int32 × Int32} (hm : M_X9_killsOf k S p0 p1 = some q) : XI E l yX9_killsOf cX9_killsOf 3 (some .int) rm_X9_killsOf [.ref (a 0), .int p0, .int p1] (wSg E a S) (fun r w' => q.1 = 0 ∧ r = q.2 ∧ w' = (wSg E a S)) (fun cd w' => cd = q.1 ∧ ¬ q.1 = 0 ∧ w' = (wSg E a S)) :=
  XI.of 0 (by decide) (Nat.le_of_ble_eq_true rfl) (fun p e s m below meth c A C hno hdc => r_weak (lSub_s (lSub_s (lSub_s lSub_e))) (N_X9_killsOf_0 C a k S hlt hno hdc p0 p1 q  hm (TI_of rfl)))
-- ShardGuard.overlap(II)I
theorem dX9_overlap_0 : decode cX9_overlap 0 = .ok (.aload_n 0, 1) := by decide +kernel
theorem dX9_overlap_1 : decode cX9_overlap 1 = .ok (.iload_n 1, 1) := by decide +kernel
theorem dX9_overlap_2 : decode cX9_overlap 2 = .ok (.invokevirtual 172, 3) := by decide +kernel
theorem dX9_overlap_5 : decode cX9_overlap 5 = .ok (.aload_n 0, 1) := by decide +kernel
theorem dX9_overlap_6 : decode cX9_overlap 6 = .ok (.iload_n 2, 1) := by decide +kernel
theorem dX9_overlap_7 : decode cX9_overlap 7 = .ok (.invokevirtual 172, 3) := by decide +kernel
theorem dX9_overlap_10 : decode cX9_overlap 10 = .ok (.aload_n 0, 1) := by decide +kernel
theorem dX9_overlap_11 : decode cX9_overlap 11 = .ok (.getfield 12, 3) := by decide +kernel
theorem dX9_overlap_14 : decode cX9_overlap 14 = .ok (.iload_n 1, 1) := by decide +kernel
theorem dX9_overlap_15 : decode cX9_overlap 15 = .ok (.iload_n 2, 1) := by decide +kernel
theorem dX9_overlap_16 : decode cX9_overlap 16 = .ok (.invokevirtual 226, 3) := by decide +kernel
theorem dX9_overlap_19 : decode cX9_overlap 19 = .ok (.ireturn, 1) := by decide +kernel
def rm_X9_overlap : Room := { frames := 7, cells := 2, slots := 12, locals := 121 }
def M_X9_overlap_0 (k : Nat) (S : VV × VV × VV × VV × VV × Int32) (p0 : Int32) (p1 : Int32) : Option (Int32 × Int32) := (M_X9_needTenant k S p0).bind fun q1 => (if q1 = 0 then (M_X9_needTenant k S p1).bind fun q3 => (if q3 = 0 then (M_X0_sharedBy k (S.1) p0 p1).bind fun q5 => some ((0 : Int32), q5) else some (q3, (0 : Int32))) else some (q1, (0 : Int32)))
set_option maxRecDepth 100000 in
set_option maxHeartbeats 4000000 in
theorem N_X9_overlap_0 (C : CX E p l s m args meth c cX9_overlap 3 RX9 (some .int) A) (a : Nat → Nat) (k : Nat) (S : VV × VV × VV × VV × VV × Int32) {post : Int32 → va_W → Prop} {px : Int32 → va_W → Prop} (hlt : l.stackTraces = false) (hno : ∀ x ∈ c.exceptionTable.toList, False) (hdc : DC s) :
    ∀ (p0 : Int32) (p1 : Int32) (q : Int32 × Int32), M_X9_overlap_0 k S p0 p1 = some q → TI post px q.1 q.2 (wSg E a S) →
      WW E p l e rm_X9_overlap s m args below meth c A 0 0 (QXI E below post px args s rm_X9_overlap A) (wSg E a S) 3 [some (.ref (a 0)), some (.int p0), some (.int p1)] 0 [] := by
  intro p0 p1 q  h hq
  unfold M_X9_overlap_0 at h
  refine r_aload_n (pc := 0) C (i := 0) dX9_overlap_0 rfl rfl ?_
  refine r_iload_n (pc := 1) C (i := 1) dX9_overlap_1 rfl rfl ?_
  obtain ⟨q1, hq1, h⟩ := bnd h
  -- may throw
  by_cases c2 : q1 = 0
  case neg =>
    rw [if_neg c2] at h
    cases h
    exact r_callXV_V (Cn := RX9) (pc := 2) C [.int p0] hno hdc (c_X9_needTenant E l k a S p0 hlt hq1) [0, 1, 2, 3, 4, 5, 6, 7, 8, 9, 10, 11, 12, 13, 14, 15, 16, 17, 18, 19, 20, 21, 22, 23, 24, 25, 26, 27, 28, 29, 30, 31, 32, 33, 34, 35, 36, 37, 38, 39, 40, 41, 42, 43, 44, 45, 46, 47, 48, 49, 50, 51, 52, 53, 54, 55, 56, 57, 58, 59, 60] (hp_X9_worker_0 E a S) (by decide) 0 rfl rfl rfl g_X9_172 hd_X9_needTenant ⟨Nat.le_of_ble_eq_true rfl, Nat.le_of_ble_eq_true rfl⟩ ⟨Nat.le_of_ble_eq_true rfl, Nat.le_of_ble_eq_true rfl⟩ (Nat.le_of_ble_eq_true rfl) rfl dX9_overlap_2 (fun cd w1 hx => ⟨(wSg E a S), by rw [hx.2.2]; exact (putW_self _ _ _ (hp_X9_worker_0 E a S)), by rw [hx.1]; exact TI_x c2 hq⟩) (fun w1 hx => absurd hx.1 c2)
  rw [if_pos c2] at h
  refine r_callXV_V (Cn := RX9) (pc := 2) C [.int p0] hno hdc (c_X9_needTenant E l k a S p0 hlt hq1) [0, 1, 2, 3, 4, 5, 6, 7, 8, 9, 10, 11, 12, 13, 14, 15, 16, 17, 18, 19, 20, 21, 22, 23, 24, 25, 26, 27, 28, 29, 30, 31, 32, 33, 34, 35, 36, 37, 38, 39, 40, 41, 42, 43, 44, 45, 46, 47, 48, 49, 50, 51, 52, 53, 54, 55, 56, 57, 58, 59, 60] (hp_X9_worker_0 E a S) (by decide) 0 rfl rfl rfl g_X9_172 hd_X9_needTenant ⟨Nat.le_of_ble_eq_true rfl, Nat.le_of_ble_eq_true rfl⟩ ⟨Nat.le_of_ble_eq_true rfl, Nat.le_of_ble_eq_true rfl⟩ (Nat.le_of_ble_eq_true rfl) rfl dX9_overlap_2 (fun cd w1 hx => absurd c2 hx.2.1) (fun w1 hx => ?_)
  refine ⟨(wSg E a S), by rw [hx.2]; exact (putW_self _ _ _ (hp_X9_worker_0 E a S)), ?_⟩
  refine r_aload_n (pc := 5) C (i := 0) dX9_overlap_5 rfl rfl ?_
  refine r_iload_n (pc := 6) C (i := 2) dX9_overlap_6 rfl rfl ?_
  obtain ⟨q3, hq3, h⟩ := bnd h
  -- may throw
  by_cases c4 : q3 = 0
  case neg =>
    rw [if_neg c4] at h
    cases h
    exact r_callXV_V (Cn := RX9) (pc := 7) C [.int p1] hno hdc (c_X9_needTenant E l k a S p1 hlt hq3) [0, 1, 2, 3, 4, 5, 6, 7, 8, 9, 10, 11, 12, 13, 14, 15, 16, 17, 18, 19, 20, 21, 22, 23, 24, 25, 26, 27, 28, 29, 30, 31, 32, 33, 34, 35, 36, 37, 38, 39, 40, 41, 42, 43, 44, 45, 46, 47, 48, 49, 50, 51, 52, 53, 54, 55, 56, 57, 58, 59, 60] (hp_X9_worker_0 E a S) (by decide) 0 rfl rfl rfl g_X9_172 hd_X9_needTenant ⟨Nat.le_of_ble_eq_true rfl, Nat.le_of_ble_eq_true rfl⟩ ⟨Nat.le_of_ble_eq_true rfl, Nat.le_of_ble_eq_true rfl⟩ (Nat.le_of_ble_eq_true rfl) rfl dX9_overlap_7 (fun cd w1 hx => ⟨(wSg E a S), by rw [hx.2.2]; exact (putW_self _ _ _ (hp_X9_worker_0 E a S)), by rw [hx.1]; exact TI_x c4 hq⟩) (fun w1 hx => absurd hx.1 c4)
  rw [if_pos c4] at h
  refine r_callXV_V (Cn := RX9) (pc := 7) C [.int p1] hno hdc (c_X9_needTenant E l k a S p1 hlt hq3) [0, 1, 2, 3, 4, 5, 6, 7, 8, 9, 10, 11, 12, 13, 14, 15, 16, 17, 18, 19, 20, 21, 22, 23, 24, 25, 26, 27, 28, 29, 30, 31, 32, 33, 34, 35, 36, 37, 38, 39, 40, 41, 42, 43, 44, 45, 46, 47, 48, 49, 50, 51, 52, 53, 54, 55, 56, 57, 58, 59, 60] (hp_X9_worker_0 E a S) (by decide) 0 rfl rfl rfl g_X9_172 hd_X9_needTenant ⟨Nat.le_of_ble_eq_true rfl, Nat.le_of_ble_eq_true rfl⟩ ⟨Nat.le_of_ble_eq_true rfl, Nat.le_of_ble_eq_true rfl⟩ (Nat.le_of_ble_eq_true rfl) rfl dX9_overlap_7 (fun cd w1 hx => absurd c4 hx.2.1) (fun w1 hx => ?_)
  refine ⟨(wSg E a S), by rw [hx.2]; exact (putW_self _ _ _ (hp_X9_worker_0 E a S)), ?_⟩
  refine r_aload_n (pc := 10) C (i := 0) dX9_overlap_10 rfl rfl ?_
  refine r_get (pc := 11) C gwX9 0 rfl rfl 0 (by decide) wm_2_15 rfl dX9_overlap_11 ?_
  refine r_iload_n (pc := 14) C (i := 1) dX9_overlap_14 rfl rfl ?_
  refine r_iload_n (pc := 15) C (i := 2) dX9_overlap_15 rfl rfl ?_
  obtain ⟨q5, hq5, h⟩ := bnd h
  refine r_callVp_CI (Cn := RX0) (pc := 16) C [.int p0, .int p1] (c_X0_sharedBy E l k (fun i => a (i + 1)) (S.1) p0 p1 hq5) [1, 2, 3, 4, 5, 6, 7, 8, 9, 10, 11, 12, 13, 14, 15, 16, 17, 18] (hp_X9_size_0 E a S) (by decide) 0 rfl rfl rfl g_X9_226 hd_X0_sharedBy ⟨Nat.le_of_ble_eq_true rfl, Nat.le_of_ble_eq_true rfl⟩ ⟨Nat.le_of_ble_eq_true rfl, Nat.le_of_ble_eq_true rfl⟩ (Nat.le_of_ble_eq_true rfl) rfl dX9_overlap_16 (fun r hr => ?_)
  have hr := hr.symm
  subst hr
  cases h
  exact r_xI (r_ireti (pc := 19) C (TI_0 hq) (Nat.le_of_ble_eq_true rfl) (Nat.le_of_ble_eq_true rfl) dX9_overlap_19)
def M_X9_overlap (k : Nat) (S : VV × VV × VV × VV × VV × Int32) (p0 : Int32) (p1 : Int32) : Option (Int32 × Int32) := M_X9_overlap_0 k S p0 p1
set_option maxRecDepth 100000 in
set_option maxHeartbeats 4000000 in
theorem c_X9_overlap (E : ENV) (l : Launch) (k : Nat) (a : Nat → Nat) (S : VV × VV × VV × VV × VV × Int32) (p0 : Int32) (p1 : Int32) (hlt : l.stackTraces = false) {q : Int32 × Int32} (hm : M_X9_overlap k S p0 p1 = some q) : XI E l yX9_overlap cX9_overlap 3 (some .int) rm_X9_overlap [.ref (a 0), .int p0, .int p1] (wSg E a S) (fun r w' => q.1 = 0 ∧ r = q.2 ∧ w' = (wSg E a S)) (fun cd w' => cd = q.1 ∧ ¬ q.1 = 0 ∧ w' = (wSg E a S)) :=
  XI.of 0 (by decide) (Nat.le_of_ble_eq_true rfl) (fun p e s m below meth c A C hno hdc => r_weak (lSub_s (lSub_s (lSub_s lSub_e))) (N_X9_overlap_0 C a k S hlt hno hdc p0 p1 q  hm (TI_of rfl)))
end WALKS
