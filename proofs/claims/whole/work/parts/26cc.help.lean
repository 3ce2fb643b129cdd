section WALKS
variable {E : ENV} {p : Program} {l : Launch} {e : Env} {s : State} {m : MethodId} {args : Array Value} {below : List Frame} {meth : Method} {c : Code} {A : Nat → Prop}
-- ShardGuardLaw.query
theorem dL_query_0 : decode cL_query 0 = .ok (.aload_n 2, 1) := by decide +kernel
theorem dL_query_1 : decode cL_query 1 = .ok (.iconst 0, 1) := by decide +kernel
theorem dL_query_2 : decode cL_query 2 = .ok (.aload_n 0, 1) := by decide +kernel
theorem dL_query_3 : decode cL_query 3 = .ok (.iload_n 1, 1) := by decide +kernel
theorem dL_query_4 : decode cL_query 4 = .ok (.invokevirtual 88, 3) := by decide +kernel
theorem dL_query_7 : decode cL_query 7 = .ok (.i2l, 1) := by decide +kernel
theorem dL_query_8 : decode cL_query 8 = .ok (.lastore, 1) := by decide +kernel
theorem dL_query_9 : decode cL_query 9 = .ok (.goto 6, 3) := by decide +kernel
theorem dL_query_12 : decode cL_query 12 = .ok (.astore_n 3, 1) := by decide +kernel
theorem dL_query_13 : decode cL_query 13 = .ok (.iconst 1, 1) := by decide +kernel
theorem dL_query_14 : decode cL_query 14 = .ok (.ireturn, 1) := by decide +kernel
theorem dL_query_15 : decode cL_query 15 = .ok (.iconst 0, 1) := by decide +kernel
theorem dL_query_16 : decode cL_query 16 = .ok (.ireturn, 1) := by decide +kernel
def M_L_query (k : Nat) (S : VV × VV × VV × VV × VV × Int32) (g : Nat → Int64) (p0 : Int32) : Option (Int32 × (VV × VV × VV × VV × VV × Int32) × (Nat → Int64)) := (M_X9_query k S p0).bind fun q => if q.1 = 0 then some ((0 : Int32), q.2.2, (vp_updL g (0 : Int32).toNatClampNeg q.2.1.toInt64)) else if q.1 = 2 then some ((1 : Int32), q.2.2, g) else none
def rm_L_query : Room := { frames := 89, cells := 1, slots := 6, locals := 2170 }
theorem hd_X9_query : yX9_query.cls = RX9 ∧ yX9_query.cls ≠ "java/lang/invoke/MethodHandle" ∧ yX9_query.cls ≠ "java/lang/invoke/VarHandle" ∧ (parseMethodDescriptor yX9_query.desc).map (fun d => d.parameters.length) = some 1 := by decide +kernel
theorem g_L_88 : GoodIn GW (wsV RL 88 RX9 yX9_query (wsG yX9_query cX9_query 5 (some .int))) := gw_V wm_5_97 wm_5_98 wm_5_99 wm_1_1 wm_5_100
set_option maxRecDepth 100000 in
set_option maxHeartbeats 4000000 in
theorem c_L_query (E : ENV) (l : Launch) (k : Nat) (a : Nat → Nat) (o : Nat) (S : VV × VV × VV × VV × VV × Int32) (g : Nat → Int64) (p0 : Int32) (hlt : l.stackTraces = false) {q : Int32 × (VV × VV × VV × VV × VV × Int32) × (Nat → Int64)} (hm : M_L_query k S g p0 = some q) : HI E l yL_query cL_query 4 (some .int) [(0, 9, 12, 13)] rm_L_query [.ref (a 0), .int p0, .ref o] (wSg E a S ++ [(o, .inl (eC E 1, 1, .inr (.inl g)))]) (fun r w' => r = q.1 ∧ w' = (wSg E a q.2.1 ++ [(o, .inl (eC E 1, 1, .inr (.inl q.2.2)))])) := by
  refine HI.of 1 (by decide) (Nat.le_of_ble_eq_true rfl) (fun p e s m below meth c A C hct hdc => ?_)
  refine r_weak (L' := [some (.ref (a 0)), some (.int p0), some (.ref o), none]) (lSub_s (lSub_s (lSub_s (lSub_n lSub_e)))) ?_
  refine r_aload_n (pc := 0) C (i := 2) dL_query_0 rfl rfl ?_
  refine r_iconst (pc := 1) C (v := 0) dL_query_1 (by decide) ?_
  refine r_aload_n (pc := 2) C (i := 0) dL_query_2 rfl rfl ?_
  refine r_iload_n (pc := 3) C (i := 1) dL_query_3 rfl rfl ?_
  obtain ⟨q, hq, hm⟩ := bnd hm
  refine r_callH (Cn := RX9) (pc := 4) C [.int p0] hdc (c_X9_query E l k a S p0 hlt hq) [0, 1, 2, 3, 4, 5, 6, 7, 8, 9, 10, 11, 12, 13, 14, 15, 16, 17, 18, 19, 20, 21, 22, 23, 24, 25, 26, 27, 28, 29, 30, 31, 32, 33, 34, 35, 36, 37, 38, 39, 40, 41, 42, 43, 44, 45, 46, 47, 48, 49, 50, 51, 52, 53, 54, 55, 56, 57, 58, 59, 60] (hpA E a S [(o, .inl (eC E 1, 1, .inr (.inl g)))]) (by decide) 0 rfl rfl rfl g_L_88 hd_X9_query ⟨Nat.le_of_ble_eq_true rfl, Nat.le_of_ble_eq_true rfl⟩ ⟨Nat.le_of_ble_eq_true rfl, Nat.le_of_ble_eq_true rfl⟩ (Nat.le_of_ble_eq_true rfl) rfl dL_query_4 (fun cd w1 hx => ?_) (fun r w1 hx => ?_)
  · -- thrown
    obtain ⟨h1, h2, h3⟩ := hx
    rw [if_neg h2] at hm
    obtain ⟨h4, hm⟩ := ifn hm
    cases hm
    refine ⟨wSg E a q.2.2 ++ [(o, .inl (eC E 1, 1, .inr (.inl g)))], by rw [h3]; exact pwA E a S q.2.2 [(o, .inl (eC E 1, 1, .inr (.inl g)))], ⟨12, ⟨[], [], ⟨0, 9, 12, 13⟩, "java/lang/IllegalArgumentException", hct, (fun z hz => nomatch hz), rfl, by decide, C.2.2.2.2.1 _ wm_2_181, by rw [h1, h4]; exact va_tabs rfl rfl (C.2.2.2.2.2.2.1.cast 0 rfl), rfl⟩, fun q9 => ?_⟩⟩
    refine r_astore_n (pc := 12) C (i := 3) dL_query_12 rfl (by decide) rfl ?_
    refine r_iconst (pc := 13) C (v := 1) dL_query_13 (by decide) ?_
    exact r_xI (r_ireti (pc := 14) C ⟨rfl, rfl⟩ (Nat.le_of_ble_eq_true rfl) (Nat.le_of_ble_eq_true rfl) dL_query_14)
  · -- returned
    obtain ⟨h1, h2, h3⟩ := hx
    rw [if_pos h1] at hm
    cases hm
    subst h2
    refine ⟨wSg E a q.2.2 ++ [(o, .inl (eC E 1, 1, .inr (.inl g)))], by rw [h3]; exact pwA E a S q.2.2 [(o, .inl (eC E 1, 1, .inr (.inl g)))], ?_⟩
    refine r_i2l (pc := 7) C dL_query_7 ?_
    refine r_last (pc := 8) C 61 rfl (by decide) (w' := (wSg E a q.2.2 ++ [(o, .inl (eC E 1, 1, .inr (.inl (vp_updL g (0 : Int32).toNatClampNeg q.2.1.toInt64))))])) rfl dL_query_8 ?_
    refine r_goto (pc := 9) C (tgt := 15) dL_query_9 rfl ?_
    refine r_iconst (pc := 15) C (v := 0) dL_query_15 (by decide) ?_
    exact r_xI (r_ireti (pc := 16) C ⟨rfl, rfl⟩ (Nat.le_of_ble_eq_true rfl) (Nat.le_of_ble_eq_true rfl) dL_query_16)
end WALKS
