section WALKS
variable {E : ENV} {p : Program} {l : Launch} {e : Env} {s : State} {m : MethodId} {args : Array Value} {below : List Frame} {meth : Method} {c : Code} {A : Nat → Prop}
-- java/lang/Integer.bitCount(I)I
theorem dJ6_bitCount_0f7a4_0 : decode cJ6_bitCount_0f7a4 0 = .ok (.iload_n 0, 1) := by decide +kernel
theorem dJ6_bitCount_0f7a4_1 : decode cJ6_bitCount_0f7a4 1 = .ok (.iload_n 0, 1) := by decide +kernel
theorem dJ6_bitCount_0f7a4_2 : decode cJ6_bitCount_0f7a4 2 = .ok (.iconst 1, 1) := by decide +kernel
theorem dJ6_bitCount_0f7a4_3 : decode cJ6_bitCount_0f7a4 3 = .ok (.iushr, 1) := by decide +kernel
theorem dJ6_bitCount_0f7a4_4 : decode cJ6_bitCount_0f7a4 4 = .ok (.ldc_w 265, 3) := by decide +kernel
theorem dJ6_bitCount_0f7a4_7 : decode cJ6_bitCount_0f7a4 7 = .ok (.iand, 1) := by decide +kernel
theorem dJ6_bitCount_0f7a4_8 : decode cJ6_bitCount_0f7a4 8 = .ok (.isub, 1) := by decide +kernel
theorem dJ6_bitCount_0f7a4_9 : decode cJ6_bitCount_0f7a4 9 = .ok (.istore_n 0, 1) := by decide +kernel
theorem dJ6_bitCount_0f7a4_10 : decode cJ6_bitCount_0f7a4 10 = .ok (.iload_n 0, 1) := by decide +kernel
theorem dJ6_bitCount_0f7a4_11 : decode cJ6_bitCount_0f7a4 11 = .ok (.ldc_w 266, 3) := by decide +kernel
theorem dJ6_bitCount_0f7a4_14 : decode cJ6_bitCount_0f7a4 14 = .ok (.iand, 1) := by decide +kernel
theorem dJ6_bitCount_0f7a4_15 : decode cJ6_bitCount_0f7a4 15 = .ok (.iload_n 0, 1) := by decide +kernel
theorem dJ6_bitCount_0f7a4_16 : decode cJ6_bitCount_0f7a4 16 = .ok (.iconst 2, 1) := by decide +kernel
theorem dJ6_bitCount_0f7a4_17 : decode cJ6_bitCount_0f7a4 17 = .ok (.iushr, 1) := by decide +kernel
theorem dJ6_bitCount_0f7a4_18 : decode cJ6_bitCount_0f7a4 18 = .ok (.ldc_w 266, 3) := by decide +kernel
theorem dJ6_bitCount_0f7a4_21 : decode cJ6_bitCount_0f7a4 21 = .ok (.iand, 1) := by decide +kernel
theorem dJ6_bitCount_0f7a4_22 : decode cJ6_bitCount_0f7a4 22 = .ok (.iadd, 1) := by decide +kernel
theorem dJ6_bitCount_0f7a4_23 : decode cJ6_bitCount_0f7a4 23 = .ok (.istore_n 0, 1) := by decide +kernel
theorem dJ6_bitCount_0f7a4_24 : decode cJ6_bitCount_0f7a4 24 = .ok (.iload_n 0, 1) := by decide +kernel
theorem dJ6_bitCount_0f7a4_25 : decode cJ6_bitCount_0f7a4 25 = .ok (.iload_n 0, 1) := by decide +kernel
theorem dJ6_bitCount_0f7a4_26 : decode cJ6_bitCount_0f7a4 26 = .ok (.iconst 4, 1) := by decide +kernel
theorem dJ6_bitCount_0f7a4_27 : decode cJ6_bitCount_0f7a4 27 = .ok (.iushr, 1) := by decide +kernel
theorem dJ6_bitCount_0f7a4_28 : decode cJ6_bitCount_0f7a4 28 = .ok (.iadd, 1) := by decide +kernel
theorem dJ6_bitCount_0f7a4_29 : decode cJ6_bitCount_0f7a4 29 = .ok (.ldc_w 267, 3) := by decide +kernel
theorem dJ6_bitCount_0f7a4_32 : decode cJ6_bitCount_0f7a4 32 = .ok (.iand, 1) := by decide +kernel
theorem dJ6_bitCount_0f7a4_33 : decode cJ6_bitCount_0f7a4 33 = .ok (.istore_n 0, 1) := by decide +kernel
theorem dJ6_bitCount_0f7a4_34 : decode cJ6_bitCount_0f7a4 34 = .ok (.iload_n 0, 1) := by decide +kernel
theorem dJ6_bitCount_0f7a4_35 : decode cJ6_bitCount_0f7a4 35 = .ok (.iload_n 0, 1) := by decide +kernel
theorem dJ6_bitCount_0f7a4_36 : decode cJ6_bitCount_0f7a4 36 = .ok (.bipush 8, 2) := by decide +kernel
theorem dJ6_bitCount_0f7a4_38 : decode cJ6_bitCount_0f7a4 38 = .ok (.iushr, 1) := by decide +kernel
theorem dJ6_bitCount_0f7a4_39 : decode cJ6_bitCount_0f7a4 39 = .ok (.iadd, 1) := by decide +kernel
theorem dJ6_bitCount_0f7a4_40 : decode cJ6_bitCount_0f7a4 40 = .ok (.istore_n 0, 1) := by decide +kernel
theorem dJ6_bitCount_0f7a4_41 : decode cJ6_bitCount_0f7a4 41 = .ok (.iload_n 0, 1) := by decide +kernel
theorem dJ6_bitCount_0f7a4_42 : decode cJ6_bitCount_0f7a4 42 = .ok (.iload_n 0, 1) := by decide +kernel
theorem dJ6_bitCount_0f7a4_43 : decode cJ6_bitCount_0f7a4 43 = .ok (.bipush 16, 2) := by decide +kernel
theorem dJ6_bitCount_0f7a4_45 : decode cJ6_bitCount_0f7a4 45 = .ok (.iushr, 1) := by decide +kernel
theorem dJ6_bitCount_0f7a4_46 : decode cJ6_bitCount_0f7a4 46 = .ok (.iadd, 1) := by decide +kernel
theorem dJ6_bitCount_0f7a4_47 : decode cJ6_bitCount_0f7a4 47 = .ok (.istore_n 0, 1) := by decide +kernel
theorem dJ6_bitCount_0f7a4_48 : decode cJ6_bitCount_0f7a4 48 = .ok (.iload_n 0, 1) := by decide +kernel
theorem dJ6_bitCount_0f7a4_49 : decode cJ6_bitCount_0f7a4 49 = .ok (.bipush 63, 2) := by decide +kernel
theorem dJ6_bitCount_0f7a4_51 : decode cJ6_bitCount_0f7a4 51 = .ok (.iand, 1) := by decide +kernel
theorem dJ6_bitCount_0f7a4_52 : decode cJ6_bitCount_0f7a4 52 = .ok (.ireturn, 1) := by decide +kernel
def rm_J6_bitCount_0f7a4 : Room := { frames := 0, cells := 0, slots := 0, locals := 0 }
def M_J6_bitCount_0f7a4_0 (k : Nat) (p0 : Int32) : Option (Int32) := lt (p0 - ((((p0.toUInt32 >>> ((1 : Int32).toUInt32 &&& Int32.toUInt32 31)).toInt32)) &&& (1431655765 : Int32))) fun v1 => lt ((v1 &&& (858993459 : Int32)) + ((((v1.toUInt32 >>> ((2 : Int32).toUInt32 &&& Int32.toUInt32 31)).toInt32)) &&& (858993459 : Int32))) fun v2 => lt ((v2 + (((v2.toUInt32 >>> ((4 : Int32).toUInt32 &&& Int32.toUInt32 31)).toInt32))) &&& (252645135 : Int32)) fun v3 => lt (v3 + (((v3.toUInt32 >>> ((8 : Int32).toUInt32 &&& Int32.toUInt32 31)).toInt32))) fun v4 => lt (v4 + (((v4.toUInt32 >>> ((16 : Int32).toUInt32 &&& Int32.toUInt32 31)).toInt32))) fun v5 => some (v5 &&& (63 : Int32))
set_option maxRecDepth 100000 in
set_option maxHeartbeats 4000000 in
theorem N_J6_bitCount_0f7a4_0 (C : CX E p l s m args meth c cJ6_bitCount_0f7a4 1 RJ6 (some .int) A) (k : Nat) {post : Int32 → va_W → Prop} :
    ∀ (p0 : Int32) (q : Int32), M_J6_bitCount_0f7a4_0 k p0 = some q → post q ([] : va_W) →
      WW E p l e rm_J6_bitCount_0f7a4 s m args below meth c A 0 0 (QI E below post args s rm_J6_bitCount_0f7a4 A) ([] : va_W) 1 [some (.int p0)] 0 [] := by
  intro p0 q  h hq
  unfold M_J6_bitCount_0f7a4_0 at h
  refine r_iload_n (pc := 0) C (i := 0) dJ6_bitCount_0f7a4_0 rfl rfl ?_
  refine r_iload_n (pc := 1) C (i := 0) dJ6_bitCount_0f7a4_1 rfl rfl ?_
  refine r_iconst (pc := 2) C (v := 1) dJ6_bitCount_0f7a4_2 (by decide) ?_
  refine r_iushr (pc := 3) C dJ6_bitCount_0f7a4_3 ?_
  refine r_ldcw (pc := 4) C (v := 1431655765) wm_2_82 dJ6_bitCount_0f7a4_4 ?_
  refine r_iand (pc := 7) C dJ6_bitCount_0f7a4_7 ?_
  refine r_isub (pc := 8) C dJ6_bitCount_0f7a4_8 ?_
  obtain ⟨v1, hv1, h⟩ := lt_e h
  refine r_topi hv1 ?_
  refine r_istore_n (pc := 9) C (i := 0) dJ6_bitCount_0f7a4_9 rfl (by decide) rfl ?_
  refine r_iload_n (pc := 10) C (i := 0) dJ6_bitCount_0f7a4_10 rfl rfl ?_
  refine r_ldcw (pc := 11) C (v := 858993459) wm_2_83 dJ6_bitCount_0f7a4_11 ?_
  refine r_iand (pc := 14) C dJ6_bitCount_0f7a4_14 ?_
  refine r_iload_n (pc := 15) C (i := 0) dJ6_bitCount_0f7a4_15 rfl rfl ?_
  refine r_iconst (pc := 16) C (v := 2) dJ6_bitCount_0f7a4_16 (by decide) ?_
  refine r_iushr (pc := 17) C dJ6_bitCount_0f7a4_17 ?_
  refine r_ldcw (pc := 18) C (v := 858993459) wm_2_83 dJ6_bitCount_0f7a4_18 ?_
  refine r_iand (pc := 21) C dJ6_bitCount_0f7a4_21 ?_
  refine r_iadd (pc := 22) C dJ6_bitCount_0f7a4_22 ?_
  obtain ⟨v2, hv2, h⟩ := lt_e h
  refine r_topi hv2 ?_
  refine r_istore_n (pc := 23) C (i := 0) dJ6_bitCount_0f7a4_23 rfl (by decide) rfl ?_
  refine r_iload_n (pc := 24) C (i := 0) dJ6_bitCount_0f7a4_24 rfl rfl ?_
  refine r_iload_n (pc := 25) C (i := 0) dJ6_bitCount_0f7a4_25 rfl rfl ?_
  refine r_iconst (pc := 26) C (v := 4) dJ6_bitCount_0f7a4_26 (by decide) ?_
  refine r_iushr (pc := 27) C dJ6_bitCount_0f7a4_27 ?_
  refine r_iadd (pc := 28) C dJ6_bitCount_0f7a4_28 ?_
  refine r_ldcw (pc := 29) C (v := 252645135) wm_2_84 dJ6_bitCount_0f7a4_29 ?_
  refine r_iand (pc := 32) C dJ6_bitCount_0f7a4_32 ?_
  obtain ⟨v3, hv3, h⟩ := lt_e h
  refine r_topi hv3 ?_
  refine r_istore_n (pc := 33) C (i := 0) dJ6_bitCount_0f7a4_33 rfl (by decide) rfl ?_
  refine r_iload_n (pc := 34) C (i := 0) dJ6_bitCount_0f7a4_34 rfl rfl ?_
  refine r_iload_n (pc := 35) C (i := 0) dJ6_bitCount_0f7a4_35 rfl rfl ?_
  refine r_bipush (pc := 36) C (v := 8) dJ6_bitCount_0f7a4_36 (by decide) ?_
  refine r_iushr (pc := 38) C dJ6_bitCount_0f7a4_38 ?_
  refine r_iadd (pc := 39) C dJ6_bitCount_0f7a4_39 ?_
  obtain ⟨v4, hv4, h⟩ := lt_e h
  refine r_topi hv4 ?_
  refine r_istore_n (pc := 40) C (i := 0) dJ6_bitCount_0f7a4_40 rfl (by decide) rfl ?_
  refine r_iload_n (pc := 41) C (i := 0) dJ6_bitCount_0f7a4_41 rfl rfl ?_
  refine r_iload_n (pc := 42) C (i := 0) dJ6_bitCount_0f7a4_42 rfl rfl ?_
  refine r_bipush (pc := 43) C (v := 16) dJ6_bitCount_0f7a4_43 (by decide) ?_
  refine r_iushr (pc := 45) C dJ6_bitCount_0f7a4_45 ?_
  refine r_iadd (pc := 46) C dJ6_bitCount_0f7a4_46 ?_
  obtain ⟨v5, hv5, h⟩ := lt_e h
  refine r_topi hv5 ?_
  refine r_istore_n (pc := 47) C (i := 0) dJ6_bitCount_0f7a4_47 rfl (by decide) rfl ?_
  refine r_iload_n (pc := 48) C (i := 0) dJ6_bitCount_0f7a4_48 rfl rfl ?_
  refine r_bipush (pc := 49) C (v := 63) dJ6_bitCount_0f7a4_49 (by decide) ?_
  refine r_iand (pc := 51) C dJ6_bitCount_0f7a4_51 ?_
  cases h
  exact r_ireti (pc := 52) C hq (Nat.zero_le _) (Nat.zero_le _) dJ6_bitCount_0f7a4_52
def M_J6_bitCount_0f7a4 (k : Nat) (p0 : Int32) : Option (Int32) := M_J6_bitCount_0f7a4_0 k p0
set_option maxRecDepth 100000 in
set_option maxHeartbeats 4000000 in
theorem c_J6_bitCount_0f7a4 (E : ENV) (l : Launch) (k : Nat) (p0 : Int32) {q : Int32} (hm : M_J6_bitCount_0f7a4 k p0 = some q) : CI E l yJ6_bitCount_0f7a4 cJ6_bitCount_0f7a4 1 (some .int) rm_J6_bitCount_0f7a4 [.int p0] ([] : va_W) (fun r w' => r = q ∧ w' = ([] : va_W)) :=
  CI.of 0 (by decide) (Nat.le_of_ble_eq_true rfl) (fun p e s m below meth c A C _ => r_weak (lSub_s lSub_e) (N_J6_bitCount_0f7a4_0 C k p0 q  hm ⟨rfl, rfl⟩))
-- java/lang/Long.bitCount(J)I
theorem dJ13_bitCount_95d88_0 : decode cJ13_bitCount_95d88 0 = .ok (.lload_n 0, 1) := by decide +kernel
theorem dJ13_bitCount_95d88_1 : decode cJ13_bitCount_95d88 1 = .ok (.lload_n 0, 1) := by decide +kernel
theorem dJ13_bitCount_95d88_2 : decode cJ13_bitCount_95d88 2 = .ok (.iconst 1, 1) := by decide +kernel
theorem dJ13_bitCount_95d88_3 : decode cJ13_bitCount_95d88 3 = .ok (.lushr, 1) := by decide +kernel
theorem dJ13_bitCount_95d88_4 : decode cJ13_bitCount_95d88 4 = .ok (.ldc2_w 314, 3) := by decide +kernel
theorem dJ13_bitCount_95d88_7 : decode cJ13_bitCount_95d88 7 = .ok (.land, 1) := by decide +kernel
theorem dJ13_bitCount_95d88_8 : decode cJ13_bitCount_95d88 8 = .ok (.lsub, 1) := by decide +kernel
theorem dJ13_bitCount_95d88_9 : decode cJ13_bitCount_95d88 9 = .ok (.lstore_n 0, 1) := by decide +kernel
theorem dJ13_bitCount_95d88_10 : decode cJ13_bitCount_95d88 10 = .ok (.lload_n 0, 1) := by decide +kernel
theorem dJ13_bitCount_95d88_11 : decode cJ13_bitCount_95d88 11 = .ok (.ldc2_w 316, 3) := by decide +kernel
theorem dJ13_bitCount_95d88_14 : decode cJ13_bitCount_95d88 14 = .ok (.land, 1) := by decide +kernel
theorem dJ13_bitCount_95d88_15 : decode cJ13_bitCount_95d88 15 = .ok (.lload_n 0, 1) := by decide +kernel
theorem dJ13_bitCount_95d88_16 : decode cJ13_bitCount_95d88 16 = .ok (.iconst 2, 1) := by decide +kernel
theorem dJ13_bitCount_95d88_17 : decode cJ13_bitCount_95d88 17 = .ok (.lushr, 1) := by decide +kernel
theorem dJ13_bitCount_95d88_18 : decode cJ13_bitCount_95d88 18 = .ok (.ldc2_w 316, 3) := by decide +kernel
theorem dJ13_bitCount_95d88_21 : decode cJ13_bitCount_95d88 21 = .ok (.land, 1) := by decide +kernel
theorem dJ13_bitCount_95d88_22 : decode cJ13_bitCount_95d88 22 = .ok (.ladd, 1) := by decide +kernel
theorem dJ13_bitCount_95d88_23 : decode cJ13_bitCount_95d88 23 = .ok (.lstore_n 0, 1) := by decide +kernel
theorem dJ13_bitCount_95d88_24 : decode cJ13_bitCount_95d88 24 = .ok (.lload_n 0, 1) := by decide +kernel
theorem dJ13_bitCount_95d88_25 : decode cJ13_bitCount_95d88 25 = .ok (.lload_n 0, 1) := by decide +kernel
theorem dJ13_bitCount_95d88_26 : decode cJ13_bitCount_95d88 26 = .ok (.iconst 4, 1) := by decide +kernel
theorem dJ13_bitCount_95d88_27 : decode cJ13_bitCount_95d88 27 = .ok (.lushr, 1) := by decide +kernel
theorem dJ13_bitCount_95d88_28 : decode cJ13_bitCount_95d88 28 = .ok (.ladd, 1) := by decide +kernel
theorem dJ13_bitCount_95d88_29 : decode cJ13_bitCount_95d88 29 = .ok (.ldc2_w 318, 3) := by decide +kernel
theorem dJ13_bitCount_95d88_32 : decode cJ13_bitCount_95d88 32 = .ok (.land, 1) := by decide +kernel
theorem dJ13_bitCount_95d88_33 : decode cJ13_bitCount_95d88 33 = .ok (.lstore_n 0, 1) := by decide +kernel
theorem dJ13_bitCount_95d88_34 : decode cJ13_bitCount_95d88 34 = .ok (.lload_n 0, 1) := by decide +kernel
theorem dJ13_bitCount_95d88_35 : decode cJ13_bitCount_95d88 35 = .ok (.lload_n 0, 1) := by decide +kernel
theorem dJ13_bitCount_95d88_36 : decode cJ13_bitCount_95d88 36 = .ok (.bipush 8, 2) := by decide +kernel
theorem dJ13_bitCount_95d88_38 : decode cJ13_bitCount_95d88 38 = .ok (.lushr, 1) := by decide +kernel
theorem dJ13_bitCount_95d88_39 : decode cJ13_bitCount_95d88 39 = .ok (.ladd, 1) := by decide +kernel
theorem dJ13_bitCount_95d88_40 : decode cJ13_bitCount_95d88 40 = .ok (.lstore_n 0, 1) := by decide +kernel
theorem dJ13_bitCount_95d88_41 : decode cJ13_bitCount_95d88 41 = .ok (.lload_n 0, 1) := by decide +kernel
theorem dJ13_bitCount_95d88_42 : decode cJ13_bitCount_95d88 42 = .ok (.lload_n 0, 1) := by decide +kernel
theorem dJ13_bitCount_95d88_43 : decode cJ13_bitCount_95d88 43 = .ok (.bipush 16, 2) := by decide +kernel
theorem dJ13_bitCount_95d88_45 : decode cJ13_bitCount_95d88 45 = .ok (.lushr, 1) := by decide +kernel
theorem dJ13_bitCount_95d88_46 : decode cJ13_bitCount_95d88 46 = .ok (.ladd, 1) := by decide +kernel
theorem dJ13_bitCount_95d88_47 : decode cJ13_bitCount_95d88 47 = .ok (.lstore_n 0, 1) := by decide +kernel
theorem dJ13_bitCount_95d88_48 : decode cJ13_bitCount_95d88 48 = .ok (.lload_n 0, 1) := by decide +kernel
theorem dJ13_bitCount_95d88_49 : decode cJ13_bitCount_95d88 49 = .ok (.lload_n 0, 1) := by decide +kernel
theorem dJ13_bitCount_95d88_50 : decode cJ13_bitCount_95d88 50 = .ok (.bipush 32, 2) := by decide +kernel
theorem dJ13_bitCount_95d88_52 : decode cJ13_bitCount_95d88 52 = .ok (.lushr, 1) := by decide +kernel
theorem dJ13_bitCount_95d88_53 : decode cJ13_bitCount_95d88 53 = .ok (.ladd, 1) := by decide +kernel
theorem dJ13_bitCount_95d88_54 : decode cJ13_bitCount_95d88 54 = .ok (.lstore_n 0, 1) := by decide +kernel
theorem dJ13_bitCount_95d88_55 : decode cJ13_bitCount_95d88 55 = .ok (.lload_n 0, 1) := by decide +kernel
theorem dJ13_bitCount_95d88_56 : decode cJ13_bitCount_95d88 56 = .ok (.l2i, 1) := by decide +kernel
theorem dJ13_bitCount_95d88_57 : decode cJ13_bitCount_95d88 57 = .ok (.bipush 127, 2) := by decide +kernel
theorem dJ13_bitCount_95d88_59 : decode cJ13_bitCount_95d88 59 = .ok (.iand, 1) := by decide +kernel
theorem dJ13_bitCount_95d88_60 : decode cJ13_bitCount_95d88 60 = .ok (.ireturn, 1) := by decide +kernel
def rm_J13_bitCount_95d88 : Room := { frames := 0, cells := 0, slots := 0, locals := 0 }
def M_J13_bitCount_95d88_0 (k : Nat) (p0 : Int64) : Option (Int32) := lt (p0 - (((p0.toUInt64 >>> ((1 : Int32).toInt64.toUInt64 &&& Int64.toUInt64 63)).toInt64) &&& (6148914691236517205 : Int64))) fun v1 => lt ((v1 &&& (3689348814741910323 : Int64)) + (((v1.toUInt64 >>> ((2 : Int32).toInt64.toUInt64 &&& Int64.toUInt64 63)).toInt64) &&& (3689348814741910323 : Int64))) fun v2 => lt ((v2 + ((v2.toUInt64 >>> ((4 : Int32).toInt64.toUInt64 &&& Int64.toUInt64 63)).toInt64)) &&& (1085102592571150095 : Int64)) fun v3 => lt (v3 + ((v3.toUInt64 >>> ((8 : Int32).toInt64.toUInt64 &&& Int64.toUInt64 63)).toInt64)) fun v4 => lt (v4 + ((v4.toUInt64 >>> ((16 : Int32).toInt64.toUInt64 &&& Int64.toUInt64 63)).toInt64)) fun v5 => lt (v5 + ((v5.toUInt64 >>> ((32 : Int32).toInt64.toUInt64 &&& Int64.toUInt64 63)).toInt64)) fun v6 => some ((v6.toInt32) &&& (127 : Int32))
set_option maxRecDepth 100000 in
set_option maxHeartbeats 4000000 in
theorem N_J13_bitCount_95d88_0 (C : CX E p l s m args meth c cJ13_bitCount_95d88 2 RJ13 (some .int) A) (k : Nat) {post : Int32 → va_W → Prop} :
    ∀ (p0 : Int64) (q : Int32), M_J13_bitCount_95d88_0 k p0 = some q → post q ([] : va_W) →
      WW E p l e rm_J13_bitCount_95d88 s m args below meth c A 0 0 (QI E below post args s rm_J13_bitCount_95d88 A) ([] : va_W) 2 [some (.long p0), none] 0 [] := by
  intro p0 q  h hq
  unfold M_J13_bitCount_95d88_0 at h
  refine r_lload_n (pc := 0) C (i := 0) dJ13_bitCount_95d88_0 rfl rfl ?_
  refine r_lload_n (pc := 1) C (i := 0) dJ13_bitCount_95d88_1 rfl rfl ?_
  refine r_iconst (pc := 2) C (v := 1) dJ13_bitCount_95d88_2 (by decide) ?_
  refine r_lushr (pc := 3) C dJ13_bitCount_95d88_3 ?_
  refine r_ldc2 (pc := 4) C (v := 6148914691236517205) wm_5_162 dJ13_bitCount_95d88_4 ?_
  refine r_land (pc := 7) C dJ13_bitCount_95d88_7 ?_
  refine r_lsub (pc := 8) C dJ13_bitCount_95d88_8 ?_
  obtain ⟨v1, hv1, h⟩ := lt_e h
  refine r_topl hv1 ?_
  refine r_lstore_n (pc := 9) C (i := 0) dJ13_bitCount_95d88_9 rfl (by decide) rfl ?_
  refine r_lload_n (pc := 10) C (i := 0) dJ13_bitCount_95d88_10 rfl rfl ?_
  refine r_ldc2 (pc := 11) C (v := 3689348814741910323) wm_5_163 dJ13_bitCount_95d88_11 ?_
  refine r_land (pc := 14) C dJ13_bitCount_95d88_14 ?_
  refine r_lload_n (pc := 15) C (i := 0) dJ13_bitCount_95d88_15 rfl rfl ?_
  refine r_iconst (pc := 16) C (v := 2) dJ13_bitCount_95d88_16 (by decide) ?_
  refine r_lushr (pc := 17) C dJ13_bitCount_95d88_17 ?_
  refine r_ldc2 (pc := 18) C (v := 3689348814741910323) wm_5_163 dJ13_bitCount_95d88_18 ?_
  refine r_land (pc := 21) C dJ13_bitCount_95d88_21 ?_
  refine r_ladd (pc := 22) C dJ13_bitCount_95d88_22 ?_
  obtain ⟨v2, hv2, h⟩ := lt_e h
  refine r_topl hv2 ?_
  refine r_lstore_n (pc := 23) C (i := 0) dJ13_bitCount_95d88_23 rfl (by decide) rfl ?_
  refine r_lload_n (pc := 24) C (i := 0) dJ13_bitCount_95d88_24 rfl rfl ?_
  refine r_lload_n (pc := 25) C (i := 0) dJ13_bitCount_95d88_25 rfl rfl ?_
  refine r_iconst (pc := 26) C (v := 4) dJ13_bitCount_95d88_26 (by decide) ?_
  refine r_lushr (pc := 27) C dJ13_bitCount_95d88_27 ?_
  refine r_ladd (pc := 28) C dJ13_bitCount_95d88_28 ?_
  refine r_ldc2 (pc := 29) C (v := 1085102592571150095) wm_5_164 dJ13_bitCount_95d88_29 ?_
  refine r_land (pc := 32) C dJ13_bitCount_95d88_32 ?_
  obtain ⟨v3, hv3, h⟩ := lt_e h
  refine r_topl hv3 ?_
  refine r_lstore_n (pc := 33) C (i := 0) dJ13_bitCount_95d88_33 rfl (by decide) rfl ?_
  refine r_lload_n (pc := 34) C (i := 0) dJ13_bitCount_95d88_34 rfl rfl ?_
  refine r_lload_n (pc := 35) C (i := 0) dJ13_bitCount_95d88_35 rfl rfl ?_
  refine r_bipush (pc := 36) C (v := 8) dJ13_bitCount_95d88_36 (by decide) ?_
  refine r_lushr (pc := 38) C dJ13_bitCount_95d88_38 ?_
  refine r_ladd (pc := 39) C dJ13_bitCount_95d88_39 ?_
  obtain ⟨v4, hv4, h⟩ := lt_e h
  refine r_topl hv4 ?_
  refine r_lstore_n (pc := 40) C (i := 0) dJ13_bitCount_95d88_40 rfl (by decide) rfl ?_
  refine r_lload_n (pc := 41) C (i := 0) dJ13_bitCount_95d88_41 rfl rfl ?_
  refine r_lload_n (pc := 42) C (i := 0) dJ13_bitCount_95d88_42 rfl rfl ?_
  refine r_bipush (pc := 43) C (v := 16) dJ13_bitCount_95d88_43 (by decide) ?_
  refine r_lushr (pc := 45) C dJ13_bitCount_95d88_45 ?_
  refine r_ladd (pc := 46) C dJ13_bitCount_95d88_46 ?_
  obtain ⟨v5, hv5, h⟩ := lt_e h
  refine r_topl hv5 ?_
  refine r_lstore_n (pc := 47) C (i := 0) dJ13_bitCount_95d88_47 rfl (by decide) rfl ?_
  refine r_lload_n (pc := 48) C (i := 0) dJ13_bitCount_95d88_48 rfl rfl ?_
  refine r_lload_n (pc := 49) C (i := 0) dJ13_bitCount_95d88_49 rfl rfl ?_
  refine r_bipush (pc := 50) C (v := 32) dJ13_bitCount_95d88_50 (by decide) ?_
  refine r_lushr (pc := 52) C dJ13_bitCount_95d88_52 ?_
  refine r_ladd (pc := 53) C dJ13_bitCount_95d88_53 ?_
  obtain ⟨v6, hv6, h⟩ := lt_e h
  refine r_topl hv6 ?_
  refine r_lstore_n (pc := 54) C (i := 0) dJ13_bitCount_95d88_54 rfl (by decide) rfl ?_
  refine r_lload_n (pc := 55) C (i := 0) dJ13_bitCount_95d88_55 rfl rfl ?_
  refine r_l2i (pc := 56) C dJ13_bitCount_95d88_56 ?_
  refine r_bipush (pc := 57) C (v := 127) dJ13_bitCount_95d88_57 (by decide) ?_
  refine r_iand (pc := 59) C dJ13_bitCount_95d88_59 ?_
  cases h
  exact r_ireti (pc := 60) C hq (Nat.zero_le _) (Nat.zero_le _) dJ13_bitCount_95d88_60
def M_J13_bitCount_95d88 (k : Nat) (p0 : Int64) : Option (Int32) := M_J13_bitCount_95d88_0 k p0
set_option maxRecDepth 100000 in
set_option maxHeartbeats 4000000 in
theorem c_J13_bitCount_95d88 (E : ENV) (l : Launch) (k : Nat) (p0 : Int64) {q : Int32} (hm : M_J13_bitCount_95d88 k p0 = some q) : CI E l yJ13_bitCount_95d88 cJ13_bitCount_95d88 2 (some .int) rm_J13_bitCount_95d88 [.long p0] ([] : va_W) (fun r w' => r = q ∧ w' = ([] : va_W)) :=
  CI.of 0 (by decide) (Nat.le_of_ble_eq_true rfl) (fun p e s m below meth c A C _ => r_weak (lSub_s (lSub_n lSub_e)) (N_J13_bitCount_95d88_0 C k p0 q  hm ⟨rfl, rfl⟩))
-- java/lang/Integer.numberOfTrailingZeros(I)I
theorem dJ6_numberOfTrailingZeros_0f7a4_0 : decode cJ6_numberOfTrailingZeros_0f7a4 0 = .ok (.iload_n 0, 1) := by decide +kernel
theorem dJ6_numberOfTrailingZeros_0f7a4_1 : decode cJ6_numberOfTrailingZeros_0f7a4 1 = .ok (.iconst (-1), 1) := by decide +kernel
theorem dJ6_numberOfTrailingZeros_0f7a4_2 : decode cJ6_numberOfTrailingZeros_0f7a4 2 = .ok (.ixor, 1) := by decide +kernel
theorem dJ6_numberOfTrailingZeros_0f7a4_3 : decode cJ6_numberOfTrailingZeros_0f7a4 3 = .ok (.iload_n 0, 1) := by decide +kernel
theorem dJ6_numberOfTrailingZeros_0f7a4_4 : decode cJ6_numberOfTrailingZeros_0f7a4 4 = .ok (.iconst 1, 1) := by decide +kernel
theorem dJ6_numberOfTrailingZeros_0f7a4_5 : decode cJ6_numberOfTrailingZeros_0f7a4 5 = .ok (.isub, 1) := by decide +kernel
theorem dJ6_numberOfTrailingZeros_0f7a4_6 : decode cJ6_numberOfTrailingZeros_0f7a4 6 = .ok (.iand, 1) := by decide +kernel
theorem dJ6_numberOfTrailingZeros_0f7a4_7 : decode cJ6_numberOfTrailingZeros_0f7a4 7 = .ok (.istore_n 0, 1) := by decide +kernel
theorem dJ6_numberOfTrailingZeros_0f7a4_8 : decode cJ6_numberOfTrailingZeros_0f7a4 8 = .ok (.iload_n 0, 1) := by decide +kernel
theorem dJ6_numberOfTrailingZeros_0f7a4_9 : decode cJ6_numberOfTrailingZeros_0f7a4 9 = .ok (.ifCond .gt 8, 3) := by decide +kernel
theorem dJ6_numberOfTrailingZeros_0f7a4_12 : decode cJ6_numberOfTrailingZeros_0f7a4 12 = .ok (.iload_n 0, 1) := by decide +kernel
theorem dJ6_numberOfTrailingZeros_0f7a4_13 : decode cJ6_numberOfTrailingZeros_0f7a4 13 = .ok (.bipush 32, 2) := by decide +kernel
theorem dJ6_numberOfTrailingZeros_0f7a4_15 : decode cJ6_numberOfTrailingZeros_0f7a4 15 = .ok (.iand, 1) := by decide +kernel
theorem dJ6_numberOfTrailingZeros_0f7a4_16 : decode cJ6_numberOfTrailingZeros_0f7a4 16 = .ok (.ireturn, 1) := by decide +kernel
theorem dJ6_numberOfTrailingZeros_0f7a4_17 : decode cJ6_numberOfTrailingZeros_0f7a4 17 = .ok (.iconst 1, 1) := by decide +kernel
theorem dJ6_numberOfTrailingZeros_0f7a4_18 : decode cJ6_numberOfTrailingZeros_0f7a4 18 = .ok (.istore_n 1, 1) := by decide +kernel
theorem dJ6_numberOfTrailingZeros_0f7a4_19 : decode cJ6_numberOfTrailingZeros_0f7a4 19 = .ok (.iload_n 0, 1) := by decide +kernel
theorem dJ6_numberOfTrailingZeros_0f7a4_20 : decode cJ6_numberOfTrailingZeros_0f7a4 20 = .ok (.ldc_w 264, 3) := by decide +kernel
theorem dJ6_numberOfTrailingZeros_0f7a4_23 : decode cJ6_numberOfTrailingZeros_0f7a4 23 = .ok (.if_icmp .le 11, 3) := by decide +kernel
theorem dJ6_numberOfTrailingZeros_0f7a4_26 : decode cJ6_numberOfTrailingZeros_0f7a4 26 = .ok (.iinc 1 16, 3) := by decide +kernel
theorem dJ6_numberOfTrailingZeros_0f7a4_29 : decode cJ6_numberOfTrailingZeros_0f7a4 29 = .ok (.iload_n 0, 1) := by decide +kernel
theorem dJ6_numberOfTrailingZeros_0f7a4_30 : decode cJ6_numberOfTrailingZeros_0f7a4 30 = .ok (.bipush 16, 2) := by decide +kernel
theorem dJ6_numberOfTrailingZeros_0f7a4_32 : decode cJ6_numberOfTrailingZeros_0f7a4 32 = .ok (.iushr, 1) := by decide +kernel
theorem dJ6_numberOfTrailingZeros_0f7a4_33 : decode cJ6_numberOfTrailingZeros_0f7a4 33 = .ok (.istore_n 0, 1) := by decide +kernel
theorem dJ6_numberOfTrailingZeros_0f7a4_34 : decode cJ6_numberOfTrailingZeros_0f7a4 34 = .ok (.iload_n 0, 1) := by decide +kernel
theorem dJ6_numberOfTrailingZeros_0f7a4_35 : decode cJ6_numberOfTrailingZeros_0f7a4 35 = .ok (.sipush 256, 3) := by decide +kernel
theorem dJ6_numberOfTrailingZeros_0f7a4_38 : decode cJ6_numberOfTrailingZeros_0f7a4 38 = .ok (.if_icmp .le 11, 3) := by decide +kernel
theorem dJ6_numberOfTrailingZeros_0f7a4_41 : decode cJ6_numberOfTrailingZeros_0f7a4 41 = .ok (.iinc 1 8, 3) := by decide +kernel
theorem dJ6_numberOfTrailingZeros_0f7a4_44 : decode cJ6_numberOfTrailingZeros_0f7a4 44 = .ok (.iload_n 0, 1) := by decide +kernel
theorem dJ6_numberOfTrailingZeros_0f7a4_45 : decode cJ6_numberOfTrailingZeros_0f7a4 45 = .ok (.bipush 8, 2) := by decide +kernel
theorem dJ6_numberOfTrailingZeros_0f7a4_47 : decode cJ6_numberOfTrailingZeros_0f7a4 47 = .ok (.iushr, 1) := by decide +kernel
theorem dJ6_numberOfTrailingZeros_0f7a4_48 : decode cJ6_numberOfTrailingZeros_0f7a4 48 = .ok (.istore_n 0, 1) := by decide +kernel
theorem dJ6_numberOfTrailingZeros_0f7a4_49 : decode cJ6_numberOfTrailingZeros_0f7a4 49 = .ok (.iload_n 0, 1) := by decide +kernel
theorem dJ6_numberOfTrailingZeros_0f7a4_50 : decode cJ6_numberOfTrailingZeros_0f7a4 50 = .ok (.bipush 16, 2) := by decide +kernel
theorem dJ6_numberOfTrailingZeros_0f7a4_52 : decode cJ6_numberOfTrailingZeros_0f7a4 52 = .ok (.if_icmp .le 10, 3) := by decide +kernel
theorem dJ6_numberOfTrailingZeros_0f7a4_55 : decode cJ6_numberOfTrailingZeros_0f7a4 55 = .ok (.iinc 1 4, 3) := by decide +kernel
theorem dJ6_numberOfTrailingZeros_0f7a4_58 : decode cJ6_numberOfTrailingZeros_0f7a4 58 = .ok (.iload_n 0, 1) := by decide +kernel
theorem dJ6_numberOfTrailingZeros_0f7a4_59 : decode cJ6_numberOfTrailingZeros_0f7a4 59 = .ok (.iconst 4, 1) := by decide +kernel
theorem dJ6_numberOfTrailingZeros_0f7a4_60 : decode cJ6_numberOfTrailingZeros_0f7a4 60 = .ok (.iushr, 1) := by decide +kernel
theorem dJ6_numberOfTrailingZeros_0f7a4_61 : decode cJ6_numberOfTrailingZeros_0f7a4 61 = .ok (.istore_n 0, 1) := by decide +kernel
theorem dJ6_numberOfTrailingZeros_0f7a4_62 : decode cJ6_numberOfTrailingZeros_0f7a4 62 = .ok (.iload_n 0, 1) := by decide +kernel
theorem dJ6_numberOfTrailingZeros_0f7a4_63 : decode cJ6_numberOfTrailingZeros_0f7a4 63 = .ok (.iconst 4, 1) := by decide +kernel
theorem dJ6_numberOfTrailingZeros_0f7a4_64 : decode cJ6_numberOfTrailingZeros_0f7a4 64 = .ok (.if_icmp .le 10, 3) := by decide +kernel
theorem dJ6_numberOfTrailingZeros_0f7a4_67 : decode cJ6_numberOfTrailingZeros_0f7a4 67 = .ok (.iinc 1 2, 3) := by decide +kernel
theorem dJ6_numberOfTrailingZeros_0f7a4_70 : decode cJ6_numberOfTrailingZeros_0f7a4 70 = .ok (.iload_n 0, 1) := by decide +kernel
theorem dJ6_numberOfTrailingZeros_0f7a4_71 : decode cJ6_numberOfTrailingZeros_0f7a4 71 = .ok (.iconst 2, 1) := by decide +kernel
theorem dJ6_numberOfTrailingZeros_0f7a4_72 : decode cJ6_numberOfTrailingZeros_0f7a4 72 = .ok (.iushr, 1) := by decide +kernel
theorem dJ6_numberOfTrailingZeros_0f7a4_73 : decode cJ6_numberOfTrailingZeros_0f7a4 73 = .ok (.istore_n 0, 1) := by decide +kernel
theorem dJ6_numberOfTrailingZeros_0f7a4_74 : decode cJ6_numberOfTrailingZeros_0f7a4 74 = .ok (.iload_n 1, 1) := by decide +kernel
theorem dJ6_numberOfTrailingZeros_0f7a4_75 : decode cJ6_numberOfTrailingZeros_0f7a4 75 = .ok (.iload_n 0, 1) := by decide +kernel
theorem dJ6_numberOfTrailingZeros_0f7a4_76 : decode cJ6_numberOfTrailingZeros_0f7a4 76 = .ok (.iconst 1, 1) := by decide +kernel
theorem dJ6_numberOfTrailingZeros_0f7a4_77 : decode cJ6_numberOfTrailingZeros_0f7a4 77 = .ok (.iushr, 1) := by decide +kernel
theorem dJ6_numberOfTrailingZeros_0f7a4_78 : decode cJ6_numberOfTrailingZeros_0f7a4 78 = .ok (.iadd, 1) := by decide +kernel
theorem dJ6_numberOfTrailingZeros_0f7a4_79 : decode cJ6_numberOfTrailingZeros_0f7a4 79 = .ok (.ireturn, 1) := by decide +kernel
def rm_J6_numberOfTrailingZeros_0f7a4 : Room := { frames := 0, cells := 0, slots := 0, locals := 0 }
def M_J6_numberOfTrailingZeros_0f7a4_62 (k : Nat) (x0 : Int32) (x1 : Int32) : Option (Int32) := if x0 ≤ (4 : Int32) then (some (x1 + (((x0.toUInt32 >>> ((1 : Int32).toUInt32 &&& Int32.toUInt32 31)).toInt32)))) else (lt (((x0.toUInt32 >>> ((2 : Int32).toUInt32 &&& Int32.toUInt32 31)).toInt32)) fun v2 => some ((x1 + 2) + (((v2.toUInt32 >>> ((1 : Int32).toUInt32 &&& Int32.toUInt32 31)).toInt32))))
set_option maxRecDepth 100000 in
set_option maxHeartbeats 4000000 in
theorem N_J6_numberOfTrailingZeros_0f7a4_62 (C : CX E p l s m args meth c cJ6_numberOfTrailingZeros_0f7a4 2 RJ6 (some .int) A) (k : Nat) {post : Int32 → va_W → Prop} :
    ∀ (x0 : Int32) (x1 : Int32) (q : Int32), M_J6_numberOfTrailingZeros_0f7a4_62 k x0 x1 = some q → post q ([] : va_W) →
      WW E p l e rm_J6_numberOfTrailingZeros_0f7a4 s m args below meth c A 0 0 (QI E below post args s rm_J6_numberOfTrailingZeros_0f7a4 A) ([] : va_W) 2 [some (.int x0), some (.int x1)] 62 [] := by
  intro x0 x1 q  h hq
  unfold M_J6_numberOfTrailingZeros_0f7a4_62 at h
  refine r_iload_n (pc := 62) C (i := 0) dJ6_numberOfTrailingZeros_0f7a4_62 rfl rfl ?_
  refine r_iconst (pc := 63) C (v := 4) dJ6_numberOfTrailingZeros_0f7a4_63 (by decide) ?_
  refine r_icmp_le (pc := 64) C (tgt := 74) dJ6_numberOfTrailingZeros_0f7a4_64 rfl (fun c1 => ?_) (fun c1 => ?_)
  · rw [if_pos c1] at h
    refine r_iload_n (pc := 74) C (i := 1) dJ6_numberOfTrailingZeros_0f7a4_74 rfl rfl ?_
    refine r_iload_n (pc := 75) C (i := 0) dJ6_numberOfTrailingZeros_0f7a4_75 rfl rfl ?_
    refine r_iconst (pc := 76) C (v := 1) dJ6_numberOfTrailingZeros_0f7a4_76 (by decide) ?_
    refine r_iushr (pc := 77) C dJ6_numberOfTrailingZeros_0f7a4_77 ?_
    refine r_iadd (pc := 78) C dJ6_numberOfTrailingZeros_0f7a4_78 ?_
    cases h
    exact r_ireti (pc := 79) C hq (Nat.zero_le _) (Nat.zero_le _) dJ6_numberOfTrailingZeros_0f7a4_79
  · rw [if_neg c1] at h
    refine r_iinc (pc := 67) C (v := (x1 + 2)) dJ6_numberOfTrailingZeros_0f7a4_67 rfl rfl (by decide) rfl ?_
    refine r_iload_n (pc := 70) C (i := 0) dJ6_numberOfTrailingZeros_0f7a4_70 rfl rfl ?_
    refine r_iconst (pc := 71) C (v := 2) dJ6_numberOfTrailingZeros_0f7a4_71 (by decide) ?_
    refine r_iushr (pc := 72) C dJ6_numberOfTrailingZeros_0f7a4_72 ?_
    obtain ⟨v2, hv2, h⟩ := lt_e h
    refine r_topi hv2 ?_
    refine r_istore_n (pc := 73) C (i := 0) dJ6_numberOfTrailingZeros_0f7a4_73 rfl (by decide) rfl ?_
    refine r_iload_n (pc := 74) C (i := 1) dJ6_numberOfTrailingZeros_0f7a4_74 rfl rfl ?_
    refine r_iload_n (pc := 75) C (i := 0) dJ6_numberOfTrailingZeros_0f7a4_75 rfl rfl ?_
    refine r_iconst (pc := 76) C (v := 1) dJ6_numberOfTrailingZeros_0f7a4_76 (by decide) ?_
    refine r_iushr (pc := 77) C dJ6_numberOfTrailingZeros_0f7a4_77 ?_
    refine r_iadd (pc := 78) C dJ6_numberOfTrailingZeros_0f7a4_78 ?_
    cases h
    exact r_ireti (pc := 79) C hq (Nat.zero_le _) (Nat.zero_le _) dJ6_numberOfTrailingZeros_0f7a4_79
def M_J6_numberOfTrailingZeros_0f7a4_49 (k : Nat) (x0 : Int32) (x1 : Int32) : Option (Int32) := if x0 ≤ (16 : Int32) then (M_J6_numberOfTrailingZeros_0f7a4_62 k x0 x1) else (lt (((x0.toUInt32 >>> ((4 : Int32).toUInt32 &&& Int32.toUInt32 31)).toInt32)) fun v4 => M_J6_numberOfTrailingZeros_0f7a4_62 k v4 (x1 + 4))
set_option maxRecDepth 100000 in
set_option maxHeartbeats 4000000 in
theorem N_J6_numberOfTrailingZeros_0f7a4_49 (C : CX E p l s m args meth c cJ6_numberOfTrailingZeros_0f7a4 2 RJ6 (some .int) A) (k : Nat) {post : Int32 → va_W → Prop} :
    ∀ (x0 : Int32) (x1 : Int32) (q : Int32), M_J6_numberOfTrailingZeros_0f7a4_49 k x0 x1 = some q → post q ([] : va_W) →
      WW E p l e rm_J6_numberOfTrailingZeros_0f7a4 s m args below meth c A 0 0 (QI E below post args s rm_J6_numberOfTrailingZeros_0f7a4 A) ([] : va_W) 2 [some (.int x0), some (.int x1)] 49 [] := by
  intro x0 x1 q  h hq
  unfold M_J6_numberOfTrailingZeros_0f7a4_49 at h
  refine r_iload_n (pc := 49) C (i := 0) dJ6_numberOfTrailingZeros_0f7a4_49 rfl rfl ?_
  refine r_bipush (pc := 50) C (v := 16) dJ6_numberOfTrailingZeros_0f7a4_50 (by decide) ?_
  refine r_icmp_le (pc := 52) C (tgt := 62) dJ6_numberOfTrailingZeros_0f7a4_52 rfl (fun c3 => ?_) (fun c3 => ?_)
  · rw [if_pos c3] at h
    refine r_weak (lSub_s (lSub_s lSub_e)) ?_
    exact N_J6_numberOfTrailingZeros_0f7a4_62 C k x0 x1 q  h hq
  · rw [if_neg c3] at h
    refine r_iinc (pc := 55) C (v := (x1 + 4)) dJ6_numberOfTrailingZeros_0f7a4_55 rfl rfl (by decide) rfl ?_
    refine r_iload_n (pc := 58) C (i := 0) dJ6_numberOfTrailingZeros_0f7a4_58 rfl rfl ?_
    refine r_iconst (pc := 59) C (v := 4) dJ6_numberOfTrailingZeros_0f7a4_59 (by decide) ?_
    refine r_iushr (pc := 60) C dJ6_numberOfTrailingZeros_0f7a4_60 ?_
    obtain ⟨v4, hv4, h⟩ := lt_e h
    refine r_topi hv4 ?_
    refine r_istore_n (pc := 61) C (i := 0) dJ6_numberOfTrailingZeros_0f7a4_61 rfl (by decide) rfl ?_
    refine r_weak (lSub_s (lSub_s lSub_e)) ?_
    exact N_J6_numberOfTrailingZeros_0f7a4_62 C k v4 (x1 + 4) q  h hq
def M_J6_numberOfTrailingZeros_0f7a4_34 (k : Nat) (x0 : Int32) (x1 : Int32) : Option (Int32) := if x0 ≤ (256 : Int32) then (M_J6_numberOfTrailingZeros_0f7a4_49 k x0 x1) else (lt (((x0.toUInt32 >>> ((8 : Int32).toUInt32 &&& Int32.toUInt32 31)).toInt32)) fun v6 => M_J6_numberOfTrailingZeros_0f7a4_49 k v6 (x1 + 8))
set_option maxRecDepth 100000 in
set_option maxHeartbeats 4000000 in
theorem N_J6_numberOfTrailingZeros_0f7a4_34 (C : CX E p l s m args meth c cJ6_numberOfTrailingZeros_0f7a4 2 RJ6 (some .int) A) (k : Nat) {post : Int32 → va_W → Prop} :
    ∀ (x0 : Int32) (x1 : Int32) (q : Int32), M_J6_numberOfTrailingZeros_0f7a4_34 k x0 x1 = some q → post q ([] : va_W) →
      WW E p l e rm_J6_numberOfTrailingZeros_0f7a4 s m args below meth c A 0 0 (QI E below post args s rm_J6_numberOfTrailingZeros_0f7a4 A) ([] : va_W) 2 [some (.int x0), some (.int x1)] 34 [] := by
  intro x0 x1 q  h hq
  unfold M_J6_numberOfTrailingZeros_0f7a4_34 at h
  refine r_iload_n (pc := 34) C (i := 0) dJ6_numberOfTrailingZeros_0f7a4_34 rfl rfl ?_
  refine r_sipush (pc := 35) C (v := 256) dJ6_numberOfTrailingZeros_0f7a4_35 (by decide) ?_
  refine r_icmp_le (pc := 38) C (tgt := 49) dJ6_numberOfTrailingZeros_0f7a4_38 rfl (fun c5 => ?_) (fun c5 => ?_)
  · rw [if_pos c5] at h
    refine r_weak (lSub_s (lSub_s lSub_e)) ?_
    exact N_J6_numberOfTrailingZeros_0f7a4_49 C k x0 x1 q  h hq
  · rw [if_neg c5] at h
    refine r_iinc (pc := 41) C (v := (x1 + 8)) dJ6_numberOfTrailingZeros_0f7a4_41 rfl rfl (by decide) rfl ?_
    refine r_iload_n (pc := 44) C (i := 0) dJ6_numberOfTrailingZeros_0f7a4_44 rfl rfl ?_
    refine r_bipush (pc := 45) C (v := 8) dJ6_numberOfTrailingZeros_0f7a4_45 (by decide) ?_
    refine r_iushr (pc := 47) C dJ6_numberOfTrailingZeros_0f7a4_47 ?_
    obtain ⟨v6, hv6, h⟩ := lt_e h
    refine r_topi hv6 ?_
    refine r_istore_n (pc := 48) C (i := 0) dJ6_numberOfTrailingZeros_0f7a4_48 rfl (by decide) rfl ?_
    refine r_weak (lSub_s (lSub_s lSub_e)) ?_
    exact N_J6_numberOfTrailingZeros_0f7a4_49 C k v6 (x1 + 8) q  h hq
def M_J6_numberOfTrailingZeros_0f7a4_0 (k : Nat) (p0 : Int32) : Option (Int32) := lt ((p0 ^^^ (-1 : Int32)) &&& (p0 - (1 : Int32))) fun v7 => if 0 < v7 then (if v7 ≤ (65536 : Int32) then (M_J6_numberOfTrailingZeros_0f7a4_34 k v7 (1 : Int32)) else (lt (((v7.toUInt32 >>> ((16 : Int32).toUInt32 &&& Int32.toUInt32 31)).toInt32)) fun v10 => M_J6_numberOfTrailingZeros_0f7a4_34 k v10 ((1 : Int32) + 16))) else (some (v7 &&& (32 : Int32)))
set_option maxRecDepth 100000 in
set_option maxHeartbeats 4000000 in
theorem N_J6_numberOfTrailingZeros_0f7a4_0 (C : CX E p l s m args meth c cJ6_numberOfTrailingZeros_0f7a4 2 RJ6 (some .int) A) (k : Nat) {post : Int32 → va_W → Prop} :
    ∀ (p0 : Int32) (q : Int32), M_J6_numberOfTrailingZeros_0f7a4_0 k p0 = some q → post q ([] : va_W) →
      WW E p l e rm_J6_numberOfTrailingZeros_0f7a4 s m args below meth c A 0 0 (QI E below post args s rm_J6_numberOfTrailingZeros_0f7a4 A) ([] : va_W) 2 [some (.int p0), none] 0 [] := by
  intro p0 q  h hq
  unfold M_J6_numberOfTrailingZeros_0f7a4_0 at h
  refine r_iload_n (pc := 0) C (i := 0) dJ6_numberOfTrailingZeros_0f7a4_0 rfl rfl ?_
  refine r_iconst (pc := 1) C (v := (-1)) dJ6_numberOfTrailingZeros_0f7a4_1 (by decide) ?_
  refine r_ixor (pc := 2) C dJ6_numberOfTrailingZeros_0f7a4_2 ?_
  refine r_iload_n (pc := 3) C (i := 0) dJ6_numberOfTrailingZeros_0f7a4_3 rfl rfl ?_
  refine r_iconst (pc := 4) C (v := 1) dJ6_numberOfTrailingZeros_0f7a4_4 (by decide) ?_
  refine r_isub (pc := 5) C dJ6_numberOfTrailingZeros_0f7a4_5 ?_
  refine r_iand (pc := 6) C dJ6_numberOfTrailingZeros_0f7a4_6 ?_
  obtain ⟨v7, hv7, h⟩ := lt_e h
  refine r_topi hv7 ?_
  refine r_istore_n (pc := 7) C (i := 0) dJ6_numberOfTrailingZeros_0f7a4_7 rfl (by decide) rfl ?_
  refine r_iload_n (pc := 8) C (i := 0) dJ6_numberOfTrailingZeros_0f7a4_8 rfl rfl ?_
  refine r_if_gt (pc := 9) C (tgt := 17) dJ6_numberOfTrailingZeros_0f7a4_9 rfl (fun c8 => ?_) (fun c8 => ?_)
  · rw [if_pos c8] at h
    refine r_iconst (pc := 17) C (v := 1) dJ6_numberOfTrailingZeros_0f7a4_17 (by decide) ?_
    refine r_istore_n (pc := 18) C (i := 1) dJ6_numberOfTrailingZeros_0f7a4_18 rfl (by decide) rfl ?_
    refine r_iload_n (pc := 19) C (i := 0) dJ6_numberOfTrailingZeros_0f7a4_19 rfl rfl ?_
    refine r_ldcw (pc := 20) C (v := 65536) wm_5_171 dJ6_numberOfTrailingZeros_0f7a4_20 ?_
    refine r_icmp_le (pc := 23) C (tgt := 34) dJ6_numberOfTrailingZeros_0f7a4_23 rfl (fun c9 => ?_) (fun c9 => ?_)
    · rw [if_pos c9] at h
      refine r_weak (lSub_s (lSub_s lSub_e)) ?_
      exact N_J6_numberOfTrailingZeros_0f7a4_34 C k v7 (1 : Int32) q  h hq
    · rw [if_neg c9] at h
      refine r_iinc (pc := 26) C (v := ((1 : Int32) + 16)) dJ6_numberOfTrailingZeros_0f7a4_26 rfl rfl (by decide) rfl ?_
      refine r_iload_n (pc := 29) C (i := 0) dJ6_numberOfTrailingZeros_0f7a4_29 rfl rfl ?_
      refine r_bipush (pc := 30) C (v := 16) dJ6_numberOfTrailingZeros_0f7a4_30 (by decide) ?_
      refine r_iushr (pc := 32) C dJ6_numberOfTrailingZeros_0f7a4_32 ?_
      obtain ⟨v10, hv10, h⟩ := lt_e h
      refine r_topi hv10 ?_
      refine r_istore_n (pc := 33) C (i := 0) dJ6_numberOfTrailingZeros_0f7a4_33 rfl (by decide) rfl ?_
      refine r_weak (lSub_s (lSub_s lSub_e)) ?_
      exact N_J6_numberOfTrailingZeros_0f7a4_34 C k v10 ((1 : Int32) + 16) q  h hq
  · rw [if_neg c8] at h
    refine r_iload_n (pc := 12) C (i := 0) dJ6_numberOfTrailingZeros_0f7a4_12 rfl rfl ?_
    refine r_bipush (pc := 13) C (v := 32) dJ6_numberOfTrailingZeros_0f7a4_13 (by decide) ?_
    refine r_iand (pc := 15) C dJ6_numberOfTrailingZeros_0f7a4_15 ?_
    cases h
    exact r_ireti (pc := 16) C hq (Nat.zero_le _) (Nat.zero_le _) dJ6_numberOfTrailingZeros_0f7a4_16
def M_J6_numberOfTrailingZeros_0f7a4 (k : Nat) (p0 : Int32) : Option (Int32) := M_J6_numberOfTrailingZeros_0f7a4_0 k p0
set_option maxRecDepth 100000 in
set_option maxHeartbeats 4000000 in
theorem c_J6_numberOfTrailingZeros_0f7a4 (E : ENV) (l : Launch) (k : Nat) (p0 : Int32) {q : Int32} (hm : M_J6_numberOfTrailingZeros_0f7a4 k p0 = some q) : CI E l yJ6_numberOfTrailingZeros_0f7a4 cJ6_numberOfTrailingZeros_0f7a4 2 (some .int) rm_J6_numberOfTrailingZeros_0f7a4 [.int p0] ([] : va_W) (fun r w' => r = q ∧ w' = ([] : va_W)) :=
  CI.of 1 (by decide) (Nat.le_of_ble_eq_true rfl) (fun p e s m below meth c A C _ => r_weak (lSub_s (lSub_n lSub_e)) (N_J6_numberOfTrailingZeros_0f7a4_0 C k p0 q  hm ⟨rfl, rfl⟩))
theorem hd_J6_numberOfTrailingZeros_0f7a4 : yJ6_numberOfTrailingZeros_0f7a4.cls = RJ6 ∧ yJ6_numberOfTrailingZeros_0f7a4.cls ≠ "java/lang/invoke/MethodHandle" ∧ yJ6_numberOfTrailingZeros_0f7a4.cls ≠ "java/lang/invoke/VarHandle" ∧ (parseMethodDescriptor yJ6_numberOfTrailingZeros_0f7a4.desc).map (fun d => d.parameters.length) = some 1 := by decide +kernel
theorem g_J13_311 : GoodIn GW (va_wsS RJ13 311 yJ6_numberOfTrailingZeros_0f7a4 (wsG yJ6_numberOfTrailingZeros_0f7a4 cJ6_numberOfTrailingZeros_0f7a4 2 (some .int))) := gw_S wm_5_168 wm_5_169 wm_1_22 wm_5_170
-- java/lang/Long.numberOfTrailingZeros(J)I
theorem dJ13_numberOfTrailingZeros_95d88_0 : decode cJ13_numberOfTrailingZeros_95d88 0 = .ok (.lload_n 0, 1) := by decide +kernel
theorem dJ13_numberOfTrailingZeros_95d88_1 : decode cJ13_numberOfTrailingZeros_95d88 1 = .ok (.l2i, 1) := by decide +kernel
theorem dJ13_numberOfTrailingZeros_95d88_2 : decode cJ13_numberOfTrailingZeros_95d88 2 = .ok (.istore_n 2, 1) := by decide +kernel
theorem dJ13_numberOfTrailingZeros_95d88_3 : decode cJ13_numberOfTrailingZeros_95d88 3 = .ok (.iload_n 2, 1) := by decide +kernel
theorem dJ13_numberOfTrailingZeros_95d88_4 : decode cJ13_numberOfTrailingZeros_95d88 4 = .ok (.ifCond .ne 17, 3) := by decide +kernel
theorem dJ13_numberOfTrailingZeros_95d88_7 : decode cJ13_numberOfTrailingZeros_95d88 7 = .ok (.bipush 32, 2) := by decide +kernel
theorem dJ13_numberOfTrailingZeros_95d88_9 : decode cJ13_numberOfTrailingZeros_95d88 9 = .ok (.lload_n 0, 1) := by decide +kernel
theorem dJ13_numberOfTrailingZeros_95d88_10 : decode cJ13_numberOfTrailingZeros_95d88 10 = .ok (.bipush 32, 2) := by decide +kernel
theorem dJ13_numberOfTrailingZeros_95d88_12 : decode cJ13_numberOfTrailingZeros_95d88 12 = .ok (.lushr, 1) := by decide +kernel
theorem dJ13_numberOfTrailingZeros_95d88_13 : decode cJ13_numberOfTrailingZeros_95d88 13 = .ok (.l2i, 1) := by decide +kernel
theorem dJ13_numberOfTrailingZeros_95d88_14 : decode cJ13_numberOfTrailingZeros_95d88 14 = .ok (.invokestatic 311, 3) := by decide +kernel
theorem dJ13_numberOfTrailingZeros_95d88_17 : decode cJ13_numberOfTrailingZeros_95d88 17 = .ok (.iadd, 1) := by decide +kernel
theorem dJ13_numberOfTrailingZeros_95d88_18 : decode cJ13_numberOfTrailingZeros_95d88 18 = .ok (.goto 7, 3) := by decide +kernel
theorem dJ13_numberOfTrailingZeros_95d88_21 : decode cJ13_numberOfTrailingZeros_95d88 21 = .ok (.iload_n 2, 1) := by decide +kernel
theorem dJ13_numberOfTrailingZeros_95d88_22 : decode cJ13_numberOfTrailingZeros_95d88 22 = .ok (.invokestatic 311, 3) := by decide +kernel
theorem dJ13_numberOfTrailingZeros_95d88_25 : decode cJ13_numberOfTrailingZeros_95d88 25 = .ok (.ireturn, 1) := by decide +kernel
def rm_J13_numberOfTrailingZeros_95d88 : Room := { frames := 1, cells := 0, slots := 0, locals := 21 }
def M_J13_numberOfTrailingZeros_95d88_0 (k : Nat) (p0 : Int64) : Option (Int32) := lt (p0.toInt32) fun v1 => if v1 = 0 then ((M_J6_numberOfTrailingZeros_0f7a4 k (((p0.toUInt64 >>> ((32 : Int32).toInt64.toUInt64 &&& Int64.toUInt64 63)).toInt64).toInt32)).bind fun q4 => some ((32 : Int32) + q4)) else ((M_J6_numberOfTrailingZeros_0f7a4 k v1).bind fun q3 => some q3)
set_option maxRecDepth 100000 in
set_option maxHeartbeats 4000000 in
theorem N_J13_numberOfTrailingZeros_95d88_0 (C : CX E p l s m args meth c cJ13_numberOfTrailingZeros_95d88 3 RJ13 (some .int) A) (k : Nat) {post : Int32 → va_W → Prop} :
    ∀ (p0 : Int64) (q : Int32), M_J13_numberOfTrailingZeros_95d88_0 k p0 = some q → post q ([] : va_W) →
      WW E p l e rm_J13_numberOfTrailingZeros_95d88 s m args below meth c A 0 0 (QI E below post args s rm_J13_numberOfTrailingZeros_95d88 A) ([] : va_W) 3 [some (.long p0), none, none] 0 [] := by
  intro p0 q  h hq
  unfold M_J13_numberOfTrailingZeros_95d88_0 at h
  refine r_lload_n (pc := 0) C (i := 0) dJ13_numberOfTrailingZeros_95d88_0 rfl rfl ?_
  refine r_l2i (pc := 1) C dJ13_numberOfTrailingZeros_95d88_1 ?_
  obtain ⟨v1, hv1, h⟩ := lt_e h
  refine r_topi hv1 ?_
  refine r_istore_n (pc := 2) C (i := 2) dJ13_numberOfTrailingZeros_95d88_2 rfl (by decide) rfl ?_
  refine r_iload_n (pc := 3) C (i := 2) dJ13_numberOfTrailingZeros_95d88_3 rfl rfl ?_
  refine r_if_ne (pc := 4) C (tgt := 21) dJ13_numberOfTrailingZeros_95d88_4 rfl (fun c2 => ?_) (fun c2 => ?_)
  · rw [if_neg c2] at h
    refine r_iload_n (pc := 21) C (i := 2) dJ13_numberOfTrailingZeros_95d88_21 rfl rfl ?_
    obtain ⟨q3, hq3, h⟩ := bnd h
    refine r_callSp_CI (pc := 22) C [.int v1] (c_J6_numberOfTrailingZeros_0f7a4 E l k v1 hq3) [] rfl (by decide) g_J13_311 hd_J6_numberOfTrailingZeros_0f7a4.2 ⟨Nat.le_of_ble_eq_true rfl, Nat.le_of_ble_eq_true rfl⟩ ⟨Nat.zero_le _, Nat.zero_le _⟩ (Nat.le_of_ble_eq_true rfl) rfl dJ13_numberOfTrailingZeros_95d88_22 (fun r hr => ?_)
    have hr := hr.symm
    subst hr
    cases h
    exact r_ireti (pc := 25) C hq (Nat.zero_le _) (Nat.zero_le _) dJ13_numberOfTrailingZeros_95d88_25
  · rw [if_pos c2] at h
    refine r_bipush (pc := 7) C (v := 32) dJ13_numberOfTrailingZeros_95d88_7 (by decide) ?_
    refine r_lload_n (pc := 9) C (i := 0) dJ13_numberOfTrailingZeros_95d88_9 rfl rfl ?_
    refine r_bipush (pc := 10) C (v := 32) dJ13_numberOfTrailingZeros_95d88_10 (by decide) ?_
    refine r_lushr (pc := 12) C dJ13_numberOfTrailingZeros_95d88_12 ?_
    refine r_l2i (pc := 13) C dJ13_numberOfTrailingZeros_95d88_13 ?_
    obtain ⟨q4, hq4, h⟩ := bnd h
    refine r_callSp_CI (pc := 14) C [.int (((p0.toUInt64 >>> ((32 : Int32).toInt64.toUInt64 &&& Int64.toUInt64 63)).toInt64).toInt32)] (c_J6_numberOfTrailingZeros_0f7a4 E l k (((p0.toUInt64 >>> ((32 : Int32).toInt64.toUInt64 &&& Int64.toUInt64 63)).toInt64).toInt32) hq4) [] rfl (by decide) g_J13_311 hd_J6_numberOfTrailingZeros_0f7a4.2 ⟨Nat.le_of_ble_eq_true rfl, Nat.le_of_ble_eq_true rfl⟩ ⟨Nat.zero_le _, Nat.zero_le _⟩ (Nat.le_of_ble_eq_true rfl) rfl dJ13_numberOfTrailingZeros_95d88_14 (fun r hr => ?_)
    have hr := hr.symm
    subst hr
    refine r_iadd (pc := 17) C dJ13_numberOfTrailingZeros_95d88_17 ?_
    refine r_goto (pc := 18) C (tgt := 25) dJ13_numberOfTrailingZeros_95d88_18 rfl ?_
    cases h
    exact r_ireti (pc := 25) C hq (Nat.zero_le _) (Nat.zero_le _) dJ13_numberOfTrailingZeros_95d88_25
def M_J13_numberOfTrailingZeros_95d88 (k : Nat) (p0 : Int64) : Option (Int32) := M_J13_numberOfTrailingZeros_95d88_0 k p0
set_option maxRecDepth 100000 in
set_option maxHeartbeats 4000000 in
theorem c_J13_numberOfTrailingZeros_95d88 (E : ENV) (l : Launch) (k : Nat) (p0 : Int64) {q : Int32} (hm : M_J13_numberOfTrailingZeros_95d88 k p0 = some q) : CI E l yJ13_numberOfTrailingZeros_95d88 cJ13_numberOfTrailingZeros_95d88 3 (some .int) rm_J13_numberOfTrailingZeros_95d88 [.long p0] ([] : va_W) (fun r w' => r = q ∧ w' = ([] : va_W)) :=
  CI.of 1 (by decide) (Nat.le_of_ble_eq_true rfl) (fun p e s m below meth c A C _ => r_weak (lSub_s (lSub_n (lSub_n lSub_e))) (N_J13_numberOfTrailingZeros_95d88_0 C k p0 q  hm ⟨rfl, rfl⟩))
-- ShardGuard$Row.at(I)I
theorem dX5_at_0 : decode cX5_at 0 = .ok (.iload_n 1, 1) := by decide +kernel
theorem dX5_at_1 : decode cX5_at 1 = .ok (.ifCond .lt 21, 3) := by decide +kernel
theorem dX5_at_4 : decode cX5_at 4 = .ok (.iload_n 1, 1) := by decide +kernel
theorem dX5_at_5 : decode cX5_at 5 = .ok (.aload_n 0, 1) := by decide +kernel
theorem dX5_at_6 : decode cX5_at 6 = .ok (.getfield 7, 3) := by decide +kernel
theorem dX5_at_9 : decode cX5_at 9 = .ok (.arraylength, 1) := by decide +kernel
theorem dX5_at_10 : decode cX5_at 10 = .ok (.if_icmp .ge 12, 3) := by decide +kernel
theorem dX5_at_13 : decode cX5_at 13 = .ok (.aload_n 0, 1) := by decide +kernel
theorem dX5_at_14 : decode cX5_at 14 = .ok (.getfield 7, 3) := by decide +kernel
theorem dX5_at_17 : decode cX5_at 17 = .ok (.iload_n 1, 1) := by decide +kernel
theorem dX5_at_18 : decode cX5_at 18 = .ok (.iaload, 1) := by decide +kernel
theorem dX5_at_19 : decode cX5_at 19 = .ok (.goto 4, 3) := by decide +kernel
theorem dX5_at_22 : decode cX5_at 22 = .ok (.iconst 0, 1) := by decide +kernel
theorem dX5_at_23 : decode cX5_at 23 = .ok (.ireturn, 1) := by decide +kernel
def rm_X5_at : Room := { frames := 0, cells := 0, slots := 0, locals := 0 }
def M_X5_at_0 (k : Nat) (nn : Nat) (S : Nat → Int32) (p0 : Int32) : Option (Int32) := if p0 < 0 then (some (0 : Int32)) else (if (nI nn) ≤ p0 then (some (0 : Int32)) else ((if inb p0 nn = true then some (S p0.toNatClampNeg) else none)))
set_option maxRecDepth 100000 in
set_option maxHeartbeats 4000000 in
theorem N_X5_at_0 (C : CX E p l s m args meth c cX5_at 2 RX5 (some .int) A) (a : Nat → Nat) (k : Nat) (nn : Nat) (S : Nat → Int32) {post : Int32 → va_W → Prop} :
    ∀ (p0 : Int32) (q : Int32), M_X5_at_0 k nn S p0 = some q → post q (wRow E a nn S) →
      WW E p l e rm_X5_at s m args below meth c A 0 0 (QI E below post args s rm_X5_at A) (wRow E a nn S) 2 [some (.ref (a 0)), some (.int p0)] 0 [] := by
  intro p0 q  h hq
  unfold M_X5_at_0 at h
  refine r_iload_n (pc := 0) C (i := 1) dX5_at_0 rfl rfl ?_
  refine r_if_lt (pc := 1) C (tgt := 22) dX5_at_1 rfl (fun c1 => ?_) (fun c1 => ?_)
  · rw [if_pos c1] at h
    refine r_iconst (pc := 22) C (v := 0) dX5_at_22 (by decide) ?_
    cases h
    exact r_ireti (pc := 23) C hq (Nat.zero_le _) (Nat.zero_le _) dX5_at_23
  · rw [if_neg c1] at h
    refine r_iload_n (pc := 4) C (i := 1) dX5_at_4 rfl rfl ?_
    refine r_aload_n (pc := 5) C (i := 0) dX5_at_5 rfl rfl ?_
    refine r_get (pc := 6) C gwX5 0 rfl rfl 0 (by decide) wm_1_46 rfl dX5_at_6 ?_
    refine r_alen (pc := 9) C 1 0 rfl rfl dX5_at_9 ?_
    refine r_icmp_ge (pc := 10) C (tgt := 22) dX5_at_10 rfl (fun c2 => ?_) (fun c2 => ?_)
    · rw [if_pos c2] at h
      refine r_iconst (pc := 22) C (v := 0) dX5_at_22 (by decide) ?_
      cases h
      exact r_ireti (pc := 23) C hq (Nat.zero_le _) (Nat.zero_le _) dX5_at_23
    · rw [if_neg c2] at h
      refine r_aload_n (pc := 13) C (i := 0) dX5_at_13 rfl rfl ?_
      refine r_get (pc := 14) C gwX5 0 rfl rfl 0 (by decide) wm_1_46 rfl dX5_at_14 ?_
      refine r_iload_n (pc := 17) C (i := 1) dX5_at_17 rfl rfl ?_
      obtain ⟨hi3, h⟩ := ifn h
      refine r_iald (pc := 18) C 1 rfl hi3 dX5_at_18 ?_
      refine r_goto (pc := 19) C (tgt := 23) dX5_at_19 rfl ?_
      cases h
      exact r_ireti (pc := 23) C hq (Nat.zero_le _) (Nat.zero_le _) dX5_at_23
def M_X5_at (k : Nat) (nn : Nat) (S : Nat → Int32) (p0 : Int32) : Option (Int32) := M_X5_at_0 k nn S p0
set_option maxRecDepth 100000 in
set_option maxHeartbeats 4000000 in
theorem c_X5_at (E : ENV) (l : Launch) (k : Nat) (a : Nat → Nat) (nn : Nat) (S : Nat → Int32) (p0 : Int32) {q : Int32} (hm : M_X5_at k nn S p0 = some q) : CI E l yX5_at cX5_at 2 (some .int) rm_X5_at [.ref (a 0), .int p0] (wRow E a nn S) (fun r w' => r = q ∧ w' = (wRow E a nn S)) :=
  CI.of 0 (by decide) (Nat.le_of_ble_eq_true rfl) (fun p e s m below meth c A C _ => r_weak (lSub_s (lSub_s lSub_e)) (N_X5_at_0 C a k nn S p0 q  hm ⟨rfl, rfl⟩))
-- ShardGuard$Row.put(II)V
theorem dX5_put_0 : decode cX5_put 0 = .ok (.iload_n 1, 1) := by decide +kernel
theorem dX5_put_1 : decode cX5_put 1 = .ok (.ifCond .lt 19, 3) := by decide +kernel
theorem dX5_put_4 : decode cX5_put 4 = .ok (.iload_n 1, 1) := by decide +kernel
theorem dX5_put_5 : decode cX5_put 5 = .ok (.aload_n 0, 1) := by decide +kernel
theorem dX5_put_6 : decode cX5_put 6 = .ok (.getfield 7, 3) := by decide +kernel
theorem dX5_put_9 : decode cX5_put 9 = .ok (.arraylength, 1) := by decide +kernel
theorem dX5_put_10 : decode cX5_put 10 = .ok (.if_icmp .ge 10, 3) := by decide +kernel
theorem dX5_put_13 : decode cX5_put 13 = .ok (.aload_n 0, 1) := by decide +kernel
theorem dX5_put_14 : decode cX5_put 14 = .ok (.getfield 7, 3) := by decide +kernel
theorem dX5_put_17 : decode cX5_put 17 = .ok (.iload_n 1, 1) := by decide +kernel
theorem dX5_put_18 : decode cX5_put 18 = .ok (.iload_n 2, 1) := by decide +kernel
theorem dX5_put_19 : decode cX5_put 19 = .ok (.iastore, 1) := by decide +kernel
theorem dX5_put_20 : decode cX5_put 20 = .ok (.return_, 1) := by decide +kernel
def rm_X5_put : Room := { frames := 0, cells := 0, slots := 0, locals := 0 }
def M_X5_put_0 (k : Nat) (nn : Nat) (p0 : Int32) (p1 : Int32) (S : Nat → Int32) : Option ((Nat → Int32)) := if p0 < 0 then (some S) else (if (nI nn) ≤ p0 then (some S) else ((if inb p0 nn = true then lt (upd S p0.toNatClampNeg p1) fun F4 => some F4 else none)))
set_option maxRecDepth 100000 in
set_option maxHeartbeats 4000000 in
theorem N_X5_put_0 (C : CX E p l s m args meth c cX5_put 3 RX5 none A) (a : Nat → Nat) (k : Nat) (nn : Nat) {post : va_W → Prop} :
    ∀ (p0 : Int32) (p1 : Int32) (S : Nat → Int32) (q : (Nat → Int32)), M_X5_put_0 k nn p0 p1 S = some q → post (wRow E a nn q) →
      WW E p l e rm_X5_put s m args below meth c A 0 0 (QV E below post args s rm_X5_put A) (wRow E a nn S) 3 [some (.ref (a 0)), some (.int p0), some (.int p1)] 0 [] := by
  intro p0 p1 S q  h hq
  unfold M_X5_put_0 at h
  refine r_iload_n (pc := 0) C (i := 1) dX5_put_0 rfl rfl ?_
  refine r_if_lt (pc := 1) C (tgt := 20) dX5_put_1 rfl (fun c1 => ?_) (fun c1 => ?_)
  · rw [if_pos c1] at h
    cases h
    exact r_vret (pc := 20) C hq (Nat.zero_le _) (Nat.zero_le _) dX5_put_20
  · rw [if_neg c1] at h
    refine r_iload_n (pc := 4) C (i := 1) dX5_put_4 rfl rfl ?_
    refine r_aload_n (pc := 5) C (i := 0) dX5_put_5 rfl rfl ?_
    refine r_get (pc := 6) C gwX5 0 rfl rfl 0 (by decide) wm_1_46 rfl dX5_put_6 ?_
    refine r_alen (pc := 9) C 1 0 rfl rfl dX5_put_9 ?_
    refine r_icmp_ge (pc := 10) C (tgt := 20) dX5_put_10 rfl (fun c2 => ?_) (fun c2 => ?_)
    · rw [if_pos c2] at h
      cases h
      exact r_vret (pc := 20) C hq (Nat.zero_le _) (Nat.zero_le _) dX5_put_20
    · rw [if_neg c2] at h
      refine r_aload_n (pc := 13) C (i := 0) dX5_put_13 rfl rfl ?_
      refine r_get (pc := 14) C gwX5 0 rfl rfl 0 (by decide) wm_1_46 rfl dX5_put_14 ?_
      refine r_iload_n (pc := 17) C (i := 1) dX5_put_17 rfl rfl ?_
      refine r_iload_n (pc := 18) C (i := 2) dX5_put_18 rfl rfl ?_
      obtain ⟨hi3, h⟩ := ifn h
      obtain ⟨F4, hF4, h⟩ := lt_e h
      refine r_iast (pc := 19) C 1 rfl hi3 (w' := (wRow E a nn F4)) (by rw [hF4]; rfl) dX5_put_19 ?_
      cases h
      exact r_vret (pc := 20) C hq (Nat.zero_le _) (Nat.zero_le _) dX5_put_20
def M_X5_put (k : Nat) (nn : Nat) (S : Nat → Int32) (p0 : Int32) (p1 : Int32) : Option ((Nat → Int32)) := M_X5_put_0 k nn p0 p1 S
set_option maxRecDepth 100000 in
set_option maxHeartbeats 4000000 in
theorem c_X5_put (E : ENV) (l : Launch) (k : Nat) (a : Nat → Nat) (nn : Nat) (S : Nat → Int32) (p0 : Int32) (p1 : Int32) {q : (Nat → Int32)} (hm : M_X5_put k nn S p0 p1 = some q) : CV E l yX5_put cX5_put 3 none rm_X5_put [.ref (a 0), .int p0, .int p1] (wRow E a nn S) (fun w' => w' = (wRow E a nn q)) :=
  CV.of 0 (by decide) (Nat.le_of_ble_eq_true rfl) (fun p e s m below meth c A C _ => r_weak (lSub_s (lSub_s (lSub_s lSub_e))) (N_X5_put_0 C a k nn p0 p1 S q  hm rfl))
-- ShardGuard$Row.closeGap(I)V
theorem dX5_closeGap_0 : decode cX5_closeGap 0 = .ok (.iload_n 1, 1) := by decide +kernel
theorem dX5_closeGap_1 : decode cX5_closeGap 1 = .ok (.ifCond .lt 36, 3) := by decide +kernel
theorem dX5_closeGap_4 : decode cX5_closeGap 4 = .ok (.iload_n 1, 1) := by decide +kernel
theorem dX5_closeGap_5 : decode cX5_closeGap 5 = .ok (.aload_n 0, 1) := by decide +kernel
theorem dX5_closeGap_6 : decode cX5_closeGap 6 = .ok (.getfield 7, 3) := by decide +kernel
theorem dX5_closeGap_9 : decode cX5_closeGap 9 = .ok (.arraylength, 1) := by decide +kernel
theorem dX5_closeGap_10 : decode cX5_closeGap 10 = .ok (.if_icmp .ge 27, 3) := by decide +kernel
theorem dX5_closeGap_13 : decode cX5_closeGap 13 = .ok (.aload_n 0, 1) := by decide +kernel
theorem dX5_closeGap_14 : decode cX5_closeGap 14 = .ok (.getfield 7, 3) := by decide +kernel
theorem dX5_closeGap_17 : decode cX5_closeGap 17 = .ok (.iload_n 1, 1) := by decide +kernel
theorem dX5_closeGap_18 : decode cX5_closeGap 18 = .ok (.iconst 1, 1) := by decide +kernel
theorem dX5_closeGap_19 : decode cX5_closeGap 19 = .ok (.iadd, 1) := by decide +kernel
theorem dX5_closeGap_20 : decode cX5_closeGap 20 = .ok (.aload_n 0, 1) := by decide +kernel
theorem dX5_closeGap_21 : decode cX5_closeGap 21 = .ok (.getfield 7, 3) := by decide +kernel
theorem dX5_closeGap_24 : decode cX5_closeGap 24 = .ok (.iload_n 1, 1) := by decide +kernel
theorem dX5_closeGap_25 : decode cX5_closeGap 25 = .ok (.aload_n 0, 1) := by decide +kernel
theorem dX5_closeGap_26 : decode cX5_closeGap 26 = .ok (.getfield 7, 3) := by decide +kernel
theorem dX5_closeGap_29 : decode cX5_closeGap 29 = .ok (.arraylength, 1) := by decide +kernel
theorem dX5_closeGap_30 : decode cX5_closeGap 30 = .ok (.iload_n 1, 1) := by decide +kernel
theorem dX5_closeGap_31 : decode cX5_closeGap 31 = .ok (.isub, 1) := by decide +kernel
theorem dX5_closeGap_32 : decode cX5_closeGap 32 = .ok (.iconst 1, 1) := by decide +kernel
theorem dX5_closeGap_33 : decode cX5_closeGap 33 = .ok (.isub, 1) := by decide +kernel
theorem dX5_closeGap_34 : decode cX5_closeGap 34 = .ok (.invokestatic 13, 3) := by decide +kernel
theorem dX5_closeGap_37 : decode cX5_closeGap 37 = .ok (.return_, 1) := by decide +kernel
def rm_X5_closeGap : Room := { frames := 1, cells := 0, slots := 0, locals := 80 }
def M_X5_closeGap_0 (k : Nat) (nn : Nat) (p0 : Int32) (S : Nat → Int32) : Option ((Nat → Int32)) := if p0 < 0 then (some S) else (if (nI nn) ≤ p0 then (some S) else ((if cpOK (p0 + (1 : Int32)) p0 (((nI nn) - p0) - (1 : Int32)) nn nn = true then lt (va_cpy S S (p0 + (1 : Int32)).toNatClampNeg p0.toNatClampNeg (((nI nn) - p0) - (1 : Int32)).toNatClampNeg) fun F3 => some F3 else none)))
set_option maxRecDepth 100000 in
set_option maxHeartbeats 4000000 in
theorem N_X5_closeGap_0 (C : CX E p l s m args meth c cX5_closeGap 2 RX5 none A) (a : Nat → Nat) (k : Nat) (nn : Nat) {post : va_W → Prop} :
    ∀ (p0 : Int32) (S : Nat → Int32) (q : (Nat → Int32)), M_X5_closeGap_0 k nn p0 S = some q → post (wRow E a nn q) →
      WW E p l e rm_X5_closeGap s m args below meth c A 0 0 (QV E below post args s rm_X5_closeGap A) (wRow E a nn S) 2 [some (.ref (a 0)), some (.int p0)] 0 [] := by
  intro p0 S q  h hq
  unfold M_X5_closeGap_0 at h
  refine r_iload_n (pc := 0) C (i := 1) dX5_closeGap_0 rfl rfl ?_
  refine r_if_lt (pc := 1) C (tgt := 37) dX5_closeGap_1 rfl (fun c1 => ?_) (fun c1 => ?_)
  · rw [if_pos c1] at h
    cases h
    exact r_vret (pc := 37) C hq (Nat.zero_le _) (Nat.zero_le _) dX5_closeGap_37
  · rw [if_neg c1] at h
    refine r_iload_n (pc := 4) C (i := 1) dX5_closeGap_4 rfl rfl ?_
    refine r_aload_n (pc := 5) C (i := 0) dX5_closeGap_5 rfl rfl ?_
    refine r_get (pc := 6) C gwX5 0 rfl rfl 0 (by decide) wm_1_46 rfl dX5_closeGap_6 ?_
    refine r_alen (pc := 9) C 1 0 rfl rfl dX5_closeGap_9 ?_
    refine r_icmp_ge (pc := 10) C (tgt := 37) dX5_closeGap_10 rfl (fun c2 => ?_) (fun c2 => ?_)
    · rw [if_pos c2] at h
      cases h
      exact r_vret (pc := 37) C hq (Nat.zero_le _) (Nat.zero_le _) dX5_closeGap_37
    · rw [if_neg c2] at h
      refine r_aload_n (pc := 13) C (i := 0) dX5_closeGap_13 rfl rfl ?_
      refine r_get (pc := 14) C gwX5 0 rfl rfl 0 (by decide) wm_1_46 rfl dX5_closeGap_14 ?_
      refine r_iload_n (pc := 17) C (i := 1) dX5_closeGap_17 rfl rfl ?_
      refine r_iconst (pc := 18) C (v := 1) dX5_closeGap_18 (by decide) ?_
      refine r_iadd (pc := 19) C dX5_closeGap_19 ?_
      refine r_aload_n (pc := 20) C (i := 0) dX5_closeGap_20 rfl rfl ?_
      refine r_get (pc := 21) C gwX5 0 rfl rfl 0 (by decide) wm_1_46 rfl dX5_closeGap_21 ?_
      refine r_iload_n (pc := 24) C (i := 1) dX5_closeGap_24 rfl rfl ?_
      refine r_aload_n (pc := 25) C (i := 0) dX5_closeGap_25 rfl rfl ?_
      refine r_get (pc := 26) C gwX5 0 rfl rfl 0 (by decide) wm_1_46 rfl dX5_closeGap_26 ?_
      refine r_alen (pc := 29) C 1 0 rfl rfl dX5_closeGap_29 ?_
      refine r_iload_n (pc := 30) C (i := 1) dX5_closeGap_30 rfl rfl ?_
      refine r_isub (pc := 31) C dX5_closeGap_31 ?_
      refine r_iconst (pc := 32) C (v := 1) dX5_closeGap_32 (by decide) ?_
      refine r_isub (pc := 33) C dX5_closeGap_33 ?_
      obtain ⟨hi4, h⟩ := ifn h
      obtain ⟨F3, hF3, h⟩ := lt_e h
      obtain ⟨hi4a, hi4b, hi4c, hi4d, hi4e⟩ := cpOK_e hi4
      refine r_copyi (pc := 34) C wm_2_103 wm_2_105 wm_2_104 wm_1_20 1 1 rfl rfl hi4a hi4b hi4c hi4d hi4e ⟨Nat.le_of_ble_eq_true rfl, Nat.le_of_ble_eq_true rfl⟩ (Nat.le_of_ble_eq_true rfl) (w' := (wRow E a nn F3)) (by rw [hF3]; rfl) dX5_closeGap_34 ?_
      cases h
      exact r_vret (pc := 37) C hq (Nat.zero_le _) (Nat.zero_le _) dX5_closeGap_37
def M_X5_closeGap (k : Nat) (nn : Nat) (S : Nat → Int32) (p0 : Int32) : Option ((Nat → Int32)) := M_X5_closeGap_0 k nn p0 S
set_option maxRecDepth 100000 in
set_option maxHeartbeats 4000000 in
theorem c_X5_closeGap (E : ENV) (l : Launch) (k : Nat) (a : Nat → Nat) (nn : Nat) (S : Nat → Int32) (p0 : Int32) {q : (Nat → Int32)} (hm : M_X5_closeGap k nn S p0 = some q) : CV E l yX5_closeGap cX5_closeGap 2 none rm_X5_closeGap [.ref (a 0), .int p0] (wRow E a nn S) (fun w' => w' = (wRow E a nn q)) :=
  CV.of 0 (by decide) (Nat.le_of_ble_eq_true rfl) (fun p e s m below meth c A C _ => r_weak (lSub_s (lSub_s lSub_e)) (N_X5_closeGap_0 C a k nn p0 S q  hm rfl))
-- ShardGuard$Row.copyFrom(LShardGuard$Row;)V
theorem dX5_copyFrom_0 : decode cX5_copyFrom 0 = .ok (.aload_n 1, 1) := by decide +kernel
theorem dX5_copyFrom_1 : decode cX5_copyFrom 1 = .ok (.getfield 7, 3) := by decide +kernel
theorem dX5_copyFrom_4 : decode cX5_copyFrom 4 = .ok (.iconst 0, 1) := by decide +kernel
theorem dX5_copyFrom_5 : decode cX5_copyFrom 5 = .ok (.aload_n 0, 1) := by decide +kernel
theorem dX5_copyFrom_6 : decode cX5_copyFrom 6 = .ok (.getfield 7, 3) := by decide +kernel
theorem dX5_copyFrom_9 : decode cX5_copyFrom 9 = .ok (.iconst 0, 1) := by decide +kernel
theorem dX5_copyFrom_10 : decode cX5_copyFrom 10 = .ok (.aload_n 0, 1) := by decide +kernel
theorem dX5_copyFrom_11 : decode cX5_copyFrom 11 = .ok (.getfield 7, 3) := by decide +kernel
theorem dX5_copyFrom_14 : decode cX5_copyFrom 14 = .ok (.arraylength, 1) := by decide +kernel
theorem dX5_copyFrom_15 : decode cX5_copyFrom 15 = .ok (.aload_n 1, 1) := by decide +kernel
theorem dX5_copyFrom_16 : decode cX5_copyFrom 16 = .ok (.getfield 7, 3) := by decide +kernel
theorem dX5_copyFrom_19 : decode cX5_copyFrom 19 = .ok (.arraylength, 1) := by decide +kernel
theorem dX5_copyFrom_20 : decode cX5_copyFrom 20 = .ok (.invokestatic 19, 3) := by decide +kernel
theorem dX5_copyFrom_23 : decode cX5_copyFrom 23 = .ok (.invokestatic 13, 3) := by decide +kernel
theorem dX5_copyFrom_26 : decode cX5_copyFrom 26 = .ok (.return_, 1) := by decide +kernel
def rm_X5_copyFrom : Room := { frames := 1, cells := 0, slots := 0, locals := 80 }
def M_X5_copyFrom_0 (k : Nat) (nn : Nat) (nn1 : Nat) (T : Nat → Int32) (S : Nat → Int32) : Option ((Nat → Int32)) := (if cpOK (0 : Int32) (0 : Int32) (if (nI nn1) < (nI nn) then (nI nn1) else (nI nn)) nn1 nn = true then lt (va_cpy T S (0 : Int32).toNatClampNeg (0 : Int32).toNatClampNeg (if (nI nn1) < (nI nn) then (nI nn1) else (nI nn)).toNatClampNeg) fun F1 => some F1 else none)
set_option maxRecDepth 100000 in
set_option maxHeartbeats 4000000 in
theorem N_X5_copyFrom_0 (C : CX E p l s m args meth c cX5_copyFrom 2 RX5 none A) (a : Nat → Nat) (b : Nat → Nat) (k : Nat) (nn : Nat) (nn1 : Nat) (T : Nat → Int32) {post : va_W → Prop} :
    ∀ (S : Nat → Int32) (q : (Nat → Int32)), M_X5_copyFrom_0 k nn nn1 T S = some q → post (wRow E a nn q ++ wRow E b nn1 T) →
      WW E p l e rm_X5_copyFrom s m args below meth c A 0 0 (QV E below post args s rm_X5_copyFrom A) (wRow E a nn S ++ wRow E b nn1 T) 2 [some (.ref (a 0)), some (.ref (b 0))] 0 [] := by
  intro S q  h hq
  unfold M_X5_copyFrom_0 at h
  refine r_aload_n (pc := 0) C (i := 1) dX5_copyFrom_0 rfl rfl ?_
  refine r_get (pc := 1) C gwX5 2 rfl rfl 0 (by decide) wm_1_46 rfl dX5_copyFrom_1 ?_
  refine r_iconst (pc := 4) C (v := 0) dX5_copyFrom_4 (by decide) ?_
  refine r_aload_n (pc := 5) C (i := 0) dX5_copyFrom_5 rfl rfl ?_
  refine r_get (pc := 6) C gwX5 0 rfl rfl 0 (by decide) wm_1_46 rfl dX5_copyFrom_6 ?_
  refine r_iconst (pc := 9) C (v := 0) dX5_copyFrom_9 (by decide) ?_
  refine r_aload_n (pc := 10) C (i := 0) dX5_copyFrom_10 rfl rfl ?_
  refine r_get (pc := 11) C gwX5 0 rfl rfl 0 (by decide) wm_1_46 rfl dX5_copyFrom_11 ?_
  refine r_alen (pc := 14) C 1 0 rfl rfl dX5_copyFrom_14 ?_
  refine r_aload_n (pc := 15) C (i := 1) dX5_copyFrom_15 rfl rfl ?_
  refine r_get (pc := 16) C gwX5 2 rfl rfl 0 (by decide) wm_1_46 rfl dX5_copyFrom_16 ?_
  refine r_alen (pc := 19) C 3 0 rfl rfl dX5_copyFrom_19 ?_
  refine r_mmin (pc := 20) C wm_2_100 wm_2_101 wm_1_14 wm_2_102 ⟨Nat.le_of_ble_eq_true rfl, Nat.le_of_ble_eq_true rfl, Nat.zero_le _, Nat.zero_le _⟩ (Nat.le_of_ble_eq_true rfl) dX5_copyFrom_20 ?_
  obtain ⟨hi2, h⟩ := ifn h
  obtain ⟨F1, hF1, h⟩ := lt_e h
  obtain ⟨hi2a, hi2b, hi2c, hi2d, hi2e⟩ := cpOK_e hi2
  refine r_copyi (pc := 23) C wm_2_103 wm_2_105 wm_2_104 wm_1_20 3 1 rfl rfl hi2a hi2b hi2c hi2d hi2e ⟨Nat.le_of_ble_eq_true rfl, Nat.le_of_ble_eq_true rfl⟩ (Nat.le_of_ble_eq_true rfl) (w' := (wRow E a nn F1 ++ wRow E b nn1 T)) (by rw [hF1]; rfl) dX5_copyFrom_23 ?_
  cases h
  exact r_vret (pc := 26) C hq (Nat.zero_le _) (Nat.zero_le _) dX5_copyFrom_26
def M_X5_copyFrom (k : Nat) (nn : Nat) (nn1 : Nat) (S : Nat → Int32) (T : Nat → Int32) : Option ((Nat → Int32)) := M_X5_copyFrom_0 k nn nn1 T S
set_option maxRecDepth 100000 in
set_option maxHeartbeats 4000000 in
theorem c_X5_copyFrom (E : ENV) (l : Launch) (k : Nat) (a : Nat → Nat) (b : Nat → Nat) (nn : Nat) (nn1 : Nat) (S : Nat → Int32) (T : Nat → Int32) {q : (Nat → Int32)} (hm : M_X5_copyFrom k nn nn1 S T = some q) : CV E l yX5_copyFrom cX5_copyFrom 2 none rm_X5_copyFrom [.ref (a 0), .ref (b 0)] (wRow E a nn S ++ wRow E b nn1 T) (fun w' => w' = (wRow E a nn q ++ wRow E b nn1 T)) :=
  CV.of 0 (by decide) (Nat.le_of_ble_eq_true rfl) (fun p e s m below meth c A C _ => r_weak (lSub_s (lSub_s lSub_e)) (N_X5_copyFrom_0 C a b k nn nn1 T S q  hm rfl))
-- ShardGuard$Table.at(II)I
theorem dX6_at_0 : decode cX6_at 0 = .ok (.iload_n 1, 1) := by decide +kernel
theorem dX6_at_1 : decode cX6_at 1 = .ok (.aload_n 0, 1) := by decide +kernel
theorem dX6_at_2 : decode cX6_at 2 = .ok (.getfield 13, 3) := by decide +kernel
theorem dX6_at_5 : decode cX6_at 5 = .ok (.imul, 1) := by decide +kernel
theorem dX6_at_6 : decode cX6_at 6 = .ok (.iload_n 2, 1) := by decide +kernel
theorem dX6_at_7 : decode cX6_at 7 = .ok (.iadd, 1) := by decide +kernel
theorem dX6_at_8 : decode cX6_at 8 = .ok (.istore_n 3, 1) := by decide +kernel
theorem dX6_at_9 : decode cX6_at 9 = .ok (.iload_n 1, 1) := by decide +kernel
theorem dX6_at_10 : decode cX6_at 10 = .ok (.ifCond .lt 27, 3) := by decide +kernel
theorem dX6_at_13 : decode cX6_at 13 = .ok (.iload_n 1, 1) := by decide +kernel
theorem dX6_at_14 : decode cX6_at 14 = .ok (.aload_n 0, 1) := by decide +kernel
theorem dX6_at_15 : decode cX6_at 15 = .ok (.getfield 7, 3) := by decide +kernel
theorem dX6_at_18 : decode cX6_at 18 = .ok (.if_icmp .ge 19, 3) := by decide +kernel
theorem dX6_at_21 : decode cX6_at 21 = .ok (.iload_n 2, 1) := by decide +kernel
theorem dX6_at_22 : decode cX6_at 22 = .ok (.ifCond .lt 15, 3) := by decide +kernel
theorem dX6_at_25 : decode cX6_at 25 = .ok (.iload_n 2, 1) := by decide +kernel
theorem dX6_at_26 : decode cX6_at 26 = .ok (.aload_n 0, 1) := by decide +kernel
theorem dX6_at_27 : decode cX6_at 27 = .ok (.getfield 13, 3) := by decide +kernel
theorem dX6_at_30 : decode cX6_at 30 = .ok (.if_icmp .ge 7, 3) := by decide +kernel
theorem dX6_at_33 : decode cX6_at 33 = .ok (.iconst 1, 1) := by decide +kernel
theorem dX6_at_34 : decode cX6_at 34 = .ok (.goto 4, 3) := by decide +kernel
theorem dX6_at_37 : decode cX6_at 37 = .ok (.iconst 0, 1) := by decide +kernel
theorem dX6_at_38 : decode cX6_at 38 = .ok (.istore 4, 2) := by decide +kernel
theorem dX6_at_40 : decode cX6_at 40 = .ok (.iload 4, 2) := by decide +kernel
theorem dX6_at_42 : decode cX6_at 42 = .ok (.ifCond .eq 25, 3) := by decide +kernel
theorem dX6_at_45 : decode cX6_at 45 = .ok (.iload_n 3, 1) := by decide +kernel
theorem dX6_at_46 : decode cX6_at 46 = .ok (.ifCond .lt 21, 3) := by decide +kernel
theorem dX6_at_49 : decode cX6_at 49 = .ok (.iload_n 3, 1) := by decide +kernel
theorem dX6_at_50 : decode cX6_at 50 = .ok (.aload_n 0, 1) := by decide +kernel
theorem dX6_at_51 : decode cX6_at 51 = .ok (.getfield 16, 3) := by decide +kernel
theorem dX6_at_54 : decode cX6_at 54 = .ok (.arraylength, 1) := by decide +kernel
theorem dX6_at_55 : decode cX6_at 55 = .ok (.if_icmp .ge 12, 3) := by decide +kernel
theorem dX6_at_58 : decode cX6_at 58 = .ok (.aload_n 0, 1) := by decide +kernel
theorem dX6_at_59 : decode cX6_at 59 = .ok (.getfield 16, 3) := by decide +kernel
theorem dX6_at_62 : decode cX6_at 62 = .ok (.iload_n 3, 1) := by decide +kernel
theorem dX6_at_63 : decode cX6_at 63 = .ok (.iaload, 1) := by decide +kernel
theorem dX6_at_64 : decode cX6_at 64 = .ok (.goto 4, 3) := by decide +kernel
theorem dX6_at_67 : decode cX6_at 67 = .ok (.iconst 0, 1) := by decide +kernel
theorem dX6_at_68 : decode cX6_at 68 = .ok (.ireturn, 1) := by decide +kernel
def rm_X6_at : Room := { frames := 0, cells := 0, slots := 0, locals := 0 }
def M_X6_at_38 (k : Nat) (rr : Int32) (rc : Int32) (nn : Nat) (S : Nat → Int32) (x3 : Int32) (y0 : Int32) : Option (Int32) := if y0 = 0 then (some (0 : Int32)) else (if x3 < 0 then (some (0 : Int32)) else (if (nI nn) ≤ x3 then (some (0 : Int32)) else ((if inb x3 nn = true then some (S x3.toNatClampNeg) else none))))
set_option maxRecDepth 100000 in
set_option maxHeartbeats 4000000 in
theorem N_X6_at_38 (C : CX E p l s m args meth c cX6_at 5 RX6 (some .int) A) (a : Nat → Nat) (k : Nat) (rr : Int32) (rc : Int32) (nn : Nat) (S : Nat → Int32) {post : Int32 → va_W → Prop} :
    ∀ (x3 : Int32) (y0 : Int32) (q : Int32), M_X6_at_38 k rr rc nn S x3 y0 = some q → post q (wTab E a rr rc nn S) →
      WW E p l e rm_X6_at s m args below meth c A 0 0 (QI E below post args s rm_X6_at A) (wTab E a rr rc nn S) 5 [some (.ref (a 0)), none, none, some (.int x3), none] 38 [.int y0] := by
  intro x3 y0 q  h hq
  unfold M_X6_at_38 at h
  refine r_istore (pc := 38) C (i := 4) dX6_at_38 (by decide) rfl ?_
  refine r_iload (pc := 40) C (i := 4) dX6_at_40 rfl ?_
  refine r_if_eq (pc := 42) C (tgt := 67) dX6_at_42 rfl (fun c1 => ?_) (fun c1 => ?_)
  · rw [if_pos c1] at h
    refine r_iconst (pc := 67) C (v := 0) dX6_at_67 (by decide) ?_
    cases h
    exact r_ireti (pc := 68) C hq (Nat.zero_le _) (Nat.zero_le _) dX6_at_68
  · rw [if_neg c1] at h
    refine r_iload_n (pc := 45) C (i := 3) dX6_at_45 rfl rfl ?_
    refine r_if_lt (pc := 46) C (tgt := 67) dX6_at_46 rfl (fun c2 => ?_) (fun c2 => ?_)
    · rw [if_pos c2] at h
      refine r_iconst (pc := 67) C (v := 0) dX6_at_67 (by decide) ?_
      cases h
      exact r_ireti (pc := 68) C hq (Nat.zero_le _) (Nat.zero_le _) dX6_at_68
    · rw [if_neg c2] at h
      refine r_iload_n (pc := 49) C (i := 3) dX6_at_49 rfl rfl ?_
      refine r_aload_n (pc := 50) C (i := 0) dX6_at_50 rfl rfl ?_
      refine r_get (pc := 51) C gwX6 0 rfl rfl 2 (by decide) wm_1_59 rfl dX6_at_51 ?_
      refine r_alen (pc := 54) C 1 0 rfl rfl dX6_at_54 ?_
      refine r_icmp_ge (pc := 55) C (tgt := 67) dX6_at_55 rfl (fun c3 => ?_) (fun c3 => ?_)
      · rw [if_pos c3] at h
        refine r_iconst (pc := 67) C (v := 0) dX6_at_67 (by decide) ?_
        cases h
        exact r_ireti (pc := 68) C hq (Nat.zero_le _) (Nat.zero_le _) dX6_at_68
      · rw [if_neg c3] at h
        refine r_aload_n (pc := 58) C (i := 0) dX6_at_58 rfl rfl ?_
        refine r_get (pc := 59) C gwX6 0 rfl rfl 2 (by decide) wm_1_59 rfl dX6_at_59 ?_
        refine r_iload_n (pc := 62) C (i := 3) dX6_at_62 rfl rfl ?_
        obtain ⟨hi4, h⟩ := ifn h
        refine r_iald (pc := 63) C 1 rfl hi4 dX6_at_63 ?_
        refine r_goto (pc := 64) C (tgt := 68) dX6_at_64 rfl ?_
        cases h
        exact r_ireti (pc := 68) C hq (Nat.zero_le _) (Nat.zero_le _) dX6_at_68
def M_X6_at_0 (k : Nat) (rr : Int32) (rc : Int32) (nn : Nat) (S : Nat → Int32) (p0 : Int32) (p1 : Int32) : Option (Int32) := lt ((p0 * rc) + p1) fun v5 => if p0 < 0 then (M_X6_at_38 k rr rc nn S v5 (0 : Int32)) else (if rr ≤ p0 then (M_X6_at_38 k rr rc nn S v5 (0 : Int32)) else (if p1 < 0 then (M_X6_at_38 k rr rc nn S v5 (0 : Int32)) else (if rc ≤ p1 then (M_X6_at_38 k rr rc nn S v5 (0 : Int32)) else (M_X6_at_38 k rr rc nn S v5 (1 : Int32)))))
set_option maxRecDepth 100000 in
set_option maxHeartbeats 4000000 in
theorem N_X6_at_0 (C : CX E p l s m args meth c cX6_at 5 RX6 (some .int) A) (a : Nat → Nat) (k : Nat) (rr : Int32) (rc : Int32) (nn : Nat) (S : Nat → Int32) {post : Int32 → va_W → Prop} :
    ∀ (p0 : Int32) (p1 : Int32) (q : Int32), M_X6_at_0 k rr rc nn S p0 p1 = some q → post q (wTab E a rr rc nn S) →
      WW E p l e rm_X6_at s m args below meth c A 0 0 (QI E below post args s rm_X6_at A) (wTab E a rr rc nn S) 5 [some (.ref (a 0)), some (.int p0), some (.int p1), none, none] 0 [] := by
  intro p0 p1 q  h hq
  unfold M_X6_at_0 at h
  refine r_iload_n (pc := 0) C (i := 1) dX6_at_0 rfl rfl ?_
  refine r_aload_n (pc := 1) C (i := 0) dX6_at_1 rfl rfl ?_
  refine r_get (pc := 2) C gwX6 0 rfl rfl 1 (by decide) wm_1_58 rfl dX6_at_2 ?_
  refine r_imul (pc := 5) C dX6_at_5 ?_
  refine r_iload_n (pc := 6) C (i := 2) dX6_at_6 rfl rfl ?_
  refine r_iadd (pc := 7) C dX6_at_7 ?_
  obtain ⟨v5, hv5, h⟩ := lt_e h
  refine r_topi hv5 ?_
  refine r_istore_n (pc := 8) C (i := 3) dX6_at_8 rfl (by decide) rfl ?_
  refine r_iload_n (pc := 9) C (i := 1) dX6_at_9 rfl rfl ?_
  refine r_if_lt (pc := 10) C (tgt := 37) dX6_at_10 rfl (fun c6 => ?_) (fun c6 => ?_)
  · rw [if_pos c6] at h
    refine r_iconst (pc := 37) C (v := 0) dX6_at_37 (by decide) ?_
    refine r_weak (lSub_s (lSub_n (lSub_n (lSub_s (lSub_n lSub_e))))) ?_
    exact N_X6_at_38 C a k rr rc nn S v5 (0 : Int32) q  h hq
  · rw [if_neg c6] at h
    refine r_iload_n (pc := 13) C (i := 1) dX6_at_13 rfl rfl ?_
    refine r_aload_n (pc := 14) C (i := 0) dX6_at_14 rfl rfl ?_
    refine r_get (pc := 15) C gwX6 0 rfl rfl 0 (by decide) wm_1_57 rfl dX6_at_15 ?_
    refine r_icmp_ge (pc := 18) C (tgt := 37) dX6_at_18 rfl (fun c7 => ?_) (fun c7 => ?_)
    · rw [if_pos c7] at h
      refine r_iconst (pc := 37) C (v := 0) dX6_at_37 (by decide) ?_
      refine r_weak (lSub_s (lSub_n (lSub_n (lSub_s (lSub_n lSub_e))))) ?_
      exact N_X6_at_38 C a k rr rc nn S v5 (0 : Int32) q  h hq
    · rw [if_neg c7] at h
      refine r_iload_n (pc := 21) C (i := 2) dX6_at_21 rfl rfl ?_
      refine r_if_lt (pc := 22) C (tgt := 37) dX6_at_22 rfl (fun c8 => ?_) (fun c8 => ?_)
      · rw [if_pos c8] at h
        refine r_iconst (pc := 37) C (v := 0) dX6_at_37 (by decide) ?_
        refine r_weak (lSub_s (lSub_n (lSub_n (lSub_s (lSub_n lSub_e))))) ?_
        exact N_X6_at_38 C a k rr rc nn S v5 (0 : Int32) q  h hq
      · rw [if_neg c8] at h
        refine r_iload_n (pc := 25) C (i := 2) dX6_at_25 rfl rfl ?_
        refine r_aload_n (pc := 26) C (i := 0) dX6_at_26 rfl rfl ?_
        refine r_get (pc := 27) C gwX6 0 rfl rfl 1 (by decide) wm_1_58 rfl dX6_at_27 ?_
        refine r_icmp_ge (pc := 30) C (tgt := 37) dX6_at_30 rfl (fun c9 => ?_) (fun c9 => ?_)
        · rw [if_pos c9] at h
          refine r_iconst (pc := 37) C (v := 0) dX6_at_37 (by decide) ?_
          refine r_weak (lSub_s (lSub_n (lSub_n (lSub_s (lSub_n lSub_e))))) ?_
          exact N_X6_at_38 C a k rr rc nn S v5 (0 : Int32) q  h hq
        · rw [if_neg c9] at h
          refine r_iconst (pc := 33) C (v := 1) dX6_at_33 (by decide) ?_
          refine r_goto (pc := 34) C (tgt := 38) dX6_at_34 rfl ?_
          refine r_weak (lSub_s (lSub_n (lSub_n (lSub_s (lSub_n lSub_e))))) ?_
          exact N_X6_at_38 C a k rr rc nn S v5 (1 : Int32) q  h hq
def M_X6_at (k : Nat) (rr : Int32) (rc : Int32) (nn : Nat) (S : Nat → Int32) (p0 : Int32) (p1 : Int32) : Option (Int32) := M_X6_at_0 k rr rc nn S p0 p1
set_option maxRecDepth 100000 in
set_option maxHeartbeats 4000000 in
theorem c_X6_at (E : ENV) (l : Launch) (k : Nat) (a : Nat → Nat) (rr : Int32) (rc : Int32) (nn : Nat) (S : Nat → Int32) (p0 : Int32) (p1 : Int32) {q : Int32} (hm : M_X6_at k rr rc nn S p0 p1 = some q) : CI E l yX6_at cX6_at 5 (some .int) rm_X6_at [.ref (a 0), .int p0, .int p1] (wTab E a rr rc nn S) (fun r w' => r = q ∧ w' = (wTab E a rr rc nn S)) :=
  CI.of 2 (by decide) (Nat.le_of_ble_eq_true rfl) (fun p e s m below meth c A C _ => r_weak (lSub_s (lSub_s (lSub_s (lSub_n (lSub_n lSub_e))))) (N_X6_at_0 C a k rr rc nn S p0 p1 q  hm ⟨rfl, rfl⟩))
end WALKS
