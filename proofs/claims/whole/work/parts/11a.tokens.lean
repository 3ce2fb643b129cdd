section WALKS
variable {E : ENV} {p : Program} {l : Launch} {e : Env} {s : State} {m : MethodId} {args : Array Value} {below : List Frame} {meth : Method} {c : Code} {A : Nat → Prop}
theorem g_X7_45 : GoodIn GW (wsV RX7 45 RX5 yX5_put (wsG yX5_put cX5_put 3 none)) := gw_V wm_2_45 wm_1_234 wm_1_235 wm_1_3 wm_1_236
-- ShardGuard$Tokens.append(I)V
theorem dX7_append_0 : decode cX7_append 0 = .ok (.bipush 24, 2) := by decide +kernel
theorem dX7_append_2 : decode cX7_append 2 = .ok (.istore_n 2, 1) := by decide +kernel
theorem dX7_append_3 : decode cX7_append 3 = .ok (.iload_n 2, 1) := by decide +kernel
theorem dX7_append_4 : decode cX7_append 4 = .ok (.ifCond .lt 37, 3) := by decide +kernel
theorem dX7_append_7 : decode cX7_append 7 = .ok (.aload_n 0, 1) := by decide +kernel
theorem dX7_append_8 : decode cX7_append 8 = .ok (.getfield 26, 3) := by decide +kernel
theorem dX7_append_11 : decode cX7_append 11 = .ok (.aload_n 0, 1) := by decide +kernel
theorem dX7_append_12 : decode cX7_append 12 = .ok (.getfield 9, 3) := by decide +kernel
theorem dX7_append_15 : decode cX7_append 15 = .ok (.iload_n 1, 1) := by decide +kernel
theorem dX7_append_16 : decode cX7_append 16 = .ok (.iload_n 2, 1) := by decide +kernel
theorem dX7_append_17 : decode cX7_append 17 = .ok (.iushr, 1) := by decide +kernel
theorem dX7_append_18 : decode cX7_append 18 = .ok (.sipush 255, 3) := by decide +kernel
theorem dX7_append_21 : decode cX7_append 21 = .ok (.iand, 1) := by decide +kernel
theorem dX7_append_22 : decode cX7_append 22 = .ok (.invokevirtual 45, 3) := by decide +kernel
theorem dX7_append_25 : decode cX7_append 25 = .ok (.aload_n 0, 1) := by decide +kernel
theorem dX7_append_26 : decode cX7_append 26 = .ok (.dup, 1) := by decide +kernel
theorem dX7_append_27 : decode cX7_append 27 = .ok (.getfield 9, 3) := by decide +kernel
theorem dX7_append_30 : decode cX7_append 30 = .ok (.iconst 1, 1) := by decide +kernel
theorem dX7_append_31 : decode cX7_append 31 = .ok (.iadd, 1) := by decide +kernel
theorem dX7_append_32 : decode cX7_append 32 = .ok (.putfield 9, 3) := by decide +kernel
theorem dX7_append_35 : decode cX7_append 35 = .ok (.iinc 2 (-8), 3) := by decide +kernel
theorem dX7_append_38 : decode cX7_append 38 = .ok (.goto (-35), 3) := by decide +kernel
theorem dX7_append_41 : decode cX7_append 41 = .ok (.return_, 1) := by decide +kernel
def rm_X7_append : Room := { frames := 1, cells := 0, slots := 0, locals := 22 }
def M_X7_append_3 (k : Nat) : Nat → (Int32) → (Int32) → (Nat → Nat → Int32) → Option ((Nat → Nat → Int32))
  | 0, _, _, _ => none
  | n + 1, x1, x2, S => if x2 < 0 then (some S) else ((M_X5_put k 700 (S 1) (S 0 0) ((((x1.toUInt32 >>> (x2.toUInt32 &&& Int32.toUInt32 31)).toInt32)) &&& (255 : Int32))).bind fun q2 => lt (va_up S 1 q2) fun F3 => lt (va_up F3 0 (upd (F3 0) 0 ((F3 0 0) + (1 : Int32)))) fun F4 => M_X7_append_3 k n x1 (x2 + (-8)) F4)
theorem M_X7_append_3_s (k : Nat) (n : Nat) (x1 : Int32) (x2 : Int32) (S : Nat → Nat → Int32) : M_X7_append_3 k (n + 1) x1 x2 S = (if x2 < 0 then (some S) else ((M_X5_put k 700 (S 1) (S 0 0) ((((x1.toUInt32 >>> (x2.toUInt32 &&& Int32.toUInt32 31)).toInt32)) &&& (255 : Int32))).bind fun q2 => lt (va_up S 1 q2) fun F3 => lt (va_up F3 0 (upd (F3 0) 0 ((F3 0 0) + (1 : Int32)))) fun F4 => M_X7_append_3 k n x1 (x2 + (-8)) F4)) := rfl
set_option maxRecDepth 100000 in
set_option maxHeartbeats 4000000 in
theorem N_X7_append_3 (C : CX E p l s m args meth c cX7_append 3 RX7 none A) (a : Nat → Nat) (k : Nat) {post : va_W → Prop} :
    ∀ (n : Nat) (x1 : Int32) (x2 : Int32) (S : Nat → Nat → Int32) (q : (Nat → Nat → Int32)), M_X7_append_3 k n x1 x2 S = some q → post (wTk E a q) →
      WW E p l e rm_X7_append s m args below meth c A 0 0 (QV E below post args s rm_X7_append A) (wTk E a S) 3 [some (.ref (a 0)), some (.int x1), some (.int x2)] 3 [] := by
  intro n
  induction n with
  | zero => intro x1 x2 S q  h _; cases h
  | succ n ih =>
    intro x1 x2 S q  h hq
    rw [M_X7_append_3_s] at h
    refine r_iload_n (pc := 3) C (i := 2) dX7_append_3 rfl rfl ?_
    refine r_if_lt (pc := 4) C (tgt := 41) dX7_append_4 rfl (fun c1 => ?_) (fun c1 => ?_)
    · rw [if_pos c1] at h
      cases h
      exact r_vret (pc := 41) C hq (Nat.zero_le _) (Nat.zero_le _) dX7_append_41
    · rw [if_neg c1] at h
      refine r_aload_n (pc := 7) C (i := 0) dX7_append_7 rfl rfl ?_
      refine r_get (pc := 8) C gwX7 0 rfl rfl 3 (by decide) wm_1_183 rfl dX7_append_8 ?_
      refine r_aload_n (pc := 11) C (i := 0) dX7_append_11 rfl rfl ?_
      refine r_get (pc := 12) C gwX7 0 rfl rfl 0 (by decide) wm_1_177 rfl dX7_append_12 ?_
      refine r_iload_n (pc := 15) C (i := 1) dX7_append_15 rfl rfl ?_
      refine r_iload_n (pc := 16) C (i := 2) dX7_append_16 rfl rfl ?_
      refine r_iushr (pc := 17) C dX7_append_17 ?_
      refine r_sipush (pc := 18) C (v := 255) dX7_append_18 (by decide) ?_
      refine r_iand (pc := 21) C dX7_append_21 ?_
      obtain ⟨q2, hq2, h⟩ := bnd h
      obtain ⟨F3, hF3, h⟩ := lt_e h
      refine r_callV_CV (Cn := RX5) (pc := 22) C [.int (S 0 0), .int ((((x1.toUInt32 >>> (x2.toUInt32 &&& Int32.toUInt32 31)).toInt32)) &&& (255 : Int32))] (c_X5_put E l k (fun i => a (i + 1)) 700 (S 1) (S 0 0) ((((x1.toUInt32 >>> (x2.toUInt32 &&& Int32.toUInt32 31)).toInt32)) &&& (255 : Int32)) hq2) [1, 2] rfl (by decide) 0 rfl rfl rfl g_X7_45 hd_X5_put ⟨Nat.le_of_ble_eq_true rfl, Nat.le_of_ble_eq_true rfl⟩ ⟨Nat.zero_le _, Nat.zero_le _⟩ (Nat.le_of_ble_eq_true rfl) rfl dX7_append_22 (fun w1 hw1 => ?_)
      subst hw1
      refine ⟨(wTk E a F3), by rw [hF3]; rfl, ?_⟩
      refine r_aload_n (pc := 25) C (i := 0) dX7_append_25 rfl rfl ?_
      refine r_dup (pc := 26) C dX7_append_26 rfl ?_
      refine r_get (pc := 27) C gwX7 0 rfl rfl 0 (by decide) wm_1_177 rfl dX7_append_27 ?_
      refine r_iconst (pc := 30) C (v := 1) dX7_append_30 (by decide) ?_
      refine r_iadd (pc := 31) C dX7_append_31 ?_
      obtain ⟨F4, hF4, h⟩ := lt_e h
      refine r_put (pc := 32) C gwX7 tyX7 tyX7_ok nmX7 0 rfl rfl 0 (by decide) wm_1_177 rfl rfl rfl rfl (Nat.le_of_ble_eq_true rfl) (w' := (wTk E a F4)) (by rw [hF4]; rfl) dX7_append_32 ?_
      refine r_iinc (pc := 35) C (v := (x2 + (-8))) dX7_append_35 rfl rfl (by decide) rfl ?_
      refine r_goto (pc := 38) C (tgt := 3) dX7_append_38 rfl ?_
      refine r_weak (lSub_s (lSub_s (lSub_s lSub_e))) ?_
      exact ih x1 (x2 + (-8)) F4 q  h hq
def M_X7_append_0 (k : Nat) (p0 : Int32) (S : Nat → Nat → Int32) : Option ((Nat → Nat → Int32)) := M_X7_append_3 k k p0 (24 : Int32) S
set_option maxRecDepth 100000 in
set_option maxHeartbeats 4000000 in
theorem N_X7_append_0 (C : CX E p l s m args meth c cX7_append 3 RX7 none A) (a : Nat → Nat) (k : Nat) {post : va_W → Prop} :
    ∀ (p0 : Int32) (S : Nat → Nat → Int32) (q : (Nat → Nat → Int32)), M_X7_append_0 k p0 S = some q → post (wTk E a q) →
      WW E p l e rm_X7_append s m args below meth c A 0 0 (QV E below post args s rm_X7_append A) (wTk E a S) 3 [some (.ref (a 0)), some (.int p0), none] 0 [] := by
  intro p0 S q  h hq
  unfold M_X7_append_0 at h
  refine r_bipush (pc := 0) C (v := 24) dX7_append_0 (by decide) ?_
  refine r_istore_n (pc := 2) C (i := 2) dX7_append_2 rfl (by decide) rfl ?_
  refine r_weak (lSub_s (lSub_s (lSub_s lSub_e))) ?_
  exact N_X7_append_3 C a k k p0 (24 : Int32) S q  h hq
def M_X7_append (k : Nat) (S : Nat → Nat → Int32) (p0 : Int32) : Option ((Nat → Nat → Int32)) := M_X7_append_0 k p0 S
set_option maxRecDepth 100000 in
set_option maxHeartbeats 4000000 in
theorem c_X7_append (E : ENV) (l : Launch) (k : Nat) (a : Nat → Nat) (S : Nat → Nat → Int32) (p0 : Int32) {q : (Nat → Nat → Int32)} (hm : M_X7_append k S p0 = some q) : CV E l yX7_append cX7_append 3 none rm_X7_append [.ref (a 0), .int p0] (wTk E a S) (fun w' => w' = (wTk E a q)) :=
  CV.of 1 (by decide) (Nat.le_of_ble_eq_true rfl) (fun p e s m below meth c A C _ => r_weak (lSub_s (lSub_s (lSub_n lSub_e))) (N_X7_append_0 C a k p0 S q  hm rfl))
-- ShardGuard$Tokens.isGood()Z
theorem dX7_isGood_0 : decode cX7_isGood 0 = .ok (.aload_n 0, 1) := by decide +kernel
theorem dX7_isGood_1 : decode cX7_isGood 1 = .ok (.getfield 15, 3) := by decide +kernel
theorem dX7_isGood_4 : decode cX7_isGood 4 = .ok (.ifCond .ne 7, 3) := by decide +kernel
theorem dX7_isGood_7 : decode cX7_isGood 7 = .ok (.iconst 1, 1) := by decide +kernel
theorem dX7_isGood_8 : decode cX7_isGood 8 = .ok (.goto 4, 3) := by decide +kernel
theorem dX7_isGood_11 : decode cX7_isGood 11 = .ok (.iconst 0, 1) := by decide +kernel
theorem dX7_isGood_12 : decode cX7_isGood 12 = .ok (.ireturn, 1) := by decide +kernel
def rm_X7_isGood : Room := { frames := 0, cells := 0, slots := 0, locals := 0 }
def M_X7_isGood_0 (k : Nat) (S : Nat → Nat → Int32) : Option (Int32) := if (S 0 1) = 0 then (some (1 : Int32)) else (some (0 : Int32))
set_option maxRecDepth 100000 in
set_option maxHeartbeats 4000000 in
theorem N_X7_isGood_0 (C : CX E p l s m args meth c cX7_isGood 1 RX7 (some .boolean) A) (a : Nat → Nat) (k : Nat) (S : Nat → Nat → Int32) {post : Int32 → va_W → Prop} :
    ∀ (q : Int32), M_X7_isGood_0 k S = some q → post q (wTk E a S) →
      WW E p l e rm_X7_isGood s m args below meth c A 0 0 (QI E below post args s rm_X7_isGood A) (wTk E a S) 1 [some (.ref (a 0))] 0 [] := by
  intro  q  h hq
  unfold M_X7_isGood_0 at h
  refine r_aload_n (pc := 0) C (i := 0) dX7_isGood_0 rfl rfl ?_
  refine r_get (pc := 1) C gwX7 0 rfl rfl 1 (by decide) wm_1_179 rfl dX7_isGood_1 ?_
  refine r_if_ne (pc := 4) C (tgt := 11) dX7_isGood_4 rfl (fun c1 => ?_) (fun c1 => ?_)
  · rw [if_neg c1] at h
    refine r_iconst (pc := 11) C (v := 0) dX7_isGood_11 (by decide) ?_
    cases h
    exact r_iretz (pc := 12) C (Or.inl rfl) hq (Nat.zero_le _) (Nat.zero_le _) dX7_isGood_12
  · rw [if_pos c1] at h
    refine r_iconst (pc := 7) C (v := 1) dX7_isGood_7 (by decide) ?_
    refine r_goto (pc := 8) C (tgt := 12) dX7_isGood_8 rfl ?_
    cases h
    exact r_iretz (pc := 12) C (Or.inr rfl) hq (Nat.zero_le _) (Nat.zero_le _) dX7_isGood_12
def M_X7_isGood (k : Nat) (S : Nat → Nat → Int32) : Option (Int32) := M_X7_isGood_0 k S
set_option maxRecDepth 100000 in
set_option maxHeartbeats 4000000 in
theorem c_X7_isGood (E : ENV) (l : Launch) (k : Nat) (a : Nat → Nat) (S : Nat → Nat → Int32) {q : Int32} (hm : M_X7_isGood k S = some q) : CI E l yX7_isGood cX7_isGood 1 (some .boolean) rm_X7_isGood [.ref (a 0)] (wTk E a S) (fun r w' => r = q ∧ w' = (wTk E a S)) :=
  CI.of 0 (by decide) (Nat.le_of_ble_eq_true rfl) (fun p e s m below meth c A C _ => r_weak (lSub_s lSub_e) (N_X7_isGood_0 C a k S q  hm ⟨rfl, rfl⟩))
theorem g_X7_61 : GoodIn GW (wsV RX7 61 RX5 yX5_at (wsG yX5_at cX5_at 2 (some .int))) := gw_V wm_3_21 wm_2_150 wm_2_151 wm_1_3 wm_2_152
theorem hd_X7_isGood : yX7_isGood.cls = RX7 ∧ yX7_isGood.cls ≠ "java/lang/invoke/MethodHandle" ∧ yX7_isGood.cls ≠ "java/lang/invoke/VarHandle" ∧ (parseMethodDescriptor yX7_isGood.desc).map (fun d => d.parameters.length) = some 0 := by decide +kernel
theorem g_X7_52 : GoodIn GW (wsV RX7 52 RX7 yX7_isGood (wsG yX7_isGood cX7_isGood 1 (some .boolean))) := gw_V wm_3_45 wm_3_46 wm_3_47 wm_1_7 wm_3_48
-- ShardGuard$Tokens.is(Ljava/lang/String;)Z
theorem dX7_is_0 : decode cX7_is 0 = .ok (.aload_n 0, 1) := by decide +kernel
theorem dX7_is_1 : decode cX7_is 1 = .ok (.invokevirtual 52, 3) := by decide +kernel
theorem dX7_is_4 : decode cX7_is 4 = .ok (.ifCond .eq 19, 3) := by decide +kernel
theorem dX7_is_7 : decode cX7_is 7 = .ok (.aload_n 0, 1) := by decide +kernel
theorem dX7_is_8 : decode cX7_is 8 = .ok (.getfield 36, 3) := by decide +kernel
theorem dX7_is_11 : decode cX7_is 11 = .ok (.aload_n 0, 1) := by decide +kernel
theorem dX7_is_12 : decode cX7_is 12 = .ok (.getfield 33, 3) := by decide +kernel
theorem dX7_is_15 : decode cX7_is 15 = .ok (.isub, 1) := by decide +kernel
theorem dX7_is_16 : decode cX7_is 16 = .ok (.aload_n 1, 1) := by decide +kernel
theorem dX7_is_17 : decode cX7_is 17 = .ok (.invokevirtual 56, 3) := by decide +kernel
theorem dX7_is_20 : decode cX7_is 20 = .ok (.if_icmp .eq 5, 3) := by decide +kernel
theorem dX7_is_23 : decode cX7_is 23 = .ok (.iconst 0, 1) := by decide +kernel
theorem dX7_is_24 : decode cX7_is 24 = .ok (.ireturn, 1) := by decide +kernel
theorem dX7_is_25 : decode cX7_is 25 = .ok (.iconst 0, 1) := by decide +kernel
theorem dX7_is_26 : decode cX7_is 26 = .ok (.istore_n 2, 1) := by decide +kernel
theorem dX7_is_27 : decode cX7_is 27 = .ok (.iload_n 2, 1) := by decide +kernel
theorem dX7_is_28 : decode cX7_is 28 = .ok (.aload_n 1, 1) := by decide +kernel
theorem dX7_is_29 : decode cX7_is 29 = .ok (.invokevirtual 56, 3) := by decide +kernel
theorem dX7_is_32 : decode cX7_is 32 = .ok (.if_icmp .ge 32, 3) := by decide +kernel
theorem dX7_is_35 : decode cX7_is 35 = .ok (.aload_n 0, 1) := by decide +kernel
theorem dX7_is_36 : decode cX7_is 36 = .ok (.getfield 26, 3) := by decide +kernel
theorem dX7_is_39 : decode cX7_is 39 = .ok (.aload_n 0, 1) := by decide +kernel
theorem dX7_is_40 : decode cX7_is 40 = .ok (.getfield 33, 3) := by decide +kernel
theorem dX7_is_43 : decode cX7_is 43 = .ok (.iload_n 2, 1) := by decide +kernel
theorem dX7_is_44 : decode cX7_is 44 = .ok (.iadd, 1) := by decide +kernel
theorem dX7_is_45 : decode cX7_is 45 = .ok (.invokevirtual 61, 3) := by decide +kernel
theorem dX7_is_48 : decode cX7_is 48 = .ok (.aload_n 1, 1) := by decide +kernel
theorem dX7_is_49 : decode cX7_is 49 = .ok (.iload_n 2, 1) := by decide +kernel
theorem dX7_is_50 : decode cX7_is 50 = .ok (.invokevirtual 65, 3) := by decide +kernel
theorem dX7_is_53 : decode cX7_is 53 = .ok (.if_icmp .eq 5, 3) := by decide +kernel
theorem dX7_is_56 : decode cX7_is 56 = .ok (.iconst 0, 1) := by decide +kernel
theorem dX7_is_57 : decode cX7_is 57 = .ok (.ireturn, 1) := by decide +kernel
theorem dX7_is_58 : decode cX7_is 58 = .ok (.iinc 2 1, 3) := by decide +kernel
theorem dX7_is_61 : decode cX7_is 61 = .ok (.goto (-34), 3) := by decide +kernel
theorem dX7_is_64 : decode cX7_is 64 = .ok (.iconst 1, 1) := by decide +kernel
theorem dX7_is_65 : decode cX7_is 65 = .ok (.ireturn, 1) := by decide +kernel
def rm_X7_is : Room := { frames := 6, cells := 0, slots := 0, locals := 150 }
def M_X7_is_27 (k : Nat) (S : Nat → Nat → Int32) : Nat → (Nat) → (Int32) → Option (Int32)
  | 0, _, _ => none
  | n + 1, t1, x2 => if (nI (txB t1).length) ≤ x2 then (some (1 : Int32)) else ((M_X5_at k 700 (S 1) ((S 0 4) + x2)).bind fun q2 => (if inb x2 (txB t1).length = true then if q2 = ((txB t1).getD x2.toNatClampNeg 0) then (M_X7_is_27 k S n t1 (x2 + 1)) else (some (0 : Int32)) else none))
theorem M_X7_is_27_s (k : Nat) (S : Nat → Nat → Int32) (n : Nat) (t1 : Nat) (x2 : Int32) : M_X7_is_27 k S (n + 1) t1 x2 = (if (nI (txB t1).length) ≤ x2 then (some (1 : Int32)) else ((M_X5_at k 700 (S 1) ((S 0 4) + x2)).bind fun q2 => (if inb x2 (txB t1).length = true then if q2 = ((txB t1).getD x2.toNatClampNeg 0) then (M_X7_is_27 k S n t1 (x2 + 1)) else (some (0 : Int32)) else none))) := rfl
set_option maxRecDepth 100000 in
set_option maxHeartbeats 4000000 in
theorem N_X7_is_27 (C : CX E p l s m args meth c cX7_is 3 RX7 (some .boolean) A) (a : Nat → Nat) (k : Nat) (S : Nat → Nat → Int32) {post : Int32 → va_W → Prop} :
    ∀ (n : Nat) (t1 : Nat) (x2 : Int32) (q : Int32), t1 < 79 → M_X7_is_27 k S n t1 x2 = some q → post q (wTk E a S) →
      WW E p l e rm_X7_is s m args below meth c A 0 0 (QI E below post args s rm_X7_is A) (wTk E a S) 3 [some (.ref (a 0)), some (.ref (eS E t1)), some (.int x2)] 27 [] := by
  intro n
  induction n with
  | zero => intro t1 x2 q hj_t1 h _; cases h
  | succ n ih =>
    intro t1 x2 q hj_t1 h hq
    rw [M_X7_is_27_s] at h
    refine r_iload_n (pc := 27) C (i := 2) dX7_is_27 rfl rfl ?_
    refine r_aload_n (pc := 28) C (i := 1) dX7_is_28 rfl rfl ?_
    refine r_strlen (pc := 29) C hj_t1 wm_3_49 ⟨Nat.le_of_ble_eq_true rfl, Nat.le_of_ble_eq_true rfl⟩ ⟨Nat.zero_le _, Nat.zero_le _⟩ (Nat.le_of_ble_eq_true rfl) dX7_is_29 ?_
    refine r_icmp_ge (pc := 32) C (tgt := 64) dX7_is_32 rfl (fun c1 => ?_) (fun c1 => ?_)
    · rw [if_pos c1] at h
      refine r_iconst (pc := 64) C (v := 1) dX7_is_64 (by decide) ?_
      cases h
      exact r_iretz (pc := 65) C (Or.inr rfl) hq (Nat.zero_le _) (Nat.zero_le _) dX7_is_65
    · rw [if_neg c1] at h
      refine r_aload_n (pc := 35) C (i := 0) dX7_is_35 rfl rfl ?_
      refine r_get (pc := 36) C gwX7 0 rfl rfl 3 (by decide) wm_1_183 rfl dX7_is_36 ?_
      refine r_aload_n (pc := 39) C (i := 0) dX7_is_39 rfl rfl ?_
      refine r_get (pc := 40) C gwX7 0 rfl rfl 5 (by decide) wm_1_185 rfl dX7_is_40 ?_
      refine r_iload_n (pc := 43) C (i := 2) dX7_is_43 rfl rfl ?_
      refine r_iadd (pc := 44) C dX7_is_44 ?_
      obtain ⟨q2, hq2, h⟩ := bnd h
      refine r_callVp_CI (Cn := RX5) (pc := 45) C [.int ((S 0 4) + x2)] (c_X5_at E l k (fun i => a (i + 1)) 700 (S 1) ((S 0 4) + x2) hq2) [1, 2] rfl (by decide) 0 rfl rfl rfl g_X7_61 hd_X5_at ⟨Nat.le_of_ble_eq_true rfl, Nat.le_of_ble_eq_true rfl⟩ ⟨Nat.zero_le _, Nat.zero_le _⟩ (Nat.le_of_ble_eq_true rfl) rfl dX7_is_45 (fun r hr => ?_)
      have hr := hr.symm
      subst hr
      refine r_aload_n (pc := 48) C (i := 1) dX7_is_48 rfl rfl ?_
      refine r_iload_n (pc := 49) C (i := 2) dX7_is_49 rfl rfl ?_
      obtain ⟨hi3, h⟩ := ifn h
      refine r_strat (pc := 50) C hj_t1 hi3 wm_3_59 ⟨Nat.le_of_ble_eq_true rfl, Nat.le_of_ble_eq_true rfl⟩ ⟨Nat.zero_le _, Nat.zero_le _⟩ (Nat.le_of_ble_eq_true rfl) dX7_is_50 ?_
      refine r_icmp_eq (pc := 53) C (tgt := 58) dX7_is_53 rfl (fun c4 => ?_) (fun c4 => ?_)
      · rw [if_pos c4] at h
        refine r_iinc (pc := 58) C (v := (x2 + 1)) dX7_is_58 rfl rfl (by decide) rfl ?_
        refine r_goto (pc := 61) C (tgt := 27) dX7_is_61 rfl ?_
        refine r_weak (lSub_s (lSub_s (lSub_s lSub_e))) ?_
        exact ih t1 (x2 + 1) q hj_t1 h hq
      · rw [if_neg c4] at h
        refine r_iconst (pc := 56) C (v := 0) dX7_is_56 (by decide) ?_
        cases h
        exact r_iretz (pc := 57) C (Or.inl rfl) hq (Nat.zero_le _) (Nat.zero_le _) dX7_is_57
def M_X7_is_0 (k : Nat) (S : Nat → Nat → Int32) (p0 : Nat) : Option (Int32) := (M_X7_isGood k S).bind fun q5 => if q5 = 0 then (some (0 : Int32)) else (if ((S 0 5) - (S 0 4)) = (nI (txB p0).length) then (M_X7_is_27 k S k p0 (0 : Int32)) else (some (0 : Int32)))
set_option maxRecDepth 100000 in
set_option maxHeartbeats 4000000 in
theorem N_X7_is_0 (C : CX E p l s m args meth c cX7_is 3 RX7 (some .boolean) A) (a : Nat → Nat) (k : Nat) (S : Nat → Nat → Int32) {post : Int32 → va_W → Prop} :
    ∀ (p0 : Nat) (q : Int32), p0 < 79 → M_X7_is_0 k S p0 = some q → post q (wTk E a S) →
      WW E p l e rm_X7_is s m args below meth c A 0 0 (QI E below post args s rm_X7_is A) (wTk E a S) 3 [some (.ref (a 0)), some (.ref (eS E p0)), none] 0 [] := by
  intro p0 q hj_p0 h hq
  unfold M_X7_is_0 at h
  refine r_aload_n (pc := 0) C (i := 0) dX7_is_0 rfl rfl ?_
  obtain ⟨q5, hq5, h⟩ := bnd h
  refine r_callVp_CI (Cn := RX7) (pc := 1) C [] (c_X7_isGood E l k a S hq5) [0, 1, 2] rfl (by decide) 0 rfl rfl rfl g_X7_52 hd_X7_isGood ⟨Nat.le_of_ble_eq_true rfl, Nat.le_of_ble_eq_true rfl⟩ ⟨Nat.zero_le _, Nat.zero_le _⟩ (Nat.le_of_ble_eq_true rfl) rfl dX7_is_1 (fun r hr => ?_)
  have hr := hr.symm
  subst hr
  refine r_if_eq (pc := 4) C (tgt := 23) dX7_is_4 rfl (fun c6 => ?_) (fun c6 => ?_)
  · rw [if_pos c6] at h
    refine r_iconst (pc := 23) C (v := 0) dX7_is_23 (by decide) ?_
    cases h
    exact r_iretz (pc := 24) C (Or.inl rfl) hq (Nat.zero_le _) (Nat.zero_le _) dX7_is_24
  · rw [if_neg c6] at h
    refine r_aload_n (pc := 7) C (i := 0) dX7_is_7 rfl rfl ?_
    refine r_get (pc := 8) C gwX7 0 rfl rfl 6 (by decide) wm_1_186 rfl dX7_is_8 ?_
    refine r_aload_n (pc := 11) C (i := 0) dX7_is_11 rfl rfl ?_
    refine r_get (pc := 12) C gwX7 0 rfl rfl 5 (by decide) wm_1_185 rfl dX7_is_12 ?_
    refine r_isub (pc := 15) C dX7_is_15 ?_
    refine r_aload_n (pc := 16) C (i := 1) dX7_is_16 rfl rfl ?_
    refine r_strlen (pc := 17) C hj_p0 wm_3_49 ⟨Nat.le_of_ble_eq_true rfl, Nat.le_of_ble_eq_true rfl⟩ ⟨Nat.zero_le _, Nat.zero_le _⟩ (Nat.le_of_ble_eq_true rfl) dX7_is_17 ?_
    refine r_icmp_eq (pc := 20) C (tgt := 25) dX7_is_20 rfl (fun c7 => ?_) (fun c7 => ?_)
    · rw [if_pos c7] at h
      refine r_iconst (pc := 25) C (v := 0) dX7_is_25 (by decide) ?_
      refine r_istore_n (pc := 26) C (i := 2) dX7_is_26 rfl (by decide) rfl ?_
      refine r_weak (lSub_s (lSub_s (lSub_s lSub_e))) ?_
      exact N_X7_is_27 C a k S k p0 (0 : Int32) q hj_p0 h hq
    · rw [if_neg c7] at h
      refine r_iconst (pc := 23) C (v := 0) dX7_is_23 (by decide) ?_
      cases h
      exact r_iretz (pc := 24) C (Or.inl rfl) hq (Nat.zero_le _) (Nat.zero_le _) dX7_is_24
def M_X7_is (k : Nat) (S : Nat → Nat → Int32) (p0 : Nat) : Option (Int32) := M_X7_is_0 k S p0
set_option maxRecDepth 100000 in
set_option maxHeartbeats 4000000 in
theorem c_X7_is (E : ENV) (l : Launch) (k : Nat) (a : Nat → Nat) (S : Nat → Nat → Int32) (p0 : Nat) (hj_p0 : p0 < 79) {q : Int32} (hm : M_X7_is k S p0 = some q) : CI E l yX7_is cX7_is 3 (some .boolean) rm_X7_is [.ref (a 0), .ref (eS E p0)] (wTk E a S) (fun r w' => r = q ∧ w' = (wTk E a S)) :=
  CI.of 1 (by decide) (Nat.le_of_ble_eq_true rfl) (fun p e s m below meth c A C _ => r_weak (lSub_s (lSub_s (lSub_n lSub_e))) (N_X7_is_0 C a k S p0 q hj_p0 hm ⟨rfl, rfl⟩))
-- ShardGuard$Tokens.isNumberIn(I)Z
theorem dX7_isNumberIn_0 : decode cX7_isNumberIn 0 = .ok (.aload_n 0, 1) := by decide +kernel
theorem dX7_isNumberIn_1 : decode cX7_isNumberIn 1 = .ok (.getfield 39, 3) := by decide +kernel
theorem dX7_isNumberIn_4 : decode cX7_isNumberIn 4 = .ok (.iconst 2, 1) := by decide +kernel
theorem dX7_isNumberIn_5 : decode cX7_isNumberIn 5 = .ok (.if_icmp .ne 28, 3) := by decide +kernel
theorem dX7_isNumberIn_8 : decode cX7_isNumberIn 8 = .ok (.aload_n 0, 1) := by decide +kernel
theorem dX7_isNumberIn_9 : decode cX7_isNumberIn 9 = .ok (.getfield 42, 3) := by decide +kernel
theorem dX7_isNumberIn_12 : decode cX7_isNumberIn 12 = .ok (.bipush 12, 2) := by decide +kernel
theorem dX7_isNumberIn_14 : decode cX7_isNumberIn 14 = .ok (.if_icmp .ge 19, 3) := by decide +kernel
theorem dX7_isNumberIn_17 : decode cX7_isNumberIn 17 = .ok (.iload_n 1, 1) := by decide +kernel
theorem dX7_isNumberIn_18 : decode cX7_isNumberIn 18 = .ok (.aload_n 0, 1) := by decide +kernel
theorem dX7_isNumberIn_19 : decode cX7_isNumberIn 19 = .ok (.getfield 42, 3) := by decide +kernel
theorem dX7_isNumberIn_22 : decode cX7_isNumberIn 22 = .ok (.ishr, 1) := by decide +kernel
theorem dX7_isNumberIn_23 : decode cX7_isNumberIn 23 = .ok (.iconst 1, 1) := by decide +kernel
theorem dX7_isNumberIn_24 : decode cX7_isNumberIn 24 = .ok (.iand, 1) := by decide +kernel
theorem dX7_isNumberIn_25 : decode cX7_isNumberIn 25 = .ok (.iconst 1, 1) := by decide +kernel
theorem dX7_isNumberIn_26 : decode cX7_isNumberIn 26 = .ok (.if_icmp .ne 7, 3) := by decide +kernel
theorem dX7_isNumberIn_29 : decode cX7_isNumberIn 29 = .ok (.iconst 1, 1) := by decide +kernel
theorem dX7_isNumberIn_30 : decode cX7_isNumberIn 30 = .ok (.goto 4, 3) := by decide +kernel
theorem dX7_isNumberIn_33 : decode cX7_isNumberIn 33 = .ok (.iconst 0, 1) := by decide +kernel
theorem dX7_isNumberIn_34 : decode cX7_isNumberIn 34 = .ok (.ireturn, 1) := by decide +kernel
def rm_X7_isNumberIn : Room := { frames := 0, cells := 0, slots := 0, locals := 0 }
def M_X7_isNumberIn_0 (k : Nat) (S : Nat → Nat → Int32) (p0 : Int32) : Option (Int32) := if (S 0 6) = (2 : Int32) then (if (12 : Int32) ≤ (S 0 7) then (some (0 : Int32)) else (if ((p0 >>> ((S 0 7) &&& 31)) &&& (1 : Int32)) = (1 : Int32) then (some (1 : Int32)) else (some (0 : Int32)))) else (some (0 : Int32))
set_option maxRecDepth 100000 in
set_option maxHeartbeats 4000000 in
theorem N_X7_isNumberIn_0 (C : CX E p l s m args meth c cX7_isNumberIn 2 RX7 (some .boolean) A) (a : Nat → Nat) (k : Nat) (S : Nat → Nat → Int32) {post : Int32 → va_W → Prop} :
    ∀ (p0 : Int32) (q : Int32), M_X7_isNumberIn_0 k S p0 = some q → post q (wTk E a S) →
      WW E p l e rm_X7_isNumberIn s m args below meth c A 0 0 (QI E below post args s rm_X7_isNumberIn A) (wTk E a S) 2 [some (.ref (a 0)), some (.int p0)] 0 [] := by
  intro p0 q  h hq
  unfold M_X7_isNumberIn_0 at h
  refine r_aload_n (pc := 0) C (i := 0) dX7_isNumberIn_0 rfl rfl ?_
  refine r_get (pc := 1) C gwX7 0 rfl rfl 7 (by decide) wm_1_187 rfl dX7_isNumberIn_1 ?_
  refine r_iconst (pc := 4) C (v := 2) dX7_isNumberIn_4 (by decide) ?_
  refine r_icmp_ne (pc := 5) C (tgt := 33) dX7_isNumberIn_5 rfl (fun c1 => ?_) (fun c1 => ?_)
  · rw [if_neg c1] at h
    refine r_iconst (pc := 33) C (v := 0) dX7_isNumberIn_33 (by decide) ?_
    cases h
    exact r_iretz (pc := 34) C (Or.inl rfl) hq (Nat.zero_le _) (Nat.zero_le _) dX7_isNumberIn_34
  · rw [if_pos c1] at h
    refine r_aload_n (pc := 8) C (i := 0) dX7_isNumberIn_8 rfl rfl ?_
    refine r_get (pc := 9) C gwX7 0 rfl rfl 8 (by decide) wm_1_188 rfl dX7_isNumberIn_9 ?_
    refine r_bipush (pc := 12) C (v := 12) dX7_isNumberIn_12 (by decide) ?_
    refine r_icmp_ge (pc := 14) C (tgt := 33) dX7_isNumberIn_14 rfl (fun c2 => ?_) (fun c2 => ?_)
    · rw [if_pos c2] at h
      refine r_iconst (pc := 33) C (v := 0) dX7_isNumberIn_33 (by decide) ?_
      cases h
      exact r_iretz (pc := 34) C (Or.inl rfl) hq (Nat.zero_le _) (Nat.zero_le _) dX7_isNumberIn_34
    · rw [if_neg c2] at h
      refine r_iload_n (pc := 17) C (i := 1) dX7_isNumberIn_17 rfl rfl ?_
      refine r_aload_n (pc := 18) C (i := 0) dX7_isNumberIn_18 rfl rfl ?_
      refine r_get (pc := 19) C gwX7 0 rfl rfl 8 (by decide) wm_1_188 rfl dX7_isNumberIn_19 ?_
      refine r_ishr (pc := 22) C dX7_isNumberIn_22 ?_
      refine r_iconst (pc := 23) C (v := 1) dX7_isNumberIn_23 (by decide) ?_
      refine r_iand (pc := 24) C dX7_isNumberIn_24 ?_
      refine r_iconst (pc := 25) C (v := 1) dX7_isNumberIn_25 (by decide) ?_
      refine r_icmp_ne (pc := 26) C (tgt := 33) dX7_isNumberIn_26 rfl (fun c3 => ?_) (fun c3 => ?_)
      · rw [if_neg c3] at h
        refine r_iconst (pc := 33) C (v := 0) dX7_isNumberIn_33 (by decide) ?_
        cases h
        exact r_iretz (pc := 34) C (Or.inl rfl) hq (Nat.zero_le _) (Nat.zero_le _) dX7_isNumberIn_34
      · rw [if_pos c3] at h
        refine r_iconst (pc := 29) C (v := 1) dX7_isNumberIn_29 (by decide) ?_
        refine r_goto (pc := 30) C (tgt := 34) dX7_isNumberIn_30 rfl ?_
        cases h
        exact r_iretz (pc := 34) C (Or.inr rfl) hq (Nat.zero_le _) (Nat.zero_le _) dX7_isNumberIn_34
def M_X7_isNumberIn (k : Nat) (S : Nat → Nat → Int32) (p0 : Int32) : Option (Int32) := M_X7_isNumberIn_0 k S p0
set_option maxRecDepth 100000 in
set_option maxHeartbeats 4000000 in
theorem c_X7_isNumberIn (E : ENV) (l : Launch) (k : Nat) (a : Nat → Nat) (S : Nat → Nat → Int32) (p0 : Int32) {q : Int32} (hm : M_X7_isNumberIn k S p0 = some q) : CI E l yX7_isNumberIn cX7_isNumberIn 2 (some .boolean) rm_X7_isNumberIn [.ref (a 0), .int p0] (wTk E a S) (fun r w' => r = q ∧ w' = (wTk E a S)) :=
  CI.of 0 (by decide) (Nat.le_of_ble_eq_true rfl) (fun p e s m below meth c A C _ => r_weak (lSub_s (lSub_s lSub_e)) (N_X7_isNumberIn_0 C a k S p0 q  hm ⟨rfl, rfl⟩))
-- ShardGuard$Tokens.fail(I)V
theorem dX7_fail_0 : decode cX7_fail 0 = .ok (.aload_n 0, 1) := by decide +kernel
theorem dX7_fail_1 : decode cX7_fail 1 = .ok (.invokevirtual 52, 3) := by decide +kernel
theorem dX7_fail_4 : decode cX7_fail 4 = .ok (.ifCond .eq 16, 3) := by decide +kernel
theorem dX7_fail_7 : decode cX7_fail 7 = .ok (.aload_n 0, 1) := by decide +kernel
theorem dX7_fail_8 : decode cX7_fail 8 = .ok (.iload_n 1, 1) := by decide +kernel
theorem dX7_fail_9 : decode cX7_fail 9 = .ok (.putfield 15, 3) := by decide +kernel
theorem dX7_fail_12 : decode cX7_fail 12 = .ok (.aload_n 0, 1) := by decide +kernel
theorem dX7_fail_13 : decode cX7_fail 13 = .ok (.aload_n 0, 1) := by decide +kernel
theorem dX7_fail_14 : decode cX7_fail 14 = .ok (.getfield 33, 3) := by decide +kernel
theorem dX7_fail_17 : decode cX7_fail 17 = .ok (.putfield 18, 3) := by decide +kernel
theorem dX7_fail_20 : decode cX7_fail 20 = .ok (.return_, 1) := by decide +kernel
def rm_X7_fail : Room := { frames := 1, cells := 0, slots := 0, locals := 20 }
def M_X7_fail_0 (k : Nat) (p0 : Int32) (S : Nat → Nat → Int32) : Option ((Nat → Nat → Int32)) := (M_X7_isGood k S).bind fun q1 => if q1 = 0 then (some S) else (lt (va_up S 0 (upd (S 0) 1 p0)) fun F3 => lt (va_up F3 0 (upd (F3 0) 2 (F3 0 4))) fun F4 => some F4)
set_option maxRecDepth 100000 in
set_option maxHeartbeats 4000000 in
theorem N_X7_fail_0 (C : CX E p l s m args meth c cX7_fail 2 RX7 none A) (a : Nat → Nat) (k : Nat) {post : va_W → Prop} :
    ∀ (p0 : Int32) (S : Nat → Nat → Int32) (q : (Nat → Nat → Int32)), M_X7_fail_0 k p0 S = some q → post (wTk E a q) →
      WW E p l e rm_X7_fail s m args below meth c A 0 0 (QV E below post args s rm_X7_fail A) (wTk E a S) 2 [some (.ref (a 0)), some (.int p0)] 0 [] := by
  intro p0 S q  h hq
  unfold M_X7_fail_0 at h
  refine r_aload_n (pc := 0) C (i := 0) dX7_fail_0 rfl rfl ?_
  obtain ⟨q1, hq1, h⟩ := bnd h
  refine r_callVp_CI (Cn := RX7) (pc := 1) C [] (c_X7_isGood E l k a S hq1) [0, 1, 2] rfl (by decide) 0 rfl rfl rfl g_X7_52 hd_X7_isGood ⟨Nat.le_of_ble_eq_true rfl, Nat.le_of_ble_eq_true rfl⟩ ⟨Nat.zero_le _, Nat.zero_le _⟩ (Nat.le_of_ble_eq_true rfl) rfl dX7_fail_1 (fun r hr => ?_)
  have hr := hr.symm
  subst hr
  refine r_if_eq (pc := 4) C (tgt := 20) dX7_fail_4 rfl (fun c2 => ?_) (fun c2 => ?_)
  · rw [if_pos c2] at h
    cases h
    exact r_vret (pc := 20) C hq (Nat.zero_le _) (Nat.zero_le _) dX7_fail_20
  · rw [if_neg c2] at h
    refine r_aload_n (pc := 7) C (i := 0) dX7_fail_7 rfl rfl ?_
    refine r_iload_n (pc := 8) C (i := 1) dX7_fail_8 rfl rfl ?_
    obtain ⟨F3, hF3, h⟩ := lt_e h
    refine r_put (pc := 9) C gwX7 tyX7 tyX7_ok nmX7 0 rfl rfl 1 (by decide) wm_1_179 rfl rfl rfl rfl (Nat.le_of_ble_eq_true rfl) (w' := (wTk E a F3)) (by rw [hF3]; rfl) dX7_fail_9 ?_
    refine r_aload_n (pc := 12) C (i := 0) dX7_fail_12 rfl rfl ?_
    refine r_aload_n (pc := 13) C (i := 0) dX7_fail_13 rfl rfl ?_
    refine r_get (pc := 14) C gwX7 0 rfl rfl 5 (by decide) wm_1_185 rfl dX7_fail_14 ?_
    obtain ⟨F4, hF4, h⟩ := lt_e h
    refine r_put (pc := 17) C gwX7 tyX7 tyX7_ok nmX7 0 rfl rfl 2 (by decide) wm_1_181 rfl rfl rfl rfl (Nat.le_of_ble_eq_true rfl) (w' := (wTk E a F4)) (by rw [hF4]; rfl) dX7_fail_17 ?_
    cases h
    exact r_vret (pc := 20) C hq (Nat.zero_le _) (Nat.zero_le _) dX7_fail_20
def M_X7_fail (k : Nat) (S : Nat → Nat → Int32) (p0 : Int32) : Option ((Nat → Nat → Int32)) := M_X7_fail_0 k p0 S
set_option maxRecDepth 100000 in
set_option maxHeartbeats 4000000 in
theorem c_X7_fail (E : ENV) (l : Launch) (k : Nat) (a : Nat → Nat) (S : Nat → Nat → Int32) (p0 : Int32) {q : (Nat → Nat → Int32)} (hm : M_X7_fail k S p0 = some q) : CV E l yX7_fail cX7_fail 2 none rm_X7_fail [.ref (a 0), .int p0] (wTk E a S) (fun w' => w' = (wTk E a q)) :=
  CV.of 0 (by decide) (Nat.le_of_ble_eq_true rfl) (fun p e s m below meth c A C _ => r_weak (lSub_s (lSub_s lSub_e)) (N_X7_fail_0 C a k p0 S q  hm rfl))
-- ShardGuard$Tokens.isBlank(I)Z
theorem dX7_isBlank_0 : decode cX7_isBlank 0 = .ok (.iload_n 0, 1) := by decide +kernel
theorem dX7_isBlank_1 : decode cX7_isBlank 1 = .ok (.bipush 32, 2) := by decide +kernel
theorem dX7_isBlank_3 : decode cX7_isBlank 3 = .ok (.if_icmp .eq 9, 3) := by decide +kernel
theorem dX7_isBlank_6 : decode cX7_isBlank 6 = .ok (.iload_n 0, 1) := by decide +kernel
theorem dX7_isBlank_7 : decode cX7_isBlank 7 = .ok (.bipush 10, 2) := by decide +kernel
theorem dX7_isBlank_9 : decode cX7_isBlank 9 = .ok (.if_icmp .ne 7, 3) := by decide +kernel
theorem dX7_isBlank_12 : decode cX7_isBlank 12 = .ok (.iconst 1, 1) := by decide +kernel
theorem dX7_isBlank_13 : decode cX7_isBlank 13 = .ok (.goto 4, 3) := by decide +kernel
theorem dX7_isBlank_16 : decode cX7_isBlank 16 = .ok (.iconst 0, 1) := by decide +kernel
theorem dX7_isBlank_17 : decode cX7_isBlank 17 = .ok (.ireturn, 1) := by decide +kernel
def rm_X7_isBlank : Room := { frames := 0, cells := 0, slots := 0, locals := 0 }
def M_X7_isBlank_0 (k : Nat) (p0 : Int32) : Option (Int32) := if p0 = (32 : Int32) then (some (1 : Int32)) else (if p0 = (10 : Int32) then (some (1 : Int32)) else (some (0 : Int32)))
set_option maxRecDepth 100000 in
set_option maxHeartbeats 4000000 in
theorem N_X7_isBlank_0 (C : CX E p l s m args meth c cX7_isBlank 1 RX7 (some .boolean) A) (k : Nat) {post : Int32 → va_W → Prop} :
    ∀ (p0 : Int32) (q : Int32), M_X7_isBlank_0 k p0 = some q → post q ([] : va_W) →
      WW E p l e rm_X7_isBlank s m args below meth c A 0 0 (QI E below post args s rm_X7_isBlank A) ([] : va_W) 1 [some (.int p0)] 0 [] := by
  intro p0 q  h hq
  unfold M_X7_isBlank_0 at h
  refine r_iload_n (pc := 0) C (i := 0) dX7_isBlank_0 rfl rfl ?_
  refine r_bipush (pc := 1) C (v := 32) dX7_isBlank_1 (by decide) ?_
  refine r_icmp_eq (pc := 3) C (tgt := 12) dX7_isBlank_3 rfl (fun c1 => ?_) (fun c1 => ?_)
  · rw [if_pos c1] at h
    refine r_iconst (pc := 12) C (v := 1) dX7_isBlank_12 (by decide) ?_
    refine r_goto (pc := 13) C (tgt := 17) dX7_isBlank_13 rfl ?_
    cases h
    exact r_iretz (pc := 17) C (Or.inr rfl) hq (Nat.zero_le _) (Nat.zero_le _) dX7_isBlank_17
  · rw [if_neg c1] at h
    refine r_iload_n (pc := 6) C (i := 0) dX7_isBlank_6 rfl rfl ?_
    refine r_bipush (pc := 7) C (v := 10) dX7_isBlank_7 (by decide) ?_
    refine r_icmp_ne (pc := 9) C (tgt := 16) dX7_isBlank_9 rfl (fun c2 => ?_) (fun c2 => ?_)
    · rw [if_neg c2] at h
      refine r_iconst (pc := 16) C (v := 0) dX7_isBlank_16 (by decide) ?_
      cases h
      exact r_iretz (pc := 17) C (Or.inl rfl) hq (Nat.zero_le _) (Nat.zero_le _) dX7_isBlank_17
    · rw [if_pos c2] at h
      refine r_iconst (pc := 12) C (v := 1) dX7_isBlank_12 (by decide) ?_
      refine r_goto (pc := 13) C (tgt := 17) dX7_isBlank_13 rfl ?_
      cases h
      exact r_iretz (pc := 17) C (Or.inr rfl) hq (Nat.zero_le _) (Nat.zero_le _) dX7_isBlank_17
def M_X7_isBlank (k : Nat) (p0 : Int32) : Option (Int32) := M_X7_isBlank_0 k p0
set_option maxRecDepth 100000 in
set_option maxHeartbeats 4000000 in
theorem c_X7_isBlank (E : ENV) (l : Launch) (k : Nat) (p0 : Int32) {q : Int32} (hm : M_X7_isBlank k p0 = some q) : CI E l yX7_isBlank cX7_isBlank 1 (some .boolean) rm_X7_isBlank [.int p0] ([] : va_W) (fun r w' => r = q ∧ w' = ([] : va_W)) :=
  CI.of 0 (by decide) (Nat.le_of_ble_eq_true rfl) (fun p e s m below meth c A C _ => r_weak (lSub_s lSub_e) (N_X7_isBlank_0 C k p0 q  hm ⟨rfl, rfl⟩))
-- ShardGuard$Tokens.kindOf(I)I
theorem dX7_kindOf_0 : decode cX7_kindOf 0 = .ok (.iload_n 0, 1) := by decide +kernel
theorem dX7_kindOf_1 : decode cX7_kindOf 1 = .ok (.bipush 97, 2) := by decide +kernel
theorem dX7_kindOf_3 : decode cX7_kindOf 3 = .ok (.if_icmp .lt 11, 3) := by decide +kernel
theorem dX7_kindOf_6 : decode cX7_kindOf 6 = .ok (.iload_n 0, 1) := by decide +kernel
theorem dX7_kindOf_7 : decode cX7_kindOf 7 = .ok (.bipush 122, 2) := by decide +kernel
theorem dX7_kindOf_9 : decode cX7_kindOf 9 = .ok (.if_icmp .gt 5, 3) := by decide +kernel
theorem dX7_kindOf_12 : decode cX7_kindOf 12 = .ok (.iconst 1, 1) := by decide +kernel
theorem dX7_kindOf_13 : decode cX7_kindOf 13 = .ok (.ireturn, 1) := by decide +kernel
theorem dX7_kindOf_14 : decode cX7_kindOf 14 = .ok (.iload_n 0, 1) := by decide +kernel
theorem dX7_kindOf_15 : decode cX7_kindOf 15 = .ok (.bipush 48, 2) := by decide +kernel
theorem dX7_kindOf_17 : decode cX7_kindOf 17 = .ok (.if_icmp .lt 13, 3) := by decide +kernel
theorem dX7_kindOf_20 : decode cX7_kindOf 20 = .ok (.iload_n 0, 1) := by decide +kernel
theorem dX7_kindOf_21 : decode cX7_kindOf 21 = .ok (.bipush 57, 2) := by decide +kernel
theorem dX7_kindOf_23 : decode cX7_kindOf 23 = .ok (.if_icmp .gt 7, 3) := by decide +kernel
theorem dX7_kindOf_26 : decode cX7_kindOf 26 = .ok (.iconst 2, 1) := by decide +kernel
theorem dX7_kindOf_27 : decode cX7_kindOf 27 = .ok (.goto 4, 3) := by decide +kernel
theorem dX7_kindOf_30 : decode cX7_kindOf 30 = .ok (.iconst 3, 1) := by decide +kernel
theorem dX7_kindOf_31 : decode cX7_kindOf 31 = .ok (.ireturn, 1) := by decide +kernel
def rm_X7_kindOf : Room := { frames := 0, cells := 0, slots := 0, locals := 0 }
def M_X7_kindOf_14 (k : Nat) (x0 : Int32) : Option (Int32) := if x0 < (48 : Int32) then (some (3 : Int32)) else (if (57 : Int32) < x0 then (some (3 : Int32)) else (some (2 : Int32)))
set_option maxRecDepth 100000 in
set_option maxHeartbeats 4000000 in
theorem N_X7_kindOf_14 (C : CX E p l s m args meth c cX7_kindOf 1 RX7 (some .int) A) (k : Nat) {post : Int32 → va_W → Prop} :
    ∀ (x0 : Int32) (q : Int32), M_X7_kindOf_14 k x0 = some q → post q ([] : va_W) →
      WW E p l e rm_X7_kindOf s m args below meth c A 0 0 (QI E below post args s rm_X7_kindOf A) ([] : va_W) 1 [some (.int x0)] 14 [] := by
  intro x0 q  h hq
  unfold M_X7_kindOf_14 at h
  refine r_iload_n (pc := 14) C (i := 0) dX7_kindOf_14 rfl rfl ?_
  refine r_bipush (pc := 15) C (v := 48) dX7_kindOf_15 (by decide) ?_
  refine r_icmp_lt (pc := 17) C (tgt := 30) dX7_kindOf_17 rfl (fun c1 => ?_) (fun c1 => ?_)
  · rw [if_pos c1] at h
    refine r_iconst (pc := 30) C (v := 3) dX7_kindOf_30 (by decide) ?_
    cases h
    exact r_ireti (pc := 31) C hq (Nat.zero_le _) (Nat.zero_le _) dX7_kindOf_31
  · rw [if_neg c1] at h
    refine r_iload_n (pc := 20) C (i := 0) dX7_kindOf_20 rfl rfl ?_
    refine r_bipush (pc := 21) C (v := 57) dX7_kindOf_21 (by decide) ?_
    refine r_icmp_gt (pc := 23) C (tgt := 30) dX7_kindOf_23 rfl (fun c2 => ?_) (fun c2 => ?_)
    · rw [if_pos c2] at h
      refine r_iconst (pc := 30) C (v := 3) dX7_kindOf_30 (by decide) ?_
      cases h
      exact r_ireti (pc := 31) C hq (Nat.zero_le _) (Nat.zero_le _) dX7_kindOf_31
    · rw [if_neg c2] at h
      refine r_iconst (pc := 26) C (v := 2) dX7_kindOf_26 (by decide) ?_
      refine r_goto (pc := 27) C (tgt := 31) dX7_kindOf_27 rfl ?_
      cases h
      exact r_ireti (pc := 31) C hq (Nat.zero_le _) (Nat.zero_le _) dX7_kindOf_31
def M_X7_kindOf_0 (k : Nat) (p0 : Int32) : Option (Int32) := if p0 < (97 : Int32) then (M_X7_kindOf_14 k p0) else (if (122 : Int32) < p0 then (M_X7_kindOf_14 k p0) else (some (1 : Int32)))
set_option maxRecDepth 100000 in
set_option maxHeartbeats 4000000 in
theorem N_X7_kindOf_0 (C : CX E p l s m args meth c cX7_kindOf 1 RX7 (some .int) A) (k : Nat) {post : Int32 → va_W → Prop} :
    ∀ (p0 : Int32) (q : Int32), M_X7_kindOf_0 k p0 = some q → post q ([] : va_W) →
      WW E p l e rm_X7_kindOf s m args below meth c A 0 0 (QI E below post args s rm_X7_kindOf A) ([] : va_W) 1 [some (.int p0)] 0 [] := by
  intro p0 q  h hq
  unfold M_X7_kindOf_0 at h
  refine r_iload_n (pc := 0) C (i := 0) dX7_kindOf_0 rfl rfl ?_
  refine r_bipush (pc := 1) C (v := 97) dX7_kindOf_1 (by decide) ?_
  refine r_icmp_lt (pc := 3) C (tgt := 14) dX7_kindOf_3 rfl (fun c3 => ?_) (fun c3 => ?_)
  · rw [if_pos c3] at h
    refine r_weak (lSub_s lSub_e) ?_
    exact N_X7_kindOf_14 C k p0 q  h hq
  · rw [if_neg c3] at h
    refine r_iload_n (pc := 6) C (i := 0) dX7_kindOf_6 rfl rfl ?_
    refine r_bipush (pc := 7) C (v := 122) dX7_kindOf_7 (by decide) ?_
    refine r_icmp_gt (pc := 9) C (tgt := 14) dX7_kindOf_9 rfl (fun c4 => ?_) (fun c4 => ?_)
    · rw [if_pos c4] at h
      refine r_weak (lSub_s lSub_e) ?_
      exact N_X7_kindOf_14 C k p0 q  h hq
    · rw [if_neg c4] at h
      refine r_iconst (pc := 12) C (v := 1) dX7_kindOf_12 (by decide) ?_
      cases h
      exact r_ireti (pc := 13) C hq (Nat.zero_le _) (Nat.zero_le _) dX7_kindOf_13
def M_X7_kindOf (k : Nat) (p0 : Int32) : Option (Int32) := M_X7_kindOf_0 k p0
set_option maxRecDepth 100000 in
set_option maxHeartbeats 4000000 in
theorem c_X7_kindOf (E : ENV) (l : Launch) (k : Nat) (p0 : Int32) {q : Int32} (hm : M_X7_kindOf k p0 = some q) : CI E l yX7_kindOf cX7_kindOf 1 (some .int) rm_X7_kindOf [.int p0] ([] : va_W) (fun r w' => r = q ∧ w' = ([] : va_W)) :=
  CI.of 0 (by decide) (Nat.le_of_ble_eq_true rfl) (fun p e s m below meth c A C _ => r_weak (lSub_s lSub_e) (N_X7_kindOf_0 C k p0 q  hm ⟨rfl, rfl⟩))
theorem hd_X7_fail : yX7_fail.cls = RX7 ∧ yX7_fail.cls ≠ "java/lang/invoke/MethodHandle" ∧ yX7_fail.cls ≠ "java/lang/invoke/VarHandle" ∧ (parseMethodDescriptor yX7_fail.desc).map (fun d => d.parameters.length) = some 1 := by decide +kernel
theorem g_X7_73 : GoodIn GW (wsV RX7 73 RX7 yX7_fail (wsG yX7_fail cX7_fail 2 none)) := gw_V wm_3_97 wm_3_98 wm_3_99 wm_1_7 wm_3_100
-- ShardGuard$Tokens.takeEnd()V
theorem dX7_takeEnd_0 : decode cX7_takeEnd 0 = .ok (.aload_n 0, 1) := by decide +kernel
theorem dX7_takeEnd_1 : decode cX7_takeEnd 1 = .ok (.getfield 39, 3) := by decide +kernel
theorem dX7_takeEnd_4 : decode cX7_takeEnd 4 = .ok (.ifCond .eq 8, 3) := by decide +kernel
theorem dX7_takeEnd_7 : decode cX7_takeEnd 7 = .ok (.aload_n 0, 1) := by decide +kernel
theorem dX7_takeEnd_8 : decode cX7_takeEnd 8 = .ok (.iconst 1, 1) := by decide +kernel
theorem dX7_takeEnd_9 : decode cX7_takeEnd 9 = .ok (.invokevirtual 73, 3) := by decide +kernel
theorem dX7_takeEnd_12 : decode cX7_takeEnd 12 = .ok (.return_, 1) := by decide +kernel
def rm_X7_takeEnd : Room := { frames := 2, cells := 0, slots := 0, locals := 41 }
def M_X7_takeEnd_0 (k : Nat) (S : Nat → Nat → Int32) : Option ((Nat → Nat → Int32)) := if (S 0 6) = 0 then (some S) else ((M_X7_fail k S (1 : Int32)).bind fun q2 => some q2)
set_option maxRecDepth 100000 in
set_option maxHeartbeats 4000000 in
theorem N_X7_takeEnd_0 (C : CX E p l s m args meth c cX7_takeEnd 1 RX7 none A) (a : Nat → Nat) (k : Nat) {post : va_W → Prop} :
    ∀ (S : Nat → Nat → Int32) (q : (Nat → Nat → Int32)), M_X7_takeEnd_0 k S = some q → post (wTk E a q) →
      WW E p l e rm_X7_takeEnd s m args below meth c A 0 0 (QV E below post args s rm_X7_takeEnd A) (wTk E a S) 1 [some (.ref (a 0))] 0 [] := by
  intro S q  h hq
  unfold M_X7_takeEnd_0 at h
  refine r_aload_n (pc := 0) C (i := 0) dX7_takeEnd_0 rfl rfl ?_
  refine r_get (pc := 1) C gwX7 0 rfl rfl 7 (by decide) wm_1_187 rfl dX7_takeEnd_1 ?_
  refine r_if_eq (pc := 4) C (tgt := 12) dX7_takeEnd_4 rfl (fun c1 => ?_) (fun c1 => ?_)
  · rw [if_pos c1] at h
    cases h
    exact r_vret (pc := 12) C hq (Nat.zero_le _) (Nat.zero_le _) dX7_takeEnd_12
  · rw [if_neg c1] at h
    refine r_aload_n (pc := 7) C (i := 0) dX7_takeEnd_7 rfl rfl ?_
    refine r_iconst (pc := 8) C (v := 1) dX7_takeEnd_8 (by decide) ?_
    obtain ⟨q2, hq2, h⟩ := bnd h
    refine r_callV_CV (Cn := RX7) (pc := 9) C [.int (1 : Int32)] (c_X7_fail E l k a S (1 : Int32) hq2) [0, 1, 2] rfl (by decide) 0 rfl rfl rfl g_X7_73 hd_X7_fail ⟨Nat.le_of_ble_eq_true rfl, Nat.le_of_ble_eq_true rfl⟩ ⟨Nat.zero_le _, Nat.zero_le _⟩ (Nat.le_of_ble_eq_true rfl) rfl dX7_takeEnd_9 (fun w1 hw1 => ?_)
    subst hw1
    refine ⟨(wTk E a q2), by rfl, ?_⟩
    cases h
    exact r_vret (pc := 12) C hq (Nat.zero_le _) (Nat.zero_le _) dX7_takeEnd_12
def M_X7_takeEnd (k : Nat) (S : Nat → Nat → Int32) : Option ((Nat → Nat → Int32)) := M_X7_takeEnd_0 k S
set_option maxRecDepth 100000 in
set_option maxHeartbeats 4000000 in
theorem c_X7_takeEnd (E : ENV) (l : Launch) (k : Nat) (a : Nat → Nat) (S : Nat → Nat → Int32) {q : (Nat → Nat → Int32)} (hm : M_X7_takeEnd k S = some q) : CV E l yX7_takeEnd cX7_takeEnd 1 none rm_X7_takeEnd [.ref (a 0)] (wTk E a S) (fun w' => w' = (wTk E a q)) :=
  CV.of 0 (by decide) (Nat.le_of_ble_eq_true rfl) (fun p e s m below meth c A C _ => r_weak (lSub_s lSub_e) (N_X7_takeEnd_0 C a k S q  hm rfl))
end WALKS
