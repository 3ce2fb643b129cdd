section WALKS
variable {E : ENV} {p : Program} {l : Launch} {e : Env} {s : State} {m : MethodId} {args : Array Value} {below : List Frame} {meth : Method} {c : Code} {A : Nat → Prop}
-- ShardGuardModel.leastOf(I)I
theorem dX10_leastOf_0 : decode cX10_leastOf 0 = .ok (.iload_n 0, 1) := by decide +kernel
theorem dX10_leastOf_1 : decode cX10_leastOf 1 = .ok (.iconst 1, 1) := by decide +kernel
theorem dX10_leastOf_2 : decode cX10_leastOf 2 = .ok (.if_icmp .ne 7, 3) := by decide +kernel
theorem dX10_leastOf_5 : decode cX10_leastOf 5 = .ok (.iconst 0, 1) := by decide +kernel
theorem dX10_leastOf_6 : decode cX10_leastOf 6 = .ok (.goto 4, 3) := by decide +kernel
theorem dX10_leastOf_9 : decode cX10_leastOf 9 = .ok (.iconst 1, 1) := by decide +kernel
theorem dX10_leastOf_10 : decode cX10_leastOf 10 = .ok (.ireturn, 1) := by decide +kernel
def rm_X10_leastOf : Room := { frames := 0, cells := 0, slots := 0, locals := 0 }
def M_X10_leastOf_0 (k : Nat) (p0 : Int32) : Option (Int32) := if p0 = (1 : Int32) then (some (0 : Int32)) else (some (1 : Int32))
set_option maxRecDepth 100000 in
set_option maxHeartbeats 4000000 in
theorem N_X10_leastOf_0 (C : CX E p l s m args meth c cX10_leastOf 1 RX10 (some .int) A) (k : Nat) {post : Int32 → va_W → Prop} :
    ∀ (p0 : Int32) (q : Int32), M_X10_leastOf_0 k p0 = some q → post q ([] : va_W) →
      WW E p l e rm_X10_leastOf s m args below meth c A 0 0 (QI E below post args s rm_X10_leastOf A) ([] : va_W) 1 [some (.int p0)] 0 [] := by
  intro p0 q  h hq
  unfold M_X10_leastOf_0 at h
  refine r_iload_n (pc := 0) C (i := 0) dX10_leastOf_0 rfl rfl ?_
  refine r_iconst (pc := 1) C (v := 1) dX10_leastOf_1 (by decide) ?_
  refine r_icmp_ne (pc := 2) C (tgt := 9) dX10_leastOf_2 rfl (fun c1 => ?_) (fun c1 => ?_)
  · rw [if_neg c1] at h
    refine r_iconst (pc := 9) C (v := 1) dX10_leastOf_9 (by decide) ?_
    cases h
    exact r_ireti (pc := 10) C hq (Nat.zero_le _) (Nat.zero_le _) dX10_leastOf_10
  · rw [if_pos c1] at h
    refine r_iconst (pc := 5) C (v := 0) dX10_leastOf_5 (by decide) ?_
    refine r_goto (pc := 6) C (tgt := 10) dX10_leastOf_6 rfl ?_
    cases h
    exact r_ireti (pc := 10) C hq (Nat.zero_le _) (Nat.zero_le _) dX10_leastOf_10
def M_X10_leastOf (k : Nat) (p0 : Int32) : Option (Int32) := M_X10_leastOf_0 k p0
set_option maxRecDepth 100000 in
set_option maxHeartbeats 4000000 in
theorem c_X10_leastOf (E : ENV) (l : Launch) (k : Nat) (p0 : Int32) {q : Int32} (hm : M_X10_leastOf k p0 = some q) : CI E l yX10_leastOf cX10_leastOf 1 (some .int) rm_X10_leastOf [.int p0] ([] : va_W) (fun r w' => r = q ∧ w' = ([] : va_W)) :=
  CI.of 0 (by decide) (Nat.le_of_ble_eq_true rfl) (fun p e s m below meth c A C _ => r_weak (lSub_s lSub_e) (N_X10_leastOf_0 C k p0 q  hm ⟨rfl, rfl⟩))
-- ShardGuardModel.mostOf(I)I
theorem dX10_mostOf_0 : decode cX10_mostOf 0 = .ok (.iload_n 0, 1) := by decide +kernel
theorem dX10_mostOf_1 : decode cX10_mostOf 1 = .ok (.tableswitch 42 0 3 #[31, 34, 36, 39], 31) := by decide +kernel
theorem dX10_mostOf_32 : decode cX10_mostOf 32 = .ok (.bipush 50, 2) := by decide +kernel
theorem dX10_mostOf_34 : decode cX10_mostOf 34 = .ok (.ireturn, 1) := by decide +kernel
theorem dX10_mostOf_35 : decode cX10_mostOf 35 = .ok (.iconst 5, 1) := by decide +kernel
theorem dX10_mostOf_36 : decode cX10_mostOf 36 = .ok (.ireturn, 1) := by decide +kernel
theorem dX10_mostOf_37 : decode cX10_mostOf 37 = .ok (.bipush 9, 2) := by decide +kernel
theorem dX10_mostOf_39 : decode cX10_mostOf 39 = .ok (.ireturn, 1) := by decide +kernel
theorem dX10_mostOf_40 : decode cX10_mostOf 40 = .ok (.bipush 99, 2) := by decide +kernel
theorem dX10_mostOf_42 : decode cX10_mostOf 42 = .ok (.ireturn, 1) := by decide +kernel
theorem dX10_mostOf_43 : decode cX10_mostOf 43 = .ok (.sipush 999, 3) := by decide +kernel
theorem dX10_mostOf_46 : decode cX10_mostOf 46 = .ok (.ireturn, 1) := by decide +kernel
def rm_X10_mostOf : Room := { frames := 0, cells := 0, slots := 0, locals := 0 }
def M_X10_mostOf_0 (k : Nat) (p0 : Int32) : Option (Int32) := if p0 = (0 : Int32) then (some (50 : Int32)) else (if p0 = (1 : Int32) then (some (5 : Int32)) else (if p0 = (2 : Int32) then (some (9 : Int32)) else (if p0 = (3 : Int32) then (some (99 : Int32)) else (some (999 : Int32)))))
set_option maxRecDepth 100000 in
set_option maxHeartbeats 4000000 in
theorem N_X10_mostOf_0 (C : CX E p l s m args meth c cX10_mostOf 1 RX10 (some .int) A) (k : Nat) {post : Int32 → va_W → Prop} :
    ∀ (p0 : Int32) (q : Int32), M_X10_mostOf_0 k p0 = some q → post q ([] : va_W) →
      WW E p l e rm_X10_mostOf s m args below meth c A 0 0 (QI E below post args s rm_X10_mostOf A) ([] : va_W) 1 [some (.int p0)] 0 [] := by
  intro p0 q  h hq
  unfold M_X10_mostOf_0 at h
  refine r_iload_n (pc := 0) C (i := 0) dX10_mostOf_0 rfl rfl ?_
  by_cases c1 : p0 = (0 : Int32)
  · rw [if_pos c1] at h
    refine r_tabIn (pc := 1) C 32 dX10_mostOf_1 c1 (by decide) (by decide) rfl rfl ?_
    refine r_bipush (pc := 32) C (v := 50) dX10_mostOf_32 (by decide) ?_
    cases h
    exact r_ireti (pc := 34) C hq (Nat.zero_le _) (Nat.zero_le _) dX10_mostOf_34
  · rw [if_neg c1] at h
    by_cases c2 : p0 = (1 : Int32)
    · rw [if_pos c2] at h
      refine r_tabIn (pc := 1) C 35 dX10_mostOf_1 c2 (by decide) (by decide) rfl rfl ?_
      refine r_iconst (pc := 35) C (v := 5) dX10_mostOf_35 (by decide) ?_
      cases h
      exact r_ireti (pc := 36) C hq (Nat.zero_le _) (Nat.zero_le _) dX10_mostOf_36
    · rw [if_neg c2] at h
      by_cases c3 : p0 = (2 : Int32)
      · rw [if_pos c3] at h
        refine r_tabIn (pc := 1) C 37 dX10_mostOf_1 c3 (by decide) (by decide) rfl rfl ?_
        refine r_bipush (pc := 37) C (v := 9) dX10_mostOf_37 (by decide) ?_
        cases h
        exact r_ireti (pc := 39) C hq (Nat.zero_le _) (Nat.zero_le _) dX10_mostOf_39
      · rw [if_neg c3] at h
        by_cases c4 : p0 = (3 : Int32)
        · rw [if_pos c4] at h
          refine r_tabIn (pc := 1) C 40 dX10_mostOf_1 c4 (by decide) (by decide) rfl rfl ?_
          refine r_bipush (pc := 40) C (v := 99) dX10_mostOf_40 (by decide) ?_
          cases h
          exact r_ireti (pc := 42) C hq (Nat.zero_le _) (Nat.zero_le _) dX10_mostOf_42
        · rw [if_neg c4] at h
          refine r_tabOut (pc := 1) C 43 dX10_mostOf_1 (by have := lv_neT (a := 0) c1 (by decide); have := lv_neT (a := 1) c2 (by decide); have := lv_neT (a := 2) c3 (by decide); have := lv_neT (a := 3) c4 (by decide); omega) rfl ?_
          refine r_sipush (pc := 43) C (v := 999) dX10_mostOf_43 (by decide) ?_
          cases h
          exact r_ireti (pc := 46) C hq (Nat.zero_le _) (Nat.zero_le _) dX10_mostOf_46
def M_X10_mostOf (k : Nat) (p0 : Int32) : Option (Int32) := M_X10_mostOf_0 k p0
set_option maxRecDepth 100000 in
set_option maxHeartbeats 4000000 in
theorem c_X10_mostOf (E : ENV) (l : Launch) (k : Nat) (p0 : Int32) {q : Int32} (hm : M_X10_mostOf k p0 = some q) : CI E l yX10_mostOf cX10_mostOf 1 (some .int) rm_X10_mostOf [.int p0] ([] : va_W) (fun r w' => r = q ∧ w' = ([] : va_W)) :=
  CI.of 0 (by decide) (Nat.le_of_ble_eq_true rfl) (fun p e s m below meth c A C _ => r_weak (lSub_s lSub_e) (N_X10_mostOf_0 C k p0 q  hm ⟨rfl, rfl⟩))
-- ShardGuardModel.write(I)V
theorem dX10_write_0 : decode cX10_write 0 = .ok (.aload_n 0, 1) := by decide +kernel
theorem dX10_write_1 : decode cX10_write 1 = .ok (.getfield 31, 3) := by decide +kernel
theorem dX10_write_4 : decode cX10_write 4 = .ok (.aload_n 0, 1) := by decide +kernel
theorem dX10_write_5 : decode cX10_write 5 = .ok (.getfield 315, 3) := by decide +kernel
theorem dX10_write_8 : decode cX10_write 8 = .ok (.iload_n 1, 1) := by decide +kernel
theorem dX10_write_9 : decode cX10_write 9 = .ok (.iastore, 1) := by decide +kernel
theorem dX10_write_10 : decode cX10_write 10 = .ok (.aload_n 0, 1) := by decide +kernel
theorem dX10_write_11 : decode cX10_write 11 = .ok (.dup, 1) := by decide +kernel
theorem dX10_write_12 : decode cX10_write 12 = .ok (.getfield 315, 3) := by decide +kernel
theorem dX10_write_15 : decode cX10_write 15 = .ok (.iconst 1, 1) := by decide +kernel
theorem dX10_write_16 : decode cX10_write 16 = .ok (.iadd, 1) := by decide +kernel
theorem dX10_write_17 : decode cX10_write 17 = .ok (.putfield 315, 3) := by decide +kernel
theorem dX10_write_20 : decode cX10_write 20 = .ok (.return_, 1) := by decide +kernel
def rm_X10_write : Room := { frames := 0, cells := 0, slots := 0, locals := 0 }
def M_X10_write_0 (k : Nat) (p0 : Int32) (S : Nat → Nat → Int32) : Option ((Nat → Nat → Int32)) := (if inb (S 0 5) 500 = true then lt (va_up S 7 (upd (S 7) (S 0 5).toNatClampNeg p0)) fun F2 => lt (va_up F2 0 (upd (F2 0) 5 ((F2 0 5) + (1 : Int32)))) fun F3 => some F3 else none)
set_option maxRecDepth 100000 in
set_option maxHeartbeats 4000000 in
theorem N_X10_write_0 (C : CX E p l s m args meth c cX10_write 2 RX10 none A) (a : Nat → Nat) (k : Nat) {post : va_W → Prop} :
    ∀ (p0 : Int32) (S : Nat → Nat → Int32) (q : (Nat → Nat → Int32)), M_X10_write_0 k p0 S = some q → post (wMd E a q) →
      WW E p l e rm_X10_write s m args below meth c A 0 0 (QV E below post args s rm_X10_write A) (wMd E a S) 2 [some (.ref (a 0)), some (.int p0)] 0 [] := by
  intro p0 S q  h hq
  unfold M_X10_write_0 at h
  refine r_aload_n (pc := 0) C (i := 0) dX10_write_0 rfl rfl ?_
  refine r_get (pc := 1) C gwX10 0 rfl rfl 11 (by decide) wm_5_214 rfl dX10_write_1 ?_
  refine r_aload_n (pc := 4) C (i := 0) dX10_write_4 rfl rfl ?_
  refine r_get (pc := 5) C gwX10 0 rfl rfl 12 (by decide) wm_5_215 rfl dX10_write_5 ?_
  refine r_iload_n (pc := 8) C (i := 1) dX10_write_8 rfl rfl ?_
  obtain ⟨hi1, h⟩ := ifn h
  obtain ⟨F2, hF2, h⟩ := lt_e h
  refine r_iast (pc := 9) C 7 rfl hi1 (w' := (wMd E a F2)) (by rw [hF2]; rfl) dX10_write_9 ?_
  refine r_aload_n (pc := 10) C (i := 0) dX10_write_10 rfl rfl ?_
  refine r_dup (pc := 11) C dX10_write_11 rfl ?_
  refine r_get (pc := 12) C gwX10 0 rfl rfl 12 (by decide) wm_5_215 rfl dX10_write_12 ?_
  refine r_iconst (pc := 15) C (v := 1) dX10_write_15 (by decide) ?_
  refine r_iadd (pc := 16) C dX10_write_16 ?_
  obtain ⟨F3, hF3, h⟩ := lt_e h
  refine r_put (pc := 17) C gwX10 tyX10 tyX10_ok nmX10 0 rfl rfl 12 (by decide) wm_5_215 rfl rfl rfl rfl (Nat.le_of_ble_eq_true rfl) (w' := (wMd E a F3)) (by rw [hF3]; rfl) dX10_write_17 ?_
  cases h
  exact r_vret (pc := 20) C hq (Nat.zero_le _) (Nat.zero_le _) dX10_write_20
def M_X10_write (k : Nat) (S : Nat → Nat → Int32) (p0 : Int32) : Option ((Nat → Nat → Int32)) := M_X10_write_0 k p0 S
set_option maxRecDepth 100000 in
set_option maxHeartbeats 4000000 in
theorem c_X10_write (E : ENV) (l : Launch) (k : Nat) (a : Nat → Nat) (S : Nat → Nat → Int32) (p0 : Int32) {q : (Nat → Nat → Int32)} (hm : M_X10_write k S p0 = some q) : CV E l yX10_write cX10_write 2 none rm_X10_write [.ref (a 0), .int p0] (wMd E a S) (fun w' => w' = (wMd E a q)) :=
  CV.of 0 (by decide) (Nat.le_of_ble_eq_true rfl) (fun p e s m below meth c A C _ => r_weak (lSub_s (lSub_s lSub_e)) (N_X10_write_0 C a k p0 S q  hm rfl))
theorem hd_X10_write : yX10_write.cls = RX10 ∧ yX10_write.cls ≠ "java/lang/invoke/MethodHandle" ∧ yX10_write.cls ≠ "java/lang/invoke/VarHandle" ∧ (parseMethodDescriptor yX10_write.desc).map (fun d => d.parameters.length) = some 1 := by decide +kernel
theorem g_X10_325 : GoodIn GW (wsV RX10 325 RX10 yX10_write (wsG yX10_write cX10_write 2 none)) := gw_V wm_7_165 wm_7_167 wm_0_74 wm_1_9 wm_7_168
-- ShardGuardModel.writeText(Ljava/lang/String;)V
theorem dX10_writeText_0 : decode cX10_writeText 0 = .ok (.iconst 0, 1) := by decide +kernel
theorem dX10_writeText_1 : decode cX10_writeText 1 = .ok (.istore_n 2, 1) := by decide +kernel
theorem dX10_writeText_2 : decode cX10_writeText 2 = .ok (.iload_n 2, 1) := by decide +kernel
theorem dX10_writeText_3 : decode cX10_writeText 3 = .ok (.aload_n 1, 1) := by decide +kernel
theorem dX10_writeText_4 : decode cX10_writeText 4 = .ok (.invokevirtual 318, 3) := by decide +kernel
theorem dX10_writeText_7 : decode cX10_writeText 7 = .ok (.if_icmp .ge 18, 3) := by decide +kernel
theorem dX10_writeText_10 : decode cX10_writeText 10 = .ok (.aload_n 0, 1) := by decide +kernel
theorem dX10_writeText_11 : decode cX10_writeText 11 = .ok (.aload_n 1, 1) := by decide +kernel
theorem dX10_writeText_12 : decode cX10_writeText 12 = .ok (.iload_n 2, 1) := by decide +kernel
theorem dX10_writeText_13 : decode cX10_writeText 13 = .ok (.invokevirtual 321, 3) := by decide +kernel
theorem dX10_writeText_16 : decode cX10_writeText 16 = .ok (.invokevirtual 325, 3) := by decide +kernel
theorem dX10_writeText_19 : decode cX10_writeText 19 = .ok (.iinc 2 1, 3) := by decide +kernel
theorem dX10_writeText_22 : decode cX10_writeText 22 = .ok (.goto (-20), 3) := by decide +kernel
theorem dX10_writeText_25 : decode cX10_writeText 25 = .ok (.return_, 1) := by decide +kernel
def rm_X10_writeText : Room := { frames := 6, cells := 0, slots := 0, locals := 150 }
def M_X10_writeText_2 (k : Nat) : Nat → (Nat) → (Int32) → (Nat → Nat → Int32) → Option ((Nat → Nat → Int32))
  | 0, _, _, _ => none
  | n + 1, t1, x2, S => if (nI (txB t1).length) ≤ x2 then (some S) else ((if inb x2 (txB t1).length = true then (M_X10_write k S ((txB t1).getD x2.toNatClampNeg 0)).bind fun q3 => M_X10_writeText_2 k n t1 (x2 + 1) q3 else none))
theorem M_X10_writeText_2_s (k : Nat) (n : Nat) (t1 : Nat) (x2 : Int32) (S : Nat → Nat → Int32) : M_X10_writeText_2 k (n + 1) t1 x2 S = (if (nI (txB t1).length) ≤ x2 then (some S) else ((if inb x2 (txB t1).length = true then (M_X10_write k S ((txB t1).getD x2.toNatClampNeg 0)).bind fun q3 => M_X10_writeText_2 k n t1 (x2 + 1) q3 else none))) := rfl
set_option maxRecDepth 100000 in
set_option maxHeartbeats 4000000 in
theorem N_X10_writeText_2 (C : CX E p l s m args meth c cX10_writeText 3 RX10 none A) (a : Nat → Nat) (k : Nat) {post : va_W → Prop} :
    ∀ (n : Nat) (t1 : Nat) (x2 : Int32) (S : Nat → Nat → Int32) (q : (Nat → Nat → Int32)), t1 < 79 → M_X10_writeText_2 k n t1 x2 S = some q → post (wMd E a q) →
      WW E p l e rm_X10_writeText s m args below meth c A 0 0 (QV E below post args s rm_X10_writeText A) (wMd E a S) 3 [some (.ref (a 0)), some (.ref (eS E t1)), some (.int x2)] 2 [] := by
  intro n
  induction n with
  | zero => intro t1 x2 S q hj_t1 h _; cases h
  | succ n ih =>
    intro t1 x2 S q hj_t1 h hq
    rw [M_X10_writeText_2_s] at h
    refine r_iload_n (pc := 2) C (i := 2) dX10_writeText_2 rfl rfl ?_
    refine r_aload_n (pc := 3) C (i := 1) dX10_writeText_3 rfl rfl ?_
    refine r_strlen (pc := 4) C hj_t1 wm_7_179 ⟨Nat.le_of_ble_eq_true rfl, Nat.le_of_ble_eq_true rfl⟩ ⟨Nat.zero_le _, Nat.zero_le _⟩ (Nat.le_of_ble_eq_true rfl) dX10_writeText_4 ?_
    refine r_icmp_ge (pc := 7) C (tgt := 25) dX10_writeText_7 rfl (fun c1 => ?_) (fun c1 => ?_)
    · rw [if_pos c1] at h
      cases h
      exact r_vret (pc := 25) C hq (Nat.zero_le _) (Nat.zero_le _) dX10_writeText_25
    · rw [if_neg c1] at h
      refine r_aload_n (pc := 10) C (i := 0) dX10_writeText_10 rfl rfl ?_
      refine r_aload_n (pc := 11) C (i := 1) dX10_writeText_11 rfl rfl ?_
      refine r_iload_n (pc := 12) C (i := 2) dX10_writeText_12 rfl rfl ?_
      obtain ⟨hi2, h⟩ := ifn h
      refine r_strat (pc := 13) C hj_t1 hi2 wm_7_180 ⟨Nat.le_of_ble_eq_true rfl, Nat.le_of_ble_eq_true rfl⟩ ⟨Nat.zero_le _, Nat.zero_le _⟩ (Nat.le_of_ble_eq_true rfl) dX10_writeText_13 ?_
      obtain ⟨q3, hq3, h⟩ := bnd h
      refine r_callV_CV (Cn := RX10) (pc := 16) C [.int ((txB t1).getD x2.toNatClampNeg 0)] (c_X10_write E l k a S ((txB t1).getD x2.toNatClampNeg 0) hq3) [0, 1, 2, 3, 4, 5, 6, 7, 8, 9, 10, 11, 12] rfl (by decide) 0 rfl rfl rfl g_X10_325 hd_X10_write ⟨Nat.le_of_ble_eq_true rfl, Nat.le_of_ble_eq_true rfl⟩ ⟨Nat.zero_le _, Nat.zero_le _⟩ (Nat.le_of_ble_eq_true rfl) rfl dX10_writeText_16 (fun w1 hw1 => ?_)
      subst hw1
      refine ⟨(wMd E a q3), by rfl, ?_⟩
      refine r_iinc (pc := 19) C (v := (x2 + 1)) dX10_writeText_19 rfl rfl (by decide) rfl ?_
      refine r_goto (pc := 22) C (tgt := 2) dX10_writeText_22 rfl ?_
      refine r_weak (lSub_s (lSub_s (lSub_s lSub_e))) ?_
      exact ih t1 (x2 + 1) q3 q hj_t1 h hq
def M_X10_writeText_0 (k : Nat) (p0 : Nat) (S : Nat → Nat → Int32) : Option ((Nat → Nat → Int32)) := M_X10_writeText_2 k k p0 (0 : Int32) S
set_option maxRecDepth 100000 in
set_option maxHeartbeats 4000000 in
theorem N_X10_writeText_0 (C : CX E p l s m args meth c cX10_writeText 3 RX10 none A) (a : Nat → Nat) (k : Nat) {post : va_W → Prop} :
    ∀ (p0 : Nat) (S : Nat → Nat → Int32) (q : (Nat → Nat → Int32)), p0 < 79 → M_X10_writeText_0 k p0 S = some q → post (wMd E a q) →
      WW E p l e rm_X10_writeText s m args below meth c A 0 0 (QV E below post args s rm_X10_writeText A) (wMd E a S) 3 [some (.ref (a 0)), some (.ref (eS E p0)), none] 0 [] := by
  intro p0 S q hj_p0 h hq
  unfold M_X10_writeText_0 at h
  refine r_iconst (pc := 0) C (v := 0) dX10_writeText_0 (by decide) ?_
  refine r_istore_n (pc := 1) C (i := 2) dX10_writeText_1 rfl (by decide) rfl ?_
  refine r_weak (lSub_s (lSub_s (lSub_s lSub_e))) ?_
  exact N_X10_writeText_2 C a k k p0 (0 : Int32) S q hj_p0 h hq
def M_X10_writeText (k : Nat) (S : Nat → Nat → Int32) (p0 : Nat) : Option ((Nat → Nat → Int32)) := M_X10_writeText_0 k p0 S
set_option maxRecDepth 100000 in
set_option maxHeartbeats 4000000 in
theorem c_X10_writeText (E : ENV) (l : Launch) (k : Nat) (a : Nat → Nat) (S : Nat → Nat → Int32) (p0 : Nat) (hj_p0 : p0 < 79) {q : (Nat → Nat → Int32)} (hm : M_X10_writeText k S p0 = some q) : CV E l yX10_writeText cX10_writeText 3 none rm_X10_writeText [.ref (a 0), .ref (eS E p0)] (wMd E a S) (fun w' => w' = (wMd E a q)) :=
  CV.of 1 (by decide) (Nat.le_of_ble_eq_true rfl) (fun p e s m below meth c A C _ => r_weak (lSub_s (lSub_s (lSub_n lSub_e))) (N_X10_writeText_0 C a k p0 S q hj_p0 hm rfl))
-- ShardGuardModel.writeNumber(I)V
theorem dX10_writeNumber_0 : decode cX10_writeNumber 0 = .ok (.iload_n 1, 1) := by decide +kernel
theorem dX10_writeNumber_1 : decode cX10_writeNumber 1 = .ok (.bipush 9, 2) := by decide +kernel
theorem dX10_writeNumber_3 : decode cX10_writeNumber 3 = .ok (.if_icmp .le 14, 3) := by decide +kernel
theorem dX10_writeNumber_6 : decode cX10_writeNumber 6 = .ok (.aload_n 0, 1) := by decide +kernel
theorem dX10_writeNumber_7 : decode cX10_writeNumber 7 = .ok (.bipush 48, 2) := by decide +kernel
theorem dX10_writeNumber_9 : decode cX10_writeNumber 9 = .ok (.iload_n 1, 1) := by decide +kernel
theorem dX10_writeNumber_10 : decode cX10_writeNumber 10 = .ok (.bipush 10, 2) := by decide +kernel
theorem dX10_writeNumber_12 : decode cX10_writeNumber 12 = .ok (.idiv, 1) := by decide +kernel
theorem dX10_writeNumber_13 : decode cX10_writeNumber 13 = .ok (.iadd, 1) := by decide +kernel
theorem dX10_writeNumber_14 : decode cX10_writeNumber 14 = .ok (.invokevirtual 325, 3) := by decide +kernel
theorem dX10_writeNumber_17 : decode cX10_writeNumber 17 = .ok (.aload_n 0, 1) := by decide +kernel
theorem dX10_writeNumber_18 : decode cX10_writeNumber 18 = .ok (.bipush 48, 2) := by decide +kernel
theorem dX10_writeNumber_20 : decode cX10_writeNumber 20 = .ok (.iload_n 1, 1) := by decide +kernel
theorem dX10_writeNumber_21 : decode cX10_writeNumber 21 = .ok (.bipush 10, 2) := by decide +kernel
theorem dX10_writeNumber_23 : decode cX10_writeNumber 23 = .ok (.irem, 1) := by decide +kernel
theorem dX10_writeNumber_24 : decode cX10_writeNumber 24 = .ok (.iadd, 1) := by decide +kernel
theorem dX10_writeNumber_25 : decode cX10_writeNumber 25 = .ok (.invokevirtual 325, 3) := by decide +kernel
theorem dX10_writeNumber_28 : decode cX10_writeNumber 28 = .ok (.return_, 1) := by decide +kernel
def rm_X10_writeNumber : Room := { frames := 1, cells := 0, slots := 0, locals := 21 }
def M_X10_writeNumber_0 (k : Nat) (p0 : Int32) (S : Nat → Nat → Int32) : Option ((Nat → Nat → Int32)) := if p0 ≤ (9 : Int32) then ((M_X10_write k S ((48 : Int32) + (p0 - p0 / (10 : Int32) * (10 : Int32)))).bind fun q2 => some q2) else ((M_X10_write k S ((48 : Int32) + (p0 / (10 : Int32)))).bind fun q3 => (M_X10_write k q3 ((48 : Int32) + (p0 - p0 / (10 : Int32) * (10 : Int32)))).bind fun q4 => some q4)
set_option maxRecDepth 100000 in
set_option maxHeartbeats 4000000 in
theorem N_X10_writeNumber_0 (C : CX E p l s m args meth c cX10_writeNumber 2 RX10 none A) (a : Nat → Nat) (k : Nat) {post : va_W → Prop} :
    ∀ (p0 : Int32) (S : Nat → Nat → Int32) (q : (Nat → Nat → Int32)), M_X10_writeNumber_0 k p0 S = some q → post (wMd E a q) →
      WW E p l e rm_X10_writeNumber s m args below meth c A 0 0 (QV E below post args s rm_X10_writeNumber A) (wMd E a S) 2 [some (.ref (a 0)), some (.int p0)] 0 [] := by
  intro p0 S q  h hq
  unfold M_X10_writeNumber_0 at h
  refine r_iload_n (pc := 0) C (i := 1) dX10_writeNumber_0 rfl rfl ?_
  refine r_bipush (pc := 1) C (v := 9) dX10_writeNumber_1 (by decide) ?_
  refine r_icmp_le (pc := 3) C (tgt := 17) dX10_writeNumber_3 rfl (fun c1 => ?_) (fun c1 => ?_)
  · rw [if_pos c1] at h
    refine r_aload_n (pc := 17) C (i := 0) dX10_writeNumber_17 rfl rfl ?_
    refine r_bipush (pc := 18) C (v := 48) dX10_writeNumber_18 (by decide) ?_
    refine r_iload_n (pc := 20) C (i := 1) dX10_writeNumber_20 rfl rfl ?_
    refine r_bipush (pc := 21) C (v := 10) dX10_writeNumber_21 (by decide) ?_
    refine r_irem (pc := 23) C dX10_writeNumber_23 (by decide) ?_
    refine r_iadd (pc := 24) C dX10_writeNumber_24 ?_
    obtain ⟨q2, hq2, h⟩ := bnd h
    refine r_callV_CV (Cn := RX10) (pc := 25) C [.int ((48 : Int32) + (p0 - p0 / (10 : Int32) * (10 : Int32)))] (c_X10_write E l k a S ((48 : Int32) + (p0 - p0 / (10 : Int32) * (10 : Int32))) hq2) [0, 1, 2, 3, 4, 5, 6, 7, 8, 9, 10, 11, 12] rfl (by decide) 0 rfl rfl rfl g_X10_325 hd_X10_write ⟨Nat.le_of_ble_eq_true rfl, Nat.le_of_ble_eq_true rfl⟩ ⟨Nat.zero_le _, Nat.zero_le _⟩ (Nat.le_of_ble_eq_true rfl) rfl dX10_writeNumber_25 (fun w1 hw1 => ?_)
    subst hw1
    refine ⟨(wMd E a q2), by rfl, ?_⟩
    cases h
    exact r_vret (pc := 28) C hq (Nat.zero_le _) (Nat.zero_le _) dX10_writeNumber_28
  · rw [if_neg c1] at h
    refine r_aload_n (pc := 6) C (i := 0) dX10_writeNumber_6 rfl rfl ?_
    refine r_bipush (pc := 7) C (v := 48) dX10_writeNumber_7 (by decide) ?_
    refine r_iload_n (pc := 9) C (i := 1) dX10_writeNumber_9 rfl rfl ?_
    refine r_bipush (pc := 10) C (v := 10) dX10_writeNumber_10 (by decide) ?_
    refine r_idiv (pc := 12) C dX10_writeNumber_12 (by decide) ?_
    refine r_iadd (pc := 13) C dX10_writeNumber_13 ?_
    obtain ⟨q3, hq3, h⟩ := bnd h
    refine r_callV_CV (Cn := RX10) (pc := 14) C [.int ((48 : Int32) + (p0 / (10 : Int32)))] (c_X10_write E l k a S ((48 : Int32) + (p0 / (10 : Int32))) hq3) [0, 1, 2, 3, 4, 5, 6, 7, 8, 9, 10, 11, 12] rfl (by decide) 0 rfl rfl rfl g_X10_325 hd_X10_write ⟨Nat.le_of_ble_eq_true rfl, Nat.le_of_ble_eq_true rfl⟩ ⟨Nat.zero_le _, Nat.zero_le _⟩ (Nat.le_of_ble_eq_true rfl) rfl dX10_writeNumber_14 (fun w1 hw1 => ?_)
    subst hw1
    refine ⟨(wMd E a q3), by rfl, ?_⟩
    refine r_aload_n (pc := 17) C (i := 0) dX10_writeNumber_17 rfl rfl ?_
    refine r_bipush (pc := 18) C (v := 48) dX10_writeNumber_18 (by decide) ?_
    refine r_iload_n (pc := 20) C (i := 1) dX10_writeNumber_20 rfl rfl ?_
    refine r_bipush (pc := 21) C (v := 10) dX10_writeNumber_21 (by decide) ?_
    refine r_irem (pc := 23) C dX10_writeNumber_23 (by decide) ?_
    refine r_iadd (pc := 24) C dX10_writeNumber_24 ?_
    obtain ⟨q4, hq4, h⟩ := bnd h
    refine r_callV_CV (Cn := RX10) (pc := 25) C [.int ((48 : Int32) + (p0 - p0 / (10 : Int32) * (10 : Int32)))] (c_X10_write E l k a q3 ((48 : Int32) + (p0 - p0 / (10 : Int32) * (10 : Int32))) hq4) [0, 1, 2, 3, 4, 5, 6, 7, 8, 9, 10, 11, 12] rfl (by decide) 0 rfl rfl rfl g_X10_325 hd_X10_write ⟨Nat.le_of_ble_eq_true rfl, Nat.le_of_ble_eq_true rfl⟩ ⟨Nat.zero_le _, Nat.zero_le _⟩ (Nat.le_of_ble_eq_true rfl) rfl dX10_writeNumber_25 (fun w1 hw1 => ?_)
    subst hw1
    refine ⟨(wMd E a q4), by rfl, ?_⟩
    cases h
    exact r_vret (pc := 28) C hq (Nat.zero_le _) (Nat.zero_le _) dX10_writeNumber_28
def M_X10_writeNumber (k : Nat) (S : Nat → Nat → Int32) (p0 : Int32) : Option ((Nat → Nat → Int32)) := M_X10_writeNumber_0 k p0 S
set_option maxRecDepth 100000 in
set_option maxHeartbeats 4000000 in
theorem c_X10_writeNumber (E : ENV) (l : Launch) (k : Nat) (a : Nat → Nat) (S : Nat → Nat → Int32) (p0 : Int32) {q : (Nat → Nat → Int32)} (hm : M_X10_writeNumber k S p0 = some q) : CV E l yX10_writeNumber cX10_writeNumber 2 none rm_X10_writeNumber [.ref (a 0), .int p0] (wMd E a S) (fun w' => w' = (wMd E a q)) :=
  CV.of 0 (by decide) (Nat.le_of_ble_eq_true rfl) (fun p e s m below meth c A C _ => r_weak (lSub_s (lSub_s lSub_e)) (N_X10_writeNumber_0 C a k p0 S q  hm rfl))
theorem hd_X10_writeText : yX10_writeText.cls = RX10 ∧ yX10_writeText.cls ≠ "java/lang/invoke/MethodHandle" ∧ yX10_writeText.cls ≠ "java/lang/invoke/VarHandle" ∧ (parseMethodDescriptor yX10_writeText.desc).map (fun d => d.parameters.length) = some 1 := by decide +kernel
theorem g_X10_335 : GoodIn GW (wsV RX10 335 RX10 yX10_writeText (wsG yX10_writeText cX10_writeText 3 none)) := gw_V wm_7_175 wm_7_177 wm_0_76 wm_1_9 wm_7_178
theorem hd_X10_writeNumber : yX10_writeNumber.cls = RX10 ∧ yX10_writeNumber.cls ≠ "java/lang/invoke/MethodHandle" ∧ yX10_writeNumber.cls ≠ "java/lang/invoke/VarHandle" ∧ (parseMethodDescriptor yX10_writeNumber.desc).map (fun d => d.parameters.length) = some 1 := by decide +kernel
theorem g_X10_328 : GoodIn GW (wsV RX10 328 RX10 yX10_writeNumber (wsG yX10_writeNumber cX10_writeNumber 2 none)) := gw_V wm_7_169 wm_7_171 wm_0_75 wm_1_9 wm_7_172
-- ShardGuardModel.writeRequest(I)V
theorem dX10_writeRequest_0 : decode cX10_writeRequest 0 = .ok (.aload_n 0, 1) := by decide +kernel
theorem dX10_writeRequest_1 : decode cX10_writeRequest 1 = .ok (.bipush 32, 2) := by decide +kernel
theorem dX10_writeRequest_3 : decode cX10_writeRequest 3 = .ok (.invokevirtual 325, 3) := by decide +kernel
theorem dX10_writeRequest_6 : decode cX10_writeRequest 6 = .ok (.aload_n 0, 1) := by decide +kernel
theorem dX10_writeRequest_7 : decode cX10_writeRequest 7 = .ok (.iload_n 1, 1) := by decide +kernel
theorem dX10_writeRequest_8 : decode cX10_writeRequest 8 = .ok (.invokevirtual 328, 3) := by decide +kernel
theorem dX10_writeRequest_11 : decode cX10_writeRequest 11 = .ok (.aload_n 0, 1) := by decide +kernel
theorem dX10_writeRequest_12 : decode cX10_writeRequest 12 = .ok (.aload_n 0, 1) := by decide +kernel
theorem dX10_writeRequest_13 : decode cX10_writeRequest 13 = .ok (.iload_n 1, 1) := by decide +kernel
theorem dX10_writeRequest_14 : decode cX10_writeRequest 14 = .ok (.iconst 3, 1) := by decide +kernel
theorem dX10_writeRequest_15 : decode cX10_writeRequest 15 = .ok (.invokevirtual 123, 3) := by decide +kernel
theorem dX10_writeRequest_18 : decode cX10_writeRequest 18 = .ok (.iconst 1, 1) := by decide +kernel
theorem dX10_writeRequest_19 : decode cX10_writeRequest 19 = .ok (.if_icmp .ne 9, 3) := by decide +kernel
theorem dX10_writeRequest_22 : decode cX10_writeRequest 22 = .ok (.ldc_w 331, 3) := by decide +kernel
theorem dX10_writeRequest_25 : decode cX10_writeRequest 25 = .ok (.goto 6, 3) := by decide +kernel
theorem dX10_writeRequest_28 : decode cX10_writeRequest 28 = .ok (.ldc_w 333, 3) := by decide +kernel
theorem dX10_writeRequest_31 : decode cX10_writeRequest 31 = .ok (.invokevirtual 335, 3) := by decide +kernel
theorem dX10_writeRequest_34 : decode cX10_writeRequest 34 = .ok (.aload_n 0, 1) := by decide +kernel
theorem dX10_writeRequest_35 : decode cX10_writeRequest 35 = .ok (.aload_n 0, 1) := by decide +kernel
theorem dX10_writeRequest_36 : decode cX10_writeRequest 36 = .ok (.iload_n 1, 1) := by decide +kernel
theorem dX10_writeRequest_37 : decode cX10_writeRequest 37 = .ok (.iconst 2, 1) := by decide +kernel
theorem dX10_writeRequest_38 : decode cX10_writeRequest 38 = .ok (.invokevirtual 123, 3) := by decide +kernel
theorem dX10_writeRequest_41 : decode cX10_writeRequest 41 = .ok (.invokevirtual 328, 3) := by decide +kernel
theorem dX10_writeRequest_44 : decode cX10_writeRequest 44 = .ok (.return_, 1) := by decide +kernel
def rm_X10_writeRequest : Room := { frames := 7, cells := 0, slots := 0, locals := 172 }
def M_X10_writeRequest_31 (k : Nat) (x1 : Int32) (y1 : Nat) (S : Nat → Nat → Int32) : Option ((Nat → Nat → Int32)) := (M_X10_writeText k S y1).bind fun q1 => (M_X10_of k q1 x1 (2 : Int32)).bind fun q2 => (M_X10_writeNumber k q1 q2).bind fun q3 => some q3
set_option maxRecDepth 100000 in
set_option maxHeartbeats 4000000 in
theorem N_X10_writeRequest_31 (C : CX E p l s m args meth c cX10_writeRequest 2 RX10 none A) (a : Nat → Nat) (k : Nat) {post : va_W → Prop} :
    ∀ (x1 : Int32) (y1 : Nat) (S : Nat → Nat → Int32) (q : (Nat → Nat → Int32)), y1 < 79 → M_X10_writeRequest_31 k x1 y1 S = some q → post (wMd E a q) →
      WW E p l e rm_X10_writeRequest s m args below meth c A 0 0 (QV E below post args s rm_X10_writeRequest A) (wMd E a S) 2 [some (.ref (a 0)), some (.int x1)] 31 [.ref (eS E y1), .ref (a 0)] := by
  intro x1 y1 S q hj_y1 h hq
  unfold M_X10_writeRequest_31 at h
  obtain ⟨q1, hq1, h⟩ := bnd h
  refine r_callV_CV (Cn := RX10) (pc := 31) C [.ref (eS E y1)] (c_X10_writeText E l k a S y1 hj_y1 hq1) [0, 1, 2, 3, 4, 5, 6, 7, 8, 9, 10, 11, 12] rfl (by decide) 0 rfl rfl rfl g_X10_335 hd_X10_writeText ⟨Nat.le_of_ble_eq_true rfl, Nat.le_of_ble_eq_true rfl⟩ ⟨Nat.zero_le _, Nat.zero_le _⟩ (Nat.le_of_ble_eq_true rfl) rfl dX10_writeRequest_31 (fun w1 hw1 => ?_)
  subst hw1
  refine ⟨(wMd E a q1), by rfl, ?_⟩
  refine r_aload_n (pc := 34) C (i := 0) dX10_writeRequest_34 rfl rfl ?_
  refine r_aload_n (pc := 35) C (i := 0) dX10_writeRequest_35 rfl rfl ?_
  refine r_iload_n (pc := 36) C (i := 1) dX10_writeRequest_36 rfl rfl ?_
  refine r_iconst (pc := 37) C (v := 2) dX10_writeRequest_37 (by decide) ?_
  obtain ⟨q2, hq2, h⟩ := bnd h
  refine r_callVp_CI (Cn := RX10) (pc := 38) C [.int x1, .int (2 : Int32)] (c_X10_of E l k a q1 x1 (2 : Int32) hq2) [0, 1, 2, 3, 4, 5, 6, 7, 8, 9, 10, 11, 12] rfl (by decide) 0 rfl rfl rfl g_X10_123 hd_X10_of ⟨Nat.le_of_ble_eq_true rfl, Nat.le_of_ble_eq_true rfl⟩ ⟨Nat.zero_le _, Nat.zero_le _⟩ (Nat.le_of_ble_eq_true rfl) rfl dX10_writeRequest_38 (fun r hr => ?_)
  have hr := hr.symm
  subst hr
  obtain ⟨q3, hq3, h⟩ := bnd h
  refine r_callV_CV (Cn := RX10) (pc := 41) C [.int q2] (c_X10_writeNumber E l k a q1 q2 hq3) [0, 1, 2, 3, 4, 5, 6, 7, 8, 9, 10, 11, 12] rfl (by decide) 0 rfl rfl rfl g_X10_328 hd_X10_writeNumber ⟨Nat.le_of_ble_eq_true rfl, Nat.le_of_ble_eq_true rfl⟩ ⟨Nat.zero_le _, Nat.zero_le _⟩ (Nat.le_of_ble_eq_true rfl) rfl dX10_writeRequest_41 (fun w1 hw1 => ?_)
  subst hw1
  refine ⟨(wMd E a q3), by rfl, ?_⟩
  cases h
  exact r_vret (pc := 44) C hq (Nat.zero_le _) (Nat.zero_le _) dX10_writeRequest_44
def M_X10_writeRequest_0 (k : Nat) (p0 : Int32) (S : Nat → Nat → Int32) : Option ((Nat → Nat → Int32)) := (M_X10_write k S (32 : Int32)).bind fun q4 => (M_X10_writeNumber k q4 p0).bind fun q5 => (M_X10_of k q5 p0 (3 : Int32)).bind fun q6 => if q6 = (1 : Int32) then (M_X10_writeRequest_31 k p0 70 q5) else (M_X10_writeRequest_31 k p0 71 q5)
set_option maxRecDepth 100000 in
set_option maxHeartbeats 4000000 in
theorem N_X10_writeRequest_0 (C : CX E p l s m args meth c cX10_writeRequest 2 RX10 none A) (a : Nat → Nat) (k : Nat) {post : va_W → Prop} :
    ∀ (p0 : Int32) (S : Nat → Nat → Int32) (q : (Nat → Nat → Int32)), M_X10_writeRequest_0 k p0 S = some q → post (wMd E a q) →
      WW E p l e rm_X10_writeRequest s m args below meth c A 0 0 (QV E below post args s rm_X10_writeRequest A) (wMd E a S) 2 [some (.ref (a 0)), some (.int p0)] 0 [] := by
  intro p0 S q  h hq
  unfold M_X10_writeRequest_0 at h
  refine r_aload_n (pc := 0) C (i := 0) dX10_writeRequest_0 rfl rfl ?_
  refine r_bipush (pc := 1) C (v := 32) dX10_writeRequest_1 (by decide) ?_
  obtain ⟨q4, hq4, h⟩ := bnd h
  refine r_callV_CV (Cn := RX10) (pc := 3) C [.int (32 : Int32)] (c_X10_write E l k a S (32 : Int32) hq4) [0, 1, 2, 3, 4, 5, 6, 7, 8, 9, 10, 11, 12] rfl (by decide) 0 rfl rfl rfl g_X10_325 hd_X10_write ⟨Nat.le_of_ble_eq_true rfl, Nat.le_of_ble_eq_true rfl⟩ ⟨Nat.zero_le _, Nat.zero_le _⟩ (Nat.le_of_ble_eq_true rfl) rfl dX10_writeRequest_3 (fun w1 hw1 => ?_)
  subst hw1
  refine ⟨(wMd E a q4), by rfl, ?_⟩
  refine r_aload_n (pc := 6) C (i := 0) dX10_writeRequest_6 rfl rfl ?_
  refine r_iload_n (pc := 7) C (i := 1) dX10_writeRequest_7 rfl rfl ?_
  obtain ⟨q5, hq5, h⟩ := bnd h
  refine r_callV_CV (Cn := RX10) (pc := 8) C [.int p0] (c_X10_writeNumber E l k a q4 p0 hq5) [0, 1, 2, 3, 4, 5, 6, 7, 8, 9, 10, 11, 12] rfl (by decide) 0 rfl rfl rfl g_X10_328 hd_X10_writeNumber ⟨Nat.le_of_ble_eq_true rfl, Nat.le_of_ble_eq_true rfl⟩ ⟨Nat.zero_le _, Nat.zero_le _⟩ (Nat.le_of_ble_eq_true rfl) rfl dX10_writeRequest_8 (fun w1 hw1 => ?_)
  subst hw1
  refine ⟨(wMd E a q5), by rfl, ?_⟩
  refine r_aload_n (pc := 11) C (i := 0) dX10_writeRequest_11 rfl rfl ?_
  refine r_aload_n (pc := 12) C (i := 0) dX10_writeRequest_12 rfl rfl ?_
  refine r_iload_n (pc := 13) C (i := 1) dX10_writeRequest_13 rfl rfl ?_
  refine r_iconst (pc := 14) C (v := 3) dX10_writeRequest_14 (by decide) ?_
  obtain ⟨q6, hq6, h⟩ := bnd h
  refine r_callVp_CI (Cn := RX10) (pc := 15) C [.int p0, .int (3 : Int32)] (c_X10_of E l k a q5 p0 (3 : Int32) hq6) [0, 1, 2, 3, 4, 5, 6, 7, 8, 9, 10, 11, 12] rfl (by decide) 0 rfl rfl rfl g_X10_123 hd_X10_of ⟨Nat.le_of_ble_eq_true rfl, Nat.le_of_ble_eq_true rfl⟩ ⟨Nat.zero_le _, Nat.zero_le _⟩ (Nat.le_of_ble_eq_true rfl) rfl dX10_writeRequest_15 (fun r hr => ?_)
  have hr := hr.symm
  subst hr
  refine r_iconst (pc := 18) C (v := 1) dX10_writeRequest_18 (by decide) ?_
  refine r_icmp_ne (pc := 19) C (tgt := 28) dX10_writeRequest_19 rfl (fun c7 => ?_) (fun c7 => ?_)
  · rw [if_neg c7] at h
    refine r_ldcwS (pc := 28) C 71 rfl dX10_writeRequest_28 ?_
    refine r_weak (lSub_s (lSub_s lSub_e)) ?_
    exact N_X10_writeRequest_31 C a k p0 71 q5 q (by decide) h hq
  · rw [if_pos c7] at h
    refine r_ldcwS (pc := 22) C 70 rfl dX10_writeRequest_22 ?_
    refine r_goto (pc := 25) C (tgt := 31) dX10_writeRequest_25 rfl ?_
    refine r_weak (lSub_s (lSub_s lSub_e)) ?_
    exact N_X10_writeRequest_31 C a k p0 70 q5 q (by decide) h hq
def M_X10_writeRequest (k : Nat) (S : Nat → Nat → Int32) (p0 : Int32) : Option ((Nat → Nat → Int32)) := M_X10_writeRequest_0 k p0 S
set_option maxRecDepth 100000 in
set_option maxHeartbeats 4000000 in
theorem c_X10_writeRequest (E : ENV) (l : Launch) (k : Nat) (a : Nat → Nat) (S : Nat → Nat → Int32) (p0 : Int32) {q : (Nat → Nat → Int32)} (hm : M_X10_writeRequest k S p0 = some q) : CV E l yX10_writeRequest cX10_writeRequest 2 none rm_X10_writeRequest [.ref (a 0), .int p0] (wMd E a S) (fun w' => w' = (wMd E a q)) :=
  CV.of 0 (by decide) (Nat.le_of_ble_eq_true rfl) (fun p e s m below meth c A C _ => r_weak (lSub_s (lSub_s lSub_e)) (N_X10_writeRequest_0 C a k p0 S q  hm rfl))
theorem hd_X10_writeRequest : yX10_writeRequest.cls = RX10 ∧ yX10_writeRequest.cls ≠ "java/lang/invoke/MethodHandle" ∧ yX10_writeRequest.cls ≠ "java/lang/invoke/VarHandle" ∧ (parseMethodDescriptor yX10_writeRequest.desc).map (fun d => d.parameters.length) = some 1 := by decide +kernel
theorem g_X10_343 : GoodIn GW (wsV RX10 343 RX10 yX10_writeRequest (wsG yX10_writeRequest cX10_writeRequest 2 none)) := gw_V wm_7_181 wm_7_183 wm_0_77 wm_1_9 wm_7_184
-- ShardGuardModel.format(I)I
theorem dX10_format_0 : decode cX10_format 0 = .ok (.aload_n 0, 1) := by decide +kernel
theorem dX10_format_1 : decode cX10_format 1 = .ok (.iconst 0, 1) := by decide +kernel
theorem dX10_format_2 : decode cX10_format 2 = .ok (.putfield 93, 3) := by decide +kernel
theorem dX10_format_5 : decode cX10_format 5 = .ok (.aload_n 0, 1) := by decide +kernel
theorem dX10_format_6 : decode cX10_format 6 = .ok (.iload_n 1, 1) := by decide +kernel
theorem dX10_format_7 : decode cX10_format 7 = .ok (.invokevirtual 270, 3) := by decide +kernel
theorem dX10_format_10 : decode cX10_format 10 = .ok (.ifCond .ne 9, 3) := by decide +kernel
theorem dX10_format_13 : decode cX10_format 13 = .ok (.aload_n 0, 1) := by decide +kernel
theorem dX10_format_14 : decode cX10_format 14 = .ok (.iconst 1, 1) := by decide +kernel
theorem dX10_format_15 : decode cX10_format 15 = .ok (.invokevirtual 267, 3) := by decide +kernel
theorem dX10_format_18 : decode cX10_format 18 = .ok (.ireturn, 1) := by decide +kernel
theorem dX10_format_19 : decode cX10_format 19 = .ok (.aload_n 0, 1) := by decide +kernel
theorem dX10_format_20 : decode cX10_format 20 = .ok (.iconst 0, 1) := by decide +kernel
theorem dX10_format_21 : decode cX10_format 21 = .ok (.putfield 315, 3) := by decide +kernel
theorem dX10_format_24 : decode cX10_format 24 = .ok (.aload_n 0, 1) := by decide +kernel
theorem dX10_format_25 : decode cX10_format 25 = .ok (.bipush 119, 2) := by decide +kernel
theorem dX10_format_27 : decode cX10_format 27 = .ok (.invokevirtual 325, 3) := by decide +kernel
theorem dX10_format_30 : decode cX10_format 30 = .ok (.aload_n 0, 1) := by decide +kernel
theorem dX10_format_31 : decode cX10_format 31 = .ok (.iload_n 1, 1) := by decide +kernel
theorem dX10_format_32 : decode cX10_format 32 = .ok (.invokevirtual 328, 3) := by decide +kernel
theorem dX10_format_35 : decode cX10_format 35 = .ok (.aload_n 0, 1) := by decide +kernel
theorem dX10_format_36 : decode cX10_format 36 = .ok (.aload_n 0, 1) := by decide +kernel
theorem dX10_format_37 : decode cX10_format 37 = .ok (.iload_n 1, 1) := by decide +kernel
theorem dX10_format_38 : decode cX10_format 38 = .ok (.invokevirtual 137, 3) := by decide +kernel
theorem dX10_format_41 : decode cX10_format 41 = .ok (.ifCond .eq 9, 3) := by decide +kernel
theorem dX10_format_44 : decode cX10_format 44 = .ok (.ldc_w 339, 3) := by decide +kernel
theorem dX10_format_47 : decode cX10_format 47 = .ok (.goto 6, 3) := by decide +kernel
theorem dX10_format_50 : decode cX10_format 50 = .ok (.ldc_w 341, 3) := by decide +kernel
theorem dX10_format_53 : decode cX10_format 53 = .ok (.invokevirtual 335, 3) := by decide +kernel
theorem dX10_format_56 : decode cX10_format 56 = .ok (.aload_n 0, 1) := by decide +kernel
theorem dX10_format_57 : decode cX10_format 57 = .ok (.iconst 0, 1) := by decide +kernel
theorem dX10_format_58 : decode cX10_format 58 = .ok (.iload_n 1, 1) := by decide +kernel
theorem dX10_format_59 : decode cX10_format 59 = .ok (.iconst 0, 1) := by decide +kernel
theorem dX10_format_60 : decode cX10_format 60 = .ok (.invokevirtual 154, 3) := by decide +kernel
theorem dX10_format_63 : decode cX10_format 63 = .ok (.istore_n 2, 1) := by decide +kernel
theorem dX10_format_64 : decode cX10_format 64 = .ok (.iload_n 2, 1) := by decide +kernel
theorem dX10_format_65 : decode cX10_format 65 = .ok (.iconst (-1), 1) := by decide +kernel
theorem dX10_format_66 : decode cX10_format 66 = .ok (.if_icmp .eq 27, 3) := by decide +kernel
theorem dX10_format_69 : decode cX10_format 69 = .ok (.aload_n 0, 1) := by decide +kernel
theorem dX10_format_70 : decode cX10_format 70 = .ok (.iload_n 2, 1) := by decide +kernel
theorem dX10_format_71 : decode cX10_format 71 = .ok (.invokevirtual 343, 3) := by decide +kernel
theorem dX10_format_74 : decode cX10_format 74 = .ok (.aload_n 0, 1) := by decide +kernel
theorem dX10_format_75 : decode cX10_format 75 = .ok (.iconst 0, 1) := by decide +kernel
theorem dX10_format_76 : decode cX10_format 76 = .ok (.iload_n 1, 1) := by decide +kernel
theorem dX10_format_77 : decode cX10_format 77 = .ok (.aload_n 0, 1) := by decide +kernel
theorem dX10_format_78 : decode cX10_format 78 = .ok (.iload_n 2, 1) := by decide +kernel
theorem dX10_format_79 : decode cX10_format 79 = .ok (.bipush 8, 2) := by decide +kernel
theorem dX10_format_81 : decode cX10_format 81 = .ok (.invokevirtual 123, 3) := by decide +kernel
theorem dX10_format_84 : decode cX10_format 84 = .ok (.iconst 1, 1) := by decide +kernel
theorem dX10_format_85 : decode cX10_format 85 = .ok (.iadd, 1) := by decide +kernel
theorem dX10_format_86 : decode cX10_format 86 = .ok (.invokevirtual 154, 3) := by decide +kernel
theorem dX10_format_89 : decode cX10_format 89 = .ok (.istore_n 2, 1) := by decide +kernel
theorem dX10_format_90 : decode cX10_format 90 = .ok (.goto (-26), 3) := by decide +kernel
theorem dX10_format_93 : decode cX10_format 93 = .ok (.aload_n 0, 1) := by decide +kernel
theorem dX10_format_94 : decode cX10_format 94 = .ok (.getfield 315, 3) := by decide +kernel
theorem dX10_format_97 : decode cX10_format 97 = .ok (.ireturn, 1) := by decide +kernel
def rm_X10_format : Room := { frames := 8, cells := 0, slots := 0, locals := 193 }
def M_X10_format_64 (k : Nat) : Nat → (Int32) → (Int32) → (Nat → Nat → Int32) → Option (Int32 × (Nat → Nat → Int32))
  | 0, _, _, _ => none
  | n + 1, x1, x2, S => if x2 = (-1 : Int32) then (some ((S 0 5), S)) else ((M_X10_writeRequest k S x2).bind fun q2 => (M_X10_of k q2 x2 (8 : Int32)).bind fun q3 => (M_X10_next k q2 (0 : Int32) x1 (q3 + (1 : Int32))).bind fun q4 => M_X10_format_64 k n x1 q4 q2)
theorem M_X10_format_64_s (k : Nat) (n : Nat) (x1 : Int32) (x2 : Int32) (S : Nat → Nat → Int32) : M_X10_format_64 k (n + 1) x1 x2 S = (if x2 = (-1 : Int32) then (some ((S 0 5), S)) else ((M_X10_writeRequest k S x2).bind fun q2 => (M_X10_of k q2 x2 (8 : Int32)).bind fun q3 => (M_X10_next k q2 (0 : Int32) x1 (q3 + (1 : Int32))).bind fun q4 => M_X10_format_64 k n x1 q4 q2)) := rfl
set_option maxRecDepth 100000 in
set_option maxHeartbeats 4000000 in
theorem N_X10_format_64 (C : CX E p l s m args meth c cX10_format 3 RX10 (some .int) A) (a : Nat → Nat) (k : Nat) {post : Int32 → va_W → Prop} :
    ∀ (n : Nat) (x1 : Int32) (x2 : Int32) (S : Nat → Nat → Int32) (q : Int32 × (Nat → Nat → Int32)), M_X10_format_64 k n x1 x2 S = some q → post q.1 (wMd E a q.2) →
      WW E p l e rm_X10_format s m args below meth c A 0 0 (QI E below post args s rm_X10_format A) (wMd E a S) 3 [some (.ref (a 0)), some (.int x1), some (.int x2)] 64 [] := by
  intro n
  induction n with
  | zero => intro x1 x2 S q  h _; cases h
  | succ n ih =>
    intro x1 x2 S q  h hq
    rw [M_X10_format_64_s] at h
    refine r_iload_n (pc := 64) C (i := 2) dX10_format_64 rfl rfl ?_
    refine r_iconst (pc := 65) C (v := (-1)) dX10_format_65 (by decide) ?_
    refine r_icmp_eq (pc := 66) C (tgt := 93) dX10_format_66 rfl (fun c1 => ?_) (fun c1 => ?_)
    · rw [if_pos c1] at h
      refine r_aload_n (pc := 93) C (i := 0) dX10_format_93 rfl rfl ?_
      refine r_get (pc := 94) C gwX10 0 rfl rfl 12 (by decide) wm_5_215 rfl dX10_format_94 ?_
      cases h
      exact r_ireti (pc := 97) C hq (Nat.zero_le _) (Nat.zero_le _) dX10_format_97
    · rw [if_neg c1] at h
      refine r_aload_n (pc := 69) C (i := 0) dX10_format_69 rfl rfl ?_
      refine r_iload_n (pc := 70) C (i := 2) dX10_format_70 rfl rfl ?_
      obtain ⟨q2, hq2, h⟩ := bnd h
      refine r_callV_CV (Cn := RX10) (pc := 71) C [.int x2] (c_X10_writeRequest E l k a S x2 hq2) [0, 1, 2, 3, 4, 5, 6, 7, 8, 9, 10, 11, 12] rfl (by decide) 0 rfl rfl rfl g_X10_343 hd_X10_writeRequest ⟨Nat.le_of_ble_eq_true rfl, Nat.le_of_ble_eq_true rfl⟩ ⟨Nat.zero_le _, Nat.zero_le _⟩ (Nat.le_of_ble_eq_true rfl) rfl dX10_format_71 (fun w1 hw1 => ?_)
      subst hw1
      refine ⟨(wMd E a q2), by rfl, ?_⟩
      refine r_aload_n (pc := 74) C (i := 0) dX10_format_74 rfl rfl ?_
      refine r_iconst (pc := 75) C (v := 0) dX10_format_75 (by decide) ?_
      refine r_iload_n (pc := 76) C (i := 1) dX10_format_76 rfl rfl ?_
      refine r_aload_n (pc := 77) C (i := 0) dX10_format_77 rfl rfl ?_
      refine r_iload_n (pc := 78) C (i := 2) dX10_format_78 rfl rfl ?_
      refine r_bipush (pc := 79) C (v := 8) dX10_format_79 (by decide) ?_
      obtain ⟨q3, hq3, h⟩ := bnd h
      refine r_callVp_CI (Cn := RX10) (pc := 81) C [.int x2, .int (8 : Int32)] (c_X10_of E l k a q2 x2 (8 : Int32) hq3) [0, 1, 2, 3, 4, 5, 6, 7, 8, 9, 10, 11, 12] rfl (by decide) 0 rfl rfl rfl g_X10_123 hd_X10_of ⟨Nat.le_of_ble_eq_true rfl, Nat.le_of_ble_eq_true rfl⟩ ⟨Nat.zero_le _, Nat.zero_le _⟩ (Nat.le_of_ble_eq_true rfl) rfl dX10_format_81 (fun r hr => ?_)
      have hr := hr.symm
      subst hr
      refine r_iconst (pc := 84) C (v := 1) dX10_format_84 (by decide) ?_
      refine r_iadd (pc := 85) C dX10_format_85 ?_
      obtain ⟨q4, hq4, h⟩ := bnd h
      refine r_callVp_CI (Cn := RX10) (pc := 86) C [.int (0 : Int32), .int x1, .int (q3 + (1 : Int32))] (c_X10_next E l k a q2 (0 : Int32) x1 (q3 + (1 : Int32)) hq4) [0, 1, 2, 3, 4, 5, 6, 7, 8, 9, 10, 11, 12] rfl (by decide) 0 rfl rfl rfl g_X10_154 hd_X10_next ⟨Nat.le_of_ble_eq_true rfl, Nat.le_of_ble_eq_true rfl⟩ ⟨Nat.zero_le _, Nat.zero_le _⟩ (Nat.le_of_ble_eq_true rfl) rfl dX10_format_86 (fun r hr => ?_)
      have hr := hr.symm
      subst hr
      refine r_istore_n (pc := 89) C (i := 2) dX10_format_89 rfl (by decide) rfl ?_
      refine r_goto (pc := 90) C (tgt := 64) dX10_format_90 rfl ?_
      refine r_weak (lSub_s (lSub_s (lSub_s lSub_e))) ?_
      exact ih x1 q4 q2 q  h hq
def M_X10_format_53 (k : Nat) (x1 : Int32) (y1 : Nat) (S : Nat → Nat → Int32) : Option (Int32 × (Nat → Nat → Int32)) := (M_X10_writeText k S y1).bind fun q5 => (M_X10_next k q5 (0 : Int32) x1 (0 : Int32)).bind fun q6 => M_X10_format_64 k k x1 q6 q5
set_option maxRecDepth 100000 in
set_option maxHeartbeats 4000000 in
theorem N_X10_format_53 (C : CX E p l s m args meth c cX10_format 3 RX10 (some .int) A) (a : Nat → Nat) (k : Nat) {post : Int32 → va_W → Prop} :
    ∀ (x1 : Int32) (y1 : Nat) (S : Nat → Nat → Int32) (q : Int32 × (Nat → Nat → Int32)), y1 < 79 → M_X10_format_53 k x1 y1 S = some q → post q.1 (wMd E a q.2) →
      WW E p l e rm_X10_format s m args below meth c A 0 0 (QI E below post args s rm_X10_format A) (wMd E a S) 3 [some (.ref (a 0)), some (.int x1), none] 53 [.ref (eS E y1), .ref (a 0)] := by
  intro x1 y1 S q hj_y1 h hq
  unfold M_X10_format_53 at h
  obtain ⟨q5, hq5, h⟩ := bnd h
  refine r_callV_CV (Cn := RX10) (pc := 53) C [.ref (eS E y1)] (c_X10_writeText E l k a S y1 hj_y1 hq5) [0, 1, 2, 3, 4, 5, 6, 7, 8, 9, 10, 11, 12] rfl (by decide) 0 rfl rfl rfl g_X10_335 hd_X10_writeText ⟨Nat.le_of_ble_eq_true rfl, Nat.le_of_ble_eq_true rfl⟩ ⟨Nat.zero_le _, Nat.zero_le _⟩ (Nat.le_of_ble_eq_true rfl) rfl dX10_format_53 (fun w1 hw1 => ?_)
  subst hw1
  refine ⟨(wMd E a q5), by rfl, ?_⟩
  refine r_aload_n (pc := 56) C (i := 0) dX10_format_56 rfl rfl ?_
  refine r_iconst (pc := 57) C (v := 0) dX10_format_57 (by decide) ?_
  refine r_iload_n (pc := 58) C (i := 1) dX10_format_58 rfl rfl ?_
  refine r_iconst (pc := 59) C (v := 0) dX10_format_59 (by decide) ?_
  obtain ⟨q6, hq6, h⟩ := bnd h
  refine r_callVp_CI (Cn := RX10) (pc := 60) C [.int (0 : Int32), .int x1, .int (0 : Int32)] (c_X10_next E l k a q5 (0 : Int32) x1 (0 : Int32) hq6) [0, 1, 2, 3, 4, 5, 6, 7, 8, 9, 10, 11, 12] rfl (by decide) 0 rfl rfl rfl g_X10_154 hd_X10_next ⟨Nat.le_of_ble_eq_true rfl, Nat.le_of_ble_eq_true rfl⟩ ⟨Nat.zero_le _, Nat.zero_le _⟩ (Nat.le_of_ble_eq_true rfl) rfl dX10_format_60 (fun r hr => ?_)
  have hr := hr.symm
  subst hr
  refine r_istore_n (pc := 63) C (i := 2) dX10_format_63 rfl (by decide) rfl ?_
  refine r_weak (lSub_s (lSub_s (lSub_s lSub_e))) ?_
  exact N_X10_format_64 C a k k x1 q6 q5 q  h hq
def M_X10_format_0 (k : Nat) (p0 : Int32) (S : Nat → Nat → Int32) : Option (Int32 × (Nat → Nat → Int32)) := lt (va_up S 0 (upd (S 0) 1 (0 : Int32))) fun F7 => (M_X10_isWorker k F7 p0).bind fun q8 => if q8 = 0 then ((M_X10_raise k F7 (1 : Int32)).bind fun q15 => some (q15.1, q15.2)) else (lt (va_up F7 0 (upd (F7 0) 5 (0 : Int32))) fun F10 => (M_X10_write k F10 (119 : Int32)).bind fun q11 => (M_X10_writeNumber k q11 p0).bind fun q12 => (M_X10_isUp k q12 p0).bind fun q13 => if q13 = 0 then (M_X10_format_53 k p0 69 q12) else (M_X10_format_53 k p0 68 q12))
set_option maxRecDepth 100000 in
set_option maxHeartbeats 4000000 in
theorem N_X10_format_0 (C : CX E p l s m args meth c cX10_format 3 RX10 (some .int) A) (a : Nat → Nat) (k : Nat) {post : Int32 → va_W → Prop} :
    ∀ (p0 : Int32) (S : Nat → Nat → Int32) (q : Int32 × (Nat → Nat → Int32)), M_X10_format_0 k p0 S = some q → post q.1 (wMd E a q.2) →
      WW E p l e rm_X10_format s m args below meth c A 0 0 (QI E below post args s rm_X10_format A) (wMd E a S) 3 [some (.ref (a 0)), some (.int p0), none] 0 [] := by
  intro p0 S q  h hq
  unfold M_X10_format_0 at h
  refine r_aload_n (pc := 0) C (i := 0) dX10_format_0 rfl rfl ?_
  refine r_iconst (pc := 1) C (v := 0) dX10_format_1 (by decide) ?_
  obtain ⟨F7, hF7, h⟩ := lt_e h
  refine r_put (pc := 2) C gwX10 tyX10 tyX10_ok nmX10 0 rfl rfl 6 (by decide) wm_5_209 rfl rfl rfl rfl (Nat.le_of_ble_eq_true rfl) (w' := (wMd E a F7)) (by rw [hF7]; rfl) dX10_format_2 ?_
  refine r_aload_n (pc := 5) C (i := 0) dX10_format_5 rfl rfl ?_
  refine r_iload_n (pc := 6) C (i := 1) dX10_format_6 rfl rfl ?_
  obtain ⟨q8, hq8, h⟩ := bnd h
  refine r_callVp_CI (Cn := RX10) (pc := 7) C [.int p0] (c_X10_isWorker E l k a F7 p0 hq8) [0, 1, 2, 3, 4, 5, 6, 7, 8, 9, 10, 11, 12] rfl (by decide) 0 rfl rfl rfl g_X10_270 hd_X10_isWorker ⟨Nat.le_of_ble_eq_true rfl, Nat.le_of_ble_eq_true rfl⟩ ⟨Nat.zero_le _, Nat.zero_le _⟩ (Nat.le_of_ble_eq_true rfl) rfl dX10_format_7 (fun r hr => ?_)
  have hr := hr.symm
  subst hr
  refine r_if_ne (pc := 10) C (tgt := 19) dX10_format_10 rfl (fun c9 => ?_) (fun c9 => ?_)
  · rw [if_neg c9] at h
    refine r_aload_n (pc := 19) C (i := 0) dX10_format_19 rfl rfl ?_
    refine r_iconst (pc := 20) C (v := 0) dX10_format_20 (by decide) ?_
    obtain ⟨F10, hF10, h⟩ := lt_e h
    refine r_put (pc := 21) C gwX10 tyX10 tyX10_ok nmX10 0 rfl rfl 12 (by decide) wm_5_215 rfl rfl rfl rfl (Nat.le_of_ble_eq_true rfl) (w' := (wMd E a F10)) (by rw [hF10]; rfl) dX10_format_21 ?_
    refine r_aload_n (pc := 24) C (i := 0) dX10_format_24 rfl rfl ?_
    refine r_bipush (pc := 25) C (v := 119) dX10_format_25 (by decide) ?_
    obtain ⟨q11, hq11, h⟩ := bnd h
    refine r_callV_CV (Cn := RX10) (pc := 27) C [.int (119 : Int32)] (c_X10_write E l k a F10 (119 : Int32) hq11) [0, 1, 2, 3, 4, 5, 6, 7, 8, 9, 10, 11, 12] rfl (by decide) 0 rfl rfl rfl g_X10_325 hd_X10_write ⟨Nat.le_of_ble_eq_true rfl, Nat.le_of_ble_eq_true rfl⟩ ⟨Nat.zero_le _, Nat.zero_le _⟩ (Nat.le_of_ble_eq_true rfl) rfl dX10_format_27 (fun w1 hw1 => ?_)
    subst hw1
    refine ⟨(wMd E a q11), by rfl, ?_⟩
    refine r_aload_n (pc := 30) C (i := 0) dX10_format_30 rfl rfl ?_
    refine r_iload_n (pc := 31) C (i := 1) dX10_format_31 rfl rfl ?_
    obtain ⟨q12, hq12, h⟩ := bnd h
    refine r_callV_CV (Cn := RX10) (pc := 32) C [.int p0] (c_X10_writeNumber E l k a q11 p0 hq12) [0, 1, 2, 3, 4, 5, 6, 7, 8, 9, 10, 11, 12] rfl (by decide) 0 rfl rfl rfl g_X10_328 hd_X10_writeNumber ⟨Nat.le_of_ble_eq_true rfl, Nat.le_of_ble_eq_true rfl⟩ ⟨Nat.zero_le _, Nat.zero_le _⟩ (Nat.le_of_ble_eq_true rfl) rfl dX10_format_32 (fun w1 hw1 => ?_)
    subst hw1
    refine ⟨(wMd E a q12), by rfl, ?_⟩
    refine r_aload_n (pc := 35) C (i := 0) dX10_format_35 rfl rfl ?_
    refine r_aload_n (pc := 36) C (i := 0) dX10_format_36 rfl rfl ?_
    refine r_iload_n (pc := 37) C (i := 1) dX10_format_37 rfl rfl ?_
    obtain ⟨q13, hq13, h⟩ := bnd h
    refine r_callVp_CI (Cn := RX10) (pc := 38) C [.int p0] (c_X10_isUp E l k a q12 p0 hq13) [0, 1, 2, 3, 4, 5, 6, 7, 8, 9, 10, 11, 12] rfl (by decide) 0 rfl rfl rfl g_X10_137 hd_X10_isUp ⟨Nat.le_of_ble_eq_true rfl, Nat.le_of_ble_eq_true rfl⟩ ⟨Nat.zero_le _, Nat.zero_le _⟩ (Nat.le_of_ble_eq_true rfl) rfl dX10_format_38 (fun r hr => ?_)
    have hr := hr.symm
    subst hr
    refine r_if_eq (pc := 41) C (tgt := 50) dX10_format_41 rfl (fun c14 => ?_) (fun c14 => ?_)
    · rw [if_pos c14] at h
      refine r_ldcwS (pc := 50) C 69 rfl dX10_format_50 ?_
      refine r_weak (lSub_s (lSub_s (lSub_n lSub_e))) ?_
      exact N_X10_format_53 C a k p0 69 q12 q (by decide) h hq
    · rw [if_neg c14] at h
      refine r_ldcwS (pc := 44) C 68 rfl dX10_format_44 ?_
      refine r_goto (pc := 47) C (tgt := 53) dX10_format_47 rfl ?_
      refine r_weak (lSub_s (lSub_s (lSub_n lSub_e))) ?_
      exact N_X10_format_53 C a k p0 68 q12 q (by decide) h hq
  · rw [if_pos c9] at h
    refine r_aload_n (pc := 13) C (i := 0) dX10_format_13 rfl rfl ?_
    refine r_iconst (pc := 14) C (v := 1) dX10_format_14 (by decide) ?_
    obtain ⟨q15, hq15, h⟩ := bnd h
    refine r_callV_CI (Cn := RX10) (pc := 15) C [.int (1 : Int32)] (c_X10_raise E l k a F7 (1 : Int32) hq15) [0, 1, 2, 3, 4, 5, 6, 7, 8, 9, 10, 11, 12] rfl (by decide) 0 rfl rfl rfl g_X10_267 hd_X10_raise ⟨Nat.le_of_ble_eq_true rfl, Nat.le_of_ble_eq_true rfl⟩ ⟨Nat.zero_le _, Nat.zero_le _⟩ (Nat.le_of_ble_eq_true rfl) rfl dX10_format_15 (fun r w1 hw1 => ?_)
    obtain ⟨hr1, hw1⟩ := hw1
    subst hr1 hw1
    refine ⟨(wMd E a q15.2), by rfl, ?_⟩
    cases h
    exact r_ireti (pc := 18) C hq (Nat.zero_le _) (Nat.zero_le _) dX10_format_18
def M_X10_format (k : Nat) (S : Nat → Nat → Int32) (p0 : Int32) : Option (Int32 × (Nat → Nat → Int32)) := M_X10_format_0 k p0 S
set_option maxRecDepth 100000 in
set_option maxHeartbeats 4000000 in
theorem c_X10_format (E : ENV) (l : Launch) (k : Nat) (a : Nat → Nat) (S : Nat → Nat → Int32) (p0 : Int32) {q : Int32 × (Nat → Nat → Int32)} (hm : M_X10_format k S p0 = some q) : CI E l yX10_format cX10_format 3 (some .int) rm_X10_format [.ref (a 0), .int p0] (wMd E a S) (fun r w' => r = q.1 ∧ w' = (wMd E a q.2)) :=
  CI.of 1 (by decide) (Nat.le_of_ble_eq_true rfl) (fun p e s m below meth c A C _ => r_weak (lSub_s (lSub_s (lSub_n lSub_e))) (N_X10_format_0 C a k p0 S q  hm ⟨rfl, rfl⟩))
-- ShardGuardModel.formattedByte(I)I
theorem dX10_formattedByte_0 : decode cX10_formattedByte 0 = .ok (.aload_n 0, 1) := by decide +kernel
theorem dX10_formattedByte_1 : decode cX10_formattedByte 1 = .ok (.iconst 0, 1) := by decide +kernel
theorem dX10_formattedByte_2 : decode cX10_formattedByte 2 = .ok (.putfield 93, 3) := by decide +kernel
theorem dX10_formattedByte_5 : decode cX10_formattedByte 5 = .ok (.iload_n 1, 1) := by decide +kernel
theorem dX10_formattedByte_6 : decode cX10_formattedByte 6 = .ok (.iconst 0, 1) := by decide +kernel
theorem dX10_formattedByte_7 : decode cX10_formattedByte 7 = .ok (.aload_n 0, 1) := by decide +kernel
theorem dX10_formattedByte_8 : decode cX10_formattedByte 8 = .ok (.getfield 315, 3) := by decide +kernel
theorem dX10_formattedByte_11 : decode cX10_formattedByte 11 = .ok (.iconst 1, 1) := by decide +kernel
theorem dX10_formattedByte_12 : decode cX10_formattedByte 12 = .ok (.isub, 1) := by decide +kernel
theorem dX10_formattedByte_13 : decode cX10_formattedByte 13 = .ok (.invokestatic 110, 3) := by decide +kernel
theorem dX10_formattedByte_16 : decode cX10_formattedByte 16 = .ok (.ifCond .eq 12, 3) := by decide +kernel
theorem dX10_formattedByte_19 : decode cX10_formattedByte 19 = .ok (.aload_n 0, 1) := by decide +kernel
theorem dX10_formattedByte_20 : decode cX10_formattedByte 20 = .ok (.getfield 31, 3) := by decide +kernel
theorem dX10_formattedByte_23 : decode cX10_formattedByte 23 = .ok (.iload_n 1, 1) := by decide +kernel
theorem dX10_formattedByte_24 : decode cX10_formattedByte 24 = .ok (.iaload, 1) := by decide +kernel
theorem dX10_formattedByte_25 : decode cX10_formattedByte 25 = .ok (.goto 4, 3) := by decide +kernel
theorem dX10_formattedByte_28 : decode cX10_formattedByte 28 = .ok (.iconst (-1), 1) := by decide +kernel
theorem dX10_formattedByte_29 : decode cX10_formattedByte 29 = .ok (.ireturn, 1) := by decide +kernel
def rm_X10_formattedByte : Room := { frames := 1, cells := 0, slots := 0, locals := 22 }
def M_X10_formattedByte_0 (k : Nat) (p0 : Int32) (S : Nat → Nat → Int32) : Option (Int32 × (Nat → Nat → Int32)) := lt (va_up S 0 (upd (S 0) 1 (0 : Int32))) fun F1 => (M_X10_inRange k p0 (0 : Int32) ((F1 0 5) - (1 : Int32))).bind fun q2 => if q2 = 0 then (some ((-1 : Int32), F1)) else ((if inb p0 500 = true then some (((F1 7) p0.toNatClampNeg), F1) else none))
set_option maxRecDepth 100000 in
set_option maxHeartbeats 4000000 in
theorem N_X10_formattedByte_0 (C : CX E p l s m args meth c cX10_formattedByte 2 RX10 (some .int) A) (a : Nat → Nat) (k : Nat) {post : Int32 → va_W → Prop} :
    ∀ (p0 : Int32) (S : Nat → Nat → Int32) (q : Int32 × (Nat → Nat → Int32)), M_X10_formattedByte_0 k p0 S = some q → post q.1 (wMd E a q.2) →
      WW E p l e rm_X10_formattedByte s m args below meth c A 0 0 (QI E below post args s rm_X10_formattedByte A) (wMd E a S) 2 [some (.ref (a 0)), some (.int p0)] 0 [] := by
  intro p0 S q  h hq
  unfold M_X10_formattedByte_0 at h
  refine r_aload_n (pc := 0) C (i := 0) dX10_formattedByte_0 rfl rfl ?_
  refine r_iconst (pc := 1) C (v := 0) dX10_formattedByte_1 (by decide) ?_
  obtain ⟨F1, hF1, h⟩ := lt_e h
  refine r_put (pc := 2) C gwX10 tyX10 tyX10_ok nmX10 0 rfl rfl 6 (by decide) wm_5_209 rfl rfl rfl rfl (Nat.le_of_ble_eq_true rfl) (w' := (wMd E a F1)) (by rw [hF1]; rfl) dX10_formattedByte_2 ?_
  refine r_iload_n (pc := 5) C (i := 1) dX10_formattedByte_5 rfl rfl ?_
  refine r_iconst (pc := 6) C (v := 0) dX10_formattedByte_6 (by decide) ?_
  refine r_aload_n (pc := 7) C (i := 0) dX10_formattedByte_7 rfl rfl ?_
  refine r_get (pc := 8) C gwX10 0 rfl rfl 12 (by decide) wm_5_215 rfl dX10_formattedByte_8 ?_
  refine r_iconst (pc := 11) C (v := 1) dX10_formattedByte_11 (by decide) ?_
  refine r_isub (pc := 12) C dX10_formattedByte_12 ?_
  obtain ⟨q2, hq2, h⟩ := bnd h
  refine r_callSp_CI (pc := 13) C [.int p0, .int (0 : Int32), .int ((F1 0 5) - (1 : Int32))] (c_X10_inRange E l k p0 (0 : Int32) ((F1 0 5) - (1 : Int32)) hq2) [] rfl (by decide) g_X10_110 hd_X10_inRange.2 ⟨Nat.le_of_ble_eq_true rfl, Nat.le_of_ble_eq_true rfl⟩ ⟨Nat.zero_le _, Nat.zero_le _⟩ (Nat.le_of_ble_eq_true rfl) rfl dX10_formattedByte_13 (fun r hr => ?_)
  have hr := hr.symm
  subst hr
  refine r_if_eq (pc := 16) C (tgt := 28) dX10_formattedByte_16 rfl (fun c3 => ?_) (fun c3 => ?_)
  · rw [if_pos c3] at h
    refine r_iconst (pc := 28) C (v := (-1)) dX10_formattedByte_28 (by decide) ?_
    have h := Option.some.inj h
    subst h
    exact r_ireti (pc := 29) C hq (Nat.zero_le _) (Nat.zero_le _) dX10_formattedByte_29
  · rw [if_neg c3] at h
    refine r_aload_n (pc := 19) C (i := 0) dX10_formattedByte_19 rfl rfl ?_
    refine r_get (pc := 20) C gwX10 0 rfl rfl 11 (by decide) wm_5_214 rfl dX10_formattedByte_20 ?_
    refine r_iload_n (pc := 23) C (i := 1) dX10_formattedByte_23 rfl rfl ?_
    obtain ⟨hi4, h⟩ := ifn h
    refine r_iald (pc := 24) C 7 rfl hi4 dX10_formattedByte_24 ?_
    refine r_goto (pc := 25) C (tgt := 29) dX10_formattedByte_25 rfl ?_
    cases h
    exact r_ireti (pc := 29) C hq (Nat.zero_le _) (Nat.zero_le _) dX10_formattedByte_29
def M_X10_formattedByte (k : Nat) (S : Nat → Nat → Int32) (p0 : Int32) : Option (Int32 × (Nat → Nat → Int32)) := M_X10_formattedByte_0 k p0 S
set_option maxRecDepth 100000 in
set_option maxHeartbeats 4000000 in
theorem c_X10_formattedByte (E : ENV) (l : Launch) (k : Nat) (a : Nat → Nat) (S : Nat → Nat → Int32) (p0 : Int32) {q : Int32 × (Nat → Nat → Int32)} (hm : M_X10_formattedByte k S p0 = some q) : CI E l yX10_formattedByte cX10_formattedByte 2 (some .int) rm_X10_formattedByte [.ref (a 0), .int p0] (wMd E a S) (fun r w' => r = q.1 ∧ w' = (wMd E a q.2)) :=
  CI.of 0 (by decide) (Nat.le_of_ble_eq_true rfl) (fun p e s m below meth c A C _ => r_weak (lSub_s (lSub_s lSub_e)) (N_X10_formattedByte_0 C a k p0 S q  hm ⟨rfl, rfl⟩))
end WALKS
