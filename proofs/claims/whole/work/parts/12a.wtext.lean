section WALKS
variable {E : ENV} {p : Program} {l : Launch} {e : Env} {s : State} {m : MethodId} {args : Array Value} {below : List Frame} {meth : Method} {c : Code} {A : Nat → Prop}
theorem g_X8_75 : GoodIn GW (wsV RX8 75 RX5 yX5_put (wsG yX5_put cX5_put 3 none)) := gw_V wm_5_80 wm_1_234 wm_1_235 wm_1_3 wm_1_236
-- ShardGuard$WorkerText.append(Ljava/lang/String;)V
theorem dX8_append_0 : decode cX8_append 0 = .ok (.iconst 0, 1) := by decide +kernel
theorem dX8_append_1 : decode cX8_append 1 = .ok (.istore_n 2, 1) := by decide +kernel
theorem dX8_append_2 : decode cX8_append 2 = .ok (.iload_n 2, 1) := by decide +kernel
theorem dX8_append_3 : decode cX8_append 3 = .ok (.aload_n 1, 1) := by decide +kernel
theorem dX8_append_4 : decode cX8_append 4 = .ok (.invokevirtual 66, 3) := by decide +kernel
theorem dX8_append_7 : decode cX8_append 7 = .ok (.if_icmp .ge 35, 3) := by decide +kernel
theorem dX8_append_10 : decode cX8_append 10 = .ok (.aload_n 0, 1) := by decide +kernel
theorem dX8_append_11 : decode cX8_append 11 = .ok (.getfield 20, 3) := by decide +kernel
theorem dX8_append_14 : decode cX8_append 14 = .ok (.aload_n 0, 1) := by decide +kernel
theorem dX8_append_15 : decode cX8_append 15 = .ok (.getfield 9, 3) := by decide +kernel
theorem dX8_append_18 : decode cX8_append 18 = .ok (.aload_n 1, 1) := by decide +kernel
theorem dX8_append_19 : decode cX8_append 19 = .ok (.iload_n 2, 1) := by decide +kernel
theorem dX8_append_20 : decode cX8_append 20 = .ok (.invokevirtual 71, 3) := by decide +kernel
theorem dX8_append_23 : decode cX8_append 23 = .ok (.invokevirtual 75, 3) := by decide +kernel
theorem dX8_append_26 : decode cX8_append 26 = .ok (.aload_n 0, 1) := by decide +kernel
theorem dX8_append_27 : decode cX8_append 27 = .ok (.dup, 1) := by decide +kernel
theorem dX8_append_28 : decode cX8_append 28 = .ok (.getfield 9, 3) := by decide +kernel
theorem dX8_append_31 : decode cX8_append 31 = .ok (.iconst 1, 1) := by decide +kernel
theorem dX8_append_32 : decode cX8_append 32 = .ok (.iadd, 1) := by decide +kernel
theorem dX8_append_33 : decode cX8_append 33 = .ok (.putfield 9, 3) := by decide +kernel
theorem dX8_append_36 : decode cX8_append 36 = .ok (.iinc 2 1, 3) := by decide +kernel
theorem dX8_append_39 : decode cX8_append 39 = .ok (.goto (-37), 3) := by decide +kernel
theorem dX8_append_42 : decode cX8_append 42 = .ok (.return_, 1) := by decide +kernel
def rm_X8_append : Room := { frames := 6, cells := 0, slots := 0, locals := 150 }
def M_X8_append_2 (k : Nat) : Nat → (Nat) → (Int32) → (Nat → Nat → Int32) → Option ((Nat → Nat → Int32))
  | 0, _, _, _ => none
  | n + 1, t1, x2, S => if (nI (txB t1).length) ≤ x2 then (some S) else ((if inb x2 (txB t1).length = true then (M_X5_put k 428 (S 1) (S 0 0) ((txB t1).getD x2.toNatClampNeg 0)).bind fun q3 => lt (va_up S 1 q3) fun F4 => lt (va_up F4 0 (upd (F4 0) 0 ((F4 0 0) + (1 : Int32)))) fun F5 => M_X8_append_2 k n t1 (x2 + 1) F5 else none))
theorem M_X8_append_2_s (k : Nat) (n : Nat) (t1 : Nat) (x2 : Int32) (S : Nat → Nat → Int32) : M_X8_append_2 k (n + 1) t1 x2 S = (if (nI (txB t1).length) ≤ x2 then (some S) else ((if inb x2 (txB t1).length = true then (M_X5_put k 428 (S 1) (S 0 0) ((txB t1).getD x2.toNatClampNeg 0)).bind fun q3 => lt (va_up S 1 q3) fun F4 => lt (va_up F4 0 (upd (F4 0) 0 ((F4 0 0) + (1 : Int32)))) fun F5 => M_X8_append_2 k n t1 (x2 + 1) F5 else none))) := rfl
set_option maxRecDepth 100000 in
set_option maxHeartbeats 4000000 in
theorem N_X8_append_2 (C : CX E p l s m args meth c cX8_append 3 RX8 none A) (a : Nat → Nat) (k : Nat) {post : va_W → Prop} :
    ∀ (n : Nat) (t1 : Nat) (x2 : Int32) (S : Nat → Nat → Int32) (q : (Nat → Nat → Int32)), t1 < 79 → M_X8_append_2 k n t1 x2 S = some q → post (wTx E a q) →
      WW E p l e rm_X8_append s m args below meth c A 0 0 (QV E below post args s rm_X8_append A) (wTx E a S) 3 [some (.ref (a 0)), some (.ref (eS E t1)), some (.int x2)] 2 [] := by
  intro n
  induction n with
  | zero => intro t1 x2 S q hj_t1 h _; cases h
  | succ n ih =>
    intro t1 x2 S q hj_t1 h hq
    rw [M_X8_append_2_s] at h
    refine r_iload_n (pc := 2) C (i := 2) dX8_append_2 rfl rfl ?_
    refine r_aload_n (pc := 3) C (i := 1) dX8_append_3 rfl rfl ?_
    refine r_strlen (pc := 4) C hj_t1 wm_5_78 ⟨Nat.le_of_ble_eq_true rfl, Nat.le_of_ble_eq_true rfl⟩ ⟨Nat.zero_le _, Nat.zero_le _⟩ (Nat.le_of_ble_eq_true rfl) dX8_append_4 ?_
    refine r_icmp_ge (pc := 7) C (tgt := 42) dX8_append_7 rfl (fun c1 => ?_) (fun c1 => ?_)
    · rw [if_pos c1] at h
      cases h
      exact r_vret (pc := 42) C hq (Nat.zero_le _) (Nat.zero_le _) dX8_append_42
    · rw [if_neg c1] at h
      refine r_aload_n (pc := 10) C (i := 0) dX8_append_10 rfl rfl ?_
      refine r_get (pc := 11) C gwX8 0 rfl rfl 1 (by decide) wm_1_218 rfl dX8_append_11 ?_
      refine r_aload_n (pc := 14) C (i := 0) dX8_append_14 rfl rfl ?_
      refine r_get (pc := 15) C gwX8 0 rfl rfl 0 (by decide) wm_1_216 rfl dX8_append_15 ?_
      refine r_aload_n (pc := 18) C (i := 1) dX8_append_18 rfl rfl ?_
      refine r_iload_n (pc := 19) C (i := 2) dX8_append_19 rfl rfl ?_
      obtain ⟨hi2, h⟩ := ifn h
      refine r_strat (pc := 20) C hj_t1 hi2 wm_5_79 ⟨Nat.le_of_ble_eq_true rfl, Nat.le_of_ble_eq_true rfl⟩ ⟨Nat.zero_le _, Nat.zero_le _⟩ (Nat.le_of_ble_eq_true rfl) dX8_append_20 ?_
      obtain ⟨q3, hq3, h⟩ := bnd h
      obtain ⟨F4, hF4, h⟩ := lt_e h
      refine r_callV_CV (Cn := RX5) (pc := 23) C [.int (S 0 0), .int ((txB t1).getD x2.toNatClampNeg 0)] (c_X5_put E l k (fun i => a (i + 1)) 428 (S 1) (S 0 0) ((txB t1).getD x2.toNatClampNeg 0) hq3) [1, 2] rfl (by decide) 0 rfl rfl rfl g_X8_75 hd_X5_put ⟨Nat.le_of_ble_eq_true rfl, Nat.le_of_ble_eq_true rfl⟩ ⟨Nat.zero_le _, Nat.zero_le _⟩ (Nat.le_of_ble_eq_true rfl) rfl dX8_append_23 (fun w1 hw1 => ?_)
      subst hw1
      refine ⟨(wTx E a F4), by rw [hF4]; rfl, ?_⟩
      refine r_aload_n (pc := 26) C (i := 0) dX8_append_26 rfl rfl ?_
      refine r_dup (pc := 27) C dX8_append_27 rfl ?_
      refine r_get (pc := 28) C gwX8 0 rfl rfl 0 (by decide) wm_1_216 rfl dX8_append_28 ?_
      refine r_iconst (pc := 31) C (v := 1) dX8_append_31 (by decide) ?_
      refine r_iadd (pc := 32) C dX8_append_32 ?_
      obtain ⟨F5, hF5, h⟩ := lt_e h
      refine r_put (pc := 33) C gwX8 tyX8 tyX8_ok nmX8 0 rfl rfl 0 (by decide) wm_1_216 rfl rfl rfl rfl (Nat.le_of_ble_eq_true rfl) (w' := (wTx E a F5)) (by rw [hF5]; rfl) dX8_append_33 ?_
      refine r_iinc (pc := 36) C (v := (x2 + 1)) dX8_append_36 rfl rfl (by decide) rfl ?_
      refine r_goto (pc := 39) C (tgt := 2) dX8_append_39 rfl ?_
      refine r_weak (lSub_s (lSub_s (lSub_s lSub_e))) ?_
      exact ih t1 (x2 + 1) F5 q hj_t1 h hq
def M_X8_append_0 (k : Nat) (p0 : Nat) (S : Nat → Nat → Int32) : Option ((Nat → Nat → Int32)) := M_X8_append_2 k k p0 (0 : Int32) S
set_option maxRecDepth 100000 in
set_option maxHeartbeats 4000000 in
theorem N_X8_append_0 (C : CX E p l s m args meth c cX8_append 3 RX8 none A) (a : Nat → Nat) (k : Nat) {post : va_W → Prop} :
    ∀ (p0 : Nat) (S : Nat → Nat → Int32) (q : (Nat → Nat → Int32)), p0 < 79 → M_X8_append_0 k p0 S = some q → post (wTx E a q) →
      WW E p l e rm_X8_append s m args below meth c A 0 0 (QV E below post args s rm_X8_append A) (wTx E a S) 3 [some (.ref (a 0)), some (.ref (eS E p0)), none] 0 [] := by
  intro p0 S q hj_p0 h hq
  unfold M_X8_append_0 at h
  refine r_iconst (pc := 0) C (v := 0) dX8_append_0 (by decide) ?_
  refine r_istore_n (pc := 1) C (i := 2) dX8_append_1 rfl (by decide) rfl ?_
  refine r_weak (lSub_s (lSub_s (lSub_s lSub_e))) ?_
  exact N_X8_append_2 C a k k p0 (0 : Int32) S q hj_p0 h hq
def M_X8_append (k : Nat) (S : Nat → Nat → Int32) (p0 : Nat) : Option ((Nat → Nat → Int32)) := M_X8_append_0 k p0 S
set_option maxRecDepth 100000 in
set_option maxHeartbeats 4000000 in
theorem c_X8_append (E : ENV) (l : Launch) (k : Nat) (a : Nat → Nat) (S : Nat → Nat → Int32) (p0 : Nat) (hj_p0 : p0 < 79) {q : (Nat → Nat → Int32)} (hm : M_X8_append k S p0 = some q) : CV E l yX8_append cX8_append 3 none rm_X8_append [.ref (a 0), .ref (eS E p0)] (wTx E a S) (fun w' => w' = (wTx E a q)) :=
  CV.of 1 (by decide) (Nat.le_of_ble_eq_true rfl) (fun p e s m below meth c A C _ => r_weak (lSub_s (lSub_s (lSub_n lSub_e))) (N_X8_append_0 C a k p0 S q hj_p0 hm rfl))
-- ShardGuard$WorkerText.appendNumber(I)V
theorem dX8_appendNumber_0 : decode cX8_appendNumber 0 = .ok (.iload_n 1, 1) := by decide +kernel
theorem dX8_appendNumber_1 : decode cX8_appendNumber 1 = .ok (.bipush 10, 2) := by decide +kernel
theorem dX8_appendNumber_3 : decode cX8_appendNumber 3 = .ok (.if_icmp .lt 31, 3) := by decide +kernel
theorem dX8_appendNumber_6 : decode cX8_appendNumber 6 = .ok (.aload_n 0, 1) := by decide +kernel
theorem dX8_appendNumber_7 : decode cX8_appendNumber 7 = .ok (.getfield 20, 3) := by decide +kernel
theorem dX8_appendNumber_10 : decode cX8_appendNumber 10 = .ok (.aload_n 0, 1) := by decide +kernel
theorem dX8_appendNumber_11 : decode cX8_appendNumber 11 = .ok (.getfield 9, 3) := by decide +kernel
theorem dX8_appendNumber_14 : decode cX8_appendNumber 14 = .ok (.bipush 48, 2) := by decide +kernel
theorem dX8_appendNumber_16 : decode cX8_appendNumber 16 = .ok (.iload_n 1, 1) := by decide +kernel
theorem dX8_appendNumber_17 : decode cX8_appendNumber 17 = .ok (.bipush 10, 2) := by decide +kernel
theorem dX8_appendNumber_19 : decode cX8_appendNumber 19 = .ok (.idiv, 1) := by decide +kernel
theorem dX8_appendNumber_20 : decode cX8_appendNumber 20 = .ok (.iadd, 1) := by decide +kernel
theorem dX8_appendNumber_21 : decode cX8_appendNumber 21 = .ok (.invokevirtual 75, 3) := by decide +kernel
theorem dX8_appendNumber_24 : decode cX8_appendNumber 24 = .ok (.aload_n 0, 1) := by decide +kernel
theorem dX8_appendNumber_25 : decode cX8_appendNumber 25 = .ok (.dup, 1) := by decide +kernel
theorem dX8_appendNumber_26 : decode cX8_appendNumber 26 = .ok (.getfield 9, 3) := by decide +kernel
theorem dX8_appendNumber_29 : decode cX8_appendNumber 29 = .ok (.iconst 1, 1) := by decide +kernel
theorem dX8_appendNumber_30 : decode cX8_appendNumber 30 = .ok (.iadd, 1) := by decide +kernel
theorem dX8_appendNumber_31 : decode cX8_appendNumber 31 = .ok (.putfield 9, 3) := by decide +kernel
theorem dX8_appendNumber_34 : decode cX8_appendNumber 34 = .ok (.aload_n 0, 1) := by decide +kernel
theorem dX8_appendNumber_35 : decode cX8_appendNumber 35 = .ok (.getfield 20, 3) := by decide +kernel
theorem dX8_appendNumber_38 : decode cX8_appendNumber 38 = .ok (.aload_n 0, 1) := by decide +kernel
theorem dX8_appendNumber_39 : decode cX8_appendNumber 39 = .ok (.getfield 9, 3) := by decide +kernel
theorem dX8_appendNumber_42 : decode cX8_appendNumber 42 = .ok (.bipush 48, 2) := by decide +kernel
theorem dX8_appendNumber_44 : decode cX8_appendNumber 44 = .ok (.iload_n 1, 1) := by decide +kernel
theorem dX8_appendNumber_45 : decode cX8_appendNumber 45 = .ok (.bipush 10, 2) := by decide +kernel
theorem dX8_appendNumber_47 : decode cX8_appendNumber 47 = .ok (.irem, 1) := by decide +kernel
theorem dX8_appendNumber_48 : decode cX8_appendNumber 48 = .ok (.iadd, 1) := by decide +kernel
theorem dX8_appendNumber_49 : decode cX8_appendNumber 49 = .ok (.invokevirtual 75, 3) := by decide +kernel
theorem dX8_appendNumber_52 : decode cX8_appendNumber 52 = .ok (.aload_n 0, 1) := by decide +kernel
theorem dX8_appendNumber_53 : decode cX8_appendNumber 53 = .ok (.dup, 1) := by decide +kernel
theorem dX8_appendNumber_54 : decode cX8_appendNumber 54 = .ok (.getfield 9, 3) := by decide +kernel
theorem dX8_appendNumber_57 : decode cX8_appendNumber 57 = .ok (.iconst 1, 1) := by decide +kernel
theorem dX8_appendNumber_58 : decode cX8_appendNumber 58 = .ok (.iadd, 1) := by decide +kernel
theorem dX8_appendNumber_59 : decode cX8_appendNumber 59 = .ok (.putfield 9, 3) := by decide +kernel
theorem dX8_appendNumber_62 : decode cX8_appendNumber 62 = .ok (.return_, 1) := by decide +kernel
def rm_X8_appendNumber : Room := { frames := 1, cells := 0, slots := 0, locals := 22 }
def M_X8_appendNumber_34 (k : Nat) (x1 : Int32) (S : Nat → Nat → Int32) : Option ((Nat → Nat → Int32)) := (M_X5_put k 428 (S 1) (S 0 0) ((48 : Int32) + (x1 - x1 / (10 : Int32) * (10 : Int32)))).bind fun q1 => lt (va_up S 1 q1) fun F2 => lt (va_up F2 0 (upd (F2 0) 0 ((F2 0 0) + (1 : Int32)))) fun F3 => some F3
set_option maxRecDepth 100000 in
set_option maxHeartbeats 4000000 in
theorem N_X8_appendNumber_34 (C : CX E p l s m args meth c cX8_appendNumber 2 RX8 none A) (a : Nat → Nat) (k : Nat) {post : va_W → Prop} :
    ∀ (x1 : Int32) (S : Nat → Nat → Int32) (q : (Nat → Nat → Int32)), M_X8_appendNumber_34 k x1 S = some q → post (wTx E a q) →
      WW E p l e rm_X8_appendNumber s m args below meth c A 0 0 (QV E below post args s rm_X8_appendNumber A) (wTx E a S) 2 [some (.ref (a 0)), some (.int x1)] 34 [] := by
  intro x1 S q  h hq
  unfold M_X8_appendNumber_34 at h
  refine r_aload_n (pc := 34) C (i := 0) dX8_appendNumber_34 rfl rfl ?_
  refine r_get (pc := 35) C gwX8 0 rfl rfl 1 (by decide) wm_1_218 rfl dX8_appendNumber_35 ?_
  refine r_aload_n (pc := 38) C (i := 0) dX8_appendNumber_38 rfl rfl ?_
  refine r_get (pc := 39) C gwX8 0 rfl rfl 0 (by decide) wm_1_216 rfl dX8_appendNumber_39 ?_
  refine r_bipush (pc := 42) C (v := 48) dX8_appendNumber_42 (by decide) ?_
  refine r_iload_n (pc := 44) C (i := 1) dX8_appendNumber_44 rfl rfl ?_
  refine r_bipush (pc := 45) C (v := 10) dX8_appendNumber_45 (by decide) ?_
  refine r_irem (pc := 47) C dX8_appendNumber_47 (by decide) ?_
  refine r_iadd (pc := 48) C dX8_appendNumber_48 ?_
  obtain ⟨q1, hq1, h⟩ := bnd h
  obtain ⟨F2, hF2, h⟩ := lt_e h
  refine r_callV_CV (Cn := RX5) (pc := 49) C [.int (S 0 0), .int ((48 : Int32) + (x1 - x1 / (10 : Int32) * (10 : Int32)))] (c_X5_put E l k (fun i => a (i + 1)) 428 (S 1) (S 0 0) ((48 : Int32) + (x1 - x1 / (10 : Int32) * (10 : Int32))) hq1) [1, 2] rfl (by decide) 0 rfl rfl rfl g_X8_75 hd_X5_put ⟨Nat.le_of_ble_eq_true rfl, Nat.le_of_ble_eq_true rfl⟩ ⟨Nat.zero_le _, Nat.zero_le _⟩ (Nat.le_of_ble_eq_true rfl) rfl dX8_appendNumber_49 (fun w1 hw1 => ?_)
  subst hw1
  refine ⟨(wTx E a F2), by rw [hF2]; rfl, ?_⟩
  refine r_aload_n (pc := 52) C (i := 0) dX8_appendNumber_52 rfl rfl ?_
  refine r_dup (pc := 53) C dX8_appendNumber_53 rfl ?_
  refine r_get (pc := 54) C gwX8 0 rfl rfl 0 (by decide) wm_1_216 rfl dX8_appendNumber_54 ?_
  refine r_iconst (pc := 57) C (v := 1) dX8_appendNumber_57 (by decide) ?_
  refine r_iadd (pc := 58) C dX8_appendNumber_58 ?_
  obtain ⟨F3, hF3, h⟩ := lt_e h
  refine r_put (pc := 59) C gwX8 tyX8 tyX8_ok nmX8 0 rfl rfl 0 (by decide) wm_1_216 rfl rfl rfl rfl (Nat.le_of_ble_eq_true rfl) (w' := (wTx E a F3)) (by rw [hF3]; rfl) dX8_appendNumber_59 ?_
  cases h
  exact r_vret (pc := 62) C hq (Nat.zero_le _) (Nat.zero_le _) dX8_appendNumber_62
def M_X8_appendNumber_0 (k : Nat) (p0 : Int32) (S : Nat → Nat → Int32) : Option ((Nat → Nat → Int32)) := if p0 < (10 : Int32) then (M_X8_appendNumber_34 k p0 S) else ((M_X5_put k 428 (S 1) (S 0 0) ((48 : Int32) + (p0 / (10 : Int32)))).bind fun q5 => lt (va_up S 1 q5) fun F6 => lt (va_up F6 0 (upd (F6 0) 0 ((F6 0 0) + (1 : Int32)))) fun F7 => M_X8_appendNumber_34 k p0 F7)
set_option maxRecDepth 100000 in
set_option maxHeartbeats 4000000 in
theorem N_X8_appendNumber_0 (C : CX E p l s m args meth c cX8_appendNumber 2 RX8 none A) (a : Nat → Nat) (k : Nat) {post : va_W → Prop} :
    ∀ (p0 : Int32) (S : Nat → Nat → Int32) (q : (Nat → Nat → Int32)), M_X8_appendNumber_0 k p0 S = some q → post (wTx E a q) →
      WW E p l e rm_X8_appendNumber s m args below meth c A 0 0 (QV E below post args s rm_X8_appendNumber A) (wTx E a S) 2 [some (.ref (a 0)), some (.int p0)] 0 [] := by
  intro p0 S q  h hq
  unfold M_X8_appendNumber_0 at h
  refine r_iload_n (pc := 0) C (i := 1) dX8_appendNumber_0 rfl rfl ?_
  refine r_bipush (pc := 1) C (v := 10) dX8_appendNumber_1 (by decide) ?_
  refine r_icmp_lt (pc := 3) C (tgt := 34) dX8_appendNumber_3 rfl (fun c4 => ?_) (fun c4 => ?_)
  · rw [if_pos c4] at h
    refine r_weak (lSub_s (lSub_s lSub_e)) ?_
    exact N_X8_appendNumber_34 C a k p0 S q  h hq
  · rw [if_neg c4] at h
    refine r_aload_n (pc := 6) C (i := 0) dX8_appendNumber_6 rfl rfl ?_
    refine r_get (pc := 7) C gwX8 0 rfl rfl 1 (by decide) wm_1_218 rfl dX8_appendNumber_7 ?_
    refine r_aload_n (pc := 10) C (i := 0) dX8_appendNumber_10 rfl rfl ?_
    refine r_get (pc := 11) C gwX8 0 rfl rfl 0 (by decide) wm_1_216 rfl dX8_appendNumber_11 ?_
    refine r_bipush (pc := 14) C (v := 48) dX8_appendNumber_14 (by decide) ?_
    refine r_iload_n (pc := 16) C (i := 1) dX8_appendNumber_16 rfl rfl ?_
    refine r_bipush (pc := 17) C (v := 10) dX8_appendNumber_17 (by decide) ?_
    refine r_idiv (pc := 19) C dX8_appendNumber_19 (by decide) ?_
    refine r_iadd (pc := 20) C dX8_appendNumber_20 ?_
    obtain ⟨q5, hq5, h⟩ := bnd h
    obtain ⟨F6, hF6, h⟩ := lt_e h
    refine r_callV_CV (Cn := RX5) (pc := 21) C [.int (S 0 0), .int ((48 : Int32) + (p0 / (10 : Int32)))] (c_X5_put E l k (fun i => a (i + 1)) 428 (S 1) (S 0 0) ((48 : Int32) + (p0 / (10 : Int32))) hq5) [1, 2] rfl (by decide) 0 rfl rfl rfl g_X8_75 hd_X5_put ⟨Nat.le_of_ble_eq_true rfl, Nat.le_of_ble_eq_true rfl⟩ ⟨Nat.zero_le _, Nat.zero_le _⟩ (Nat.le_of_ble_eq_true rfl) rfl dX8_appendNumber_21 (fun w1 hw1 => ?_)
    subst hw1
    refine ⟨(wTx E a F6), by rw [hF6]; rfl, ?_⟩
    refine r_aload_n (pc := 24) C (i := 0) dX8_appendNumber_24 rfl rfl ?_
    refine r_dup (pc := 25) C dX8_appendNumber_25 rfl ?_
    refine r_get (pc := 26) C gwX8 0 rfl rfl 0 (by decide) wm_1_216 rfl dX8_appendNumber_26 ?_
    refine r_iconst (pc := 29) C (v := 1) dX8_appendNumber_29 (by decide) ?_
    refine r_iadd (pc := 30) C dX8_appendNumber_30 ?_
    obtain ⟨F7, hF7, h⟩ := lt_e h
    refine r_put (pc := 31) C gwX8 tyX8 tyX8_ok nmX8 0 rfl rfl 0 (by decide) wm_1_216 rfl rfl rfl rfl (Nat.le_of_ble_eq_true rfl) (w' := (wTx E a F7)) (by rw [hF7]; rfl) dX8_appendNumber_31 ?_
    refine r_weak (lSub_s (lSub_s lSub_e)) ?_
    exact N_X8_appendNumber_34 C a k p0 F7 q  h hq
def M_X8_appendNumber (k : Nat) (S : Nat → Nat → Int32) (p0 : Int32) : Option ((Nat → Nat → Int32)) := M_X8_appendNumber_0 k p0 S
set_option maxRecDepth 100000 in
set_option maxHeartbeats 4000000 in
theorem c_X8_appendNumber (E : ENV) (l : Launch) (k : Nat) (a : Nat → Nat) (S : Nat → Nat → Int32) (p0 : Int32) {q : (Nat → Nat → Int32)} (hm : M_X8_appendNumber k S p0 = some q) : CV E l yX8_appendNumber cX8_appendNumber 2 none rm_X8_appendNumber [.ref (a 0), .int p0] (wTx E a S) (fun w' => w' = (wTx E a q)) :=
  CV.of 0 (by decide) (Nat.le_of_ble_eq_true rfl) (fun p e s m below meth c A C _ => r_weak (lSub_s (lSub_s lSub_e)) (N_X8_appendNumber_0 C a k p0 S q  hm rfl))
theorem hd_X8_append : yX8_append.cls = RX8 ∧ yX8_append.cls ≠ "java/lang/invoke/MethodHandle" ∧ yX8_append.cls ≠ "java/lang/invoke/VarHandle" ∧ (parseMethodDescriptor yX8_append.desc).map (fun d => d.parameters.length) = some 1 := by decide +kernel
theorem g_X8_26 : GoodIn GW (wsV RX8 26 RX8 yX8_append (wsG yX8_append cX8_append 3 none)) := gw_V wm_5_74 wm_5_76 wm_0_19 wm_1_8 wm_5_77
theorem g_X8_57 : GoodIn GW (wsV RX8 57 RX6 yX6_at (wsG yX6_at cX6_at 5 (some .int))) := gw_V wm_5_91 wm_2_59 wm_2_60 wm_1_4 wm_2_61
theorem hd_X8_appendNumber : yX8_appendNumber.cls = RX8 ∧ yX8_appendNumber.cls ≠ "java/lang/invoke/MethodHandle" ∧ yX8_appendNumber.cls ≠ "java/lang/invoke/VarHandle" ∧ (parseMethodDescriptor yX8_appendNumber.desc).map (fun d => d.parameters.length) = some 1 := by decide +kernel
theorem g_X8_30 : GoodIn GW (wsV RX8 30 RX8 yX8_appendNumber (wsG yX8_appendNumber cX8_appendNumber 2 none)) := gw_V wm_5_81 wm_5_83 wm_0_20 wm_1_8 wm_5_84
theorem g_X8_47 : GoodIn GW (wsV RX8 47 RX0 yX0_waitingAt (wsG yX0_waitingAt cX0_waitingAt 6 (some .int))) := gw_V wm_5_89 wm_4_78 wm_4_79 wm_1_2 wm_4_80
theorem hd_X0_queueLength : yX0_queueLength.cls = RX0 ∧ yX0_queueLength.cls ≠ "java/lang/invoke/MethodHandle" ∧ yX0_queueLength.cls ≠ "java/lang/invoke/VarHandle" ∧ (parseMethodDescriptor yX0_queueLength.desc).map (fun d => d.parameters.length) = some 1 := by decide +kernel
theorem g_X8_43 : GoodIn GW (wsV RX8 43 RX0 yX0_queueLength (wsG yX0_queueLength cX0_queueLength 4 (some .int))) := gw_V wm_5_88 wm_3_195 wm_3_196 wm_1_2 wm_3_197
theorem g_X8_33 : GoodIn GW (wsV RX8 33 RX0 yX0_isUp (wsG yX0_isUp cX0_isUp 2 (some .boolean))) := gw_V wm_5_85 wm_4_10 wm_4_11 wm_1_2 wm_4_12
-- ShardGuard$WorkerText.write(LShardGuard$Fleet;I)V
set_option maxHeartbeats 8000000 in
theorem hp_X8_write_0 (E : ENV) (a : Nat → Nat) (b : Nat → Nat) (S : Nat → Nat → Int32) (T : Nat → Nat → Int32) : ([0, 1, 2] : List Nat).map (fun i => (wTx E a S ++ wFl E b T)[i]?) = (wTx E a S).map some := (seg_mapL ([] : va_W) (wTx E a S) (wFl E b T) rfl 3 rfl [0, 1, 2] rfl)
set_option maxHeartbeats 8000000 in
theorem pw_X8_write_0 (E : ENV) (a : Nat → Nat) (b : Nat → Nat) (S : Nat → Nat → Int32) (T : Nat → Nat → Int32) (X0 : Nat → Nat → Int32) : putW (wTx E a S ++ wFl E b T) [0, 1, 2] (wTx E a X0) = some (wTx E a X0 ++ wFl E b T) := seg_put1 ([] : va_W) (wTx E a S) (wTx E a X0) (wFl E b T) rfl rfl 3 rfl rfl [0, 1, 2] rfl
set_option maxHeartbeats 8000000 in
theorem hp_X8_write_1 (E : ENV) (a : Nat → Nat) (b : Nat → Nat) (S : Nat → Nat → Int32) (T : Nat → Nat → Int32) : ([10, 11] : List Nat).map (fun i => (wTx E a S ++ wFl E b T)[i]?) = (wTab E (fun i => b (i + 7)) 60 8 480 (T 4)).map some := rfl
set_option maxHeartbeats 8000000 in
theorem hp_X8_write_2 (E : ENV) (a : Nat → Nat) (b : Nat → Nat) (S : Nat → Nat → Int32) (T : Nat → Nat → Int32) : ([3, 4, 5, 6, 7, 8, 9, 10, 11, 12, 13, 14, 15, 16, 17, 18, 19, 20] : List Nat).map (fun i => (wTx E a S ++ wFl E b T)[i]?) = (wFl E b T).map some := (seg_mapE (wTx E a S) (wFl E b T) rfl 18 rfl [3, 4, 5, 6, 7, 8, 9, 10, 11, 12, 13, 14, 15, 16, 17, 18, 19, 20] rfl)
theorem dX8_write_0 : decode cX8_write 0 = .ok (.aload_n 0, 1) := by decide +kernel
theorem dX8_write_1 : decode cX8_write 1 = .ok (.iconst 0, 1) := by decide +kernel
theorem dX8_write_2 : decode cX8_write 2 = .ok (.putfield 9, 3) := by decide +kernel
theorem dX8_write_5 : decode cX8_write 5 = .ok (.aload_n 0, 1) := by decide +kernel
theorem dX8_write_6 : decode cX8_write 6 = .ok (.ldc 24, 2) := by decide +kernel
theorem dX8_write_8 : decode cX8_write 8 = .ok (.invokevirtual 26, 3) := by decide +kernel
theorem dX8_write_11 : decode cX8_write 11 = .ok (.aload_n 0, 1) := by decide +kernel
theorem dX8_write_12 : decode cX8_write 12 = .ok (.iload_n 2, 1) := by decide +kernel
theorem dX8_write_13 : decode cX8_write 13 = .ok (.invokevirtual 30, 3) := by decide +kernel
theorem dX8_write_16 : decode cX8_write 16 = .ok (.aload_n 0, 1) := by decide +kernel
theorem dX8_write_17 : decode cX8_write 17 = .ok (.aload_n 1, 1) := by decide +kernel
theorem dX8_write_18 : decode cX8_write 18 = .ok (.iload_n 2, 1) := by decide +kernel
theorem dX8_write_19 : decode cX8_write 19 = .ok (.invokevirtual 33, 3) := by decide +kernel
theorem dX8_write_22 : decode cX8_write 22 = .ok (.ifCond .eq 8, 3) := by decide +kernel
theorem dX8_write_25 : decode cX8_write 25 = .ok (.ldc 39, 2) := by decide +kernel
theorem dX8_write_27 : decode cX8_write 27 = .ok (.goto 5, 3) := by decide +kernel
theorem dX8_write_30 : decode cX8_write 30 = .ok (.ldc 41, 2) := by decide +kernel
theorem dX8_write_32 : decode cX8_write 32 = .ok (.invokevirtual 26, 3) := by decide +kernel
theorem dX8_write_35 : decode cX8_write 35 = .ok (.aload_n 1, 1) := by decide +kernel
theorem dX8_write_36 : decode cX8_write 36 = .ok (.iload_n 2, 1) := by decide +kernel
theorem dX8_write_37 : decode cX8_write 37 = .ok (.invokevirtual 43, 3) := by decide +kernel
theorem dX8_write_40 : decode cX8_write 40 = .ok (.istore_n 3, 1) := by decide +kernel
theorem dX8_write_41 : decode cX8_write 41 = .ok (.iconst 0, 1) := by decide +kernel
theorem dX8_write_42 : decode cX8_write 42 = .ok (.istore 4, 2) := by decide +kernel
theorem dX8_write_44 : decode cX8_write 44 = .ok (.iload 4, 2) := by decide +kernel
theorem dX8_write_46 : decode cX8_write 46 = .ok (.iload_n 3, 1) := by decide +kernel
theorem dX8_write_47 : decode cX8_write 47 = .ok (.if_icmp .ge 70, 3) := by decide +kernel
theorem dX8_write_50 : decode cX8_write 50 = .ok (.aload_n 1, 1) := by decide +kernel
theorem dX8_write_51 : decode cX8_write 51 = .ok (.iload_n 2, 1) := by decide +kernel
theorem dX8_write_52 : decode cX8_write 52 = .ok (.iload 4, 2) := by decide +kernel
theorem dX8_write_54 : decode cX8_write 54 = .ok (.invokevirtual 47, 3) := by decide +kernel
theorem dX8_write_57 : decode cX8_write 57 = .ok (.istore 5, 2) := by decide +kernel
theorem dX8_write_59 : decode cX8_write 59 = .ok (.aload_n 0, 1) := by decide +kernel
theorem dX8_write_60 : decode cX8_write 60 = .ok (.ldc 51, 2) := by decide +kernel
theorem dX8_write_62 : decode cX8_write 62 = .ok (.invokevirtual 26, 3) := by decide +kernel
theorem dX8_write_65 : decode cX8_write 65 = .ok (.aload_n 0, 1) := by decide +kernel
theorem dX8_write_66 : decode cX8_write 66 = .ok (.iload 5, 2) := by decide +kernel
theorem dX8_write_68 : decode cX8_write 68 = .ok (.invokevirtual 30, 3) := by decide +kernel
theorem dX8_write_71 : decode cX8_write 71 = .ok (.aload_n 1, 1) := by decide +kernel
theorem dX8_write_72 : decode cX8_write 72 = .ok (.getfield 53, 3) := by decide +kernel
theorem dX8_write_75 : decode cX8_write 75 = .ok (.iload 5, 2) := by decide +kernel
theorem dX8_write_77 : decode cX8_write 77 = .ok (.iconst 3, 1) := by decide +kernel
theorem dX8_write_78 : decode cX8_write 78 = .ok (.invokevirtual 57, 3) := by decide +kernel
theorem dX8_write_81 : decode cX8_write 81 = .ok (.iconst 1, 1) := by decide +kernel
theorem dX8_write_82 : decode cX8_write 82 = .ok (.if_icmp .ne 9, 3) := by decide +kernel
theorem dX8_write_85 : decode cX8_write 85 = .ok (.aload_n 0, 1) := by decide +kernel
theorem dX8_write_86 : decode cX8_write 86 = .ok (.ldc 62, 2) := by decide +kernel
theorem dX8_write_88 : decode cX8_write 88 = .ok (.invokevirtual 26, 3) := by decide +kernel
theorem dX8_write_91 : decode cX8_write 91 = .ok (.aload_n 0, 1) := by decide +kernel
theorem dX8_write_92 : decode cX8_write 92 = .ok (.ldc 64, 2) := by decide +kernel
theorem dX8_write_94 : decode cX8_write 94 = .ok (.invokevirtual 26, 3) := by decide +kernel
theorem dX8_write_97 : decode cX8_write 97 = .ok (.aload_n 0, 1) := by decide +kernel
theorem dX8_write_98 : decode cX8_write 98 = .ok (.aload_n 1, 1) := by decide +kernel
theorem dX8_write_99 : decode cX8_write 99 = .ok (.getfield 53, 3) := by decide +kernel
theorem dX8_write_102 : decode cX8_write 102 = .ok (.iload 5, 2) := by decide +kernel
theorem dX8_write_104 : decode cX8_write 104 = .ok (.iconst 2, 1) := by decide +kernel
theorem dX8_write_105 : decode cX8_write 105 = .ok (.invokevirtual 57, 3) := by decide +kernel
theorem dX8_write_108 : decode cX8_write 108 = .ok (.invokevirtual 30, 3) := by decide +kernel
theorem dX8_write_111 : decode cX8_write 111 = .ok (.iinc 4 1, 3) := by decide +kernel
theorem dX8_write_114 : decode cX8_write 114 = .ok (.goto (-70), 3) := by decide +kernel
theorem dX8_write_117 : decode cX8_write 117 = .ok (.return_, 1) := by decide +kernel
def rm_X8_write : Room := { frames := 7, cells := 0, slots := 0, locals := 172 }
def M_X8_write_91 (k : Nat) (T : Nat → Nat → Int32) (κ44 : Int32 → Int32 → Int32 → (Nat → Nat → Int32) → Option ((Nat → Nat → Int32))) (x2 : Int32) (x3 : Int32) (x4 : Int32) (x5 : Int32) (S : Nat → Nat → Int32) : Option ((Nat → Nat → Int32)) := (M_X8_append k S 33).bind fun q1 => (M_X6_at k 60 8 480 (T 4) x5 (2 : Int32)).bind fun q2 => (M_X8_appendNumber k q1 q2).bind fun q3 => κ44 x2 x3 (x4 + 1) q3
set_option maxRecDepth 100000 in
set_option maxHeartbeats 4000000 in
theorem N_X8_write_91 (C : CX E p l s m args meth c cX8_write 6 RX8 none A) (a : Nat → Nat) (b : Nat → Nat) (k : Nat) (T : Nat → Nat → Int32) {post : va_W → Prop} (κ44 : Int32 → Int32 → Int32 → (Nat → Nat → Int32) → Option ((Nat → Nat → Int32))) (hκ44 : ∀ (x2 : Int32) (x3 : Int32) (x4 : Int32) (S : Nat → Nat → Int32) (q : (Nat → Nat → Int32)), κ44 x2 x3 x4 S = some q → post (wTx E a q ++ wFl E b T) → WW E p l e rm_X8_write s m args below meth c A 0 0 (QV E below post args s rm_X8_write A) (wTx E a S ++ wFl E b T) 6 [some (.ref (a 0)), some (.ref (b 0)), some (.int x2), some (.int x3), some (.int x4), none] 44 []) :
    ∀ (x2 : Int32) (x3 : Int32) (x4 : Int32) (x5 : Int32) (S : Nat → Nat → Int32) (q : (Nat → Nat → Int32)), M_X8_write_91 k T κ44 x2 x3 x4 x5 S = some q → post (wTx E a q ++ wFl E b T) →
      WW E p l e rm_X8_write s m args below meth c A 0 0 (QV E below post args s rm_X8_write A) (wTx E a S ++ wFl E b T) 6 [some (.ref (a 0)), some (.ref (b 0)), some (.int x2), some (.int x3), some (.int x4), some (.int x5)] 91 [] := by
  intro x2 x3 x4 x5 S q  h hq
  unfold M_X8_write_91 at h
  refine r_aload_n (pc := 91) C (i := 0) dX8_write_91 rfl rfl ?_
  refine r_ldcS (pc := 92) C 33 rfl dX8_write_92 ?_
  obtain ⟨q1, hq1, h⟩ := bnd h
  refine r_callV_CV (Cn := RX8) (pc := 94) C [.ref (eS E 33)] (c_X8_append E l k a S 33 (by decide) hq1) [0, 1, 2] (hp_X8_write_0 E a b S T) (by decide) 0 rfl rfl rfl g_X8_26 hd_X8_append ⟨Nat.le_of_ble_eq_true rfl, Nat.le_of_ble_eq_true rfl⟩ ⟨Nat.zero_le _, Nat.zero_le _⟩ (Nat.le_of_ble_eq_true rfl) rfl dX8_write_94 (fun w1 hw1 => ?_)
  subst hw1
  refine ⟨(wTx E a q1 ++ wFl E b T), by exact (pw_X8_write_0 E a b S T q1), ?_⟩
  refine r_aload_n (pc := 97) C (i := 0) dX8_write_97 rfl rfl ?_
  refine r_aload_n (pc := 98) C (i := 1) dX8_write_98 rfl rfl ?_
  refine r_get (pc := 99) C gwX0 3 rfl rfl 9 (by decide) wm_1_116 rfl dX8_write_99 ?_
  refine r_iload (pc := 102) C (i := 5) dX8_write_102 rfl ?_
  refine r_iconst (pc := 104) C (v := 2) dX8_write_104 (by decide) ?_
  obtain ⟨q2, hq2, h⟩ := bnd h
  refine r_callVp_CI (Cn := RX6) (pc := 105) C [.int x5, .int (2 : Int32)] (c_X6_at E l k (fun i => b (i + 7)) 60 8 480 (T 4) x5 (2 : Int32) hq2) [10, 11] (hp_X8_write_1 E a b q1 T) (by decide) 0 rfl rfl rfl g_X8_57 hd_X6_at ⟨Nat.le_of_ble_eq_true rfl, Nat.le_of_ble_eq_true rfl⟩ ⟨Nat.zero_le _, Nat.zero_le _⟩ (Nat.le_of_ble_eq_true rfl) rfl dX8_write_105 (fun r hr => ?_)
  have hr := hr.symm
  subst hr
  obtain ⟨q3, hq3, h⟩ := bnd h
  refine r_callV_CV (Cn := RX8) (pc := 108) C [.int q2] (c_X8_appendNumber E l k a q1 q2 hq3) [0, 1, 2] (hp_X8_write_0 E a b q1 T) (by decide) 0 rfl rfl rfl g_X8_30 hd_X8_appendNumber ⟨Nat.le_of_ble_eq_true rfl, Nat.le_of_ble_eq_true rfl⟩ ⟨Nat.zero_le _, Nat.zero_le _⟩ (Nat.le_of_ble_eq_true rfl) rfl dX8_write_108 (fun w1 hw1 => ?_)
  subst hw1
  refine ⟨(wTx E a q3 ++ wFl E b T), by exact (pw_X8_write_0 E a b q1 T q3), ?_⟩
  refine r_iinc (pc := 111) C (v := (x4 + 1)) dX8_write_111 rfl rfl (by decide) rfl ?_
  refine r_goto (pc := 114) C (tgt := 44) dX8_write_114 rfl ?_
  refine r_weak (lSub_s (lSub_s (lSub_s (lSub_s (lSub_s (lSub_n lSub_e)))))) ?_
  exact hκ44 x2 x3 (x4 + 1) q3 q  h hq
def M_X8_write_44 (k : Nat) (T : Nat → Nat → Int32) : Nat → (Int32) → (Int32) → (Int32) → (Nat → Nat → Int32) → Option ((Nat → Nat → Int32))
  | 0, _, _, _, _ => none
  | n + 1, x2, x3, x4, S => if x3 ≤ x4 then (some S) else ((M_X0_waitingAt k T x2 x4).bind fun q5 => (M_X8_append k S 31).bind fun q6 => (M_X8_appendNumber k q6 q5).bind fun q7 => (M_X6_at k 60 8 480 (T 4) q5 (3 : Int32)).bind fun q8 => if q8 = (1 : Int32) then ((M_X8_append k q7 32).bind fun q10 => M_X8_write_91 k T (M_X8_write_44 k T n) x2 x3 x4 q5 q10) else (M_X8_write_91 k T (M_X8_write_44 k T n) x2 x3 x4 q5 q7))
theorem M_X8_write_44_s (k : Nat) (T : Nat → Nat → Int32) (n : Nat) (x2 : Int32) (x3 : Int32) (x4 : Int32) (S : Nat → Nat → Int32) : M_X8_write_44 k T (n + 1) x2 x3 x4 S = (if x3 ≤ x4 then (some S) else ((M_X0_waitingAt k T x2 x4).bind fun q5 => (M_X8_append k S 31).bind fun q6 => (M_X8_appendNumber k q6 q5).bind fun q7 => (M_X6_at k 60 8 480 (T 4) q5 (3 : Int32)).bind fun q8 => if q8 = (1 : Int32) then ((M_X8_append k q7 32).bind fun q10 => M_X8_write_91 k T (M_X8_write_44 k T n) x2 x3 x4 q5 q10) else (M_X8_write_91 k T (M_X8_write_44 k T n) x2 x3 x4 q5 q7))) := rfl
set_option maxRecDepth 100000 in
set_option maxHeartbeats 4000000 in
theorem N_X8_write_44 (C : CX E p l s m args meth c cX8_write 6 RX8 none A) (a : Nat → Nat) (b : Nat → Nat) (k : Nat) (T : Nat → Nat → Int32) {post : va_W → Prop} :
    ∀ (n : Nat) (x2 : Int32) (x3 : Int32) (x4 : Int32) (S : Nat → Nat → Int32) (q : (Nat → Nat → Int32)), M_X8_write_44 k T n x2 x3 x4 S = some q → post (wTx E a q ++ wFl E b T) →
      WW E p l e rm_X8_write s m args below meth c A 0 0 (QV E below post args s rm_X8_write A) (wTx E a S ++ wFl E b T) 6 [some (.ref (a 0)), some (.ref (b 0)), some (.int x2), some (.int x3), some (.int x4), none] 44 [] := by
  intro n
  induction n with
  | zero => intro x2 x3 x4 S q  h _; cases h
  | succ n ih =>
    intro x2 x3 x4 S q  h hq
    rw [M_X8_write_44_s] at h
    refine r_iload (pc := 44) C (i := 4) dX8_write_44 rfl ?_
    refine r_iload_n (pc := 46) C (i := 3) dX8_write_46 rfl rfl ?_
    refine r_icmp_ge (pc := 47) C (tgt := 117) dX8_write_47 rfl (fun c4 => ?_) (fun c4 => ?_)
    · rw [if_pos c4] at h
      cases h
      exact r_vret (pc := 117) C hq (Nat.zero_le _) (Nat.zero_le _) dX8_write_117
    · rw [if_neg c4] at h
      refine r_aload_n (pc := 50) C (i := 1) dX8_write_50 rfl rfl ?_
      refine r_iload_n (pc := 51) C (i := 2) dX8_write_51 rfl rfl ?_
      refine r_iload (pc := 52) C (i := 4) dX8_write_52 rfl ?_
      obtain ⟨q5, hq5, h⟩ := bnd h
      refine r_callVp_CI (Cn := RX0) (pc := 54) C [.int x2, .int x4] (c_X0_waitingAt E l k b T x2 x4 hq5) [3, 4, 5, 6, 7, 8, 9, 10, 11, 12, 13, 14, 15, 16, 17, 18, 19, 20] (hp_X8_write_2 E a b S T) (by decide) 0 rfl rfl rfl g_X8_47 hd_X0_waitingAt ⟨Nat.le_of_ble_eq_true rfl, Nat.le_of_ble_eq_true rfl⟩ ⟨Nat.zero_le _, Nat.zero_le _⟩ (Nat.le_of_ble_eq_true rfl) rfl dX8_write_54 (fun r hr => ?_)
      have hr := hr.symm
      subst hr
      refine r_istore (pc := 57) C (i := 5) dX8_write_57 (by decide) rfl ?_
      refine r_aload_n (pc := 59) C (i := 0) dX8_write_59 rfl rfl ?_
      refine r_ldcS (pc := 60) C 31 rfl dX8_write_60 ?_
      obtain ⟨q6, hq6, h⟩ := bnd h
      refine r_callV_CV (Cn := RX8) (pc := 62) C [.ref (eS E 31)] (c_X8_append E l k a S 31 (by decide) hq6) [0, 1, 2] (hp_X8_write_0 E a b S T) (by decide) 0 rfl rfl rfl g_X8_26 hd_X8_append ⟨Nat.le_of_ble_eq_true rfl, Nat.le_of_ble_eq_true rfl⟩ ⟨Nat.zero_le _, Nat.zero_le _⟩ (Nat.le_of_ble_eq_true rfl) rfl dX8_write_62 (fun w1 hw1 => ?_)
      subst hw1
      refine ⟨(wTx E a q6 ++ wFl E b T), by exact (pw_X8_write_0 E a b S T q6), ?_⟩
      refine r_aload_n (pc := 65) C (i := 0) dX8_write_65 rfl rfl ?_
      refine r_iload (pc := 66) C (i := 5) dX8_write_66 rfl ?_
      obtain ⟨q7, hq7, h⟩ := bnd h
      refine r_callV_CV (Cn := RX8) (pc := 68) C [.int q5] (c_X8_appendNumber E l k a q6 q5 hq7) [0, 1, 2] (hp_X8_write_0 E a b q6 T) (by decide) 0 rfl rfl rfl g_X8_30 hd_X8_appendNumber ⟨Nat.le_of_ble_eq_true rfl, Nat.le_of_ble_eq_true rfl⟩ ⟨Nat.zero_le _, Nat.zero_le _⟩ (Nat.le_of_ble_eq_true rfl) rfl dX8_write_68 (fun w1 hw1 => ?_)
      subst hw1
      refine ⟨(wTx E a q7 ++ wFl E b T), by exact (pw_X8_write_0 E a b q6 T q7), ?_⟩
      refine r_aload_n (pc := 71) C (i := 1) dX8_write_71 rfl rfl ?_
      refine r_get (pc := 72) C gwX0 3 rfl rfl 9 (by decide) wm_1_116 rfl dX8_write_72 ?_
      refine r_iload (pc := 75) C (i := 5) dX8_write_75 rfl ?_
      refine r_iconst (pc := 77) C (v := 3) dX8_write_77 (by decide) ?_
      obtain ⟨q8, hq8, h⟩ := bnd h
      refine r_callVp_CI (Cn := RX6) (pc := 78) C [.int q5, .int (3 : Int32)] (c_X6_at E l k (fun i => b (i + 7)) 60 8 480 (T 4) q5 (3 : Int32) hq8) [10, 11] (hp_X8_write_1 E a b q7 T) (by decide) 0 rfl rfl rfl g_X8_57 hd_X6_at ⟨Nat.le_of_ble_eq_true rfl, Nat.le_of_ble_eq_true rfl⟩ ⟨Nat.zero_le _, Nat.zero_le _⟩ (Nat.le_of_ble_eq_true rfl) rfl dX8_write_78 (fun r hr => ?_)
      have hr := hr.symm
      subst hr
      refine r_iconst (pc := 81) C (v := 1) dX8_write_81 (by decide) ?_
      refine r_icmp_ne (pc := 82) C (tgt := 91) dX8_write_82 rfl (fun c9 => ?_) (fun c9 => ?_)
      · rw [if_neg c9] at h
        refine r_weak (lSub_s (lSub_s (lSub_s (lSub_s (lSub_s (lSub_s lSub_e)))))) ?_
        exact N_X8_write_91 C a b k T (M_X8_write_44 k T n) ih x2 x3 x4 q5 q7 q  h hq
      · rw [if_pos c9] at h
        refine r_aload_n (pc := 85) C (i := 0) dX8_write_85 rfl rfl ?_
        refine r_ldcS (pc := 86) C 32 rfl dX8_write_86 ?_
        obtain ⟨q10, hq10, h⟩ := bnd h
        refine r_callV_CV (Cn := RX8) (pc := 88) C [.ref (eS E 32)] (c_X8_append E l k a q7 32 (by decide) hq10) [0, 1, 2] (hp_X8_write_0 E a b q7 T) (by decide) 0 rfl rfl rfl g_X8_26 hd_X8_append ⟨Nat.le_of_ble_eq_true rfl, Nat.le_of_ble_eq_true rfl⟩ ⟨Nat.zero_le _, Nat.zero_le _⟩ (Nat.le_of_ble_eq_true rfl) rfl dX8_write_88 (fun w1 hw1 => ?_)
        subst hw1
        refine ⟨(wTx E a q10 ++ wFl E b T), by exact (pw_X8_write_0 E a b q7 T q10), ?_⟩
        refine r_weak (lSub_s (lSub_s (lSub_s (lSub_s (lSub_s (lSub_s lSub_e)))))) ?_
        exact N_X8_write_91 C a b k T (M_X8_write_44 k T n) ih x2 x3 x4 q5 q10 q  h hq
def M_X8_write_32 (k : Nat) (T : Nat → Nat → Int32) (x2 : Int32) (y1 : Nat) (S : Nat → Nat → Int32) : Option ((Nat → Nat → Int32)) := (M_X8_append k S y1).bind fun q11 => (M_X0_queueLength k T x2).bind fun q12 => M_X8_write_44 k T k x2 q12 (0 : Int32) q11
set_option maxRecDepth 100000 in
set_option maxHeartbeats 4000000 in
theorem N_X8_write_32 (C : CX E p l s m args meth c cX8_write 6 RX8 none A) (a : Nat → Nat) (b : Nat → Nat) (k : Nat) (T : Nat → Nat → Int32) {post : va_W → Prop} :
    ∀ (x2 : Int32) (y1 : Nat) (S : Nat → Nat → Int32) (q : (Nat → Nat → Int32)), y1 < 79 → M_X8_write_32 k T x2 y1 S = some q → post (wTx E a q ++ wFl E b T) →
      WW E p l e rm_X8_write s m args below meth c A 0 0 (QV E below post args s rm_X8_write A) (wTx E a S ++ wFl E b T) 6 [some (.ref (a 0)), some (.ref (b 0)), some (.int x2), none, none, none] 32 [.ref (eS E y1), .ref (a 0)] := by
  intro x2 y1 S q hj_y1 h hq
  unfold M_X8_write_32 at h
  obtain ⟨q11, hq11, h⟩ := bnd h
  refine r_callV_CV (Cn := RX8) (pc := 32) C [.ref (eS E y1)] (c_X8_append E l k a S y1 hj_y1 hq11) [0, 1, 2] (hp_X8_write_0 E a b S T) (by decide) 0 rfl rfl rfl g_X8_26 hd_X8_append ⟨Nat.le_of_ble_eq_true rfl, Nat.le_of_ble_eq_true rfl⟩ ⟨Nat.zero_le _, Nat.zero_le _⟩ (Nat.le_of_ble_eq_true rfl) rfl dX8_write_32 (fun w1 hw1 => ?_)
  subst hw1
  refine ⟨(wTx E a q11 ++ wFl E b T), by exact (pw_X8_write_0 E a b S T q11), ?_⟩
  refine r_aload_n (pc := 35) C (i := 1) dX8_write_35 rfl rfl ?_
  refine r_iload_n (pc := 36) C (i := 2) dX8_write_36 rfl rfl ?_
  obtain ⟨q12, hq12, h⟩ := bnd h
  refine r_callVp_CI (Cn := RX0) (pc := 37) C [.int x2] (c_X0_queueLength E l k b T x2 hq12) [3, 4, 5, 6, 7, 8, 9, 10, 11, 12, 13, 14, 15, 16, 17, 18, 19, 20] (hp_X8_write_2 E a b q11 T) (by decide) 0 rfl rfl rfl g_X8_43 hd_X0_queueLength ⟨Nat.le_of_ble_eq_true rfl, Nat.le_of_ble_eq_true rfl⟩ ⟨Nat.zero_le _, Nat.zero_le _⟩ (Nat.le_of_ble_eq_true rfl) rfl dX8_write_37 (fun r hr => ?_)
  have hr := hr.symm
  subst hr
  refine r_istore_n (pc := 40) C (i := 3) dX8_write_40 rfl (by decide) rfl ?_
  refine r_iconst (pc := 41) C (v := 0) dX8_write_41 (by decide) ?_
  refine r_istore (pc := 42) C (i := 4) dX8_write_42 (by decide) rfl ?_
  refine r_weak (lSub_s (lSub_s (lSub_s (lSub_s (lSub_s (lSub_n lSub_e)))))) ?_
  exact N_X8_write_44 C a b k T k x2 q12 (0 : Int32) q11 q  h hq
def M_X8_write_0 (k : Nat) (T : Nat → Nat → Int32) (p0 : Int32) (S : Nat → Nat → Int32) : Option ((Nat → Nat → Int32)) := lt (va_up S 0 (upd (S 0) 0 (0 : Int32))) fun F13 => (M_X8_append k F13 28).bind fun q14 => (M_X8_appendNumber k q14 p0).bind fun q15 => (M_X0_isUp k T p0).bind fun q16 => if q16 = 0 then (M_X8_write_32 k T p0 30 q15) else (M_X8_write_32 k T p0 29 q15)
set_option maxRecDepth 100000 in
set_option maxHeartbeats 4000000 in
theorem N_X8_write_0 (C : CX E p l s m args meth c cX8_write 6 RX8 none A) (a : Nat → Nat) (b : Nat → Nat) (k : Nat) (T : Nat → Nat → Int32) {post : va_W → Prop} :
    ∀ (p0 : Int32) (S : Nat → Nat → Int32) (q : (Nat → Nat → Int32)), M_X8_write_0 k T p0 S = some q → post (wTx E a q ++ wFl E b T) →
      WW E p l e rm_X8_write s m args below meth c A 0 0 (QV E below post args s rm_X8_write A) (wTx E a S ++ wFl E b T) 6 [some (.ref (a 0)), some (.ref (b 0)), some (.int p0), none, none, none] 0 [] := by
  intro p0 S q  h hq
  unfold M_X8_write_0 at h
  refine r_aload_n (pc := 0) C (i := 0) dX8_write_0 rfl rfl ?_
  refine r_iconst (pc := 1) C (v := 0) dX8_write_1 (by decide) ?_
  obtain ⟨F13, hF13, h⟩ := lt_e h
  refine r_put (pc := 2) C gwX8 tyX8 tyX8_ok nmX8 0 rfl rfl 0 (by decide) wm_1_216 rfl rfl rfl rfl (Nat.le_of_ble_eq_true rfl) (w' := (wTx E a F13 ++ wFl E b T)) (by rw [hF13]; rfl) dX8_write_2 ?_
  refine r_aload_n (pc := 5) C (i := 0) dX8_write_5 rfl rfl ?_
  refine r_ldcS (pc := 6) C 28 rfl dX8_write_6 ?_
  obtain ⟨q14, hq14, h⟩ := bnd h
  refine r_callV_CV (Cn := RX8) (pc := 8) C [.ref (eS E 28)] (c_X8_append E l k a F13 28 (by decide) hq14) [0, 1, 2] (hp_X8_write_0 E a b F13 T) (by decide) 0 rfl rfl rfl g_X8_26 hd_X8_append ⟨Nat.le_of_ble_eq_true rfl, Nat.le_of_ble_eq_true rfl⟩ ⟨Nat.zero_le _, Nat.zero_le _⟩ (Nat.le_of_ble_eq_true rfl) rfl dX8_write_8 (fun w1 hw1 => ?_)
  subst hw1
  refine ⟨(wTx E a q14 ++ wFl E b T), by exact (pw_X8_write_0 E a b F13 T q14), ?_⟩
  refine r_aload_n (pc := 11) C (i := 0) dX8_write_11 rfl rfl ?_
  refine r_iload_n (pc := 12) C (i := 2) dX8_write_12 rfl rfl ?_
  obtain ⟨q15, hq15, h⟩ := bnd h
  refine r_callV_CV (Cn := RX8) (pc := 13) C [.int p0] (c_X8_appendNumber E l k a q14 p0 hq15) [0, 1, 2] (hp_X8_write_0 E a b q14 T) (by decide) 0 rfl rfl rfl g_X8_30 hd_X8_appendNumber ⟨Nat.le_of_ble_eq_true rfl, Nat.le_of_ble_eq_true rfl⟩ ⟨Nat.zero_le _, Nat.zero_le _⟩ (Nat.le_of_ble_eq_true rfl) rfl dX8_write_13 (fun w1 hw1 => ?_)
  subst hw1
  refine ⟨(wTx E a q15 ++ wFl E b T), by exact (pw_X8_write_0 E a b q14 T q15), ?_⟩
  refine r_aload_n (pc := 16) C (i := 0) dX8_write_16 rfl rfl ?_
  refine r_aload_n (pc := 17) C (i := 1) dX8_write_17 rfl rfl ?_
  refine r_iload_n (pc := 18) C (i := 2) dX8_write_18 rfl rfl ?_
  obtain ⟨q16, hq16, h⟩ := bnd h
  refine r_callVp_CI (Cn := RX0) (pc := 19) C [.int p0] (c_X0_isUp E l k b T p0 hq16) [3, 4, 5, 6, 7, 8, 9, 10, 11, 12, 13, 14, 15, 16, 17, 18, 19, 20] (hp_X8_write_2 E a b q15 T) (by decide) 0 rfl rfl rfl g_X8_33 hd_X0_isUp ⟨Nat.le_of_ble_eq_true rfl, Nat.le_of_ble_eq_true rfl⟩ ⟨Nat.zero_le _, Nat.zero_le _⟩ (Nat.le_of_ble_eq_true rfl) rfl dX8_write_19 (fun r hr => ?_)
  have hr := hr.symm
  subst hr
  refine r_if_eq (pc := 22) C (tgt := 30) dX8_write_22 rfl (fun c17 => ?_) (fun c17 => ?_)
  · rw [if_pos c17] at h
    refine r_ldcS (pc := 30) C 30 rfl dX8_write_30 ?_
    refine r_weak (lSub_s (lSub_s (lSub_s (lSub_n (lSub_n (lSub_n lSub_e)))))) ?_
    exact N_X8_write_32 C a b k T p0 30 q15 q (by decide) h hq
  · rw [if_neg c17] at h
    refine r_ldcS (pc := 25) C 29 rfl dX8_write_25 ?_
    refine r_goto (pc := 27) C (tgt := 32) dX8_write_27 rfl ?_
    refine r_weak (lSub_s (lSub_s (lSub_s (lSub_n (lSub_n (lSub_n lSub_e)))))) ?_
    exact N_X8_write_32 C a b k T p0 29 q15 q (by decide) h hq
def M_X8_write (k : Nat) (S : Nat → Nat → Int32) (T : Nat → Nat → Int32) (p0 : Int32) : Option ((Nat → Nat → Int32)) := M_X8_write_0 k T p0 S
set_option maxRecDepth 100000 in
set_option maxHeartbeats 4000000 in
theorem c_X8_write (E : ENV) (l : Launch) (k : Nat) (a : Nat → Nat) (b : Nat → Nat) (S : Nat → Nat → Int32) (T : Nat → Nat → Int32) (p0 : Int32) {q : (Nat → Nat → Int32)} (hm : M_X8_write k S T p0 = some q) : CV E l yX8_write cX8_write 6 none rm_X8_write [.ref (a 0), .ref (b 0), .int p0] (wTx E a S ++ wFl E b T) (fun w' => w' = (wTx E a q ++ wFl E b T)) :=
  CV.of 3 (by decide) (Nat.le_of_ble_eq_true rfl) (fun p e s m below meth c A C _ => r_weak (lSub_s (lSub_s (lSub_s (lSub_n (lSub_n (lSub_n lSub_e)))))) (N_X8_write_0 C a b k T p0 S q  hm rfl))
end WALKS
