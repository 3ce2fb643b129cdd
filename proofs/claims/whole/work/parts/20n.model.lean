section WALKS
variable {E : ENV} {p : Program} {l : Launch} {e : Env} {s : State} {m : MethodId} {args : Array Value} {below : List Frame} {meth : Method} {c : Code} {A : Nat → Prop}
-- ShardGuardModel.record()V
theorem dX10_record_0 : decode cX10_record 0 = .ok (.aload_n 0, 1) := by decide +kernel
theorem dX10_record_1 : decode cX10_record 1 = .ok (.getfield 346, 3) := by decide +kernel
theorem dX10_record_4 : decode cX10_record 4 = .ok (.bipush 10, 2) := by decide +kernel
theorem dX10_record_6 : decode cX10_record 6 = .ok (.if_icmp .ne 42, 3) := by decide +kernel
theorem dX10_record_9 : decode cX10_record 9 = .ok (.iconst 1, 1) := by decide +kernel
theorem dX10_record_10 : decode cX10_record 10 = .ok (.istore_n 1, 1) := by decide +kernel
theorem dX10_record_11 : decode cX10_record 11 = .ok (.iload_n 1, 1) := by decide +kernel
theorem dX10_record_12 : decode cX10_record 12 = .ok (.bipush 10, 2) := by decide +kernel
theorem dX10_record_14 : decode cX10_record 14 = .ok (.if_icmp .ge 24, 3) := by decide +kernel
theorem dX10_record_17 : decode cX10_record 17 = .ok (.aload_n 0, 1) := by decide +kernel
theorem dX10_record_18 : decode cX10_record 18 = .ok (.getfield 22, 3) := by decide +kernel
theorem dX10_record_21 : decode cX10_record 21 = .ok (.iload_n 1, 1) := by decide +kernel
theorem dX10_record_22 : decode cX10_record 22 = .ok (.aload_n 0, 1) := by decide +kernel
theorem dX10_record_23 : decode cX10_record 23 = .ok (.getfield 22, 3) := by decide +kernel
theorem dX10_record_26 : decode cX10_record 26 = .ok (.iload_n 1, 1) := by decide +kernel
theorem dX10_record_27 : decode cX10_record 27 = .ok (.iconst 1, 1) := by decide +kernel
theorem dX10_record_28 : decode cX10_record 28 = .ok (.isub, 1) := by decide +kernel
theorem dX10_record_29 : decode cX10_record 29 = .ok (.invokestatic 235, 3) := by decide +kernel
theorem dX10_record_32 : decode cX10_record 32 = .ok (.iinc 1 1, 3) := by decide +kernel
theorem dX10_record_35 : decode cX10_record 35 = .ok (.goto (-24), 3) := by decide +kernel
theorem dX10_record_38 : decode cX10_record 38 = .ok (.aload_n 0, 1) := by decide +kernel
theorem dX10_record_39 : decode cX10_record 39 = .ok (.dup, 1) := by decide +kernel
theorem dX10_record_40 : decode cX10_record 40 = .ok (.getfield 346, 3) := by decide +kernel
theorem dX10_record_43 : decode cX10_record 43 = .ok (.iconst 1, 1) := by decide +kernel
theorem dX10_record_44 : decode cX10_record 44 = .ok (.isub, 1) := by decide +kernel
theorem dX10_record_45 : decode cX10_record 45 = .ok (.putfield 346, 3) := by decide +kernel
theorem dX10_record_48 : decode cX10_record 48 = .ok (.aload_n 0, 1) := by decide +kernel
theorem dX10_record_49 : decode cX10_record 49 = .ok (.getfield 9, 3) := by decide +kernel
theorem dX10_record_52 : decode cX10_record 52 = .ok (.iconst 0, 1) := by decide +kernel
theorem dX10_record_53 : decode cX10_record 53 = .ok (.aload_n 0, 1) := by decide +kernel
theorem dX10_record_54 : decode cX10_record 54 = .ok (.getfield 22, 3) := by decide +kernel
theorem dX10_record_57 : decode cX10_record 57 = .ok (.aload_n 0, 1) := by decide +kernel
theorem dX10_record_58 : decode cX10_record 58 = .ok (.getfield 346, 3) := by decide +kernel
theorem dX10_record_61 : decode cX10_record 61 = .ok (.invokestatic 235, 3) := by decide +kernel
theorem dX10_record_64 : decode cX10_record 64 = .ok (.aload_n 0, 1) := by decide +kernel
theorem dX10_record_65 : decode cX10_record 65 = .ok (.dup, 1) := by decide +kernel
theorem dX10_record_66 : decode cX10_record 66 = .ok (.getfield 346, 3) := by decide +kernel
theorem dX10_record_69 : decode cX10_record 69 = .ok (.iconst 1, 1) := by decide +kernel
theorem dX10_record_70 : decode cX10_record 70 = .ok (.iadd, 1) := by decide +kernel
theorem dX10_record_71 : decode cX10_record 71 = .ok (.putfield 346, 3) := by decide +kernel
theorem dX10_record_74 : decode cX10_record 74 = .ok (.return_, 1) := by decide +kernel
def rm_X10_record : Room := { frames := 1, cells := 0, slots := 0, locals := 24 }
def M_X10_record_48 (k : Nat) (S : Nat → Nat → Int32) : Option ((Nat → Nat → Int32)) := (M_X10_copy k 1692 16920 (S 1) (S 5) (0 : Int32) (S 0 0)).bind fun q1 => lt (va_up S 5 q1) fun F2 => lt (va_up F2 0 (upd (F2 0) 0 ((F2 0 0) + (1 : Int32)))) fun F3 => some F3
set_option maxRecDepth 100000 in
set_option maxHeartbeats 4000000 in
theorem N_X10_record_48 (C : CX E p l s m args meth c cX10_record 2 RX10 none A) (a : Nat → Nat) (k : Nat) {post : va_W → Prop} :
    ∀ (S : Nat → Nat → Int32) (q : (Nat → Nat → Int32)), M_X10_record_48 k S = some q → post (wMd E a q) →
      WW E p l e rm_X10_record s m args below meth c A 0 0 (QV E below post args s rm_X10_record A) (wMd E a S) 2 [some (.ref (a 0)), none] 48 [] := by
  intro S q  h hq
  unfold M_X10_record_48 at h
  refine r_aload_n (pc := 48) C (i := 0) dX10_record_48 rfl rfl ?_
  refine r_get (pc := 49) C gwX10 0 rfl rfl 0 (by decide) wm_5_203 rfl dX10_record_49 ?_
  refine r_iconst (pc := 52) C (v := 0) dX10_record_52 (by decide) ?_
  refine r_aload_n (pc := 53) C (i := 0) dX10_record_53 rfl rfl ?_
  refine r_get (pc := 54) C gwX10 0 rfl rfl 4 (by decide) wm_5_207 rfl dX10_record_54 ?_
  refine r_aload_n (pc := 57) C (i := 0) dX10_record_57 rfl rfl ?_
  refine r_get (pc := 58) C gwX10 0 rfl rfl 5 (by decide) wm_5_208 rfl dX10_record_58 ?_
  obtain ⟨q1, hq1, h⟩ := bnd h
  obtain ⟨F2, hF2, h⟩ := lt_e h
  refine r_callS_CV (pc := 61) C [.ref (a 1), .int (0 : Int32), .ref (a 5), .int (S 0 0)] (c_X10_copy E l k (fun i => a (i + 1)) (fun i => a (i + 5)) 1692 16920 (S 1) (S 5) (0 : Int32) (S 0 0) hq1) [1, 5] rfl (by decide) g_X10_235 hd_X10_copy.2 ⟨Nat.le_of_ble_eq_true rfl, Nat.le_of_ble_eq_true rfl⟩ ⟨Nat.zero_le _, Nat.zero_le _⟩ (Nat.le_of_ble_eq_true rfl) rfl dX10_record_61 (fun w1 hw1 => ?_)
  subst hw1
  refine ⟨(wMd E a F2), by rw [hF2]; rfl, ?_⟩
  refine r_aload_n (pc := 64) C (i := 0) dX10_record_64 rfl rfl ?_
  refine r_dup (pc := 65) C dX10_record_65 rfl ?_
  refine r_get (pc := 66) C gwX10 0 rfl rfl 5 (by decide) wm_5_208 rfl dX10_record_66 ?_
  refine r_iconst (pc := 69) C (v := 1) dX10_record_69 (by decide) ?_
  refine r_iadd (pc := 70) C dX10_record_70 ?_
  obtain ⟨F3, hF3, h⟩ := lt_e h
  refine r_put (pc := 71) C gwX10 tyX10 tyX10_ok nmX10 0 rfl rfl 5 (by decide) wm_5_208 rfl rfl rfl rfl (Nat.le_of_ble_eq_true rfl) (w' := (wMd E a F3)) (by rw [hF3]; rfl) dX10_record_71 ?_
  cases h
  exact r_vret (pc := 74) C hq (Nat.zero_le _) (Nat.zero_le _) dX10_record_74
def M_X10_record_11 (k : Nat) : Nat → (Int32) → (Nat → Nat → Int32) → Option ((Nat → Nat → Int32))
  | 0, _, _ => none
  | n + 1, x1, S => if (10 : Int32) ≤ x1 then (lt (va_up S 0 (upd (S 0) 0 ((S 0 0) - (1 : Int32)))) fun F5 => M_X10_record_48 k F5) else ((M_X10_copy_same k 16920 (S 5) x1 (x1 - (1 : Int32))).bind fun q6 => lt (va_up S 5 q6) fun F7 => M_X10_record_11 k n (x1 + 1) F7)
theorem M_X10_record_11_s (k : Nat) (n : Nat) (x1 : Int32) (S : Nat → Nat → Int32) : M_X10_record_11 k (n + 1) x1 S = (if (10 : Int32) ≤ x1 then (lt (va_up S 0 (upd (S 0) 0 ((S 0 0) - (1 : Int32)))) fun F5 => M_X10_record_48 k F5) else ((M_X10_copy_same k 16920 (S 5) x1 (x1 - (1 : Int32))).bind fun q6 => lt (va_up S 5 q6) fun F7 => M_X10_record_11 k n (x1 + 1) F7)) := rfl
set_option maxRecDepth 100000 in
set_option maxHeartbeats 4000000 in
theorem N_X10_record_11 (C : CX E p l s m args meth c cX10_record 2 RX10 none A) (a : Nat → Nat) (k : Nat) {post : va_W → Prop} :
    ∀ (n : Nat) (x1 : Int32) (S : Nat → Nat → Int32) (q : (Nat → Nat → Int32)), M_X10_record_11 k n x1 S = some q → post (wMd E a q) →
      WW E p l e rm_X10_record s m args below meth c A 0 0 (QV E below post args s rm_X10_record A) (wMd E a S) 2 [some (.ref (a 0)), some (.int x1)] 11 [] := by
  intro n
  induction n with
  | zero => intro x1 S q  h _; cases h
  | succ n ih =>
    intro x1 S q  h hq
    rw [M_X10_record_11_s] at h
    refine r_iload_n (pc := 11) C (i := 1) dX10_record_11 rfl rfl ?_
    refine r_bipush (pc := 12) C (v := 10) dX10_record_12 (by decide) ?_
    refine r_icmp_ge (pc := 14) C (tgt := 38) dX10_record_14 rfl (fun c4 => ?_) (fun c4 => ?_)
    · rw [if_pos c4] at h
      refine r_aload_n (pc := 38) C (i := 0) dX10_record_38 rfl rfl ?_
      refine r_dup (pc := 39) C dX10_record_39 rfl ?_
      refine r_get (pc := 40) C gwX10 0 rfl rfl 5 (by decide) wm_5_208 rfl dX10_record_40 ?_
      refine r_iconst (pc := 43) C (v := 1) dX10_record_43 (by decide) ?_
      refine r_isub (pc := 44) C dX10_record_44 ?_
      obtain ⟨F5, hF5, h⟩ := lt_e h
      refine r_put (pc := 45) C gwX10 tyX10 tyX10_ok nmX10 0 rfl rfl 5 (by decide) wm_5_208 rfl rfl rfl rfl (Nat.le_of_ble_eq_true rfl) (w' := (wMd E a F5)) (by rw [hF5]; rfl) dX10_record_45 ?_
      refine r_weak (lSub_s (lSub_n lSub_e)) ?_
      exact N_X10_record_48 C a k F5 q  h hq
    · rw [if_neg c4] at h
      refine r_aload_n (pc := 17) C (i := 0) dX10_record_17 rfl rfl ?_
      refine r_get (pc := 18) C gwX10 0 rfl rfl 4 (by decide) wm_5_207 rfl dX10_record_18 ?_
      refine r_iload_n (pc := 21) C (i := 1) dX10_record_21 rfl rfl ?_
      refine r_aload_n (pc := 22) C (i := 0) dX10_record_22 rfl rfl ?_
      refine r_get (pc := 23) C gwX10 0 rfl rfl 4 (by decide) wm_5_207 rfl dX10_record_23 ?_
      refine r_iload_n (pc := 26) C (i := 1) dX10_record_26 rfl rfl ?_
      refine r_iconst (pc := 27) C (v := 1) dX10_record_27 (by decide) ?_
      refine r_isub (pc := 28) C dX10_record_28 ?_
      obtain ⟨q6, hq6, h⟩ := bnd h
      obtain ⟨F7, hF7, h⟩ := lt_e h
      refine r_callS_CV (pc := 29) C [.ref (a 5), .int x1, .ref (a 5), .int (x1 - (1 : Int32))] (c_X10_copy_same E l k (fun i => a (i + 5)) 16920 (S 5) x1 (x1 - (1 : Int32)) hq6) [5] rfl (by decide) g_X10_235 hd_X10_copy.2 ⟨Nat.le_of_ble_eq_true rfl, Nat.le_of_ble_eq_true rfl⟩ ⟨Nat.zero_le _, Nat.zero_le _⟩ (Nat.le_of_ble_eq_true rfl) rfl dX10_record_29 (fun w1 hw1 => ?_)
      subst hw1
      refine ⟨(wMd E a F7), by rw [hF7]; rfl, ?_⟩
      refine r_iinc (pc := 32) C (v := (x1 + 1)) dX10_record_32 rfl rfl (by decide) rfl ?_
      refine r_goto (pc := 35) C (tgt := 11) dX10_record_35 rfl ?_
      refine r_weak (lSub_s (lSub_s lSub_e)) ?_
      exact ih (x1 + 1) F7 q  h hq
def M_X10_record_0 (k : Nat) (S : Nat → Nat → Int32) : Option ((Nat → Nat → Int32)) := if (S 0 0) = (10 : Int32) then (M_X10_record_11 k k (1 : Int32) S) else (M_X10_record_48 k S)
set_option maxRecDepth 100000 in
set_option maxHeartbeats 4000000 in
theorem N_X10_record_0 (C : CX E p l s m args meth c cX10_record 2 RX10 none A) (a : Nat → Nat) (k : Nat) {post : va_W → Prop} :
    ∀ (S : Nat → Nat → Int32) (q : (Nat → Nat → Int32)), M_X10_record_0 k S = some q → post (wMd E a q) →
      WW E p l e rm_X10_record s m args below meth c A 0 0 (QV E below post args s rm_X10_record A) (wMd E a S) 2 [some (.ref (a 0)), none] 0 [] := by
  intro S q  h hq
  unfold M_X10_record_0 at h
  refine r_aload_n (pc := 0) C (i := 0) dX10_record_0 rfl rfl ?_
  refine r_get (pc := 1) C gwX10 0 rfl rfl 5 (by decide) wm_5_208 rfl dX10_record_1 ?_
  refine r_bipush (pc := 4) C (v := 10) dX10_record_4 (by decide) ?_
  refine r_icmp_ne (pc := 6) C (tgt := 48) dX10_record_6 rfl (fun c8 => ?_) (fun c8 => ?_)
  · rw [if_neg c8] at h
    refine r_weak (lSub_s (lSub_n lSub_e)) ?_
    exact N_X10_record_48 C a k S q  h hq
  · rw [if_pos c8] at h
    refine r_iconst (pc := 9) C (v := 1) dX10_record_9 (by decide) ?_
    refine r_istore_n (pc := 10) C (i := 1) dX10_record_10 rfl (by decide) rfl ?_
    refine r_weak (lSub_s (lSub_s lSub_e)) ?_
    exact N_X10_record_11 C a k k (1 : Int32) S q  h hq
def M_X10_record (k : Nat) (S : Nat → Nat → Int32) : Option ((Nat → Nat → Int32)) := M_X10_record_0 k S
set_option maxRecDepth 100000 in
set_option maxHeartbeats 4000000 in
theorem c_X10_record (E : ENV) (l : Launch) (k : Nat) (a : Nat → Nat) (S : Nat → Nat → Int32) {q : (Nat → Nat → Int32)} (hm : M_X10_record k S = some q) : CV E l yX10_record cX10_record 2 none rm_X10_record [.ref (a 0)] (wMd E a S) (fun w' => w' = (wMd E a q)) :=
  CV.of 1 (by decide) (Nat.le_of_ble_eq_true rfl) (fun p e s m below meth c A C _ => r_weak (lSub_s (lSub_n lSub_e)) (N_X10_record_0 C a k S q  hm rfl))
-- ShardGuardModel.undoCount()I
theorem dX10_undoCount_0 : decode cX10_undoCount 0 = .ok (.aload_n 0, 1) := by decide +kernel
theorem dX10_undoCount_1 : decode cX10_undoCount 1 = .ok (.iconst 0, 1) := by decide +kernel
theorem dX10_undoCount_2 : decode cX10_undoCount 2 = .ok (.putfield 93, 3) := by decide +kernel
theorem dX10_undoCount_5 : decode cX10_undoCount 5 = .ok (.aload_n 0, 1) := by decide +kernel
theorem dX10_undoCount_6 : decode cX10_undoCount 6 = .ok (.getfield 346, 3) := by decide +kernel
theorem dX10_undoCount_9 : decode cX10_undoCount 9 = .ok (.ireturn, 1) := by decide +kernel
def rm_X10_undoCount : Room := { frames := 0, cells := 0, slots := 0, locals := 0 }
def M_X10_undoCount_0 (k : Nat) (S : Nat → Nat → Int32) : Option (Int32 × (Nat → Nat → Int32)) := lt (va_up S 0 (upd (S 0) 1 (0 : Int32))) fun F1 => some ((F1 0 0), F1)
set_option maxRecDepth 100000 in
set_option maxHeartbeats 4000000 in
theorem N_X10_undoCount_0 (C : CX E p l s m args meth c cX10_undoCount 1 RX10 (some .int) A) (a : Nat → Nat) (k : Nat) {post : Int32 → va_W → Prop} :
    ∀ (S : Nat → Nat → Int32) (q : Int32 × (Nat → Nat → Int32)), M_X10_undoCount_0 k S = some q → post q.1 (wMd E a q.2) →
      WW E p l e rm_X10_undoCount s m args below meth c A 0 0 (QI E below post args s rm_X10_undoCount A) (wMd E a S) 1 [some (.ref (a 0))] 0 [] := by
  intro S q  h hq
  unfold M_X10_undoCount_0 at h
  refine r_aload_n (pc := 0) C (i := 0) dX10_undoCount_0 rfl rfl ?_
  refine r_iconst (pc := 1) C (v := 0) dX10_undoCount_1 (by decide) ?_
  obtain ⟨F1, hF1, h⟩ := lt_e h
  refine r_put (pc := 2) C gwX10 tyX10 tyX10_ok nmX10 0 rfl rfl 6 (by decide) wm_5_209 rfl rfl rfl rfl (Nat.le_of_ble_eq_true rfl) (w' := (wMd E a F1)) (by rw [hF1]; rfl) dX10_undoCount_2 ?_
  refine r_aload_n (pc := 5) C (i := 0) dX10_undoCount_5 rfl rfl ?_
  refine r_get (pc := 6) C gwX10 0 rfl rfl 5 (by decide) wm_5_208 rfl dX10_undoCount_6 ?_
  cases h
  exact r_ireti (pc := 9) C hq (Nat.zero_le _) (Nat.zero_le _) dX10_undoCount_9
def M_X10_undoCount (k : Nat) (S : Nat → Nat → Int32) : Option (Int32 × (Nat → Nat → Int32)) := M_X10_undoCount_0 k S
set_option maxRecDepth 100000 in
set_option maxHeartbeats 4000000 in
theorem c_X10_undoCount (E : ENV) (l : Launch) (k : Nat) (a : Nat → Nat) (S : Nat → Nat → Int32) {q : Int32 × (Nat → Nat → Int32)} (hm : M_X10_undoCount k S = some q) : CI E l yX10_undoCount cX10_undoCount 1 (some .int) rm_X10_undoCount [.ref (a 0)] (wMd E a S) (fun r w' => r = q.1 ∧ w' = (wMd E a q.2)) :=
  CI.of 0 (by decide) (Nat.le_of_ble_eq_true rfl) (fun p e s m below meth c A C _ => r_weak (lSub_s lSub_e) (N_X10_undoCount_0 C a k S q  hm ⟨rfl, rfl⟩))
-- ShardGuardModel.undo()I
theorem dX10_undo_0 : decode cX10_undo 0 = .ok (.aload_n 0, 1) := by decide +kernel
theorem dX10_undo_1 : decode cX10_undo 1 = .ok (.iconst 0, 1) := by decide +kernel
theorem dX10_undo_2 : decode cX10_undo 2 = .ok (.putfield 93, 3) := by decide +kernel
theorem dX10_undo_5 : decode cX10_undo 5 = .ok (.aload_n 0, 1) := by decide +kernel
theorem dX10_undo_6 : decode cX10_undo 6 = .ok (.getfield 346, 3) := by decide +kernel
theorem dX10_undo_9 : decode cX10_undo 9 = .ok (.ifCond .ne 5, 3) := by decide +kernel
theorem dX10_undo_12 : decode cX10_undo 12 = .ok (.iconst (-1), 1) := by decide +kernel
theorem dX10_undo_13 : decode cX10_undo 13 = .ok (.ireturn, 1) := by decide +kernel
theorem dX10_undo_14 : decode cX10_undo 14 = .ok (.aload_n 0, 1) := by decide +kernel
theorem dX10_undo_15 : decode cX10_undo 15 = .ok (.dup, 1) := by decide +kernel
theorem dX10_undo_16 : decode cX10_undo 16 = .ok (.getfield 346, 3) := by decide +kernel
theorem dX10_undo_19 : decode cX10_undo 19 = .ok (.iconst 1, 1) := by decide +kernel
theorem dX10_undo_20 : decode cX10_undo 20 = .ok (.isub, 1) := by decide +kernel
theorem dX10_undo_21 : decode cX10_undo 21 = .ok (.putfield 346, 3) := by decide +kernel
theorem dX10_undo_24 : decode cX10_undo 24 = .ok (.aload_n 0, 1) := by decide +kernel
theorem dX10_undo_25 : decode cX10_undo 25 = .ok (.getfield 22, 3) := by decide +kernel
theorem dX10_undo_28 : decode cX10_undo 28 = .ok (.aload_n 0, 1) := by decide +kernel
theorem dX10_undo_29 : decode cX10_undo 29 = .ok (.getfield 346, 3) := by decide +kernel
theorem dX10_undo_32 : decode cX10_undo 32 = .ok (.aload_n 0, 1) := by decide +kernel
theorem dX10_undo_33 : decode cX10_undo 33 = .ok (.getfield 9, 3) := by decide +kernel
theorem dX10_undo_36 : decode cX10_undo 36 = .ok (.iconst 0, 1) := by decide +kernel
theorem dX10_undo_37 : decode cX10_undo 37 = .ok (.invokestatic 235, 3) := by decide +kernel
theorem dX10_undo_40 : decode cX10_undo 40 = .ok (.aload_n 0, 1) := by decide +kernel
theorem dX10_undo_41 : decode cX10_undo 41 = .ok (.getfield 346, 3) := by decide +kernel
theorem dX10_undo_44 : decode cX10_undo 44 = .ok (.ireturn, 1) := by decide +kernel
def rm_X10_undo : Room := { frames := 1, cells := 0, slots := 0, locals := 24 }
def M_X10_undo_0 (k : Nat) (S : Nat → Nat → Int32) : Option (Int32 × (Nat → Nat → Int32)) := lt (va_up S 0 (upd (S 0) 1 (0 : Int32))) fun F1 => if (F1 0 0) = 0 then (some ((-1 : Int32), F1)) else (lt (va_up F1 0 (upd (F1 0) 0 ((F1 0 0) - (1 : Int32)))) fun F3 => (M_X10_copy k 16920 1692 (F3 5) (F3 1) (F3 0 0) (0 : Int32)).bind fun q4 => lt (va_up F3 1 q4) fun F5 => some ((F5 0 0), F5))
set_option maxRecDepth 100000 in
set_option maxHeartbeats 4000000 in
theorem N_X10_undo_0 (C : CX E p l s m args meth c cX10_undo 1 RX10 (some .int) A) (a : Nat → Nat) (k : Nat) {post : Int32 → va_W → Prop} :
    ∀ (S : Nat → Nat → Int32) (q : Int32 × (Nat → Nat → Int32)), M_X10_undo_0 k S = some q → post q.1 (wMd E a q.2) →
      WW E p l e rm_X10_undo s m args below meth c A 0 0 (QI E below post args s rm_X10_undo A) (wMd E a S) 1 [some (.ref (a 0))] 0 [] := by
  intro S q  h hq
  unfold M_X10_undo_0 at h
  refine r_aload_n (pc := 0) C (i := 0) dX10_undo_0 rfl rfl ?_
  refine r_iconst (pc := 1) C (v := 0) dX10_undo_1 (by decide) ?_
  obtain ⟨F1, hF1, h⟩ := lt_e h
  refine r_put (pc := 2) C gwX10 tyX10 tyX10_ok nmX10 0 rfl rfl 6 (by decide) wm_5_209 rfl rfl rfl rfl (Nat.le_of_ble_eq_true rfl) (w' := (wMd E a F1)) (by rw [hF1]; rfl) dX10_undo_2 ?_
  refine r_aload_n (pc := 5) C (i := 0) dX10_undo_5 rfl rfl ?_
  refine r_get (pc := 6) C gwX10 0 rfl rfl 5 (by decide) wm_5_208 rfl dX10_undo_6 ?_
  refine r_if_ne (pc := 9) C (tgt := 14) dX10_undo_9 rfl (fun c2 => ?_) (fun c2 => ?_)
  · rw [if_neg c2] at h
    refine r_aload_n (pc := 14) C (i := 0) dX10_undo_14 rfl rfl ?_
    refine r_dup (pc := 15) C dX10_undo_15 rfl ?_
    refine r_get (pc := 16) C gwX10 0 rfl rfl 5 (by decide) wm_5_208 rfl dX10_undo_16 ?_
    refine r_iconst (pc := 19) C (v := 1) dX10_undo_19 (by decide) ?_
    refine r_isub (pc := 20) C dX10_undo_20 ?_
    obtain ⟨F3, hF3, h⟩ := lt_e h
    refine r_put (pc := 21) C gwX10 tyX10 tyX10_ok nmX10 0 rfl rfl 5 (by decide) wm_5_208 rfl rfl rfl rfl (Nat.le_of_ble_eq_true rfl) (w' := (wMd E a F3)) (by rw [hF3]; rfl) dX10_undo_21 ?_
    refine r_aload_n (pc := 24) C (i := 0) dX10_undo_24 rfl rfl ?_
    refine r_get (pc := 25) C gwX10 0 rfl rfl 4 (by decide) wm_5_207 rfl dX10_undo_25 ?_
    refine r_aload_n (pc := 28) C (i := 0) dX10_undo_28 rfl rfl ?_
    refine r_get (pc := 29) C gwX10 0 rfl rfl 5 (by decide) wm_5_208 rfl dX10_undo_29 ?_
    refine r_aload_n (pc := 32) C (i := 0) dX10_undo_32 rfl rfl ?_
    refine r_get (pc := 33) C gwX10 0 rfl rfl 0 (by decide) wm_5_203 rfl dX10_undo_33 ?_
    refine r_iconst (pc := 36) C (v := 0) dX10_undo_36 (by decide) ?_
    obtain ⟨q4, hq4, h⟩ := bnd h
    obtain ⟨F5, hF5, h⟩ := lt_e h
    refine r_callS_CV (pc := 37) C [.ref (a 5), .int (F3 0 0), .ref (a 1), .int (0 : Int32)] (c_X10_copy E l k (fun i => a (i + 5)) (fun i => a (i + 1)) 16920 1692 (F3 5) (F3 1) (F3 0 0) (0 : Int32) hq4) [5, 1] rfl (by decide) g_X10_235 hd_X10_copy.2 ⟨Nat.le_of_ble_eq_true rfl, Nat.le_of_ble_eq_true rfl⟩ ⟨Nat.zero_le _, Nat.zero_le _⟩ (Nat.le_of_ble_eq_true rfl) rfl dX10_undo_37 (fun w1 hw1 => ?_)
    subst hw1
    refine ⟨(wMd E a F5), by rw [hF5]; rfl, ?_⟩
    refine r_aload_n (pc := 40) C (i := 0) dX10_undo_40 rfl rfl ?_
    refine r_get (pc := 41) C gwX10 0 rfl rfl 5 (by decide) wm_5_208 rfl dX10_undo_41 ?_
    cases h
    exact r_ireti (pc := 44) C hq (Nat.zero_le _) (Nat.zero_le _) dX10_undo_44
  · rw [if_pos c2] at h
    refine r_iconst (pc := 12) C (v := (-1)) dX10_undo_12 (by decide) ?_
    have h := Option.some.inj h
    subst h
    exact r_ireti (pc := 13) C hq (Nat.zero_le _) (Nat.zero_le _) dX10_undo_13
def M_X10_undo (k : Nat) (S : Nat → Nat → Int32) : Option (Int32 × (Nat → Nat → Int32)) := M_X10_undo_0 k S
set_option maxRecDepth 100000 in
set_option maxHeartbeats 4000000 in
theorem c_X10_undo (E : ENV) (l : Launch) (k : Nat) (a : Nat → Nat) (S : Nat → Nat → Int32) {q : Int32 × (Nat → Nat → Int32)} (hm : M_X10_undo k S = some q) : CI E l yX10_undo cX10_undo 1 (some .int) rm_X10_undo [.ref (a 0)] (wMd E a S) (fun r w' => r = q.1 ∧ w' = (wMd E a q.2)) :=
  CI.of 0 (by decide) (Nat.le_of_ble_eq_true rfl) (fun p e s m below meth c A C _ => r_weak (lSub_s lSub_e) (N_X10_undo_0 C a k S q  hm ⟨rfl, rfl⟩))
-- ShardGuardModel.saveSnapshot()V
theorem dX10_saveSnapshot_0 : decode cX10_saveSnapshot 0 = .ok (.aload_n 0, 1) := by decide +kernel
theorem dX10_saveSnapshot_1 : decode cX10_saveSnapshot 1 = .ok (.iconst 0, 1) := by decide +kernel
theorem dX10_saveSnapshot_2 : decode cX10_saveSnapshot 2 = .ok (.putfield 93, 3) := by decide +kernel
theorem dX10_saveSnapshot_5 : decode cX10_saveSnapshot 5 = .ok (.aload_n 0, 1) := by decide +kernel
theorem dX10_saveSnapshot_6 : decode cX10_saveSnapshot 6 = .ok (.getfield 9, 3) := by decide +kernel
theorem dX10_saveSnapshot_9 : decode cX10_saveSnapshot 9 = .ok (.iconst 0, 1) := by decide +kernel
theorem dX10_saveSnapshot_10 : decode cX10_saveSnapshot 10 = .ok (.aload_n 0, 1) := by decide +kernel
theorem dX10_saveSnapshot_11 : decode cX10_saveSnapshot 11 = .ok (.getfield 19, 3) := by decide +kernel
theorem dX10_saveSnapshot_14 : decode cX10_saveSnapshot 14 = .ok (.iconst 0, 1) := by decide +kernel
theorem dX10_saveSnapshot_15 : decode cX10_saveSnapshot 15 = .ok (.invokestatic 235, 3) := by decide +kernel
theorem dX10_saveSnapshot_18 : decode cX10_saveSnapshot 18 = .ok (.aload_n 0, 1) := by decide +kernel
theorem dX10_saveSnapshot_19 : decode cX10_saveSnapshot 19 = .ok (.iconst 1, 1) := by decide +kernel
theorem dX10_saveSnapshot_20 : decode cX10_saveSnapshot 20 = .ok (.putfield 349, 3) := by decide +kernel
theorem dX10_saveSnapshot_23 : decode cX10_saveSnapshot 23 = .ok (.return_, 1) := by decide +kernel
def rm_X10_saveSnapshot : Room := { frames := 1, cells := 0, slots := 0, locals := 24 }
def M_X10_saveSnapshot_0 (k : Nat) (S : Nat → Nat → Int32) : Option ((Nat → Nat → Int32)) := lt (va_up S 0 (upd (S 0) 1 (0 : Int32))) fun F1 => (M_X10_copy k 1692 1692 (F1 1) (F1 4) (0 : Int32) (0 : Int32)).bind fun q2 => lt (va_up F1 4 q2) fun F3 => lt (va_up F3 0 (upd (F3 0) 2 (1 : Int32))) fun F4 => some F4
set_option maxRecDepth 100000 in
set_option maxHeartbeats 4000000 in
theorem N_X10_saveSnapshot_0 (C : CX E p l s m args meth c cX10_saveSnapshot 1 RX10 none A) (a : Nat → Nat) (k : Nat) {post : va_W → Prop} :
    ∀ (S : Nat → Nat → Int32) (q : (Nat → Nat → Int32)), M_X10_saveSnapshot_0 k S = some q → post (wMd E a q) →
      WW E p l e rm_X10_saveSnapshot s m args below meth c A 0 0 (QV E below post args s rm_X10_saveSnapshot A) (wMd E a S) 1 [some (.ref (a 0))] 0 [] := by
  intro S q  h hq
  unfold M_X10_saveSnapshot_0 at h
  refine r_aload_n (pc := 0) C (i := 0) dX10_saveSnapshot_0 rfl rfl ?_
  refine r_iconst (pc := 1) C (v := 0) dX10_saveSnapshot_1 (by decide) ?_
  obtain ⟨F1, hF1, h⟩ := lt_e h
  refine r_put (pc := 2) C gwX10 tyX10 tyX10_ok nmX10 0 rfl rfl 6 (by decide) wm_5_209 rfl rfl rfl rfl (Nat.le_of_ble_eq_true rfl) (w' := (wMd E a F1)) (by rw [hF1]; rfl) dX10_saveSnapshot_2 ?_
  refine r_aload_n (pc := 5) C (i := 0) dX10_saveSnapshot_5 rfl rfl ?_
  refine r_get (pc := 6) C gwX10 0 rfl rfl 0 (by decide) wm_5_203 rfl dX10_saveSnapshot_6 ?_
  refine r_iconst (pc := 9) C (v := 0) dX10_saveSnapshot_9 (by decide) ?_
  refine r_aload_n (pc := 10) C (i := 0) dX10_saveSnapshot_10 rfl rfl ?_
  refine r_get (pc := 11) C gwX10 0 rfl rfl 3 (by decide) wm_5_206 rfl dX10_saveSnapshot_11 ?_
  refine r_iconst (pc := 14) C (v := 0) dX10_saveSnapshot_14 (by decide) ?_
  obtain ⟨q2, hq2, h⟩ := bnd h
  obtain ⟨F3, hF3, h⟩ := lt_e h
  refine r_callS_CV (pc := 15) C [.ref (a 1), .int (0 : Int32), .ref (a 4), .int (0 : Int32)] (c_X10_copy E l k (fun i => a (i + 1)) (fun i => a (i + 4)) 1692 1692 (F1 1) (F1 4) (0 : Int32) (0 : Int32) hq2) [1, 4] rfl (by decide) g_X10_235 hd_X10_copy.2 ⟨Nat.le_of_ble_eq_true rfl, Nat.le_of_ble_eq_true rfl⟩ ⟨Nat.zero_le _, Nat.zero_le _⟩ (Nat.le_of_ble_eq_true rfl) rfl dX10_saveSnapshot_15 (fun w1 hw1 => ?_)
  subst hw1
  refine ⟨(wMd E a F3), by rw [hF3]; rfl, ?_⟩
  refine r_aload_n (pc := 18) C (i := 0) dX10_saveSnapshot_18 rfl rfl ?_
  refine r_iconst (pc := 19) C (v := 1) dX10_saveSnapshot_19 (by decide) ?_
  obtain ⟨F4, hF4, h⟩ := lt_e h
  refine r_put (pc := 20) C gwX10 tyX10 tyX10_ok nmX10 0 rfl rfl 7 (by decide) wm_5_210 rfl rfl rfl rfl (Nat.le_of_ble_eq_true rfl) (w' := (wMd E a F4)) (by rw [hF4]; rfl) dX10_saveSnapshot_20 ?_
  cases h
  exact r_vret (pc := 23) C hq (Nat.zero_le _) (Nat.zero_le _) dX10_saveSnapshot_23
def M_X10_saveSnapshot (k : Nat) (S : Nat → Nat → Int32) : Option ((Nat → Nat → Int32)) := M_X10_saveSnapshot_0 k S
set_option maxRecDepth 100000 in
set_option maxHeartbeats 4000000 in
theorem c_X10_saveSnapshot (E : ENV) (l : Launch) (k : Nat) (a : Nat → Nat) (S : Nat → Nat → Int32) {q : (Nat → Nat → Int32)} (hm : M_X10_saveSnapshot k S = some q) : CV E l yX10_saveSnapshot cX10_saveSnapshot 1 none rm_X10_saveSnapshot [.ref (a 0)] (wMd E a S) (fun w' => w' = (wMd E a q)) :=
  CV.of 0 (by decide) (Nat.le_of_ble_eq_true rfl) (fun p e s m below meth c A C _ => r_weak (lSub_s lSub_e) (N_X10_saveSnapshot_0 C a k S q  hm rfl))
-- ShardGuardModel.restoreSnapshot()Z
theorem dX10_restoreSnapshot_0 : decode cX10_restoreSnapshot 0 = .ok (.aload_n 0, 1) := by decide +kernel
theorem dX10_restoreSnapshot_1 : decode cX10_restoreSnapshot 1 = .ok (.iconst 0, 1) := by decide +kernel
theorem dX10_restoreSnapshot_2 : decode cX10_restoreSnapshot 2 = .ok (.putfield 93, 3) := by decide +kernel
theorem dX10_restoreSnapshot_5 : decode cX10_restoreSnapshot 5 = .ok (.aload_n 0, 1) := by decide +kernel
theorem dX10_restoreSnapshot_6 : decode cX10_restoreSnapshot 6 = .ok (.getfield 349, 3) := by decide +kernel
theorem dX10_restoreSnapshot_9 : decode cX10_restoreSnapshot 9 = .ok (.ifCond .ne 5, 3) := by decide +kernel
theorem dX10_restoreSnapshot_12 : decode cX10_restoreSnapshot 12 = .ok (.iconst 0, 1) := by decide +kernel
theorem dX10_restoreSnapshot_13 : decode cX10_restoreSnapshot 13 = .ok (.ireturn, 1) := by decide +kernel
theorem dX10_restoreSnapshot_14 : decode cX10_restoreSnapshot 14 = .ok (.aload_n 0, 1) := by decide +kernel
theorem dX10_restoreSnapshot_15 : decode cX10_restoreSnapshot 15 = .ok (.getfield 19, 3) := by decide +kernel
theorem dX10_restoreSnapshot_18 : decode cX10_restoreSnapshot 18 = .ok (.iconst 0, 1) := by decide +kernel
theorem dX10_restoreSnapshot_19 : decode cX10_restoreSnapshot 19 = .ok (.aload_n 0, 1) := by decide +kernel
theorem dX10_restoreSnapshot_20 : decode cX10_restoreSnapshot 20 = .ok (.getfield 9, 3) := by decide +kernel
theorem dX10_restoreSnapshot_23 : decode cX10_restoreSnapshot 23 = .ok (.iconst 0, 1) := by decide +kernel
theorem dX10_restoreSnapshot_24 : decode cX10_restoreSnapshot 24 = .ok (.invokestatic 235, 3) := by decide +kernel
theorem dX10_restoreSnapshot_27 : decode cX10_restoreSnapshot 27 = .ok (.aload_n 0, 1) := by decide +kernel
theorem dX10_restoreSnapshot_28 : decode cX10_restoreSnapshot 28 = .ok (.iconst 0, 1) := by decide +kernel
theorem dX10_restoreSnapshot_29 : decode cX10_restoreSnapshot 29 = .ok (.putfield 346, 3) := by decide +kernel
theorem dX10_restoreSnapshot_32 : decode cX10_restoreSnapshot 32 = .ok (.iconst 1, 1) := by decide +kernel
theorem dX10_restoreSnapshot_33 : decode cX10_restoreSnapshot 33 = .ok (.ireturn, 1) := by decide +kernel
def rm_X10_restoreSnapshot : Room := { frames := 1, cells := 0, slots := 0, locals := 24 }
def M_X10_restoreSnapshot_0 (k : Nat) (S : Nat → Nat → Int32) : Option (Int32 × (Nat → Nat → Int32)) := lt (va_up S 0 (upd (S 0) 1 (0 : Int32))) fun F1 => if (F1 0 2) = 0 then (some ((0 : Int32), F1)) else ((M_X10_copy k 1692 1692 (F1 4) (F1 1) (0 : Int32) (0 : Int32)).bind fun q3 => lt (va_up F1 1 q3) fun F4 => lt (va_up F4 0 (upd (F4 0) 0 (0 : Int32))) fun F5 => some ((1 : Int32), F5))
set_option maxRecDepth 100000 in
set_option maxHeartbeats 4000000 in
theorem N_X10_restoreSnapshot_0 (C : CX E p l s m args meth c cX10_restoreSnapshot 1 RX10 (some .boolean) A) (a : Nat → Nat) (k : Nat) {post : Int32 → va_W → Prop} :
    ∀ (S : Nat → Nat → Int32) (q : Int32 × (Nat → Nat → Int32)), M_X10_restoreSnapshot_0 k S = some q → post q.1 (wMd E a q.2) →
      WW E p l e rm_X10_restoreSnapshot s m args below meth c A 0 0 (QI E below post args s rm_X10_restoreSnapshot A) (wMd E a S) 1 [some (.ref (a 0))] 0 [] := by
  intro S q  h hq
  unfold M_X10_restoreSnapshot_0 at h
  refine r_aload_n (pc := 0) C (i := 0) dX10_restoreSnapshot_0 rfl rfl ?_
  refine r_iconst (pc := 1) C (v := 0) dX10_restoreSnapshot_1 (by decide) ?_
  obtain ⟨F1, hF1, h⟩ := lt_e h
  refine r_put (pc := 2) C gwX10 tyX10 tyX10_ok nmX10 0 rfl rfl 6 (by decide) wm_5_209 rfl rfl rfl rfl (Nat.le_of_ble_eq_true rfl) (w' := (wMd E a F1)) (by rw [hF1]; rfl) dX10_restoreSnapshot_2 ?_
  refine r_aload_n (pc := 5) C (i := 0) dX10_restoreSnapshot_5 rfl rfl ?_
  refine r_get (pc := 6) C gwX10 0 rfl rfl 7 (by decide) wm_5_210 rfl dX10_restoreSnapshot_6 ?_
  refine r_if_ne (pc := 9) C (tgt := 14) dX10_restoreSnapshot_9 rfl (fun c2 => ?_) (fun c2 => ?_)
  · rw [if_neg c2] at h
    refine r_aload_n (pc := 14) C (i := 0) dX10_restoreSnapshot_14 rfl rfl ?_
    refine r_get (pc := 15) C gwX10 0 rfl rfl 3 (by decide) wm_5_206 rfl dX10_restoreSnapshot_15 ?_
    refine r_iconst (pc := 18) C (v := 0) dX10_restoreSnapshot_18 (by decide) ?_
    refine r_aload_n (pc := 19) C (i := 0) dX10_restoreSnapshot_19 rfl rfl ?_
    refine r_get (pc := 20) C gwX10 0 rfl rfl 0 (by decide) wm_5_203 rfl dX10_restoreSnapshot_20 ?_
    refine r_iconst (pc := 23) C (v := 0) dX10_restoreSnapshot_23 (by decide) ?_
    obtain ⟨q3, hq3, h⟩ := bnd h
    obtain ⟨F4, hF4, h⟩ := lt_e h
    refine r_callS_CV (pc := 24) C [.ref (a 4), .int (0 : Int32), .ref (a 1), .int (0 : Int32)] (c_X10_copy E l k (fun i => a (i + 4)) (fun i => a (i + 1)) 1692 1692 (F1 4) (F1 1) (0 : Int32) (0 : Int32) hq3) [4, 1] rfl (by decide) g_X10_235 hd_X10_copy.2 ⟨Nat.le_of_ble_eq_true rfl, Nat.le_of_ble_eq_true rfl⟩ ⟨Nat.zero_le _, Nat.zero_le _⟩ (Nat.le_of_ble_eq_true rfl) rfl dX10_restoreSnapshot_24 (fun w1 hw1 => ?_)
    subst hw1
    refine ⟨(wMd E a F4), by rw [hF4]; rfl, ?_⟩
    refine r_aload_n (pc := 27) C (i := 0) dX10_restoreSnapshot_27 rfl rfl ?_
    refine r_iconst (pc := 28) C (v := 0) dX10_restoreSnapshot_28 (by decide) ?_
    obtain ⟨F5, hF5, h⟩ := lt_e h
    refine r_put (pc := 29) C gwX10 tyX10 tyX10_ok nmX10 0 rfl rfl 5 (by decide) wm_5_208 rfl rfl rfl rfl (Nat.le_of_ble_eq_true rfl) (w' := (wMd E a F5)) (by rw [hF5]; rfl) dX10_restoreSnapshot_29 ?_
    refine r_iconst (pc := 32) C (v := 1) dX10_restoreSnapshot_32 (by decide) ?_
    cases h
    exact r_iretz (pc := 33) C (Or.inr rfl) hq (Nat.zero_le _) (Nat.zero_le _) dX10_restoreSnapshot_33
  · rw [if_pos c2] at h
    refine r_iconst (pc := 12) C (v := 0) dX10_restoreSnapshot_12 (by decide) ?_
    cases h
    exact r_iretz (pc := 13) C (Or.inl rfl) hq (Nat.zero_le _) (Nat.zero_le _) dX10_restoreSnapshot_13
def M_X10_restoreSnapshot (k : Nat) (S : Nat → Nat → Int32) : Option (Int32 × (Nat → Nat → Int32)) := M_X10_restoreSnapshot_0 k S
set_option maxRecDepth 100000 in
set_option maxHeartbeats 4000000 in
theorem c_X10_restoreSnapshot (E : ENV) (l : Launch) (k : Nat) (a : Nat → Nat) (S : Nat → Nat → Int32) {q : Int32 × (Nat → Nat → Int32)} (hm : M_X10_restoreSnapshot k S = some q) : CI E l yX10_restoreSnapshot cX10_restoreSnapshot 1 (some .boolean) rm_X10_restoreSnapshot [.ref (a 0)] (wMd E a S) (fun r w' => r = q.1 ∧ w' = (wMd E a q.2)) :=
  CI.of 0 (by decide) (Nat.le_of_ble_eq_true rfl) (fun p e s m below meth c A C _ => r_weak (lSub_s lSub_e) (N_X10_restoreSnapshot_0 C a k S q  hm ⟨rfl, rfl⟩))
-- ShardGuardModel.feed(IIIII)I
theorem dX10_feed_0 : decode cX10_feed 0 = .ok (.aload_n 0, 1) := by decide +kernel
theorem dX10_feed_1 : decode cX10_feed 1 = .ok (.iconst 0, 1) := by decide +kernel
theorem dX10_feed_2 : decode cX10_feed 2 = .ok (.putfield 93, 3) := by decide +kernel
theorem dX10_feed_5 : decode cX10_feed 5 = .ok (.aload_n 0, 1) := by decide +kernel
theorem dX10_feed_6 : decode cX10_feed 6 = .ok (.getfield 353, 3) := by decide +kernel
theorem dX10_feed_9 : decode cX10_feed 9 = .ok (.bipush 20, 2) := by decide +kernel
theorem dX10_feed_11 : decode cX10_feed 11 = .ok (.iadd, 1) := by decide +kernel
theorem dX10_feed_12 : decode cX10_feed 12 = .ok (.sipush 700, 3) := by decide +kernel
theorem dX10_feed_15 : decode cX10_feed 15 = .ok (.if_icmp .le 5, 3) := by decide +kernel
theorem dX10_feed_18 : decode cX10_feed 18 = .ok (.iconst (-1), 1) := by decide +kernel
theorem dX10_feed_19 : decode cX10_feed 19 = .ok (.ireturn, 1) := by decide +kernel
theorem dX10_feed_20 : decode cX10_feed 20 = .ok (.iconst 0, 1) := by decide +kernel
theorem dX10_feed_21 : decode cX10_feed 21 = .ok (.istore 6, 2) := by decide +kernel
theorem dX10_feed_23 : decode cX10_feed 23 = .ok (.iload 6, 2) := by decide +kernel
theorem dX10_feed_25 : decode cX10_feed 25 = .ok (.bipush 20, 2) := by decide +kernel
theorem dX10_feed_27 : decode cX10_feed 27 = .ok (.if_icmp .ge 93, 3) := by decide +kernel
theorem dX10_feed_30 : decode cX10_feed 30 = .ok (.iload 6, 2) := by decide +kernel
theorem dX10_feed_32 : decode cX10_feed 32 = .ok (.iconst 4, 1) := by decide +kernel
theorem dX10_feed_33 : decode cX10_feed 33 = .ok (.if_icmp .ge 7, 3) := by decide +kernel
theorem dX10_feed_36 : decode cX10_feed 36 = .ok (.iload_n 1, 1) := by decide +kernel
theorem dX10_feed_37 : decode cX10_feed 37 = .ok (.goto 39, 3) := by decide +kernel
theorem dX10_feed_40 : decode cX10_feed 40 = .ok (.iload 6, 2) := by decide +kernel
theorem dX10_feed_42 : decode cX10_feed 42 = .ok (.bipush 8, 2) := by decide +kernel
theorem dX10_feed_44 : decode cX10_feed 44 = .ok (.if_icmp .ge 7, 3) := by decide +kernel
theorem dX10_feed_47 : decode cX10_feed 47 = .ok (.iload_n 2, 1) := by decide +kernel
theorem dX10_feed_48 : decode cX10_feed 48 = .ok (.goto 28, 3) := by decide +kernel
theorem dX10_feed_51 : decode cX10_feed 51 = .ok (.iload 6, 2) := by decide +kernel
theorem dX10_feed_53 : decode cX10_feed 53 = .ok (.bipush 12, 2) := by decide +kernel
theorem dX10_feed_55 : decode cX10_feed 55 = .ok (.if_icmp .ge 7, 3) := by decide +kernel
theorem dX10_feed_58 : decode cX10_feed 58 = .ok (.iload_n 3, 1) := by decide +kernel
theorem dX10_feed_59 : decode cX10_feed 59 = .ok (.goto 17, 3) := by decide +kernel
theorem dX10_feed_62 : decode cX10_feed 62 = .ok (.iload 6, 2) := by decide +kernel
theorem dX10_feed_64 : decode cX10_feed 64 = .ok (.bipush 16, 2) := by decide +kernel
theorem dX10_feed_66 : decode cX10_feed 66 = .ok (.if_icmp .ge 8, 3) := by decide +kernel
theorem dX10_feed_69 : decode cX10_feed 69 = .ok (.iload 4, 2) := by decide +kernel
theorem dX10_feed_71 : decode cX10_feed 71 = .ok (.goto 5, 3) := by decide +kernel
theorem dX10_feed_74 : decode cX10_feed 74 = .ok (.iload 5, 2) := by decide +kernel
theorem dX10_feed_76 : decode cX10_feed 76 = .ok (.istore 7, 2) := by decide +kernel
theorem dX10_feed_78 : decode cX10_feed 78 = .ok (.aload_n 0, 1) := by decide +kernel
theorem dX10_feed_79 : decode cX10_feed 79 = .ok (.getfield 34, 3) := by decide +kernel
theorem dX10_feed_82 : decode cX10_feed 82 = .ok (.aload_n 0, 1) := by decide +kernel
theorem dX10_feed_83 : decode cX10_feed 83 = .ok (.getfield 353, 3) := by decide +kernel
theorem dX10_feed_86 : decode cX10_feed 86 = .ok (.iload 7, 2) := by decide +kernel
theorem dX10_feed_88 : decode cX10_feed 88 = .ok (.bipush 24, 2) := by decide +kernel
theorem dX10_feed_90 : decode cX10_feed 90 = .ok (.bipush 8, 2) := by decide +kernel
theorem dX10_feed_92 : decode cX10_feed 92 = .ok (.iload 6, 2) := by decide +kernel
theorem dX10_feed_94 : decode cX10_feed 94 = .ok (.iconst 4, 1) := by decide +kernel
theorem dX10_feed_95 : decode cX10_feed 95 = .ok (.irem, 1) := by decide +kernel
theorem dX10_feed_96 : decode cX10_feed 96 = .ok (.imul, 1) := by decide +kernel
theorem dX10_feed_97 : decode cX10_feed 97 = .ok (.isub, 1) := by decide +kernel
theorem dX10_feed_98 : decode cX10_feed 98 = .ok (.ishr, 1) := by decide +kernel
theorem dX10_feed_99 : decode cX10_feed 99 = .ok (.sipush 255, 3) := by decide +kernel
theorem dX10_feed_102 : decode cX10_feed 102 = .ok (.iand, 1) := by decide +kernel
theorem dX10_feed_103 : decode cX10_feed 103 = .ok (.iastore, 1) := by decide +kernel
theorem dX10_feed_104 : decode cX10_feed 104 = .ok (.aload_n 0, 1) := by decide +kernel
theorem dX10_feed_105 : decode cX10_feed 105 = .ok (.dup, 1) := by decide +kernel
theorem dX10_feed_106 : decode cX10_feed 106 = .ok (.getfield 353, 3) := by decide +kernel
theorem dX10_feed_109 : decode cX10_feed 109 = .ok (.iconst 1, 1) := by decide +kernel
theorem dX10_feed_110 : decode cX10_feed 110 = .ok (.iadd, 1) := by decide +kernel
theorem dX10_feed_111 : decode cX10_feed 111 = .ok (.putfield 353, 3) := by decide +kernel
theorem dX10_feed_114 : decode cX10_feed 114 = .ok (.iinc 6 1, 3) := by decide +kernel
theorem dX10_feed_117 : decode cX10_feed 117 = .ok (.goto (-94), 3) := by decide +kernel
theorem dX10_feed_120 : decode cX10_feed 120 = .ok (.aload_n 0, 1) := by decide +kernel
theorem dX10_feed_121 : decode cX10_feed 121 = .ok (.getfield 353, 3) := by decide +kernel
theorem dX10_feed_124 : decode cX10_feed 124 = .ok (.ireturn, 1) := by decide +kernel
def rm_X10_feed : Room := { frames := 0, cells := 0, slots := 0, locals := 0 }
def M_X10_feed_76 (k : Nat) (κ23 : Int32 → Int32 → Int32 → Int32 → Int32 → Int32 → (Nat → Nat → Int32) → Option (Int32 × (Nat → Nat → Int32))) (x1 : Int32) (x2 : Int32) (x3 : Int32) (x4 : Int32) (x5 : Int32) (x6 : Int32) (y0 : Int32) (S : Nat → Nat → Int32) : Option (Int32 × (Nat → Nat → Int32)) := (if inb (S 0 6) 700 = true then lt (va_up S 8 (upd (S 8) (S 0 6).toNatClampNeg ((y0 >>> (((24 : Int32) - ((8 : Int32) * (x6 - x6 / (4 : Int32) * (4 : Int32)))) &&& 31)) &&& (255 : Int32)))) fun F2 => lt (va_up F2 0 (upd (F2 0) 6 ((F2 0 6) + (1 : Int32)))) fun F3 => κ23 x1 x2 x3 x4 x5 (x6 + 1) F3 else none)
set_option maxRecDepth 100000 in
set_option maxHeartbeats 4000000 in
theorem N_X10_feed_76 (C : CX E p l s m args meth c cX10_feed 8 RX10 (some .int) A) (a : Nat → Nat) (k : Nat) {post : Int32 → va_W → Prop} (κ23 : Int32 → Int32 → Int32 → Int32 → Int32 → Int32 → (Nat → Nat → Int32) → Option (Int32 × (Nat → Nat → Int32))) (hκ23 : ∀ (x1 : Int32) (x2 : Int32) (x3 : Int32) (x4 : Int32) (x5 : Int32) (x6 : Int32) (S : Nat → Nat → Int32) (q : Int32 × (Nat → Nat → Int32)), κ23 x1 x2 x3 x4 x5 x6 S = some q → post q.1 (wMd E a q.2) → WW E p l e rm_X10_feed s m args below meth c A 0 0 (QI E below post args s rm_X10_feed A) (wMd E a S) 8 [some (.ref (a 0)), some (.int x1), some (.int x2), some (.int x3), some (.int x4), some (.int x5), some (.int x6), none] 23 []) :
    ∀ (x1 : Int32) (x2 : Int32) (x3 : Int32) (x4 : Int32) (x5 : Int32) (x6 : Int32) (y0 : Int32) (S : Nat → Nat → Int32) (q : Int32 × (Nat → Nat → Int32)), M_X10_feed_76 k κ23 x1 x2 x3 x4 x5 x6 y0 S = some q → post q.1 (wMd E a q.2) →
      WW E p l e rm_X10_feed s m args below meth c A 0 0 (QI E below post args s rm_X10_feed A) (wMd E a S) 8 [some (.ref (a 0)), some (.int x1), some (.int x2), some (.int x3), some (.int x4), some (.int x5), some (.int x6), none] 76 [.int y0] := by
  intro x1 x2 x3 x4 x5 x6 y0 S q  h hq
  unfold M_X10_feed_76 at h
  refine r_istore (pc := 76) C (i := 7) dX10_feed_76 (by decide) rfl ?_
  refine r_aload_n (pc := 78) C (i := 0) dX10_feed_78 rfl rfl ?_
  refine r_get (pc := 79) C gwX10 0 rfl rfl 13 (by decide) wm_5_216 rfl dX10_feed_79 ?_
  refine r_aload_n (pc := 82) C (i := 0) dX10_feed_82 rfl rfl ?_
  refine r_get (pc := 83) C gwX10 0 rfl rfl 14 (by decide) wm_5_217 rfl dX10_feed_83 ?_
  refine r_iload (pc := 86) C (i := 7) dX10_feed_86 rfl ?_
  refine r_bipush (pc := 88) C (v := 24) dX10_feed_88 (by decide) ?_
  refine r_bipush (pc := 90) C (v := 8) dX10_feed_90 (by decide) ?_
  refine r_iload (pc := 92) C (i := 6) dX10_feed_92 rfl ?_
  refine r_iconst (pc := 94) C (v := 4) dX10_feed_94 (by decide) ?_
  refine r_irem (pc := 95) C dX10_feed_95 (by decide) ?_
  refine r_imul (pc := 96) C dX10_feed_96 ?_
  refine r_isub (pc := 97) C dX10_feed_97 ?_
  refine r_ishr (pc := 98) C dX10_feed_98 ?_
  refine r_sipush (pc := 99) C (v := 255) dX10_feed_99 (by decide) ?_
  refine r_iand (pc := 102) C dX10_feed_102 ?_
  obtain ⟨hi1, h⟩ := ifn h
  obtain ⟨F2, hF2, h⟩ := lt_e h
  refine r_iast (pc := 103) C 8 rfl hi1 (w' := (wMd E a F2)) (by rw [hF2]; rfl) dX10_feed_103 ?_
  refine r_aload_n (pc := 104) C (i := 0) dX10_feed_104 rfl rfl ?_
  refine r_dup (pc := 105) C dX10_feed_105 rfl ?_
  refine r_get (pc := 106) C gwX10 0 rfl rfl 14 (by decide) wm_5_217 rfl dX10_feed_106 ?_
  refine r_iconst (pc := 109) C (v := 1) dX10_feed_109 (by decide) ?_
  refine r_iadd (pc := 110) C dX10_feed_110 ?_
  obtain ⟨F3, hF3, h⟩ := lt_e h
  refine r_put (pc := 111) C gwX10 tyX10 tyX10_ok nmX10 0 rfl rfl 14 (by decide) wm_5_217 rfl rfl rfl rfl (Nat.le_of_ble_eq_true rfl) (w' := (wMd E a F3)) (by rw [hF3]; rfl) dX10_feed_111 ?_
  refine r_iinc (pc := 114) C (v := (x6 + 1)) dX10_feed_114 rfl rfl (by decide) rfl ?_
  refine r_goto (pc := 117) C (tgt := 23) dX10_feed_117 rfl ?_
  refine r_weak (lSub_s (lSub_s (lSub_s (lSub_s (lSub_s (lSub_s (lSub_s (lSub_n lSub_e)))))))) ?_
  exact hκ23 x1 x2 x3 x4 x5 (x6 + 1) F3 q  h hq
def M_X10_feed_23 (k : Nat) : Nat → (Int32) → (Int32) → (Int32) → (Int32) → (Int32) → (Int32) → (Nat → Nat → Int32) → Option (Int32 × (Nat → Nat → Int32))
  | 0, _, _, _, _, _, _, _ => none
  | n + 1, x1, x2, x3, x4, x5, x6, S => if (20 : Int32) ≤ x6 then (some ((S 0 6), S)) else (if (4 : Int32) ≤ x6 then (if (8 : Int32) ≤ x6 then (if (12 : Int32) ≤ x6 then (if (16 : Int32) ≤ x6 then (M_X10_feed_76 k (M_X10_feed_23 k n) x1 x2 x3 x4 x5 x6 x5 S) else (M_X10_feed_76 k (M_X10_feed_23 k n) x1 x2 x3 x4 x5 x6 x4 S)) else (M_X10_feed_76 k (M_X10_feed_23 k n) x1 x2 x3 x4 x5 x6 x3 S)) else (M_X10_feed_76 k (M_X10_feed_23 k n) x1 x2 x3 x4 x5 x6 x2 S)) else (M_X10_feed_76 k (M_X10_feed_23 k n) x1 x2 x3 x4 x5 x6 x1 S))
theorem M_X10_feed_23_s (k : Nat) (n : Nat) (x1 : Int32) (x2 : Int32) (x3 : Int32) (x4 : Int32) (x5 : Int32) (x6 : Int32) (S : Nat → Nat → Int32) : M_X10_feed_23 k (n + 1) x1 x2 x3 x4 x5 x6 S = (if (20 : Int32) ≤ x6 then (some ((S 0 6), S)) else (if (4 : Int32) ≤ x6 then (if (8 : Int32) ≤ x6 then (if (12 : Int32) ≤ x6 then (if (16 : Int32) ≤ x6 then (M_X10_feed_76 k (M_X10_feed_23 k n) x1 x2 x3 x4 x5 x6 x5 S) else (M_X10_feed_76 k (M_X10_feed_23 k n) x1 x2 x3 x4 x5 x6 x4 S)) else (M_X10_feed_76 k (M_X10_feed_23 k n) x1 x2 x3 x4 x5 x6 x3 S)) else (M_X10_feed_76 k (M_X10_feed_23 k n) x1 x2 x3 x4 x5 x6 x2 S)) else (M_X10_feed_76 k (M_X10_feed_23 k n) x1 x2 x3 x4 x5 x6 x1 S))) := rfl
set_option maxRecDepth 100000 in
set_option maxHeartbeats 4000000 in
theorem N_X10_feed_23 (C : CX E p l s m args meth c cX10_feed 8 RX10 (some .int) A) (a : Nat → Nat) (k : Nat) {post : Int32 → va_W → Prop} :
    ∀ (n : Nat) (x1 : Int32) (x2 : Int32) (x3 : Int32) (x4 : Int32) (x5 : Int32) (x6 : Int32) (S : Nat → Nat → Int32) (q : Int32 × (Nat → Nat → Int32)), M_X10_feed_23 k n x1 x2 x3 x4 x5 x6 S = some q → post q.1 (wMd E a q.2) →
      WW E p l e rm_X10_feed s m args below meth c A 0 0 (QI E below post args s rm_X10_feed A) (wMd E a S) 8 [some (.ref (a 0)), some (.int x1), some (.int x2), some (.int x3), some (.int x4), some (.int x5), some (.int x6), none] 23 [] := by
  intro n
  induction n with
  | zero => intro x1 x2 x3 x4 x5 x6 S q  h _; cases h
  | succ n ih =>
    intro x1 x2 x3 x4 x5 x6 S q  h hq
    rw [M_X10_feed_23_s] at h
    refine r_iload (pc := 23) C (i := 6) dX10_feed_23 rfl ?_
    refine r_bipush (pc := 25) C (v := 20) dX10_feed_25 (by decide) ?_
    refine r_icmp_ge (pc := 27) C (tgt := 120) dX10_feed_27 rfl (fun c4 => ?_) (fun c4 => ?_)
    · rw [if_pos c4] at h
      refine r_aload_n (pc := 120) C (i := 0) dX10_feed_120 rfl rfl ?_
      refine r_get (pc := 121) C gwX10 0 rfl rfl 14 (by decide) wm_5_217 rfl dX10_feed_121 ?_
      cases h
      exact r_ireti (pc := 124) C hq (Nat.zero_le _) (Nat.zero_le _) dX10_feed_124
    · rw [if_neg c4] at h
      refine r_iload (pc := 30) C (i := 6) dX10_feed_30 rfl ?_
      refine r_iconst (pc := 32) C (v := 4) dX10_feed_32 (by decide) ?_
      refine r_icmp_ge (pc := 33) C (tgt := 40) dX10_feed_33 rfl (fun c5 => ?_) (fun c5 => ?_)
      · rw [if_pos c5] at h
        refine r_iload (pc := 40) C (i := 6) dX10_feed_40 rfl ?_
        refine r_bipush (pc := 42) C (v := 8) dX10_feed_42 (by decide) ?_
        refine r_icmp_ge (pc := 44) C (tgt := 51) dX10_feed_44 rfl (fun c6 => ?_) (fun c6 => ?_)
        · rw [if_pos c6] at h
          refine r_iload (pc := 51) C (i := 6) dX10_feed_51 rfl ?_
          refine r_bipush (pc := 53) C (v := 12) dX10_feed_53 (by decide) ?_
          refine r_icmp_ge (pc := 55) C (tgt := 62) dX10_feed_55 rfl (fun c7 => ?_) (fun c7 => ?_)
          · rw [if_pos c7] at h
            refine r_iload (pc := 62) C (i := 6) dX10_feed_62 rfl ?_
            refine r_bipush (pc := 64) C (v := 16) dX10_feed_64 (by decide) ?_
            refine r_icmp_ge (pc := 66) C (tgt := 74) dX10_feed_66 rfl (fun c8 => ?_) (fun c8 => ?_)
            · rw [if_pos c8] at h
              refine r_iload (pc := 74) C (i := 5) dX10_feed_74 rfl ?_
              refine r_weak (lSub_s (lSub_s (lSub_s (lSub_s (lSub_s (lSub_s (lSub_s (lSub_n lSub_e)))))))) ?_
              exact N_X10_feed_76 C a k (M_X10_feed_23 k n) ih x1 x2 x3 x4 x5 x6 x5 S q  h hq
            · rw [if_neg c8] at h
              refine r_iload (pc := 69) C (i := 4) dX10_feed_69 rfl ?_
              refine r_goto (pc := 71) C (tgt := 76) dX10_feed_71 rfl ?_
              refine r_weak (lSub_s (lSub_s (lSub_s (lSub_s (lSub_s (lSub_s (lSub_s (lSub_n lSub_e)))))))) ?_
              exact N_X10_feed_76 C a k (M_X10_feed_23 k n) ih x1 x2 x3 x4 x5 x6 x4 S q  h hq
          · rw [if_neg c7] at h
            refine r_iload_n (pc := 58) C (i := 3) dX10_feed_58 rfl rfl ?_
            refine r_goto (pc := 59) C (tgt := 76) dX10_feed_59 rfl ?_
            refine r_weak (lSub_s (lSub_s (lSub_s (lSub_s (lSub_s (lSub_s (lSub_s (lSub_n lSub_e)))))))) ?_
            exact N_X10_feed_76 C a k (M_X10_feed_23 k n) ih x1 x2 x3 x4 x5 x6 x3 S q  h hq
        · rw [if_neg c6] at h
          refine r_iload_n (pc := 47) C (i := 2) dX10_feed_47 rfl rfl ?_
          refine r_goto (pc := 48) C (tgt := 76) dX10_feed_48 rfl ?_
          refine r_weak (lSub_s (lSub_s (lSub_s (lSub_s (lSub_s (lSub_s (lSub_s (lSub_n lSub_e)))))))) ?_
          exact N_X10_feed_76 C a k (M_X10_feed_23 k n) ih x1 x2 x3 x4 x5 x6 x2 S q  h hq
      · rw [if_neg c5] at h
        refine r_iload_n (pc := 36) C (i := 1) dX10_feed_36 rfl rfl ?_
        refine r_goto (pc := 37) C (tgt := 76) dX10_feed_37 rfl ?_
        refine r_weak (lSub_s (lSub_s (lSub_s (lSub_s (lSub_s (lSub_s (lSub_s (lSub_n lSub_e)))))))) ?_
        exact N_X10_feed_76 C a k (M_X10_feed_23 k n) ih x1 x2 x3 x4 x5 x6 x1 S q  h hq
def M_X10_feed_0 (k : Nat) (p0 : Int32) (p1 : Int32) (p2 : Int32) (p3 : Int32) (p4 : Int32) (S : Nat → Nat → Int32) : Option (Int32 × (Nat → Nat → Int32)) := lt (va_up S 0 (upd (S 0) 1 (0 : Int32))) fun F9 => if ((F9 0 6) + (20 : Int32)) ≤ (700 : Int32) then (M_X10_feed_23 k k p0 p1 p2 p3 p4 (0 : Int32) F9) else (some ((-1 : Int32), F9))
set_option maxRecDepth 100000 in
set_option maxHeartbeats 4000000 in
theorem N_X10_feed_0 (C : CX E p l s m args meth c cX10_feed 8 RX10 (some .int) A) (a : Nat → Nat) (k : Nat) {post : Int32 → va_W → Prop} :
    ∀ (p0 : Int32) (p1 : Int32) (p2 : Int32) (p3 : Int32) (p4 : Int32) (S : Nat → Nat → Int32) (q : Int32 × (Nat → Nat → Int32)), M_X10_feed_0 k p0 p1 p2 p3 p4 S = some q → post q.1 (wMd E a q.2) →
      WW E p l e rm_X10_feed s m args below meth c A 0 0 (QI E below post args s rm_X10_feed A) (wMd E a S) 8 [some (.ref (a 0)), some (.int p0), some (.int p1), some (.int p2), some (.int p3), some (.int p4), none, none] 0 [] := by
  intro p0 p1 p2 p3 p4 S q  h hq
  unfold M_X10_feed_0 at h
  refine r_aload_n (pc := 0) C (i := 0) dX10_feed_0 rfl rfl ?_
  refine r_iconst (pc := 1) C (v := 0) dX10_feed_1 (by decide) ?_
  obtain ⟨F9, hF9, h⟩ := lt_e h
  refine r_put (pc := 2) C gwX10 tyX10 tyX10_ok nmX10 0 rfl rfl 6 (by decide) wm_5_209 rfl rfl rfl rfl (Nat.le_of_ble_eq_true rfl) (w' := (wMd E a F9)) (by rw [hF9]; rfl) dX10_feed_2 ?_
  refine r_aload_n (pc := 5) C (i := 0) dX10_feed_5 rfl rfl ?_
  refine r_get (pc := 6) C gwX10 0 rfl rfl 14 (by decide) wm_5_217 rfl dX10_feed_6 ?_
  refine r_bipush (pc := 9) C (v := 20) dX10_feed_9 (by decide) ?_
  refine r_iadd (pc := 11) C dX10_feed_11 ?_
  refine r_sipush (pc := 12) C (v := 700) dX10_feed_12 (by decide) ?_
  refine r_icmp_le (pc := 15) C (tgt := 20) dX10_feed_15 rfl (fun c10 => ?_) (fun c10 => ?_)
  · rw [if_pos c10] at h
    refine r_iconst (pc := 20) C (v := 0) dX10_feed_20 (by decide) ?_
    refine r_istore (pc := 21) C (i := 6) dX10_feed_21 (by decide) rfl ?_
    refine r_weak (lSub_s (lSub_s (lSub_s (lSub_s (lSub_s (lSub_s (lSub_s (lSub_n lSub_e)))))))) ?_
    exact N_X10_feed_23 C a k k p0 p1 p2 p3 p4 (0 : Int32) F9 q  h hq
  · rw [if_neg c10] at h
    refine r_iconst (pc := 18) C (v := (-1)) dX10_feed_18 (by decide) ?_
    have h := Option.some.inj h
    subst h
    exact r_ireti (pc := 19) C hq (Nat.zero_le _) (Nat.zero_le _) dX10_feed_19
def M_X10_feed (k : Nat) (S : Nat → Nat → Int32) (p0 : Int32) (p1 : Int32) (p2 : Int32) (p3 : Int32) (p4 : Int32) : Option (Int32 × (Nat → Nat → Int32)) := M_X10_feed_0 k p0 p1 p2 p3 p4 S
set_option maxRecDepth 100000 in
set_option maxHeartbeats 4000000 in
theorem c_X10_feed (E : ENV) (l : Launch) (k : Nat) (a : Nat → Nat) (S : Nat → Nat → Int32) (p0 : Int32) (p1 : Int32) (p2 : Int32) (p3 : Int32) (p4 : Int32) {q : Int32 × (Nat → Nat → Int32)} (hm : M_X10_feed k S p0 p1 p2 p3 p4 = some q) : CI E l yX10_feed cX10_feed 8 (some .int) rm_X10_feed [.ref (a 0), .int p0, .int p1, .int p2, .int p3, .int p4] (wMd E a S) (fun r w' => r = q.1 ∧ w' = (wMd E a q.2)) :=
  CI.of 2 (by decide) (Nat.le_of_ble_eq_true rfl) (fun p e s m below meth c A C _ => r_weak (lSub_s (lSub_s (lSub_s (lSub_s (lSub_s (lSub_s (lSub_n (lSub_n lSub_e)))))))) (N_X10_feed_0 C a k p0 p1 p2 p3 p4 S q  hm ⟨rfl, rfl⟩))
-- ShardGuardModel.errorPosition()I
theorem dX10_errorPosition_0 : decode cX10_errorPosition 0 = .ok (.aload_n 0, 1) := by decide +kernel
theorem dX10_errorPosition_1 : decode cX10_errorPosition 1 = .ok (.iconst 0, 1) := by decide +kernel
theorem dX10_errorPosition_2 : decode cX10_errorPosition 2 = .ok (.putfield 93, 3) := by decide +kernel
theorem dX10_errorPosition_5 : decode cX10_errorPosition 5 = .ok (.aload_n 0, 1) := by decide +kernel
theorem dX10_errorPosition_6 : decode cX10_errorPosition 6 = .ok (.getfield 37, 3) := by decide +kernel
theorem dX10_errorPosition_9 : decode cX10_errorPosition 9 = .ok (.ireturn, 1) := by decide +kernel
def rm_X10_errorPosition : Room := { frames := 0, cells := 0, slots := 0, locals := 0 }
def M_X10_errorPosition_0 (k : Nat) (S : Nat → Nat → Int32) : Option (Int32 × (Nat → Nat → Int32)) := lt (va_up S 0 (upd (S 0) 1 (0 : Int32))) fun F1 => some ((F1 0 13), F1)
set_option maxRecDepth 100000 in
set_option maxHeartbeats 4000000 in
theorem N_X10_errorPosition_0 (C : CX E p l s m args meth c cX10_errorPosition 1 RX10 (some .int) A) (a : Nat → Nat) (k : Nat) {post : Int32 → va_W → Prop} :
    ∀ (S : Nat → Nat → Int32) (q : Int32 × (Nat → Nat → Int32)), M_X10_errorPosition_0 k S = some q → post q.1 (wMd E a q.2) →
      WW E p l e rm_X10_errorPosition s m args below meth c A 0 0 (QI E below post args s rm_X10_errorPosition A) (wMd E a S) 1 [some (.ref (a 0))] 0 [] := by
  intro S q  h hq
  unfold M_X10_errorPosition_0 at h
  refine r_aload_n (pc := 0) C (i := 0) dX10_errorPosition_0 rfl rfl ?_
  refine r_iconst (pc := 1) C (v := 0) dX10_errorPosition_1 (by decide) ?_
  obtain ⟨F1, hF1, h⟩ := lt_e h
  refine r_put (pc := 2) C gwX10 tyX10 tyX10_ok nmX10 0 rfl rfl 6 (by decide) wm_5_209 rfl rfl rfl rfl (Nat.le_of_ble_eq_true rfl) (w' := (wMd E a F1)) (by rw [hF1]; rfl) dX10_errorPosition_2 ?_
  refine r_aload_n (pc := 5) C (i := 0) dX10_errorPosition_5 rfl rfl ?_
  refine r_get (pc := 6) C gwX10 0 rfl rfl 21 (by decide) wm_5_224 rfl dX10_errorPosition_6 ?_
  cases h
  exact r_ireti (pc := 9) C hq (Nat.zero_le _) (Nat.zero_le _) dX10_errorPosition_9
def M_X10_errorPosition (k : Nat) (S : Nat → Nat → Int32) : Option (Int32 × (Nat → Nat → Int32)) := M_X10_errorPosition_0 k S
set_option maxRecDepth 100000 in
set_option maxHeartbeats 4000000 in
theorem c_X10_errorPosition (E : ENV) (l : Launch) (k : Nat) (a : Nat → Nat) (S : Nat → Nat → Int32) {q : Int32 × (Nat → Nat → Int32)} (hm : M_X10_errorPosition k S = some q) : CI E l yX10_errorPosition cX10_errorPosition 1 (some .int) rm_X10_errorPosition [.ref (a 0)] (wMd E a S) (fun r w' => r = q.1 ∧ w' = (wMd E a q.2)) :=
  CI.of 0 (by decide) (Nat.le_of_ble_eq_true rfl) (fun p e s m below meth c A C _ => r_weak (lSub_s lSub_e) (N_X10_errorPosition_0 C a k S q  hm ⟨rfl, rfl⟩))
-- ShardGuardModel.byteAt(I)I
theorem dX10_byteAt_0 : decode cX10_byteAt 0 = .ok (.iload_n 1, 1) := by decide +kernel
theorem dX10_byteAt_1 : decode cX10_byteAt 1 = .ok (.aload_n 0, 1) := by decide +kernel
theorem dX10_byteAt_2 : decode cX10_byteAt 2 = .ok (.getfield 356, 3) := by decide +kernel
theorem dX10_byteAt_5 : decode cX10_byteAt 5 = .ok (.if_icmp .ge 12, 3) := by decide +kernel
theorem dX10_byteAt_8 : decode cX10_byteAt 8 = .ok (.aload_n 0, 1) := by decide +kernel
theorem dX10_byteAt_9 : decode cX10_byteAt 9 = .ok (.getfield 34, 3) := by decide +kernel
theorem dX10_byteAt_12 : decode cX10_byteAt 12 = .ok (.iload_n 1, 1) := by decide +kernel
theorem dX10_byteAt_13 : decode cX10_byteAt 13 = .ok (.iaload, 1) := by decide +kernel
theorem dX10_byteAt_14 : decode cX10_byteAt 14 = .ok (.goto 4, 3) := by decide +kernel
theorem dX10_byteAt_17 : decode cX10_byteAt 17 = .ok (.iconst (-1), 1) := by decide +kernel
theorem dX10_byteAt_18 : decode cX10_byteAt 18 = .ok (.ireturn, 1) := by decide +kernel
def rm_X10_byteAt : Room := { frames := 0, cells := 0, slots := 0, locals := 0 }
def M_X10_byteAt_0 (k : Nat) (S : Nat → Nat → Int32) (p0 : Int32) : Option (Int32) := if (S 0 7) ≤ p0 then (some (-1 : Int32)) else ((if inb p0 700 = true then some ((S 8) p0.toNatClampNeg) else none))
set_option maxRecDepth 100000 in
set_option maxHeartbeats 4000000 in
theorem N_X10_byteAt_0 (C : CX E p l s m args meth c cX10_byteAt 2 RX10 (some .int) A) (a : Nat → Nat) (k : Nat) (S : Nat → Nat → Int32) {post : Int32 → va_W → Prop} :
    ∀ (p0 : Int32) (q : Int32), M_X10_byteAt_0 k S p0 = some q → post q (wMd E a S) →
      WW E p l e rm_X10_byteAt s m args below meth c A 0 0 (QI E below post args s rm_X10_byteAt A) (wMd E a S) 2 [some (.ref (a 0)), some (.int p0)] 0 [] := by
  intro p0 q  h hq
  unfold M_X10_byteAt_0 at h
  refine r_iload_n (pc := 0) C (i := 1) dX10_byteAt_0 rfl rfl ?_
  refine r_aload_n (pc := 1) C (i := 0) dX10_byteAt_1 rfl rfl ?_
  refine r_get (pc := 2) C gwX10 0 rfl rfl 15 (by decide) wm_5_218 rfl dX10_byteAt_2 ?_
  refine r_icmp_ge (pc := 5) C (tgt := 17) dX10_byteAt_5 rfl (fun c1 => ?_) (fun c1 => ?_)
  · rw [if_pos c1] at h
    refine r_iconst (pc := 17) C (v := (-1)) dX10_byteAt_17 (by decide) ?_
    have h := Option.some.inj h
    subst h
    exact r_ireti (pc := 18) C hq (Nat.zero_le _) (Nat.zero_le _) dX10_byteAt_18
  · rw [if_neg c1] at h
    refine r_aload_n (pc := 8) C (i := 0) dX10_byteAt_8 rfl rfl ?_
    refine r_get (pc := 9) C gwX10 0 rfl rfl 13 (by decide) wm_5_216 rfl dX10_byteAt_9 ?_
    refine r_iload_n (pc := 12) C (i := 1) dX10_byteAt_12 rfl rfl ?_
    obtain ⟨hi2, h⟩ := ifn h
    refine r_iald (pc := 13) C 8 rfl hi2 dX10_byteAt_13 ?_
    refine r_goto (pc := 14) C (tgt := 18) dX10_byteAt_14 rfl ?_
    cases h
    exact r_ireti (pc := 18) C hq (Nat.zero_le _) (Nat.zero_le _) dX10_byteAt_18
def M_X10_byteAt (k : Nat) (S : Nat → Nat → Int32) (p0 : Int32) : Option (Int32) := M_X10_byteAt_0 k S p0
set_option maxRecDepth 100000 in
set_option maxHeartbeats 4000000 in
theorem c_X10_byteAt (E : ENV) (l : Launch) (k : Nat) (a : Nat → Nat) (S : Nat → Nat → Int32) (p0 : Int32) {q : Int32} (hm : M_X10_byteAt k S p0 = some q) : CI E l yX10_byteAt cX10_byteAt 2 (some .int) rm_X10_byteAt [.ref (a 0), .int p0] (wMd E a S) (fun r w' => r = q ∧ w' = (wMd E a S)) :=
  CI.of 0 (by decide) (Nat.le_of_ble_eq_true rfl) (fun p e s m below meth c A C _ => r_weak (lSub_s (lSub_s lSub_e)) (N_X10_byteAt_0 C a k S p0 q  hm ⟨rfl, rfl⟩))
end WALKS
