section WALKS
variable {E : ENV} {p : Program} {l : Launch} {e : Env} {s : State} {m : MethodId} {args : Array Value} {below : List Frame} {meth : Method} {c : Code} {A : Nat → Prop}
-- ShardGuardModel.copy([II[II)V
theorem dX10_copy_0 : decode cX10_copy 0 = .ok (.iconst 0, 1) := by decide +kernel
theorem dX10_copy_1 : decode cX10_copy 1 = .ok (.istore 4, 2) := by decide +kernel
theorem dX10_copy_3 : decode cX10_copy 3 = .ok (.iload 4, 2) := by decide +kernel
theorem dX10_copy_5 : decode cX10_copy 5 = .ok (.sipush 1692, 3) := by decide +kernel
theorem dX10_copy_8 : decode cX10_copy 8 = .ok (.if_icmp .ge 29, 3) := by decide +kernel
theorem dX10_copy_11 : decode cX10_copy 11 = .ok (.aload_n 2, 1) := by decide +kernel
theorem dX10_copy_12 : decode cX10_copy 12 = .ok (.sipush 1692, 3) := by decide +kernel
theorem dX10_copy_15 : decode cX10_copy 15 = .ok (.iload_n 3, 1) := by decide +kernel
theorem dX10_copy_16 : decode cX10_copy 16 = .ok (.imul, 1) := by decide +kernel
theorem dX10_copy_17 : decode cX10_copy 17 = .ok (.iload 4, 2) := by decide +kernel
theorem dX10_copy_19 : decode cX10_copy 19 = .ok (.iadd, 1) := by decide +kernel
theorem dX10_copy_20 : decode cX10_copy 20 = .ok (.aload_n 0, 1) := by decide +kernel
theorem dX10_copy_21 : decode cX10_copy 21 = .ok (.sipush 1692, 3) := by decide +kernel
theorem dX10_copy_24 : decode cX10_copy 24 = .ok (.iload_n 1, 1) := by decide +kernel
theorem dX10_copy_25 : decode cX10_copy 25 = .ok (.imul, 1) := by decide +kernel
theorem dX10_copy_26 : decode cX10_copy 26 = .ok (.iload 4, 2) := by decide +kernel
theorem dX10_copy_28 : decode cX10_copy 28 = .ok (.iadd, 1) := by decide +kernel
theorem dX10_copy_29 : decode cX10_copy 29 = .ok (.iaload, 1) := by decide +kernel
theorem dX10_copy_30 : decode cX10_copy 30 = .ok (.iastore, 1) := by decide +kernel
theorem dX10_copy_31 : decode cX10_copy 31 = .ok (.iinc 4 1, 3) := by decide +kernel
theorem dX10_copy_34 : decode cX10_copy 34 = .ok (.goto (-31), 3) := by decide +kernel
theorem dX10_copy_37 : decode cX10_copy 37 = .ok (.return_, 1) := by decide +kernel
def rm_X10_copy : Room := { frames := 0, cells := 0, slots := 0, locals := 0 }
def M_X10_copy_3 (k : Nat) (nn : Nat) (nn1 : Nat) (S : Nat → Int32) : Nat → (Int32) → (Int32) → (Int32) → (Nat → Int32) → Option ((Nat → Int32))
  | 0, _, _, _, _ => none
  | n + 1, x1, x3, x4, T => if (1692 : Int32) ≤ x4 then (some T) else ((if inb (((1692 : Int32) * x1) + x4) nn = true then (if inb (((1692 : Int32) * x3) + x4) nn1 = true then lt (upd T (((1692 : Int32) * x3) + x4).toNatClampNeg (S (((1692 : Int32) * x1) + x4).toNatClampNeg)) fun F4 => M_X10_copy_3 k nn nn1 S n x1 x3 (x4 + 1) F4 else none) else none))
theorem M_X10_copy_3_s (k : Nat) (nn : Nat) (nn1 : Nat) (S : Nat → Int32) (n : Nat) (x1 : Int32) (x3 : Int32) (x4 : Int32) (T : Nat → Int32) : M_X10_copy_3 k nn nn1 S (n + 1) x1 x3 x4 T = (if (1692 : Int32) ≤ x4 then (some T) else ((if inb (((1692 : Int32) * x1) + x4) nn = true then (if inb (((1692 : Int32) * x3) + x4) nn1 = true then lt (upd T (((1692 : Int32) * x3) + x4).toNatClampNeg (S (((1692 : Int32) * x1) + x4).toNatClampNeg)) fun F4 => M_X10_copy_3 k nn nn1 S n x1 x3 (x4 + 1) F4 else none) else none))) := rfl
set_option maxRecDepth 100000 in
set_option maxHeartbeats 4000000 in
theorem N_X10_copy_3 (C : CX E p l s m args meth c cX10_copy 5 RX10 none A) (a : Nat → Nat) (b : Nat → Nat) (k : Nat) (nn : Nat) (nn1 : Nat) (S : Nat → Int32) {post : va_W → Prop} :
    ∀ (n : Nat) (x1 : Int32) (x3 : Int32) (x4 : Int32) (T : Nat → Int32) (q : (Nat → Int32)), M_X10_copy_3 k nn nn1 S n x1 x3 x4 T = some q → post (wAr E a nn S ++ wAr E b nn1 q) →
      WW E p l e rm_X10_copy s m args below meth c A 0 0 (QV E below post args s rm_X10_copy A) (wAr E a nn S ++ wAr E b nn1 T) 5 [some (.ref (a 0)), some (.int x1), some (.ref (b 0)), some (.int x3), some (.int x4)] 3 [] := by
  intro n
  induction n with
  | zero => intro x1 x3 x4 T q  h _; cases h
  | succ n ih =>
    intro x1 x3 x4 T q  h hq
    rw [M_X10_copy_3_s] at h
    refine r_iload (pc := 3) C (i := 4) dX10_copy_3 rfl ?_
    refine r_sipush (pc := 5) C (v := 1692) dX10_copy_5 (by decide) ?_
    refine r_icmp_ge (pc := 8) C (tgt := 37) dX10_copy_8 rfl (fun c1 => ?_) (fun c1 => ?_)
    · rw [if_pos c1] at h
      cases h
      exact r_vret (pc := 37) C hq (Nat.zero_le _) (Nat.zero_le _) dX10_copy_37
    · rw [if_neg c1] at h
      refine r_aload_n (pc := 11) C (i := 2) dX10_copy_11 rfl rfl ?_
      refine r_sipush (pc := 12) C (v := 1692) dX10_copy_12 (by decide) ?_
      refine r_iload_n (pc := 15) C (i := 3) dX10_copy_15 rfl rfl ?_
      refine r_imul (pc := 16) C dX10_copy_16 ?_
      refine r_iload (pc := 17) C (i := 4) dX10_copy_17 rfl ?_
      refine r_iadd (pc := 19) C dX10_copy_19 ?_
      refine r_aload_n (pc := 20) C (i := 0) dX10_copy_20 rfl rfl ?_
      refine r_sipush (pc := 21) C (v := 1692) dX10_copy_21 (by decide) ?_
      refine r_iload_n (pc := 24) C (i := 1) dX10_copy_24 rfl rfl ?_
      refine r_imul (pc := 25) C dX10_copy_25 ?_
      refine r_iload (pc := 26) C (i := 4) dX10_copy_26 rfl ?_
      refine r_iadd (pc := 28) C dX10_copy_28 ?_
      obtain ⟨hi2, h⟩ := ifn h
      refine r_iald (pc := 29) C 0 rfl hi2 dX10_copy_29 ?_
      obtain ⟨hi3, h⟩ := ifn h
      obtain ⟨F4, hF4, h⟩ := lt_e h
      refine r_iast (pc := 30) C 1 rfl hi3 (w' := (wAr E a nn S ++ wAr E b nn1 F4)) (by rw [hF4]; rfl) dX10_copy_30 ?_
      refine r_iinc (pc := 31) C (v := (x4 + 1)) dX10_copy_31 rfl rfl (by decide) rfl ?_
      refine r_goto (pc := 34) C (tgt := 3) dX10_copy_34 rfl ?_
      refine r_weak (lSub_s (lSub_s (lSub_s (lSub_s (lSub_s lSub_e))))) ?_
      exact ih x1 x3 (x4 + 1) F4 q  h hq
def M_X10_copy_0 (k : Nat) (nn : Nat) (nn1 : Nat) (S : Nat → Int32) (p0 : Int32) (p1 : Int32) (T : Nat → Int32) : Option ((Nat → Int32)) := M_X10_copy_3 k nn nn1 S k p0 p1 (0 : Int32) T
set_option maxRecDepth 100000 in
set_option maxHeartbeats 4000000 in
theorem N_X10_copy_0 (C : CX E p l s m args meth c cX10_copy 5 RX10 none A) (a : Nat → Nat) (b : Nat → Nat) (k : Nat) (nn : Nat) (nn1 : Nat) (S : Nat → Int32) {post : va_W → Prop} :
    ∀ (p0 : Int32) (p1 : Int32) (T : Nat → Int32) (q : (Nat → Int32)), M_X10_copy_0 k nn nn1 S p0 p1 T = some q → post (wAr E a nn S ++ wAr E b nn1 q) →
      WW E p l e rm_X10_copy s m args below meth c A 0 0 (QV E below post args s rm_X10_copy A) (wAr E a nn S ++ wAr E b nn1 T) 5 [some (.ref (a 0)), some (.int p0), some (.ref (b 0)), some (.int p1), none] 0 [] := by
  intro p0 p1 T q  h hq
  unfold M_X10_copy_0 at h
  refine r_iconst (pc := 0) C (v := 0) dX10_copy_0 (by decide) ?_
  refine r_istore (pc := 1) C (i := 4) dX10_copy_1 (by decide) rfl ?_
  refine r_weak (lSub_s (lSub_s (lSub_s (lSub_s (lSub_s lSub_e))))) ?_
  exact N_X10_copy_3 C a b k nn nn1 S k p0 p1 (0 : Int32) T q  h hq
def M_X10_copy (k : Nat) (nn : Nat) (nn1 : Nat) (S : Nat → Int32) (T : Nat → Int32) (p0 : Int32) (p1 : Int32) : Option ((Nat → Int32)) := M_X10_copy_0 k nn nn1 S p0 p1 T
set_option maxRecDepth 100000 in
set_option maxHeartbeats 4000000 in
theorem c_X10_copy (E : ENV) (l : Launch) (k : Nat) (a : Nat → Nat) (b : Nat → Nat) (nn : Nat) (nn1 : Nat) (S : Nat → Int32) (T : Nat → Int32) (p0 : Int32) (p1 : Int32) {q : (Nat → Int32)} (hm : M_X10_copy k nn nn1 S T p0 p1 = some q) : CV E l yX10_copy cX10_copy 5 none rm_X10_copy [.ref (a 0), .int p0, .ref (b 0), .int p1] (wAr E a nn S ++ wAr E b nn1 T) (fun w' => w' = (wAr E a nn S ++ wAr E b nn1 q)) :=
  CV.of 1 (by decide) (Nat.le_of_ble_eq_true rfl) (fun p e s m below meth c A C _ => r_weak (lSub_s (lSub_s (lSub_s (lSub_s (lSub_n lSub_e))))) (N_X10_copy_0 C a b k nn nn1 S p0 p1 T q  hm rfl))
-- ShardGuardModel.copy([II[II)V
def rm_X10_copy_same : Room := { frames := 0, cells := 0, slots := 0, locals := 0 }
def M_X10_copy_same_3 (k : Nat) (nn : Nat) : Nat → (Int32) → (Int32) → (Int32) → (Nat → Int32) → Option ((Nat → Int32))
  | 0, _, _, _, _ => none
  | n + 1, x1, x3, x4, S => if (1692 : Int32) ≤ x4 then (some S) else ((if inb (((1692 : Int32) * x1) + x4) nn = true then (if inb (((1692 : Int32) * x3) + x4) nn = true then lt (upd S (((1692 : Int32) * x3) + x4).toNatClampNeg (S (((1692 : Int32) * x1) + x4).toNatClampNeg)) fun F4 => M_X10_copy_same_3 k nn n x1 x3 (x4 + 1) F4 else none) else none))
theorem M_X10_copy_same_3_s (k : Nat) (nn : Nat) (n : Nat) (x1 : Int32) (x3 : Int32) (x4 : Int32) (S : Nat → Int32) : M_X10_copy_same_3 k nn (n + 1) x1 x3 x4 S = (if (1692 : Int32) ≤ x4 then (some S) else ((if inb (((1692 : Int32) * x1) + x4) nn = true then (if inb (((1692 : Int32) * x3) + x4) nn = true then lt (upd S (((1692 : Int32) * x3) + x4).toNatClampNeg (S (((1692 : Int32) * x1) + x4).toNatClampNeg)) fun F4 => M_X10_copy_same_3 k nn n x1 x3 (x4 + 1) F4 else none) else none))) := rfl
set_option maxRecDepth 100000 in
set_option maxHeartbeats 4000000 in
theorem N_X10_copy_same_3 (C : CX E p l s m args meth c cX10_copy 5 RX10 none A) (a : Nat → Nat) (k : Nat) (nn : Nat) {post : va_W → Prop} :
    ∀ (n : Nat) (x1 : Int32) (x3 : Int32) (x4 : Int32) (S : Nat → Int32) (q : (Nat → Int32)), M_X10_copy_same_3 k nn n x1 x3 x4 S = some q → post (wAr E a nn q) →
      WW E p l e rm_X10_copy_same s m args below meth c A 0 0 (QV E below post args s rm_X10_copy_same A) (wAr E a nn S) 5 [some (.ref (a 0)), some (.int x1), some (.ref (a 0)), some (.int x3), some (.int x4)] 3 [] := by
  intro n
  induction n with
  | zero => intro x1 x3 x4 S q  h _; cases h
  | succ n ih =>
    intro x1 x3 x4 S q  h hq
    rw [M_X10_copy_same_3_s] at h
    refine r_iload (pc := 3) C (i := 4) dX10_copy_3 rfl ?_
    refine r_sipush (pc := 5) C (v := 1692) dX10_copy_5 (by decide) ?_
    refine r_icmp_ge (pc := 8) C (tgt := 37) dX10_copy_8 rfl (fun c1 => ?_) (fun c1 => ?_)
    · rw [if_pos c1] at h
      cases h
      exact r_vret (pc := 37) C hq (Nat.zero_le _) (Nat.zero_le _) dX10_copy_37
    · rw [if_neg c1] at h
      refine r_aload_n (pc := 11) C (i := 2) dX10_copy_11 rfl rfl ?_
      refine r_sipush (pc := 12) C (v := 1692) dX10_copy_12 (by decide) ?_
      refine r_iload_n (pc := 15) C (i := 3) dX10_copy_15 rfl rfl ?_
      refine r_imul (pc := 16) C dX10_copy_16 ?_
      refine r_iload (pc := 17) C (i := 4) dX10_copy_17 rfl ?_
      refine r_iadd (pc := 19) C dX10_copy_19 ?_
      refine r_aload_n (pc := 20) C (i := 0) dX10_copy_20 rfl rfl ?_
      refine r_sipush (pc := 21) C (v := 1692) dX10_copy_21 (by decide) ?_
      refine r_iload_n (pc := 24) C (i := 1) dX10_copy_24 rfl rfl ?_
      refine r_imul (pc := 25) C dX10_copy_25 ?_
      refine r_iload (pc := 26) C (i := 4) dX10_copy_26 rfl ?_
      refine r_iadd (pc := 28) C dX10_copy_28 ?_
      obtain ⟨hi2, h⟩ := ifn h
      refine r_iald (pc := 29) C 0 rfl hi2 dX10_copy_29 ?_
      obtain ⟨hi3, h⟩ := ifn h
      obtain ⟨F4, hF4, h⟩ := lt_e h
      refine r_iast (pc := 30) C 0 rfl hi3 (w' := (wAr E a nn F4)) (by rw [hF4]; rfl) dX10_copy_30 ?_
      refine r_iinc (pc := 31) C (v := (x4 + 1)) dX10_copy_31 rfl rfl (by decide) rfl ?_
      refine r_goto (pc := 34) C (tgt := 3) dX10_copy_34 rfl ?_
      refine r_weak (lSub_s (lSub_s (lSub_s (lSub_s (lSub_s lSub_e))))) ?_
      exact ih x1 x3 (x4 + 1) F4 q  h hq
def M_X10_copy_same_0 (k : Nat) (nn : Nat) (p0 : Int32) (p1 : Int32) (S : Nat → Int32) : Option ((Nat → Int32)) := M_X10_copy_same_3 k nn k p0 p1 (0 : Int32) S
set_option maxRecDepth 100000 in
set_option maxHeartbeats 4000000 in
theorem N_X10_copy_same_0 (C : CX E p l s m args meth c cX10_copy 5 RX10 none A) (a : Nat → Nat) (k : Nat) (nn : Nat) {post : va_W → Prop} :
    ∀ (p0 : Int32) (p1 : Int32) (S : Nat → Int32) (q : (Nat → Int32)), M_X10_copy_same_0 k nn p0 p1 S = some q → post (wAr E a nn q) →
      WW E p l e rm_X10_copy_same s m args below meth c A 0 0 (QV E below post args s rm_X10_copy_same A) (wAr E a nn S) 5 [some (.ref (a 0)), some (.int p0), some (.ref (a 0)), some (.int p1), none] 0 [] := by
  intro p0 p1 S q  h hq
  unfold M_X10_copy_same_0 at h
  refine r_iconst (pc := 0) C (v := 0) dX10_copy_0 (by decide) ?_
  refine r_istore (pc := 1) C (i := 4) dX10_copy_1 (by decide) rfl ?_
  refine r_weak (lSub_s (lSub_s (lSub_s (lSub_s (lSub_s lSub_e))))) ?_
  exact N_X10_copy_same_3 C a k nn k p0 p1 (0 : Int32) S q  h hq
def M_X10_copy_same (k : Nat) (nn : Nat) (S : Nat → Int32) (p0 : Int32) (p1 : Int32) : Option ((Nat → Int32)) := M_X10_copy_same_0 k nn p0 p1 S
set_option maxRecDepth 100000 in
set_option maxHeartbeats 4000000 in
theorem c_X10_copy_same (E : ENV) (l : Launch) (k : Nat) (a : Nat → Nat) (nn : Nat) (S : Nat → Int32) (p0 : Int32) (p1 : Int32) {q : (Nat → Int32)} (hm : M_X10_copy_same k nn S p0 p1 = some q) : CV E l yX10_copy cX10_copy 5 none rm_X10_copy_same [.ref (a 0), .int p0, .ref (a 0), .int p1] (wAr E a nn S) (fun w' => w' = (wAr E a nn q)) :=
  CV.of 1 (by decide) (Nat.le_of_ble_eq_true rfl) (fun p e s m below meth c A C _ => r_weak (lSub_s (lSub_s (lSub_s (lSub_s (lSub_n lSub_e))))) (N_X10_copy_same_0 C a k nn p0 p1 S q  hm rfl))
-- ShardGuardModel.thrown()I
theorem dX10_thrown_0 : decode cX10_thrown 0 = .ok (.aload_n 0, 1) := by decide +kernel
theorem dX10_thrown_1 : decode cX10_thrown 1 = .ok (.getfield 93, 3) := by decide +kernel
theorem dX10_thrown_4 : decode cX10_thrown 4 = .ok (.ireturn, 1) := by decide +kernel
def rm_X10_thrown : Room := { frames := 0, cells := 0, slots := 0, locals := 0 }
def M_X10_thrown_0 (k : Nat) (S : Nat → Nat → Int32) : Option (Int32) := some (S 0 1)
set_option maxRecDepth 100000 in
set_option maxHeartbeats 4000000 in
theorem N_X10_thrown_0 (C : CX E p l s m args meth c cX10_thrown 1 RX10 (some .int) A) (a : Nat → Nat) (k : Nat) (S : Nat → Nat → Int32) {post : Int32 → va_W → Prop} :
    ∀ (q : Int32), M_X10_thrown_0 k S = some q → post q (wMd E a S) →
      WW E p l e rm_X10_thrown s m args below meth c A 0 0 (QI E below post args s rm_X10_thrown A) (wMd E a S) 1 [some (.ref (a 0))] 0 [] := by
  intro  q  h hq
  unfold M_X10_thrown_0 at h
  refine r_aload_n (pc := 0) C (i := 0) dX10_thrown_0 rfl rfl ?_
  refine r_get (pc := 1) C gwX10 0 rfl rfl 6 (by decide) wm_5_209 rfl dX10_thrown_1 ?_
  cases h
  exact r_ireti (pc := 4) C hq (Nat.zero_le _) (Nat.zero_le _) dX10_thrown_4
def M_X10_thrown (k : Nat) (S : Nat → Nat → Int32) : Option (Int32) := M_X10_thrown_0 k S
set_option maxRecDepth 100000 in
set_option maxHeartbeats 4000000 in
theorem c_X10_thrown (E : ENV) (l : Launch) (k : Nat) (a : Nat → Nat) (S : Nat → Nat → Int32) {q : Int32} (hm : M_X10_thrown k S = some q) : CI E l yX10_thrown cX10_thrown 1 (some .int) rm_X10_thrown [.ref (a 0)] (wMd E a S) (fun r w' => r = q ∧ w' = (wMd E a S)) :=
  CI.of 0 (by decide) (Nat.le_of_ble_eq_true rfl) (fun p e s m below meth c A C _ => r_weak (lSub_s lSub_e) (N_X10_thrown_0 C a k S q  hm ⟨rfl, rfl⟩))
-- ShardGuardModel.raise(I)I
theorem dX10_raise_0 : decode cX10_raise 0 = .ok (.aload_n 0, 1) := by decide +kernel
theorem dX10_raise_1 : decode cX10_raise 1 = .ok (.iload_n 1, 1) := by decide +kernel
theorem dX10_raise_2 : decode cX10_raise 2 = .ok (.putfield 93, 3) := by decide +kernel
theorem dX10_raise_5 : decode cX10_raise 5 = .ok (.iconst 0, 1) := by decide +kernel
theorem dX10_raise_6 : decode cX10_raise 6 = .ok (.ireturn, 1) := by decide +kernel
def rm_X10_raise : Room := { frames := 0, cells := 0, slots := 0, locals := 0 }
def M_X10_raise_0 (k : Nat) (p0 : Int32) (S : Nat → Nat → Int32) : Option (Int32 × (Nat → Nat → Int32)) := lt (va_up S 0 (upd (S 0) 1 p0)) fun F1 => some ((0 : Int32), F1)
set_option maxRecDepth 100000 in
set_option maxHeartbeats 4000000 in
theorem N_X10_raise_0 (C : CX E p l s m args meth c cX10_raise 2 RX10 (some .int) A) (a : Nat → Nat) (k : Nat) {post : Int32 → va_W → Prop} :
    ∀ (p0 : Int32) (S : Nat → Nat → Int32) (q : Int32 × (Nat → Nat → Int32)), M_X10_raise_0 k p0 S = some q → post q.1 (wMd E a q.2) →
      WW E p l e rm_X10_raise s m args below meth c A 0 0 (QI E below post args s rm_X10_raise A) (wMd E a S) 2 [some (.ref (a 0)), some (.int p0)] 0 [] := by
  intro p0 S q  h hq
  unfold M_X10_raise_0 at h
  refine r_aload_n (pc := 0) C (i := 0) dX10_raise_0 rfl rfl ?_
  refine r_iload_n (pc := 1) C (i := 1) dX10_raise_1 rfl rfl ?_
  obtain ⟨F1, hF1, h⟩ := lt_e h
  refine r_put (pc := 2) C gwX10 tyX10 tyX10_ok nmX10 0 rfl rfl 6 (by decide) wm_5_209 rfl rfl rfl rfl (Nat.le_of_ble_eq_true rfl) (w' := (wMd E a F1)) (by rw [hF1]; rfl) dX10_raise_2 ?_
  refine r_iconst (pc := 5) C (v := 0) dX10_raise_5 (by decide) ?_
  cases h
  exact r_ireti (pc := 6) C hq (Nat.zero_le _) (Nat.zero_le _) dX10_raise_6
def M_X10_raise (k : Nat) (S : Nat → Nat → Int32) (p0 : Int32) : Option (Int32 × (Nat → Nat → Int32)) := M_X10_raise_0 k p0 S
set_option maxRecDepth 100000 in
set_option maxHeartbeats 4000000 in
theorem c_X10_raise (E : ENV) (l : Launch) (k : Nat) (a : Nat → Nat) (S : Nat → Nat → Int32) (p0 : Int32) {q : Int32 × (Nat → Nat → Int32)} (hm : M_X10_raise k S p0 = some q) : CI E l yX10_raise cX10_raise 2 (some .int) rm_X10_raise [.ref (a 0), .int p0] (wMd E a S) (fun r w' => r = q.1 ∧ w' = (wMd E a q.2)) :=
  CI.of 0 (by decide) (Nat.le_of_ble_eq_true rfl) (fun p e s m below meth c A C _ => r_weak (lSub_s (lSub_s lSub_e)) (N_X10_raise_0 C a k p0 S q  hm ⟨rfl, rfl⟩))
-- ShardGuardModel.inRange(III)Z
theorem dX10_inRange_0 : decode cX10_inRange 0 = .ok (.iload_n 0, 1) := by decide +kernel
theorem dX10_inRange_1 : decode cX10_inRange 1 = .ok (.iload_n 1, 1) := by decide +kernel
theorem dX10_inRange_2 : decode cX10_inRange 2 = .ok (.if_icmp .lt 12, 3) := by decide +kernel
theorem dX10_inRange_5 : decode cX10_inRange 5 = .ok (.iload_n 0, 1) := by decide +kernel
theorem dX10_inRange_6 : decode cX10_inRange 6 = .ok (.iload_n 2, 1) := by decide +kernel
theorem dX10_inRange_7 : decode cX10_inRange 7 = .ok (.if_icmp .gt 7, 3) := by decide +kernel
theorem dX10_inRange_10 : decode cX10_inRange 10 = .ok (.iconst 1, 1) := by decide +kernel
theorem dX10_inRange_11 : decode cX10_inRange 11 = .ok (.goto 4, 3) := by decide +kernel
theorem dX10_inRange_14 : decode cX10_inRange 14 = .ok (.iconst 0, 1) := by decide +kernel
theorem dX10_inRange_15 : decode cX10_inRange 15 = .ok (.ireturn, 1) := by decide +kernel
def rm_X10_inRange : Room := { frames := 0, cells := 0, slots := 0, locals := 0 }
def M_X10_inRange_0 (k : Nat) (p0 : Int32) (p1 : Int32) (p2 : Int32) : Option (Int32) := if p0 < p1 then (some (0 : Int32)) else (if p2 < p0 then (some (0 : Int32)) else (some (1 : Int32)))
set_option maxRecDepth 100000 in
set_option maxHeartbeats 4000000 in
theorem N_X10_inRange_0 (C : CX E p l s m args meth c cX10_inRange 3 RX10 (some .boolean) A) (k : Nat) {post : Int32 → va_W → Prop} :
    ∀ (p0 : Int32) (p1 : Int32) (p2 : Int32) (q : Int32), M_X10_inRange_0 k p0 p1 p2 = some q → post q ([] : va_W) →
      WW E p l e rm_X10_inRange s m args below meth c A 0 0 (QI E below post args s rm_X10_inRange A) ([] : va_W) 3 [some (.int p0), some (.int p1), some (.int p2)] 0 [] := by
  intro p0 p1 p2 q  h hq
  unfold M_X10_inRange_0 at h
  refine r_iload_n (pc := 0) C (i := 0) dX10_inRange_0 rfl rfl ?_
  refine r_iload_n (pc := 1) C (i := 1) dX10_inRange_1 rfl rfl ?_
  refine r_icmp_lt (pc := 2) C (tgt := 14) dX10_inRange_2 rfl (fun c1 => ?_) (fun c1 => ?_)
  · rw [if_pos c1] at h
    refine r_iconst (pc := 14) C (v := 0) dX10_inRange_14 (by decide) ?_
    cases h
    exact r_iretz (pc := 15) C (Or.inl rfl) hq (Nat.zero_le _) (Nat.zero_le _) dX10_inRange_15
  · rw [if_neg c1] at h
    refine r_iload_n (pc := 5) C (i := 0) dX10_inRange_5 rfl rfl ?_
    refine r_iload_n (pc := 6) C (i := 2) dX10_inRange_6 rfl rfl ?_
    refine r_icmp_gt (pc := 7) C (tgt := 14) dX10_inRange_7 rfl (fun c2 => ?_) (fun c2 => ?_)
    · rw [if_pos c2] at h
      refine r_iconst (pc := 14) C (v := 0) dX10_inRange_14 (by decide) ?_
      cases h
      exact r_iretz (pc := 15) C (Or.inl rfl) hq (Nat.zero_le _) (Nat.zero_le _) dX10_inRange_15
    · rw [if_neg c2] at h
      refine r_iconst (pc := 10) C (v := 1) dX10_inRange_10 (by decide) ?_
      refine r_goto (pc := 11) C (tgt := 15) dX10_inRange_11 rfl ?_
      cases h
      exact r_iretz (pc := 15) C (Or.inr rfl) hq (Nat.zero_le _) (Nat.zero_le _) dX10_inRange_15
def M_X10_inRange (k : Nat) (p0 : Int32) (p1 : Int32) (p2 : Int32) : Option (Int32) := M_X10_inRange_0 k p0 p1 p2
set_option maxRecDepth 100000 in
set_option maxHeartbeats 4000000 in
theorem c_X10_inRange (E : ENV) (l : Launch) (k : Nat) (p0 : Int32) (p1 : Int32) (p2 : Int32) {q : Int32} (hm : M_X10_inRange k p0 p1 p2 = some q) : CI E l yX10_inRange cX10_inRange 3 (some .boolean) rm_X10_inRange [.int p0, .int p1, .int p2] ([] : va_W) (fun r w' => r = q ∧ w' = ([] : va_W)) :=
  CI.of 0 (by decide) (Nat.le_of_ble_eq_true rfl) (fun p e s m below meth c A C _ => r_weak (lSub_s (lSub_s (lSub_s lSub_e))) (N_X10_inRange_0 C k p0 p1 p2 q  hm ⟨rfl, rfl⟩))
-- ShardGuardModel.clear([I)V
theorem dX10_clear_0 : decode cX10_clear 0 = .ok (.iconst 0, 1) := by decide +kernel
theorem dX10_clear_1 : decode cX10_clear 1 = .ok (.istore_n 1, 1) := by decide +kernel
theorem dX10_clear_2 : decode cX10_clear 2 = .ok (.iload_n 1, 1) := by decide +kernel
theorem dX10_clear_3 : decode cX10_clear 3 = .ok (.sipush 1692, 3) := by decide +kernel
theorem dX10_clear_6 : decode cX10_clear 6 = .ok (.if_icmp .ge 13, 3) := by decide +kernel
theorem dX10_clear_9 : decode cX10_clear 9 = .ok (.aload_n 0, 1) := by decide +kernel
theorem dX10_clear_10 : decode cX10_clear 10 = .ok (.iload_n 1, 1) := by decide +kernel
theorem dX10_clear_11 : decode cX10_clear 11 = .ok (.iconst 0, 1) := by decide +kernel
theorem dX10_clear_12 : decode cX10_clear 12 = .ok (.iastore, 1) := by decide +kernel
theorem dX10_clear_13 : decode cX10_clear 13 = .ok (.iinc 1 1, 3) := by decide +kernel
theorem dX10_clear_16 : decode cX10_clear 16 = .ok (.goto (-14), 3) := by decide +kernel
theorem dX10_clear_19 : decode cX10_clear 19 = .ok (.aload_n 0, 1) := by decide +kernel
theorem dX10_clear_20 : decode cX10_clear 20 = .ok (.iconst 5, 1) := by decide +kernel
theorem dX10_clear_21 : decode cX10_clear 21 = .ok (.iconst 5, 1) := by decide +kernel
theorem dX10_clear_22 : decode cX10_clear 22 = .ok (.iastore, 1) := by decide +kernel
theorem dX10_clear_23 : decode cX10_clear 23 = .ok (.aload_n 0, 1) := by decide +kernel
theorem dX10_clear_24 : decode cX10_clear 24 = .ok (.bipush 6, 2) := by decide +kernel
theorem dX10_clear_26 : decode cX10_clear 26 = .ok (.iconst 2, 1) := by decide +kernel
theorem dX10_clear_27 : decode cX10_clear 27 = .ok (.iastore, 1) := by decide +kernel
theorem dX10_clear_28 : decode cX10_clear 28 = .ok (.aload_n 0, 1) := by decide +kernel
theorem dX10_clear_29 : decode cX10_clear 29 = .ok (.bipush 7, 2) := by decide +kernel
theorem dX10_clear_31 : decode cX10_clear 31 = .ok (.iconst 3, 1) := by decide +kernel
theorem dX10_clear_32 : decode cX10_clear 32 = .ok (.iastore, 1) := by decide +kernel
theorem dX10_clear_33 : decode cX10_clear 33 = .ok (.aload_n 0, 1) := by decide +kernel
theorem dX10_clear_34 : decode cX10_clear 34 = .ok (.bipush 8, 2) := by decide +kernel
theorem dX10_clear_36 : decode cX10_clear 36 = .ok (.bipush 20, 2) := by decide +kernel
theorem dX10_clear_38 : decode cX10_clear 38 = .ok (.iastore, 1) := by decide +kernel
theorem dX10_clear_39 : decode cX10_clear 39 = .ok (.aload_n 0, 1) := by decide +kernel
theorem dX10_clear_40 : decode cX10_clear 40 = .ok (.bipush 9, 2) := by decide +kernel
theorem dX10_clear_42 : decode cX10_clear 42 = .ok (.bipush 50, 2) := by decide +kernel
theorem dX10_clear_44 : decode cX10_clear 44 = .ok (.iastore, 1) := by decide +kernel
theorem dX10_clear_45 : decode cX10_clear 45 = .ok (.return_, 1) := by decide +kernel
def rm_X10_clear : Room := { frames := 0, cells := 0, slots := 0, locals := 0 }
def M_X10_clear_2 (k : Nat) (nn : Nat) : Nat → (Int32) → (Nat → Int32) → Option ((Nat → Int32))
  | 0, _, _ => none
  | n + 1, x1, S => if (1692 : Int32) ≤ x1 then ((if inb (5 : Int32) nn = true then lt (upd S (5 : Int32).toNatClampNeg (5 : Int32)) fun F3 => (if inb (6 : Int32) nn = true then lt (upd F3 (6 : Int32).toNatClampNeg (2 : Int32)) fun F5 => (if inb (7 : Int32) nn = true then lt (upd F5 (7 : Int32).toNatClampNeg (3 : Int32)) fun F7 => (if inb (8 : Int32) nn = true then lt (upd F7 (8 : Int32).toNatClampNeg (20 : Int32)) fun F9 => (if inb (9 : Int32) nn = true then lt (upd F9 (9 : Int32).toNatClampNeg (50 : Int32)) fun F11 => some F11 else none) else none) else none) else none) else none)) else ((if inb x1 nn = true then lt (upd S x1.toNatClampNeg (0 : Int32)) fun F13 => M_X10_clear_2 k nn n (x1 + 1) F13 else none))
theorem M_X10_clear_2_s (k : Nat) (nn : Nat) (n : Nat) (x1 : Int32) (S : Nat → Int32) : M_X10_clear_2 k nn (n + 1) x1 S = (if (1692 : Int32) ≤ x1 then ((if inb (5 : Int32) nn = true then lt (upd S (5 : Int32).toNatClampNeg (5 : Int32)) fun F3 => (if inb (6 : Int32) nn = true then lt (upd F3 (6 : Int32).toNatClampNeg (2 : Int32)) fun F5 => (if inb (7 : Int32) nn = true then lt (upd F5 (7 : Int32).toNatClampNeg (3 : Int32)) fun F7 => (if inb (8 : Int32) nn = true then lt (upd F7 (8 : Int32).toNatClampNeg (20 : Int32)) fun F9 => (if inb (9 : Int32) nn = true then lt (upd F9 (9 : Int32).toNatClampNeg (50 : Int32)) fun F11 => some F11 else none) else none) else none) else none) else none)) else ((if inb x1 nn = true then lt (upd S x1.toNatClampNeg (0 : Int32)) fun F13 => M_X10_clear_2 k nn n (x1 + 1) F13 else none))) := rfl
set_option maxRecDepth 100000 in
set_option maxHeartbeats 4000000 in
theorem N_X10_clear_2 (C : CX E p l s m args meth c cX10_clear 2 RX10 none A) (a : Nat → Nat) (k : Nat) (nn : Nat) {post : va_W → Prop} :
    ∀ (n : Nat) (x1 : Int32) (S : Nat → Int32) (q : (Nat → Int32)), M_X10_clear_2 k nn n x1 S = some q → post (wAr E a nn q) →
      WW E p l e rm_X10_clear s m args below meth c A 0 0 (QV E below post args s rm_X10_clear A) (wAr E a nn S) 2 [some (.ref (a 0)), some (.int x1)] 2 [] := by
  intro n
  induction n with
  | zero => intro x1 S q  h _; cases h
  | succ n ih =>
    intro x1 S q  h hq
    rw [M_X10_clear_2_s] at h
    refine r_iload_n (pc := 2) C (i := 1) dX10_clear_2 rfl rfl ?_
    refine r_sipush (pc := 3) C (v := 1692) dX10_clear_3 (by decide) ?_
    refine r_icmp_ge (pc := 6) C (tgt := 19) dX10_clear_6 rfl (fun c1 => ?_) (fun c1 => ?_)
    · rw [if_pos c1] at h
      refine r_aload_n (pc := 19) C (i := 0) dX10_clear_19 rfl rfl ?_
      refine r_iconst (pc := 20) C (v := 5) dX10_clear_20 (by decide) ?_
      refine r_iconst (pc := 21) C (v := 5) dX10_clear_21 (by decide) ?_
      obtain ⟨hi2, h⟩ := ifn h
      obtain ⟨F3, hF3, h⟩ := lt_e h
      refine r_iast (pc := 22) C 0 rfl hi2 (w' := (wAr E a nn F3)) (by rw [hF3]; rfl) dX10_clear_22 ?_
      refine r_aload_n (pc := 23) C (i := 0) dX10_clear_23 rfl rfl ?_
      refine r_bipush (pc := 24) C (v := 6) dX10_clear_24 (by decide) ?_
      refine r_iconst (pc := 26) C (v := 2) dX10_clear_26 (by decide) ?_
      obtain ⟨hi4, h⟩ := ifn h
      obtain ⟨F5, hF5, h⟩ := lt_e h
      refine r_iast (pc := 27) C 0 rfl hi4 (w' := (wAr E a nn F5)) (by rw [hF5]; rfl) dX10_clear_27 ?_
      refine r_aload_n (pc := 28) C (i := 0) dX10_clear_28 rfl rfl ?_
      refine r_bipush (pc := 29) C (v := 7) dX10_clear_29 (by decide) ?_
      refine r_iconst (pc := 31) C (v := 3) dX10_clear_31 (by decide) ?_
      obtain ⟨hi6, h⟩ := ifn h
      obtain ⟨F7, hF7, h⟩ := lt_e h
      refine r_iast (pc := 32) C 0 rfl hi6 (w' := (wAr E a nn F7)) (by rw [hF7]; rfl) dX10_clear_32 ?_
      refine r_aload_n (pc := 33) C (i := 0) dX10_clear_33 rfl rfl ?_
      refine r_bipush (pc := 34) C (v := 8) dX10_clear_34 (by decide) ?_
      refine r_bipush (pc := 36) C (v := 20) dX10_clear_36 (by decide) ?_
      obtain ⟨hi8, h⟩ := ifn h
      obtain ⟨F9, hF9, h⟩ := lt_e h
      refine r_iast (pc := 38) C 0 rfl hi8 (w' := (wAr E a nn F9)) (by rw [hF9]; rfl) dX10_clear_38 ?_
      refine r_aload_n (pc := 39) C (i := 0) dX10_clear_39 rfl rfl ?_
      refine r_bipush (pc := 40) C (v := 9) dX10_clear_40 (by decide) ?_
      refine r_bipush (pc := 42) C (v := 50) dX10_clear_42 (by decide) ?_
      obtain ⟨hi10, h⟩ := ifn h
      obtain ⟨F11, hF11, h⟩ := lt_e h
      refine r_iast (pc := 44) C 0 rfl hi10 (w' := (wAr E a nn F11)) (by rw [hF11]; rfl) dX10_clear_44 ?_
      cases h
      exact r_vret (pc := 45) C hq (Nat.zero_le _) (Nat.zero_le _) dX10_clear_45
    · rw [if_neg c1] at h
      refine r_aload_n (pc := 9) C (i := 0) dX10_clear_9 rfl rfl ?_
      refine r_iload_n (pc := 10) C (i := 1) dX10_clear_10 rfl rfl ?_
      refine r_iconst (pc := 11) C (v := 0) dX10_clear_11 (by decide) ?_
      obtain ⟨hi12, h⟩ := ifn h
      obtain ⟨F13, hF13, h⟩ := lt_e h
      refine r_iast (pc := 12) C 0 rfl hi12 (w' := (wAr E a nn F13)) (by rw [hF13]; rfl) dX10_clear_12 ?_
      refine r_iinc (pc := 13) C (v := (x1 + 1)) dX10_clear_13 rfl rfl (by decide) rfl ?_
      refine r_goto (pc := 16) C (tgt := 2) dX10_clear_16 rfl ?_
      refine r_weak (lSub_s (lSub_s lSub_e)) ?_
      exact ih (x1 + 1) F13 q  h hq
def M_X10_clear_0 (k : Nat) (nn : Nat) (S : Nat → Int32) : Option ((Nat → Int32)) := M_X10_clear_2 k nn k (0 : Int32) S
set_option maxRecDepth 100000 in
set_option maxHeartbeats 4000000 in
theorem N_X10_clear_0 (C : CX E p l s m args meth c cX10_clear 2 RX10 none A) (a : Nat → Nat) (k : Nat) (nn : Nat) {post : va_W → Prop} :
    ∀ (S : Nat → Int32) (q : (Nat → Int32)), M_X10_clear_0 k nn S = some q → post (wAr E a nn q) →
      WW E p l e rm_X10_clear s m args below meth c A 0 0 (QV E below post args s rm_X10_clear A) (wAr E a nn S) 2 [some (.ref (a 0)), none] 0 [] := by
  intro S q  h hq
  unfold M_X10_clear_0 at h
  refine r_iconst (pc := 0) C (v := 0) dX10_clear_0 (by decide) ?_
  refine r_istore_n (pc := 1) C (i := 1) dX10_clear_1 rfl (by decide) rfl ?_
  refine r_weak (lSub_s (lSub_s lSub_e)) ?_
  exact N_X10_clear_2 C a k nn k (0 : Int32) S q  h hq
def M_X10_clear (k : Nat) (nn : Nat) (S : Nat → Int32) : Option ((Nat → Int32)) := M_X10_clear_0 k nn S
set_option maxRecDepth 100000 in
set_option maxHeartbeats 4000000 in
theorem c_X10_clear (E : ENV) (l : Launch) (k : Nat) (a : Nat → Nat) (nn : Nat) (S : Nat → Int32) {q : (Nat → Int32)} (hm : M_X10_clear k nn S = some q) : CV E l yX10_clear cX10_clear 2 none rm_X10_clear [.ref (a 0)] (wAr E a nn S) (fun w' => w' = (wAr E a nn q)) :=
  CV.of 1 (by decide) (Nat.le_of_ble_eq_true rfl) (fun p e s m below meth c A C _ => r_weak (lSub_s (lSub_n lSub_e)) (N_X10_clear_0 C a k nn S q  hm rfl))
-- ShardGuardModel.workerAt(II)I
theorem dX10_workerAt_0 : decode cX10_workerAt 0 = .ok (.bipush 12, 2) := by decide +kernel
theorem dX10_workerAt_2 : decode cX10_workerAt 2 = .ok (.iconst 2, 1) := by decide +kernel
theorem dX10_workerAt_3 : decode cX10_workerAt 3 = .ok (.iload_n 0, 1) := by decide +kernel
theorem dX10_workerAt_4 : decode cX10_workerAt 4 = .ok (.imul, 1) := by decide +kernel
theorem dX10_workerAt_5 : decode cX10_workerAt 5 = .ok (.iadd, 1) := by decide +kernel
theorem dX10_workerAt_6 : decode cX10_workerAt 6 = .ok (.iload_n 1, 1) := by decide +kernel
theorem dX10_workerAt_7 : decode cX10_workerAt 7 = .ok (.iadd, 1) := by decide +kernel
theorem dX10_workerAt_8 : decode cX10_workerAt 8 = .ok (.ireturn, 1) := by decide +kernel
def rm_X10_workerAt : Room := { frames := 0, cells := 0, slots := 0, locals := 0 }
def M_X10_workerAt_0 (k : Nat) (p0 : Int32) (p1 : Int32) : Option (Int32) := some (((12 : Int32) + ((2 : Int32) * p0)) + p1)
set_option maxRecDepth 100000 in
set_option maxHeartbeats 4000000 in
theorem N_X10_workerAt_0 (C : CX E p l s m args meth c cX10_workerAt 2 RX10 (some .int) A) (k : Nat) {post : Int32 → va_W → Prop} :
    ∀ (p0 : Int32) (p1 : Int32) (q : Int32), M_X10_workerAt_0 k p0 p1 = some q → post q ([] : va_W) →
      WW E p l e rm_X10_workerAt s m args below meth c A 0 0 (QI E below post args s rm_X10_workerAt A) ([] : va_W) 2 [some (.int p0), some (.int p1)] 0 [] := by
  intro p0 p1 q  h hq
  unfold M_X10_workerAt_0 at h
  refine r_bipush (pc := 0) C (v := 12) dX10_workerAt_0 (by decide) ?_
  refine r_iconst (pc := 2) C (v := 2) dX10_workerAt_2 (by decide) ?_
  refine r_iload_n (pc := 3) C (i := 0) dX10_workerAt_3 rfl rfl ?_
  refine r_imul (pc := 4) C dX10_workerAt_4 ?_
  refine r_iadd (pc := 5) C dX10_workerAt_5 ?_
  refine r_iload_n (pc := 6) C (i := 1) dX10_workerAt_6 rfl rfl ?_
  refine r_iadd (pc := 7) C dX10_workerAt_7 ?_
  cases h
  exact r_ireti (pc := 8) C hq (Nat.zero_le _) (Nat.zero_le _) dX10_workerAt_8
def M_X10_workerAt (k : Nat) (p0 : Int32) (p1 : Int32) : Option (Int32) := M_X10_workerAt_0 k p0 p1
set_option maxRecDepth 100000 in
set_option maxHeartbeats 4000000 in
theorem c_X10_workerAt (E : ENV) (l : Launch) (k : Nat) (p0 : Int32) (p1 : Int32) {q : Int32} (hm : M_X10_workerAt k p0 p1 = some q) : CI E l yX10_workerAt cX10_workerAt 2 (some .int) rm_X10_workerAt [.int p0, .int p1] ([] : va_W) (fun r w' => r = q ∧ w' = ([] : va_W)) :=
  CI.of 0 (by decide) (Nat.le_of_ble_eq_true rfl) (fun p e s m below meth c A C _ => r_weak (lSub_s (lSub_s lSub_e)) (N_X10_workerAt_0 C k p0 p1 q  hm ⟨rfl, rfl⟩))
-- ShardGuardModel.tenantAt(II)I
theorem dX10_tenantAt_0 : decode cX10_tenantAt 0 = .ok (.bipush 36, 2) := by decide +kernel
theorem dX10_tenantAt_2 : decode cX10_tenantAt 2 = .ok (.iconst 3, 1) := by decide +kernel
theorem dX10_tenantAt_3 : decode cX10_tenantAt 3 = .ok (.iload_n 0, 1) := by decide +kernel
theorem dX10_tenantAt_4 : decode cX10_tenantAt 4 = .ok (.imul, 1) := by decide +kernel
theorem dX10_tenantAt_5 : decode cX10_tenantAt 5 = .ok (.iadd, 1) := by decide +kernel
theorem dX10_tenantAt_6 : decode cX10_tenantAt 6 = .ok (.iload_n 1, 1) := by decide +kernel
theorem dX10_tenantAt_7 : decode cX10_tenantAt 7 = .ok (.iadd, 1) := by decide +kernel
theorem dX10_tenantAt_8 : decode cX10_tenantAt 8 = .ok (.ireturn, 1) := by decide +kernel
def rm_X10_tenantAt : Room := { frames := 0, cells := 0, slots := 0, locals := 0 }
def M_X10_tenantAt_0 (k : Nat) (p0 : Int32) (p1 : Int32) : Option (Int32) := some (((36 : Int32) + ((3 : Int32) * p0)) + p1)
set_option maxRecDepth 100000 in
set_option maxHeartbeats 4000000 in
theorem N_X10_tenantAt_0 (C : CX E p l s m args meth c cX10_tenantAt 2 RX10 (some .int) A) (k : Nat) {post : Int32 → va_W → Prop} :
    ∀ (p0 : Int32) (p1 : Int32) (q : Int32), M_X10_tenantAt_0 k p0 p1 = some q → post q ([] : va_W) →
      WW E p l e rm_X10_tenantAt s m args below meth c A 0 0 (QI E below post args s rm_X10_tenantAt A) ([] : va_W) 2 [some (.int p0), some (.int p1)] 0 [] := by
  intro p0 p1 q  h hq
  unfold M_X10_tenantAt_0 at h
  refine r_bipush (pc := 0) C (v := 36) dX10_tenantAt_0 (by decide) ?_
  refine r_iconst (pc := 2) C (v := 3) dX10_tenantAt_2 (by decide) ?_
  refine r_iload_n (pc := 3) C (i := 0) dX10_tenantAt_3 rfl rfl ?_
  refine r_imul (pc := 4) C dX10_tenantAt_4 ?_
  refine r_iadd (pc := 5) C dX10_tenantAt_5 ?_
  refine r_iload_n (pc := 6) C (i := 1) dX10_tenantAt_6 rfl rfl ?_
  refine r_iadd (pc := 7) C dX10_tenantAt_7 ?_
  cases h
  exact r_ireti (pc := 8) C hq (Nat.zero_le _) (Nat.zero_le _) dX10_tenantAt_8
def M_X10_tenantAt (k : Nat) (p0 : Int32) (p1 : Int32) : Option (Int32) := M_X10_tenantAt_0 k p0 p1
set_option maxRecDepth 100000 in
set_option maxHeartbeats 4000000 in
theorem c_X10_tenantAt (E : ENV) (l : Launch) (k : Nat) (p0 : Int32) (p1 : Int32) {q : Int32} (hm : M_X10_tenantAt k p0 p1 = some q) : CI E l yX10_tenantAt cX10_tenantAt 2 (some .int) rm_X10_tenantAt [.int p0, .int p1] ([] : va_W) (fun r w' => r = q ∧ w' = ([] : va_W)) :=
  CI.of 0 (by decide) (Nat.le_of_ble_eq_true rfl) (fun p e s m below meth c A C _ => r_weak (lSub_s (lSub_s lSub_e)) (N_X10_tenantAt_0 C k p0 p1 q  hm ⟨rfl, rfl⟩))
-- ShardGuardModel.requestAt(II)I
theorem dX10_requestAt_0 : decode cX10_requestAt 0 = .ok (.bipush 72, 2) := by decide +kernel
theorem dX10_requestAt_2 : decode cX10_requestAt 2 = .ok (.bipush 9, 2) := by decide +kernel
theorem dX10_requestAt_4 : decode cX10_requestAt 4 = .ok (.iload_n 0, 1) := by decide +kernel
theorem dX10_requestAt_5 : decode cX10_requestAt 5 = .ok (.imul, 1) := by decide +kernel
theorem dX10_requestAt_6 : decode cX10_requestAt 6 = .ok (.iadd, 1) := by decide +kernel
theorem dX10_requestAt_7 : decode cX10_requestAt 7 = .ok (.iload_n 1, 1) := by decide +kernel
theorem dX10_requestAt_8 : decode cX10_requestAt 8 = .ok (.iadd, 1) := by decide +kernel
theorem dX10_requestAt_9 : decode cX10_requestAt 9 = .ok (.ireturn, 1) := by decide +kernel
def rm_X10_requestAt : Room := { frames := 0, cells := 0, slots := 0, locals := 0 }
def M_X10_requestAt_0 (k : Nat) (p0 : Int32) (p1 : Int32) : Option (Int32) := some (((72 : Int32) + ((9 : Int32) * p0)) + p1)
set_option maxRecDepth 100000 in
set_option maxHeartbeats 4000000 in
theorem N_X10_requestAt_0 (C : CX E p l s m args meth c cX10_requestAt 2 RX10 (some .int) A) (k : Nat) {post : Int32 → va_W → Prop} :
    ∀ (p0 : Int32) (p1 : Int32) (q : Int32), M_X10_requestAt_0 k p0 p1 = some q → post q ([] : va_W) →
      WW E p l e rm_X10_requestAt s m args below meth c A 0 0 (QI E below post args s rm_X10_requestAt A) ([] : va_W) 2 [some (.int p0), some (.int p1)] 0 [] := by
  intro p0 p1 q  h hq
  unfold M_X10_requestAt_0 at h
  refine r_bipush (pc := 0) C (v := 72) dX10_requestAt_0 (by decide) ?_
  refine r_bipush (pc := 2) C (v := 9) dX10_requestAt_2 (by decide) ?_
  refine r_iload_n (pc := 4) C (i := 0) dX10_requestAt_4 rfl rfl ?_
  refine r_imul (pc := 5) C dX10_requestAt_5 ?_
  refine r_iadd (pc := 6) C dX10_requestAt_6 ?_
  refine r_iload_n (pc := 7) C (i := 1) dX10_requestAt_7 rfl rfl ?_
  refine r_iadd (pc := 8) C dX10_requestAt_8 ?_
  cases h
  exact r_ireti (pc := 9) C hq (Nat.zero_le _) (Nat.zero_le _) dX10_requestAt_9
def M_X10_requestAt (k : Nat) (p0 : Int32) (p1 : Int32) : Option (Int32) := M_X10_requestAt_0 k p0 p1
set_option maxRecDepth 100000 in
set_option maxHeartbeats 4000000 in
theorem c_X10_requestAt (E : ENV) (l : Launch) (k : Nat) (p0 : Int32) (p1 : Int32) {q : Int32} (hm : M_X10_requestAt k p0 p1 = some q) : CI E l yX10_requestAt cX10_requestAt 2 (some .int) rm_X10_requestAt [.int p0, .int p1] ([] : va_W) (fun r w' => r = q ∧ w' = ([] : va_W)) :=
  CI.of 0 (by decide) (Nat.le_of_ble_eq_true rfl) (fun p e s m below meth c A C _ => r_weak (lSub_s (lSub_s lSub_e)) (N_X10_requestAt_0 C k p0 p1 q  hm ⟨rfl, rfl⟩))
theorem hd_X10_workerAt : yX10_workerAt.cls = RX10 ∧ yX10_workerAt.cls ≠ "java/lang/invoke/MethodHandle" ∧ yX10_workerAt.cls ≠ "java/lang/invoke/VarHandle" ∧ (parseMethodDescriptor yX10_workerAt.desc).map (fun d => d.parameters.length) = some 2 := by decide +kernel
theorem g_X10_96 : GoodIn GW (va_wsS RX10 96 yX10_workerAt (wsG yX10_workerAt cX10_workerAt 2 (some .int))) := gw_S wm_5_200 wm_5_201 wm_1_9 wm_5_202
-- ShardGuardModel.layWorkers([III)V
theorem dX10_layWorkers_0 : decode cX10_layWorkers 0 = .ok (.aload_n 0, 1) := by decide +kernel
theorem dX10_layWorkers_1 : decode cX10_layWorkers 1 = .ok (.iconst 0, 1) := by decide +kernel
theorem dX10_layWorkers_2 : decode cX10_layWorkers 2 = .ok (.iload_n 1, 1) := by decide +kernel
theorem dX10_layWorkers_3 : decode cX10_layWorkers 3 = .ok (.iastore, 1) := by decide +kernel
theorem dX10_layWorkers_4 : decode cX10_layWorkers 4 = .ok (.aload_n 0, 1) := by decide +kernel
theorem dX10_layWorkers_5 : decode cX10_layWorkers 5 = .ok (.iconst 1, 1) := by decide +kernel
theorem dX10_layWorkers_6 : decode cX10_layWorkers 6 = .ok (.iload_n 2, 1) := by decide +kernel
theorem dX10_layWorkers_7 : decode cX10_layWorkers 7 = .ok (.iastore, 1) := by decide +kernel
theorem dX10_layWorkers_8 : decode cX10_layWorkers 8 = .ok (.iconst 0, 1) := by decide +kernel
theorem dX10_layWorkers_9 : decode cX10_layWorkers 9 = .ok (.istore_n 3, 1) := by decide +kernel
theorem dX10_layWorkers_10 : decode cX10_layWorkers 10 = .ok (.iload_n 3, 1) := by decide +kernel
theorem dX10_layWorkers_11 : decode cX10_layWorkers 11 = .ok (.iload_n 1, 1) := by decide +kernel
theorem dX10_layWorkers_12 : decode cX10_layWorkers 12 = .ok (.if_icmp .ge 25, 3) := by decide +kernel
theorem dX10_layWorkers_15 : decode cX10_layWorkers 15 = .ok (.aload_n 0, 1) := by decide +kernel
theorem dX10_layWorkers_16 : decode cX10_layWorkers 16 = .ok (.iload_n 3, 1) := by decide +kernel
theorem dX10_layWorkers_17 : decode cX10_layWorkers 17 = .ok (.iconst 0, 1) := by decide +kernel
theorem dX10_layWorkers_18 : decode cX10_layWorkers 18 = .ok (.invokestatic 96, 3) := by decide +kernel
theorem dX10_layWorkers_21 : decode cX10_layWorkers 21 = .ok (.iconst 1, 1) := by decide +kernel
theorem dX10_layWorkers_22 : decode cX10_layWorkers 22 = .ok (.iastore, 1) := by decide +kernel
theorem dX10_layWorkers_23 : decode cX10_layWorkers 23 = .ok (.aload_n 0, 1) := by decide +kernel
theorem dX10_layWorkers_24 : decode cX10_layWorkers 24 = .ok (.iload_n 3, 1) := by decide +kernel
theorem dX10_layWorkers_25 : decode cX10_layWorkers 25 = .ok (.iconst 1, 1) := by decide +kernel
theorem dX10_layWorkers_26 : decode cX10_layWorkers 26 = .ok (.invokestatic 96, 3) := by decide +kernel
theorem dX10_layWorkers_29 : decode cX10_layWorkers 29 = .ok (.iconst (-1), 1) := by decide +kernel
theorem dX10_layWorkers_30 : decode cX10_layWorkers 30 = .ok (.iastore, 1) := by decide +kernel
theorem dX10_layWorkers_31 : decode cX10_layWorkers 31 = .ok (.iinc 3 1, 3) := by decide +kernel
theorem dX10_layWorkers_34 : decode cX10_layWorkers 34 = .ok (.goto (-24), 3) := by decide +kernel
theorem dX10_layWorkers_37 : decode cX10_layWorkers 37 = .ok (.return_, 1) := by decide +kernel
def rm_X10_layWorkers : Room := { frames := 1, cells := 0, slots := 0, locals := 21 }
def M_X10_layWorkers_10 (k : Nat) (nn : Nat) : Nat → (Int32) → (Int32) → (Nat → Int32) → Option ((Nat → Int32))
  | 0, _, _, _ => none
  | n + 1, x1, x3, S => if x1 ≤ x3 then (some S) else ((M_X10_workerAt k x3 (0 : Int32)).bind fun q2 => (if inb q2 nn = true then lt (upd S q2.toNatClampNeg (1 : Int32)) fun F4 => (M_X10_workerAt k x3 (1 : Int32)).bind fun q5 => (if inb q5 nn = true then lt (upd F4 q5.toNatClampNeg (-1 : Int32)) fun F7 => M_X10_layWorkers_10 k nn n x1 (x3 + 1) F7 else none) else none))
theorem M_X10_layWorkers_10_s (k : Nat) (nn : Nat) (n : Nat) (x1 : Int32) (x3 : Int32) (S : Nat → Int32) : M_X10_layWorkers_10 k nn (n + 1) x1 x3 S = (if x1 ≤ x3 then (some S) else ((M_X10_workerAt k x3 (0 : Int32)).bind fun q2 => (if inb q2 nn = true then lt (upd S q2.toNatClampNeg (1 : Int32)) fun F4 => (M_X10_workerAt k x3 (1 : Int32)).bind fun q5 => (if inb q5 nn = true then lt (upd F4 q5.toNatClampNeg (-1 : Int32)) fun F7 => M_X10_layWorkers_10 k nn n x1 (x3 + 1) F7 else none) else none))) := rfl
set_option maxRecDepth 100000 in
set_option maxHeartbeats 4000000 in
theorem N_X10_layWorkers_10 (C : CX E p l s m args meth c cX10_layWorkers 4 RX10 none A) (a : Nat → Nat) (k : Nat) (nn : Nat) {post : va_W → Prop} :
    ∀ (n : Nat) (x1 : Int32) (x3 : Int32) (S : Nat → Int32) (q : (Nat → Int32)), M_X10_layWorkers_10 k nn n x1 x3 S = some q → post (wAr E a nn q) →
      WW E p l e rm_X10_layWorkers s m args below meth c A 0 0 (QV E below post args s rm_X10_layWorkers A) (wAr E a nn S) 4 [some (.ref (a 0)), some (.int x1), none, some (.int x3)] 10 [] := by
  intro n
  induction n with
  | zero => intro x1 x3 S q  h _; cases h
  | succ n ih =>
    intro x1 x3 S q  h hq
    rw [M_X10_layWorkers_10_s] at h
    refine r_iload_n (pc := 10) C (i := 3) dX10_layWorkers_10 rfl rfl ?_
    refine r_iload_n (pc := 11) C (i := 1) dX10_layWorkers_11 rfl rfl ?_
    refine r_icmp_ge (pc := 12) C (tgt := 37) dX10_layWorkers_12 rfl (fun c1 => ?_) (fun c1 => ?_)
    · rw [if_pos c1] at h
      cases h
      exact r_vret (pc := 37) C hq (Nat.zero_le _) (Nat.zero_le _) dX10_layWorkers_37
    · rw [if_neg c1] at h
      refine r_aload_n (pc := 15) C (i := 0) dX10_layWorkers_15 rfl rfl ?_
      refine r_iload_n (pc := 16) C (i := 3) dX10_layWorkers_16 rfl rfl ?_
      refine r_iconst (pc := 17) C (v := 0) dX10_layWorkers_17 (by decide) ?_
      obtain ⟨q2, hq2, h⟩ := bnd h
      refine r_callSp_CI (pc := 18) C [.int x3, .int (0 : Int32)] (c_X10_workerAt E l k x3 (0 : Int32) hq2) [] rfl (by decide) g_X10_96 hd_X10_workerAt.2 ⟨Nat.le_of_ble_eq_true rfl, Nat.le_of_ble_eq_true rfl⟩ ⟨Nat.zero_le _, Nat.zero_le _⟩ (Nat.le_of_ble_eq_true rfl) rfl dX10_layWorkers_18 (fun r hr => ?_)
      have hr := hr.symm
      subst hr
      refine r_iconst (pc := 21) C (v := 1) dX10_layWorkers_21 (by decide) ?_
      obtain ⟨hi3, h⟩ := ifn h
      obtain ⟨F4, hF4, h⟩ := lt_e h
      refine r_iast (pc := 22) C 0 rfl hi3 (w' := (wAr E a nn F4)) (by rw [hF4]; rfl) dX10_layWorkers_22 ?_
      refine r_aload_n (pc := 23) C (i := 0) dX10_layWorkers_23 rfl rfl ?_
      refine r_iload_n (pc := 24) C (i := 3) dX10_layWorkers_24 rfl rfl ?_
      refine r_iconst (pc := 25) C (v := 1) dX10_layWorkers_25 (by decide) ?_
      obtain ⟨q5, hq5, h⟩ := bnd h
      refine r_callSp_CI (pc := 26) C [.int x3, .int (1 : Int32)] (c_X10_workerAt E l k x3 (1 : Int32) hq5) [] rfl (by decide) g_X10_96 hd_X10_workerAt.2 ⟨Nat.le_of_ble_eq_true rfl, Nat.le_of_ble_eq_true rfl⟩ ⟨Nat.zero_le _, Nat.zero_le _⟩ (Nat.le_of_ble_eq_true rfl) rfl dX10_layWorkers_26 (fun r hr => ?_)
      have hr := hr.symm
      subst hr
      refine r_iconst (pc := 29) C (v := (-1)) dX10_layWorkers_29 (by decide) ?_
      obtain ⟨hi6, h⟩ := ifn h
      obtain ⟨F7, hF7, h⟩ := lt_e h
      refine r_iast (pc := 30) C 0 rfl hi6 (w' := (wAr E a nn F7)) (by rw [hF7]; rfl) dX10_layWorkers_30 ?_
      refine r_iinc (pc := 31) C (v := (x3 + 1)) dX10_layWorkers_31 rfl rfl (by decide) rfl ?_
      refine r_goto (pc := 34) C (tgt := 10) dX10_layWorkers_34 rfl ?_
      refine r_weak (lSub_s (lSub_s (lSub_n (lSub_s lSub_e)))) ?_
      exact ih x1 (x3 + 1) F7 q  h hq
def M_X10_layWorkers_0 (k : Nat) (nn : Nat) (p0 : Int32) (p1 : Int32) (S : Nat → Int32) : Option ((Nat → Int32)) := (if inb (0 : Int32) nn = true then lt (upd S (0 : Int32).toNatClampNeg p0) fun F9 => (if inb (1 : Int32) nn = true then lt (upd F9 (1 : Int32).toNatClampNeg p1) fun F11 => M_X10_layWorkers_10 k nn k p0 (0 : Int32) F11 else none) else none)
set_option maxRecDepth 100000 in
set_option maxHeartbeats 4000000 in
theorem N_X10_layWorkers_0 (C : CX E p l s m args meth c cX10_layWorkers 4 RX10 none A) (a : Nat → Nat) (k : Nat) (nn : Nat) {post : va_W → Prop} :
    ∀ (p0 : Int32) (p1 : Int32) (S : Nat → Int32) (q : (Nat → Int32)), M_X10_layWorkers_0 k nn p0 p1 S = some q → post (wAr E a nn q) →
      WW E p l e rm_X10_layWorkers s m args below meth c A 0 0 (QV E below post args s rm_X10_layWorkers A) (wAr E a nn S) 4 [some (.ref (a 0)), some (.int p0), some (.int p1), none] 0 [] := by
  intro p0 p1 S q  h hq
  unfold M_X10_layWorkers_0 at h
  refine r_aload_n (pc := 0) C (i := 0) dX10_layWorkers_0 rfl rfl ?_
  refine r_iconst (pc := 1) C (v := 0) dX10_layWorkers_1 (by decide) ?_
  refine r_iload_n (pc := 2) C (i := 1) dX10_layWorkers_2 rfl rfl ?_
  obtain ⟨hi8, h⟩ := ifn h
  obtain ⟨F9, hF9, h⟩ := lt_e h
  refine r_iast (pc := 3) C 0 rfl hi8 (w' := (wAr E a nn F9)) (by rw [hF9]; rfl) dX10_layWorkers_3 ?_
  refine r_aload_n (pc := 4) C (i := 0) dX10_layWorkers_4 rfl rfl ?_
  refine r_iconst (pc := 5) C (v := 1) dX10_layWorkers_5 (by decide) ?_
  refine r_iload_n (pc := 6) C (i := 2) dX10_layWorkers_6 rfl rfl ?_
  obtain ⟨hi10, h⟩ := ifn h
  obtain ⟨F11, hF11, h⟩ := lt_e h
  refine r_iast (pc := 7) C 0 rfl hi10 (w' := (wAr E a nn F11)) (by rw [hF11]; rfl) dX10_layWorkers_7 ?_
  refine r_iconst (pc := 8) C (v := 0) dX10_layWorkers_8 (by decide) ?_
  refine r_istore_n (pc := 9) C (i := 3) dX10_layWorkers_9 rfl (by decide) rfl ?_
  refine r_weak (lSub_s (lSub_s (lSub_n (lSub_s lSub_e)))) ?_
  exact N_X10_layWorkers_10 C a k nn k p0 (0 : Int32) F11 q  h hq
def M_X10_layWorkers (k : Nat) (nn : Nat) (S : Nat → Int32) (p0 : Int32) (p1 : Int32) : Option ((Nat → Int32)) := M_X10_layWorkers_0 k nn p0 p1 S
set_option maxRecDepth 100000 in
set_option maxHeartbeats 4000000 in
theorem c_X10_layWorkers (E : ENV) (l : Launch) (k : Nat) (a : Nat → Nat) (nn : Nat) (S : Nat → Int32) (p0 : Int32) (p1 : Int32) {q : (Nat → Int32)} (hm : M_X10_layWorkers k nn S p0 p1 = some q) : CV E l yX10_layWorkers cX10_layWorkers 4 none rm_X10_layWorkers [.ref (a 0), .int p0, .int p1] (wAr E a nn S) (fun w' => w' = (wAr E a nn q)) :=
  CV.of 1 (by decide) (Nat.le_of_ble_eq_true rfl) (fun p e s m below meth c A C _ => r_weak (lSub_s (lSub_s (lSub_s (lSub_n lSub_e)))) (N_X10_layWorkers_0 C a k nn p0 p1 S q  hm rfl))
-- ShardGuardModel.workers()I
theorem dX10_workers_0 : decode cX10_workers 0 = .ok (.aload_n 0, 1) := by decide +kernel
theorem dX10_workers_1 : decode cX10_workers 1 = .ok (.getfield 25, 3) := by decide +kernel
theorem dX10_workers_4 : decode cX10_workers 4 = .ok (.iconst 0, 1) := by decide +kernel
theorem dX10_workers_5 : decode cX10_workers 5 = .ok (.iaload, 1) := by decide +kernel
theorem dX10_workers_6 : decode cX10_workers 6 = .ok (.ireturn, 1) := by decide +kernel
def rm_X10_workers : Room := { frames := 0, cells := 0, slots := 0, locals := 0 }
def M_X10_workers_0 (k : Nat) (S : Nat → Nat → Int32) : Option (Int32) := lt (gsel S) fun g1 => (if gokN g1 = true then (if inb (0 : Int32) 1692 = true then some (S g1 (0 : Int32).toNatClampNeg) else none) else none)
set_option maxRecDepth 100000 in
set_option maxHeartbeats 4000000 in
theorem N_X10_workers_0 (C : CX E p l s m args meth c cX10_workers 1 RX10 (some .int) A) (a : Nat → Nat) (k : Nat) (S : Nat → Nat → Int32) {post : Int32 → va_W → Prop} :
    ∀ (q : Int32), M_X10_workers_0 k S = some q → post q (wMd E a S) →
      WW E p l e rm_X10_workers s m args below meth c A 0 0 (QI E below post args s rm_X10_workers A) (wMd E a S) 1 [some (.ref (a 0))] 0 [] := by
  intro  q  h hq
  unfold M_X10_workers_0 at h
  refine r_aload_n (pc := 0) C (i := 0) dX10_workers_0 rfl rfl ?_
  obtain ⟨g1, hg1, h⟩ := lt_e h
  obtain ⟨kg1, h⟩ := ifn h
  refine r_get (pc := 1) C gwX10 0 rfl rfl 8 (by decide) wm_5_211 rfl dX10_workers_1 ?_
  refine r_topg (a := a) hg1 ?_
  refine r_iconst (pc := 4) C (v := 0) dX10_workers_4 (by decide) ?_
  obtain ⟨hi2, h⟩ := ifn h
  refine r_iald (pc := 5) C g1 (wMd_at kg1) hi2 dX10_workers_5 ?_
  cases h
  exact r_ireti (pc := 6) C hq (Nat.zero_le _) (Nat.zero_le _) dX10_workers_6
def M_X10_workers (k : Nat) (S : Nat → Nat → Int32) : Option (Int32) := M_X10_workers_0 k S
set_option maxRecDepth 100000 in
set_option maxHeartbeats 4000000 in
theorem c_X10_workers (E : ENV) (l : Launch) (k : Nat) (a : Nat → Nat) (S : Nat → Nat → Int32) {q : Int32} (hm : M_X10_workers k S = some q) : CI E l yX10_workers cX10_workers 1 (some .int) rm_X10_workers [.ref (a 0)] (wMd E a S) (fun r w' => r = q ∧ w' = (wMd E a S)) :=
  CI.of 0 (by decide) (Nat.le_of_ble_eq_true rfl) (fun p e s m below meth c A C _ => r_weak (lSub_s lSub_e) (N_X10_workers_0 C a k S q  hm ⟨rfl, rfl⟩))
-- ShardGuardModel.tenants()I
theorem dX10_tenants_0 : decode cX10_tenants 0 = .ok (.aload_n 0, 1) := by decide +kernel
theorem dX10_tenants_1 : decode cX10_tenants 1 = .ok (.getfield 25, 3) := by decide +kernel
theorem dX10_tenants_4 : decode cX10_tenants 4 = .ok (.iconst 2, 1) := by decide +kernel
theorem dX10_tenants_5 : decode cX10_tenants 5 = .ok (.iaload, 1) := by decide +kernel
theorem dX10_tenants_6 : decode cX10_tenants 6 = .ok (.ireturn, 1) := by decide +kernel
def rm_X10_tenants : Room := { frames := 0, cells := 0, slots := 0, locals := 0 }
def M_X10_tenants_0 (k : Nat) (S : Nat → Nat → Int32) : Option (Int32) := lt (gsel S) fun g1 => (if gokN g1 = true then (if inb (2 : Int32) 1692 = true then some (S g1 (2 : Int32).toNatClampNeg) else none) else none)
set_option maxRecDepth 100000 in
set_option maxHeartbeats 4000000 in
theorem N_X10_tenants_0 (C : CX E p l s m args meth c cX10_tenants 1 RX10 (some .int) A) (a : Nat → Nat) (k : Nat) (S : Nat → Nat → Int32) {post : Int32 → va_W → Prop} :
    ∀ (q : Int32), M_X10_tenants_0 k S = some q → post q (wMd E a S) →
      WW E p l e rm_X10_tenants s m args below meth c A 0 0 (QI E below post args s rm_X10_tenants A) (wMd E a S) 1 [some (.ref (a 0))] 0 [] := by
  intro  q  h hq
  unfold M_X10_tenants_0 at h
  refine r_aload_n (pc := 0) C (i := 0) dX10_tenants_0 rfl rfl ?_
  obtain ⟨g1, hg1, h⟩ := lt_e h
  obtain ⟨kg1, h⟩ := ifn h
  refine r_get (pc := 1) C gwX10 0 rfl rfl 8 (by decide) wm_5_211 rfl dX10_tenants_1 ?_
  refine r_topg (a := a) hg1 ?_
  refine r_iconst (pc := 4) C (v := 2) dX10_tenants_4 (by decide) ?_
  obtain ⟨hi2, h⟩ := ifn h
  refine r_iald (pc := 5) C g1 (wMd_at kg1) hi2 dX10_tenants_5 ?_
  cases h
  exact r_ireti (pc := 6) C hq (Nat.zero_le _) (Nat.zero_le _) dX10_tenants_6
def M_X10_tenants (k : Nat) (S : Nat → Nat → Int32) : Option (Int32) := M_X10_tenants_0 k S
set_option maxRecDepth 100000 in
set_option maxHeartbeats 4000000 in
theorem c_X10_tenants (E : ENV) (l : Launch) (k : Nat) (a : Nat → Nat) (S : Nat → Nat → Int32) {q : Int32} (hm : M_X10_tenants k S = some q) : CI E l yX10_tenants cX10_tenants 1 (some .int) rm_X10_tenants [.ref (a 0)] (wMd E a S) (fun r w' => r = q ∧ w' = (wMd E a S)) :=
  CI.of 0 (by decide) (Nat.le_of_ble_eq_true rfl) (fun p e s m below meth c A C _ => r_weak (lSub_s lSub_e) (N_X10_tenants_0 C a k S q  hm ⟨rfl, rfl⟩))
-- ShardGuardModel.requests()I
theorem dX10_requests_0 : decode cX10_requests 0 = .ok (.aload_n 0, 1) := by decide +kernel
theorem dX10_requests_1 : decode cX10_requests 1 = .ok (.getfield 25, 3) := by decide +kernel
theorem dX10_requests_4 : decode cX10_requests 4 = .ok (.iconst 3, 1) := by decide +kernel
theorem dX10_requests_5 : decode cX10_requests 5 = .ok (.iaload, 1) := by decide +kernel
theorem dX10_requests_6 : decode cX10_requests 6 = .ok (.ireturn, 1) := by decide +kernel
def rm_X10_requests : Room := { frames := 0, cells := 0, slots := 0, locals := 0 }
def M_X10_requests_0 (k : Nat) (S : Nat → Nat → Int32) : Option (Int32) := lt (gsel S) fun g1 => (if gokN g1 = true then (if inb (3 : Int32) 1692 = true then some (S g1 (3 : Int32).toNatClampNeg) else none) else none)
set_option maxRecDepth 100000 in
set_option maxHeartbeats 4000000 in
theorem N_X10_requests_0 (C : CX E p l s m args meth c cX10_requests 1 RX10 (some .int) A) (a : Nat → Nat) (k : Nat) (S : Nat → Nat → Int32) {post : Int32 → va_W → Prop} :
    ∀ (q : Int32), M_X10_requests_0 k S = some q → post q (wMd E a S) →
      WW E p l e rm_X10_requests s m args below meth c A 0 0 (QI E below post args s rm_X10_requests A) (wMd E a S) 1 [some (.ref (a 0))] 0 [] := by
  intro  q  h hq
  unfold M_X10_requests_0 at h
  refine r_aload_n (pc := 0) C (i := 0) dX10_requests_0 rfl rfl ?_
  obtain ⟨g1, hg1, h⟩ := lt_e h
  obtain ⟨kg1, h⟩ := ifn h
  refine r_get (pc := 1) C gwX10 0 rfl rfl 8 (by decide) wm_5_211 rfl dX10_requests_1 ?_
  refine r_topg (a := a) hg1 ?_
  refine r_iconst (pc := 4) C (v := 3) dX10_requests_4 (by decide) ?_
  obtain ⟨hi2, h⟩ := ifn h
  refine r_iald (pc := 5) C g1 (wMd_at kg1) hi2 dX10_requests_5 ?_
  cases h
  exact r_ireti (pc := 6) C hq (Nat.zero_le _) (Nat.zero_le _) dX10_requests_6
def M_X10_requests (k : Nat) (S : Nat → Nat → Int32) : Option (Int32) := M_X10_requests_0 k S
set_option maxRecDepth 100000 in
set_option maxHeartbeats 4000000 in
theorem c_X10_requests (E : ENV) (l : Launch) (k : Nat) (a : Nat → Nat) (S : Nat → Nat → Int32) {q : Int32} (hm : M_X10_requests k S = some q) : CI E l yX10_requests cX10_requests 1 (some .int) rm_X10_requests [.ref (a 0)] (wMd E a S) (fun r w' => r = q ∧ w' = (wMd E a S)) :=
  CI.of 0 (by decide) (Nat.le_of_ble_eq_true rfl) (fun p e s m below meth c A C _ => r_weak (lSub_s lSub_e) (N_X10_requests_0 C a k S q  hm ⟨rfl, rfl⟩))
-- ShardGuardModel.told(I)I
theorem dX10_told_0 : decode cX10_told 0 = .ok (.aload_n 0, 1) := by decide +kernel
theorem dX10_told_1 : decode cX10_told 1 = .ok (.getfield 25, 3) := by decide +kernel
theorem dX10_told_4 : decode cX10_told 4 = .ok (.iconst 5, 1) := by decide +kernel
theorem dX10_told_5 : decode cX10_told 5 = .ok (.iload_n 1, 1) := by decide +kernel
theorem dX10_told_6 : decode cX10_told 6 = .ok (.iadd, 1) := by decide +kernel
theorem dX10_told_7 : decode cX10_told 7 = .ok (.iaload, 1) := by decide +kernel
theorem dX10_told_8 : decode cX10_told 8 = .ok (.ireturn, 1) := by decide +kernel
def rm_X10_told : Room := { frames := 0, cells := 0, slots := 0, locals := 0 }
def M_X10_told_0 (k : Nat) (S : Nat → Nat → Int32) (p0 : Int32) : Option (Int32) := lt (gsel S) fun g1 => (if gokN g1 = true then (if inb ((5 : Int32) + p0) 1692 = true then some (S g1 ((5 : Int32) + p0).toNatClampNeg) else none) else none)
set_option maxRecDepth 100000 in
set_option maxHeartbeats 4000000 in
theorem N_X10_told_0 (C : CX E p l s m args meth c cX10_told 2 RX10 (some .int) A) (a : Nat → Nat) (k : Nat) (S : Nat → Nat → Int32) {post : Int32 → va_W → Prop} :
    ∀ (p0 : Int32) (q : Int32), M_X10_told_0 k S p0 = some q → post q (wMd E a S) →
      WW E p l e rm_X10_told s m args below meth c A 0 0 (QI E below post args s rm_X10_told A) (wMd E a S) 2 [some (.ref (a 0)), some (.int p0)] 0 [] := by
  intro p0 q  h hq
  unfold M_X10_told_0 at h
  refine r_aload_n (pc := 0) C (i := 0) dX10_told_0 rfl rfl ?_
  obtain ⟨g1, hg1, h⟩ := lt_e h
  obtain ⟨kg1, h⟩ := ifn h
  refine r_get (pc := 1) C gwX10 0 rfl rfl 8 (by decide) wm_5_211 rfl dX10_told_1 ?_
  refine r_topg (a := a) hg1 ?_
  refine r_iconst (pc := 4) C (v := 5) dX10_told_4 (by decide) ?_
  refine r_iload_n (pc := 5) C (i := 1) dX10_told_5 rfl rfl ?_
  refine r_iadd (pc := 6) C dX10_told_6 ?_
  obtain ⟨hi2, h⟩ := ifn h
  refine r_iald (pc := 7) C g1 (wMd_at kg1) hi2 dX10_told_7 ?_
  cases h
  exact r_ireti (pc := 8) C hq (Nat.zero_le _) (Nat.zero_le _) dX10_told_8
def M_X10_told (k : Nat) (S : Nat → Nat → Int32) (p0 : Int32) : Option (Int32) := M_X10_told_0 k S p0
set_option maxRecDepth 100000 in
set_option maxHeartbeats 4000000 in
theorem c_X10_told (E : ENV) (l : Launch) (k : Nat) (a : Nat → Nat) (S : Nat → Nat → Int32) (p0 : Int32) {q : Int32} (hm : M_X10_told k S p0 = some q) : CI E l yX10_told cX10_told 2 (some .int) rm_X10_told [.ref (a 0), .int p0] (wMd E a S) (fun r w' => r = q ∧ w' = (wMd E a S)) :=
  CI.of 0 (by decide) (Nat.le_of_ble_eq_true rfl) (fun p e s m below meth c A C _ => r_weak (lSub_s (lSub_s lSub_e)) (N_X10_told_0 C a k S p0 q  hm ⟨rfl, rfl⟩))
end WALKS
