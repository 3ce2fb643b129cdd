section WALKS
variable {E : ENV} {p : Program} {l : Launch} {e : Env} {s : State} {m : MethodId} {args : Array Value} {below : List Frame} {meth : Method} {c : Code} {A : Nat → Prop}
-- ShardGuardModel.countIn(II)I
theorem dX10_countIn_0 : decode cX10_countIn 0 = .ok (.iconst 0, 1) := by decide +kernel
theorem dX10_countIn_1 : decode cX10_countIn 1 = .ok (.istore_n 3, 1) := by decide +kernel
theorem dX10_countIn_2 : decode cX10_countIn 2 = .ok (.iconst 0, 1) := by decide +kernel
theorem dX10_countIn_3 : decode cX10_countIn 3 = .ok (.istore 4, 2) := by decide +kernel
theorem dX10_countIn_5 : decode cX10_countIn 5 = .ok (.iload 4, 2) := by decide +kernel
theorem dX10_countIn_7 : decode cX10_countIn 7 = .ok (.aload_n 0, 1) := by decide +kernel
theorem dX10_countIn_8 : decode cX10_countIn 8 = .ok (.invokevirtual 117, 3) := by decide +kernel
theorem dX10_countIn_11 : decode cX10_countIn 11 = .ok (.if_icmp .ge 28, 3) := by decide +kernel
theorem dX10_countIn_14 : decode cX10_countIn 14 = .ok (.iload_n 3, 1) := by decide +kernel
theorem dX10_countIn_15 : decode cX10_countIn 15 = .ok (.aload_n 0, 1) := by decide +kernel
theorem dX10_countIn_16 : decode cX10_countIn 16 = .ok (.iload 4, 2) := by decide +kernel
theorem dX10_countIn_18 : decode cX10_countIn 18 = .ok (.iload_n 1, 1) := by decide +kernel
theorem dX10_countIn_19 : decode cX10_countIn 19 = .ok (.iload_n 2, 1) := by decide +kernel
theorem dX10_countIn_20 : decode cX10_countIn 20 = .ok (.invokevirtual 126, 3) := by decide +kernel
theorem dX10_countIn_23 : decode cX10_countIn 23 = .ok (.ifCond .eq 7, 3) := by decide +kernel
theorem dX10_countIn_26 : decode cX10_countIn 26 = .ok (.iconst 1, 1) := by decide +kernel
theorem dX10_countIn_27 : decode cX10_countIn 27 = .ok (.goto 4, 3) := by decide +kernel
theorem dX10_countIn_30 : decode cX10_countIn 30 = .ok (.iconst 0, 1) := by decide +kernel
theorem dX10_countIn_31 : decode cX10_countIn 31 = .ok (.iadd, 1) := by decide +kernel
theorem dX10_countIn_32 : decode cX10_countIn 32 = .ok (.istore_n 3, 1) := by decide +kernel
theorem dX10_countIn_33 : decode cX10_countIn 33 = .ok (.iinc 4 1, 3) := by decide +kernel
theorem dX10_countIn_36 : decode cX10_countIn 36 = .ok (.goto (-31), 3) := by decide +kernel
theorem dX10_countIn_39 : decode cX10_countIn 39 = .ok (.iload_n 3, 1) := by decide +kernel
theorem dX10_countIn_40 : decode cX10_countIn 40 = .ok (.ireturn, 1) := by decide +kernel
def rm_X10_countIn : Room := { frames := 3, cells := 0, slots := 0, locals := 66 }
def M_X10_countIn_5 (k : Nat) (S : Nat → Nat → Int32) : Nat → (Int32) → (Int32) → (Int32) → (Int32) → Option (Int32)
  | 0, _, _, _, _ => none
  | n + 1, x1, x2, x3, x4 => (M_X10_requests k S).bind fun q1 => if q1 ≤ x4 then (some x3) else ((M_X10_isIn k S x4 x1 x2).bind fun q3 => if q3 = 0 then (lt (x3 + (0 : Int32)) fun v5 => M_X10_countIn_5 k S n x1 x2 v5 (x4 + 1)) else (lt (x3 + (1 : Int32)) fun v6 => M_X10_countIn_5 k S n x1 x2 v6 (x4 + 1)))
theorem M_X10_countIn_5_s (k : Nat) (S : Nat → Nat → Int32) (n : Nat) (x1 : Int32) (x2 : Int32) (x3 : Int32) (x4 : Int32) : M_X10_countIn_5 k S (n + 1) x1 x2 x3 x4 = ((M_X10_requests k S).bind fun q1 => if q1 ≤ x4 then (some x3) else ((M_X10_isIn k S x4 x1 x2).bind fun q3 => if q3 = 0 then (lt (x3 + (0 : Int32)) fun v5 => M_X10_countIn_5 k S n x1 x2 v5 (x4 + 1)) else (lt (x3 + (1 : Int32)) fun v6 => M_X10_countIn_5 k S n x1 x2 v6 (x4 + 1)))) := rfl
set_option maxRecDepth 100000 in
set_option maxHeartbeats 4000000 in
theorem N_X10_countIn_5 (C : CX E p l s m args meth c cX10_countIn 5 RX10 (some .int) A) (a : Nat → Nat) (k : Nat) (S : Nat → Nat → Int32) {post : Int32 → va_W → Prop} :
    ∀ (n : Nat) (x1 : Int32) (x2 : Int32) (x3 : Int32) (x4 : Int32) (q : Int32), M_X10_countIn_5 k S n x1 x2 x3 x4 = some q → post q (wMd E a S) →
      WW E p l e rm_X10_countIn s m args below meth c A 0 0 (QI E below post args s rm_X10_countIn A) (wMd E a S) 5 [some (.ref (a 0)), some (.int x1), some (.int x2), some (.int x3), some (.int x4)] 5 [] := by
  intro n
  induction n with
  | zero => intro x1 x2 x3 x4 q  h _; cases h
  | succ n ih =>
    intro x1 x2 x3 x4 q  h hq
    rw [M_X10_countIn_5_s] at h
    refine r_iload (pc := 5) C (i := 4) dX10_countIn_5 rfl ?_
    refine r_aload_n (pc := 7) C (i := 0) dX10_countIn_7 rfl rfl ?_
    obtain ⟨q1, hq1, h⟩ := bnd h
    refine r_callVp_CI (Cn := RX10) (pc := 8) C [] (c_X10_requests E l k a S hq1) [0, 1, 2, 3, 4, 5, 6, 7, 8, 9, 10, 11, 12] rfl (by decide) 0 rfl rfl rfl g_X10_117 hd_X10_requests ⟨Nat.le_of_ble_eq_true rfl, Nat.le_of_ble_eq_true rfl⟩ ⟨Nat.zero_le _, Nat.zero_le _⟩ (Nat.le_of_ble_eq_true rfl) rfl dX10_countIn_8 (fun r hr => ?_)
    have hr := hr.symm
    subst hr
    refine r_icmp_ge (pc := 11) C (tgt := 39) dX10_countIn_11 rfl (fun c2 => ?_) (fun c2 => ?_)
    · rw [if_pos c2] at h
      refine r_iload_n (pc := 39) C (i := 3) dX10_countIn_39 rfl rfl ?_
      cases h
      exact r_ireti (pc := 40) C hq (Nat.zero_le _) (Nat.zero_le _) dX10_countIn_40
    · rw [if_neg c2] at h
      refine r_iload_n (pc := 14) C (i := 3) dX10_countIn_14 rfl rfl ?_
      refine r_aload_n (pc := 15) C (i := 0) dX10_countIn_15 rfl rfl ?_
      refine r_iload (pc := 16) C (i := 4) dX10_countIn_16 rfl ?_
      refine r_iload_n (pc := 18) C (i := 1) dX10_countIn_18 rfl rfl ?_
      refine r_iload_n (pc := 19) C (i := 2) dX10_countIn_19 rfl rfl ?_
      obtain ⟨q3, hq3, h⟩ := bnd h
      refine r_callVp_CI (Cn := RX10) (pc := 20) C [.int x4, .int x1, .int x2] (c_X10_isIn E l k a S x4 x1 x2 hq3) [0, 1, 2, 3, 4, 5, 6, 7, 8, 9, 10, 11, 12] rfl (by decide) 0 rfl rfl rfl g_X10_126 hd_X10_isIn ⟨Nat.le_of_ble_eq_true rfl, Nat.le_of_ble_eq_true rfl⟩ ⟨Nat.zero_le _, Nat.zero_le _⟩ (Nat.le_of_ble_eq_true rfl) rfl dX10_countIn_20 (fun r hr => ?_)
      have hr := hr.symm
      subst hr
      refine r_if_eq (pc := 23) C (tgt := 30) dX10_countIn_23 rfl (fun c4 => ?_) (fun c4 => ?_)
      · rw [if_pos c4] at h
        refine r_iconst (pc := 30) C (v := 0) dX10_countIn_30 (by decide) ?_
        refine r_iadd (pc := 31) C dX10_countIn_31 ?_
        obtain ⟨v5, hv5, h⟩ := lt_e h
        refine r_topi hv5 ?_
        refine r_istore_n (pc := 32) C (i := 3) dX10_countIn_32 rfl (by decide) rfl ?_
        refine r_iinc (pc := 33) C (v := (x4 + 1)) dX10_countIn_33 rfl rfl (by decide) rfl ?_
        refine r_goto (pc := 36) C (tgt := 5) dX10_countIn_36 rfl ?_
        refine r_weak (lSub_s (lSub_s (lSub_s (lSub_s (lSub_s lSub_e))))) ?_
        exact ih x1 x2 v5 (x4 + 1) q  h hq
      · rw [if_neg c4] at h
        refine r_iconst (pc := 26) C (v := 1) dX10_countIn_26 (by decide) ?_
        refine r_goto (pc := 27) C (tgt := 31) dX10_countIn_27 rfl ?_
        refine r_iadd (pc := 31) C dX10_countIn_31 ?_
        obtain ⟨v6, hv6, h⟩ := lt_e h
        refine r_topi hv6 ?_
        refine r_istore_n (pc := 32) C (i := 3) dX10_countIn_32 rfl (by decide) rfl ?_
        refine r_iinc (pc := 33) C (v := (x4 + 1)) dX10_countIn_33 rfl rfl (by decide) rfl ?_
        refine r_goto (pc := 36) C (tgt := 5) dX10_countIn_36 rfl ?_
        refine r_weak (lSub_s (lSub_s (lSub_s (lSub_s (lSub_s lSub_e))))) ?_
        exact ih x1 x2 v6 (x4 + 1) q  h hq
def M_X10_countIn_0 (k : Nat) (S : Nat → Nat → Int32) (p0 : Int32) (p1 : Int32) : Option (Int32) := M_X10_countIn_5 k S k p0 p1 (0 : Int32) (0 : Int32)
set_option maxRecDepth 100000 in
set_option maxHeartbeats 4000000 in
theorem N_X10_countIn_0 (C : CX E p l s m args meth c cX10_countIn 5 RX10 (some .int) A) (a : Nat → Nat) (k : Nat) (S : Nat → Nat → Int32) {post : Int32 → va_W → Prop} :
    ∀ (p0 : Int32) (p1 : Int32) (q : Int32), M_X10_countIn_0 k S p0 p1 = some q → post q (wMd E a S) →
      WW E p l e rm_X10_countIn s m args below meth c A 0 0 (QI E below post args s rm_X10_countIn A) (wMd E a S) 5 [some (.ref (a 0)), some (.int p0), some (.int p1), none, none] 0 [] := by
  intro p0 p1 q  h hq
  unfold M_X10_countIn_0 at h
  refine r_iconst (pc := 0) C (v := 0) dX10_countIn_0 (by decide) ?_
  refine r_istore_n (pc := 1) C (i := 3) dX10_countIn_1 rfl (by decide) rfl ?_
  refine r_iconst (pc := 2) C (v := 0) dX10_countIn_2 (by decide) ?_
  refine r_istore (pc := 3) C (i := 4) dX10_countIn_3 (by decide) rfl ?_
  refine r_weak (lSub_s (lSub_s (lSub_s (lSub_s (lSub_s lSub_e))))) ?_
  exact N_X10_countIn_5 C a k S k p0 p1 (0 : Int32) (0 : Int32) q  h hq
def M_X10_countIn (k : Nat) (S : Nat → Nat → Int32) (p0 : Int32) (p1 : Int32) : Option (Int32) := M_X10_countIn_0 k S p0 p1
set_option maxRecDepth 100000 in
set_option maxHeartbeats 4000000 in
theorem c_X10_countIn (E : ENV) (l : Launch) (k : Nat) (a : Nat → Nat) (S : Nat → Nat → Int32) (p0 : Int32) (p1 : Int32) {q : Int32} (hm : M_X10_countIn k S p0 p1 = some q) : CI E l yX10_countIn cX10_countIn 5 (some .int) rm_X10_countIn [.ref (a 0), .int p0, .int p1] (wMd E a S) (fun r w' => r = q ∧ w' = (wMd E a S)) :=
  CI.of 2 (by decide) (Nat.le_of_ble_eq_true rfl) (fun p e s m below meth c A C _ => r_weak (lSub_s (lSub_s (lSub_s (lSub_n (lSub_n lSub_e))))) (N_X10_countIn_0 C a k S p0 p1 q  hm ⟨rfl, rfl⟩))
-- ShardGuardModel.next(III)I
theorem dX10_next_0 : decode cX10_next 0 = .ok (.iconst (-1), 1) := by decide +kernel
theorem dX10_next_1 : decode cX10_next 1 = .ok (.istore 4, 2) := by decide +kernel
theorem dX10_next_3 : decode cX10_next 3 = .ok (.iconst 0, 1) := by decide +kernel
theorem dX10_next_4 : decode cX10_next 4 = .ok (.istore 5, 2) := by decide +kernel
theorem dX10_next_6 : decode cX10_next 6 = .ok (.iload 5, 2) := by decide +kernel
theorem dX10_next_8 : decode cX10_next 8 = .ok (.aload_n 0, 1) := by decide +kernel
theorem dX10_next_9 : decode cX10_next 9 = .ok (.invokevirtual 117, 3) := by decide +kernel
theorem dX10_next_12 : decode cX10_next 12 = .ok (.if_icmp .ge 78, 3) := by decide +kernel
theorem dX10_next_15 : decode cX10_next 15 = .ok (.aload_n 0, 1) := by decide +kernel
theorem dX10_next_16 : decode cX10_next 16 = .ok (.iload 5, 2) := by decide +kernel
theorem dX10_next_18 : decode cX10_next 18 = .ok (.iload_n 1, 1) := by decide +kernel
theorem dX10_next_19 : decode cX10_next 19 = .ok (.iload_n 2, 1) := by decide +kernel
theorem dX10_next_20 : decode cX10_next 20 = .ok (.invokevirtual 126, 3) := by decide +kernel
theorem dX10_next_23 : decode cX10_next 23 = .ok (.ifCond .eq 19, 3) := by decide +kernel
theorem dX10_next_26 : decode cX10_next 26 = .ok (.aload_n 0, 1) := by decide +kernel
theorem dX10_next_27 : decode cX10_next 27 = .ok (.iload 5, 2) := by decide +kernel
theorem dX10_next_29 : decode cX10_next 29 = .ok (.bipush 8, 2) := by decide +kernel
theorem dX10_next_31 : decode cX10_next 31 = .ok (.invokevirtual 123, 3) := by decide +kernel
theorem dX10_next_34 : decode cX10_next 34 = .ok (.iload_n 3, 1) := by decide +kernel
theorem dX10_next_35 : decode cX10_next 35 = .ok (.if_icmp .lt 7, 3) := by decide +kernel
theorem dX10_next_38 : decode cX10_next 38 = .ok (.iconst 1, 1) := by decide +kernel
theorem dX10_next_39 : decode cX10_next 39 = .ok (.goto 4, 3) := by decide +kernel
theorem dX10_next_42 : decode cX10_next 42 = .ok (.iconst 0, 1) := by decide +kernel
theorem dX10_next_43 : decode cX10_next 43 = .ok (.istore 6, 2) := by decide +kernel
theorem dX10_next_45 : decode cX10_next 45 = .ok (.iload 6, 2) := by decide +kernel
theorem dX10_next_47 : decode cX10_next 47 = .ok (.ifCond .eq 33, 3) := by decide +kernel
theorem dX10_next_50 : decode cX10_next 50 = .ok (.iload 4, 2) := by decide +kernel
theorem dX10_next_52 : decode cX10_next 52 = .ok (.iconst (-1), 1) := by decide +kernel
theorem dX10_next_53 : decode cX10_next 53 = .ok (.if_icmp .eq 22, 3) := by decide +kernel
theorem dX10_next_56 : decode cX10_next 56 = .ok (.aload_n 0, 1) := by decide +kernel
theorem dX10_next_57 : decode cX10_next 57 = .ok (.iload 5, 2) := by decide +kernel
theorem dX10_next_59 : decode cX10_next 59 = .ok (.bipush 8, 2) := by decide +kernel
theorem dX10_next_61 : decode cX10_next 61 = .ok (.invokevirtual 123, 3) := by decide +kernel
theorem dX10_next_64 : decode cX10_next 64 = .ok (.aload_n 0, 1) := by decide +kernel
theorem dX10_next_65 : decode cX10_next 65 = .ok (.iload 4, 2) := by decide +kernel
theorem dX10_next_67 : decode cX10_next 67 = .ok (.bipush 8, 2) := by decide +kernel
theorem dX10_next_69 : decode cX10_next 69 = .ok (.invokevirtual 123, 3) := by decide +kernel
theorem dX10_next_72 : decode cX10_next 72 = .ok (.if_icmp .ge 8, 3) := by decide +kernel
theorem dX10_next_75 : decode cX10_next 75 = .ok (.iload 5, 2) := by decide +kernel
theorem dX10_next_77 : decode cX10_next 77 = .ok (.goto 5, 3) := by decide +kernel
theorem dX10_next_80 : decode cX10_next 80 = .ok (.iload 4, 2) := by decide +kernel
theorem dX10_next_82 : decode cX10_next 82 = .ok (.istore 4, 2) := by decide +kernel
theorem dX10_next_84 : decode cX10_next 84 = .ok (.iinc 5 1, 3) := by decide +kernel
theorem dX10_next_87 : decode cX10_next 87 = .ok (.goto (-81), 3) := by decide +kernel
theorem dX10_next_90 : decode cX10_next 90 = .ok (.iload 4, 2) := by decide +kernel
theorem dX10_next_92 : decode cX10_next 92 = .ok (.ireturn, 1) := by decide +kernel
def rm_X10_next : Room := { frames := 3, cells := 0, slots := 0, locals := 66 }
def M_X10_next_43 (k : Nat) (S : Nat → Nat → Int32) (κ6 : Int32 → Int32 → Int32 → Int32 → Int32 → Option (Int32)) (x1 : Int32) (x2 : Int32) (x3 : Int32) (x4 : Int32) (x5 : Int32) (y0 : Int32) : Option (Int32) := if y0 = 0 then (κ6 x1 x2 x3 x4 (x5 + 1)) else (if x4 = (-1 : Int32) then (κ6 x1 x2 x3 x5 (x5 + 1)) else ((M_X10_of k S x5 (8 : Int32)).bind fun q3 => (M_X10_of k S x4 (8 : Int32)).bind fun q4 => if q4 ≤ q3 then (κ6 x1 x2 x3 x4 (x5 + 1)) else (κ6 x1 x2 x3 x5 (x5 + 1))))
set_option maxRecDepth 100000 in
set_option maxHeartbeats 4000000 in
theorem N_X10_next_43 (C : CX E p l s m args meth c cX10_next 7 RX10 (some .int) A) (a : Nat → Nat) (k : Nat) (S : Nat → Nat → Int32) {post : Int32 → va_W → Prop} (κ6 : Int32 → Int32 → Int32 → Int32 → Int32 → Option (Int32)) (hκ6 : ∀ (x1 : Int32) (x2 : Int32) (x3 : Int32) (x4 : Int32) (x5 : Int32) (q : Int32), κ6 x1 x2 x3 x4 x5 = some q → post q (wMd E a S) → WW E p l e rm_X10_next s m args below meth c A 0 0 (QI E below post args s rm_X10_next A) (wMd E a S) 7 [some (.ref (a 0)), some (.int x1), some (.int x2), some (.int x3), some (.int x4), some (.int x5), none] 6 []) :
    ∀ (x1 : Int32) (x2 : Int32) (x3 : Int32) (x4 : Int32) (x5 : Int32) (y0 : Int32) (q : Int32), M_X10_next_43 k S κ6 x1 x2 x3 x4 x5 y0 = some q → post q (wMd E a S) →
      WW E p l e rm_X10_next s m args below meth c A 0 0 (QI E below post args s rm_X10_next A) (wMd E a S) 7 [some (.ref (a 0)), some (.int x1), some (.int x2), some (.int x3), some (.int x4), some (.int x5), none] 43 [.int y0] := by
  intro x1 x2 x3 x4 x5 y0 q  h hq
  unfold M_X10_next_43 at h
  refine r_istore (pc := 43) C (i := 6) dX10_next_43 (by decide) rfl ?_
  refine r_iload (pc := 45) C (i := 6) dX10_next_45 rfl ?_
  refine r_if_eq (pc := 47) C (tgt := 80) dX10_next_47 rfl (fun c1 => ?_) (fun c1 => ?_)
  · rw [if_pos c1] at h
    refine r_iload (pc := 80) C (i := 4) dX10_next_80 rfl ?_
    refine r_istore (pc := 82) C (i := 4) dX10_next_82 (by decide) rfl ?_
    refine r_iinc (pc := 84) C (v := (x5 + 1)) dX10_next_84 rfl rfl (by decide) rfl ?_
    refine r_goto (pc := 87) C (tgt := 6) dX10_next_87 rfl ?_
    refine r_weak (lSub_s (lSub_s (lSub_s (lSub_s (lSub_s (lSub_s (lSub_n lSub_e))))))) ?_
    exact hκ6 x1 x2 x3 x4 (x5 + 1) q  h hq
  · rw [if_neg c1] at h
    refine r_iload (pc := 50) C (i := 4) dX10_next_50 rfl ?_
    refine r_iconst (pc := 52) C (v := (-1)) dX10_next_52 (by decide) ?_
    refine r_icmp_eq (pc := 53) C (tgt := 75) dX10_next_53 rfl (fun c2 => ?_) (fun c2 => ?_)
    · rw [if_pos c2] at h
      refine r_iload (pc := 75) C (i := 5) dX10_next_75 rfl ?_
      refine r_goto (pc := 77) C (tgt := 82) dX10_next_77 rfl ?_
      refine r_istore (pc := 82) C (i := 4) dX10_next_82 (by decide) rfl ?_
      refine r_iinc (pc := 84) C (v := (x5 + 1)) dX10_next_84 rfl rfl (by decide) rfl ?_
      refine r_goto (pc := 87) C (tgt := 6) dX10_next_87 rfl ?_
      refine r_weak (lSub_s (lSub_s (lSub_s (lSub_s (lSub_s (lSub_s (lSub_n lSub_e))))))) ?_
      exact hκ6 x1 x2 x3 x5 (x5 + 1) q  h hq
    · rw [if_neg c2] at h
      refine r_aload_n (pc := 56) C (i := 0) dX10_next_56 rfl rfl ?_
      refine r_iload (pc := 57) C (i := 5) dX10_next_57 rfl ?_
      refine r_bipush (pc := 59) C (v := 8) dX10_next_59 (by decide) ?_
      obtain ⟨q3, hq3, h⟩ := bnd h
      refine r_callVp_CI (Cn := RX10) (pc := 61) C [.int x5, .int (8 : Int32)] (c_X10_of E l k a S x5 (8 : Int32) hq3) [0, 1, 2, 3, 4, 5, 6, 7, 8, 9, 10, 11, 12] rfl (by decide) 0 rfl rfl rfl g_X10_123 hd_X10_of ⟨Nat.le_of_ble_eq_true rfl, Nat.le_of_ble_eq_true rfl⟩ ⟨Nat.zero_le _, Nat.zero_le _⟩ (Nat.le_of_ble_eq_true rfl) rfl dX10_next_61 (fun r hr => ?_)
      have hr := hr.symm
      subst hr
      refine r_aload_n (pc := 64) C (i := 0) dX10_next_64 rfl rfl ?_
      refine r_iload (pc := 65) C (i := 4) dX10_next_65 rfl ?_
      refine r_bipush (pc := 67) C (v := 8) dX10_next_67 (by decide) ?_
      obtain ⟨q4, hq4, h⟩ := bnd h
      refine r_callVp_CI (Cn := RX10) (pc := 69) C [.int x4, .int (8 : Int32)] (c_X10_of E l k a S x4 (8 : Int32) hq4) [0, 1, 2, 3, 4, 5, 6, 7, 8, 9, 10, 11, 12] rfl (by decide) 0 rfl rfl rfl g_X10_123 hd_X10_of ⟨Nat.le_of_ble_eq_true rfl, Nat.le_of_ble_eq_true rfl⟩ ⟨Nat.zero_le _, Nat.zero_le _⟩ (Nat.le_of_ble_eq_true rfl) rfl dX10_next_69 (fun r hr => ?_)
      have hr := hr.symm
      subst hr
      refine r_icmp_ge (pc := 72) C (tgt := 80) dX10_next_72 rfl (fun c5 => ?_) (fun c5 => ?_)
      · rw [if_pos c5] at h
        refine r_iload (pc := 80) C (i := 4) dX10_next_80 rfl ?_
        refine r_istore (pc := 82) C (i := 4) dX10_next_82 (by decide) rfl ?_
        refine r_iinc (pc := 84) C (v := (x5 + 1)) dX10_next_84 rfl rfl (by decide) rfl ?_
        refine r_goto (pc := 87) C (tgt := 6) dX10_next_87 rfl ?_
        refine r_weak (lSub_s (lSub_s (lSub_s (lSub_s (lSub_s (lSub_s (lSub_n lSub_e))))))) ?_
        exact hκ6 x1 x2 x3 x4 (x5 + 1) q  h hq
      · rw [if_neg c5] at h
        refine r_iload (pc := 75) C (i := 5) dX10_next_75 rfl ?_
        refine r_goto (pc := 77) C (tgt := 82) dX10_next_77 rfl ?_
        refine r_istore (pc := 82) C (i := 4) dX10_next_82 (by decide) rfl ?_
        refine r_iinc (pc := 84) C (v := (x5 + 1)) dX10_next_84 rfl rfl (by decide) rfl ?_
        refine r_goto (pc := 87) C (tgt := 6) dX10_next_87 rfl ?_
        refine r_weak (lSub_s (lSub_s (lSub_s (lSub_s (lSub_s (lSub_s (lSub_n lSub_e))))))) ?_
        exact hκ6 x1 x2 x3 x5 (x5 + 1) q  h hq
def M_X10_next_6 (k : Nat) (S : Nat → Nat → Int32) : Nat → (Int32) → (Int32) → (Int32) → (Int32) → (Int32) → Option (Int32)
  | 0, _, _, _, _, _ => none
  | n + 1, x1, x2, x3, x4, x5 => (M_X10_requests k S).bind fun q6 => if q6 ≤ x5 then (some x4) else ((M_X10_isIn k S x5 x1 x2).bind fun q8 => if q8 = 0 then (M_X10_next_43 k S (M_X10_next_6 k S n) x1 x2 x3 x4 x5 (0 : Int32)) else ((M_X10_of k S x5 (8 : Int32)).bind fun q10 => if q10 < x3 then (M_X10_next_43 k S (M_X10_next_6 k S n) x1 x2 x3 x4 x5 (0 : Int32)) else (M_X10_next_43 k S (M_X10_next_6 k S n) x1 x2 x3 x4 x5 (1 : Int32))))
theorem M_X10_next_6_s (k : Nat) (S : Nat → Nat → Int32) (n : Nat) (x1 : Int32) (x2 : Int32) (x3 : Int32) (x4 : Int32) (x5 : Int32) : M_X10_next_6 k S (n + 1) x1 x2 x3 x4 x5 = ((M_X10_requests k S).bind fun q6 => if q6 ≤ x5 then (some x4) else ((M_X10_isIn k S x5 x1 x2).bind fun q8 => if q8 = 0 then (M_X10_next_43 k S (M_X10_next_6 k S n) x1 x2 x3 x4 x5 (0 : Int32)) else ((M_X10_of k S x5 (8 : Int32)).bind fun q10 => if q10 < x3 then (M_X10_next_43 k S (M_X10_next_6 k S n) x1 x2 x3 x4 x5 (0 : Int32)) else (M_X10_next_43 k S (M_X10_next_6 k S n) x1 x2 x3 x4 x5 (1 : Int32))))) := rfl
set_option maxRecDepth 100000 in
set_option maxHeartbeats 4000000 in
theorem N_X10_next_6 (C : CX E p l s m args meth c cX10_next 7 RX10 (some .int) A) (a : Nat → Nat) (k : Nat) (S : Nat → Nat → Int32) {post : Int32 → va_W → Prop} :
    ∀ (n : Nat) (x1 : Int32) (x2 : Int32) (x3 : Int32) (x4 : Int32) (x5 : Int32) (q : Int32), M_X10_next_6 k S n x1 x2 x3 x4 x5 = some q → post q (wMd E a S) →
      WW E p l e rm_X10_next s m args below meth c A 0 0 (QI E below post args s rm_X10_next A) (wMd E a S) 7 [some (.ref (a 0)), some (.int x1), some (.int x2), some (.int x3), some (.int x4), some (.int x5), none] 6 [] := by
  intro n
  induction n with
  | zero => intro x1 x2 x3 x4 x5 q  h _; cases h
  | succ n ih =>
    intro x1 x2 x3 x4 x5 q  h hq
    rw [M_X10_next_6_s] at h
    refine r_iload (pc := 6) C (i := 5) dX10_next_6 rfl ?_
    refine r_aload_n (pc := 8) C (i := 0) dX10_next_8 rfl rfl ?_
    obtain ⟨q6, hq6, h⟩ := bnd h
    refine r_callVp_CI (Cn := RX10) (pc := 9) C [] (c_X10_requests E l k a S hq6) [0, 1, 2, 3, 4, 5, 6, 7, 8, 9, 10, 11, 12] rfl (by decide) 0 rfl rfl rfl g_X10_117 hd_X10_requests ⟨Nat.le_of_ble_eq_true rfl, Nat.le_of_ble_eq_true rfl⟩ ⟨Nat.zero_le _, Nat.zero_le _⟩ (Nat.le_of_ble_eq_true rfl) rfl dX10_next_9 (fun r hr => ?_)
    have hr := hr.symm
    subst hr
    refine r_icmp_ge (pc := 12) C (tgt := 90) dX10_next_12 rfl (fun c7 => ?_) (fun c7 => ?_)
    · rw [if_pos c7] at h
      refine r_iload (pc := 90) C (i := 4) dX10_next_90 rfl ?_
      cases h
      exact r_ireti (pc := 92) C hq (Nat.zero_le _) (Nat.zero_le _) dX10_next_92
    · rw [if_neg c7] at h
      refine r_aload_n (pc := 15) C (i := 0) dX10_next_15 rfl rfl ?_
      refine r_iload (pc := 16) C (i := 5) dX10_next_16 rfl ?_
      refine r_iload_n (pc := 18) C (i := 1) dX10_next_18 rfl rfl ?_
      refine r_iload_n (pc := 19) C (i := 2) dX10_next_19 rfl rfl ?_
      obtain ⟨q8, hq8, h⟩ := bnd h
      refine r_callVp_CI (Cn := RX10) (pc := 20) C [.int x5, .int x1, .int x2] (c_X10_isIn E l k a S x5 x1 x2 hq8) [0, 1, 2, 3, 4, 5, 6, 7, 8, 9, 10, 11, 12] rfl (by decide) 0 rfl rfl rfl g_X10_126 hd_X10_isIn ⟨Nat.le_of_ble_eq_true rfl, Nat.le_of_ble_eq_true rfl⟩ ⟨Nat.zero_le _, Nat.zero_le _⟩ (Nat.le_of_ble_eq_true rfl) rfl dX10_next_20 (fun r hr => ?_)
      have hr := hr.symm
      subst hr
      refine r_if_eq (pc := 23) C (tgt := 42) dX10_next_23 rfl (fun c9 => ?_) (fun c9 => ?_)
      · rw [if_pos c9] at h
        refine r_iconst (pc := 42) C (v := 0) dX10_next_42 (by decide) ?_
        refine r_weak (lSub_s (lSub_s (lSub_s (lSub_s (lSub_s (lSub_s (lSub_n lSub_e))))))) ?_
        exact N_X10_next_43 C a k S (M_X10_next_6 k S n) ih x1 x2 x3 x4 x5 (0 : Int32) q  h hq
      · rw [if_neg c9] at h
        refine r_aload_n (pc := 26) C (i := 0) dX10_next_26 rfl rfl ?_
        refine r_iload (pc := 27) C (i := 5) dX10_next_27 rfl ?_
        refine r_bipush (pc := 29) C (v := 8) dX10_next_29 (by decide) ?_
        obtain ⟨q10, hq10, h⟩ := bnd h
        refine r_callVp_CI (Cn := RX10) (pc := 31) C [.int x5, .int (8 : Int32)] (c_X10_of E l k a S x5 (8 : Int32) hq10) [0, 1, 2, 3, 4, 5, 6, 7, 8, 9, 10, 11, 12] rfl (by decide) 0 rfl rfl rfl g_X10_123 hd_X10_of ⟨Nat.le_of_ble_eq_true rfl, Nat.le_of_ble_eq_true rfl⟩ ⟨Nat.zero_le _, Nat.zero_le _⟩ (Nat.le_of_ble_eq_true rfl) rfl dX10_next_31 (fun r hr => ?_)
        have hr := hr.symm
        subst hr
        refine r_iload_n (pc := 34) C (i := 3) dX10_next_34 rfl rfl ?_
        refine r_icmp_lt (pc := 35) C (tgt := 42) dX10_next_35 rfl (fun c11 => ?_) (fun c11 => ?_)
        · rw [if_pos c11] at h
          refine r_iconst (pc := 42) C (v := 0) dX10_next_42 (by decide) ?_
          refine r_weak (lSub_s (lSub_s (lSub_s (lSub_s (lSub_s (lSub_s (lSub_n lSub_e))))))) ?_
          exact N_X10_next_43 C a k S (M_X10_next_6 k S n) ih x1 x2 x3 x4 x5 (0 : Int32) q  h hq
        · rw [if_neg c11] at h
          refine r_iconst (pc := 38) C (v := 1) dX10_next_38 (by decide) ?_
          refine r_goto (pc := 39) C (tgt := 43) dX10_next_39 rfl ?_
          refine r_weak (lSub_s (lSub_s (lSub_s (lSub_s (lSub_s (lSub_s (lSub_n lSub_e))))))) ?_
          exact N_X10_next_43 C a k S (M_X10_next_6 k S n) ih x1 x2 x3 x4 x5 (1 : Int32) q  h hq
def M_X10_next_0 (k : Nat) (S : Nat → Nat → Int32) (p0 : Int32) (p1 : Int32) (p2 : Int32) : Option (Int32) := M_X10_next_6 k S k p0 p1 p2 (-1 : Int32) (0 : Int32)
set_option maxRecDepth 100000 in
set_option maxHeartbeats 4000000 in
theorem N_X10_next_0 (C : CX E p l s m args meth c cX10_next 7 RX10 (some .int) A) (a : Nat → Nat) (k : Nat) (S : Nat → Nat → Int32) {post : Int32 → va_W → Prop} :
    ∀ (p0 : Int32) (p1 : Int32) (p2 : Int32) (q : Int32), M_X10_next_0 k S p0 p1 p2 = some q → post q (wMd E a S) →
      WW E p l e rm_X10_next s m args below meth c A 0 0 (QI E below post args s rm_X10_next A) (wMd E a S) 7 [some (.ref (a 0)), some (.int p0), some (.int p1), some (.int p2), none, none, none] 0 [] := by
  intro p0 p1 p2 q  h hq
  unfold M_X10_next_0 at h
  refine r_iconst (pc := 0) C (v := (-1)) dX10_next_0 (by decide) ?_
  refine r_istore (pc := 1) C (i := 4) dX10_next_1 (by decide) rfl ?_
  refine r_iconst (pc := 3) C (v := 0) dX10_next_3 (by decide) ?_
  refine r_istore (pc := 4) C (i := 5) dX10_next_4 (by decide) rfl ?_
  refine r_weak (lSub_s (lSub_s (lSub_s (lSub_s (lSub_s (lSub_s (lSub_n lSub_e))))))) ?_
  exact N_X10_next_6 C a k S k p0 p1 p2 (-1 : Int32) (0 : Int32) q  h hq
def M_X10_next (k : Nat) (S : Nat → Nat → Int32) (p0 : Int32) (p1 : Int32) (p2 : Int32) : Option (Int32) := M_X10_next_0 k S p0 p1 p2
set_option maxRecDepth 100000 in
set_option maxHeartbeats 4000000 in
theorem c_X10_next (E : ENV) (l : Launch) (k : Nat) (a : Nat → Nat) (S : Nat → Nat → Int32) (p0 : Int32) (p1 : Int32) (p2 : Int32) {q : Int32} (hm : M_X10_next k S p0 p1 p2 = some q) : CI E l yX10_next cX10_next 7 (some .int) rm_X10_next [.ref (a 0), .int p0, .int p1, .int p2] (wMd E a S) (fun r w' => r = q ∧ w' = (wMd E a S)) :=
  CI.of 3 (by decide) (Nat.le_of_ble_eq_true rfl) (fun p e s m below meth c A C _ => r_weak (lSub_s (lSub_s (lSub_s (lSub_s (lSub_n (lSub_n (lSub_n lSub_e))))))) (N_X10_next_0 C a k S p0 p1 p2 q  hm ⟨rfl, rfl⟩))
theorem hd_X10_placeOf : yX10_placeOf.cls = RX10 ∧ yX10_placeOf.cls ≠ "java/lang/invoke/MethodHandle" ∧ yX10_placeOf.cls ≠ "java/lang/invoke/VarHandle" ∧ (parseMethodDescriptor yX10_placeOf.desc).map (fun d => d.parameters.length) = some 1 := by decide +kernel
theorem g_X10_129 : GoodIn GW (wsV RX10 129 RX10 yX10_placeOf (wsG yX10_placeOf cX10_placeOf 5 (some .int))) := gw_V wm_6_194 wm_6_196 wm_0_47 wm_1_9 wm_6_197
-- ShardGuardModel.inPlace(III)I
theorem dX10_inPlace_0 : decode cX10_inPlace 0 = .ok (.iconst 0, 1) := by decide +kernel
theorem dX10_inPlace_1 : decode cX10_inPlace 1 = .ok (.istore 4, 2) := by decide +kernel
theorem dX10_inPlace_3 : decode cX10_inPlace 3 = .ok (.iload 4, 2) := by decide +kernel
theorem dX10_inPlace_5 : decode cX10_inPlace 5 = .ok (.aload_n 0, 1) := by decide +kernel
theorem dX10_inPlace_6 : decode cX10_inPlace 6 = .ok (.invokevirtual 117, 3) := by decide +kernel
theorem dX10_inPlace_9 : decode cX10_inPlace 9 = .ok (.if_icmp .ge 33, 3) := by decide +kernel
theorem dX10_inPlace_12 : decode cX10_inPlace 12 = .ok (.aload_n 0, 1) := by decide +kernel
theorem dX10_inPlace_13 : decode cX10_inPlace 13 = .ok (.iload 4, 2) := by decide +kernel
theorem dX10_inPlace_15 : decode cX10_inPlace 15 = .ok (.iload_n 1, 1) := by decide +kernel
theorem dX10_inPlace_16 : decode cX10_inPlace 16 = .ok (.iload_n 2, 1) := by decide +kernel
theorem dX10_inPlace_17 : decode cX10_inPlace 17 = .ok (.invokevirtual 126, 3) := by decide +kernel
theorem dX10_inPlace_20 : decode cX10_inPlace 20 = .ok (.ifCond .eq 16, 3) := by decide +kernel
theorem dX10_inPlace_23 : decode cX10_inPlace 23 = .ok (.aload_n 0, 1) := by decide +kernel
theorem dX10_inPlace_24 : decode cX10_inPlace 24 = .ok (.iload 4, 2) := by decide +kernel
theorem dX10_inPlace_26 : decode cX10_inPlace 26 = .ok (.invokevirtual 129, 3) := by decide +kernel
theorem dX10_inPlace_29 : decode cX10_inPlace 29 = .ok (.iload_n 3, 1) := by decide +kernel
theorem dX10_inPlace_30 : decode cX10_inPlace 30 = .ok (.if_icmp .ne 6, 3) := by decide +kernel
theorem dX10_inPlace_33 : decode cX10_inPlace 33 = .ok (.iload 4, 2) := by decide +kernel
theorem dX10_inPlace_35 : decode cX10_inPlace 35 = .ok (.ireturn, 1) := by decide +kernel
theorem dX10_inPlace_36 : decode cX10_inPlace 36 = .ok (.iinc 4 1, 3) := by decide +kernel
theorem dX10_inPlace_39 : decode cX10_inPlace 39 = .ok (.goto (-36), 3) := by decide +kernel
theorem dX10_inPlace_42 : decode cX10_inPlace 42 = .ok (.iconst (-1), 1) := by decide +kernel
theorem dX10_inPlace_43 : decode cX10_inPlace 43 = .ok (.ireturn, 1) := by decide +kernel
def rm_X10_inPlace : Room := { frames := 4, cells := 0, slots := 0, locals := 90 }
def M_X10_inPlace_3 (k : Nat) (S : Nat → Nat → Int32) : Nat → (Int32) → (Int32) → (Int32) → (Int32) → Option (Int32)
  | 0, _, _, _, _ => none
  | n + 1, x1, x2, x3, x4 => (M_X10_requests k S).bind fun q1 => if q1 ≤ x4 then (some (-1 : Int32)) else ((M_X10_isIn k S x4 x1 x2).bind fun q3 => if q3 = 0 then (M_X10_inPlace_3 k S n x1 x2 x3 (x4 + 1)) else ((M_X10_placeOf k S x4).bind fun q5 => if q5 = x3 then (some x4) else (M_X10_inPlace_3 k S n x1 x2 x3 (x4 + 1))))
theorem M_X10_inPlace_3_s (k : Nat) (S : Nat → Nat → Int32) (n : Nat) (x1 : Int32) (x2 : Int32) (x3 : Int32) (x4 : Int32) : M_X10_inPlace_3 k S (n + 1) x1 x2 x3 x4 = ((M_X10_requests k S).bind fun q1 => if q1 ≤ x4 then (some (-1 : Int32)) else ((M_X10_isIn k S x4 x1 x2).bind fun q3 => if q3 = 0 then (M_X10_inPlace_3 k S n x1 x2 x3 (x4 + 1)) else ((M_X10_placeOf k S x4).bind fun q5 => if q5 = x3 then (some x4) else (M_X10_inPlace_3 k S n x1 x2 x3 (x4 + 1))))) := rfl
set_option maxRecDepth 100000 in
set_option maxHeartbeats 4000000 in
theorem N_X10_inPlace_3 (C : CX E p l s m args meth c cX10_inPlace 5 RX10 (some .int) A) (a : Nat → Nat) (k : Nat) (S : Nat → Nat → Int32) {post : Int32 → va_W → Prop} :
    ∀ (n : Nat) (x1 : Int32) (x2 : Int32) (x3 : Int32) (x4 : Int32) (q : Int32), M_X10_inPlace_3 k S n x1 x2 x3 x4 = some q → post q (wMd E a S) →
      WW E p l e rm_X10_inPlace s m args below meth c A 0 0 (QI E below post args s rm_X10_inPlace A) (wMd E a S) 5 [some (.ref (a 0)), some (.int x1), some (.int x2), some (.int x3), some (.int x4)] 3 [] := by
  intro n
  induction n with
  | zero => intro x1 x2 x3 x4 q  h _; cases h
  | succ n ih =>
    intro x1 x2 x3 x4 q  h hq
    rw [M_X10_inPlace_3_s] at h
    refine r_iload (pc := 3) C (i := 4) dX10_inPlace_3 rfl ?_
    refine r_aload_n (pc := 5) C (i := 0) dX10_inPlace_5 rfl rfl ?_
    obtain ⟨q1, hq1, h⟩ := bnd h
    refine r_callVp_CI (Cn := RX10) (pc := 6) C [] (c_X10_requests E l k a S hq1) [0, 1, 2, 3, 4, 5, 6, 7, 8, 9, 10, 11, 12] rfl (by decide) 0 rfl rfl rfl g_X10_117 hd_X10_requests ⟨Nat.le_of_ble_eq_true rfl, Nat.le_of_ble_eq_true rfl⟩ ⟨Nat.zero_le _, Nat.zero_le _⟩ (Nat.le_of_ble_eq_true rfl) rfl dX10_inPlace_6 (fun r hr => ?_)
    have hr := hr.symm
    subst hr
    refine r_icmp_ge (pc := 9) C (tgt := 42) dX10_inPlace_9 rfl (fun c2 => ?_) (fun c2 => ?_)
    · rw [if_pos c2] at h
      refine r_iconst (pc := 42) C (v := (-1)) dX10_inPlace_42 (by decide) ?_
      have h := Option.some.inj h
      subst h
      exact r_ireti (pc := 43) C hq (Nat.zero_le _) (Nat.zero_le _) dX10_inPlace_43
    · rw [if_neg c2] at h
      refine r_aload_n (pc := 12) C (i := 0) dX10_inPlace_12 rfl rfl ?_
      refine r_iload (pc := 13) C (i := 4) dX10_inPlace_13 rfl ?_
      refine r_iload_n (pc := 15) C (i := 1) dX10_inPlace_15 rfl rfl ?_
      refine r_iload_n (pc := 16) C (i := 2) dX10_inPlace_16 rfl rfl ?_
      obtain ⟨q3, hq3, h⟩ := bnd h
      refine r_callVp_CI (Cn := RX10) (pc := 17) C [.int x4, .int x1, .int x2] (c_X10_isIn E l k a S x4 x1 x2 hq3) [0, 1, 2, 3, 4, 5, 6, 7, 8, 9, 10, 11, 12] rfl (by decide) 0 rfl rfl rfl g_X10_126 hd_X10_isIn ⟨Nat.le_of_ble_eq_true rfl, Nat.le_of_ble_eq_true rfl⟩ ⟨Nat.zero_le _, Nat.zero_le _⟩ (Nat.le_of_ble_eq_true rfl) rfl dX10_inPlace_17 (fun r hr => ?_)
      have hr := hr.symm
      subst hr
      refine r_if_eq (pc := 20) C (tgt := 36) dX10_inPlace_20 rfl (fun c4 => ?_) (fun c4 => ?_)
      · rw [if_pos c4] at h
        refine r_iinc (pc := 36) C (v := (x4 + 1)) dX10_inPlace_36 rfl rfl (by decide) rfl ?_
        refine r_goto (pc := 39) C (tgt := 3) dX10_inPlace_39 rfl ?_
        refine r_weak (lSub_s (lSub_s (lSub_s (lSub_s (lSub_s lSub_e))))) ?_
        exact ih x1 x2 x3 (x4 + 1) q  h hq
      · rw [if_neg c4] at h
        refine r_aload_n (pc := 23) C (i := 0) dX10_inPlace_23 rfl rfl ?_
        refine r_iload (pc := 24) C (i := 4) dX10_inPlace_24 rfl ?_
        obtain ⟨q5, hq5, h⟩ := bnd h
        refine r_callVp_CI (Cn := RX10) (pc := 26) C [.int x4] (c_X10_placeOf E l k a S x4 hq5) [0, 1, 2, 3, 4, 5, 6, 7, 8, 9, 10, 11, 12] rfl (by decide) 0 rfl rfl rfl g_X10_129 hd_X10_placeOf ⟨Nat.le_of_ble_eq_true rfl, Nat.le_of_ble_eq_true rfl⟩ ⟨Nat.zero_le _, Nat.zero_le _⟩ (Nat.le_of_ble_eq_true rfl) rfl dX10_inPlace_26 (fun r hr => ?_)
        have hr := hr.symm
        subst hr
        refine r_iload_n (pc := 29) C (i := 3) dX10_inPlace_29 rfl rfl ?_
        refine r_icmp_ne (pc := 30) C (tgt := 36) dX10_inPlace_30 rfl (fun c6 => ?_) (fun c6 => ?_)
        · rw [if_neg c6] at h
          refine r_iinc (pc := 36) C (v := (x4 + 1)) dX10_inPlace_36 rfl rfl (by decide) rfl ?_
          refine r_goto (pc := 39) C (tgt := 3) dX10_inPlace_39 rfl ?_
          refine r_weak (lSub_s (lSub_s (lSub_s (lSub_s (lSub_s lSub_e))))) ?_
          exact ih x1 x2 x3 (x4 + 1) q  h hq
        · rw [if_pos c6] at h
          refine r_iload (pc := 33) C (i := 4) dX10_inPlace_33 rfl ?_
          cases h
          exact r_ireti (pc := 35) C hq (Nat.zero_le _) (Nat.zero_le _) dX10_inPlace_35
def M_X10_inPlace_0 (k : Nat) (S : Nat → Nat → Int32) (p0 : Int32) (p1 : Int32) (p2 : Int32) : Option (Int32) := M_X10_inPlace_3 k S k p0 p1 p2 (0 : Int32)
set_option maxRecDepth 100000 in
set_option maxHeartbeats 4000000 in
theorem N_X10_inPlace_0 (C : CX E p l s m args meth c cX10_inPlace 5 RX10 (some .int) A) (a : Nat → Nat) (k : Nat) (S : Nat → Nat → Int32) {post : Int32 → va_W → Prop} :
    ∀ (p0 : Int32) (p1 : Int32) (p2 : Int32) (q : Int32), M_X10_inPlace_0 k S p0 p1 p2 = some q → post q (wMd E a S) →
      WW E p l e rm_X10_inPlace s m args below meth c A 0 0 (QI E below post args s rm_X10_inPlace A) (wMd E a S) 5 [some (.ref (a 0)), some (.int p0), some (.int p1), some (.int p2), none] 0 [] := by
  intro p0 p1 p2 q  h hq
  unfold M_X10_inPlace_0 at h
  refine r_iconst (pc := 0) C (v := 0) dX10_inPlace_0 (by decide) ?_
  refine r_istore (pc := 1) C (i := 4) dX10_inPlace_1 (by decide) rfl ?_
  refine r_weak (lSub_s (lSub_s (lSub_s (lSub_s (lSub_s lSub_e))))) ?_
  exact N_X10_inPlace_3 C a k S k p0 p1 p2 (0 : Int32) q  h hq
def M_X10_inPlace (k : Nat) (S : Nat → Nat → Int32) (p0 : Int32) (p1 : Int32) (p2 : Int32) : Option (Int32) := M_X10_inPlace_0 k S p0 p1 p2
set_option maxRecDepth 100000 in
set_option maxHeartbeats 4000000 in
theorem c_X10_inPlace (E : ENV) (l : Launch) (k : Nat) (a : Nat → Nat) (S : Nat → Nat → Int32) (p0 : Int32) (p1 : Int32) (p2 : Int32) {q : Int32} (hm : M_X10_inPlace k S p0 p1 p2 = some q) : CI E l yX10_inPlace cX10_inPlace 5 (some .int) rm_X10_inPlace [.ref (a 0), .int p0, .int p1, .int p2] (wMd E a S) (fun r w' => r = q ∧ w' = (wMd E a S)) :=
  CI.of 1 (by decide) (Nat.le_of_ble_eq_true rfl) (fun p e s m below meth c A C _ => r_weak (lSub_s (lSub_s (lSub_s (lSub_s (lSub_n lSub_e))))) (N_X10_inPlace_0 C a k S p0 p1 p2 q  hm ⟨rfl, rfl⟩))
-- ShardGuardModel.loadOf(I)I
theorem dX10_loadOf_0 : decode cX10_loadOf 0 = .ok (.iconst 0, 1) := by decide +kernel
theorem dX10_loadOf_1 : decode cX10_loadOf 1 = .ok (.istore_n 2, 1) := by decide +kernel
theorem dX10_loadOf_2 : decode cX10_loadOf 2 = .ok (.iconst 0, 1) := by decide +kernel
theorem dX10_loadOf_3 : decode cX10_loadOf 3 = .ok (.istore_n 3, 1) := by decide +kernel
theorem dX10_loadOf_4 : decode cX10_loadOf 4 = .ok (.iload_n 3, 1) := by decide +kernel
theorem dX10_loadOf_5 : decode cX10_loadOf 5 = .ok (.aload_n 0, 1) := by decide +kernel
theorem dX10_loadOf_6 : decode cX10_loadOf 6 = .ok (.invokevirtual 117, 3) := by decide +kernel
theorem dX10_loadOf_9 : decode cX10_loadOf 9 = .ok (.if_icmp .ge 32, 3) := by decide +kernel
theorem dX10_loadOf_12 : decode cX10_loadOf 12 = .ok (.iload_n 2, 1) := by decide +kernel
theorem dX10_loadOf_13 : decode cX10_loadOf 13 = .ok (.aload_n 0, 1) := by decide +kernel
theorem dX10_loadOf_14 : decode cX10_loadOf 14 = .ok (.iload_n 3, 1) := by decide +kernel
theorem dX10_loadOf_15 : decode cX10_loadOf 15 = .ok (.iconst 0, 1) := by decide +kernel
theorem dX10_loadOf_16 : decode cX10_loadOf 16 = .ok (.iload_n 1, 1) := by decide +kernel
theorem dX10_loadOf_17 : decode cX10_loadOf 17 = .ok (.invokevirtual 126, 3) := by decide +kernel
theorem dX10_loadOf_20 : decode cX10_loadOf 20 = .ok (.ifCond .eq 12, 3) := by decide +kernel
theorem dX10_loadOf_23 : decode cX10_loadOf 23 = .ok (.aload_n 0, 1) := by decide +kernel
theorem dX10_loadOf_24 : decode cX10_loadOf 24 = .ok (.iload_n 3, 1) := by decide +kernel
theorem dX10_loadOf_25 : decode cX10_loadOf 25 = .ok (.iconst 2, 1) := by decide +kernel
theorem dX10_loadOf_26 : decode cX10_loadOf 26 = .ok (.invokevirtual 123, 3) := by decide +kernel
theorem dX10_loadOf_29 : decode cX10_loadOf 29 = .ok (.goto 4, 3) := by decide +kernel
theorem dX10_loadOf_32 : decode cX10_loadOf 32 = .ok (.iconst 0, 1) := by decide +kernel
theorem dX10_loadOf_33 : decode cX10_loadOf 33 = .ok (.iadd, 1) := by decide +kernel
theorem dX10_loadOf_34 : decode cX10_loadOf 34 = .ok (.istore_n 2, 1) := by decide +kernel
theorem dX10_loadOf_35 : decode cX10_loadOf 35 = .ok (.iinc 3 1, 3) := by decide +kernel
theorem dX10_loadOf_38 : decode cX10_loadOf 38 = .ok (.goto (-34), 3) := by decide +kernel
theorem dX10_loadOf_41 : decode cX10_loadOf 41 = .ok (.iload_n 2, 1) := by decide +kernel
theorem dX10_loadOf_42 : decode cX10_loadOf 42 = .ok (.ireturn, 1) := by decide +kernel
def rm_X10_loadOf : Room := { frames := 3, cells := 0, slots := 0, locals := 66 }
def M_X10_loadOf_4 (k : Nat) (S : Nat → Nat → Int32) : Nat → (Int32) → (Int32) → (Int32) → Option (Int32)
  | 0, _, _, _ => none
  | n + 1, x1, x2, x3 => (M_X10_requests k S).bind fun q1 => if q1 ≤ x3 then (some x2) else ((M_X10_isIn k S x3 (0 : Int32) x1).bind fun q3 => if q3 = 0 then (lt (x2 + (0 : Int32)) fun v5 => M_X10_loadOf_4 k S n x1 v5 (x3 + 1)) else ((M_X10_of k S x3 (2 : Int32)).bind fun q6 => lt (x2 + q6) fun v7 => M_X10_loadOf_4 k S n x1 v7 (x3 + 1)))
theorem M_X10_loadOf_4_s (k : Nat) (S : Nat → Nat → Int32) (n : Nat) (x1 : Int32) (x2 : Int32) (x3 : Int32) : M_X10_loadOf_4 k S (n + 1) x1 x2 x3 = ((M_X10_requests k S).bind fun q1 => if q1 ≤ x3 then (some x2) else ((M_X10_isIn k S x3 (0 : Int32) x1).bind fun q3 => if q3 = 0 then (lt (x2 + (0 : Int32)) fun v5 => M_X10_loadOf_4 k S n x1 v5 (x3 + 1)) else ((M_X10_of k S x3 (2 : Int32)).bind fun q6 => lt (x2 + q6) fun v7 => M_X10_loadOf_4 k S n x1 v7 (x3 + 1)))) := rfl
set_option maxRecDepth 100000 in
set_option maxHeartbeats 4000000 in
theorem N_X10_loadOf_4 (C : CX E p l s m args meth c cX10_loadOf 4 RX10 (some .int) A) (a : Nat → Nat) (k : Nat) (S : Nat → Nat → Int32) {post : Int32 → va_W → Prop} :
    ∀ (n : Nat) (x1 : Int32) (x2 : Int32) (x3 : Int32) (q : Int32), M_X10_loadOf_4 k S n x1 x2 x3 = some q → post q (wMd E a S) →
      WW E p l e rm_X10_loadOf s m args below meth c A 0 0 (QI E below post args s rm_X10_loadOf A) (wMd E a S) 4 [some (.ref (a 0)), some (.int x1), some (.int x2), some (.int x3)] 4 [] := by
  intro n
  induction n with
  | zero => intro x1 x2 x3 q  h _; cases h
  | succ n ih =>
    intro x1 x2 x3 q  h hq
    rw [M_X10_loadOf_4_s] at h
    refine r_iload_n (pc := 4) C (i := 3) dX10_loadOf_4 rfl rfl ?_
    refine r_aload_n (pc := 5) C (i := 0) dX10_loadOf_5 rfl rfl ?_
    obtain ⟨q1, hq1, h⟩ := bnd h
    refine r_callVp_CI (Cn := RX10) (pc := 6) C [] (c_X10_requests E l k a S hq1) [0, 1, 2, 3, 4, 5, 6, 7, 8, 9, 10, 11, 12] rfl (by decide) 0 rfl rfl rfl g_X10_117 hd_X10_requests ⟨Nat.le_of_ble_eq_true rfl, Nat.le_of_ble_eq_true rfl⟩ ⟨Nat.zero_le _, Nat.zero_le _⟩ (Nat.le_of_ble_eq_true rfl) rfl dX10_loadOf_6 (fun r hr => ?_)
    have hr := hr.symm
    subst hr
    refine r_icmp_ge (pc := 9) C (tgt := 41) dX10_loadOf_9 rfl (fun c2 => ?_) (fun c2 => ?_)
    · rw [if_pos c2] at h
      refine r_iload_n (pc := 41) C (i := 2) dX10_loadOf_41 rfl rfl ?_
      cases h
      exact r_ireti (pc := 42) C hq (Nat.zero_le _) (Nat.zero_le _) dX10_loadOf_42
    · rw [if_neg c2] at h
      refine r_iload_n (pc := 12) C (i := 2) dX10_loadOf_12 rfl rfl ?_
      refine r_aload_n (pc := 13) C (i := 0) dX10_loadOf_13 rfl rfl ?_
      refine r_iload_n (pc := 14) C (i := 3) dX10_loadOf_14 rfl rfl ?_
      refine r_iconst (pc := 15) C (v := 0) dX10_loadOf_15 (by decide) ?_
      refine r_iload_n (pc := 16) C (i := 1) dX10_loadOf_16 rfl rfl ?_
      obtain ⟨q3, hq3, h⟩ := bnd h
      refine r_callVp_CI (Cn := RX10) (pc := 17) C [.int x3, .int (0 : Int32), .int x1] (c_X10_isIn E l k a S x3 (0 : Int32) x1 hq3) [0, 1, 2, 3, 4, 5, 6, 7, 8, 9, 10, 11, 12] rfl (by decide) 0 rfl rfl rfl g_X10_126 hd_X10_isIn ⟨Nat.le_of_ble_eq_true rfl, Nat.le_of_ble_eq_true rfl⟩ ⟨Nat.zero_le _, Nat.zero_le _⟩ (Nat.le_of_ble_eq_true rfl) rfl dX10_loadOf_17 (fun r hr => ?_)
      have hr := hr.symm
      subst hr
      refine r_if_eq (pc := 20) C (tgt := 32) dX10_loadOf_20 rfl (fun c4 => ?_) (fun c4 => ?_)
      · rw [if_pos c4] at h
        refine r_iconst (pc := 32) C (v := 0) dX10_loadOf_32 (by decide) ?_
        refine r_iadd (pc := 33) C dX10_loadOf_33 ?_
        obtain ⟨v5, hv5, h⟩ := lt_e h
        refine r_topi hv5 ?_
        refine r_istore_n (pc := 34) C (i := 2) dX10_loadOf_34 rfl (by decide) rfl ?_
        refine r_iinc (pc := 35) C (v := (x3 + 1)) dX10_loadOf_35 rfl rfl (by decide) rfl ?_
        refine r_goto (pc := 38) C (tgt := 4) dX10_loadOf_38 rfl ?_
        refine r_weak (lSub_s (lSub_s (lSub_s (lSub_s lSub_e)))) ?_
        exact ih x1 v5 (x3 + 1) q  h hq
      · rw [if_neg c4] at h
        refine r_aload_n (pc := 23) C (i := 0) dX10_loadOf_23 rfl rfl ?_
        refine r_iload_n (pc := 24) C (i := 3) dX10_loadOf_24 rfl rfl ?_
        refine r_iconst (pc := 25) C (v := 2) dX10_loadOf_25 (by decide) ?_
        obtain ⟨q6, hq6, h⟩ := bnd h
        refine r_callVp_CI (Cn := RX10) (pc := 26) C [.int x3, .int (2 : Int32)] (c_X10_of E l k a S x3 (2 : Int32) hq6) [0, 1, 2, 3, 4, 5, 6, 7, 8, 9, 10, 11, 12] rfl (by decide) 0 rfl rfl rfl g_X10_123 hd_X10_of ⟨Nat.le_of_ble_eq_true rfl, Nat.le_of_ble_eq_true rfl⟩ ⟨Nat.zero_le _, Nat.zero_le _⟩ (Nat.le_of_ble_eq_true rfl) rfl dX10_loadOf_26 (fun r hr => ?_)
        have hr := hr.symm
        subst hr
        refine r_goto (pc := 29) C (tgt := 33) dX10_loadOf_29 rfl ?_
        refine r_iadd (pc := 33) C dX10_loadOf_33 ?_
        obtain ⟨v7, hv7, h⟩ := lt_e h
        refine r_topi hv7 ?_
        refine r_istore_n (pc := 34) C (i := 2) dX10_loadOf_34 rfl (by decide) rfl ?_
        refine r_iinc (pc := 35) C (v := (x3 + 1)) dX10_loadOf_35 rfl rfl (by decide) rfl ?_
        refine r_goto (pc := 38) C (tgt := 4) dX10_loadOf_38 rfl ?_
        refine r_weak (lSub_s (lSub_s (lSub_s (lSub_s lSub_e)))) ?_
        exact ih x1 v7 (x3 + 1) q  h hq
def M_X10_loadOf_0 (k : Nat) (S : Nat → Nat → Int32) (p0 : Int32) : Option (Int32) := M_X10_loadOf_4 k S k p0 (0 : Int32) (0 : Int32)
set_option maxRecDepth 100000 in
set_option maxHeartbeats 4000000 in
theorem N_X10_loadOf_0 (C : CX E p l s m args meth c cX10_loadOf 4 RX10 (some .int) A) (a : Nat → Nat) (k : Nat) (S : Nat → Nat → Int32) {post : Int32 → va_W → Prop} :
    ∀ (p0 : Int32) (q : Int32), M_X10_loadOf_0 k S p0 = some q → post q (wMd E a S) →
      WW E p l e rm_X10_loadOf s m args below meth c A 0 0 (QI E below post args s rm_X10_loadOf A) (wMd E a S) 4 [some (.ref (a 0)), some (.int p0), none, none] 0 [] := by
  intro p0 q  h hq
  unfold M_X10_loadOf_0 at h
  refine r_iconst (pc := 0) C (v := 0) dX10_loadOf_0 (by decide) ?_
  refine r_istore_n (pc := 1) C (i := 2) dX10_loadOf_1 rfl (by decide) rfl ?_
  refine r_iconst (pc := 2) C (v := 0) dX10_loadOf_2 (by decide) ?_
  refine r_istore_n (pc := 3) C (i := 3) dX10_loadOf_3 rfl (by decide) rfl ?_
  refine r_weak (lSub_s (lSub_s (lSub_s (lSub_s lSub_e)))) ?_
  exact N_X10_loadOf_4 C a k S k p0 (0 : Int32) (0 : Int32) q  h hq
def M_X10_loadOf (k : Nat) (S : Nat → Nat → Int32) (p0 : Int32) : Option (Int32) := M_X10_loadOf_0 k S p0
set_option maxRecDepth 100000 in
set_option maxHeartbeats 4000000 in
theorem c_X10_loadOf (E : ENV) (l : Launch) (k : Nat) (a : Nat → Nat) (S : Nat → Nat → Int32) (p0 : Int32) {q : Int32} (hm : M_X10_loadOf k S p0 = some q) : CI E l yX10_loadOf cX10_loadOf 4 (some .int) rm_X10_loadOf [.ref (a 0), .int p0] (wMd E a S) (fun r w' => r = q ∧ w' = (wMd E a S)) :=
  CI.of 2 (by decide) (Nat.le_of_ble_eq_true rfl) (fun p e s m below meth c A C _ => r_weak (lSub_s (lSub_s (lSub_n (lSub_n lSub_e)))) (N_X10_loadOf_0 C a k S p0 q  hm ⟨rfl, rfl⟩))
end WALKS
