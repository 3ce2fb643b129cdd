section WALKS
variable {E : ENV} {p : Program} {l : Launch} {e : Env} {s : State} {m : MethodId} {args : Array Value} {below : List Frame} {meth : Method} {c : Code} {A : Nat → Prop}
-- ShardGuard$Table.put(III)V
theorem dX6_put_0 : decode cX6_put 0 = .ok (.iload_n 1, 1) := by decide +kernel
theorem dX6_put_1 : decode cX6_put 1 = .ok (.aload_n 0, 1) := by decide +kernel
theorem dX6_put_2 : decode cX6_put 2 = .ok (.getfield 13, 3) := by decide +kernel
theorem dX6_put_5 : decode cX6_put 5 = .ok (.imul, 1) := by decide +kernel
theorem dX6_put_6 : decode cX6_put 6 = .ok (.iload_n 2, 1) := by decide +kernel
theorem dX6_put_7 : decode cX6_put 7 = .ok (.iadd, 1) := by decide +kernel
theorem dX6_put_8 : decode cX6_put 8 = .ok (.istore 4, 2) := by decide +kernel
theorem dX6_put_10 : decode cX6_put 10 = .ok (.iload_n 1, 1) := by decide +kernel
theorem dX6_put_11 : decode cX6_put 11 = .ok (.ifCond .lt 27, 3) := by decide +kernel
theorem dX6_put_14 : decode cX6_put 14 = .ok (.iload_n 1, 1) := by decide +kernel
theorem dX6_put_15 : decode cX6_put 15 = .ok (.aload_n 0, 1) := by decide +kernel
theorem dX6_put_16 : decode cX6_put 16 = .ok (.getfield 7, 3) := by decide +kernel
theorem dX6_put_19 : decode cX6_put 19 = .ok (.if_icmp .ge 19, 3) := by decide +kernel
theorem dX6_put_22 : decode cX6_put 22 = .ok (.iload_n 2, 1) := by decide +kernel
theorem dX6_put_23 : decode cX6_put 23 = .ok (.ifCond .lt 15, 3) := by decide +kernel
theorem dX6_put_26 : decode cX6_put 26 = .ok (.iload_n 2, 1) := by decide +kernel
theorem dX6_put_27 : decode cX6_put 27 = .ok (.aload_n 0, 1) := by decide +kernel
theorem dX6_put_28 : decode cX6_put 28 = .ok (.getfield 13, 3) := by decide +kernel
theorem dX6_put_31 : decode cX6_put 31 = .ok (.if_icmp .ge 7, 3) := by decide +kernel
theorem dX6_put_34 : decode cX6_put 34 = .ok (.iconst 1, 1) := by decide +kernel
theorem dX6_put_35 : decode cX6_put 35 = .ok (.goto 4, 3) := by decide +kernel
theorem dX6_put_38 : decode cX6_put 38 = .ok (.iconst 0, 1) := by decide +kernel
theorem dX6_put_39 : decode cX6_put 39 = .ok (.istore 5, 2) := by decide +kernel
theorem dX6_put_41 : decode cX6_put 41 = .ok (.iload 5, 2) := by decide +kernel
theorem dX6_put_43 : decode cX6_put 43 = .ok (.ifCond .eq 26, 3) := by decide +kernel
theorem dX6_put_46 : decode cX6_put 46 = .ok (.iload 4, 2) := by decide +kernel
theorem dX6_put_48 : decode cX6_put 48 = .ok (.ifCond .lt 21, 3) := by decide +kernel
theorem dX6_put_51 : decode cX6_put 51 = .ok (.iload 4, 2) := by decide +kernel
theorem dX6_put_53 : decode cX6_put 53 = .ok (.aload_n 0, 1) := by decide +kernel
theorem dX6_put_54 : decode cX6_put 54 = .ok (.getfield 16, 3) := by decide +kernel
theorem dX6_put_57 : decode cX6_put 57 = .ok (.arraylength, 1) := by decide +kernel
theorem dX6_put_58 : decode cX6_put 58 = .ok (.if_icmp .ge 11, 3) := by decide +kernel
theorem dX6_put_61 : decode cX6_put 61 = .ok (.aload_n 0, 1) := by decide +kernel
theorem dX6_put_62 : decode cX6_put 62 = .ok (.getfield 16, 3) := by decide +kernel
theorem dX6_put_65 : decode cX6_put 65 = .ok (.iload 4, 2) := by decide +kernel
theorem dX6_put_67 : decode cX6_put 67 = .ok (.iload_n 3, 1) := by decide +kernel
theorem dX6_put_68 : decode cX6_put 68 = .ok (.iastore, 1) := by decide +kernel
theorem dX6_put_69 : decode cX6_put 69 = .ok (.return_, 1) := by decide +kernel
def rm_X6_put : Room := { frames := 0, cells := 0, slots := 0, locals := 0 }
def M_X6_put_39 (k : Nat) (rr : Int32) (rc : Int32) (nn : Nat) (x3 : Int32) (x4 : Int32) (y0 : Int32) (S : Nat → Int32) : Option ((Nat → Int32)) := if y0 = 0 then (some S) else (if x4 < 0 then (some S) else (if (nI nn) ≤ x4 then (some S) else ((if inb x4 nn = true then lt (upd S x4.toNatClampNeg x3) fun F5 => some F5 else none))))
set_option maxRecDepth 100000 in
set_option maxHeartbeats 4000000 in
theorem N_X6_put_39 (C : CX E p l s m args meth c cX6_put 6 RX6 none A) (a : Nat → Nat) (k : Nat) (rr : Int32) (rc : Int32) (nn : Nat) {post : va_W → Prop} :
    ∀ (x3 : Int32) (x4 : Int32) (y0 : Int32) (S : Nat → Int32) (q : (Nat → Int32)), M_X6_put_39 k rr rc nn x3 x4 y0 S = some q → post (wTab E a rr rc nn q) →
      WW E p l e rm_X6_put s m args below meth c A 0 0 (QV E below post args s rm_X6_put A) (wTab E a rr rc nn S) 6 [some (.ref (a 0)), none, none, some (.int x3), some (.int x4), none] 39 [.int y0] := by
  intro x3 x4 y0 S q  h hq
  unfold M_X6_put_39 at h
  refine r_istore (pc := 39) C (i := 5) dX6_put_39 (by decide) rfl ?_
  refine r_iload (pc := 41) C (i := 5) dX6_put_41 rfl ?_
  refine r_if_eq (pc := 43) C (tgt := 69) dX6_put_43 rfl (fun c1 => ?_) (fun c1 => ?_)
  · rw [if_pos c1] at h
    cases h
    exact r_vret (pc := 69) C hq (Nat.zero_le _) (Nat.zero_le _) dX6_put_69
  · rw [if_neg c1] at h
    refine r_iload (pc := 46) C (i := 4) dX6_put_46 rfl ?_
    refine r_if_lt (pc := 48) C (tgt := 69) dX6_put_48 rfl (fun c2 => ?_) (fun c2 => ?_)
    · rw [if_pos c2] at h
      cases h
      exact r_vret (pc := 69) C hq (Nat.zero_le _) (Nat.zero_le _) dX6_put_69
    · rw [if_neg c2] at h
      refine r_iload (pc := 51) C (i := 4) dX6_put_51 rfl ?_
      refine r_aload_n (pc := 53) C (i := 0) dX6_put_53 rfl rfl ?_
      refine r_get (pc := 54) C gwX6 0 rfl rfl 2 (by decide) wm_1_59 rfl dX6_put_54 ?_
      refine r_alen (pc := 57) C 1 0 rfl rfl dX6_put_57 ?_
      refine r_icmp_ge (pc := 58) C (tgt := 69) dX6_put_58 rfl (fun c3 => ?_) (fun c3 => ?_)
      · rw [if_pos c3] at h
        cases h
        exact r_vret (pc := 69) C hq (Nat.zero_le _) (Nat.zero_le _) dX6_put_69
      · rw [if_neg c3] at h
        refine r_aload_n (pc := 61) C (i := 0) dX6_put_61 rfl rfl ?_
        refine r_get (pc := 62) C gwX6 0 rfl rfl 2 (by decide) wm_1_59 rfl dX6_put_62 ?_
        refine r_iload (pc := 65) C (i := 4) dX6_put_65 rfl ?_
        refine r_iload_n (pc := 67) C (i := 3) dX6_put_67 rfl rfl ?_
        obtain ⟨hi4, h⟩ := ifn h
        obtain ⟨F5, hF5, h⟩ := lt_e h
        refine r_iast (pc := 68) C 1 rfl hi4 (w' := (wTab E a rr rc nn F5)) (by rw [hF5]; rfl) dX6_put_68 ?_
        cases h
        exact r_vret (pc := 69) C hq (Nat.zero_le _) (Nat.zero_le _) dX6_put_69
def M_X6_put_0 (k : Nat) (rr : Int32) (rc : Int32) (nn : Nat) (p0 : Int32) (p1 : Int32) (p2 : Int32) (S : Nat → Int32) : Option ((Nat → Int32)) := lt ((p0 * rc) + p1) fun v6 => if p0 < 0 then (M_X6_put_39 k rr rc nn p2 v6 (0 : Int32) S) else (if rr ≤ p0 then (M_X6_put_39 k rr rc nn p2 v6 (0 : Int32) S) else (if p1 < 0 then (M_X6_put_39 k rr rc nn p2 v6 (0 : Int32) S) else (if rc ≤ p1 then (M_X6_put_39 k rr rc nn p2 v6 (0 : Int32) S) else (M_X6_put_39 k rr rc nn p2 v6 (1 : Int32) S))))
set_option maxRecDepth 100000 in
set_option maxHeartbeats 4000000 in
theorem N_X6_put_0 (C : CX E p l s m args meth c cX6_put 6 RX6 none A) (a : Nat → Nat) (k : Nat) (rr : Int32) (rc : Int32) (nn : Nat) {post : va_W → Prop} :
    ∀ (p0 : Int32) (p1 : Int32) (p2 : Int32) (S : Nat → Int32) (q : (Nat → Int32)), M_X6_put_0 k rr rc nn p0 p1 p2 S = some q → post (wTab E a rr rc nn q) →
      WW E p l e rm_X6_put s m args below meth c A 0 0 (QV E below post args s rm_X6_put A) (wTab E a rr rc nn S) 6 [some (.ref (a 0)), some (.int p0), some (.int p1), some (.int p2), none, none] 0 [] := by
  intro p0 p1 p2 S q  h hq
  unfold M_X6_put_0 at h
  refine r_iload_n (pc := 0) C (i := 1) dX6_put_0 rfl rfl ?_
  refine r_aload_n (pc := 1) C (i := 0) dX6_put_1 rfl rfl ?_
  refine r_get (pc := 2) C gwX6 0 rfl rfl 1 (by decide) wm_1_58 rfl dX6_put_2 ?_
  refine r_imul (pc := 5) C dX6_put_5 ?_
  refine r_iload_n (pc := 6) C (i := 2) dX6_put_6 rfl rfl ?_
  refine r_iadd (pc := 7) C dX6_put_7 ?_
  obtain ⟨v6, hv6, h⟩ := lt_e h
  refine r_topi hv6 ?_
  refine r_istore (pc := 8) C (i := 4) dX6_put_8 (by decide) rfl ?_
  refine r_iload_n (pc := 10) C (i := 1) dX6_put_10 rfl rfl ?_
  refine r_if_lt (pc := 11) C (tgt := 38) dX6_put_11 rfl (fun c7 => ?_) (fun c7 => ?_)
  · rw [if_pos c7] at h
    refine r_iconst (pc := 38) C (v := 0) dX6_put_38 (by decide) ?_
    refine r_weak (lSub_s (lSub_n (lSub_n (lSub_s (lSub_s (lSub_n lSub_e)))))) ?_
    exact N_X6_put_39 C a k rr rc nn p2 v6 (0 : Int32) S q  h hq
  · rw [if_neg c7] at h
    refine r_iload_n (pc := 14) C (i := 1) dX6_put_14 rfl rfl ?_
    refine r_aload_n (pc := 15) C (i := 0) dX6_put_15 rfl rfl ?_
    refine r_get (pc := 16) C gwX6 0 rfl rfl 0 (by decide) wm_1_57 rfl dX6_put_16 ?_
    refine r_icmp_ge (pc := 19) C (tgt := 38) dX6_put_19 rfl (fun c8 => ?_) (fun c8 => ?_)
    · rw [if_pos c8] at h
      refine r_iconst (pc := 38) C (v := 0) dX6_put_38 (by decide) ?_
      refine r_weak (lSub_s (lSub_n (lSub_n (lSub_s (lSub_s (lSub_n lSub_e)))))) ?_
      exact N_X6_put_39 C a k rr rc nn p2 v6 (0 : Int32) S q  h hq
    · rw [if_neg c8] at h
      refine r_iload_n (pc := 22) C (i := 2) dX6_put_22 rfl rfl ?_
      refine r_if_lt (pc := 23) C (tgt := 38) dX6_put_23 rfl (fun c9 => ?_) (fun c9 => ?_)
      · rw [if_pos c9] at h
        refine r_iconst (pc := 38) C (v := 0) dX6_put_38 (by decide) ?_
        refine r_weak (lSub_s (lSub_n (lSub_n (lSub_s (lSub_s (lSub_n lSub_e)))))) ?_
        exact N_X6_put_39 C a k rr rc nn p2 v6 (0 : Int32) S q  h hq
      · rw [if_neg c9] at h
        refine r_iload_n (pc := 26) C (i := 2) dX6_put_26 rfl rfl ?_
        refine r_aload_n (pc := 27) C (i := 0) dX6_put_27 rfl rfl ?_
        refine r_get (pc := 28) C gwX6 0 rfl rfl 1 (by decide) wm_1_58 rfl dX6_put_28 ?_
        refine r_icmp_ge (pc := 31) C (tgt := 38) dX6_put_31 rfl (fun c10 => ?_) (fun c10 => ?_)
        · rw [if_pos c10] at h
          refine r_iconst (pc := 38) C (v := 0) dX6_put_38 (by decide) ?_
          refine r_weak (lSub_s (lSub_n (lSub_n (lSub_s (lSub_s (lSub_n lSub_e)))))) ?_
          exact N_X6_put_39 C a k rr rc nn p2 v6 (0 : Int32) S q  h hq
        · rw [if_neg c10] at h
          refine r_iconst (pc := 34) C (v := 1) dX6_put_34 (by decide) ?_
          refine r_goto (pc := 35) C (tgt := 39) dX6_put_35 rfl ?_
          refine r_weak (lSub_s (lSub_n (lSub_n (lSub_s (lSub_s (lSub_n lSub_e)))))) ?_
          exact N_X6_put_39 C a k rr rc nn p2 v6 (1 : Int32) S q  h hq
def M_X6_put (k : Nat) (rr : Int32) (rc : Int32) (nn : Nat) (S : Nat → Int32) (p0 : Int32) (p1 : Int32) (p2 : Int32) : Option ((Nat → Int32)) := M_X6_put_0 k rr rc nn p0 p1 p2 S
set_option maxRecDepth 100000 in
set_option maxHeartbeats 4000000 in
theorem c_X6_put (E : ENV) (l : Launch) (k : Nat) (a : Nat → Nat) (rr : Int32) (rc : Int32) (nn : Nat) (S : Nat → Int32) (p0 : Int32) (p1 : Int32) (p2 : Int32) {q : (Nat → Int32)} (hm : M_X6_put k rr rc nn S p0 p1 p2 = some q) : CV E l yX6_put cX6_put 6 none rm_X6_put [.ref (a 0), .int p0, .int p1, .int p2] (wTab E a rr rc nn S) (fun w' => w' = (wTab E a rr rc nn q)) :=
  CV.of 2 (by decide) (Nat.le_of_ble_eq_true rfl) (fun p e s m below meth c A C _ => r_weak (lSub_s (lSub_s (lSub_s (lSub_s (lSub_n (lSub_n lSub_e)))))) (N_X6_put_0 C a k rr rc nn p0 p1 p2 S q  hm rfl))
theorem hd_X6_at : yX6_at.cls = RX6 ∧ yX6_at.cls ≠ "java/lang/invoke/MethodHandle" ∧ yX6_at.cls ≠ "java/lang/invoke/VarHandle" ∧ (parseMethodDescriptor yX6_at.desc).map (fun d => d.parameters.length) = some 2 := by decide +kernel
theorem g_X6_20 : GoodIn GW (wsV RX6 20 RX6 yX6_at (wsG yX6_at cX6_at 5 (some .int))) := gw_V wm_4_179 wm_2_59 wm_2_60 wm_1_4 wm_2_61
theorem hd_X6_put : yX6_put.cls = RX6 ∧ yX6_put.cls ≠ "java/lang/invoke/MethodHandle" ∧ yX6_put.cls ≠ "java/lang/invoke/VarHandle" ∧ (parseMethodDescriptor yX6_put.desc).map (fun d => d.parameters.length) = some 3 := by decide +kernel
theorem g_X6_24 : GoodIn GW (wsV RX6 24 RX6 yX6_put (wsG yX6_put cX6_put 6 none)) := gw_V wm_4_180 wm_2_12 wm_2_13 wm_1_4 wm_2_14
-- ShardGuard$Table.add(III)V
theorem dX6_add_0 : decode cX6_add 0 = .ok (.aload_n 0, 1) := by decide +kernel
theorem dX6_add_1 : decode cX6_add 1 = .ok (.iload_n 1, 1) := by decide +kernel
theorem dX6_add_2 : decode cX6_add 2 = .ok (.iload_n 2, 1) := by decide +kernel
theorem dX6_add_3 : decode cX6_add 3 = .ok (.aload_n 0, 1) := by decide +kernel
theorem dX6_add_4 : decode cX6_add 4 = .ok (.iload_n 1, 1) := by decide +kernel
theorem dX6_add_5 : decode cX6_add 5 = .ok (.iload_n 2, 1) := by decide +kernel
theorem dX6_add_6 : decode cX6_add 6 = .ok (.invokevirtual 20, 3) := by decide +kernel
theorem dX6_add_9 : decode cX6_add 9 = .ok (.iload_n 3, 1) := by decide +kernel
theorem dX6_add_10 : decode cX6_add 10 = .ok (.iadd, 1) := by decide +kernel
theorem dX6_add_11 : decode cX6_add 11 = .ok (.invokevirtual 24, 3) := by decide +kernel
theorem dX6_add_14 : decode cX6_add 14 = .ok (.return_, 1) := by decide +kernel
def rm_X6_add : Room := { frames := 1, cells := 0, slots := 0, locals := 25 }
def M_X6_add_0 (k : Nat) (rr : Int32) (rc : Int32) (nn : Nat) (p0 : Int32) (p1 : Int32) (p2 : Int32) (S : Nat → Int32) : Option ((Nat → Int32)) := (M_X6_at k rr rc nn S p0 p1).bind fun q1 => (M_X6_put k rr rc nn S p0 p1 (q1 + p2)).bind fun q2 => some q2
set_option maxRecDepth 100000 in
set_option maxHeartbeats 4000000 in
theorem N_X6_add_0 (C : CX E p l s m args meth c cX6_add 4 RX6 none A) (a : Nat → Nat) (k : Nat) (rr : Int32) (rc : Int32) (nn : Nat) {post : va_W → Prop} :
    ∀ (p0 : Int32) (p1 : Int32) (p2 : Int32) (S : Nat → Int32) (q : (Nat → Int32)), M_X6_add_0 k rr rc nn p0 p1 p2 S = some q → post (wTab E a rr rc nn q) →
      WW E p l e rm_X6_add s m args below meth c A 0 0 (QV E below post args s rm_X6_add A) (wTab E a rr rc nn S) 4 [some (.ref (a 0)), some (.int p0), some (.int p1), some (.int p2)] 0 [] := by
  intro p0 p1 p2 S q  h hq
  unfold M_X6_add_0 at h
  refine r_aload_n (pc := 0) C (i := 0) dX6_add_0 rfl rfl ?_
  refine r_iload_n (pc := 1) C (i := 1) dX6_add_1 rfl rfl ?_
  refine r_iload_n (pc := 2) C (i := 2) dX6_add_2 rfl rfl ?_
  refine r_aload_n (pc := 3) C (i := 0) dX6_add_3 rfl rfl ?_
  refine r_iload_n (pc := 4) C (i := 1) dX6_add_4 rfl rfl ?_
  refine r_iload_n (pc := 5) C (i := 2) dX6_add_5 rfl rfl ?_
  obtain ⟨q1, hq1, h⟩ := bnd h
  refine r_callVp_CI (Cn := RX6) (pc := 6) C [.int p0, .int p1] (c_X6_at E l k a rr rc nn S p0 p1 hq1) [0, 1] rfl (by decide) 0 rfl rfl rfl g_X6_20 hd_X6_at ⟨Nat.le_of_ble_eq_true rfl, Nat.le_of_ble_eq_true rfl⟩ ⟨Nat.zero_le _, Nat.zero_le _⟩ (Nat.le_of_ble_eq_true rfl) rfl dX6_add_6 (fun r hr => ?_)
  have hr := hr.symm
  subst hr
  refine r_iload_n (pc := 9) C (i := 3) dX6_add_9 rfl rfl ?_
  refine r_iadd (pc := 10) C dX6_add_10 ?_
  obtain ⟨q2, hq2, h⟩ := bnd h
  refine r_callV_CV (Cn := RX6) (pc := 11) C [.int p0, .int p1, .int (q1 + p2)] (c_X6_put E l k a rr rc nn S p0 p1 (q1 + p2) hq2) [0, 1] rfl (by decide) 0 rfl rfl rfl g_X6_24 hd_X6_put ⟨Nat.le_of_ble_eq_true rfl, Nat.le_of_ble_eq_true rfl⟩ ⟨Nat.zero_le _, Nat.zero_le _⟩ (Nat.le_of_ble_eq_true rfl) rfl dX6_add_11 (fun w1 hw1 => ?_)
  subst hw1
  refine ⟨(wTab E a rr rc nn q2), by rfl, ?_⟩
  cases h
  exact r_vret (pc := 14) C hq (Nat.zero_le _) (Nat.zero_le _) dX6_add_14
def M_X6_add (k : Nat) (rr : Int32) (rc : Int32) (nn : Nat) (S : Nat → Int32) (p0 : Int32) (p1 : Int32) (p2 : Int32) : Option ((Nat → Int32)) := M_X6_add_0 k rr rc nn p0 p1 p2 S
set_option maxRecDepth 100000 in
set_option maxHeartbeats 4000000 in
theorem c_X6_add (E : ENV) (l : Launch) (k : Nat) (a : Nat → Nat) (rr : Int32) (rc : Int32) (nn : Nat) (S : Nat → Int32) (p0 : Int32) (p1 : Int32) (p2 : Int32) {q : (Nat → Int32)} (hm : M_X6_add k rr rc nn S p0 p1 p2 = some q) : CV E l yX6_add cX6_add 4 none rm_X6_add [.ref (a 0), .int p0, .int p1, .int p2] (wTab E a rr rc nn S) (fun w' => w' = (wTab E a rr rc nn q)) :=
  CV.of 0 (by decide) (Nat.le_of_ble_eq_true rfl) (fun p e s m below meth c A C _ => r_weak (lSub_s (lSub_s (lSub_s (lSub_s lSub_e)))) (N_X6_add_0 C a k rr rc nn p0 p1 p2 S q  hm rfl))
-- ShardGuard$Table.clear()V
theorem dX6_clear_0 : decode cX6_clear 0 = .ok (.iconst 0, 1) := by decide +kernel
theorem dX6_clear_1 : decode cX6_clear 1 = .ok (.istore_n 1, 1) := by decide +kernel
theorem dX6_clear_2 : decode cX6_clear 2 = .ok (.iload_n 1, 1) := by decide +kernel
theorem dX6_clear_3 : decode cX6_clear 3 = .ok (.aload_n 0, 1) := by decide +kernel
theorem dX6_clear_4 : decode cX6_clear 4 = .ok (.getfield 16, 3) := by decide +kernel
theorem dX6_clear_7 : decode cX6_clear 7 = .ok (.arraylength, 1) := by decide +kernel
theorem dX6_clear_8 : decode cX6_clear 8 = .ok (.if_icmp .ge 16, 3) := by decide +kernel
theorem dX6_clear_11 : decode cX6_clear 11 = .ok (.aload_n 0, 1) := by decide +kernel
theorem dX6_clear_12 : decode cX6_clear 12 = .ok (.getfield 16, 3) := by decide +kernel
theorem dX6_clear_15 : decode cX6_clear 15 = .ok (.iload_n 1, 1) := by decide +kernel
theorem dX6_clear_16 : decode cX6_clear 16 = .ok (.iconst 0, 1) := by decide +kernel
theorem dX6_clear_17 : decode cX6_clear 17 = .ok (.iastore, 1) := by decide +kernel
theorem dX6_clear_18 : decode cX6_clear 18 = .ok (.iinc 1 1, 3) := by decide +kernel
theorem dX6_clear_21 : decode cX6_clear 21 = .ok (.goto (-19), 3) := by decide +kernel
theorem dX6_clear_24 : decode cX6_clear 24 = .ok (.return_, 1) := by decide +kernel
def rm_X6_clear : Room := { frames := 0, cells := 0, slots := 0, locals := 0 }
def M_X6_clear_2 (k : Nat) (rr : Int32) (rc : Int32) (nn : Nat) : Nat → (Int32) → (Nat → Int32) → Option ((Nat → Int32))
  | 0, _, _ => none
  | n + 1, x1, S => if (nI nn) ≤ x1 then (some S) else ((if inb x1 nn = true then lt (upd S x1.toNatClampNeg (0 : Int32)) fun F3 => M_X6_clear_2 k rr rc nn n (x1 + 1) F3 else none))
theorem M_X6_clear_2_s (k : Nat) (rr : Int32) (rc : Int32) (nn : Nat) (n : Nat) (x1 : Int32) (S : Nat → Int32) : M_X6_clear_2 k rr rc nn (n + 1) x1 S = (if (nI nn) ≤ x1 then (some S) else ((if inb x1 nn = true then lt (upd S x1.toNatClampNeg (0 : Int32)) fun F3 => M_X6_clear_2 k rr rc nn n (x1 + 1) F3 else none))) := rfl
set_option maxRecDepth 100000 in
set_option maxHeartbeats 4000000 in
theorem N_X6_clear_2 (C : CX E p l s m args meth c cX6_clear 2 RX6 none A) (a : Nat → Nat) (k : Nat) (rr : Int32) (rc : Int32) (nn : Nat) {post : va_W → Prop} :
    ∀ (n : Nat) (x1 : Int32) (S : Nat → Int32) (q : (Nat → Int32)), M_X6_clear_2 k rr rc nn n x1 S = some q → post (wTab E a rr rc nn q) →
      WW E p l e rm_X6_clear s m args below meth c A 0 0 (QV E below post args s rm_X6_clear A) (wTab E a rr rc nn S) 2 [some (.ref (a 0)), some (.int x1)] 2 [] := by
  intro n
  induction n with
  | zero => intro x1 S q  h _; cases h
  | succ n ih =>
    intro x1 S q  h hq
    rw [M_X6_clear_2_s] at h
    refine r_iload_n (pc := 2) C (i := 1) dX6_clear_2 rfl rfl ?_
    refine r_aload_n (pc := 3) C (i := 0) dX6_clear_3 rfl rfl ?_
    refine r_get (pc := 4) C gwX6 0 rfl rfl 2 (by decide) wm_1_59 rfl dX6_clear_4 ?_
    refine r_alen (pc := 7) C 1 0 rfl rfl dX6_clear_7 ?_
    refine r_icmp_ge (pc := 8) C (tgt := 24) dX6_clear_8 rfl (fun c1 => ?_) (fun c1 => ?_)
    · rw [if_pos c1] at h
      cases h
      exact r_vret (pc := 24) C hq (Nat.zero_le _) (Nat.zero_le _) dX6_clear_24
    · rw [if_neg c1] at h
      refine r_aload_n (pc := 11) C (i := 0) dX6_clear_11 rfl rfl ?_
      refine r_get (pc := 12) C gwX6 0 rfl rfl 2 (by decide) wm_1_59 rfl dX6_clear_12 ?_
      refine r_iload_n (pc := 15) C (i := 1) dX6_clear_15 rfl rfl ?_
      refine r_iconst (pc := 16) C (v := 0) dX6_clear_16 (by decide) ?_
      obtain ⟨hi2, h⟩ := ifn h
      obtain ⟨F3, hF3, h⟩ := lt_e h
      refine r_iast (pc := 17) C 1 rfl hi2 (w' := (wTab E a rr rc nn F3)) (by rw [hF3]; rfl) dX6_clear_17 ?_
      refine r_iinc (pc := 18) C (v := (x1 + 1)) dX6_clear_18 rfl rfl (by decide) rfl ?_
      refine r_goto (pc := 21) C (tgt := 2) dX6_clear_21 rfl ?_
      refine r_weak (lSub_s (lSub_s lSub_e)) ?_
      exact ih (x1 + 1) F3 q  h hq
def M_X6_clear_0 (k : Nat) (rr : Int32) (rc : Int32) (nn : Nat) (S : Nat → Int32) : Option ((Nat → Int32)) := M_X6_clear_2 k rr rc nn k (0 : Int32) S
set_option maxRecDepth 100000 in
set_option maxHeartbeats 4000000 in
theorem N_X6_clear_0 (C : CX E p l s m args meth c cX6_clear 2 RX6 none A) (a : Nat → Nat) (k : Nat) (rr : Int32) (rc : Int32) (nn : Nat) {post : va_W → Prop} :
    ∀ (S : Nat → Int32) (q : (Nat → Int32)), M_X6_clear_0 k rr rc nn S = some q → post (wTab E a rr rc nn q) →
      WW E p l e rm_X6_clear s m args below meth c A 0 0 (QV E below post args s rm_X6_clear A) (wTab E a rr rc nn S) 2 [some (.ref (a 0)), none] 0 [] := by
  intro S q  h hq
  unfold M_X6_clear_0 at h
  refine r_iconst (pc := 0) C (v := 0) dX6_clear_0 (by decide) ?_
  refine r_istore_n (pc := 1) C (i := 1) dX6_clear_1 rfl (by decide) rfl ?_
  refine r_weak (lSub_s (lSub_s lSub_e)) ?_
  exact N_X6_clear_2 C a k rr rc nn k (0 : Int32) S q  h hq
def M_X6_clear (k : Nat) (rr : Int32) (rc : Int32) (nn : Nat) (S : Nat → Int32) : Option ((Nat → Int32)) := M_X6_clear_0 k rr rc nn S
set_option maxRecDepth 100000 in
set_option maxHeartbeats 4000000 in
theorem c_X6_clear (E : ENV) (l : Launch) (k : Nat) (a : Nat → Nat) (rr : Int32) (rc : Int32) (nn : Nat) (S : Nat → Int32) {q : (Nat → Int32)} (hm : M_X6_clear k rr rc nn S = some q) : CV E l yX6_clear cX6_clear 2 none rm_X6_clear [.ref (a 0)] (wTab E a rr rc nn S) (fun w' => w' = (wTab E a rr rc nn q)) :=
  CV.of 1 (by decide) (Nat.le_of_ble_eq_true rfl) (fun p e s m below meth c A C _ => r_weak (lSub_s (lSub_n lSub_e)) (N_X6_clear_0 C a k rr rc nn S q  hm rfl))
-- ShardGuard$Table.copyFrom(LShardGuard$Table;)V
theorem dX6_copyFrom_0 : decode cX6_copyFrom 0 = .ok (.aload_n 1, 1) := by decide +kernel
theorem dX6_copyFrom_1 : decode cX6_copyFrom 1 = .ok (.getfield 16, 3) := by decide +kernel
theorem dX6_copyFrom_4 : decode cX6_copyFrom 4 = .ok (.iconst 0, 1) := by decide +kernel
theorem dX6_copyFrom_5 : decode cX6_copyFrom 5 = .ok (.aload_n 0, 1) := by decide +kernel
theorem dX6_copyFrom_6 : decode cX6_copyFrom 6 = .ok (.getfield 16, 3) := by decide +kernel
theorem dX6_copyFrom_9 : decode cX6_copyFrom 9 = .ok (.iconst 0, 1) := by decide +kernel
theorem dX6_copyFrom_10 : decode cX6_copyFrom 10 = .ok (.aload_n 0, 1) := by decide +kernel
theorem dX6_copyFrom_11 : decode cX6_copyFrom 11 = .ok (.getfield 16, 3) := by decide +kernel
theorem dX6_copyFrom_14 : decode cX6_copyFrom 14 = .ok (.arraylength, 1) := by decide +kernel
theorem dX6_copyFrom_15 : decode cX6_copyFrom 15 = .ok (.aload_n 1, 1) := by decide +kernel
theorem dX6_copyFrom_16 : decode cX6_copyFrom 16 = .ok (.getfield 16, 3) := by decide +kernel
theorem dX6_copyFrom_19 : decode cX6_copyFrom 19 = .ok (.arraylength, 1) := by decide +kernel
theorem dX6_copyFrom_20 : decode cX6_copyFrom 20 = .ok (.invokestatic 28, 3) := by decide +kernel
theorem dX6_copyFrom_23 : decode cX6_copyFrom 23 = .ok (.invokestatic 33, 3) := by decide +kernel
theorem dX6_copyFrom_26 : decode cX6_copyFrom 26 = .ok (.return_, 1) := by decide +kernel
def rm_X6_copyFrom : Room := { frames := 1, cells := 0, slots := 0, locals := 80 }
def M_X6_copyFrom_0 (k : Nat) (rr : Int32) (rc : Int32) (nn : Nat) (rr1 : Int32) (rc1 : Int32) (nn1 : Nat) (T : Nat → Int32) (S : Nat → Int32) : Option ((Nat → Int32)) := (if cpOK (0 : Int32) (0 : Int32) (if (nI nn1) < (nI nn) then (nI nn1) else (nI nn)) nn1 nn = true then lt (va_cpy T S (0 : Int32).toNatClampNeg (0 : Int32).toNatClampNeg (if (nI nn1) < (nI nn) then (nI nn1) else (nI nn)).toNatClampNeg) fun F1 => some F1 else none)
set_option maxRecDepth 100000 in
set_option maxHeartbeats 4000000 in
theorem N_X6_copyFrom_0 (C : CX E p l s m args meth c cX6_copyFrom 2 RX6 none A) (a : Nat → Nat) (b : Nat → Nat) (k : Nat) (rr : Int32) (rc : Int32) (nn : Nat) (rr1 : Int32) (rc1 : Int32) (nn1 : Nat) (T : Nat → Int32) {post : va_W → Prop} :
    ∀ (S : Nat → Int32) (q : (Nat → Int32)), M_X6_copyFrom_0 k rr rc nn rr1 rc1 nn1 T S = some q → post (wTab E a rr rc nn q ++ wTab E b rr1 rc1 nn1 T) →
      WW E p l e rm_X6_copyFrom s m args below meth c A 0 0 (QV E below post args s rm_X6_copyFrom A) (wTab E a rr rc nn S ++ wTab E b rr1 rc1 nn1 T) 2 [some (.ref (a 0)), some (.ref (b 0))] 0 [] := by
  intro S q  h hq
  unfold M_X6_copyFrom_0 at h
  refine r_aload_n (pc := 0) C (i := 1) dX6_copyFrom_0 rfl rfl ?_
  refine r_get (pc := 1) C gwX6 2 rfl rfl 2 (by decide) wm_1_59 rfl dX6_copyFrom_1 ?_
  refine r_iconst (pc := 4) C (v := 0) dX6_copyFrom_4 (by decide) ?_
  refine r_aload_n (pc := 5) C (i := 0) dX6_copyFrom_5 rfl rfl ?_
  refine r_get (pc := 6) C gwX6 0 rfl rfl 2 (by decide) wm_1_59 rfl dX6_copyFrom_6 ?_
  refine r_iconst (pc := 9) C (v := 0) dX6_copyFrom_9 (by decide) ?_
  refine r_aload_n (pc := 10) C (i := 0) dX6_copyFrom_10 rfl rfl ?_
  refine r_get (pc := 11) C gwX6 0 rfl rfl 2 (by decide) wm_1_59 rfl dX6_copyFrom_11 ?_
  refine r_alen (pc := 14) C 1 0 rfl rfl dX6_copyFrom_14 ?_
  refine r_aload_n (pc := 15) C (i := 1) dX6_copyFrom_15 rfl rfl ?_
  refine r_get (pc := 16) C gwX6 2 rfl rfl 2 (by decide) wm_1_59 rfl dX6_copyFrom_16 ?_
  refine r_alen (pc := 19) C 3 0 rfl rfl dX6_copyFrom_19 ?_
  refine r_mmin (pc := 20) C wm_2_110 wm_2_101 wm_1_14 wm_2_102 ⟨Nat.le_of_ble_eq_true rfl, Nat.le_of_ble_eq_true rfl, Nat.zero_le _, Nat.zero_le _⟩ (Nat.le_of_ble_eq_true rfl) dX6_copyFrom_20 ?_
  obtain ⟨hi2, h⟩ := ifn h
  obtain ⟨F1, hF1, h⟩ := lt_e h
  obtain ⟨hi2a, hi2b, hi2c, hi2d, hi2e⟩ := cpOK_e hi2
  refine r_copyi (pc := 23) C wm_2_111 wm_2_105 wm_2_104 wm_1_20 3 1 rfl rfl hi2a hi2b hi2c hi2d hi2e ⟨Nat.le_of_ble_eq_true rfl, Nat.le_of_ble_eq_true rfl⟩ (Nat.le_of_ble_eq_true rfl) (w' := (wTab E a rr rc nn F1 ++ wTab E b rr1 rc1 nn1 T)) (by rw [hF1]; rfl) dX6_copyFrom_23 ?_
  cases h
  exact r_vret (pc := 26) C hq (Nat.zero_le _) (Nat.zero_le _) dX6_copyFrom_26
def M_X6_copyFrom (k : Nat) (rr : Int32) (rc : Int32) (nn : Nat) (rr1 : Int32) (rc1 : Int32) (nn1 : Nat) (S : Nat → Int32) (T : Nat → Int32) : Option ((Nat → Int32)) := M_X6_copyFrom_0 k rr rc nn rr1 rc1 nn1 T S
set_option maxRecDepth 100000 in
set_option maxHeartbeats 4000000 in
theorem c_X6_copyFrom (E : ENV) (l : Launch) (k : Nat) (a : Nat → Nat) (b : Nat → Nat) (rr : Int32) (rc : Int32) (nn : Nat) (rr1 : Int32) (rc1 : Int32) (nn1 : Nat) (S : Nat → Int32) (T : Nat → Int32) {q : (Nat → Int32)} (hm : M_X6_copyFrom k rr rc nn rr1 rc1 nn1 S T = some q) : CV E l yX6_copyFrom cX6_copyFrom 2 none rm_X6_copyFrom [.ref (a 0), .ref (b 0)] (wTab E a rr rc nn S ++ wTab E b rr1 rc1 nn1 T) (fun w' => w' = (wTab E a rr rc nn q ++ wTab E b rr1 rc1 nn1 T)) :=
  CV.of 0 (by decide) (Nat.le_of_ble_eq_true rfl) (fun p e s m below meth c A C _ => r_weak (lSub_s (lSub_s lSub_e)) (N_X6_copyFrom_0 C a b k rr rc nn rr1 rc1 nn1 T S q  hm rfl))
theorem hd_X6_clear : yX6_clear.cls = RX6 ∧ yX6_clear.cls ≠ "java/lang/invoke/MethodHandle" ∧ yX6_clear.cls ≠ "java/lang/invoke/VarHandle" ∧ (parseMethodDescriptor yX6_clear.desc).map (fun d => d.parameters.length) = some 0 := by decide +kernel
theorem g_X3_36 : GoodIn GW (wsV RX3 36 RX6 yX6_clear (wsG yX6_clear cX6_clear 2 none)) := gw_V wm_2_7 wm_2_8 wm_2_9 wm_1_4 wm_2_10
-- ShardGuard$KillLog.clear()V
theorem dX3_clear_0 : decode cX3_clear 0 = .ok (.aload_n 0, 1) := by decide +kernel
theorem dX3_clear_1 : decode cX3_clear 1 = .ok (.iconst 0, 1) := by decide +kernel
theorem dX3_clear_2 : decode cX3_clear 2 = .ok (.putfield 32, 3) := by decide +kernel
theorem dX3_clear_5 : decode cX3_clear 5 = .ok (.aload_n 0, 1) := by decide +kernel
theorem dX3_clear_6 : decode cX3_clear 6 = .ok (.getfield 28, 3) := by decide +kernel
theorem dX3_clear_9 : decode cX3_clear 9 = .ok (.invokevirtual 36, 3) := by decide +kernel
theorem dX3_clear_12 : decode cX3_clear 12 = .ok (.return_, 1) := by decide +kernel
def rm_X3_clear : Room := { frames := 1, cells := 0, slots := 0, locals := 21 }
def M_X3_clear_0 (k : Nat) (S : Nat → Nat → Int32) : Option ((Nat → Nat → Int32)) := lt (va_up S 0 (upd (S 0) 0 (0 : Int32))) fun F1 => (M_X6_clear k 12 12 144 (F1 3)).bind fun q2 => lt (va_up F1 3 q2) fun F3 => some F3
set_option maxRecDepth 100000 in
set_option maxHeartbeats 4000000 in
theorem N_X3_clear_0 (C : CX E p l s m args meth c cX3_clear 1 RX3 none A) (a : Nat → Nat) (k : Nat) {post : va_W → Prop} :
    ∀ (S : Nat → Nat → Int32) (q : (Nat → Nat → Int32)), M_X3_clear_0 k S = some q → post (wKl E a q) →
      WW E p l e rm_X3_clear s m args below meth c A 0 0 (QV E below post args s rm_X3_clear A) (wKl E a S) 1 [some (.ref (a 0))] 0 [] := by
  intro S q  h hq
  unfold M_X3_clear_0 at h
  refine r_aload_n (pc := 0) C (i := 0) dX3_clear_0 rfl rfl ?_
  refine r_iconst (pc := 1) C (v := 0) dX3_clear_1 (by decide) ?_
  obtain ⟨F1, hF1, h⟩ := lt_e h
  refine r_put (pc := 2) C gwX3 tyX3 tyX3_ok nmX3 0 rfl rfl 0 (by decide) wm_1_77 rfl rfl rfl rfl (Nat.le_of_ble_eq_true rfl) (w' := (wKl E a F1)) (by rw [hF1]; rfl) dX3_clear_2 ?_
  refine r_aload_n (pc := 5) C (i := 0) dX3_clear_5 rfl rfl ?_
  refine r_get (pc := 6) C gwX3 0 rfl rfl 3 (by decide) wm_1_81 rfl dX3_clear_6 ?_
  obtain ⟨q2, hq2, h⟩ := bnd h
  obtain ⟨F3, hF3, h⟩ := lt_e h
  refine r_callV_CV (Cn := RX6) (pc := 9) C [] (c_X6_clear E l k (fun i => a (i + 5)) 12 12 144 (F1 3) hq2) [5, 6] rfl (by decide) 0 rfl rfl rfl g_X3_36 hd_X6_clear ⟨Nat.le_of_ble_eq_true rfl, Nat.le_of_ble_eq_true rfl⟩ ⟨Nat.zero_le _, Nat.zero_le _⟩ (Nat.le_of_ble_eq_true rfl) rfl dX3_clear_9 (fun w1 hw1 => ?_)
  subst hw1
  refine ⟨(wKl E a F3), by rw [hF3]; rfl, ?_⟩
  cases h
  exact r_vret (pc := 12) C hq (Nat.zero_le _) (Nat.zero_le _) dX3_clear_12
def M_X3_clear (k : Nat) (S : Nat → Nat → Int32) : Option ((Nat → Nat → Int32)) := M_X3_clear_0 k S
set_option maxRecDepth 100000 in
set_option maxHeartbeats 4000000 in
theorem c_X3_clear (E : ENV) (l : Launch) (k : Nat) (a : Nat → Nat) (S : Nat → Nat → Int32) {q : (Nat → Nat → Int32)} (hm : M_X3_clear k S = some q) : CV E l yX3_clear cX3_clear 1 none rm_X3_clear [.ref (a 0)] (wKl E a S) (fun w' => w' = (wKl E a q)) :=
  CV.of 0 (by decide) (Nat.le_of_ble_eq_true rfl) (fun p e s m below meth c A C _ => r_weak (lSub_s lSub_e) (N_X3_clear_0 C a k S q  hm rfl))
theorem hd_X5_copyFrom : yX5_copyFrom.cls = RX5 ∧ yX5_copyFrom.cls ≠ "java/lang/invoke/MethodHandle" ∧ yX5_copyFrom.cls ≠ "java/lang/invoke/VarHandle" ∧ (parseMethodDescriptor yX5_copyFrom.desc).map (fun d => d.parameters.length) = some 1 := by decide +kernel
theorem g_X3_39 : GoodIn GW (wsV RX3 39 RX5 yX5_copyFrom (wsG yX5_copyFrom cX5_copyFrom 2 none)) := gw_V wm_2_116 wm_2_97 wm_2_98 wm_1_3 wm_2_99
theorem hd_X6_copyFrom : yX6_copyFrom.cls = RX6 ∧ yX6_copyFrom.cls ≠ "java/lang/invoke/MethodHandle" ∧ yX6_copyFrom.cls ≠ "java/lang/invoke/VarHandle" ∧ (parseMethodDescriptor yX6_copyFrom.desc).map (fun d => d.parameters.length) = some 1 := by decide +kernel
theorem g_X3_43 : GoodIn GW (wsV RX3 43 RX6 yX6_copyFrom (wsG yX6_copyFrom cX6_copyFrom 2 none)) := gw_V wm_2_117 wm_2_107 wm_2_108 wm_1_4 wm_2_109
-- ShardGuard$KillLog.copyFrom(LShardGuard$KillLog;)V
theorem dX3_copyFrom_0 : decode cX3_copyFrom 0 = .ok (.aload_n 0, 1) := by decide +kernel
theorem dX3_copyFrom_1 : decode cX3_copyFrom 1 = .ok (.aload_n 1, 1) := by decide +kernel
theorem dX3_copyFrom_2 : decode cX3_copyFrom 2 = .ok (.getfield 32, 3) := by decide +kernel
theorem dX3_copyFrom_5 : decode cX3_copyFrom 5 = .ok (.putfield 32, 3) := by decide +kernel
theorem dX3_copyFrom_8 : decode cX3_copyFrom 8 = .ok (.aload_n 0, 1) := by decide +kernel
theorem dX3_copyFrom_9 : decode cX3_copyFrom 9 = .ok (.getfield 14, 3) := by decide +kernel
theorem dX3_copyFrom_12 : decode cX3_copyFrom 12 = .ok (.aload_n 1, 1) := by decide +kernel
theorem dX3_copyFrom_13 : decode cX3_copyFrom 13 = .ok (.getfield 14, 3) := by decide +kernel
theorem dX3_copyFrom_16 : decode cX3_copyFrom 16 = .ok (.invokevirtual 39, 3) := by decide +kernel
theorem dX3_copyFrom_19 : decode cX3_copyFrom 19 = .ok (.aload_n 0, 1) := by decide +kernel
theorem dX3_copyFrom_20 : decode cX3_copyFrom 20 = .ok (.getfield 20, 3) := by decide +kernel
theorem dX3_copyFrom_23 : decode cX3_copyFrom 23 = .ok (.aload_n 1, 1) := by decide +kernel
theorem dX3_copyFrom_24 : decode cX3_copyFrom 24 = .ok (.getfield 20, 3) := by decide +kernel
theorem dX3_copyFrom_27 : decode cX3_copyFrom 27 = .ok (.invokevirtual 39, 3) := by decide +kernel
theorem dX3_copyFrom_30 : decode cX3_copyFrom 30 = .ok (.aload_n 0, 1) := by decide +kernel
theorem dX3_copyFrom_31 : decode cX3_copyFrom 31 = .ok (.getfield 28, 3) := by decide +kernel
theorem dX3_copyFrom_34 : decode cX3_copyFrom 34 = .ok (.aload_n 1, 1) := by decide +kernel
theorem dX3_copyFrom_35 : decode cX3_copyFrom 35 = .ok (.getfield 28, 3) := by decide +kernel
theorem dX3_copyFrom_38 : decode cX3_copyFrom 38 = .ok (.invokevirtual 43, 3) := by decide +kernel
theorem dX3_copyFrom_41 : decode cX3_copyFrom 41 = .ok (.return_, 1) := by decide +kernel
def rm_X3_copyFrom : Room := { frames := 2, cells := 0, slots := 0, locals := 101 }
def M_X3_copyFrom_0 (k : Nat) (T : Nat → Nat → Int32) (S : Nat → Nat → Int32) : Option ((Nat → Nat → Int32)) := lt (va_up S 0 (upd (S 0) 0 (T 0 0))) fun F1 => (M_X5_copyFrom k 360 360 (F1 1) (T 1)).bind fun q2 => lt (va_up F1 1 q2) fun F3 => (M_X5_copyFrom k 360 360 (F3 2) (T 2)).bind fun q4 => lt (va_up F3 2 q4) fun F5 => (M_X6_copyFrom k 12 12 144 12 12 144 (F5 3) (T 3)).bind fun q6 => lt (va_up F5 3 q6) fun F7 => some F7
set_option maxRecDepth 100000 in
set_option maxHeartbeats 4000000 in
theorem N_X3_copyFrom_0 (C : CX E p l s m args meth c cX3_copyFrom 2 RX3 none A) (a : Nat → Nat) (b : Nat → Nat) (k : Nat) (T : Nat → Nat → Int32) {post : va_W → Prop} :
    ∀ (S : Nat → Nat → Int32) (q : (Nat → Nat → Int32)), M_X3_copyFrom_0 k T S = some q → post (wKl E a q ++ wKl E b T) →
      WW E p l e rm_X3_copyFrom s m args below meth c A 0 0 (QV E below post args s rm_X3_copyFrom A) (wKl E a S ++ wKl E b T) 2 [some (.ref (a 0)), some (.ref (b 0))] 0 [] := by
  intro S q  h hq
  unfold M_X3_copyFrom_0 at h
  refine r_aload_n (pc := 0) C (i := 0) dX3_copyFrom_0 rfl rfl ?_
  refine r_aload_n (pc := 1) C (i := 1) dX3_copyFrom_1 rfl rfl ?_
  refine r_get (pc := 2) C gwX3 7 rfl rfl 0 (by decide) wm_1_77 rfl dX3_copyFrom_2 ?_
  obtain ⟨F1, hF1, h⟩ := lt_e h
  refine r_put (pc := 5) C gwX3 tyX3 tyX3_ok nmX3 0 rfl rfl 0 (by decide) wm_1_77 rfl rfl rfl rfl (Nat.le_of_ble_eq_true rfl) (w' := (wKl E a F1 ++ wKl E b T)) (by rw [hF1]; rfl) dX3_copyFrom_5 ?_
  refine r_aload_n (pc := 8) C (i := 0) dX3_copyFrom_8 rfl rfl ?_
  refine r_get (pc := 9) C gwX3 0 rfl rfl 1 (by decide) wm_1_79 rfl dX3_copyFrom_9 ?_
  refine r_aload_n (pc := 12) C (i := 1) dX3_copyFrom_12 rfl rfl ?_
  refine r_get (pc := 13) C gwX3 7 rfl rfl 1 (by decide) wm_1_79 rfl dX3_copyFrom_13 ?_
  obtain ⟨q2, hq2, h⟩ := bnd h
  obtain ⟨F3, hF3, h⟩ := lt_e h
  refine r_callV_CV (Cn := RX5) (pc := 16) C [.ref (b 1)] (c_X5_copyFrom E l k (fun i => a (i + 1)) (fun i => b (i + 1)) 360 360 (F1 1) (T 1) hq2) [1, 2, 8, 9] rfl (by decide) 0 rfl rfl rfl g_X3_39 hd_X5_copyFrom ⟨Nat.le_of_ble_eq_true rfl, Nat.le_of_ble_eq_true rfl⟩ ⟨Nat.zero_le _, Nat.zero_le _⟩ (Nat.le_of_ble_eq_true rfl) rfl dX3_copyFrom_16 (fun w1 hw1 => ?_)
  subst hw1
  refine ⟨(wKl E a F3 ++ wKl E b T), by rw [hF3]; rfl, ?_⟩
  refine r_aload_n (pc := 19) C (i := 0) dX3_copyFrom_19 rfl rfl ?_
  refine r_get (pc := 20) C gwX3 0 rfl rfl 2 (by decide) wm_1_80 rfl dX3_copyFrom_20 ?_
  refine r_aload_n (pc := 23) C (i := 1) dX3_copyFrom_23 rfl rfl ?_
  refine r_get (pc := 24) C gwX3 7 rfl rfl 2 (by decide) wm_1_80 rfl dX3_copyFrom_24 ?_
  obtain ⟨q4, hq4, h⟩ := bnd h
  obtain ⟨F5, hF5, h⟩ := lt_e h
  refine r_callV_CV (Cn := RX5) (pc := 27) C [.ref (b 3)] (c_X5_copyFrom E l k (fun i => a (i + 3)) (fun i => b (i + 3)) 360 360 (F3 2) (T 2) hq4) [3, 4, 10, 11] rfl (by decide) 0 rfl rfl rfl g_X3_39 hd_X5_copyFrom ⟨Nat.le_of_ble_eq_true rfl, Nat.le_of_ble_eq_true rfl⟩ ⟨Nat.zero_le _, Nat.zero_le _⟩ (Nat.le_of_ble_eq_true rfl) rfl dX3_copyFrom_27 (fun w1 hw1 => ?_)
  subst hw1
  refine ⟨(wKl E a F5 ++ wKl E b T), by rw [hF5]; rfl, ?_⟩
  refine r_aload_n (pc := 30) C (i := 0) dX3_copyFrom_30 rfl rfl ?_
  refine r_get (pc := 31) C gwX3 0 rfl rfl 3 (by decide) wm_1_81 rfl dX3_copyFrom_31 ?_
  refine r_aload_n (pc := 34) C (i := 1) dX3_copyFrom_34 rfl rfl ?_
  refine r_get (pc := 35) C gwX3 7 rfl rfl 3 (by decide) wm_1_81 rfl dX3_copyFrom_35 ?_
  obtain ⟨q6, hq6, h⟩ := bnd h
  obtain ⟨F7, hF7, h⟩ := lt_e h
  refine r_callV_CV (Cn := RX6) (pc := 38) C [.ref (b 5)] (c_X6_copyFrom E l k (fun i => a (i + 5)) (fun i => b (i + 5)) 12 12 144 12 12 144 (F5 3) (T 3) hq6) [5, 6, 12, 13] rfl (by decide) 0 rfl rfl rfl g_X3_43 hd_X6_copyFrom ⟨Nat.le_of_ble_eq_true rfl, Nat.le_of_ble_eq_true rfl⟩ ⟨Nat.zero_le _, Nat.zero_le _⟩ (Nat.le_of_ble_eq_true rfl) rfl dX3_copyFrom_38 (fun w1 hw1 => ?_)
  subst hw1
  refine ⟨(wKl E a F7 ++ wKl E b T), by rw [hF7]; rfl, ?_⟩
  cases h
  exact r_vret (pc := 41) C hq (Nat.zero_le _) (Nat.zero_le _) dX3_copyFrom_41
def M_X3_copyFrom (k : Nat) (S : Nat → Nat → Int32) (T : Nat → Nat → Int32) : Option ((Nat → Nat → Int32)) := M_X3_copyFrom_0 k T S
set_option maxRecDepth 100000 in
set_option maxHeartbeats 4000000 in
theorem c_X3_copyFrom (E : ENV) (l : Launch) (k : Nat) (a : Nat → Nat) (b : Nat → Nat) (S : Nat → Nat → Int32) (T : Nat → Nat → Int32) {q : (Nat → Nat → Int32)} (hm : M_X3_copyFrom k S T = some q) : CV E l yX3_copyFrom cX3_copyFrom 2 none rm_X3_copyFrom [.ref (a 0), .ref (b 0)] (wKl E a S ++ wKl E b T) (fun w' => w' = (wKl E a q ++ wKl E b T)) :=
  CV.of 0 (by decide) (Nat.le_of_ble_eq_true rfl) (fun p e s m below meth c A C _ => r_weak (lSub_s (lSub_s lSub_e)) (N_X3_copyFrom_0 C a b k T S q  hm rfl))
theorem hd_X5_put : yX5_put.cls = RX5 ∧ yX5_put.cls ≠ "java/lang/invoke/MethodHandle" ∧ yX5_put.cls ≠ "java/lang/invoke/VarHandle" ∧ (parseMethodDescriptor yX5_put.desc).map (fun d => d.parameters.length) = some 2 := by decide +kernel
theorem g_X3_46 : GoodIn GW (wsV RX3 46 RX5 yX5_put (wsG yX5_put cX5_put 3 none)) := gw_V wm_4_189 wm_1_234 wm_1_235 wm_1_3 wm_1_236
theorem hd_X6_add : yX6_add.cls = RX6 ∧ yX6_add.cls ≠ "java/lang/invoke/MethodHandle" ∧ yX6_add.cls ≠ "java/lang/invoke/VarHandle" ∧ (parseMethodDescriptor yX6_add.desc).map (fun d => d.parameters.length) = some 3 := by decide +kernel
theorem g_X3_49 : GoodIn GW (wsV RX3 49 RX6 yX6_add (wsG yX6_add cX6_add 4 none)) := gw_V wm_4_190 wm_4_176 wm_4_177 wm_1_4 wm_4_178
-- ShardGuard$KillLog.add(III)V
theorem dX3_add_0 : decode cX3_add 0 = .ok (.aload_n 0, 1) := by decide +kernel
theorem dX3_add_1 : decode cX3_add 1 = .ok (.getfield 14, 3) := by decide +kernel
theorem dX3_add_4 : decode cX3_add 4 = .ok (.aload_n 0, 1) := by decide +kernel
theorem dX3_add_5 : decode cX3_add 5 = .ok (.getfield 32, 3) := by decide +kernel
theorem dX3_add_8 : decode cX3_add 8 = .ok (.iload_n 3, 1) := by decide +kernel
theorem dX3_add_9 : decode cX3_add 9 = .ok (.invokevirtual 46, 3) := by decide +kernel
theorem dX3_add_12 : decode cX3_add 12 = .ok (.aload_n 0, 1) := by decide +kernel
theorem dX3_add_13 : decode cX3_add 13 = .ok (.getfield 20, 3) := by decide +kernel
theorem dX3_add_16 : decode cX3_add 16 = .ok (.aload_n 0, 1) := by decide +kernel
theorem dX3_add_17 : decode cX3_add 17 = .ok (.getfield 32, 3) := by decide +kernel
theorem dX3_add_20 : decode cX3_add 20 = .ok (.iload_n 1, 1) := by decide +kernel
theorem dX3_add_21 : decode cX3_add 21 = .ok (.invokevirtual 46, 3) := by decide +kernel
theorem dX3_add_24 : decode cX3_add 24 = .ok (.aload_n 0, 1) := by decide +kernel
theorem dX3_add_25 : decode cX3_add 25 = .ok (.dup, 1) := by decide +kernel
theorem dX3_add_26 : decode cX3_add 26 = .ok (.getfield 32, 3) := by decide +kernel
theorem dX3_add_29 : decode cX3_add 29 = .ok (.iconst 1, 1) := by decide +kernel
theorem dX3_add_30 : decode cX3_add 30 = .ok (.iadd, 1) := by decide +kernel
theorem dX3_add_31 : decode cX3_add 31 = .ok (.putfield 32, 3) := by decide +kernel
theorem dX3_add_34 : decode cX3_add 34 = .ok (.aload_n 0, 1) := by decide +kernel
theorem dX3_add_35 : decode cX3_add 35 = .ok (.getfield 28, 3) := by decide +kernel
theorem dX3_add_38 : decode cX3_add 38 = .ok (.iload_n 1, 1) := by decide +kernel
theorem dX3_add_39 : decode cX3_add 39 = .ok (.iload_n 2, 1) := by decide +kernel
theorem dX3_add_40 : decode cX3_add 40 = .ok (.iconst 1, 1) := by decide +kernel
theorem dX3_add_41 : decode cX3_add 41 = .ok (.invokevirtual 49, 3) := by decide +kernel
theorem dX3_add_44 : decode cX3_add 44 = .ok (.return_, 1) := by decide +kernel
def rm_X3_add : Room := { frames := 2, cells := 0, slots := 0, locals := 48 }
def M_X3_add_0 (k : Nat) (p0 : Int32) (p1 : Int32) (p2 : Int32) (S : Nat → Nat → Int32) : Option ((Nat → Nat → Int32)) := (M_X5_put k 360 (S 1) (S 0 0) p2).bind fun q1 => lt (va_up S 1 q1) fun F2 => (M_X5_put k 360 (F2 2) (F2 0 0) p0).bind fun q3 => lt (va_up F2 2 q3) fun F4 => lt (va_up F4 0 (upd (F4 0) 0 ((F4 0 0) + (1 : Int32)))) fun F5 => (M_X6_add k 12 12 144 (F5 3) p0 p1 (1 : Int32)).bind fun q6 => lt (va_up F5 3 q6) fun F7 => some F7
set_option maxRecDepth 100000 in
set_option maxHeartbeats 4000000 in
theorem N_X3_add_0 (C : CX E p l s m args meth c cX3_add 4 RX3 none A) (a : Nat → Nat) (k : Nat) {post : va_W → Prop} :
    ∀ (p0 : Int32) (p1 : Int32) (p2 : Int32) (S : Nat → Nat → Int32) (q : (Nat → Nat → Int32)), M_X3_add_0 k p0 p1 p2 S = some q → post (wKl E a q) →
      WW E p l e rm_X3_add s m args below meth c A 0 0 (QV E below post args s rm_X3_add A) (wKl E a S) 4 [some (.ref (a 0)), some (.int p0), some (.int p1), some (.int p2)] 0 [] := by
  intro p0 p1 p2 S q  h hq
  unfold M_X3_add_0 at h
  refine r_aload_n (pc := 0) C (i := 0) dX3_add_0 rfl rfl ?_
  refine r_get (pc := 1) C gwX3 0 rfl rfl 1 (by decide) wm_1_79 rfl dX3_add_1 ?_
  refine r_aload_n (pc := 4) C (i := 0) dX3_add_4 rfl rfl ?_
  refine r_get (pc := 5) C gwX3 0 rfl rfl 0 (by decide) wm_1_77 rfl dX3_add_5 ?_
  refine r_iload_n (pc := 8) C (i := 3) dX3_add_8 rfl rfl ?_
  obtain ⟨q1, hq1, h⟩ := bnd h
  obtain ⟨F2, hF2, h⟩ := lt_e h
  refine r_callV_CV (Cn := RX5) (pc := 9) C [.int (S 0 0), .int p2] (c_X5_put E l k (fun i => a (i + 1)) 360 (S 1) (S 0 0) p2 hq1) [1, 2] rfl (by decide) 0 rfl rfl rfl g_X3_46 hd_X5_put ⟨Nat.le_of_ble_eq_true rfl, Nat.le_of_ble_eq_true rfl⟩ ⟨Nat.zero_le _, Nat.zero_le _⟩ (Nat.le_of_ble_eq_true rfl) rfl dX3_add_9 (fun w1 hw1 => ?_)
  subst hw1
  refine ⟨(wKl E a F2), by rw [hF2]; rfl, ?_⟩
  refine r_aload_n (pc := 12) C (i := 0) dX3_add_12 rfl rfl ?_
  refine r_get (pc := 13) C gwX3 0 rfl rfl 2 (by decide) wm_1_80 rfl dX3_add_13 ?_
  refine r_aload_n (pc := 16) C (i := 0) dX3_add_16 rfl rfl ?_
  refine r_get (pc := 17) C gwX3 0 rfl rfl 0 (by decide) wm_1_77 rfl dX3_add_17 ?_
  refine r_iload_n (pc := 20) C (i := 1) dX3_add_20 rfl rfl ?_
  obtain ⟨q3, hq3, h⟩ := bnd h
  obtain ⟨F4, hF4, h⟩ := lt_e h
  refine r_callV_CV (Cn := RX5) (pc := 21) C [.int (F2 0 0), .int p0] (c_X5_put E l k (fun i => a (i + 3)) 360 (F2 2) (F2 0 0) p0 hq3) [3, 4] rfl (by decide) 0 rfl rfl rfl g_X3_46 hd_X5_put ⟨Nat.le_of_ble_eq_true rfl, Nat.le_of_ble_eq_true rfl⟩ ⟨Nat.zero_le _, Nat.zero_le _⟩ (Nat.le_of_ble_eq_true rfl) rfl dX3_add_21 (fun w1 hw1 => ?_)
  subst hw1
  refine ⟨(wKl E a F4), by rw [hF4]; rfl, ?_⟩
  refine r_aload_n (pc := 24) C (i := 0) dX3_add_24 rfl rfl ?_
  refine r_dup (pc := 25) C dX3_add_25 rfl ?_
  refine r_get (pc := 26) C gwX3 0 rfl rfl 0 (by decide) wm_1_77 rfl dX3_add_26 ?_
  refine r_iconst (pc := 29) C (v := 1) dX3_add_29 (by decide) ?_
  refine r_iadd (pc := 30) C dX3_add_30 ?_
  obtain ⟨F5, hF5, h⟩ := lt_e h
  refine r_put (pc := 31) C gwX3 tyX3 tyX3_ok nmX3 0 rfl rfl 0 (by decide) wm_1_77 rfl rfl rfl rfl (Nat.le_of_ble_eq_true rfl) (w' := (wKl E a F5)) (by rw [hF5]; rfl) dX3_add_31 ?_
  refine r_aload_n (pc := 34) C (i := 0) dX3_add_34 rfl rfl ?_
  refine r_get (pc := 35) C gwX3 0 rfl rfl 3 (by decide) wm_1_81 rfl dX3_add_35 ?_
  refine r_iload_n (pc := 38) C (i := 1) dX3_add_38 rfl rfl ?_
  refine r_iload_n (pc := 39) C (i := 2) dX3_add_39 rfl rfl ?_
  refine r_iconst (pc := 40) C (v := 1) dX3_add_40 (by decide) ?_
  obtain ⟨q6, hq6, h⟩ := bnd h
  obtain ⟨F7, hF7, h⟩ := lt_e h
  refine r_callV_CV (Cn := RX6) (pc := 41) C [.int p0, .int p1, .int (1 : Int32)] (c_X6_add E l k (fun i => a (i + 5)) 12 12 144 (F5 3) p0 p1 (1 : Int32) hq6) [5, 6] rfl (by decide) 0 rfl rfl rfl g_X3_49 hd_X6_add ⟨Nat.le_of_ble_eq_true rfl, Nat.le_of_ble_eq_true rfl⟩ ⟨Nat.zero_le _, Nat.zero_le _⟩ (Nat.le_of_ble_eq_true rfl) rfl dX3_add_41 (fun w1 hw1 => ?_)
  subst hw1
  refine ⟨(wKl E a F7), by rw [hF7]; rfl, ?_⟩
  cases h
  exact r_vret (pc := 44) C hq (Nat.zero_le _) (Nat.zero_le _) dX3_add_44
def M_X3_add (k : Nat) (S : Nat → Nat → Int32) (p0 : Int32) (p1 : Int32) (p2 : Int32) : Option ((Nat → Nat → Int32)) := M_X3_add_0 k p0 p1 p2 S
set_option maxRecDepth 100000 in
set_option maxHeartbeats 4000000 in
theorem c_X3_add (E : ENV) (l : Launch) (k : Nat) (a : Nat → Nat) (S : Nat → Nat → Int32) (p0 : Int32) (p1 : Int32) (p2 : Int32) {q : (Nat → Nat → Int32)} (hm : M_X3_add k S p0 p1 p2 = some q) : CV E l yX3_add cX3_add 4 none rm_X3_add [.ref (a 0), .int p0, .int p1, .int p2] (wKl E a S) (fun w' => w' = (wKl E a q)) :=
  CV.of 0 (by decide) (Nat.le_of_ble_eq_true rfl) (fun p e s m below meth c A C _ => r_weak (lSub_s (lSub_s (lSub_s (lSub_s lSub_e)))) (N_X3_add_0 C a k p0 p1 p2 S q  hm rfl))
theorem hd_X5_at : yX5_at.cls = RX5 ∧ yX5_at.cls ≠ "java/lang/invoke/MethodHandle" ∧ yX5_at.cls ≠ "java/lang/invoke/VarHandle" ∧ (parseMethodDescriptor yX5_at.desc).map (fun d => d.parameters.length) = some 1 := by decide +kernel
theorem g_X3_53 : GoodIn GW (wsV RX3 53 RX5 yX5_at (wsG yX5_at cX5_at 2 (some .int))) := gw_V wm_4_58 wm_2_150 wm_2_151 wm_1_3 wm_2_152
-- ShardGuard$KillLog.behind(II)I
theorem dX3_behind_0 : decode cX3_behind 0 = .ok (.iconst 0, 1) := by decide +kernel
theorem dX3_behind_1 : decode cX3_behind 1 = .ok (.istore_n 3, 1) := by decide +kernel
theorem dX3_behind_2 : decode cX3_behind 2 = .ok (.aload_n 0, 1) := by decide +kernel
theorem dX3_behind_3 : decode cX3_behind 3 = .ok (.getfield 32, 3) := by decide +kernel
theorem dX3_behind_6 : decode cX3_behind 6 = .ok (.iconst 1, 1) := by decide +kernel
theorem dX3_behind_7 : decode cX3_behind 7 = .ok (.isub, 1) := by decide +kernel
theorem dX3_behind_8 : decode cX3_behind 8 = .ok (.istore 4, 2) := by decide +kernel
theorem dX3_behind_10 : decode cX3_behind 10 = .ok (.iload 4, 2) := by decide +kernel
theorem dX3_behind_12 : decode cX3_behind 12 = .ok (.ifCond .lt 38, 3) := by decide +kernel
theorem dX3_behind_15 : decode cX3_behind 15 = .ok (.aload_n 0, 1) := by decide +kernel
theorem dX3_behind_16 : decode cX3_behind 16 = .ok (.getfield 14, 3) := by decide +kernel
theorem dX3_behind_19 : decode cX3_behind 19 = .ok (.iload 4, 2) := by decide +kernel
theorem dX3_behind_21 : decode cX3_behind 21 = .ok (.invokevirtual 53, 3) := by decide +kernel
theorem dX3_behind_24 : decode cX3_behind 24 = .ok (.iload_n 1, 1) := by decide +kernel
theorem dX3_behind_25 : decode cX3_behind 25 = .ok (.if_icmp .le 25, 3) := by decide +kernel
theorem dX3_behind_28 : decode cX3_behind 28 = .ok (.aload_n 0, 1) := by decide +kernel
theorem dX3_behind_29 : decode cX3_behind 29 = .ok (.getfield 20, 3) := by decide +kernel
theorem dX3_behind_32 : decode cX3_behind 32 = .ok (.iload 4, 2) := by decide +kernel
theorem dX3_behind_34 : decode cX3_behind 34 = .ok (.invokevirtual 53, 3) := by decide +kernel
theorem dX3_behind_37 : decode cX3_behind 37 = .ok (.iload_n 2, 1) := by decide +kernel
theorem dX3_behind_38 : decode cX3_behind 38 = .ok (.if_icmp .ne 6, 3) := by decide +kernel
theorem dX3_behind_41 : decode cX3_behind 41 = .ok (.iinc 3 1, 3) := by decide +kernel
theorem dX3_behind_44 : decode cX3_behind 44 = .ok (.iinc 4 (-1), 3) := by decide +kernel
theorem dX3_behind_47 : decode cX3_behind 47 = .ok (.goto (-37), 3) := by decide +kernel
theorem dX3_behind_50 : decode cX3_behind 50 = .ok (.iload_n 3, 1) := by decide +kernel
theorem dX3_behind_51 : decode cX3_behind 51 = .ok (.ireturn, 1) := by decide +kernel
def rm_X3_behind : Room := { frames := 1, cells := 0, slots := 0, locals := 21 }
def M_X3_behind_10 (k : Nat) (S : Nat → Nat → Int32) : Nat → (Int32) → (Int32) → (Int32) → (Int32) → Option (Int32)
  | 0, _, _, _, _ => none
  | n + 1, x1, x2, x3, x4 => if x4 < 0 then (some x3) else ((M_X5_at k 360 (S 1) x4).bind fun q2 => if q2 ≤ x1 then (some x3) else ((M_X5_at k 360 (S 2) x4).bind fun q4 => if q4 = x2 then (M_X3_behind_10 k S n x1 x2 (x3 + 1) (x4 + (-1))) else (M_X3_behind_10 k S n x1 x2 x3 (x4 + (-1)))))
theorem M_X3_behind_10_s (k : Nat) (S : Nat → Nat → Int32) (n : Nat) (x1 : Int32) (x2 : Int32) (x3 : Int32) (x4 : Int32) : M_X3_behind_10 k S (n + 1) x1 x2 x3 x4 = (if x4 < 0 then (some x3) else ((M_X5_at k 360 (S 1) x4).bind fun q2 => if q2 ≤ x1 then (some x3) else ((M_X5_at k 360 (S 2) x4).bind fun q4 => if q4 = x2 then (M_X3_behind_10 k S n x1 x2 (x3 + 1) (x4 + (-1))) else (M_X3_behind_10 k S n x1 x2 x3 (x4 + (-1)))))) := rfl
set_option maxRecDepth 100000 in
set_option maxHeartbeats 4000000 in
theorem N_X3_behind_10 (C : CX E p l s m args meth c cX3_behind 5 RX3 (some .int) A) (a : Nat → Nat) (k : Nat) (S : Nat → Nat → Int32) {post : Int32 → va_W → Prop} :
    ∀ (n : Nat) (x1 : Int32) (x2 : Int32) (x3 : Int32) (x4 : Int32) (q : Int32), M_X3_behind_10 k S n x1 x2 x3 x4 = some q → post q (wKl E a S) →
      WW E p l e rm_X3_behind s m args below meth c A 0 0 (QI E below post args s rm_X3_behind A) (wKl E a S) 5 [some (.ref (a 0)), some (.int x1), some (.int x2), some (.int x3), some (.int x4)] 10 [] := by
  intro n
  induction n with
  | zero => intro x1 x2 x3 x4 q  h _; cases h
  | succ n ih =>
    intro x1 x2 x3 x4 q  h hq
    rw [M_X3_behind_10_s] at h
    refine r_iload (pc := 10) C (i := 4) dX3_behind_10 rfl ?_
    refine r_if_lt (pc := 12) C (tgt := 50) dX3_behind_12 rfl (fun c1 => ?_) (fun c1 => ?_)
    · rw [if_pos c1] at h
      refine r_iload_n (pc := 50) C (i := 3) dX3_behind_50 rfl rfl ?_
      cases h
      exact r_ireti (pc := 51) C hq (Nat.zero_le _) (Nat.zero_le _) dX3_behind_51
    · rw [if_neg c1] at h
      refine r_aload_n (pc := 15) C (i := 0) dX3_behind_15 rfl rfl ?_
      refine r_get (pc := 16) C gwX3 0 rfl rfl 1 (by decide) wm_1_79 rfl dX3_behind_16 ?_
      refine r_iload (pc := 19) C (i := 4) dX3_behind_19 rfl ?_
      obtain ⟨q2, hq2, h⟩ := bnd h
      refine r_callVp_CI (Cn := RX5) (pc := 21) C [.int x4] (c_X5_at E l k (fun i => a (i + 1)) 360 (S 1) x4 hq2) [1, 2] rfl (by decide) 0 rfl rfl rfl g_X3_53 hd_X5_at ⟨Nat.le_of_ble_eq_true rfl, Nat.le_of_ble_eq_true rfl⟩ ⟨Nat.zero_le _, Nat.zero_le _⟩ (Nat.le_of_ble_eq_true rfl) rfl dX3_behind_21 (fun r hr => ?_)
      have hr := hr.symm
      subst hr
      refine r_iload_n (pc := 24) C (i := 1) dX3_behind_24 rfl rfl ?_
      refine r_icmp_le (pc := 25) C (tgt := 50) dX3_behind_25 rfl (fun c3 => ?_) (fun c3 => ?_)
      · rw [if_pos c3] at h
        refine r_iload_n (pc := 50) C (i := 3) dX3_behind_50 rfl rfl ?_
        cases h
        exact r_ireti (pc := 51) C hq (Nat.zero_le _) (Nat.zero_le _) dX3_behind_51
      · rw [if_neg c3] at h
        refine r_aload_n (pc := 28) C (i := 0) dX3_behind_28 rfl rfl ?_
        refine r_get (pc := 29) C gwX3 0 rfl rfl 2 (by decide) wm_1_80 rfl dX3_behind_29 ?_
        refine r_iload (pc := 32) C (i := 4) dX3_behind_32 rfl ?_
        obtain ⟨q4, hq4, h⟩ := bnd h
        refine r_callVp_CI (Cn := RX5) (pc := 34) C [.int x4] (c_X5_at E l k (fun i => a (i + 3)) 360 (S 2) x4 hq4) [3, 4] rfl (by decide) 0 rfl rfl rfl g_X3_53 hd_X5_at ⟨Nat.le_of_ble_eq_true rfl, Nat.le_of_ble_eq_true rfl⟩ ⟨Nat.zero_le _, Nat.zero_le _⟩ (Nat.le_of_ble_eq_true rfl) rfl dX3_behind_34 (fun r hr => ?_)
        have hr := hr.symm
        subst hr
        refine r_iload_n (pc := 37) C (i := 2) dX3_behind_37 rfl rfl ?_
        refine r_icmp_ne (pc := 38) C (tgt := 44) dX3_behind_38 rfl (fun c5 => ?_) (fun c5 => ?_)
        · rw [if_neg c5] at h
          refine r_iinc (pc := 44) C (v := (x4 + (-1))) dX3_behind_44 rfl rfl (by decide) rfl ?_
          refine r_goto (pc := 47) C (tgt := 10) dX3_behind_47 rfl ?_
          refine r_weak (lSub_s (lSub_s (lSub_s (lSub_s (lSub_s lSub_e))))) ?_
          exact ih x1 x2 x3 (x4 + (-1)) q  h hq
        · rw [if_pos c5] at h
          refine r_iinc (pc := 41) C (v := (x3 + 1)) dX3_behind_41 rfl rfl (by decide) rfl ?_
          refine r_iinc (pc := 44) C (v := (x4 + (-1))) dX3_behind_44 rfl rfl (by decide) rfl ?_
          refine r_goto (pc := 47) C (tgt := 10) dX3_behind_47 rfl ?_
          refine r_weak (lSub_s (lSub_s (lSub_s (lSub_s (lSub_s lSub_e))))) ?_
          exact ih x1 x2 (x3 + 1) (x4 + (-1)) q  h hq
def M_X3_behind_0 (k : Nat) (S : Nat → Nat → Int32) (p0 : Int32) (p1 : Int32) : Option (Int32) := lt ((S 0 0) - (1 : Int32)) fun v6 => M_X3_behind_10 k S k p0 p1 (0 : Int32) v6
set_option maxRecDepth 100000 in
set_option maxHeartbeats 4000000 in
theorem N_X3_behind_0 (C : CX E p l s m args meth c cX3_behind 5 RX3 (some .int) A) (a : Nat → Nat) (k : Nat) (S : Nat → Nat → Int32) {post : Int32 → va_W → Prop} :
    ∀ (p0 : Int32) (p1 : Int32) (q : Int32), M_X3_behind_0 k S p0 p1 = some q → post q (wKl E a S) →
      WW E p l e rm_X3_behind s m args below meth c A 0 0 (QI E below post args s rm_X3_behind A) (wKl E a S) 5 [some (.ref (a 0)), some (.int p0), some (.int p1), none, none] 0 [] := by
  intro p0 p1 q  h hq
  unfold M_X3_behind_0 at h
  refine r_iconst (pc := 0) C (v := 0) dX3_behind_0 (by decide) ?_
  refine r_istore_n (pc := 1) C (i := 3) dX3_behind_1 rfl (by decide) rfl ?_
  refine r_aload_n (pc := 2) C (i := 0) dX3_behind_2 rfl rfl ?_
  refine r_get (pc := 3) C gwX3 0 rfl rfl 0 (by decide) wm_1_77 rfl dX3_behind_3 ?_
  refine r_iconst (pc := 6) C (v := 1) dX3_behind_6 (by decide) ?_
  refine r_isub (pc := 7) C dX3_behind_7 ?_
  obtain ⟨v6, hv6, h⟩ := lt_e h
  refine r_topi hv6 ?_
  refine r_istore (pc := 8) C (i := 4) dX3_behind_8 (by decide) rfl ?_
  refine r_weak (lSub_s (lSub_s (lSub_s (lSub_s (lSub_s lSub_e))))) ?_
  exact N_X3_behind_10 C a k S k p0 p1 (0 : Int32) v6 q  h hq
def M_X3_behind (k : Nat) (S : Nat → Nat → Int32) (p0 : Int32) (p1 : Int32) : Option (Int32) := M_X3_behind_0 k S p0 p1
set_option maxRecDepth 100000 in
set_option maxHeartbeats 4000000 in
theorem c_X3_behind (E : ENV) (l : Launch) (k : Nat) (a : Nat → Nat) (S : Nat → Nat → Int32) (p0 : Int32) (p1 : Int32) {q : Int32} (hm : M_X3_behind k S p0 p1 = some q) : CI E l yX3_behind cX3_behind 5 (some .int) rm_X3_behind [.ref (a 0), .int p0, .int p1] (wKl E a S) (fun r w' => r = q ∧ w' = (wKl E a S)) :=
  CI.of 2 (by decide) (Nat.le_of_ble_eq_true rfl) (fun p e s m below meth c A C _ => r_weak (lSub_s (lSub_s (lSub_s (lSub_n (lSub_n lSub_e))))) (N_X3_behind_0 C a k S p0 p1 q  hm ⟨rfl, rfl⟩))
theorem g_X3_57 : GoodIn GW (wsV RX3 57 RX6 yX6_at (wsG yX6_at cX6_at 5 (some .int))) := gw_V wm_2_58 wm_2_59 wm_2_60 wm_1_4 wm_2_61
-- ShardGuard$KillLog.ofTenant(I)I
theorem dX3_ofTenant_0 : decode cX3_ofTenant 0 = .ok (.iconst 0, 1) := by decide +kernel
theorem dX3_ofTenant_1 : decode cX3_ofTenant 1 = .ok (.istore_n 2, 1) := by decide +kernel
theorem dX3_ofTenant_2 : decode cX3_ofTenant 2 = .ok (.iconst 0, 1) := by decide +kernel
theorem dX3_ofTenant_3 : decode cX3_ofTenant 3 = .ok (.istore_n 3, 1) := by decide +kernel
theorem dX3_ofTenant_4 : decode cX3_ofTenant 4 = .ok (.iload_n 3, 1) := by decide +kernel
theorem dX3_ofTenant_5 : decode cX3_ofTenant 5 = .ok (.bipush 12, 2) := by decide +kernel
theorem dX3_ofTenant_7 : decode cX3_ofTenant 7 = .ok (.if_icmp .ge 21, 3) := by decide +kernel
theorem dX3_ofTenant_10 : decode cX3_ofTenant 10 = .ok (.iload_n 2, 1) := by decide +kernel
theorem dX3_ofTenant_11 : decode cX3_ofTenant 11 = .ok (.aload_n 0, 1) := by decide +kernel
theorem dX3_ofTenant_12 : decode cX3_ofTenant 12 = .ok (.getfield 28, 3) := by decide +kernel
theorem dX3_ofTenant_15 : decode cX3_ofTenant 15 = .ok (.iload_n 1, 1) := by decide +kernel
theorem dX3_ofTenant_16 : decode cX3_ofTenant 16 = .ok (.iload_n 3, 1) := by decide +kernel
theorem dX3_ofTenant_17 : decode cX3_ofTenant 17 = .ok (.invokevirtual 57, 3) := by decide +kernel
theorem dX3_ofTenant_20 : decode cX3_ofTenant 20 = .ok (.iadd, 1) := by decide +kernel
theorem dX3_ofTenant_21 : decode cX3_ofTenant 21 = .ok (.istore_n 2, 1) := by decide +kernel
theorem dX3_ofTenant_22 : decode cX3_ofTenant 22 = .ok (.iinc 3 1, 3) := by decide +kernel
theorem dX3_ofTenant_25 : decode cX3_ofTenant 25 = .ok (.goto (-21), 3) := by decide +kernel
theorem dX3_ofTenant_28 : decode cX3_ofTenant 28 = .ok (.iload_n 2, 1) := by decide +kernel
theorem dX3_ofTenant_29 : decode cX3_ofTenant 29 = .ok (.ireturn, 1) := by decide +kernel
def rm_X3_ofTenant : Room := { frames := 1, cells := 0, slots := 0, locals := 24 }
def M_X3_ofTenant_4 (k : Nat) (S : Nat → Nat → Int32) : Nat → (Int32) → (Int32) → (Int32) → Option (Int32)
  | 0, _, _, _ => none
  | n + 1, x1, x2, x3 => if (12 : Int32) ≤ x3 then (some x2) else ((M_X6_at k 12 12 144 (S 3) x1 x3).bind fun q2 => lt (x2 + q2) fun v3 => M_X3_ofTenant_4 k S n x1 v3 (x3 + 1))
theorem M_X3_ofTenant_4_s (k : Nat) (S : Nat → Nat → Int32) (n : Nat) (x1 : Int32) (x2 : Int32) (x3 : Int32) : M_X3_ofTenant_4 k S (n + 1) x1 x2 x3 = (if (12 : Int32) ≤ x3 then (some x2) else ((M_X6_at k 12 12 144 (S 3) x1 x3).bind fun q2 => lt (x2 + q2) fun v3 => M_X3_ofTenant_4 k S n x1 v3 (x3 + 1))) := rfl
set_option maxRecDepth 100000 in
set_option maxHeartbeats 4000000 in
theorem N_X3_ofTenant_4 (C : CX E p l s m args meth c cX3_ofTenant 4 RX3 (some .int) A) (a : Nat → Nat) (k : Nat) (S : Nat → Nat → Int32) {post : Int32 → va_W → Prop} :
    ∀ (n : Nat) (x1 : Int32) (x2 : Int32) (x3 : Int32) (q : Int32), M_X3_ofTenant_4 k S n x1 x2 x3 = some q → post q (wKl E a S) →
      WW E p l e rm_X3_ofTenant s m args below meth c A 0 0 (QI E below post args s rm_X3_ofTenant A) (wKl E a S) 4 [some (.ref (a 0)), some (.int x1), some (.int x2), some (.int x3)] 4 [] := by
  intro n
  induction n with
  | zero => intro x1 x2 x3 q  h _; cases h
  | succ n ih =>
    intro x1 x2 x3 q  h hq
    rw [M_X3_ofTenant_4_s] at h
    refine r_iload_n (pc := 4) C (i := 3) dX3_ofTenant_4 rfl rfl ?_
    refine r_bipush (pc := 5) C (v := 12) dX3_ofTenant_5 (by decide) ?_
    refine r_icmp_ge (pc := 7) C (tgt := 28) dX3_ofTenant_7 rfl (fun c1 => ?_) (fun c1 => ?_)
    · rw [if_pos c1] at h
      refine r_iload_n (pc := 28) C (i := 2) dX3_ofTenant_28 rfl rfl ?_
      cases h
      exact r_ireti (pc := 29) C hq (Nat.zero_le _) (Nat.zero_le _) dX3_ofTenant_29
    · rw [if_neg c1] at h
      refine r_iload_n (pc := 10) C (i := 2) dX3_ofTenant_10 rfl rfl ?_
      refine r_aload_n (pc := 11) C (i := 0) dX3_ofTenant_11 rfl rfl ?_
      refine r_get (pc := 12) C gwX3 0 rfl rfl 3 (by decide) wm_1_81 rfl dX3_ofTenant_12 ?_
      refine r_iload_n (pc := 15) C (i := 1) dX3_ofTenant_15 rfl rfl ?_
      refine r_iload_n (pc := 16) C (i := 3) dX3_ofTenant_16 rfl rfl ?_
      obtain ⟨q2, hq2, h⟩ := bnd h
      refine r_callVp_CI (Cn := RX6) (pc := 17) C [.int x1, .int x3] (c_X6_at E l k (fun i => a (i + 5)) 12 12 144 (S 3) x1 x3 hq2) [5, 6] rfl (by decide) 0 rfl rfl rfl g_X3_57 hd_X6_at ⟨Nat.le_of_ble_eq_true rfl, Nat.le_of_ble_eq_true rfl⟩ ⟨Nat.zero_le _, Nat.zero_le _⟩ (Nat.le_of_ble_eq_true rfl) rfl dX3_ofTenant_17 (fun r hr => ?_)
      have hr := hr.symm
      subst hr
      refine r_iadd (pc := 20) C dX3_ofTenant_20 ?_
      obtain ⟨v3, hv3, h⟩ := lt_e h
      refine r_topi hv3 ?_
      refine r_istore_n (pc := 21) C (i := 2) dX3_ofTenant_21 rfl (by decide) rfl ?_
      refine r_iinc (pc := 22) C (v := (x3 + 1)) dX3_ofTenant_22 rfl rfl (by decide) rfl ?_
      refine r_goto (pc := 25) C (tgt := 4) dX3_ofTenant_25 rfl ?_
      refine r_weak (lSub_s (lSub_s (lSub_s (lSub_s lSub_e)))) ?_
      exact ih x1 v3 (x3 + 1) q  h hq
def M_X3_ofTenant_0 (k : Nat) (S : Nat → Nat → Int32) (p0 : Int32) : Option (Int32) := M_X3_ofTenant_4 k S k p0 (0 : Int32) (0 : Int32)
set_option maxRecDepth 100000 in
set_option maxHeartbeats 4000000 in
theorem N_X3_ofTenant_0 (C : CX E p l s m args meth c cX3_ofTenant 4 RX3 (some .int) A) (a : Nat → Nat) (k : Nat) (S : Nat → Nat → Int32) {post : Int32 → va_W → Prop} :
    ∀ (p0 : Int32) (q : Int32), M_X3_ofTenant_0 k S p0 = some q → post q (wKl E a S) →
      WW E p l e rm_X3_ofTenant s m args below meth c A 0 0 (QI E below post args s rm_X3_ofTenant A) (wKl E a S) 4 [some (.ref (a 0)), some (.int p0), none, none] 0 [] := by
  intro p0 q  h hq
  unfold M_X3_ofTenant_0 at h
  refine r_iconst (pc := 0) C (v := 0) dX3_ofTenant_0 (by decide) ?_
  refine r_istore_n (pc := 1) C (i := 2) dX3_ofTenant_1 rfl (by decide) rfl ?_
  refine r_iconst (pc := 2) C (v := 0) dX3_ofTenant_2 (by decide) ?_
  refine r_istore_n (pc := 3) C (i := 3) dX3_ofTenant_3 rfl (by decide) rfl ?_
  refine r_weak (lSub_s (lSub_s (lSub_s (lSub_s lSub_e)))) ?_
  exact N_X3_ofTenant_4 C a k S k p0 (0 : Int32) (0 : Int32) q  h hq
def M_X3_ofTenant (k : Nat) (S : Nat → Nat → Int32) (p0 : Int32) : Option (Int32) := M_X3_ofTenant_0 k S p0
set_option maxRecDepth 100000 in
set_option maxHeartbeats 4000000 in
theorem c_X3_ofTenant (E : ENV) (l : Launch) (k : Nat) (a : Nat → Nat) (S : Nat → Nat → Int32) (p0 : Int32) {q : Int32} (hm : M_X3_ofTenant k S p0 = some q) : CI E l yX3_ofTenant cX3_ofTenant 4 (some .int) rm_X3_ofTenant [.ref (a 0), .int p0] (wKl E a S) (fun r w' => r = q ∧ w' = (wKl E a S)) :=
  CI.of 2 (by decide) (Nat.le_of_ble_eq_true rfl) (fun p e s m below meth c A C _ => r_weak (lSub_s (lSub_s (lSub_n (lSub_n lSub_e)))) (N_X3_ofTenant_0 C a k S p0 q  hm ⟨rfl, rfl⟩))
-- ShardGuard$KillLog.ofWorker(I)I
theorem dX3_ofWorker_0 : decode cX3_ofWorker 0 = .ok (.iconst 0, 1) := by decide +kernel
theorem dX3_ofWorker_1 : decode cX3_ofWorker 1 = .ok (.istore_n 2, 1) := by decide +kernel
theorem dX3_ofWorker_2 : decode cX3_ofWorker 2 = .ok (.iconst 0, 1) := by decide +kernel
theorem dX3_ofWorker_3 : decode cX3_ofWorker 3 = .ok (.istore_n 3, 1) := by decide +kernel
theorem dX3_ofWorker_4 : decode cX3_ofWorker 4 = .ok (.iload_n 3, 1) := by decide +kernel
theorem dX3_ofWorker_5 : decode cX3_ofWorker 5 = .ok (.bipush 12, 2) := by decide +kernel
theorem dX3_ofWorker_7 : decode cX3_ofWorker 7 = .ok (.if_icmp .ge 21, 3) := by decide +kernel
theorem dX3_ofWorker_10 : decode cX3_ofWorker 10 = .ok (.iload_n 2, 1) := by decide +kernel
theorem dX3_ofWorker_11 : decode cX3_ofWorker 11 = .ok (.aload_n 0, 1) := by decide +kernel
theorem dX3_ofWorker_12 : decode cX3_ofWorker 12 = .ok (.getfield 28, 3) := by decide +kernel
theorem dX3_ofWorker_15 : decode cX3_ofWorker 15 = .ok (.iload_n 3, 1) := by decide +kernel
theorem dX3_ofWorker_16 : decode cX3_ofWorker 16 = .ok (.iload_n 1, 1) := by decide +kernel
theorem dX3_ofWorker_17 : decode cX3_ofWorker 17 = .ok (.invokevirtual 57, 3) := by decide +kernel
theorem dX3_ofWorker_20 : decode cX3_ofWorker 20 = .ok (.iadd, 1) := by decide +kernel
theorem dX3_ofWorker_21 : decode cX3_ofWorker 21 = .ok (.istore_n 2, 1) := by decide +kernel
theorem dX3_ofWorker_22 : decode cX3_ofWorker 22 = .ok (.iinc 3 1, 3) := by decide +kernel
theorem dX3_ofWorker_25 : decode cX3_ofWorker 25 = .ok (.goto (-21), 3) := by decide +kernel
theorem dX3_ofWorker_28 : decode cX3_ofWorker 28 = .ok (.iload_n 2, 1) := by decide +kernel
theorem dX3_ofWorker_29 : decode cX3_ofWorker 29 = .ok (.ireturn, 1) := by decide +kernel
def rm_X3_ofWorker : Room := { frames := 1, cells := 0, slots := 0, locals := 24 }
def M_X3_ofWorker_4 (k : Nat) (S : Nat → Nat → Int32) : Nat → (Int32) → (Int32) → (Int32) → Option (Int32)
  | 0, _, _, _ => none
  | n + 1, x1, x2, x3 => if (12 : Int32) ≤ x3 then (some x2) else ((M_X6_at k 12 12 144 (S 3) x3 x1).bind fun q2 => lt (x2 + q2) fun v3 => M_X3_ofWorker_4 k S n x1 v3 (x3 + 1))
theorem M_X3_ofWorker_4_s (k : Nat) (S : Nat → Nat → Int32) (n : Nat) (x1 : Int32) (x2 : Int32) (x3 : Int32) : M_X3_ofWorker_4 k S (n + 1) x1 x2 x3 = (if (12 : Int32) ≤ x3 then (some x2) else ((M_X6_at k 12 12 144 (S 3) x3 x1).bind fun q2 => lt (x2 + q2) fun v3 => M_X3_ofWorker_4 k S n x1 v3 (x3 + 1))) := rfl
set_option maxRecDepth 100000 in
set_option maxHeartbeats 4000000 in
theorem N_X3_ofWorker_4 (C : CX E p l s m args meth c cX3_ofWorker 4 RX3 (some .int) A) (a : Nat → Nat) (k : Nat) (S : Nat → Nat → Int32) {post : Int32 → va_W → Prop} :
    ∀ (n : Nat) (x1 : Int32) (x2 : Int32) (x3 : Int32) (q : Int32), M_X3_ofWorker_4 k S n x1 x2 x3 = some q → post q (wKl E a S) →
      WW E p l e rm_X3_ofWorker s m args below meth c A 0 0 (QI E below post args s rm_X3_ofWorker A) (wKl E a S) 4 [some (.ref (a 0)), some (.int x1), some (.int x2), some (.int x3)] 4 [] := by
  intro n
  induction n with
  | zero => intro x1 x2 x3 q  h _; cases h
  | succ n ih =>
    intro x1 x2 x3 q  h hq
    rw [M_X3_ofWorker_4_s] at h
    refine r_iload_n (pc := 4) C (i := 3) dX3_ofWorker_4 rfl rfl ?_
    refine r_bipush (pc := 5) C (v := 12) dX3_ofWorker_5 (by decide) ?_
    refine r_icmp_ge (pc := 7) C (tgt := 28) dX3_ofWorker_7 rfl (fun c1 => ?_) (fun c1 => ?_)
    · rw [if_pos c1] at h
      refine r_iload_n (pc := 28) C (i := 2) dX3_ofWorker_28 rfl rfl ?_
      cases h
      exact r_ireti (pc := 29) C hq (Nat.zero_le _) (Nat.zero_le _) dX3_ofWorker_29
    · rw [if_neg c1] at h
      refine r_iload_n (pc := 10) C (i := 2) dX3_ofWorker_10 rfl rfl ?_
      refine r_aload_n (pc := 11) C (i := 0) dX3_ofWorker_11 rfl rfl ?_
      refine r_get (pc := 12) C gwX3 0 rfl rfl 3 (by decide) wm_1_81 rfl dX3_ofWorker_12 ?_
      refine r_iload_n (pc := 15) C (i := 3) dX3_ofWorker_15 rfl rfl ?_
      refine r_iload_n (pc := 16) C (i := 1) dX3_ofWorker_16 rfl rfl ?_
      obtain ⟨q2, hq2, h⟩ := bnd h
      refine r_callVp_CI (Cn := RX6) (pc := 17) C [.int x3, .int x1] (c_X6_at E l k (fun i => a (i + 5)) 12 12 144 (S 3) x3 x1 hq2) [5, 6] rfl (by decide) 0 rfl rfl rfl g_X3_57 hd_X6_at ⟨Nat.le_of_ble_eq_true rfl, Nat.le_of_ble_eq_true rfl⟩ ⟨Nat.zero_le _, Nat.zero_le _⟩ (Nat.le_of_ble_eq_true rfl) rfl dX3_ofWorker_17 (fun r hr => ?_)
      have hr := hr.symm
      subst hr
      refine r_iadd (pc := 20) C dX3_ofWorker_20 ?_
      obtain ⟨v3, hv3, h⟩ := lt_e h
      refine r_topi hv3 ?_
      refine r_istore_n (pc := 21) C (i := 2) dX3_ofWorker_21 rfl (by decide) rfl ?_
      refine r_iinc (pc := 22) C (v := (x3 + 1)) dX3_ofWorker_22 rfl rfl (by decide) rfl ?_
      refine r_goto (pc := 25) C (tgt := 4) dX3_ofWorker_25 rfl ?_
      refine r_weak (lSub_s (lSub_s (lSub_s (lSub_s lSub_e)))) ?_
      exact ih x1 v3 (x3 + 1) q  h hq
def M_X3_ofWorker_0 (k : Nat) (S : Nat → Nat → Int32) (p0 : Int32) : Option (Int32) := M_X3_ofWorker_4 k S k p0 (0 : Int32) (0 : Int32)
set_option maxRecDepth 100000 in
set_option maxHeartbeats 4000000 in
theorem N_X3_ofWorker_0 (C : CX E p l s m args meth c cX3_ofWorker 4 RX3 (some .int) A) (a : Nat → Nat) (k : Nat) (S : Nat → Nat → Int32) {post : Int32 → va_W → Prop} :
    ∀ (p0 : Int32) (q : Int32), M_X3_ofWorker_0 k S p0 = some q → post q (wKl E a S) →
      WW E p l e rm_X3_ofWorker s m args below meth c A 0 0 (QI E below post args s rm_X3_ofWorker A) (wKl E a S) 4 [some (.ref (a 0)), some (.int p0), none, none] 0 [] := by
  intro p0 q  h hq
  unfold M_X3_ofWorker_0 at h
  refine r_iconst (pc := 0) C (v := 0) dX3_ofWorker_0 (by decide) ?_
  refine r_istore_n (pc := 1) C (i := 2) dX3_ofWorker_1 rfl (by decide) rfl ?_
  refine r_iconst (pc := 2) C (v := 0) dX3_ofWorker_2 (by decide) ?_
  refine r_istore_n (pc := 3) C (i := 3) dX3_ofWorker_3 rfl (by decide) rfl ?_
  refine r_weak (lSub_s (lSub_s (lSub_s (lSub_s lSub_e)))) ?_
  exact N_X3_ofWorker_4 C a k S k p0 (0 : Int32) (0 : Int32) q  h hq
def M_X3_ofWorker (k : Nat) (S : Nat → Nat → Int32) (p0 : Int32) : Option (Int32) := M_X3_ofWorker_0 k S p0
set_option maxRecDepth 100000 in
set_option maxHeartbeats 4000000 in
theorem c_X3_ofWorker (E : ENV) (l : Launch) (k : Nat) (a : Nat → Nat) (S : Nat → Nat → Int32) (p0 : Int32) {q : Int32} (hm : M_X3_ofWorker k S p0 = some q) : CI E l yX3_ofWorker cX3_ofWorker 4 (some .int) rm_X3_ofWorker [.ref (a 0), .int p0] (wKl E a S) (fun r w' => r = q ∧ w' = (wKl E a S)) :=
  CI.of 2 (by decide) (Nat.le_of_ble_eq_true rfl) (fun p e s m below meth c A C _ => r_weak (lSub_s (lSub_s (lSub_n (lSub_n lSub_e)))) (N_X3_ofWorker_0 C a k S p0 q  hm ⟨rfl, rfl⟩))
-- ShardGuard$KillLog.pairsThatKilled()I
theorem dX3_pairsThatKilled_0 : decode cX3_pairsThatKilled 0 = .ok (.iconst 0, 1) := by decide +kernel
theorem dX3_pairsThatKilled_1 : decode cX3_pairsThatKilled 1 = .ok (.istore_n 1, 1) := by decide +kernel
theorem dX3_pairsThatKilled_2 : decode cX3_pairsThatKilled 2 = .ok (.iconst 0, 1) := by decide +kernel
theorem dX3_pairsThatKilled_3 : decode cX3_pairsThatKilled 3 = .ok (.istore_n 2, 1) := by decide +kernel
theorem dX3_pairsThatKilled_4 : decode cX3_pairsThatKilled 4 = .ok (.iload_n 2, 1) := by decide +kernel
theorem dX3_pairsThatKilled_5 : decode cX3_pairsThatKilled 5 = .ok (.bipush 12, 2) := by decide +kernel
theorem dX3_pairsThatKilled_7 : decode cX3_pairsThatKilled 7 = .ok (.if_icmp .ge 38, 3) := by decide +kernel
theorem dX3_pairsThatKilled_10 : decode cX3_pairsThatKilled 10 = .ok (.iconst 0, 1) := by decide +kernel
theorem dX3_pairsThatKilled_11 : decode cX3_pairsThatKilled 11 = .ok (.istore_n 3, 1) := by decide +kernel
theorem dX3_pairsThatKilled_12 : decode cX3_pairsThatKilled 12 = .ok (.iload_n 3, 1) := by decide +kernel
theorem dX3_pairsThatKilled_13 : decode cX3_pairsThatKilled 13 = .ok (.bipush 12, 2) := by decide +kernel
theorem dX3_pairsThatKilled_15 : decode cX3_pairsThatKilled 15 = .ok (.if_icmp .ge 24, 3) := by decide +kernel
theorem dX3_pairsThatKilled_18 : decode cX3_pairsThatKilled 18 = .ok (.aload_n 0, 1) := by decide +kernel
theorem dX3_pairsThatKilled_19 : decode cX3_pairsThatKilled 19 = .ok (.getfield 28, 3) := by decide +kernel
theorem dX3_pairsThatKilled_22 : decode cX3_pairsThatKilled 22 = .ok (.iload_n 2, 1) := by decide +kernel
theorem dX3_pairsThatKilled_23 : decode cX3_pairsThatKilled 23 = .ok (.iload_n 3, 1) := by decide +kernel
theorem dX3_pairsThatKilled_24 : decode cX3_pairsThatKilled 24 = .ok (.invokevirtual 57, 3) := by decide +kernel
theorem dX3_pairsThatKilled_27 : decode cX3_pairsThatKilled 27 = .ok (.ifCond .le 6, 3) := by decide +kernel
theorem dX3_pairsThatKilled_30 : decode cX3_pairsThatKilled 30 = .ok (.iinc 1 1, 3) := by decide +kernel
theorem dX3_pairsThatKilled_33 : decode cX3_pairsThatKilled 33 = .ok (.iinc 3 1, 3) := by decide +kernel
theorem dX3_pairsThatKilled_36 : decode cX3_pairsThatKilled 36 = .ok (.goto (-24), 3) := by decide +kernel
theorem dX3_pairsThatKilled_39 : decode cX3_pairsThatKilled 39 = .ok (.iinc 2 1, 3) := by decide +kernel
theorem dX3_pairsThatKilled_42 : decode cX3_pairsThatKilled 42 = .ok (.goto (-38), 3) := by decide +kernel
theorem dX3_pairsThatKilled_45 : decode cX3_pairsThatKilled 45 = .ok (.iload_n 1, 1) := by decide +kernel
theorem dX3_pairsThatKilled_46 : decode cX3_pairsThatKilled 46 = .ok (.ireturn, 1) := by decide +kernel
def rm_X3_pairsThatKilled : Room := { frames := 1, cells := 0, slots := 0, locals := 24 }
def M_X3_pairsThatKilled_12 (k : Nat) (S : Nat → Nat → Int32) (κ4 : Int32 → Int32 → Option (Int32)) : Nat → (Int32) → (Int32) → (Int32) → Option (Int32)
  | 0, _, _, _ => none
  | n + 1, x1, x2, x3 => if (12 : Int32) ≤ x3 then (κ4 x1 (x2 + 1)) else ((M_X6_at k 12 12 144 (S 3) x2 x3).bind fun q2 => if q2 ≤ 0 then (M_X3_pairsThatKilled_12 k S κ4 n x1 x2 (x3 + 1)) else (M_X3_pairsThatKilled_12 k S κ4 n (x1 + 1) x2 (x3 + 1)))
theorem M_X3_pairsThatKilled_12_s (k : Nat) (S : Nat → Nat → Int32) (κ4 : Int32 → Int32 → Option (Int32)) (n : Nat) (x1 : Int32) (x2 : Int32) (x3 : Int32) : M_X3_pairsThatKilled_12 k S κ4 (n + 1) x1 x2 x3 = (if (12 : Int32) ≤ x3 then (κ4 x1 (x2 + 1)) else ((M_X6_at k 12 12 144 (S 3) x2 x3).bind fun q2 => if q2 ≤ 0 then (M_X3_pairsThatKilled_12 k S κ4 n x1 x2 (x3 + 1)) else (M_X3_pairsThatKilled_12 k S κ4 n (x1 + 1) x2 (x3 + 1)))) := rfl
set_option maxRecDepth 100000 in
set_option maxHeartbeats 4000000 in
theorem N_X3_pairsThatKilled_12 (C : CX E p l s m args meth c cX3_pairsThatKilled 4 RX3 (some .int) A) (a : Nat → Nat) (k : Nat) (S : Nat → Nat → Int32) {post : Int32 → va_W → Prop} (κ4 : Int32 → Int32 → Option (Int32)) (hκ4 : ∀ (x1 : Int32) (x2 : Int32) (q : Int32), κ4 x1 x2 = some q → post q (wKl E a S) → WW E p l e rm_X3_pairsThatKilled s m args below meth c A 0 0 (QI E below post args s rm_X3_pairsThatKilled A) (wKl E a S) 4 [some (.ref (a 0)), some (.int x1), some (.int x2), none] 4 []) :
    ∀ (n : Nat) (x1 : Int32) (x2 : Int32) (x3 : Int32) (q : Int32), M_X3_pairsThatKilled_12 k S κ4 n x1 x2 x3 = some q → post q (wKl E a S) →
      WW E p l e rm_X3_pairsThatKilled s m args below meth c A 0 0 (QI E below post args s rm_X3_pairsThatKilled A) (wKl E a S) 4 [some (.ref (a 0)), some (.int x1), some (.int x2), some (.int x3)] 12 [] := by
  intro n
  induction n with
  | zero => intro x1 x2 x3 q  h _; cases h
  | succ n ih =>
    intro x1 x2 x3 q  h hq
    rw [M_X3_pairsThatKilled_12_s] at h
    refine r_iload_n (pc := 12) C (i := 3) dX3_pairsThatKilled_12 rfl rfl ?_
    refine r_bipush (pc := 13) C (v := 12) dX3_pairsThatKilled_13 (by decide) ?_
    refine r_icmp_ge (pc := 15) C (tgt := 39) dX3_pairsThatKilled_15 rfl (fun c1 => ?_) (fun c1 => ?_)
    · rw [if_pos c1] at h
      refine r_iinc (pc := 39) C (v := (x2 + 1)) dX3_pairsThatKilled_39 rfl rfl (by decide) rfl ?_
      refine r_goto (pc := 42) C (tgt := 4) dX3_pairsThatKilled_42 rfl ?_
      refine r_weak (lSub_s (lSub_s (lSub_s (lSub_n lSub_e)))) ?_
      exact hκ4 x1 (x2 + 1) q  h hq
    · rw [if_neg c1] at h
      refine r_aload_n (pc := 18) C (i := 0) dX3_pairsThatKilled_18 rfl rfl ?_
      refine r_get (pc := 19) C gwX3 0 rfl rfl 3 (by decide) wm_1_81 rfl dX3_pairsThatKilled_19 ?_
      refine r_iload_n (pc := 22) C (i := 2) dX3_pairsThatKilled_22 rfl rfl ?_
      refine r_iload_n (pc := 23) C (i := 3) dX3_pairsThatKilled_23 rfl rfl ?_
      obtain ⟨q2, hq2, h⟩ := bnd h
      refine r_callVp_CI (Cn := RX6) (pc := 24) C [.int x2, .int x3] (c_X6_at E l k (fun i => a (i + 5)) 12 12 144 (S 3) x2 x3 hq2) [5, 6] rfl (by decide) 0 rfl rfl rfl g_X3_57 hd_X6_at ⟨Nat.le_of_ble_eq_true rfl, Nat.le_of_ble_eq_true rfl⟩ ⟨Nat.zero_le _, Nat.zero_le _⟩ (Nat.le_of_ble_eq_true rfl) rfl dX3_pairsThatKilled_24 (fun r hr => ?_)
      have hr := hr.symm
      subst hr
      refine r_if_le (pc := 27) C (tgt := 33) dX3_pairsThatKilled_27 rfl (fun c3 => ?_) (fun c3 => ?_)
      · rw [if_pos c3] at h
        refine r_iinc (pc := 33) C (v := (x3 + 1)) dX3_pairsThatKilled_33 rfl rfl (by decide) rfl ?_
        refine r_goto (pc := 36) C (tgt := 12) dX3_pairsThatKilled_36 rfl ?_
        refine r_weak (lSub_s (lSub_s (lSub_s (lSub_s lSub_e)))) ?_
        exact ih x1 x2 (x3 + 1) q  h hq
      · rw [if_neg c3] at h
        refine r_iinc (pc := 30) C (v := (x1 + 1)) dX3_pairsThatKilled_30 rfl rfl (by decide) rfl ?_
        refine r_iinc (pc := 33) C (v := (x3 + 1)) dX3_pairsThatKilled_33 rfl rfl (by decide) rfl ?_
        refine r_goto (pc := 36) C (tgt := 12) dX3_pairsThatKilled_36 rfl ?_
        refine r_weak (lSub_s (lSub_s (lSub_s (lSub_s lSub_e)))) ?_
        exact ih (x1 + 1) x2 (x3 + 1) q  h hq
def M_X3_pairsThatKilled_4 (k : Nat) (S : Nat → Nat → Int32) : Nat → (Int32) → (Int32) → Option (Int32)
  | 0, _, _ => none
  | n + 1, x1, x2 => if (12 : Int32) ≤ x2 then (some x1) else (M_X3_pairsThatKilled_12 k S (M_X3_pairsThatKilled_4 k S n) k x1 x2 (0 : Int32))
theorem M_X3_pairsThatKilled_4_s (k : Nat) (S : Nat → Nat → Int32) (n : Nat) (x1 : Int32) (x2 : Int32) : M_X3_pairsThatKilled_4 k S (n + 1) x1 x2 = (if (12 : Int32) ≤ x2 then (some x1) else (M_X3_pairsThatKilled_12 k S (M_X3_pairsThatKilled_4 k S n) k x1 x2 (0 : Int32))) := rfl
set_option maxRecDepth 100000 in
set_option maxHeartbeats 4000000 in
theorem N_X3_pairsThatKilled_4 (C : CX E p l s m args meth c cX3_pairsThatKilled 4 RX3 (some .int) A) (a : Nat → Nat) (k : Nat) (S : Nat → Nat → Int32) {post : Int32 → va_W → Prop} :
    ∀ (n : Nat) (x1 : Int32) (x2 : Int32) (q : Int32), M_X3_pairsThatKilled_4 k S n x1 x2 = some q → post q (wKl E a S) →
      WW E p l e rm_X3_pairsThatKilled s m args below meth c A 0 0 (QI E below post args s rm_X3_pairsThatKilled A) (wKl E a S) 4 [some (.ref (a 0)), some (.int x1), some (.int x2), none] 4 [] := by
  intro n
  induction n with
  | zero => intro x1 x2 q  h _; cases h
  | succ n ih =>
    intro x1 x2 q  h hq
    rw [M_X3_pairsThatKilled_4_s] at h
    refine r_iload_n (pc := 4) C (i := 2) dX3_pairsThatKilled_4 rfl rfl ?_
    refine r_bipush (pc := 5) C (v := 12) dX3_pairsThatKilled_5 (by decide) ?_
    refine r_icmp_ge (pc := 7) C (tgt := 45) dX3_pairsThatKilled_7 rfl (fun c4 => ?_) (fun c4 => ?_)
    · rw [if_pos c4] at h
      refine r_iload_n (pc := 45) C (i := 1) dX3_pairsThatKilled_45 rfl rfl ?_
      cases h
      exact r_ireti (pc := 46) C hq (Nat.zero_le _) (Nat.zero_le _) dX3_pairsThatKilled_46
    · rw [if_neg c4] at h
      refine r_iconst (pc := 10) C (v := 0) dX3_pairsThatKilled_10 (by decide) ?_
      refine r_istore_n (pc := 11) C (i := 3) dX3_pairsThatKilled_11 rfl (by decide) rfl ?_
      refine r_weak (lSub_s (lSub_s (lSub_s (lSub_s lSub_e)))) ?_
      exact N_X3_pairsThatKilled_12 C a k S (M_X3_pairsThatKilled_4 k S n) ih k x1 x2 (0 : Int32) q  h hq
def M_X3_pairsThatKilled_0 (k : Nat) (S : Nat → Nat → Int32) : Option (Int32) := M_X3_pairsThatKilled_4 k S k (0 : Int32) (0 : Int32)
set_option maxRecDepth 100000 in
set_option maxHeartbeats 4000000 in
theorem N_X3_pairsThatKilled_0 (C : CX E p l s m args meth c cX3_pairsThatKilled 4 RX3 (some .int) A) (a : Nat → Nat) (k : Nat) (S : Nat → Nat → Int32) {post : Int32 → va_W → Prop} :
    ∀ (q : Int32), M_X3_pairsThatKilled_0 k S = some q → post q (wKl E a S) →
      WW E p l e rm_X3_pairsThatKilled s m args below meth c A 0 0 (QI E below post args s rm_X3_pairsThatKilled A) (wKl E a S) 4 [some (.ref (a 0)), none, none, none] 0 [] := by
  intro  q  h hq
  unfold M_X3_pairsThatKilled_0 at h
  refine r_iconst (pc := 0) C (v := 0) dX3_pairsThatKilled_0 (by decide) ?_
  refine r_istore_n (pc := 1) C (i := 1) dX3_pairsThatKilled_1 rfl (by decide) rfl ?_
  refine r_iconst (pc := 2) C (v := 0) dX3_pairsThatKilled_2 (by decide) ?_
  refine r_istore_n (pc := 3) C (i := 2) dX3_pairsThatKilled_3 rfl (by decide) rfl ?_
  refine r_weak (lSub_s (lSub_s (lSub_s (lSub_n lSub_e)))) ?_
  exact N_X3_pairsThatKilled_4 C a k S k (0 : Int32) (0 : Int32) q  h hq
def M_X3_pairsThatKilled (k : Nat) (S : Nat → Nat → Int32) : Option (Int32) := M_X3_pairsThatKilled_0 k S
set_option maxRecDepth 100000 in
set_option maxHeartbeats 4000000 in
theorem c_X3_pairsThatKilled (E : ENV) (l : Launch) (k : Nat) (a : Nat → Nat) (S : Nat → Nat → Int32) {q : Int32} (hm : M_X3_pairsThatKilled k S = some q) : CI E l yX3_pairsThatKilled cX3_pairsThatKilled 4 (some .int) rm_X3_pairsThatKilled [.ref (a 0)] (wKl E a S) (fun r w' => r = q ∧ w' = (wKl E a S)) :=
  CI.of 3 (by decide) (Nat.le_of_ble_eq_true rfl) (fun p e s m below meth c A C _ => r_weak (lSub_s (lSub_n (lSub_n (lSub_n lSub_e)))) (N_X3_pairsThatKilled_0 C a k S q  hm ⟨rfl, rfl⟩))
end WALKS
