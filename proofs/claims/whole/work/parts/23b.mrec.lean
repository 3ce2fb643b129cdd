section WALKS
variable {E : ENV} {p : Program} {l : Launch} {e : Env} {s : State} {m : MethodId} {args : Array Value} {below : List Frame} {meth : Method} {c : Code} {A : Nat → Prop}
theorem hd_X10_compileFactor : yX10_compileFactor.cls = RX10 ∧ yX10_compileFactor.cls ≠ "java/lang/invoke/MethodHandle" ∧ yX10_compileFactor.cls ≠ "java/lang/invoke/VarHandle" ∧ (parseMethodDescriptor yX10_compileFactor.desc).map (fun d => d.parameters.length) = some 0 := by decide +kernel
theorem g_X10_462 : GoodIn GW (wsV RX10 462 RX10 yX10_compileFactor (wsG yX10_compileFactor cX10_compileFactor 2 none)) := gw_V wm_8_85 wm_8_87 wm_0_101 wm_1_9 wm_8_88
-- ShardGuardModel.compileConjunction()V
theorem dX10_compileConjunction_0 : decode cX10_compileConjunction 0 = .ok (.aload_n 0, 1) := by decide +kernel
theorem dX10_compileConjunction_1 : decode cX10_compileConjunction 1 = .ok (.invokevirtual 462, 3) := by decide +kernel
theorem dX10_compileConjunction_4 : decode cX10_compileConjunction 4 = .ok (.aload_n 0, 1) := by decide +kernel
theorem dX10_compileConjunction_5 : decode cX10_compileConjunction 5 = .ok (.ldc_w 471, 3) := by decide +kernel
theorem dX10_compileConjunction_8 : decode cX10_compileConjunction 8 = .ok (.invokevirtual 422, 3) := by decide +kernel
theorem dX10_compileConjunction_11 : decode cX10_compileConjunction 11 = .ok (.ifCond .eq 16, 3) := by decide +kernel
theorem dX10_compileConjunction_14 : decode cX10_compileConjunction 14 = .ok (.aload_n 0, 1) := by decide +kernel
theorem dX10_compileConjunction_15 : decode cX10_compileConjunction 15 = .ok (.invokevirtual 462, 3) := by decide +kernel
theorem dX10_compileConjunction_18 : decode cX10_compileConjunction 18 = .ok (.aload_n 0, 1) := by decide +kernel
theorem dX10_compileConjunction_19 : decode cX10_compileConjunction 19 = .ok (.bipush (-24), 2) := by decide +kernel
theorem dX10_compileConjunction_21 : decode cX10_compileConjunction 21 = .ok (.invokevirtual 454, 3) := by decide +kernel
theorem dX10_compileConjunction_24 : decode cX10_compileConjunction 24 = .ok (.goto (-20), 3) := by decide +kernel
theorem dX10_compileConjunction_27 : decode cX10_compileConjunction 27 = .ok (.return_, 1) := by decide +kernel
def rm_X10_compileConjunction (f lo : Nat) : Room := { frames := 8 + f, cells := 0, slots := 0, locals := 195 + lo }
def M_X10_compileConjunction_4 (k : Nat) (φ : (Nat → Nat → Int32) → Option ((Nat → Nat → Int32))) : Nat → (Nat → Nat → Int32) → Option ((Nat → Nat → Int32))
  | 0, _ => none
  | n + 1, S => (M_X10_accept k S 77).bind fun q1 => if q1.1 = 0 then (some q1.2) else ((φ q1.2).bind fun q3 => (M_X10_emit k q3 (-24 : Int32)).bind fun q4 => M_X10_compileConjunction_4 k φ n q4)
theorem M_X10_compileConjunction_4_s (k : Nat) (φ : (Nat → Nat → Int32) → Option ((Nat → Nat → Int32))) (n : Nat) (S : Nat → Nat → Int32) : M_X10_compileConjunction_4 k φ (n + 1) S = ((M_X10_accept k S 77).bind fun q1 => if q1.1 = 0 then (some q1.2) else ((φ q1.2).bind fun q3 => (M_X10_emit k q3 (-24 : Int32)).bind fun q4 => M_X10_compileConjunction_4 k φ n q4)) := rfl
set_option maxRecDepth 100000 in
set_option maxHeartbeats 4000000 in
theorem N_X10_compileConjunction_4 (C : CX E p l s m args meth c cX10_compileConjunction 1 RX10 none A) (a : Nat → Nat) (k : Nat) (φ : (Nat → Nat → Int32) → Option ((Nat → Nat → Int32))) (f lo : Nat) (hφ : ∀ (a : Nat → Nat) (S : Nat → Nat → Int32) (q : (Nat → Nat → Int32)), φ S = some q → CV E l yX10_compileFactor cX10_compileFactor 2 none (rmV f lo) [.ref (a 0)] (wMd E a S) (fun w' => w' = wMd E a q)) {post : va_W → Prop} :
    ∀ (n : Nat) (S : Nat → Nat → Int32) (q : (Nat → Nat → Int32)), M_X10_compileConjunction_4 k φ n S = some q → post (wMd E a q) →
      WW E p l e (rm_X10_compileConjunction f lo) s m args below meth c A 0 0 (QV E below post args s (rm_X10_compileConjunction f lo) A) (wMd E a S) 1 [some (.ref (a 0))] 4 [] := by
  intro n
  induction n with
  | zero => intro S q  h _; cases h
  | succ n ih =>
    intro S q  h hq
    rw [M_X10_compileConjunction_4_s] at h
    refine r_aload_n (pc := 4) C (i := 0) dX10_compileConjunction_4 rfl rfl ?_
    refine r_ldcwS (pc := 5) C 77 rfl dX10_compileConjunction_5 ?_
    obtain ⟨q1, hq1, h⟩ := bnd h
    refine r_callV_CI (Cn := RX10) (pc := 8) C [.ref (eS E 77)] (c_X10_accept E l k a S 77 (by decide) hq1) [0, 1, 2, 3, 4, 5, 6, 7, 8, 9, 10, 11, 12] rfl (by decide) 0 rfl rfl rfl g_X10_422 hd_X10_accept ⟨(by simp only [rm_X10_compileConjunction, rm_X10_accept, rmV]; omega), (by simp only [rm_X10_compileConjunction, rm_X10_accept, rmV]; omega)⟩ ⟨Nat.zero_le _, Nat.zero_le _⟩ (Nat.le_of_ble_eq_true rfl) rfl dX10_compileConjunction_8 (fun r w1 hw1 => ?_)
    obtain ⟨hr1, hw1⟩ := hw1
    subst hr1 hw1
    refine ⟨(wMd E a q1.2), by rfl, ?_⟩
    refine r_if_eq (pc := 11) C (tgt := 27) dX10_compileConjunction_11 rfl (fun c2 => ?_) (fun c2 => ?_)
    · rw [if_pos c2] at h
      cases h
      exact r_vret (pc := 27) C hq (Nat.zero_le _) (Nat.zero_le _) dX10_compileConjunction_27
    · rw [if_neg c2] at h
      refine r_aload_n (pc := 14) C (i := 0) dX10_compileConjunction_14 rfl rfl ?_
      obtain ⟨q3, hq3, h⟩ := bnd h
      refine r_callV_CV (Cn := RX10) (pc := 15) C [] (hφ a q1.2 _ hq3) [0, 1, 2, 3, 4, 5, 6, 7, 8, 9, 10, 11, 12] rfl (by decide) 0 rfl rfl rfl g_X10_462 hd_X10_compileFactor ⟨(by simp only [rm_X10_compileConjunction, rmV]; omega), (by simp only [rm_X10_compileConjunction, rmV]; omega)⟩ ⟨Nat.zero_le _, Nat.zero_le _⟩ (Nat.le_of_ble_eq_true rfl) rfl dX10_compileConjunction_15 (fun w1 hw1 => ?_)
      subst hw1
      refine ⟨(wMd E a q3), by rfl, ?_⟩
      refine r_aload_n (pc := 18) C (i := 0) dX10_compileConjunction_18 rfl rfl ?_
      refine r_bipush (pc := 19) C (v := (-24)) dX10_compileConjunction_19 (by decide) ?_
      obtain ⟨q4, hq4, h⟩ := bnd h
      refine r_callV_CV (Cn := RX10) (pc := 21) C [.int (-24 : Int32)] (c_X10_emit E l k a q3 (-24 : Int32) hq4) [0, 1, 2, 3, 4, 5, 6, 7, 8, 9, 10, 11, 12] rfl (by decide) 0 rfl rfl rfl g_X10_454 hd_X10_emit ⟨(by simp only [rm_X10_compileConjunction, rm_X10_emit, rmV]; omega), (by simp only [rm_X10_compileConjunction, rm_X10_emit, rmV]; omega)⟩ ⟨Nat.zero_le _, Nat.zero_le _⟩ (Nat.le_of_ble_eq_true rfl) rfl dX10_compileConjunction_21 (fun w1 hw1 => ?_)
      subst hw1
      refine ⟨(wMd E a q4), by rfl, ?_⟩
      refine r_goto (pc := 24) C (tgt := 4) dX10_compileConjunction_24 rfl ?_
      refine r_weak (lSub_s lSub_e) ?_
      exact ih q4 q  h hq
def M_X10_compileConjunction_0 (k : Nat) (φ : (Nat → Nat → Int32) → Option ((Nat → Nat → Int32))) (S : Nat → Nat → Int32) : Option ((Nat → Nat → Int32)) := (φ S).bind fun q5 => M_X10_compileConjunction_4 k φ k q5
set_option maxRecDepth 100000 in
set_option maxHeartbeats 4000000 in
theorem N_X10_compileConjunction_0 (C : CX E p l s m args meth c cX10_compileConjunction 1 RX10 none A) (a : Nat → Nat) (k : Nat) (φ : (Nat → Nat → Int32) → Option ((Nat → Nat → Int32))) (f lo : Nat) (hφ : ∀ (a : Nat → Nat) (S : Nat → Nat → Int32) (q : (Nat → Nat → Int32)), φ S = some q → CV E l yX10_compileFactor cX10_compileFactor 2 none (rmV f lo) [.ref (a 0)] (wMd E a S) (fun w' => w' = wMd E a q)) {post : va_W → Prop} :
    ∀ (S : Nat → Nat → Int32) (q : (Nat → Nat → Int32)), M_X10_compileConjunction_0 k φ S = some q → post (wMd E a q) →
      WW E p l e (rm_X10_compileConjunction f lo) s m args below meth c A 0 0 (QV E below post args s (rm_X10_compileConjunction f lo) A) (wMd E a S) 1 [some (.ref (a 0))] 0 [] := by
  intro S q  h hq
  unfold M_X10_compileConjunction_0 at h
  refine r_aload_n (pc := 0) C (i := 0) dX10_compileConjunction_0 rfl rfl ?_
  obtain ⟨q5, hq5, h⟩ := bnd h
  refine r_callV_CV (Cn := RX10) (pc := 1) C [] (hφ a S _ hq5) [0, 1, 2, 3, 4, 5, 6, 7, 8, 9, 10, 11, 12] rfl (by decide) 0 rfl rfl rfl g_X10_462 hd_X10_compileFactor ⟨(by simp only [rm_X10_compileConjunction, rmV]; omega), (by simp only [rm_X10_compileConjunction, rmV]; omega)⟩ ⟨Nat.zero_le _, Nat.zero_le _⟩ (Nat.le_of_ble_eq_true rfl) rfl dX10_compileConjunction_1 (fun w1 hw1 => ?_)
  subst hw1
  refine ⟨(wMd E a q5), by rfl, ?_⟩
  refine r_weak (lSub_s lSub_e) ?_
  exact N_X10_compileConjunction_4 C a k φ f lo hφ k q5 q  h hq
def M_X10_compileConjunction (k : Nat) (φ : (Nat → Nat → Int32) → Option ((Nat → Nat → Int32))) (S : Nat → Nat → Int32) : Option ((Nat → Nat → Int32)) := M_X10_compileConjunction_0 k φ S
set_option maxRecDepth 100000 in
set_option maxHeartbeats 4000000 in
theorem c_X10_compileConjunction (E : ENV) (l : Launch) (k : Nat) (φ : (Nat → Nat → Int32) → Option ((Nat → Nat → Int32))) (f lo : Nat) (hφ : ∀ (a : Nat → Nat) (S : Nat → Nat → Int32) (q : (Nat → Nat → Int32)), φ S = some q → CV E l yX10_compileFactor cX10_compileFactor 2 none (rmV f lo) [.ref (a 0)] (wMd E a S) (fun w' => w' = wMd E a q)) (a : Nat → Nat) (S : Nat → Nat → Int32) {q : (Nat → Nat → Int32)} (hm : M_X10_compileConjunction k φ S = some q) : CV E l yX10_compileConjunction cX10_compileConjunction 1 none (rm_X10_compileConjunction f lo) [.ref (a 0)] (wMd E a S) (fun w' => w' = (wMd E a q)) :=
  CV.of 0 (by decide) (Nat.le_of_ble_eq_true rfl) (fun p e s m below meth c A C _ => r_weak (lSub_s lSub_e) (N_X10_compileConjunction_0 C a k φ f lo hφ S q  hm rfl))
theorem hd_X10_compileConjunction : yX10_compileConjunction.cls = RX10 ∧ yX10_compileConjunction.cls ≠ "java/lang/invoke/MethodHandle" ∧ yX10_compileConjunction.cls ≠ "java/lang/invoke/VarHandle" ∧ (parseMethodDescriptor yX10_compileConjunction.desc).map (fun d => d.parameters.length) = some 0 := by decide +kernel
theorem g_X10_473 : GoodIn GW (wsV RX10 473 RX10 yX10_compileConjunction (wsG yX10_compileConjunction cX10_compileConjunction 1 none)) := gw_V wm_8_81 wm_8_83 wm_0_100 wm_1_9 wm_8_84
-- ShardGuardModel.compileTest()V
theorem dX10_compileTest_0 : decode cX10_compileTest 0 = .ok (.aload_n 0, 1) := by decide +kernel
theorem dX10_compileTest_1 : decode cX10_compileTest 1 = .ok (.invokevirtual 473, 3) := by decide +kernel
theorem dX10_compileTest_4 : decode cX10_compileTest 4 = .ok (.aload_n 0, 1) := by decide +kernel
theorem dX10_compileTest_5 : decode cX10_compileTest 5 = .ok (.ldc_w 476, 3) := by decide +kernel
theorem dX10_compileTest_8 : decode cX10_compileTest 8 = .ok (.invokevirtual 422, 3) := by decide +kernel
theorem dX10_compileTest_11 : decode cX10_compileTest 11 = .ok (.ifCond .eq 16, 3) := by decide +kernel
theorem dX10_compileTest_14 : decode cX10_compileTest 14 = .ok (.aload_n 0, 1) := by decide +kernel
theorem dX10_compileTest_15 : decode cX10_compileTest 15 = .ok (.invokevirtual 473, 3) := by decide +kernel
theorem dX10_compileTest_18 : decode cX10_compileTest 18 = .ok (.aload_n 0, 1) := by decide +kernel
theorem dX10_compileTest_19 : decode cX10_compileTest 19 = .ok (.bipush (-25), 2) := by decide +kernel
theorem dX10_compileTest_21 : decode cX10_compileTest 21 = .ok (.invokevirtual 454, 3) := by decide +kernel
theorem dX10_compileTest_24 : decode cX10_compileTest 24 = .ok (.goto (-20), 3) := by decide +kernel
theorem dX10_compileTest_27 : decode cX10_compileTest 27 = .ok (.return_, 1) := by decide +kernel
def rm_X10_compileTest (f lo : Nat) : Room := { frames := 9 + f, cells := 0, slots := 0, locals := 215 + lo }
def M_X10_compileTest_4 (k : Nat) (φ : (Nat → Nat → Int32) → Option ((Nat → Nat → Int32))) : Nat → (Nat → Nat → Int32) → Option ((Nat → Nat → Int32))
  | 0, _ => none
  | n + 1, S => (M_X10_accept k S 78).bind fun q1 => if q1.1 = 0 then (some q1.2) else ((M_X10_compileConjunction k φ q1.2).bind fun q3 => (M_X10_emit k q3 (-25 : Int32)).bind fun q4 => M_X10_compileTest_4 k φ n q4)
theorem M_X10_compileTest_4_s (k : Nat) (φ : (Nat → Nat → Int32) → Option ((Nat → Nat → Int32))) (n : Nat) (S : Nat → Nat → Int32) : M_X10_compileTest_4 k φ (n + 1) S = ((M_X10_accept k S 78).bind fun q1 => if q1.1 = 0 then (some q1.2) else ((M_X10_compileConjunction k φ q1.2).bind fun q3 => (M_X10_emit k q3 (-25 : Int32)).bind fun q4 => M_X10_compileTest_4 k φ n q4)) := rfl
set_option maxRecDepth 100000 in
set_option maxHeartbeats 4000000 in
theorem N_X10_compileTest_4 (C : CX E p l s m args meth c cX10_compileTest 1 RX10 none A) (a : Nat → Nat) (k : Nat) (φ : (Nat → Nat → Int32) → Option ((Nat → Nat → Int32))) (f lo : Nat) (hφ : ∀ (a : Nat → Nat) (S : Nat → Nat → Int32) (q : (Nat → Nat → Int32)), φ S = some q → CV E l yX10_compileFactor cX10_compileFactor 2 none (rmV f lo) [.ref (a 0)] (wMd E a S) (fun w' => w' = wMd E a q)) {post : va_W → Prop} :
    ∀ (n : Nat) (S : Nat → Nat → Int32) (q : (Nat → Nat → Int32)), M_X10_compileTest_4 k φ n S = some q → post (wMd E a q) →
      WW E p l e (rm_X10_compileTest f lo) s m args below meth c A 0 0 (QV E below post args s (rm_X10_compileTest f lo) A) (wMd E a S) 1 [some (.ref (a 0))] 4 [] := by
  intro n
  induction n with
  | zero => intro S q  h _; cases h
  | succ n ih =>
    intro S q  h hq
    rw [M_X10_compileTest_4_s] at h
    refine r_aload_n (pc := 4) C (i := 0) dX10_compileTest_4 rfl rfl ?_
    refine r_ldcwS (pc := 5) C 78 rfl dX10_compileTest_5 ?_
    obtain ⟨q1, hq1, h⟩ := bnd h
    refine r_callV_CI (Cn := RX10) (pc := 8) C [.ref (eS E 78)] (c_X10_accept E l k a S 78 (by decide) hq1) [0, 1, 2, 3, 4, 5, 6, 7, 8, 9, 10, 11, 12] rfl (by decide) 0 rfl rfl rfl g_X10_422 hd_X10_accept ⟨(by simp only [rm_X10_compileTest, rm_X10_accept, rmV]; omega), (by simp only [rm_X10_compileTest, rm_X10_accept, rmV]; omega)⟩ ⟨Nat.zero_le _, Nat.zero_le _⟩ (Nat.le_of_ble_eq_true rfl) rfl dX10_compileTest_8 (fun r w1 hw1 => ?_)
    obtain ⟨hr1, hw1⟩ := hw1
    subst hr1 hw1
    refine ⟨(wMd E a q1.2), by rfl, ?_⟩
    refine r_if_eq (pc := 11) C (tgt := 27) dX10_compileTest_11 rfl (fun c2 => ?_) (fun c2 => ?_)
    · rw [if_pos c2] at h
      cases h
      exact r_vret (pc := 27) C hq (Nat.zero_le _) (Nat.zero_le _) dX10_compileTest_27
    · rw [if_neg c2] at h
      refine r_aload_n (pc := 14) C (i := 0) dX10_compileTest_14 rfl rfl ?_
      obtain ⟨q3, hq3, h⟩ := bnd h
      refine r_callV_CV (Cn := RX10) (pc := 15) C [] (c_X10_compileConjunction E l k φ f lo hφ a q1.2 hq3) [0, 1, 2, 3, 4, 5, 6, 7, 8, 9, 10, 11, 12] rfl (by decide) 0 rfl rfl rfl g_X10_473 hd_X10_compileConjunction ⟨(by simp only [rm_X10_compileTest, rm_X10_compileConjunction, rmV]; omega), (by simp only [rm_X10_compileTest, rm_X10_compileConjunction, rmV]; omega)⟩ ⟨Nat.zero_le _, Nat.zero_le _⟩ (Nat.le_of_ble_eq_true rfl) rfl dX10_compileTest_15 (fun w1 hw1 => ?_)
      subst hw1
      refine ⟨(wMd E a q3), by rfl, ?_⟩
      refine r_aload_n (pc := 18) C (i := 0) dX10_compileTest_18 rfl rfl ?_
      refine r_bipush (pc := 19) C (v := (-25)) dX10_compileTest_19 (by decide) ?_
      obtain ⟨q4, hq4, h⟩ := bnd h
      refine r_callV_CV (Cn := RX10) (pc := 21) C [.int (-25 : Int32)] (c_X10_emit E l k a q3 (-25 : Int32) hq4) [0, 1, 2, 3, 4, 5, 6, 7, 8, 9, 10, 11, 12] rfl (by decide) 0 rfl rfl rfl g_X10_454 hd_X10_emit ⟨(by simp only [rm_X10_compileTest, rm_X10_emit, rmV]; omega), (by simp only [rm_X10_compileTest, rm_X10_emit, rmV]; omega)⟩ ⟨Nat.zero_le _, Nat.zero_le _⟩ (Nat.le_of_ble_eq_true rfl) rfl dX10_compileTest_21 (fun w1 hw1 => ?_)
      subst hw1
      refine ⟨(wMd E a q4), by rfl, ?_⟩
      refine r_goto (pc := 24) C (tgt := 4) dX10_compileTest_24 rfl ?_
      refine r_weak (lSub_s lSub_e) ?_
      exact ih q4 q  h hq
def M_X10_compileTest_0 (k : Nat) (φ : (Nat → Nat → Int32) → Option ((Nat → Nat → Int32))) (S : Nat → Nat → Int32) : Option ((Nat → Nat → Int32)) := (M_X10_compileConjunction k φ S).bind fun q5 => M_X10_compileTest_4 k φ k q5
set_option maxRecDepth 100000 in
set_option maxHeartbeats 4000000 in
theorem N_X10_compileTest_0 (C : CX E p l s m args meth c cX10_compileTest 1 RX10 none A) (a : Nat → Nat) (k : Nat) (φ : (Nat → Nat → Int32) → Option ((Nat → Nat → Int32))) (f lo : Nat) (hφ : ∀ (a : Nat → Nat) (S : Nat → Nat → Int32) (q : (Nat → Nat → Int32)), φ S = some q → CV E l yX10_compileFactor cX10_compileFactor 2 none (rmV f lo) [.ref (a 0)] (wMd E a S) (fun w' => w' = wMd E a q)) {post : va_W → Prop} :
    ∀ (S : Nat → Nat → Int32) (q : (Nat → Nat → Int32)), M_X10_compileTest_0 k φ S = some q → post (wMd E a q) →
      WW E p l e (rm_X10_compileTest f lo) s m args below meth c A 0 0 (QV E below post args s (rm_X10_compileTest f lo) A) (wMd E a S) 1 [some (.ref (a 0))] 0 [] := by
  intro S q  h hq
  unfold M_X10_compileTest_0 at h
  refine r_aload_n (pc := 0) C (i := 0) dX10_compileTest_0 rfl rfl ?_
  obtain ⟨q5, hq5, h⟩ := bnd h
  refine r_callV_CV (Cn := RX10) (pc := 1) C [] (c_X10_compileConjunction E l k φ f lo hφ a S hq5) [0, 1, 2, 3, 4, 5, 6, 7, 8, 9, 10, 11, 12] rfl (by decide) 0 rfl rfl rfl g_X10_473 hd_X10_compileConjunction ⟨(by simp only [rm_X10_compileTest, rm_X10_compileConjunction, rmV]; omega), (by simp only [rm_X10_compileTest, rm_X10_compileConjunction, rmV]; omega)⟩ ⟨Nat.zero_le _, Nat.zero_le _⟩ (Nat.le_of_ble_eq_true rfl) rfl dX10_compileTest_1 (fun w1 hw1 => ?_)
  subst hw1
  refine ⟨(wMd E a q5), by rfl, ?_⟩
  refine r_weak (lSub_s lSub_e) ?_
  exact N_X10_compileTest_4 C a k φ f lo hφ k q5 q  h hq
def M_X10_compileTest (k : Nat) (φ : (Nat → Nat → Int32) → Option ((Nat → Nat → Int32))) (S : Nat → Nat → Int32) : Option ((Nat → Nat → Int32)) := M_X10_compileTest_0 k φ S
set_option maxRecDepth 100000 in
set_option maxHeartbeats 4000000 in
theorem c_X10_compileTest (E : ENV) (l : Launch) (k : Nat) (φ : (Nat → Nat → Int32) → Option ((Nat → Nat → Int32))) (f lo : Nat) (hφ : ∀ (a : Nat → Nat) (S : Nat → Nat → Int32) (q : (Nat → Nat → Int32)), φ S = some q → CV E l yX10_compileFactor cX10_compileFactor 2 none (rmV f lo) [.ref (a 0)] (wMd E a S) (fun w' => w' = wMd E a q)) (a : Nat → Nat) (S : Nat → Nat → Int32) {q : (Nat → Nat → Int32)} (hm : M_X10_compileTest k φ S = some q) : CV E l yX10_compileTest cX10_compileTest 1 none (rm_X10_compileTest f lo) [.ref (a 0)] (wMd E a S) (fun w' => w' = (wMd E a q)) :=
  CV.of 0 (by decide) (Nat.le_of_ble_eq_true rfl) (fun p e s m below meth c A C _ => r_weak (lSub_s lSub_e) (N_X10_compileTest_0 C a k φ f lo hφ S q  hm rfl))
theorem hd_X10_compileValue : yX10_compileValue.cls = RX10 ∧ yX10_compileValue.cls ≠ "java/lang/invoke/MethodHandle" ∧ yX10_compileValue.cls ≠ "java/lang/invoke/VarHandle" ∧ (parseMethodDescriptor yX10_compileValue.desc).map (fun d => d.parameters.length) = some 0 := by decide +kernel
theorem g_X10_468 : GoodIn GW (wsV RX10 468 RX10 yX10_compileValue (wsG yX10_compileValue cX10_compileValue 2 none)) := gw_V wm_8_98 wm_8_100 wm_0_104 wm_1_9 wm_8_101
theorem hd_X10_enter : yX10_enter.cls = RX10 ∧ yX10_enter.cls ≠ "java/lang/invoke/MethodHandle" ∧ yX10_enter.cls ≠ "java/lang/invoke/VarHandle" ∧ (parseMethodDescriptor yX10_enter.desc).map (fun d => d.parameters.length) = some 0 := by decide +kernel
theorem g_X10_459 : GoodIn GW (wsV RX10 459 RX10 yX10_enter (wsG yX10_enter cX10_enter 1 none)) := gw_V wm_8_90 wm_8_92 wm_0_102 wm_1_9 wm_8_93
theorem hd_X10_compileTest : yX10_compileTest.cls = RX10 ∧ yX10_compileTest.cls ≠ "java/lang/invoke/MethodHandle" ∧ yX10_compileTest.cls ≠ "java/lang/invoke/VarHandle" ∧ (parseMethodDescriptor yX10_compileTest.desc).map (fun d => d.parameters.length) = some 0 := by decide +kernel
theorem g_X10_465 : GoodIn GW (wsV RX10 465 RX10 yX10_compileTest (wsG yX10_compileTest cX10_compileTest 1 none)) := gw_V wm_8_77 wm_8_79 wm_0_99 wm_1_9 wm_8_80
-- ShardGuardModel.compileFactor()V
theorem dX10_compileFactor_0 : decode cX10_compileFactor 0 = .ok (.aload_n 0, 1) := by decide +kernel
theorem dX10_compileFactor_1 : decode cX10_compileFactor 1 = .ok (.ldc_w 457, 3) := by decide +kernel
theorem dX10_compileFactor_4 : decode cX10_compileFactor 4 = .ok (.invokevirtual 390, 3) := by decide +kernel
theorem dX10_compileFactor_7 : decode cX10_compileFactor 7 = .ok (.ifCond .eq 37, 3) := by decide +kernel
theorem dX10_compileFactor_10 : decode cX10_compileFactor 10 = .ok (.aload_n 0, 1) := by decide +kernel
theorem dX10_compileFactor_11 : decode cX10_compileFactor 11 = .ok (.invokevirtual 459, 3) := by decide +kernel
theorem dX10_compileFactor_14 : decode cX10_compileFactor 14 = .ok (.aload_n 0, 1) := by decide +kernel
theorem dX10_compileFactor_15 : decode cX10_compileFactor 15 = .ok (.getfield 375, 3) := by decide +kernel
theorem dX10_compileFactor_18 : decode cX10_compileFactor 18 = .ok (.ifCond .ne 7, 3) := by decide +kernel
theorem dX10_compileFactor_21 : decode cX10_compileFactor 21 = .ok (.aload_n 0, 1) := by decide +kernel
theorem dX10_compileFactor_22 : decode cX10_compileFactor 22 = .ok (.invokevirtual 462, 3) := by decide +kernel
theorem dX10_compileFactor_25 : decode cX10_compileFactor 25 = .ok (.aload_n 0, 1) := by decide +kernel
theorem dX10_compileFactor_26 : decode cX10_compileFactor 26 = .ok (.bipush (-23), 2) := by decide +kernel
theorem dX10_compileFactor_28 : decode cX10_compileFactor 28 = .ok (.invokevirtual 454, 3) := by decide +kernel
theorem dX10_compileFactor_31 : decode cX10_compileFactor 31 = .ok (.aload_n 0, 1) := by decide +kernel
theorem dX10_compileFactor_32 : decode cX10_compileFactor 32 = .ok (.dup, 1) := by decide +kernel
theorem dX10_compileFactor_33 : decode cX10_compileFactor 33 = .ok (.getfield 378, 3) := by decide +kernel
theorem dX10_compileFactor_36 : decode cX10_compileFactor 36 = .ok (.iconst 1, 1) := by decide +kernel
theorem dX10_compileFactor_37 : decode cX10_compileFactor 37 = .ok (.isub, 1) := by decide +kernel
theorem dX10_compileFactor_38 : decode cX10_compileFactor 38 = .ok (.putfield 378, 3) := by decide +kernel
theorem dX10_compileFactor_41 : decode cX10_compileFactor 41 = .ok (.goto 119, 3) := by decide +kernel
theorem dX10_compileFactor_44 : decode cX10_compileFactor 44 = .ok (.aload_n 0, 1) := by decide +kernel
theorem dX10_compileFactor_45 : decode cX10_compileFactor 45 = .ok (.bipush 40, 2) := by decide +kernel
theorem dX10_compileFactor_47 : decode cX10_compileFactor 47 = .ok (.invokevirtual 401, 3) := by decide +kernel
theorem dX10_compileFactor_50 : decode cX10_compileFactor 50 = .ok (.ifCond .eq 37, 3) := by decide +kernel
theorem dX10_compileFactor_53 : decode cX10_compileFactor 53 = .ok (.aload_n 0, 1) := by decide +kernel
theorem dX10_compileFactor_54 : decode cX10_compileFactor 54 = .ok (.invokevirtual 459, 3) := by decide +kernel
theorem dX10_compileFactor_57 : decode cX10_compileFactor 57 = .ok (.aload_n 0, 1) := by decide +kernel
theorem dX10_compileFactor_58 : decode cX10_compileFactor 58 = .ok (.getfield 375, 3) := by decide +kernel
theorem dX10_compileFactor_61 : decode cX10_compileFactor 61 = .ok (.ifCond .ne 7, 3) := by decide +kernel
theorem dX10_compileFactor_64 : decode cX10_compileFactor 64 = .ok (.aload_n 0, 1) := by decide +kernel
theorem dX10_compileFactor_65 : decode cX10_compileFactor 65 = .ok (.invokevirtual 465, 3) := by decide +kernel
theorem dX10_compileFactor_68 : decode cX10_compileFactor 68 = .ok (.aload_n 0, 1) := by decide +kernel
theorem dX10_compileFactor_69 : decode cX10_compileFactor 69 = .ok (.bipush 41, 2) := by decide +kernel
theorem dX10_compileFactor_71 : decode cX10_compileFactor 71 = .ok (.invokevirtual 419, 3) := by decide +kernel
theorem dX10_compileFactor_74 : decode cX10_compileFactor 74 = .ok (.aload_n 0, 1) := by decide +kernel
theorem dX10_compileFactor_75 : decode cX10_compileFactor 75 = .ok (.dup, 1) := by decide +kernel
theorem dX10_compileFactor_76 : decode cX10_compileFactor 76 = .ok (.getfield 378, 3) := by decide +kernel
theorem dX10_compileFactor_79 : decode cX10_compileFactor 79 = .ok (.iconst 1, 1) := by decide +kernel
theorem dX10_compileFactor_80 : decode cX10_compileFactor 80 = .ok (.isub, 1) := by decide +kernel
theorem dX10_compileFactor_81 : decode cX10_compileFactor 81 = .ok (.putfield 378, 3) := by decide +kernel
theorem dX10_compileFactor_84 : decode cX10_compileFactor 84 = .ok (.goto 76, 3) := by decide +kernel
theorem dX10_compileFactor_87 : decode cX10_compileFactor 87 = .ok (.aload_n 0, 1) := by decide +kernel
theorem dX10_compileFactor_88 : decode cX10_compileFactor 88 = .ok (.invokevirtual 468, 3) := by decide +kernel
theorem dX10_compileFactor_91 : decode cX10_compileFactor 91 = .ok (.aload_n 0, 1) := by decide +kernel
theorem dX10_compileFactor_92 : decode cX10_compileFactor 92 = .ok (.bipush 60, 2) := by decide +kernel
theorem dX10_compileFactor_94 : decode cX10_compileFactor 94 = .ok (.invokevirtual 401, 3) := by decide +kernel
theorem dX10_compileFactor_97 : decode cX10_compileFactor 97 = .ok (.ifCond .eq 8, 3) := by decide +kernel
theorem dX10_compileFactor_100 : decode cX10_compileFactor 100 = .ok (.bipush (-20), 2) := by decide +kernel
theorem dX10_compileFactor_102 : decode cX10_compileFactor 102 = .ok (.goto 19, 3) := by decide +kernel
theorem dX10_compileFactor_105 : decode cX10_compileFactor 105 = .ok (.aload_n 0, 1) := by decide +kernel
theorem dX10_compileFactor_106 : decode cX10_compileFactor 106 = .ok (.bipush 61, 2) := by decide +kernel
theorem dX10_compileFactor_108 : decode cX10_compileFactor 108 = .ok (.invokevirtual 401, 3) := by decide +kernel
theorem dX10_compileFactor_111 : decode cX10_compileFactor 111 = .ok (.ifCond .eq 8, 3) := by decide +kernel
theorem dX10_compileFactor_114 : decode cX10_compileFactor 114 = .ok (.bipush (-21), 2) := by decide +kernel
theorem dX10_compileFactor_116 : decode cX10_compileFactor 116 = .ok (.goto 5, 3) := by decide +kernel
theorem dX10_compileFactor_119 : decode cX10_compileFactor 119 = .ok (.bipush (-22), 2) := by decide +kernel
theorem dX10_compileFactor_121 : decode cX10_compileFactor 121 = .ok (.istore_n 1, 1) := by decide +kernel
theorem dX10_compileFactor_122 : decode cX10_compileFactor 122 = .ok (.aload_n 0, 1) := by decide +kernel
theorem dX10_compileFactor_123 : decode cX10_compileFactor 123 = .ok (.iload_n 1, 1) := by decide +kernel
theorem dX10_compileFactor_124 : decode cX10_compileFactor 124 = .ok (.bipush (-22), 2) := by decide +kernel
theorem dX10_compileFactor_126 : decode cX10_compileFactor 126 = .ok (.if_icmp .ne 12, 3) := by decide +kernel
theorem dX10_compileFactor_129 : decode cX10_compileFactor 129 = .ok (.aload_n 0, 1) := by decide +kernel
theorem dX10_compileFactor_130 : decode cX10_compileFactor 130 = .ok (.bipush 62, 2) := by decide +kernel
theorem dX10_compileFactor_132 : decode cX10_compileFactor 132 = .ok (.invokevirtual 401, 3) := by decide +kernel
theorem dX10_compileFactor_135 : decode cX10_compileFactor 135 = .ok (.ifCond .eq 7, 3) := by decide +kernel
theorem dX10_compileFactor_138 : decode cX10_compileFactor 138 = .ok (.iconst 1, 1) := by decide +kernel
theorem dX10_compileFactor_139 : decode cX10_compileFactor 139 = .ok (.goto 4, 3) := by decide +kernel
theorem dX10_compileFactor_142 : decode cX10_compileFactor 142 = .ok (.iconst 0, 1) := by decide +kernel
theorem dX10_compileFactor_143 : decode cX10_compileFactor 143 = .ok (.iconst 1, 1) := by decide +kernel
theorem dX10_compileFactor_144 : decode cX10_compileFactor 144 = .ok (.invokevirtual 394, 3) := by decide +kernel
theorem dX10_compileFactor_147 : decode cX10_compileFactor 147 = .ok (.aload_n 0, 1) := by decide +kernel
theorem dX10_compileFactor_148 : decode cX10_compileFactor 148 = .ok (.invokevirtual 398, 3) := by decide +kernel
theorem dX10_compileFactor_151 : decode cX10_compileFactor 151 = .ok (.aload_n 0, 1) := by decide +kernel
theorem dX10_compileFactor_152 : decode cX10_compileFactor 152 = .ok (.invokevirtual 468, 3) := by decide +kernel
theorem dX10_compileFactor_155 : decode cX10_compileFactor 155 = .ok (.aload_n 0, 1) := by decide +kernel
theorem dX10_compileFactor_156 : decode cX10_compileFactor 156 = .ok (.iload_n 1, 1) := by decide +kernel
theorem dX10_compileFactor_157 : decode cX10_compileFactor 157 = .ok (.invokevirtual 454, 3) := by decide +kernel
theorem dX10_compileFactor_160 : decode cX10_compileFactor 160 = .ok (.return_, 1) := by decide +kernel
def rm_X10_compileFactor (f lo : Nat) : Room := { frames := 10 + f, cells := 0, slots := 0, locals := 235 + lo }
def M_X10_compileFactor_143 (k : Nat) (φ : (Nat → Nat → Int32) → Option ((Nat → Nat → Int32))) (x1 : Int32) (y1 : Int32) (S : Nat → Nat → Int32) : Option ((Nat → Nat → Int32)) := (M_X10_check k S y1 (1 : Int32)).bind fun q1 => (M_X10_advance k q1).bind fun q2 => (M_X10_compileValue k q2).bind fun q3 => (M_X10_emit k q3 x1).bind fun q4 => some q4
set_option maxRecDepth 100000 in
set_option maxHeartbeats 4000000 in
theorem N_X10_compileFactor_143 (C : CX E p l s m args meth c cX10_compileFactor 2 RX10 none A) (a : Nat → Nat) (k : Nat) (φ : (Nat → Nat → Int32) → Option ((Nat → Nat → Int32))) (f lo : Nat) (hφ : ∀ (a : Nat → Nat) (S : Nat → Nat → Int32) (q : (Nat → Nat → Int32)), φ S = some q → CV E l yX10_compileFactor cX10_compileFactor 2 none (rmV f lo) [.ref (a 0)] (wMd E a S) (fun w' => w' = wMd E a q)) {post : va_W → Prop} :
    ∀ (x1 : Int32) (y1 : Int32) (S : Nat → Nat → Int32) (q : (Nat → Nat → Int32)), M_X10_compileFactor_143 k φ x1 y1 S = some q → post (wMd E a q) →
      WW E p l e (rm_X10_compileFactor f lo) s m args below meth c A 0 0 (QV E below post args s (rm_X10_compileFactor f lo) A) (wMd E a S) 2 [some (.ref (a 0)), some (.int x1)] 143 [.int y1, .ref (a 0)] := by
  intro x1 y1 S q  h hq
  unfold M_X10_compileFactor_143 at h
  refine r_iconst (pc := 143) C (v := 1) dX10_compileFactor_143 (by decide) ?_
  obtain ⟨q1, hq1, h⟩ := bnd h
  refine r_callV_CV (Cn := RX10) (pc := 144) C [.int y1, .int (1 : Int32)] (c_X10_check E l k a S y1 (1 : Int32) hq1) [0, 1, 2, 3, 4, 5, 6, 7, 8, 9, 10, 11, 12] rfl (by decide) 0 rfl rfl rfl g_X10_394 hd_X10_check ⟨(by simp only [rm_X10_compileFactor, rm_X10_check, rmV]; omega), (by simp only [rm_X10_compileFactor, rm_X10_check, rmV]; omega)⟩ ⟨Nat.zero_le _, Nat.zero_le _⟩ (Nat.le_of_ble_eq_true rfl) rfl dX10_compileFactor_144 (fun w1 hw1 => ?_)
  subst hw1
  refine ⟨(wMd E a q1), by rfl, ?_⟩
  refine r_aload_n (pc := 147) C (i := 0) dX10_compileFactor_147 rfl rfl ?_
  obtain ⟨q2, hq2, h⟩ := bnd h
  refine r_callV_CV (Cn := RX10) (pc := 148) C [] (c_X10_advance E l k a q1 hq2) [0, 1, 2, 3, 4, 5, 6, 7, 8, 9, 10, 11, 12] rfl (by decide) 0 rfl rfl rfl g_X10_398 hd_X10_advance ⟨(by simp only [rm_X10_compileFactor, rm_X10_advance, rmV]; omega), (by simp only [rm_X10_compileFactor, rm_X10_advance, rmV]; omega)⟩ ⟨Nat.zero_le _, Nat.zero_le _⟩ (Nat.le_of_ble_eq_true rfl) rfl dX10_compileFactor_148 (fun w1 hw1 => ?_)
  subst hw1
  refine ⟨(wMd E a q2), by rfl, ?_⟩
  refine r_aload_n (pc := 151) C (i := 0) dX10_compileFactor_151 rfl rfl ?_
  obtain ⟨q3, hq3, h⟩ := bnd h
  refine r_callV_CV (Cn := RX10) (pc := 152) C [] (c_X10_compileValue E l k a q2 hq3) [0, 1, 2, 3, 4, 5, 6, 7, 8, 9, 10, 11, 12] rfl (by decide) 0 rfl rfl rfl g_X10_468 hd_X10_compileValue ⟨(by simp only [rm_X10_compileFactor, rm_X10_compileValue, rmV]; omega), (by simp only [rm_X10_compileFactor, rm_X10_compileValue, rmV]; omega)⟩ ⟨Nat.zero_le _, Nat.zero_le _⟩ (Nat.le_of_ble_eq_true rfl) rfl dX10_compileFactor_152 (fun w1 hw1 => ?_)
  subst hw1
  refine ⟨(wMd E a q3), by rfl, ?_⟩
  refine r_aload_n (pc := 155) C (i := 0) dX10_compileFactor_155 rfl rfl ?_
  refine r_iload_n (pc := 156) C (i := 1) dX10_compileFactor_156 rfl rfl ?_
  obtain ⟨q4, hq4, h⟩ := bnd h
  refine r_callV_CV (Cn := RX10) (pc := 157) C [.int x1] (c_X10_emit E l k a q3 x1 hq4) [0, 1, 2, 3, 4, 5, 6, 7, 8, 9, 10, 11, 12] rfl (by decide) 0 rfl rfl rfl g_X10_454 hd_X10_emit ⟨(by simp only [rm_X10_compileFactor, rm_X10_emit, rmV]; omega), (by simp only [rm_X10_compileFactor, rm_X10_emit, rmV]; omega)⟩ ⟨Nat.zero_le _, Nat.zero_le _⟩ (Nat.le_of_ble_eq_true rfl) rfl dX10_compileFactor_157 (fun w1 hw1 => ?_)
  subst hw1
  refine ⟨(wMd E a q4), by rfl, ?_⟩
  cases h
  exact r_vret (pc := 160) C hq (Nat.zero_le _) (Nat.zero_le _) dX10_compileFactor_160
def M_X10_compileFactor_121 (k : Nat) (φ : (Nat → Nat → Int32) → Option ((Nat → Nat → Int32))) (y0 : Int32) (S : Nat → Nat → Int32) : Option ((Nat → Nat → Int32)) := if y0 = (-22 : Int32) then ((M_X10_isSymbol k S (62 : Int32)).bind fun q6 => if q6 = 0 then (M_X10_compileFactor_143 k φ y0 (0 : Int32) S) else (M_X10_compileFactor_143 k φ y0 (1 : Int32) S)) else (M_X10_compileFactor_143 k φ y0 (1 : Int32) S)
set_option maxRecDepth 100000 in
set_option maxHeartbeats 4000000 in
theorem N_X10_compileFactor_121 (C : CX E p l s m args meth c cX10_compileFactor 2 RX10 none A) (a : Nat → Nat) (k : Nat) (φ : (Nat → Nat → Int32) → Option ((Nat → Nat → Int32))) (f lo : Nat) (hφ : ∀ (a : Nat → Nat) (S : Nat → Nat → Int32) (q : (Nat → Nat → Int32)), φ S = some q → CV E l yX10_compileFactor cX10_compileFactor 2 none (rmV f lo) [.ref (a 0)] (wMd E a S) (fun w' => w' = wMd E a q)) {post : va_W → Prop} :
    ∀ (y0 : Int32) (S : Nat → Nat → Int32) (q : (Nat → Nat → Int32)), M_X10_compileFactor_121 k φ y0 S = some q → post (wMd E a q) →
      WW E p l e (rm_X10_compileFactor f lo) s m args below meth c A 0 0 (QV E below post args s (rm_X10_compileFactor f lo) A) (wMd E a S) 2 [some (.ref (a 0)), none] 121 [.int y0] := by
  intro y0 S q  h hq
  unfold M_X10_compileFactor_121 at h
  refine r_istore_n (pc := 121) C (i := 1) dX10_compileFactor_121 rfl (by decide) rfl ?_
  refine r_aload_n (pc := 122) C (i := 0) dX10_compileFactor_122 rfl rfl ?_
  refine r_iload_n (pc := 123) C (i := 1) dX10_compileFactor_123 rfl rfl ?_
  refine r_bipush (pc := 124) C (v := (-22)) dX10_compileFactor_124 (by decide) ?_
  refine r_icmp_ne (pc := 126) C (tgt := 138) dX10_compileFactor_126 rfl (fun c5 => ?_) (fun c5 => ?_)
  · rw [if_neg c5] at h
    refine r_iconst (pc := 138) C (v := 1) dX10_compileFactor_138 (by decide) ?_
    refine r_goto (pc := 139) C (tgt := 143) dX10_compileFactor_139 rfl ?_
    refine r_weak (lSub_s (lSub_s lSub_e)) ?_
    exact N_X10_compileFactor_143 C a k φ f lo hφ y0 (1 : Int32) S q  h hq
  · rw [if_pos c5] at h
    refine r_aload_n (pc := 129) C (i := 0) dX10_compileFactor_129 rfl rfl ?_
    refine r_bipush (pc := 130) C (v := 62) dX10_compileFactor_130 (by decide) ?_
    obtain ⟨q6, hq6, h⟩ := bnd h
    refine r_callVp_CI (Cn := RX10) (pc := 132) C [.int (62 : Int32)] (c_X10_isSymbol E l k a S (62 : Int32) hq6) [0, 1, 2, 3, 4, 5, 6, 7, 8, 9, 10, 11, 12] rfl (by decide) 0 rfl rfl rfl g_X10_401 hd_X10_isSymbol ⟨(by simp only [rm_X10_compileFactor, rm_X10_isSymbol, rmV]; omega), (by simp only [rm_X10_compileFactor, rm_X10_isSymbol, rmV]; omega)⟩ ⟨Nat.zero_le _, Nat.zero_le _⟩ (Nat.le_of_ble_eq_true rfl) rfl dX10_compileFactor_132 (fun r hr => ?_)
    have hr := hr.symm
    subst hr
    refine r_if_eq (pc := 135) C (tgt := 142) dX10_compileFactor_135 rfl (fun c7 => ?_) (fun c7 => ?_)
    · rw [if_pos c7] at h
      refine r_iconst (pc := 142) C (v := 0) dX10_compileFactor_142 (by decide) ?_
      refine r_weak (lSub_s (lSub_s lSub_e)) ?_
      exact N_X10_compileFactor_143 C a k φ f lo hφ y0 (0 : Int32) S q  h hq
    · rw [if_neg c7] at h
      refine r_iconst (pc := 138) C (v := 1) dX10_compileFactor_138 (by decide) ?_
      refine r_goto (pc := 139) C (tgt := 143) dX10_compileFactor_139 rfl ?_
      refine r_weak (lSub_s (lSub_s lSub_e)) ?_
      exact N_X10_compileFactor_143 C a k φ f lo hφ y0 (1 : Int32) S q  h hq
def M_X10_compileFactor_68 (k : Nat) (φ : (Nat → Nat → Int32) → Option ((Nat → Nat → Int32))) (S : Nat → Nat → Int32) : Option ((Nat → Nat → Int32)) := (M_X10_expect k S (41 : Int32)).bind fun q8 => lt (va_up q8 0 (upd (q8 0) 14 ((q8 0 14) - (1 : Int32)))) fun F9 => some F9
set_option maxRecDepth 100000 in
set_option maxHeartbeats 4000000 in
theorem N_X10_compileFactor_68 (C : CX E p l s m args meth c cX10_compileFactor 2 RX10 none A) (a : Nat → Nat) (k : Nat) (φ : (Nat → Nat → Int32) → Option ((Nat → Nat → Int32))) (f lo : Nat) (hφ : ∀ (a : Nat → Nat) (S : Nat → Nat → Int32) (q : (Nat → Nat → Int32)), φ S = some q → CV E l yX10_compileFactor cX10_compileFactor 2 none (rmV f lo) [.ref (a 0)] (wMd E a S) (fun w' => w' = wMd E a q)) {post : va_W → Prop} :
    ∀ (S : Nat → Nat → Int32) (q : (Nat → Nat → Int32)), M_X10_compileFactor_68 k φ S = some q → post (wMd E a q) →
      WW E p l e (rm_X10_compileFactor f lo) s m args below meth c A 0 0 (QV E below post args s (rm_X10_compileFactor f lo) A) (wMd E a S) 2 [some (.ref (a 0)), none] 68 [] := by
  intro S q  h hq
  unfold M_X10_compileFactor_68 at h
  refine r_aload_n (pc := 68) C (i := 0) dX10_compileFactor_68 rfl rfl ?_
  refine r_bipush (pc := 69) C (v := 41) dX10_compileFactor_69 (by decide) ?_
  obtain ⟨q8, hq8, h⟩ := bnd h
  refine r_callV_CV (Cn := RX10) (pc := 71) C [.int (41 : Int32)] (c_X10_expect E l k a S (41 : Int32) hq8) [0, 1, 2, 3, 4, 5, 6, 7, 8, 9, 10, 11, 12] rfl (by decide) 0 rfl rfl rfl g_X10_419 hd_X10_expect ⟨(by simp only [rm_X10_compileFactor, rm_X10_expect, rmV]; omega), (by simp only [rm_X10_compileFactor, rm_X10_expect, rmV]; omega)⟩ ⟨Nat.zero_le _, Nat.zero_le _⟩ (Nat.le_of_ble_eq_true rfl) rfl dX10_compileFactor_71 (fun w1 hw1 => ?_)
  subst hw1
  refine ⟨(wMd E a q8), by rfl, ?_⟩
  refine r_aload_n (pc := 74) C (i := 0) dX10_compileFactor_74 rfl rfl ?_
  refine r_dup (pc := 75) C dX10_compileFactor_75 rfl ?_
  refine r_get (pc := 76) C gwX10 0 rfl rfl 22 (by decide) wm_5_225 rfl dX10_compileFactor_76 ?_
  refine r_iconst (pc := 79) C (v := 1) dX10_compileFactor_79 (by decide) ?_
  refine r_isub (pc := 80) C dX10_compileFactor_80 ?_
  obtain ⟨F9, hF9, h⟩ := lt_e h
  refine r_put (pc := 81) C gwX10 tyX10 tyX10_ok nmX10 0 rfl rfl 22 (by decide) wm_5_225 rfl rfl rfl rfl (Nat.le_of_ble_eq_true rfl) (w' := (wMd E a F9)) (by rw [hF9]; rfl) dX10_compileFactor_81 ?_
  refine r_goto (pc := 84) C (tgt := 160) dX10_compileFactor_84 rfl ?_
  cases h
  exact r_vret (pc := 160) C hq (Nat.zero_le _) (Nat.zero_le _) dX10_compileFactor_160
def M_X10_compileFactor_25 (k : Nat) (φ : (Nat → Nat → Int32) → Option ((Nat → Nat → Int32))) (S : Nat → Nat → Int32) : Option ((Nat → Nat → Int32)) := (M_X10_emit k S (-23 : Int32)).bind fun q10 => lt (va_up q10 0 (upd (q10 0) 14 ((q10 0 14) - (1 : Int32)))) fun F11 => some F11
set_option maxRecDepth 100000 in
set_option maxHeartbeats 4000000 in
theorem N_X10_compileFactor_25 (C : CX E p l s m args meth c cX10_compileFactor 2 RX10 none A) (a : Nat → Nat) (k : Nat) (φ : (Nat → Nat → Int32) → Option ((Nat → Nat → Int32))) (f lo : Nat) (hφ : ∀ (a : Nat → Nat) (S : Nat → Nat → Int32) (q : (Nat → Nat → Int32)), φ S = some q → CV E l yX10_compileFactor cX10_compileFactor 2 none (rmV f lo) [.ref (a 0)] (wMd E a S) (fun w' => w' = wMd E a q)) {post : va_W → Prop} :
    ∀ (S : Nat → Nat → Int32) (q : (Nat → Nat → Int32)), M_X10_compileFactor_25 k φ S = some q → post (wMd E a q) →
      WW E p l e (rm_X10_compileFactor f lo) s m args below meth c A 0 0 (QV E below post args s (rm_X10_compileFactor f lo) A) (wMd E a S) 2 [some (.ref (a 0)), none] 25 [] := by
  intro S q  h hq
  unfold M_X10_compileFactor_25 at h
  refine r_aload_n (pc := 25) C (i := 0) dX10_compileFactor_25 rfl rfl ?_
  refine r_bipush (pc := 26) C (v := (-23)) dX10_compileFactor_26 (by decide) ?_
  obtain ⟨q10, hq10, h⟩ := bnd h
  refine r_callV_CV (Cn := RX10) (pc := 28) C [.int (-23 : Int32)] (c_X10_emit E l k a S (-23 : Int32) hq10) [0, 1, 2, 3, 4, 5, 6, 7, 8, 9, 10, 11, 12] rfl (by decide) 0 rfl rfl rfl g_X10_454 hd_X10_emit ⟨(by simp only [rm_X10_compileFactor, rm_X10_emit, rmV]; omega), (by simp only [rm_X10_compileFactor, rm_X10_emit, rmV]; omega)⟩ ⟨Nat.zero_le _, Nat.zero_le _⟩ (Nat.le_of_ble_eq_true rfl) rfl dX10_compileFactor_28 (fun w1 hw1 => ?_)
  subst hw1
  refine ⟨(wMd E a q10), by rfl, ?_⟩
  refine r_aload_n (pc := 31) C (i := 0) dX10_compileFactor_31 rfl rfl ?_
  refine r_dup (pc := 32) C dX10_compileFactor_32 rfl ?_
  refine r_get (pc := 33) C gwX10 0 rfl rfl 22 (by decide) wm_5_225 rfl dX10_compileFactor_33 ?_
  refine r_iconst (pc := 36) C (v := 1) dX10_compileFactor_36 (by decide) ?_
  refine r_isub (pc := 37) C dX10_compileFactor_37 ?_
  obtain ⟨F11, hF11, h⟩ := lt_e h
  refine r_put (pc := 38) C gwX10 tyX10 tyX10_ok nmX10 0 rfl rfl 22 (by decide) wm_5_225 rfl rfl rfl rfl (Nat.le_of_ble_eq_true rfl) (w' := (wMd E a F11)) (by rw [hF11]; rfl) dX10_compileFactor_38 ?_
  refine r_goto (pc := 41) C (tgt := 160) dX10_compileFactor_41 rfl ?_
  cases h
  exact r_vret (pc := 160) C hq (Nat.zero_le _) (Nat.zero_le _) dX10_compileFactor_160
def M_X10_compileFactor_0 (k : Nat) (φ : (Nat → Nat → Int32) → Option ((Nat → Nat → Int32))) (S : Nat → Nat → Int32) : Option ((Nat → Nat → Int32)) := (M_X10_isWord k S 76).bind fun q12 => if q12 = 0 then ((M_X10_isSymbol k S (40 : Int32)).bind fun q14 => if q14 = 0 then ((M_X10_compileValue k S).bind fun q16 => (M_X10_isSymbol k q16 (60 : Int32)).bind fun q17 => if q17 = 0 then ((M_X10_isSymbol k q16 (61 : Int32)).bind fun q19 => if q19 = 0 then (M_X10_compileFactor_121 k φ (-22 : Int32) q16) else (M_X10_compileFactor_121 k φ (-21 : Int32) q16)) else (M_X10_compileFactor_121 k φ (-20 : Int32) q16)) else ((M_X10_enter k S).bind fun q21 => if (q21 0 11) = 0 then ((M_X10_compileTest k φ q21).bind fun q23 => M_X10_compileFactor_68 k φ q23) else (M_X10_compileFactor_68 k φ q21))) else ((M_X10_enter k S).bind fun q24 => if (q24 0 11) = 0 then ((φ q24).bind fun q26 => M_X10_compileFactor_25 k φ q26) else (M_X10_compileFactor_25 k φ q24))
set_option maxRecDepth 100000 in
set_option maxHeartbeats 4000000 in
theorem N_X10_compileFactor_0 (C : CX E p l s m args meth c cX10_compileFactor 2 RX10 none A) (a : Nat → Nat) (k : Nat) (φ : (Nat → Nat → Int32) → Option ((Nat → Nat → Int32))) (f lo : Nat) (hφ : ∀ (a : Nat → Nat) (S : Nat → Nat → Int32) (q : (Nat → Nat → Int32)), φ S = some q → CV E l yX10_compileFactor cX10_compileFactor 2 none (rmV f lo) [.ref (a 0)] (wMd E a S) (fun w' => w' = wMd E a q)) {post : va_W → Prop} :
    ∀ (S : Nat → Nat → Int32) (q : (Nat → Nat → Int32)), M_X10_compileFactor_0 k φ S = some q → post (wMd E a q) →
      WW E p l e (rm_X10_compileFactor f lo) s m args below meth c A 0 0 (QV E below post args s (rm_X10_compileFactor f lo) A) (wMd E a S) 2 [some (.ref (a 0)), none] 0 [] := by
  intro S q  h hq
  unfold M_X10_compileFactor_0 at h
  refine r_aload_n (pc := 0) C (i := 0) dX10_compileFactor_0 rfl rfl ?_
  refine r_ldcwS (pc := 1) C 76 rfl dX10_compileFactor_1 ?_
  obtain ⟨q12, hq12, h⟩ := bnd h
  refine r_callVp_CI (Cn := RX10) (pc := 4) C [.ref (eS E 76)] (c_X10_isWord E l k a S 76 (by decide) hq12) [0, 1, 2, 3, 4, 5, 6, 7, 8, 9, 10, 11, 12] rfl (by decide) 0 rfl rfl rfl g_X10_390 hd_X10_isWord ⟨(by simp only [rm_X10_compileFactor, rm_X10_isWord, rmV]; omega), (by simp only [rm_X10_compileFactor, rm_X10_isWord, rmV]; omega)⟩ ⟨Nat.zero_le _, Nat.zero_le _⟩ (Nat.le_of_ble_eq_true rfl) rfl dX10_compileFactor_4 (fun r hr => ?_)
  have hr := hr.symm
  subst hr
  refine r_if_eq (pc := 7) C (tgt := 44) dX10_compileFactor_7 rfl (fun c13 => ?_) (fun c13 => ?_)
  · rw [if_pos c13] at h
    refine r_aload_n (pc := 44) C (i := 0) dX10_compileFactor_44 rfl rfl ?_
    refine r_bipush (pc := 45) C (v := 40) dX10_compileFactor_45 (by decide) ?_
    obtain ⟨q14, hq14, h⟩ := bnd h
    refine r_callVp_CI (Cn := RX10) (pc := 47) C [.int (40 : Int32)] (c_X10_isSymbol E l k a S (40 : Int32) hq14) [0, 1, 2, 3, 4, 5, 6, 7, 8, 9, 10, 11, 12] rfl (by decide) 0 rfl rfl rfl g_X10_401 hd_X10_isSymbol ⟨(by simp only [rm_X10_compileFactor, rm_X10_isSymbol, rmV]; omega), (by simp only [rm_X10_compileFactor, rm_X10_isSymbol, rmV]; omega)⟩ ⟨Nat.zero_le _, Nat.zero_le _⟩ (Nat.le_of_ble_eq_true rfl) rfl dX10_compileFactor_47 (fun r hr => ?_)
    have hr := hr.symm
    subst hr
    refine r_if_eq (pc := 50) C (tgt := 87) dX10_compileFactor_50 rfl (fun c15 => ?_) (fun c15 => ?_)
    · rw [if_pos c15] at h
      refine r_aload_n (pc := 87) C (i := 0) dX10_compileFactor_87 rfl rfl ?_
      obtain ⟨q16, hq16, h⟩ := bnd h
      refine r_callV_CV (Cn := RX10) (pc := 88) C [] (c_X10_compileValue E l k a S hq16) [0, 1, 2, 3, 4, 5, 6, 7, 8, 9, 10, 11, 12] rfl (by decide) 0 rfl rfl rfl g_X10_468 hd_X10_compileValue ⟨(by simp only [rm_X10_compileFactor, rm_X10_compileValue, rmV]; omega), (by simp only [rm_X10_compileFactor, rm_X10_compileValue, rmV]; omega)⟩ ⟨Nat.zero_le _, Nat.zero_le _⟩ (Nat.le_of_ble_eq_true rfl) rfl dX10_compileFactor_88 (fun w1 hw1 => ?_)
      subst hw1
      refine ⟨(wMd E a q16), by rfl, ?_⟩
      refine r_aload_n (pc := 91) C (i := 0) dX10_compileFactor_91 rfl rfl ?_
      refine r_bipush (pc := 92) C (v := 60) dX10_compileFactor_92 (by decide) ?_
      obtain ⟨q17, hq17, h⟩ := bnd h
      refine r_callVp_CI (Cn := RX10) (pc := 94) C [.int (60 : Int32)] (c_X10_isSymbol E l k a q16 (60 : Int32) hq17) [0, 1, 2, 3, 4, 5, 6, 7, 8, 9, 10, 11, 12] rfl (by decide) 0 rfl rfl rfl g_X10_401 hd_X10_isSymbol ⟨(by simp only [rm_X10_compileFactor, rm_X10_isSymbol, rmV]; omega), (by simp only [rm_X10_compileFactor, rm_X10_isSymbol, rmV]; omega)⟩ ⟨Nat.zero_le _, Nat.zero_le _⟩ (Nat.le_of_ble_eq_true rfl) rfl dX10_compileFactor_94 (fun r hr => ?_)
      have hr := hr.symm
      subst hr
      refine r_if_eq (pc := 97) C (tgt := 105) dX10_compileFactor_97 rfl (fun c18 => ?_) (fun c18 => ?_)
      · rw [if_pos c18] at h
        refine r_aload_n (pc := 105) C (i := 0) dX10_compileFactor_105 rfl rfl ?_
        refine r_bipush (pc := 106) C (v := 61) dX10_compileFactor_106 (by decide) ?_
        obtain ⟨q19, hq19, h⟩ := bnd h
        refine r_callVp_CI (Cn := RX10) (pc := 108) C [.int (61 : Int32)] (c_X10_isSymbol E l k a q16 (61 : Int32) hq19) [0, 1, 2, 3, 4, 5, 6, 7, 8, 9, 10, 11, 12] rfl (by decide) 0 rfl rfl rfl g_X10_401 hd_X10_isSymbol ⟨(by simp only [rm_X10_compileFactor, rm_X10_isSymbol, rmV]; omega), (by simp only [rm_X10_compileFactor, rm_X10_isSymbol, rmV]; omega)⟩ ⟨Nat.zero_le _, Nat.zero_le _⟩ (Nat.le_of_ble_eq_true rfl) rfl dX10_compileFactor_108 (fun r hr => ?_)
        have hr := hr.symm
        subst hr
        refine r_if_eq (pc := 111) C (tgt := 119) dX10_compileFactor_111 rfl (fun c20 => ?_) (fun c20 => ?_)
        · rw [if_pos c20] at h
          refine r_bipush (pc := 119) C (v := (-22)) dX10_compileFactor_119 (by decide) ?_
          refine r_weak (lSub_s (lSub_n lSub_e)) ?_
          exact N_X10_compileFactor_121 C a k φ f lo hφ (-22 : Int32) q16 q  h hq
        · rw [if_neg c20] at h
          refine r_bipush (pc := 114) C (v := (-21)) dX10_compileFactor_114 (by decide) ?_
          refine r_goto (pc := 116) C (tgt := 121) dX10_compileFactor_116 rfl ?_
          refine r_weak (lSub_s (lSub_n lSub_e)) ?_
          exact N_X10_compileFactor_121 C a k φ f lo hφ (-21 : Int32) q16 q  h hq
      · rw [if_neg c18] at h
        refine r_bipush (pc := 100) C (v := (-20)) dX10_compileFactor_100 (by decide) ?_
        refine r_goto (pc := 102) C (tgt := 121) dX10_compileFactor_102 rfl ?_
        refine r_weak (lSub_s (lSub_n lSub_e)) ?_
        exact N_X10_compileFactor_121 C a k φ f lo hφ (-20 : Int32) q16 q  h hq
    · rw [if_neg c15] at h
      refine r_aload_n (pc := 53) C (i := 0) dX10_compileFactor_53 rfl rfl ?_
      obtain ⟨q21, hq21, h⟩ := bnd h
      refine r_callV_CV (Cn := RX10) (pc := 54) C [] (c_X10_enter E l k a S hq21) [0, 1, 2, 3, 4, 5, 6, 7, 8, 9, 10, 11, 12] rfl (by decide) 0 rfl rfl rfl g_X10_459 hd_X10_enter ⟨(by simp only [rm_X10_compileFactor, rm_X10_enter, rmV]; omega), (by simp only [rm_X10_compileFactor, rm_X10_enter, rmV]; omega)⟩ ⟨Nat.zero_le _, Nat.zero_le _⟩ (Nat.le_of_ble_eq_true rfl) rfl dX10_compileFactor_54 (fun w1 hw1 => ?_)
      subst hw1
      refine ⟨(wMd E a q21), by rfl, ?_⟩
      refine r_aload_n (pc := 57) C (i := 0) dX10_compileFactor_57 rfl rfl ?_
      refine r_get (pc := 58) C gwX10 0 rfl rfl 19 (by decide) wm_5_222 rfl dX10_compileFactor_58 ?_
      refine r_if_ne (pc := 61) C (tgt := 68) dX10_compileFactor_61 rfl (fun c22 => ?_) (fun c22 => ?_)
      · rw [if_neg c22] at h
        refine r_weak (lSub_s (lSub_n lSub_e)) ?_
        exact N_X10_compileFactor_68 C a k φ f lo hφ q21 q  h hq
      · rw [if_pos c22] at h
        refine r_aload_n (pc := 64) C (i := 0) dX10_compileFactor_64 rfl rfl ?_
        obtain ⟨q23, hq23, h⟩ := bnd h
        refine r_callV_CV (Cn := RX10) (pc := 65) C [] (c_X10_compileTest E l k φ f lo hφ a q21 hq23) [0, 1, 2, 3, 4, 5, 6, 7, 8, 9, 10, 11, 12] rfl (by decide) 0 rfl rfl rfl g_X10_465 hd_X10_compileTest ⟨(by simp only [rm_X10_compileFactor, rm_X10_compileTest, rmV]; omega), (by simp only [rm_X10_compileFactor, rm_X10_compileTest, rmV]; omega)⟩ ⟨Nat.zero_le _, Nat.zero_le _⟩ (Nat.le_of_ble_eq_true rfl) rfl dX10_compileFactor_65 (fun w1 hw1 => ?_)
        subst hw1
        refine ⟨(wMd E a q23), by rfl, ?_⟩
        refine r_weak (lSub_s (lSub_n lSub_e)) ?_
        exact N_X10_compileFactor_68 C a k φ f lo hφ q23 q  h hq
  · rw [if_neg c13] at h
    refine r_aload_n (pc := 10) C (i := 0) dX10_compileFactor_10 rfl rfl ?_
    obtain ⟨q24, hq24, h⟩ := bnd h
    refine r_callV_CV (Cn := RX10) (pc := 11) C [] (c_X10_enter E l k a S hq24) [0, 1, 2, 3, 4, 5, 6, 7, 8, 9, 10, 11, 12] rfl (by decide) 0 rfl rfl rfl g_X10_459 hd_X10_enter ⟨(by simp only [rm_X10_compileFactor, rm_X10_enter, rmV]; omega), (by simp only [rm_X10_compileFactor, rm_X10_enter, rmV]; omega)⟩ ⟨Nat.zero_le _, Nat.zero_le _⟩ (Nat.le_of_ble_eq_true rfl) rfl dX10_compileFactor_11 (fun w1 hw1 => ?_)
    subst hw1
    refine ⟨(wMd E a q24), by rfl, ?_⟩
    refine r_aload_n (pc := 14) C (i := 0) dX10_compileFactor_14 rfl rfl ?_
    refine r_get (pc := 15) C gwX10 0 rfl rfl 19 (by decide) wm_5_222 rfl dX10_compileFactor_15 ?_
    refine r_if_ne (pc := 18) C (tgt := 25) dX10_compileFactor_18 rfl (fun c25 => ?_) (fun c25 => ?_)
    · rw [if_neg c25] at h
      refine r_weak (lSub_s (lSub_n lSub_e)) ?_
      exact N_X10_compileFactor_25 C a k φ f lo hφ q24 q  h hq
    · rw [if_pos c25] at h
      refine r_aload_n (pc := 21) C (i := 0) dX10_compileFactor_21 rfl rfl ?_
      obtain ⟨q26, hq26, h⟩ := bnd h
      refine r_callV_CV (Cn := RX10) (pc := 22) C [] (hφ a q24 _ hq26) [0, 1, 2, 3, 4, 5, 6, 7, 8, 9, 10, 11, 12] rfl (by decide) 0 rfl rfl rfl g_X10_462 hd_X10_compileFactor ⟨(by simp only [rm_X10_compileFactor, rmV]; omega), (by simp only [rm_X10_compileFactor, rmV]; omega)⟩ ⟨Nat.zero_le _, Nat.zero_le _⟩ (Nat.le_of_ble_eq_true rfl) rfl dX10_compileFactor_22 (fun w1 hw1 => ?_)
      subst hw1
      refine ⟨(wMd E a q26), by rfl, ?_⟩
      refine r_weak (lSub_s (lSub_n lSub_e)) ?_
      exact N_X10_compileFactor_25 C a k φ f lo hφ q26 q  h hq
def M_X10_compileFactor (k : Nat) (φ : (Nat → Nat → Int32) → Option ((Nat → Nat → Int32))) (S : Nat → Nat → Int32) : Option ((Nat → Nat → Int32)) := M_X10_compileFactor_0 k φ S
set_option maxRecDepth 100000 in
set_option maxHeartbeats 4000000 in
theorem c_X10_compileFactor (E : ENV) (l : Launch) (k : Nat) (φ : (Nat → Nat → Int32) → Option ((Nat → Nat → Int32))) (f lo : Nat) (hφ : ∀ (a : Nat → Nat) (S : Nat → Nat → Int32) (q : (Nat → Nat → Int32)), φ S = some q → CV E l yX10_compileFactor cX10_compileFactor 2 none (rmV f lo) [.ref (a 0)] (wMd E a S) (fun w' => w' = wMd E a q)) (a : Nat → Nat) (S : Nat → Nat → Int32) {q : (Nat → Nat → Int32)} (hm : M_X10_compileFactor k φ S = some q) : CV E l yX10_compileFactor cX10_compileFactor 2 none (rm_X10_compileFactor f lo) [.ref (a 0)] (wMd E a S) (fun w' => w' = (wMd E a q)) :=
  CV.of 1 (by decide) (Nat.le_of_ble_eq_true rfl) (fun p e s m below meth c A C _ => r_weak (lSub_s (lSub_n lSub_e)) (N_X10_compileFactor_0 C a k φ f lo hφ S q  hm rfl))
end WALKS
