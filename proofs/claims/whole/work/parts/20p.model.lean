section WALKS
variable {E : ENV} {p : Program} {l : Launch} {e : Env} {s : State} {m : MethodId} {args : Array Value} {below : List Frame} {meth : Method} {c : Code} {A : Nat → Prop}
-- ShardGuardModel.isSymbol(I)Z
theorem dX10_isSymbol_0 : decode cX10_isSymbol 0 = .ok (.aload_n 0, 1) := by decide +kernel
theorem dX10_isSymbol_1 : decode cX10_isSymbol 1 = .ok (.getfield 375, 3) := by decide +kernel
theorem dX10_isSymbol_4 : decode cX10_isSymbol 4 = .ok (.ifCond .ne 28, 3) := by decide +kernel
theorem dX10_isSymbol_7 : decode cX10_isSymbol 7 = .ok (.aload_n 0, 1) := by decide +kernel
theorem dX10_isSymbol_8 : decode cX10_isSymbol 8 = .ok (.getfield 366, 3) := by decide +kernel
theorem dX10_isSymbol_11 : decode cX10_isSymbol 11 = .ok (.iconst 3, 1) := by decide +kernel
theorem dX10_isSymbol_12 : decode cX10_isSymbol 12 = .ok (.if_icmp .ne 20, 3) := by decide +kernel
theorem dX10_isSymbol_15 : decode cX10_isSymbol 15 = .ok (.aload_n 0, 1) := by decide +kernel
theorem dX10_isSymbol_16 : decode cX10_isSymbol 16 = .ok (.getfield 34, 3) := by decide +kernel
theorem dX10_isSymbol_19 : decode cX10_isSymbol 19 = .ok (.aload_n 0, 1) := by decide +kernel
theorem dX10_isSymbol_20 : decode cX10_isSymbol 20 = .ok (.getfield 363, 3) := by decide +kernel
theorem dX10_isSymbol_23 : decode cX10_isSymbol 23 = .ok (.iaload, 1) := by decide +kernel
theorem dX10_isSymbol_24 : decode cX10_isSymbol 24 = .ok (.iload_n 1, 1) := by decide +kernel
theorem dX10_isSymbol_25 : decode cX10_isSymbol 25 = .ok (.if_icmp .ne 7, 3) := by decide +kernel
theorem dX10_isSymbol_28 : decode cX10_isSymbol 28 = .ok (.iconst 1, 1) := by decide +kernel
theorem dX10_isSymbol_29 : decode cX10_isSymbol 29 = .ok (.goto 4, 3) := by decide +kernel
theorem dX10_isSymbol_32 : decode cX10_isSymbol 32 = .ok (.iconst 0, 1) := by decide +kernel
theorem dX10_isSymbol_33 : decode cX10_isSymbol 33 = .ok (.ireturn, 1) := by decide +kernel
def rm_X10_isSymbol : Room := { frames := 0, cells := 0, slots := 0, locals := 0 }
def M_X10_isSymbol_0 (k : Nat) (S : Nat → Nat → Int32) (p0 : Int32) : Option (Int32) := if (S 0 11) = 0 then (if (S 0 10) = (3 : Int32) then ((if inb (S 0 9) 700 = true then if ((S 8) (S 0 9).toNatClampNeg) = p0 then (some (1 : Int32)) else (some (0 : Int32)) else none)) else (some (0 : Int32))) else (some (0 : Int32))
set_option maxRecDepth 100000 in
set_option maxHeartbeats 4000000 in
theorem N_X10_isSymbol_0 (C : CX E p l s m args meth c cX10_isSymbol 2 RX10 (some .boolean) A) (a : Nat → Nat) (k : Nat) (S : Nat → Nat → Int32) {post : Int32 → va_W → Prop} :
    ∀ (p0 : Int32) (q : Int32), M_X10_isSymbol_0 k S p0 = some q → post q (wMd E a S) →
      WW E p l e rm_X10_isSymbol s m args below meth c A 0 0 (QI E below post args s rm_X10_isSymbol A) (wMd E a S) 2 [some (.ref (a 0)), some (.int p0)] 0 [] := by
  intro p0 q  h hq
  unfold M_X10_isSymbol_0 at h
  refine r_aload_n (pc := 0) C (i := 0) dX10_isSymbol_0 rfl rfl ?_
  refine r_get (pc := 1) C gwX10 0 rfl rfl 19 (by decide) wm_5_222 rfl dX10_isSymbol_1 ?_
  refine r_if_ne (pc := 4) C (tgt := 32) dX10_isSymbol_4 rfl (fun c1 => ?_) (fun c1 => ?_)
  · rw [if_neg c1] at h
    refine r_iconst (pc := 32) C (v := 0) dX10_isSymbol_32 (by decide) ?_
    cases h
    exact r_iretz (pc := 33) C (Or.inl rfl) hq (Nat.zero_le _) (Nat.zero_le _) dX10_isSymbol_33
  · rw [if_pos c1] at h
    refine r_aload_n (pc := 7) C (i := 0) dX10_isSymbol_7 rfl rfl ?_
    refine r_get (pc := 8) C gwX10 0 rfl rfl 18 (by decide) wm_5_221 rfl dX10_isSymbol_8 ?_
    refine r_iconst (pc := 11) C (v := 3) dX10_isSymbol_11 (by decide) ?_
    refine r_icmp_ne (pc := 12) C (tgt := 32) dX10_isSymbol_12 rfl (fun c2 => ?_) (fun c2 => ?_)
    · rw [if_neg c2] at h
      refine r_iconst (pc := 32) C (v := 0) dX10_isSymbol_32 (by decide) ?_
      cases h
      exact r_iretz (pc := 33) C (Or.inl rfl) hq (Nat.zero_le _) (Nat.zero_le _) dX10_isSymbol_33
    · rw [if_pos c2] at h
      refine r_aload_n (pc := 15) C (i := 0) dX10_isSymbol_15 rfl rfl ?_
      refine r_get (pc := 16) C gwX10 0 rfl rfl 13 (by decide) wm_5_216 rfl dX10_isSymbol_16 ?_
      refine r_aload_n (pc := 19) C (i := 0) dX10_isSymbol_19 rfl rfl ?_
      refine r_get (pc := 20) C gwX10 0 rfl rfl 17 (by decide) wm_5_220 rfl dX10_isSymbol_20 ?_
      obtain ⟨hi3, h⟩ := ifn h
      refine r_iald (pc := 23) C 8 rfl hi3 dX10_isSymbol_23 ?_
      refine r_iload_n (pc := 24) C (i := 1) dX10_isSymbol_24 rfl rfl ?_
      refine r_icmp_ne (pc := 25) C (tgt := 32) dX10_isSymbol_25 rfl (fun c4 => ?_) (fun c4 => ?_)
      · rw [if_neg c4] at h
        refine r_iconst (pc := 32) C (v := 0) dX10_isSymbol_32 (by decide) ?_
        cases h
        exact r_iretz (pc := 33) C (Or.inl rfl) hq (Nat.zero_le _) (Nat.zero_le _) dX10_isSymbol_33
      · rw [if_pos c4] at h
        refine r_iconst (pc := 28) C (v := 1) dX10_isSymbol_28 (by decide) ?_
        refine r_goto (pc := 29) C (tgt := 33) dX10_isSymbol_29 rfl ?_
        cases h
        exact r_iretz (pc := 33) C (Or.inr rfl) hq (Nat.zero_le _) (Nat.zero_le _) dX10_isSymbol_33
def M_X10_isSymbol (k : Nat) (S : Nat → Nat → Int32) (p0 : Int32) : Option (Int32) := M_X10_isSymbol_0 k S p0
set_option maxRecDepth 100000 in
set_option maxHeartbeats 4000000 in
theorem c_X10_isSymbol (E : ENV) (l : Launch) (k : Nat) (a : Nat → Nat) (S : Nat → Nat → Int32) (p0 : Int32) {q : Int32} (hm : M_X10_isSymbol k S p0 = some q) : CI E l yX10_isSymbol cX10_isSymbol 2 (some .boolean) rm_X10_isSymbol [.ref (a 0), .int p0] (wMd E a S) (fun r w' => r = q ∧ w' = (wMd E a S)) :=
  CI.of 0 (by decide) (Nat.le_of_ble_eq_true rfl) (fun p e s m below meth c A C _ => r_weak (lSub_s (lSub_s lSub_e)) (N_X10_isSymbol_0 C a k S p0 q  hm ⟨rfl, rfl⟩))
-- ShardGuardModel.isWord(Ljava/lang/String;)Z
theorem dX10_isWord_0 : decode cX10_isWord 0 = .ok (.aload_n 0, 1) := by decide +kernel
theorem dX10_isWord_1 : decode cX10_isWord 1 = .ok (.getfield 375, 3) := by decide +kernel
theorem dX10_isWord_4 : decode cX10_isWord 4 = .ok (.ifCond .ne 31, 3) := by decide +kernel
theorem dX10_isWord_7 : decode cX10_isWord 7 = .ok (.aload_n 0, 1) := by decide +kernel
theorem dX10_isWord_8 : decode cX10_isWord 8 = .ok (.getfield 366, 3) := by decide +kernel
theorem dX10_isWord_11 : decode cX10_isWord 11 = .ok (.iconst 1, 1) := by decide +kernel
theorem dX10_isWord_12 : decode cX10_isWord 12 = .ok (.if_icmp .ne 23, 3) := by decide +kernel
theorem dX10_isWord_15 : decode cX10_isWord 15 = .ok (.aload_n 1, 1) := by decide +kernel
theorem dX10_isWord_16 : decode cX10_isWord 16 = .ok (.invokevirtual 318, 3) := by decide +kernel
theorem dX10_isWord_19 : decode cX10_isWord 19 = .ok (.aload_n 0, 1) := by decide +kernel
theorem dX10_isWord_20 : decode cX10_isWord 20 = .ok (.getfield 361, 3) := by decide +kernel
theorem dX10_isWord_23 : decode cX10_isWord 23 = .ok (.aload_n 0, 1) := by decide +kernel
theorem dX10_isWord_24 : decode cX10_isWord 24 = .ok (.getfield 363, 3) := by decide +kernel
theorem dX10_isWord_27 : decode cX10_isWord 27 = .ok (.isub, 1) := by decide +kernel
theorem dX10_isWord_28 : decode cX10_isWord 28 = .ok (.if_icmp .ne 7, 3) := by decide +kernel
theorem dX10_isWord_31 : decode cX10_isWord 31 = .ok (.iconst 1, 1) := by decide +kernel
theorem dX10_isWord_32 : decode cX10_isWord 32 = .ok (.goto 4, 3) := by decide +kernel
theorem dX10_isWord_35 : decode cX10_isWord 35 = .ok (.iconst 0, 1) := by decide +kernel
theorem dX10_isWord_36 : decode cX10_isWord 36 = .ok (.istore_n 2, 1) := by decide +kernel
theorem dX10_isWord_37 : decode cX10_isWord 37 = .ok (.iconst 0, 1) := by decide +kernel
theorem dX10_isWord_38 : decode cX10_isWord 38 = .ok (.istore_n 3, 1) := by decide +kernel
theorem dX10_isWord_39 : decode cX10_isWord 39 = .ok (.iload_n 2, 1) := by decide +kernel
theorem dX10_isWord_40 : decode cX10_isWord 40 = .ok (.ifCond .eq 42, 3) := by decide +kernel
theorem dX10_isWord_43 : decode cX10_isWord 43 = .ok (.iload_n 3, 1) := by decide +kernel
theorem dX10_isWord_44 : decode cX10_isWord 44 = .ok (.aload_n 1, 1) := by decide +kernel
theorem dX10_isWord_45 : decode cX10_isWord 45 = .ok (.invokevirtual 318, 3) := by decide +kernel
theorem dX10_isWord_48 : decode cX10_isWord 48 = .ok (.if_icmp .ge 34, 3) := by decide +kernel
theorem dX10_isWord_51 : decode cX10_isWord 51 = .ok (.aload_n 1, 1) := by decide +kernel
theorem dX10_isWord_52 : decode cX10_isWord 52 = .ok (.iload_n 3, 1) := by decide +kernel
theorem dX10_isWord_53 : decode cX10_isWord 53 = .ok (.invokevirtual 321, 3) := by decide +kernel
theorem dX10_isWord_56 : decode cX10_isWord 56 = .ok (.aload_n 0, 1) := by decide +kernel
theorem dX10_isWord_57 : decode cX10_isWord 57 = .ok (.getfield 34, 3) := by decide +kernel
theorem dX10_isWord_60 : decode cX10_isWord 60 = .ok (.aload_n 0, 1) := by decide +kernel
theorem dX10_isWord_61 : decode cX10_isWord 61 = .ok (.getfield 363, 3) := by decide +kernel
theorem dX10_isWord_64 : decode cX10_isWord 64 = .ok (.iload_n 3, 1) := by decide +kernel
theorem dX10_isWord_65 : decode cX10_isWord 65 = .ok (.iadd, 1) := by decide +kernel
theorem dX10_isWord_66 : decode cX10_isWord 66 = .ok (.iaload, 1) := by decide +kernel
theorem dX10_isWord_67 : decode cX10_isWord 67 = .ok (.if_icmp .ne 7, 3) := by decide +kernel
theorem dX10_isWord_70 : decode cX10_isWord 70 = .ok (.iconst 1, 1) := by decide +kernel
theorem dX10_isWord_71 : decode cX10_isWord 71 = .ok (.goto 4, 3) := by decide +kernel
theorem dX10_isWord_74 : decode cX10_isWord 74 = .ok (.iconst 0, 1) := by decide +kernel
theorem dX10_isWord_75 : decode cX10_isWord 75 = .ok (.istore_n 2, 1) := by decide +kernel
theorem dX10_isWord_76 : decode cX10_isWord 76 = .ok (.iinc 3 1, 3) := by decide +kernel
theorem dX10_isWord_79 : decode cX10_isWord 79 = .ok (.goto (-40), 3) := by decide +kernel
theorem dX10_isWord_82 : decode cX10_isWord 82 = .ok (.iload_n 2, 1) := by decide +kernel
theorem dX10_isWord_83 : decode cX10_isWord 83 = .ok (.ireturn, 1) := by decide +kernel
def rm_X10_isWord : Room := { frames := 6, cells := 0, slots := 0, locals := 150 }
def M_X10_isWord_39 (k : Nat) (S : Nat → Nat → Int32) : Nat → (Nat) → (Int32) → (Int32) → Option (Int32)
  | 0, _, _, _ => none
  | n + 1, t1, x2, x3 => if x2 = 0 then (if x2 = 0 ∨ x2 = 1 then some x2 else none) else (if (nI (txB t1).length) ≤ x3 then (if x2 = 0 ∨ x2 = 1 then some x2 else none) else ((if inb x3 (txB t1).length = true then (if inb ((S 0 9) + x3) 700 = true then if ((txB t1).getD x3.toNatClampNeg 0) = ((S 8) ((S 0 9) + x3).toNatClampNeg) then (M_X10_isWord_39 k S n t1 (1 : Int32) (x3 + 1)) else (M_X10_isWord_39 k S n t1 (0 : Int32) (x3 + 1)) else none) else none)))
theorem M_X10_isWord_39_s (k : Nat) (S : Nat → Nat → Int32) (n : Nat) (t1 : Nat) (x2 : Int32) (x3 : Int32) : M_X10_isWord_39 k S (n + 1) t1 x2 x3 = (if x2 = 0 then (if x2 = 0 ∨ x2 = 1 then some x2 else none) else (if (nI (txB t1).length) ≤ x3 then (if x2 = 0 ∨ x2 = 1 then some x2 else none) else ((if inb x3 (txB t1).length = true then (if inb ((S 0 9) + x3) 700 = true then if ((txB t1).getD x3.toNatClampNeg 0) = ((S 8) ((S 0 9) + x3).toNatClampNeg) then (M_X10_isWord_39 k S n t1 (1 : Int32) (x3 + 1)) else (M_X10_isWord_39 k S n t1 (0 : Int32) (x3 + 1)) else none) else none)))) := rfl
set_option maxRecDepth 100000 in
set_option maxHeartbeats 4000000 in
theorem N_X10_isWord_39 (C : CX E p l s m args meth c cX10_isWord 4 RX10 (some .boolean) A) (a : Nat → Nat) (k : Nat) (S : Nat → Nat → Int32) {post : Int32 → va_W → Prop} :
    ∀ (n : Nat) (t1 : Nat) (x2 : Int32) (x3 : Int32) (q : Int32), t1 < 79 → M_X10_isWord_39 k S n t1 x2 x3 = some q → post q (wMd E a S) →
      WW E p l e rm_X10_isWord s m args below meth c A 0 0 (QI E below post args s rm_X10_isWord A) (wMd E a S) 4 [some (.ref (a 0)), some (.ref (eS E t1)), some (.int x2), some (.int x3)] 39 [] := by
  intro n
  induction n with
  | zero => intro t1 x2 x3 q hj_t1 h _; cases h
  | succ n ih =>
    intro t1 x2 x3 q hj_t1 h hq
    rw [M_X10_isWord_39_s] at h
    refine r_iload_n (pc := 39) C (i := 2) dX10_isWord_39 rfl rfl ?_
    refine r_if_eq (pc := 40) C (tgt := 82) dX10_isWord_40 rfl (fun c1 => ?_) (fun c1 => ?_)
    · rw [if_pos c1] at h
      refine r_iload_n (pc := 82) C (i := 2) dX10_isWord_82 rfl rfl ?_
      obtain ⟨hz2, h⟩ := ifn h
      cases h
      exact r_iretz (pc := 83) C hz2 hq (Nat.zero_le _) (Nat.zero_le _) dX10_isWord_83
    · rw [if_neg c1] at h
      refine r_iload_n (pc := 43) C (i := 3) dX10_isWord_43 rfl rfl ?_
      refine r_aload_n (pc := 44) C (i := 1) dX10_isWord_44 rfl rfl ?_
      refine r_strlen (pc := 45) C hj_t1 wm_7_179 ⟨Nat.le_of_ble_eq_true rfl, Nat.le_of_ble_eq_true rfl⟩ ⟨Nat.zero_le _, Nat.zero_le _⟩ (Nat.le_of_ble_eq_true rfl) dX10_isWord_45 ?_
      refine r_icmp_ge (pc := 48) C (tgt := 82) dX10_isWord_48 rfl (fun c3 => ?_) (fun c3 => ?_)
      · rw [if_pos c3] at h
        refine r_iload_n (pc := 82) C (i := 2) dX10_isWord_82 rfl rfl ?_
        obtain ⟨hz4, h⟩ := ifn h
        cases h
        exact r_iretz (pc := 83) C hz4 hq (Nat.zero_le _) (Nat.zero_le _) dX10_isWord_83
      · rw [if_neg c3] at h
        refine r_aload_n (pc := 51) C (i := 1) dX10_isWord_51 rfl rfl ?_
        refine r_iload_n (pc := 52) C (i := 3) dX10_isWord_52 rfl rfl ?_
        obtain ⟨hi5, h⟩ := ifn h
        refine r_strat (pc := 53) C hj_t1 hi5 wm_7_180 ⟨Nat.le_of_ble_eq_true rfl, Nat.le_of_ble_eq_true rfl⟩ ⟨Nat.zero_le _, Nat.zero_le _⟩ (Nat.le_of_ble_eq_true rfl) dX10_isWord_53 ?_
        refine r_aload_n (pc := 56) C (i := 0) dX10_isWord_56 rfl rfl ?_
        refine r_get (pc := 57) C gwX10 0 rfl rfl 13 (by decide) wm_5_216 rfl dX10_isWord_57 ?_
        refine r_aload_n (pc := 60) C (i := 0) dX10_isWord_60 rfl rfl ?_
        refine r_get (pc := 61) C gwX10 0 rfl rfl 17 (by decide) wm_5_220 rfl dX10_isWord_61 ?_
        refine r_iload_n (pc := 64) C (i := 3) dX10_isWord_64 rfl rfl ?_
        refine r_iadd (pc := 65) C dX10_isWord_65 ?_
        obtain ⟨hi6, h⟩ := ifn h
        refine r_iald (pc := 66) C 8 rfl hi6 dX10_isWord_66 ?_
        refine r_icmp_ne (pc := 67) C (tgt := 74) dX10_isWord_67 rfl (fun c7 => ?_) (fun c7 => ?_)
        · rw [if_neg c7] at h
          refine r_iconst (pc := 74) C (v := 0) dX10_isWord_74 (by decide) ?_
          refine r_istore_n (pc := 75) C (i := 2) dX10_isWord_75 rfl (by decide) rfl ?_
          refine r_iinc (pc := 76) C (v := (x3 + 1)) dX10_isWord_76 rfl rfl (by decide) rfl ?_
          refine r_goto (pc := 79) C (tgt := 39) dX10_isWord_79 rfl ?_
          refine r_weak (lSub_s (lSub_s (lSub_s (lSub_s lSub_e)))) ?_
          exact ih t1 (0 : Int32) (x3 + 1) q hj_t1 h hq
        · rw [if_pos c7] at h
          refine r_iconst (pc := 70) C (v := 1) dX10_isWord_70 (by decide) ?_
          refine r_goto (pc := 71) C (tgt := 75) dX10_isWord_71 rfl ?_
          refine r_istore_n (pc := 75) C (i := 2) dX10_isWord_75 rfl (by decide) rfl ?_
          refine r_iinc (pc := 76) C (v := (x3 + 1)) dX10_isWord_76 rfl rfl (by decide) rfl ?_
          refine r_goto (pc := 79) C (tgt := 39) dX10_isWord_79 rfl ?_
          refine r_weak (lSub_s (lSub_s (lSub_s (lSub_s lSub_e)))) ?_
          exact ih t1 (1 : Int32) (x3 + 1) q hj_t1 h hq
def M_X10_isWord_0 (k : Nat) (S : Nat → Nat → Int32) (p0 : Nat) : Option (Int32) := if (S 0 11) = 0 then (if (S 0 10) = (1 : Int32) then (if (nI (txB p0).length) = ((S 0 8) - (S 0 9)) then (M_X10_isWord_39 k S k p0 (1 : Int32) (0 : Int32)) else (M_X10_isWord_39 k S k p0 (0 : Int32) (0 : Int32))) else (M_X10_isWord_39 k S k p0 (0 : Int32) (0 : Int32))) else (M_X10_isWord_39 k S k p0 (0 : Int32) (0 : Int32))
set_option maxRecDepth 100000 in
set_option maxHeartbeats 4000000 in
theorem N_X10_isWord_0 (C : CX E p l s m args meth c cX10_isWord 4 RX10 (some .boolean) A) (a : Nat → Nat) (k : Nat) (S : Nat → Nat → Int32) {post : Int32 → va_W → Prop} :
    ∀ (p0 : Nat) (q : Int32), p0 < 79 → M_X10_isWord_0 k S p0 = some q → post q (wMd E a S) →
      WW E p l e rm_X10_isWord s m args below meth c A 0 0 (QI E below post args s rm_X10_isWord A) (wMd E a S) 4 [some (.ref (a 0)), some (.ref (eS E p0)), none, none] 0 [] := by
  intro p0 q hj_p0 h hq
  unfold M_X10_isWord_0 at h
  refine r_aload_n (pc := 0) C (i := 0) dX10_isWord_0 rfl rfl ?_
  refine r_get (pc := 1) C gwX10 0 rfl rfl 19 (by decide) wm_5_222 rfl dX10_isWord_1 ?_
  refine r_if_ne (pc := 4) C (tgt := 35) dX10_isWord_4 rfl (fun c8 => ?_) (fun c8 => ?_)
  · rw [if_neg c8] at h
    refine r_iconst (pc := 35) C (v := 0) dX10_isWord_35 (by decide) ?_
    refine r_istore_n (pc := 36) C (i := 2) dX10_isWord_36 rfl (by decide) rfl ?_
    refine r_iconst (pc := 37) C (v := 0) dX10_isWord_37 (by decide) ?_
    refine r_istore_n (pc := 38) C (i := 3) dX10_isWord_38 rfl (by decide) rfl ?_
    refine r_weak (lSub_s (lSub_s (lSub_s (lSub_s lSub_e)))) ?_
    exact N_X10_isWord_39 C a k S k p0 (0 : Int32) (0 : Int32) q hj_p0 h hq
  · rw [if_pos c8] at h
    refine r_aload_n (pc := 7) C (i := 0) dX10_isWord_7 rfl rfl ?_
    refine r_get (pc := 8) C gwX10 0 rfl rfl 18 (by decide) wm_5_221 rfl dX10_isWord_8 ?_
    refine r_iconst (pc := 11) C (v := 1) dX10_isWord_11 (by decide) ?_
    refine r_icmp_ne (pc := 12) C (tgt := 35) dX10_isWord_12 rfl (fun c9 => ?_) (fun c9 => ?_)
    · rw [if_neg c9] at h
      refine r_iconst (pc := 35) C (v := 0) dX10_isWord_35 (by decide) ?_
      refine r_istore_n (pc := 36) C (i := 2) dX10_isWord_36 rfl (by decide) rfl ?_
      refine r_iconst (pc := 37) C (v := 0) dX10_isWord_37 (by decide) ?_
      refine r_istore_n (pc := 38) C (i := 3) dX10_isWord_38 rfl (by decide) rfl ?_
      refine r_weak (lSub_s (lSub_s (lSub_s (lSub_s lSub_e)))) ?_
      exact N_X10_isWord_39 C a k S k p0 (0 : Int32) (0 : Int32) q hj_p0 h hq
    · rw [if_pos c9] at h
      refine r_aload_n (pc := 15) C (i := 1) dX10_isWord_15 rfl rfl ?_
      refine r_strlen (pc := 16) C hj_p0 wm_7_179 ⟨Nat.le_of_ble_eq_true rfl, Nat.le_of_ble_eq_true rfl⟩ ⟨Nat.zero_le _, Nat.zero_le _⟩ (Nat.le_of_ble_eq_true rfl) dX10_isWord_16 ?_
      refine r_aload_n (pc := 19) C (i := 0) dX10_isWord_19 rfl rfl ?_
      refine r_get (pc := 20) C gwX10 0 rfl rfl 16 (by decide) wm_5_219 rfl dX10_isWord_20 ?_
      refine r_aload_n (pc := 23) C (i := 0) dX10_isWord_23 rfl rfl ?_
      refine r_get (pc := 24) C gwX10 0 rfl rfl 17 (by decide) wm_5_220 rfl dX10_isWord_24 ?_
      refine r_isub (pc := 27) C dX10_isWord_27 ?_
      refine r_icmp_ne (pc := 28) C (tgt := 35) dX10_isWord_28 rfl (fun c10 => ?_) (fun c10 => ?_)
      · rw [if_neg c10] at h
        refine r_iconst (pc := 35) C (v := 0) dX10_isWord_35 (by decide) ?_
        refine r_istore_n (pc := 36) C (i := 2) dX10_isWord_36 rfl (by decide) rfl ?_
        refine r_iconst (pc := 37) C (v := 0) dX10_isWord_37 (by decide) ?_
        refine r_istore_n (pc := 38) C (i := 3) dX10_isWord_38 rfl (by decide) rfl ?_
        refine r_weak (lSub_s (lSub_s (lSub_s (lSub_s lSub_e)))) ?_
        exact N_X10_isWord_39 C a k S k p0 (0 : Int32) (0 : Int32) q hj_p0 h hq
      · rw [if_pos c10] at h
        refine r_iconst (pc := 31) C (v := 1) dX10_isWord_31 (by decide) ?_
        refine r_goto (pc := 32) C (tgt := 36) dX10_isWord_32 rfl ?_
        refine r_istore_n (pc := 36) C (i := 2) dX10_isWord_36 rfl (by decide) rfl ?_
        refine r_iconst (pc := 37) C (v := 0) dX10_isWord_37 (by decide) ?_
        refine r_istore_n (pc := 38) C (i := 3) dX10_isWord_38 rfl (by decide) rfl ?_
        refine r_weak (lSub_s (lSub_s (lSub_s (lSub_s lSub_e)))) ?_
        exact N_X10_isWord_39 C a k S k p0 (1 : Int32) (0 : Int32) q hj_p0 h hq
def M_X10_isWord (k : Nat) (S : Nat → Nat → Int32) (p0 : Nat) : Option (Int32) := M_X10_isWord_0 k S p0
set_option maxRecDepth 100000 in
set_option maxHeartbeats 4000000 in
theorem c_X10_isWord (E : ENV) (l : Launch) (k : Nat) (a : Nat → Nat) (S : Nat → Nat → Int32) (p0 : Nat) (hj_p0 : p0 < 79) {q : Int32} (hm : M_X10_isWord k S p0 = some q) : CI E l yX10_isWord cX10_isWord 4 (some .boolean) rm_X10_isWord [.ref (a 0), .ref (eS E p0)] (wMd E a S) (fun r w' => r = q ∧ w' = (wMd E a S)) :=
  CI.of 2 (by decide) (Nat.le_of_ble_eq_true rfl) (fun p e s m below meth c A C _ => r_weak (lSub_s (lSub_s (lSub_n (lSub_n lSub_e)))) (N_X10_isWord_0 C a k S p0 q hj_p0 hm ⟨rfl, rfl⟩))
theorem hd_X10_isWord : yX10_isWord.cls = RX10 ∧ yX10_isWord.cls ≠ "java/lang/invoke/MethodHandle" ∧ yX10_isWord.cls ≠ "java/lang/invoke/VarHandle" ∧ (parseMethodDescriptor yX10_isWord.desc).map (fun d => d.parameters.length) = some 1 := by decide +kernel
theorem g_X10_390 : GoodIn GW (wsV RX10 390 RX10 yX10_isWord (wsG yX10_isWord cX10_isWord 4 (some .boolean))) := gw_V wm_8_8 wm_8_10 wm_0_85 wm_1_9 wm_8_11
-- ShardGuardModel.accept(Ljava/lang/String;)Z
theorem dX10_accept_0 : decode cX10_accept 0 = .ok (.aload_n 0, 1) := by decide +kernel
theorem dX10_accept_1 : decode cX10_accept 1 = .ok (.aload_n 1, 1) := by decide +kernel
theorem dX10_accept_2 : decode cX10_accept 2 = .ok (.invokevirtual 390, 3) := by decide +kernel
theorem dX10_accept_5 : decode cX10_accept 5 = .ok (.istore_n 2, 1) := by decide +kernel
theorem dX10_accept_6 : decode cX10_accept 6 = .ok (.iload_n 2, 1) := by decide +kernel
theorem dX10_accept_7 : decode cX10_accept 7 = .ok (.ifCond .eq 7, 3) := by decide +kernel
theorem dX10_accept_10 : decode cX10_accept 10 = .ok (.aload_n 0, 1) := by decide +kernel
theorem dX10_accept_11 : decode cX10_accept 11 = .ok (.invokevirtual 381, 3) := by decide +kernel
theorem dX10_accept_14 : decode cX10_accept 14 = .ok (.iload_n 2, 1) := by decide +kernel
theorem dX10_accept_15 : decode cX10_accept 15 = .ok (.ireturn, 1) := by decide +kernel
def rm_X10_accept : Room := { frames := 7, cells := 0, slots := 0, locals := 173 }
def M_X10_accept_0 (k : Nat) (p0 : Nat) (S : Nat → Nat → Int32) : Option (Int32 × (Nat → Nat → Int32)) := (M_X10_isWord k S p0).bind fun q1 => if q1 = 0 then (if q1 = 0 ∨ q1 = 1 then some (q1, S) else none) else ((M_X10_scan k S).bind fun q4 => if q1 = 0 ∨ q1 = 1 then some (q1, q4) else none)
set_option maxRecDepth 100000 in
set_option maxHeartbeats 4000000 in
theorem N_X10_accept_0 (C : CX E p l s m args meth c cX10_accept 3 RX10 (some .boolean) A) (a : Nat → Nat) (k : Nat) {post : Int32 → va_W → Prop} :
    ∀ (p0 : Nat) (S : Nat → Nat → Int32) (q : Int32 × (Nat → Nat → Int32)), p0 < 79 → M_X10_accept_0 k p0 S = some q → post q.1 (wMd E a q.2) →
      WW E p l e rm_X10_accept s m args below meth c A 0 0 (QI E below post args s rm_X10_accept A) (wMd E a S) 3 [some (.ref (a 0)), some (.ref (eS E p0)), none] 0 [] := by
  intro p0 S q hj_p0 h hq
  unfold M_X10_accept_0 at h
  refine r_aload_n (pc := 0) C (i := 0) dX10_accept_0 rfl rfl ?_
  refine r_aload_n (pc := 1) C (i := 1) dX10_accept_1 rfl rfl ?_
  obtain ⟨q1, hq1, h⟩ := bnd h
  refine r_callVp_CI (Cn := RX10) (pc := 2) C [.ref (eS E p0)] (c_X10_isWord E l k a S p0 hj_p0 hq1) [0, 1, 2, 3, 4, 5, 6, 7, 8, 9, 10, 11, 12] rfl (by decide) 0 rfl rfl rfl g_X10_390 hd_X10_isWord ⟨Nat.le_of_ble_eq_true rfl, Nat.le_of_ble_eq_true rfl⟩ ⟨Nat.zero_le _, Nat.zero_le _⟩ (Nat.le_of_ble_eq_true rfl) rfl dX10_accept_2 (fun r hr => ?_)
  have hr := hr.symm
  subst hr
  refine r_istore_n (pc := 5) C (i := 2) dX10_accept_5 rfl (by decide) rfl ?_
  refine r_iload_n (pc := 6) C (i := 2) dX10_accept_6 rfl rfl ?_
  refine r_if_eq (pc := 7) C (tgt := 14) dX10_accept_7 rfl (fun c2 => ?_) (fun c2 => ?_)
  · rw [if_pos c2] at h
    refine r_iload_n (pc := 14) C (i := 2) dX10_accept_14 rfl rfl ?_
    obtain ⟨hz3, h⟩ := ifn h
    cases h
    exact r_iretz (pc := 15) C hz3 hq (Nat.zero_le _) (Nat.zero_le _) dX10_accept_15
  · rw [if_neg c2] at h
    refine r_aload_n (pc := 10) C (i := 0) dX10_accept_10 rfl rfl ?_
    obtain ⟨q4, hq4, h⟩ := bnd h
    refine r_callV_CV (Cn := RX10) (pc := 11) C [] (c_X10_scan E l k a S hq4) [0, 1, 2, 3, 4, 5, 6, 7, 8, 9, 10, 11, 12] rfl (by decide) 0 rfl rfl rfl g_X10_381 hd_X10_scan ⟨Nat.le_of_ble_eq_true rfl, Nat.le_of_ble_eq_true rfl⟩ ⟨Nat.zero_le _, Nat.zero_le _⟩ (Nat.le_of_ble_eq_true rfl) rfl dX10_accept_11 (fun w1 hw1 => ?_)
    subst hw1
    refine ⟨(wMd E a q4), by rfl, ?_⟩
    refine r_iload_n (pc := 14) C (i := 2) dX10_accept_14 rfl rfl ?_
    obtain ⟨hz5, h⟩ := ifn h
    cases h
    exact r_iretz (pc := 15) C hz5 hq (Nat.zero_le _) (Nat.zero_le _) dX10_accept_15
def M_X10_accept (k : Nat) (S : Nat → Nat → Int32) (p0 : Nat) : Option (Int32 × (Nat → Nat → Int32)) := M_X10_accept_0 k p0 S
set_option maxRecDepth 100000 in
set_option maxHeartbeats 4000000 in
theorem c_X10_accept (E : ENV) (l : Launch) (k : Nat) (a : Nat → Nat) (S : Nat → Nat → Int32) (p0 : Nat) (hj_p0 : p0 < 79) {q : Int32 × (Nat → Nat → Int32)} (hm : M_X10_accept k S p0 = some q) : CI E l yX10_accept cX10_accept 3 (some .boolean) rm_X10_accept [.ref (a 0), .ref (eS E p0)] (wMd E a S) (fun r w' => r = q.1 ∧ w' = (wMd E a q.2)) :=
  CI.of 1 (by decide) (Nat.le_of_ble_eq_true rfl) (fun p e s m below meth c A C _ => r_weak (lSub_s (lSub_s (lSub_n lSub_e))) (N_X10_accept_0 C a k p0 S q hj_p0 hm ⟨rfl, rfl⟩))
theorem hd_X10_check : yX10_check.cls = RX10 ∧ yX10_check.cls ≠ "java/lang/invoke/MethodHandle" ∧ yX10_check.cls ≠ "java/lang/invoke/VarHandle" ∧ (parseMethodDescriptor yX10_check.desc).map (fun d => d.parameters.length) = some 2 := by decide +kernel
theorem g_X10_394 : GoodIn GW (wsV RX10 394 RX10 yX10_check (wsG yX10_check cX10_check 3 none)) := gw_V wm_8_12 wm_8_14 wm_0_86 wm_1_9 wm_8_15
theorem hd_X10_advance : yX10_advance.cls = RX10 ∧ yX10_advance.cls ≠ "java/lang/invoke/MethodHandle" ∧ yX10_advance.cls ≠ "java/lang/invoke/VarHandle" ∧ (parseMethodDescriptor yX10_advance.desc).map (fun d => d.parameters.length) = some 0 := by decide +kernel
theorem g_X10_398 : GoodIn GW (wsV RX10 398 RX10 yX10_advance (wsG yX10_advance cX10_advance 1 none)) := gw_V wm_8_20 wm_8_22 wm_0_88 wm_1_9 wm_8_23
-- ShardGuardModel.expectWord(Ljava/lang/String;)V
theorem dX10_expectWord_0 : decode cX10_expectWord 0 = .ok (.aload_n 0, 1) := by decide +kernel
theorem dX10_expectWord_1 : decode cX10_expectWord 1 = .ok (.aload_n 0, 1) := by decide +kernel
theorem dX10_expectWord_2 : decode cX10_expectWord 2 = .ok (.aload_n 1, 1) := by decide +kernel
theorem dX10_expectWord_3 : decode cX10_expectWord 3 = .ok (.invokevirtual 390, 3) := by decide +kernel
theorem dX10_expectWord_6 : decode cX10_expectWord 6 = .ok (.iconst 1, 1) := by decide +kernel
theorem dX10_expectWord_7 : decode cX10_expectWord 7 = .ok (.invokevirtual 394, 3) := by decide +kernel
theorem dX10_expectWord_10 : decode cX10_expectWord 10 = .ok (.aload_n 0, 1) := by decide +kernel
theorem dX10_expectWord_11 : decode cX10_expectWord 11 = .ok (.invokevirtual 398, 3) := by decide +kernel
theorem dX10_expectWord_14 : decode cX10_expectWord 14 = .ok (.return_, 1) := by decide +kernel
def rm_X10_expectWord : Room := { frames := 7, cells := 0, slots := 0, locals := 173 }
def M_X10_expectWord_0 (k : Nat) (p0 : Nat) (S : Nat → Nat → Int32) : Option ((Nat → Nat → Int32)) := (M_X10_isWord k S p0).bind fun q1 => (M_X10_check k S q1 (1 : Int32)).bind fun q2 => (M_X10_advance k q2).bind fun q3 => some q3
set_option maxRecDepth 100000 in
set_option maxHeartbeats 4000000 in
theorem N_X10_expectWord_0 (C : CX E p l s m args meth c cX10_expectWord 2 RX10 none A) (a : Nat → Nat) (k : Nat) {post : va_W → Prop} :
    ∀ (p0 : Nat) (S : Nat → Nat → Int32) (q : (Nat → Nat → Int32)), p0 < 79 → M_X10_expectWord_0 k p0 S = some q → post (wMd E a q) →
      WW E p l e rm_X10_expectWord s m args below meth c A 0 0 (QV E below post args s rm_X10_expectWord A) (wMd E a S) 2 [some (.ref (a 0)), some (.ref (eS E p0))] 0 [] := by
  intro p0 S q hj_p0 h hq
  unfold M_X10_expectWord_0 at h
  refine r_aload_n (pc := 0) C (i := 0) dX10_expectWord_0 rfl rfl ?_
  refine r_aload_n (pc := 1) C (i := 0) dX10_expectWord_1 rfl rfl ?_
  refine r_aload_n (pc := 2) C (i := 1) dX10_expectWord_2 rfl rfl ?_
  obtain ⟨q1, hq1, h⟩ := bnd h
  refine r_callVp_CI (Cn := RX10) (pc := 3) C [.ref (eS E p0)] (c_X10_isWord E l k a S p0 hj_p0 hq1) [0, 1, 2, 3, 4, 5, 6, 7, 8, 9, 10, 11, 12] rfl (by decide) 0 rfl rfl rfl g_X10_390 hd_X10_isWord ⟨Nat.le_of_ble_eq_true rfl, Nat.le_of_ble_eq_true rfl⟩ ⟨Nat.zero_le _, Nat.zero_le _⟩ (Nat.le_of_ble_eq_true rfl) rfl dX10_expectWord_3 (fun r hr => ?_)
  have hr := hr.symm
  subst hr
  refine r_iconst (pc := 6) C (v := 1) dX10_expectWord_6 (by decide) ?_
  obtain ⟨q2, hq2, h⟩ := bnd h
  refine r_callV_CV (Cn := RX10) (pc := 7) C [.int q1, .int (1 : Int32)] (c_X10_check E l k a S q1 (1 : Int32) hq2) [0, 1, 2, 3, 4, 5, 6, 7, 8, 9, 10, 11, 12] rfl (by decide) 0 rfl rfl rfl g_X10_394 hd_X10_check ⟨Nat.le_of_ble_eq_true rfl, Nat.le_of_ble_eq_true rfl⟩ ⟨Nat.zero_le _, Nat.zero_le _⟩ (Nat.le_of_ble_eq_true rfl) rfl dX10_expectWord_7 (fun w1 hw1 => ?_)
  subst hw1
  refine ⟨(wMd E a q2), by rfl, ?_⟩
  refine r_aload_n (pc := 10) C (i := 0) dX10_expectWord_10 rfl rfl ?_
  obtain ⟨q3, hq3, h⟩ := bnd h
  refine r_callV_CV (Cn := RX10) (pc := 11) C [] (c_X10_advance E l k a q2 hq3) [0, 1, 2, 3, 4, 5, 6, 7, 8, 9, 10, 11, 12] rfl (by decide) 0 rfl rfl rfl g_X10_398 hd_X10_advance ⟨Nat.le_of_ble_eq_true rfl, Nat.le_of_ble_eq_true rfl⟩ ⟨Nat.zero_le _, Nat.zero_le _⟩ (Nat.le_of_ble_eq_true rfl) rfl dX10_expectWord_11 (fun w1 hw1 => ?_)
  subst hw1
  refine ⟨(wMd E a q3), by rfl, ?_⟩
  cases h
  exact r_vret (pc := 14) C hq (Nat.zero_le _) (Nat.zero_le _) dX10_expectWord_14
def M_X10_expectWord (k : Nat) (S : Nat → Nat → Int32) (p0 : Nat) : Option ((Nat → Nat → Int32)) := M_X10_expectWord_0 k p0 S
set_option maxRecDepth 100000 in
set_option maxHeartbeats 4000000 in
theorem c_X10_expectWord (E : ENV) (l : Launch) (k : Nat) (a : Nat → Nat) (S : Nat → Nat → Int32) (p0 : Nat) (hj_p0 : p0 < 79) {q : (Nat → Nat → Int32)} (hm : M_X10_expectWord k S p0 = some q) : CV E l yX10_expectWord cX10_expectWord 2 none rm_X10_expectWord [.ref (a 0), .ref (eS E p0)] (wMd E a S) (fun w' => w' = (wMd E a q)) :=
  CV.of 0 (by decide) (Nat.le_of_ble_eq_true rfl) (fun p e s m below meth c A C _ => r_weak (lSub_s (lSub_s lSub_e)) (N_X10_expectWord_0 C a k p0 S q hj_p0 hm rfl))
theorem hd_X10_isSymbol : yX10_isSymbol.cls = RX10 ∧ yX10_isSymbol.cls ≠ "java/lang/invoke/MethodHandle" ∧ yX10_isSymbol.cls ≠ "java/lang/invoke/VarHandle" ∧ (parseMethodDescriptor yX10_isSymbol.desc).map (fun d => d.parameters.length) = some 1 := by decide +kernel
theorem g_X10_401 : GoodIn GW (wsV RX10 401 RX10 yX10_isSymbol (wsG yX10_isSymbol cX10_isSymbol 2 (some .boolean))) := gw_V wm_8_43 wm_8_45 wm_0_92 wm_1_9 wm_8_46
-- ShardGuardModel.expect(I)V
theorem dX10_expect_0 : decode cX10_expect 0 = .ok (.aload_n 0, 1) := by decide +kernel
theorem dX10_expect_1 : decode cX10_expect 1 = .ok (.aload_n 0, 1) := by decide +kernel
theorem dX10_expect_2 : decode cX10_expect 2 = .ok (.iload_n 1, 1) := by decide +kernel
theorem dX10_expect_3 : decode cX10_expect 3 = .ok (.invokevirtual 401, 3) := by decide +kernel
theorem dX10_expect_6 : decode cX10_expect 6 = .ok (.iconst 1, 1) := by decide +kernel
theorem dX10_expect_7 : decode cX10_expect 7 = .ok (.invokevirtual 394, 3) := by decide +kernel
theorem dX10_expect_10 : decode cX10_expect 10 = .ok (.aload_n 0, 1) := by decide +kernel
theorem dX10_expect_11 : decode cX10_expect 11 = .ok (.invokevirtual 398, 3) := by decide +kernel
theorem dX10_expect_14 : decode cX10_expect 14 = .ok (.return_, 1) := by decide +kernel
def rm_X10_expect : Room := { frames := 4, cells := 0, slots := 0, locals := 82 }
def M_X10_expect_0 (k : Nat) (p0 : Int32) (S : Nat → Nat → Int32) : Option ((Nat → Nat → Int32)) := (M_X10_isSymbol k S p0).bind fun q1 => (M_X10_check k S q1 (1 : Int32)).bind fun q2 => (M_X10_advance k q2).bind fun q3 => some q3
set_option maxRecDepth 100000 in
set_option maxHeartbeats 4000000 in
theorem N_X10_expect_0 (C : CX E p l s m args meth c cX10_expect 2 RX10 none A) (a : Nat → Nat) (k : Nat) {post : va_W → Prop} :
    ∀ (p0 : Int32) (S : Nat → Nat → Int32) (q : (Nat → Nat → Int32)), M_X10_expect_0 k p0 S = some q → post (wMd E a q) →
      WW E p l e rm_X10_expect s m args below meth c A 0 0 (QV E below post args s rm_X10_expect A) (wMd E a S) 2 [some (.ref (a 0)), some (.int p0)] 0 [] := by
  intro p0 S q  h hq
  unfold M_X10_expect_0 at h
  refine r_aload_n (pc := 0) C (i := 0) dX10_expect_0 rfl rfl ?_
  refine r_aload_n (pc := 1) C (i := 0) dX10_expect_1 rfl rfl ?_
  refine r_iload_n (pc := 2) C (i := 1) dX10_expect_2 rfl rfl ?_
  obtain ⟨q1, hq1, h⟩ := bnd h
  refine r_callVp_CI (Cn := RX10) (pc := 3) C [.int p0] (c_X10_isSymbol E l k a S p0 hq1) [0, 1, 2, 3, 4, 5, 6, 7, 8, 9, 10, 11, 12] rfl (by decide) 0 rfl rfl rfl g_X10_401 hd_X10_isSymbol ⟨Nat.le_of_ble_eq_true rfl, Nat.le_of_ble_eq_true rfl⟩ ⟨Nat.zero_le _, Nat.zero_le _⟩ (Nat.le_of_ble_eq_true rfl) rfl dX10_expect_3 (fun r hr => ?_)
  have hr := hr.symm
  subst hr
  refine r_iconst (pc := 6) C (v := 1) dX10_expect_6 (by decide) ?_
  obtain ⟨q2, hq2, h⟩ := bnd h
  refine r_callV_CV (Cn := RX10) (pc := 7) C [.int q1, .int (1 : Int32)] (c_X10_check E l k a S q1 (1 : Int32) hq2) [0, 1, 2, 3, 4, 5, 6, 7, 8, 9, 10, 11, 12] rfl (by decide) 0 rfl rfl rfl g_X10_394 hd_X10_check ⟨Nat.le_of_ble_eq_true rfl, Nat.le_of_ble_eq_true rfl⟩ ⟨Nat.zero_le _, Nat.zero_le _⟩ (Nat.le_of_ble_eq_true rfl) rfl dX10_expect_7 (fun w1 hw1 => ?_)
  subst hw1
  refine ⟨(wMd E a q2), by rfl, ?_⟩
  refine r_aload_n (pc := 10) C (i := 0) dX10_expect_10 rfl rfl ?_
  obtain ⟨q3, hq3, h⟩ := bnd h
  refine r_callV_CV (Cn := RX10) (pc := 11) C [] (c_X10_advance E l k a q2 hq3) [0, 1, 2, 3, 4, 5, 6, 7, 8, 9, 10, 11, 12] rfl (by decide) 0 rfl rfl rfl g_X10_398 hd_X10_advance ⟨Nat.le_of_ble_eq_true rfl, Nat.le_of_ble_eq_true rfl⟩ ⟨Nat.zero_le _, Nat.zero_le _⟩ (Nat.le_of_ble_eq_true rfl) rfl dX10_expect_11 (fun w1 hw1 => ?_)
  subst hw1
  refine ⟨(wMd E a q3), by rfl, ?_⟩
  cases h
  exact r_vret (pc := 14) C hq (Nat.zero_le _) (Nat.zero_le _) dX10_expect_14
def M_X10_expect (k : Nat) (S : Nat → Nat → Int32) (p0 : Int32) : Option ((Nat → Nat → Int32)) := M_X10_expect_0 k p0 S
set_option maxRecDepth 100000 in
set_option maxHeartbeats 4000000 in
theorem c_X10_expect (E : ENV) (l : Launch) (k : Nat) (a : Nat → Nat) (S : Nat → Nat → Int32) (p0 : Int32) {q : (Nat → Nat → Int32)} (hm : M_X10_expect k S p0 = some q) : CV E l yX10_expect cX10_expect 2 none rm_X10_expect [.ref (a 0), .int p0] (wMd E a S) (fun w' => w' = (wMd E a q)) :=
  CV.of 0 (by decide) (Nat.le_of_ble_eq_true rfl) (fun p e s m below meth c A C _ => r_weak (lSub_s (lSub_s lSub_e)) (N_X10_expect_0 C a k p0 S q  hm rfl))
-- ShardGuardModel.value()I
theorem dX10_value_0 : decode cX10_value 0 = .ok (.iconst 0, 1) := by decide +kernel
theorem dX10_value_1 : decode cX10_value 1 = .ok (.istore_n 1, 1) := by decide +kernel
theorem dX10_value_2 : decode cX10_value 2 = .ok (.aload_n 0, 1) := by decide +kernel
theorem dX10_value_3 : decode cX10_value 3 = .ok (.getfield 363, 3) := by decide +kernel
theorem dX10_value_6 : decode cX10_value 6 = .ok (.istore_n 2, 1) := by decide +kernel
theorem dX10_value_7 : decode cX10_value 7 = .ok (.iload_n 2, 1) := by decide +kernel
theorem dX10_value_8 : decode cX10_value 8 = .ok (.aload_n 0, 1) := by decide +kernel
theorem dX10_value_9 : decode cX10_value 9 = .ok (.getfield 361, 3) := by decide +kernel
theorem dX10_value_12 : decode cX10_value 12 = .ok (.if_icmp .ge 43, 3) := by decide +kernel
theorem dX10_value_15 : decode cX10_value 15 = .ok (.aload_n 0, 1) := by decide +kernel
theorem dX10_value_16 : decode cX10_value 16 = .ok (.getfield 366, 3) := by decide +kernel
theorem dX10_value_19 : decode cX10_value 19 = .ok (.iconst 2, 1) := by decide +kernel
theorem dX10_value_20 : decode cX10_value 20 = .ok (.if_icmp .ne 35, 3) := by decide +kernel
theorem dX10_value_23 : decode cX10_value 23 = .ok (.ldc2_w 404, 3) := by decide +kernel
theorem dX10_value_26 : decode cX10_value 26 = .ok (.ldc2_w 406, 3) := by decide +kernel
theorem dX10_value_29 : decode cX10_value 29 = .ok (.iload_n 1, 1) := by decide +kernel
theorem dX10_value_30 : decode cX10_value 30 = .ok (.i2l, 1) := by decide +kernel
theorem dX10_value_31 : decode cX10_value 31 = .ok (.lmul, 1) := by decide +kernel
theorem dX10_value_32 : decode cX10_value 32 = .ok (.aload_n 0, 1) := by decide +kernel
theorem dX10_value_33 : decode cX10_value 33 = .ok (.getfield 34, 3) := by decide +kernel
theorem dX10_value_36 : decode cX10_value 36 = .ok (.iload_n 2, 1) := by decide +kernel
theorem dX10_value_37 : decode cX10_value 37 = .ok (.iaload, 1) := by decide +kernel
theorem dX10_value_38 : decode cX10_value 38 = .ok (.i2l, 1) := by decide +kernel
theorem dX10_value_39 : decode cX10_value 39 = .ok (.ladd, 1) := by decide +kernel
theorem dX10_value_40 : decode cX10_value 40 = .ok (.ldc2_w 408, 3) := by decide +kernel
theorem dX10_value_43 : decode cX10_value 43 = .ok (.lsub, 1) := by decide +kernel
theorem dX10_value_44 : decode cX10_value 44 = .ok (.invokestatic 410, 3) := by decide +kernel
theorem dX10_value_47 : decode cX10_value 47 = .ok (.l2i, 1) := by decide +kernel
theorem dX10_value_48 : decode cX10_value 48 = .ok (.istore_n 1, 1) := by decide +kernel
theorem dX10_value_49 : decode cX10_value 49 = .ok (.iinc 2 1, 3) := by decide +kernel
theorem dX10_value_52 : decode cX10_value 52 = .ok (.goto (-45), 3) := by decide +kernel
theorem dX10_value_55 : decode cX10_value 55 = .ok (.iload_n 1, 1) := by decide +kernel
theorem dX10_value_56 : decode cX10_value 56 = .ok (.ireturn, 1) := by decide +kernel
def rm_X10_value : Room := { frames := 1, cells := 0, slots := 0, locals := 23 }
def M_X10_value_7 (k : Nat) (S : Nat → Nat → Int32) : Nat → (Int32) → (Int32) → Option (Int32)
  | 0, _, _ => none
  | n + 1, x1, x2 => if (S 0 8) ≤ x2 then (some x1) else (if (S 0 10) = (2 : Int32) then ((if inb x2 700 = true then lt ((if ((((10 : Int64) * (x1.toInt64)) + (((S 8) x2.toNatClampNeg).toInt64)) - (48 : Int64)) < (2000000000 : Int64) then ((((10 : Int64) * (x1.toInt64)) + (((S 8) x2.toNatClampNeg).toInt64)) - (48 : Int64)) else (2000000000 : Int64)).toInt32) fun v4 => M_X10_value_7 k S n v4 (x2 + 1) else none)) else (some x1))
theorem M_X10_value_7_s (k : Nat) (S : Nat → Nat → Int32) (n : Nat) (x1 : Int32) (x2 : Int32) : M_X10_value_7 k S (n + 1) x1 x2 = (if (S 0 8) ≤ x2 then (some x1) else (if (S 0 10) = (2 : Int32) then ((if inb x2 700 = true then lt ((if ((((10 : Int64) * (x1.toInt64)) + (((S 8) x2.toNatClampNeg).toInt64)) - (48 : Int64)) < (2000000000 : Int64) then ((((10 : Int64) * (x1.toInt64)) + (((S 8) x2.toNatClampNeg).toInt64)) - (48 : Int64)) else (2000000000 : Int64)).toInt32) fun v4 => M_X10_value_7 k S n v4 (x2 + 1) else none)) else (some x1))) := rfl
set_option maxRecDepth 100000 in
set_option maxHeartbeats 4000000 in
theorem N_X10_value_7 (C : CX E p l s m args meth c cX10_value 3 RX10 (some .int) A) (a : Nat → Nat) (k : Nat) (S : Nat → Nat → Int32) {post : Int32 → va_W → Prop} :
    ∀ (n : Nat) (x1 : Int32) (x2 : Int32) (q : Int32), M_X10_value_7 k S n x1 x2 = some q → post q (wMd E a S) →
      WW E p l e rm_X10_value s m args below meth c A 0 0 (QI E below post args s rm_X10_value A) (wMd E a S) 3 [some (.ref (a 0)), some (.int x1), some (.int x2)] 7 [] := by
  intro n
  induction n with
  | zero => intro x1 x2 q  h _; cases h
  | succ n ih =>
    intro x1 x2 q  h hq
    rw [M_X10_value_7_s] at h
    refine r_iload_n (pc := 7) C (i := 2) dX10_value_7 rfl rfl ?_
    refine r_aload_n (pc := 8) C (i := 0) dX10_value_8 rfl rfl ?_
    refine r_get (pc := 9) C gwX10 0 rfl rfl 16 (by decide) wm_5_219 rfl dX10_value_9 ?_
    refine r_icmp_ge (pc := 12) C (tgt := 55) dX10_value_12 rfl (fun c1 => ?_) (fun c1 => ?_)
    · rw [if_pos c1] at h
      refine r_iload_n (pc := 55) C (i := 1) dX10_value_55 rfl rfl ?_
      cases h
      exact r_ireti (pc := 56) C hq (Nat.zero_le _) (Nat.zero_le _) dX10_value_56
    · rw [if_neg c1] at h
      refine r_aload_n (pc := 15) C (i := 0) dX10_value_15 rfl rfl ?_
      refine r_get (pc := 16) C gwX10 0 rfl rfl 18 (by decide) wm_5_221 rfl dX10_value_16 ?_
      refine r_iconst (pc := 19) C (v := 2) dX10_value_19 (by decide) ?_
      refine r_icmp_ne (pc := 20) C (tgt := 55) dX10_value_20 rfl (fun c2 => ?_) (fun c2 => ?_)
      · rw [if_neg c2] at h
        refine r_iload_n (pc := 55) C (i := 1) dX10_value_55 rfl rfl ?_
        cases h
        exact r_ireti (pc := 56) C hq (Nat.zero_le _) (Nat.zero_le _) dX10_value_56
      · rw [if_pos c2] at h
        refine r_ldc2 (pc := 23) C (v := 2000000000) wm_8_32 dX10_value_23 ?_
        refine r_ldc2 (pc := 26) C (v := 10) wm_8_33 dX10_value_26 ?_
        refine r_iload_n (pc := 29) C (i := 1) dX10_value_29 rfl rfl ?_
        refine r_i2l (pc := 30) C dX10_value_30 ?_
        refine r_lmul (pc := 31) C dX10_value_31 ?_
        refine r_aload_n (pc := 32) C (i := 0) dX10_value_32 rfl rfl ?_
        refine r_get (pc := 33) C gwX10 0 rfl rfl 13 (by decide) wm_5_216 rfl dX10_value_33 ?_
        refine r_iload_n (pc := 36) C (i := 2) dX10_value_36 rfl rfl ?_
        obtain ⟨hi3, h⟩ := ifn h
        refine r_iald (pc := 37) C 8 rfl hi3 dX10_value_37 ?_
        refine r_i2l (pc := 38) C dX10_value_38 ?_
        refine r_ladd (pc := 39) C dX10_value_39 ?_
        refine r_ldc2 (pc := 40) C (v := 48) wm_8_34 dX10_value_40 ?_
        refine r_lsub (pc := 43) C dX10_value_43 ?_
        refine r_mminl (pc := 44) C wm_8_35 wm_8_36 wm_1_14 wm_8_37 ⟨Nat.le_of_ble_eq_true rfl, Nat.le_of_ble_eq_true rfl, Nat.zero_le _, Nat.zero_le _⟩ (Nat.le_of_ble_eq_true rfl) dX10_value_44 ?_
        refine r_l2i (pc := 47) C dX10_value_47 ?_
        obtain ⟨v4, hv4, h⟩ := lt_e h
        refine r_topi hv4 ?_
        refine r_istore_n (pc := 48) C (i := 1) dX10_value_48 rfl (by decide) rfl ?_
        refine r_iinc (pc := 49) C (v := (x2 + 1)) dX10_value_49 rfl rfl (by decide) rfl ?_
        refine r_goto (pc := 52) C (tgt := 7) dX10_value_52 rfl ?_
        refine r_weak (lSub_s (lSub_s (lSub_s lSub_e))) ?_
        exact ih v4 (x2 + 1) q  h hq
def M_X10_value_0 (k : Nat) (S : Nat → Nat → Int32) : Option (Int32) := lt (S 0 9) fun v5 => M_X10_value_7 k S k (0 : Int32) v5
set_option maxRecDepth 100000 in
set_option maxHeartbeats 4000000 in
theorem N_X10_value_0 (C : CX E p l s m args meth c cX10_value 3 RX10 (some .int) A) (a : Nat → Nat) (k : Nat) (S : Nat → Nat → Int32) {post : Int32 → va_W → Prop} :
    ∀ (q : Int32), M_X10_value_0 k S = some q → post q (wMd E a S) →
      WW E p l e rm_X10_value s m args below meth c A 0 0 (QI E below post args s rm_X10_value A) (wMd E a S) 3 [some (.ref (a 0)), none, none] 0 [] := by
  intro  q  h hq
  unfold M_X10_value_0 at h
  refine r_iconst (pc := 0) C (v := 0) dX10_value_0 (by decide) ?_
  refine r_istore_n (pc := 1) C (i := 1) dX10_value_1 rfl (by decide) rfl ?_
  refine r_aload_n (pc := 2) C (i := 0) dX10_value_2 rfl rfl ?_
  refine r_get (pc := 3) C gwX10 0 rfl rfl 17 (by decide) wm_5_220 rfl dX10_value_3 ?_
  obtain ⟨v5, hv5, h⟩ := lt_e h
  refine r_topi hv5 ?_
  refine r_istore_n (pc := 6) C (i := 2) dX10_value_6 rfl (by decide) rfl ?_
  refine r_weak (lSub_s (lSub_s (lSub_s lSub_e))) ?_
  exact N_X10_value_7 C a k S k (0 : Int32) v5 q  h hq
def M_X10_value (k : Nat) (S : Nat → Nat → Int32) : Option (Int32) := M_X10_value_0 k S
set_option maxRecDepth 100000 in
set_option maxHeartbeats 4000000 in
theorem c_X10_value (E : ENV) (l : Launch) (k : Nat) (a : Nat → Nat) (S : Nat → Nat → Int32) {q : Int32} (hm : M_X10_value k S = some q) : CI E l yX10_value cX10_value 3 (some .int) rm_X10_value [.ref (a 0)] (wMd E a S) (fun r w' => r = q ∧ w' = (wMd E a S)) :=
  CI.of 2 (by decide) (Nat.le_of_ble_eq_true rfl) (fun p e s m below meth c A C _ => r_weak (lSub_s (lSub_n (lSub_n lSub_e))) (N_X10_value_0 C a k S q  hm ⟨rfl, rfl⟩))
theorem hd_X10_value : yX10_value.cls = RX10 ∧ yX10_value.cls ≠ "java/lang/invoke/MethodHandle" ∧ yX10_value.cls ≠ "java/lang/invoke/VarHandle" ∧ (parseMethodDescriptor yX10_value.desc).map (fun d => d.parameters.length) = some 0 := by decide +kernel
theorem g_X10_413 : GoodIn GW (wsV RX10 413 RX10 yX10_value (wsG yX10_value cX10_value 3 (some .int))) := gw_V wm_8_28 wm_8_30 wm_0_90 wm_1_9 wm_8_31
-- ShardGuardModel.readNumber(II)I
theorem dX10_readNumber_0 : decode cX10_readNumber 0 = .ok (.aload_n 0, 1) := by decide +kernel
theorem dX10_readNumber_1 : decode cX10_readNumber 1 = .ok (.aload_n 0, 1) := by decide +kernel
theorem dX10_readNumber_2 : decode cX10_readNumber 2 = .ok (.getfield 375, 3) := by decide +kernel
theorem dX10_readNumber_5 : decode cX10_readNumber 5 = .ok (.ifCond .ne 11, 3) := by decide +kernel
theorem dX10_readNumber_8 : decode cX10_readNumber 8 = .ok (.aload_n 0, 1) := by decide +kernel
theorem dX10_readNumber_9 : decode cX10_readNumber 9 = .ok (.getfield 366, 3) := by decide +kernel
theorem dX10_readNumber_12 : decode cX10_readNumber 12 = .ok (.iconst 2, 1) := by decide +kernel
theorem dX10_readNumber_13 : decode cX10_readNumber 13 = .ok (.if_icmp .ne 7, 3) := by decide +kernel
theorem dX10_readNumber_16 : decode cX10_readNumber 16 = .ok (.iconst 1, 1) := by decide +kernel
theorem dX10_readNumber_17 : decode cX10_readNumber 17 = .ok (.goto 4, 3) := by decide +kernel
theorem dX10_readNumber_20 : decode cX10_readNumber 20 = .ok (.iconst 0, 1) := by decide +kernel
theorem dX10_readNumber_21 : decode cX10_readNumber 21 = .ok (.iconst 1, 1) := by decide +kernel
theorem dX10_readNumber_22 : decode cX10_readNumber 22 = .ok (.invokevirtual 394, 3) := by decide +kernel
theorem dX10_readNumber_25 : decode cX10_readNumber 25 = .ok (.aload_n 0, 1) := by decide +kernel
theorem dX10_readNumber_26 : decode cX10_readNumber 26 = .ok (.invokevirtual 413, 3) := by decide +kernel
theorem dX10_readNumber_29 : decode cX10_readNumber 29 = .ok (.istore_n 3, 1) := by decide +kernel
theorem dX10_readNumber_30 : decode cX10_readNumber 30 = .ok (.aload_n 0, 1) := by decide +kernel
theorem dX10_readNumber_31 : decode cX10_readNumber 31 = .ok (.aload_n 0, 1) := by decide +kernel
theorem dX10_readNumber_32 : decode cX10_readNumber 32 = .ok (.getfield 375, 3) := by decide +kernel
theorem dX10_readNumber_35 : decode cX10_readNumber 35 = .ok (.ifCond .ne 12, 3) := by decide +kernel
theorem dX10_readNumber_38 : decode cX10_readNumber 38 = .ok (.iload_n 3, 1) := by decide +kernel
theorem dX10_readNumber_39 : decode cX10_readNumber 39 = .ok (.iload_n 1, 1) := by decide +kernel
theorem dX10_readNumber_40 : decode cX10_readNumber 40 = .ok (.iload_n 2, 1) := by decide +kernel
theorem dX10_readNumber_41 : decode cX10_readNumber 41 = .ok (.invokestatic 110, 3) := by decide +kernel
theorem dX10_readNumber_44 : decode cX10_readNumber 44 = .ok (.ifCond .eq 7, 3) := by decide +kernel
theorem dX10_readNumber_47 : decode cX10_readNumber 47 = .ok (.iconst 1, 1) := by decide +kernel
theorem dX10_readNumber_48 : decode cX10_readNumber 48 = .ok (.goto 4, 3) := by decide +kernel
theorem dX10_readNumber_51 : decode cX10_readNumber 51 = .ok (.iconst 0, 1) := by decide +kernel
theorem dX10_readNumber_52 : decode cX10_readNumber 52 = .ok (.iconst 2, 1) := by decide +kernel
theorem dX10_readNumber_53 : decode cX10_readNumber 53 = .ok (.invokevirtual 394, 3) := by decide +kernel
theorem dX10_readNumber_56 : decode cX10_readNumber 56 = .ok (.aload_n 0, 1) := by decide +kernel
theorem dX10_readNumber_57 : decode cX10_readNumber 57 = .ok (.invokevirtual 398, 3) := by decide +kernel
theorem dX10_readNumber_60 : decode cX10_readNumber 60 = .ok (.aload_n 0, 1) := by decide +kernel
theorem dX10_readNumber_61 : decode cX10_readNumber 61 = .ok (.getfield 375, 3) := by decide +kernel
theorem dX10_readNumber_64 : decode cX10_readNumber 64 = .ok (.ifCond .ne 7, 3) := by decide +kernel
theorem dX10_readNumber_67 : decode cX10_readNumber 67 = .ok (.iload_n 3, 1) := by decide +kernel
theorem dX10_readNumber_68 : decode cX10_readNumber 68 = .ok (.goto 4, 3) := by decide +kernel
theorem dX10_readNumber_71 : decode cX10_readNumber 71 = .ok (.iload_n 1, 1) := by decide +kernel
theorem dX10_readNumber_72 : decode cX10_readNumber 72 = .ok (.ireturn, 1) := by decide +kernel
def rm_X10_readNumber : Room := { frames := 4, cells := 0, slots := 0, locals := 82 }
def M_X10_readNumber_52 (k : Nat) (x1 : Int32) (x3 : Int32) (y1 : Int32) (S : Nat → Nat → Int32) : Option (Int32 × (Nat → Nat → Int32)) := (M_X10_check k S y1 (2 : Int32)).bind fun q1 => (M_X10_advance k q1).bind fun q2 => if (q2 0 11) = 0 then (some (x3, q2)) else (some (x1, q2))
set_option maxRecDepth 100000 in
set_option maxHeartbeats 4000000 in
theorem N_X10_readNumber_52 (C : CX E p l s m args meth c cX10_readNumber 4 RX10 (some .int) A) (a : Nat → Nat) (k : Nat) {post : Int32 → va_W → Prop} :
    ∀ (x1 : Int32) (x3 : Int32) (y1 : Int32) (S : Nat → Nat → Int32) (q : Int32 × (Nat → Nat → Int32)), M_X10_readNumber_52 k x1 x3 y1 S = some q → post q.1 (wMd E a q.2) →
      WW E p l e rm_X10_readNumber s m args below meth c A 0 0 (QI E below post args s rm_X10_readNumber A) (wMd E a S) 4 [some (.ref (a 0)), some (.int x1), none, some (.int x3)] 52 [.int y1, .ref (a 0)] := by
  intro x1 x3 y1 S q  h hq
  unfold M_X10_readNumber_52 at h
  refine r_iconst (pc := 52) C (v := 2) dX10_readNumber_52 (by decide) ?_
  obtain ⟨q1, hq1, h⟩ := bnd h
  refine r_callV_CV (Cn := RX10) (pc := 53) C [.int y1, .int (2 : Int32)] (c_X10_check E l k a S y1 (2 : Int32) hq1) [0, 1, 2, 3, 4, 5, 6, 7, 8, 9, 10, 11, 12] rfl (by decide) 0 rfl rfl rfl g_X10_394 hd_X10_check ⟨Nat.le_of_ble_eq_true rfl, Nat.le_of_ble_eq_true rfl⟩ ⟨Nat.zero_le _, Nat.zero_le _⟩ (Nat.le_of_ble_eq_true rfl) rfl dX10_readNumber_53 (fun w1 hw1 => ?_)
  subst hw1
  refine ⟨(wMd E a q1), by rfl, ?_⟩
  refine r_aload_n (pc := 56) C (i := 0) dX10_readNumber_56 rfl rfl ?_
  obtain ⟨q2, hq2, h⟩ := bnd h
  refine r_callV_CV (Cn := RX10) (pc := 57) C [] (c_X10_advance E l k a q1 hq2) [0, 1, 2, 3, 4, 5, 6, 7, 8, 9, 10, 11, 12] rfl (by decide) 0 rfl rfl rfl g_X10_398 hd_X10_advance ⟨Nat.le_of_ble_eq_true rfl, Nat.le_of_ble_eq_true rfl⟩ ⟨Nat.zero_le _, Nat.zero_le _⟩ (Nat.le_of_ble_eq_true rfl) rfl dX10_readNumber_57 (fun w1 hw1 => ?_)
  subst hw1
  refine ⟨(wMd E a q2), by rfl, ?_⟩
  refine r_aload_n (pc := 60) C (i := 0) dX10_readNumber_60 rfl rfl ?_
  refine r_get (pc := 61) C gwX10 0 rfl rfl 19 (by decide) wm_5_222 rfl dX10_readNumber_61 ?_
  refine r_if_ne (pc := 64) C (tgt := 71) dX10_readNumber_64 rfl (fun c3 => ?_) (fun c3 => ?_)
  · rw [if_neg c3] at h
    refine r_iload_n (pc := 71) C (i := 1) dX10_readNumber_71 rfl rfl ?_
    cases h
    exact r_ireti (pc := 72) C hq (Nat.zero_le _) (Nat.zero_le _) dX10_readNumber_72
  · rw [if_pos c3] at h
    refine r_iload_n (pc := 67) C (i := 3) dX10_readNumber_67 rfl rfl ?_
    refine r_goto (pc := 68) C (tgt := 72) dX10_readNumber_68 rfl ?_
    cases h
    exact r_ireti (pc := 72) C hq (Nat.zero_le _) (Nat.zero_le _) dX10_readNumber_72
def M_X10_readNumber_21 (k : Nat) (x1 : Int32) (x2 : Int32) (y1 : Int32) (S : Nat → Nat → Int32) : Option (Int32 × (Nat → Nat → Int32)) := (M_X10_check k S y1 (1 : Int32)).bind fun q4 => (M_X10_value k q4).bind fun q5 => if (q4 0 11) = 0 then ((M_X10_inRange k q5 x1 x2).bind fun q7 => if q7 = 0 then (M_X10_readNumber_52 k x1 q5 (0 : Int32) q4) else (M_X10_readNumber_52 k x1 q5 (1 : Int32) q4)) else (M_X10_readNumber_52 k x1 q5 (1 : Int32) q4)
set_option maxRecDepth 100000 in
set_option maxHeartbeats 4000000 in
theorem N_X10_readNumber_21 (C : CX E p l s m args meth c cX10_readNumber 4 RX10 (some .int) A) (a : Nat → Nat) (k : Nat) {post : Int32 → va_W → Prop} :
    ∀ (x1 : Int32) (x2 : Int32) (y1 : Int32) (S : Nat → Nat → Int32) (q : Int32 × (Nat → Nat → Int32)), M_X10_readNumber_21 k x1 x2 y1 S = some q → post q.1 (wMd E a q.2) →
      WW E p l e rm_X10_readNumber s m args below meth c A 0 0 (QI E below post args s rm_X10_readNumber A) (wMd E a S) 4 [some (.ref (a 0)), some (.int x1), some (.int x2), none] 21 [.int y1, .ref (a 0)] := by
  intro x1 x2 y1 S q  h hq
  unfold M_X10_readNumber_21 at h
  refine r_iconst (pc := 21) C (v := 1) dX10_readNumber_21 (by decide) ?_
  obtain ⟨q4, hq4, h⟩ := bnd h
  refine r_callV_CV (Cn := RX10) (pc := 22) C [.int y1, .int (1 : Int32)] (c_X10_check E l k a S y1 (1 : Int32) hq4) [0, 1, 2, 3, 4, 5, 6, 7, 8, 9, 10, 11, 12] rfl (by decide) 0 rfl rfl rfl g_X10_394 hd_X10_check ⟨Nat.le_of_ble_eq_true rfl, Nat.le_of_ble_eq_true rfl⟩ ⟨Nat.zero_le _, Nat.zero_le _⟩ (Nat.le_of_ble_eq_true rfl) rfl dX10_readNumber_22 (fun w1 hw1 => ?_)
  subst hw1
  refine ⟨(wMd E a q4), by rfl, ?_⟩
  refine r_aload_n (pc := 25) C (i := 0) dX10_readNumber_25 rfl rfl ?_
  obtain ⟨q5, hq5, h⟩ := bnd h
  refine r_callVp_CI (Cn := RX10) (pc := 26) C [] (c_X10_value E l k a q4 hq5) [0, 1, 2, 3, 4, 5, 6, 7, 8, 9, 10, 11, 12] rfl (by decide) 0 rfl rfl rfl g_X10_413 hd_X10_value ⟨Nat.le_of_ble_eq_true rfl, Nat.le_of_ble_eq_true rfl⟩ ⟨Nat.zero_le _, Nat.zero_le _⟩ (Nat.le_of_ble_eq_true rfl) rfl dX10_readNumber_26 (fun r hr => ?_)
  have hr := hr.symm
  subst hr
  refine r_istore_n (pc := 29) C (i := 3) dX10_readNumber_29 rfl (by decide) rfl ?_
  refine r_aload_n (pc := 30) C (i := 0) dX10_readNumber_30 rfl rfl ?_
  refine r_aload_n (pc := 31) C (i := 0) dX10_readNumber_31 rfl rfl ?_
  refine r_get (pc := 32) C gwX10 0 rfl rfl 19 (by decide) wm_5_222 rfl dX10_readNumber_32 ?_
  refine r_if_ne (pc := 35) C (tgt := 47) dX10_readNumber_35 rfl (fun c6 => ?_) (fun c6 => ?_)
  · rw [if_neg c6] at h
    refine r_iconst (pc := 47) C (v := 1) dX10_readNumber_47 (by decide) ?_
    refine r_goto (pc := 48) C (tgt := 52) dX10_readNumber_48 rfl ?_
    refine r_weak (lSub_s (lSub_s (lSub_n (lSub_s lSub_e)))) ?_
    exact N_X10_readNumber_52 C a k x1 q5 (1 : Int32) q4 q  h hq
  · rw [if_pos c6] at h
    refine r_iload_n (pc := 38) C (i := 3) dX10_readNumber_38 rfl rfl ?_
    refine r_iload_n (pc := 39) C (i := 1) dX10_readNumber_39 rfl rfl ?_
    refine r_iload_n (pc := 40) C (i := 2) dX10_readNumber_40 rfl rfl ?_
    obtain ⟨q7, hq7, h⟩ := bnd h
    refine r_callSp_CI (pc := 41) C [.int q5, .int x1, .int x2] (c_X10_inRange E l k q5 x1 x2 hq7) [] rfl (by decide) g_X10_110 hd_X10_inRange.2 ⟨Nat.le_of_ble_eq_true rfl, Nat.le_of_ble_eq_true rfl⟩ ⟨Nat.zero_le _, Nat.zero_le _⟩ (Nat.le_of_ble_eq_true rfl) rfl dX10_readNumber_41 (fun r hr => ?_)
    have hr := hr.symm
    subst hr
    refine r_if_eq (pc := 44) C (tgt := 51) dX10_readNumber_44 rfl (fun c8 => ?_) (fun c8 => ?_)
    · rw [if_pos c8] at h
      refine r_iconst (pc := 51) C (v := 0) dX10_readNumber_51 (by decide) ?_
      refine r_weak (lSub_s (lSub_s (lSub_n (lSub_s lSub_e)))) ?_
      exact N_X10_readNumber_52 C a k x1 q5 (0 : Int32) q4 q  h hq
    · rw [if_neg c8] at h
      refine r_iconst (pc := 47) C (v := 1) dX10_readNumber_47 (by decide) ?_
      refine r_goto (pc := 48) C (tgt := 52) dX10_readNumber_48 rfl ?_
      refine r_weak (lSub_s (lSub_s (lSub_n (lSub_s lSub_e)))) ?_
      exact N_X10_readNumber_52 C a k x1 q5 (1 : Int32) q4 q  h hq
def M_X10_readNumber_0 (k : Nat) (p0 : Int32) (p1 : Int32) (S : Nat → Nat → Int32) : Option (Int32 × (Nat → Nat → Int32)) := if (S 0 11) = 0 then (if (S 0 10) = (2 : Int32) then (M_X10_readNumber_21 k p0 p1 (1 : Int32) S) else (M_X10_readNumber_21 k p0 p1 (0 : Int32) S)) else (M_X10_readNumber_21 k p0 p1 (1 : Int32) S)
set_option maxRecDepth 100000 in
set_option maxHeartbeats 4000000 in
theorem N_X10_readNumber_0 (C : CX E p l s m args meth c cX10_readNumber 4 RX10 (some .int) A) (a : Nat → Nat) (k : Nat) {post : Int32 → va_W → Prop} :
    ∀ (p0 : Int32) (p1 : Int32) (S : Nat → Nat → Int32) (q : Int32 × (Nat → Nat → Int32)), M_X10_readNumber_0 k p0 p1 S = some q → post q.1 (wMd E a q.2) →
      WW E p l e rm_X10_readNumber s m args below meth c A 0 0 (QI E below post args s rm_X10_readNumber A) (wMd E a S) 4 [some (.ref (a 0)), some (.int p0), some (.int p1), none] 0 [] := by
  intro p0 p1 S q  h hq
  unfold M_X10_readNumber_0 at h
  refine r_aload_n (pc := 0) C (i := 0) dX10_readNumber_0 rfl rfl ?_
  refine r_aload_n (pc := 1) C (i := 0) dX10_readNumber_1 rfl rfl ?_
  refine r_get (pc := 2) C gwX10 0 rfl rfl 19 (by decide) wm_5_222 rfl dX10_readNumber_2 ?_
  refine r_if_ne (pc := 5) C (tgt := 16) dX10_readNumber_5 rfl (fun c9 => ?_) (fun c9 => ?_)
  · rw [if_neg c9] at h
    refine r_iconst (pc := 16) C (v := 1) dX10_readNumber_16 (by decide) ?_
    refine r_goto (pc := 17) C (tgt := 21) dX10_readNumber_17 rfl ?_
    refine r_weak (lSub_s (lSub_s (lSub_s (lSub_n lSub_e)))) ?_
    exact N_X10_readNumber_21 C a k p0 p1 (1 : Int32) S q  h hq
  · rw [if_pos c9] at h
    refine r_aload_n (pc := 8) C (i := 0) dX10_readNumber_8 rfl rfl ?_
    refine r_get (pc := 9) C gwX10 0 rfl rfl 18 (by decide) wm_5_221 rfl dX10_readNumber_9 ?_
    refine r_iconst (pc := 12) C (v := 2) dX10_readNumber_12 (by decide) ?_
    refine r_icmp_ne (pc := 13) C (tgt := 20) dX10_readNumber_13 rfl (fun c10 => ?_) (fun c10 => ?_)
    · rw [if_neg c10] at h
      refine r_iconst (pc := 20) C (v := 0) dX10_readNumber_20 (by decide) ?_
      refine r_weak (lSub_s (lSub_s (lSub_s (lSub_n lSub_e)))) ?_
      exact N_X10_readNumber_21 C a k p0 p1 (0 : Int32) S q  h hq
    · rw [if_pos c10] at h
      refine r_iconst (pc := 16) C (v := 1) dX10_readNumber_16 (by decide) ?_
      refine r_goto (pc := 17) C (tgt := 21) dX10_readNumber_17 rfl ?_
      refine r_weak (lSub_s (lSub_s (lSub_s (lSub_n lSub_e)))) ?_
      exact N_X10_readNumber_21 C a k p0 p1 (1 : Int32) S q  h hq
def M_X10_readNumber (k : Nat) (S : Nat → Nat → Int32) (p0 : Int32) (p1 : Int32) : Option (Int32 × (Nat → Nat → Int32)) := M_X10_readNumber_0 k p0 p1 S
set_option maxRecDepth 100000 in
set_option maxHeartbeats 4000000 in
theorem c_X10_readNumber (E : ENV) (l : Launch) (k : Nat) (a : Nat → Nat) (S : Nat → Nat → Int32) (p0 : Int32) (p1 : Int32) {q : Int32 × (Nat → Nat → Int32)} (hm : M_X10_readNumber k S p0 p1 = some q) : CI E l yX10_readNumber cX10_readNumber 4 (some .int) rm_X10_readNumber [.ref (a 0), .int p0, .int p1] (wMd E a S) (fun r w' => r = q.1 ∧ w' = (wMd E a q.2)) :=
  CI.of 1 (by decide) (Nat.le_of_ble_eq_true rfl) (fun p e s m below meth c A C _ => r_weak (lSub_s (lSub_s (lSub_s (lSub_n lSub_e)))) (N_X10_readNumber_0 C a k p0 p1 S q  hm ⟨rfl, rfl⟩))
end WALKS
