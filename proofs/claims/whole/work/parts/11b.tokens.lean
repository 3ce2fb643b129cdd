section WALKS
variable {E : ENV} {p : Program} {l : Launch} {e : Env} {s : State} {m : MethodId} {args : Array Value} {below : List Frame} {meth : Method} {c : Code} {A : Nat → Prop}
theorem hd_X7_kindOf : yX7_kindOf.cls = RX7 ∧ yX7_kindOf.cls ≠ "java/lang/invoke/MethodHandle" ∧ yX7_kindOf.cls ≠ "java/lang/invoke/VarHandle" ∧ (parseMethodDescriptor yX7_kindOf.desc).map (fun d => d.parameters.length) = some 1 := by decide +kernel
theorem g_X7_80 : GoodIn GW (va_wsS RX7 80 yX7_kindOf (wsG yX7_kindOf cX7_kindOf 1 (some .int))) := gw_S wm_3_25 wm_3_26 wm_1_7 wm_3_27
theorem hd_X7_isBlank : yX7_isBlank.cls = RX7 ∧ yX7_isBlank.cls ≠ "java/lang/invoke/MethodHandle" ∧ yX7_isBlank.cls ≠ "java/lang/invoke/VarHandle" ∧ (parseMethodDescriptor yX7_isBlank.desc).map (fun d => d.parameters.length) = some 1 := by decide +kernel
theorem g_X7_76 : GoodIn GW (va_wsS RX7 76 yX7_isBlank (wsG yX7_isBlank cX7_isBlank 1 (some .boolean))) := gw_S wm_3_22 wm_3_23 wm_1_7 wm_3_24
-- ShardGuard$Tokens.advance()V
theorem dX7_advance_0 : decode cX7_advance 0 = .ok (.aload_n 0, 1) := by decide +kernel
theorem dX7_advance_1 : decode cX7_advance 1 = .ok (.aload_n 0, 1) := by decide +kernel
theorem dX7_advance_2 : decode cX7_advance 2 = .ok (.getfield 36, 3) := by decide +kernel
theorem dX7_advance_5 : decode cX7_advance 5 = .ok (.putfield 33, 3) := by decide +kernel
theorem dX7_advance_8 : decode cX7_advance 8 = .ok (.aload_n 0, 1) := by decide +kernel
theorem dX7_advance_9 : decode cX7_advance 9 = .ok (.getfield 33, 3) := by decide +kernel
theorem dX7_advance_12 : decode cX7_advance 12 = .ok (.aload_n 0, 1) := by decide +kernel
theorem dX7_advance_13 : decode cX7_advance 13 = .ok (.getfield 30, 3) := by decide +kernel
theorem dX7_advance_16 : decode cX7_advance 16 = .ok (.if_icmp .ge 33, 3) := by decide +kernel
theorem dX7_advance_19 : decode cX7_advance 19 = .ok (.aload_n 0, 1) := by decide +kernel
theorem dX7_advance_20 : decode cX7_advance 20 = .ok (.getfield 26, 3) := by decide +kernel
theorem dX7_advance_23 : decode cX7_advance 23 = .ok (.aload_n 0, 1) := by decide +kernel
theorem dX7_advance_24 : decode cX7_advance 24 = .ok (.getfield 33, 3) := by decide +kernel
theorem dX7_advance_27 : decode cX7_advance 27 = .ok (.invokevirtual 61, 3) := by decide +kernel
theorem dX7_advance_30 : decode cX7_advance 30 = .ok (.invokestatic 76, 3) := by decide +kernel
theorem dX7_advance_33 : decode cX7_advance 33 = .ok (.ifCond .eq 16, 3) := by decide +kernel
theorem dX7_advance_36 : decode cX7_advance 36 = .ok (.aload_n 0, 1) := by decide +kernel
theorem dX7_advance_37 : decode cX7_advance 37 = .ok (.dup, 1) := by decide +kernel
theorem dX7_advance_38 : decode cX7_advance 38 = .ok (.getfield 33, 3) := by decide +kernel
theorem dX7_advance_41 : decode cX7_advance 41 = .ok (.iconst 1, 1) := by decide +kernel
theorem dX7_advance_42 : decode cX7_advance 42 = .ok (.iadd, 1) := by decide +kernel
theorem dX7_advance_43 : decode cX7_advance 43 = .ok (.putfield 33, 3) := by decide +kernel
theorem dX7_advance_46 : decode cX7_advance 46 = .ok (.goto (-38), 3) := by decide +kernel
theorem dX7_advance_49 : decode cX7_advance 49 = .ok (.aload_n 0, 1) := by decide +kernel
theorem dX7_advance_50 : decode cX7_advance 50 = .ok (.aload_n 0, 1) := by decide +kernel
theorem dX7_advance_51 : decode cX7_advance 51 = .ok (.getfield 33, 3) := by decide +kernel
theorem dX7_advance_54 : decode cX7_advance 54 = .ok (.putfield 36, 3) := by decide +kernel
theorem dX7_advance_57 : decode cX7_advance 57 = .ok (.aload_n 0, 1) := by decide +kernel
theorem dX7_advance_58 : decode cX7_advance 58 = .ok (.iconst 0, 1) := by decide +kernel
theorem dX7_advance_59 : decode cX7_advance 59 = .ok (.putfield 39, 3) := by decide +kernel
theorem dX7_advance_62 : decode cX7_advance 62 = .ok (.aload_n 0, 1) := by decide +kernel
theorem dX7_advance_63 : decode cX7_advance 63 = .ok (.getfield 33, 3) := by decide +kernel
theorem dX7_advance_66 : decode cX7_advance 66 = .ok (.aload_n 0, 1) := by decide +kernel
theorem dX7_advance_67 : decode cX7_advance 67 = .ok (.getfield 30, 3) := by decide +kernel
theorem dX7_advance_70 : decode cX7_advance 70 = .ok (.if_icmp .ge 31, 3) := by decide +kernel
theorem dX7_advance_73 : decode cX7_advance 73 = .ok (.aload_n 0, 1) := by decide +kernel
theorem dX7_advance_74 : decode cX7_advance 74 = .ok (.aload_n 0, 1) := by decide +kernel
theorem dX7_advance_75 : decode cX7_advance 75 = .ok (.getfield 26, 3) := by decide +kernel
theorem dX7_advance_78 : decode cX7_advance 78 = .ok (.aload_n 0, 1) := by decide +kernel
theorem dX7_advance_79 : decode cX7_advance 79 = .ok (.getfield 33, 3) := by decide +kernel
theorem dX7_advance_82 : decode cX7_advance 82 = .ok (.invokevirtual 61, 3) := by decide +kernel
theorem dX7_advance_85 : decode cX7_advance 85 = .ok (.invokestatic 80, 3) := by decide +kernel
theorem dX7_advance_88 : decode cX7_advance 88 = .ok (.putfield 39, 3) := by decide +kernel
theorem dX7_advance_91 : decode cX7_advance 91 = .ok (.aload_n 0, 1) := by decide +kernel
theorem dX7_advance_92 : decode cX7_advance 92 = .ok (.dup, 1) := by decide +kernel
theorem dX7_advance_93 : decode cX7_advance 93 = .ok (.getfield 36, 3) := by decide +kernel
theorem dX7_advance_96 : decode cX7_advance 96 = .ok (.iconst 1, 1) := by decide +kernel
theorem dX7_advance_97 : decode cX7_advance 97 = .ok (.iadd, 1) := by decide +kernel
theorem dX7_advance_98 : decode cX7_advance 98 = .ok (.putfield 36, 3) := by decide +kernel
theorem dX7_advance_101 : decode cX7_advance 101 = .ok (.aload_n 0, 1) := by decide +kernel
theorem dX7_advance_102 : decode cX7_advance 102 = .ok (.getfield 36, 3) := by decide +kernel
theorem dX7_advance_105 : decode cX7_advance 105 = .ok (.aload_n 0, 1) := by decide +kernel
theorem dX7_advance_106 : decode cX7_advance 106 = .ok (.getfield 30, 3) := by decide +kernel
theorem dX7_advance_109 : decode cX7_advance 109 = .ok (.if_icmp .ge 45, 3) := by decide +kernel
theorem dX7_advance_112 : decode cX7_advance 112 = .ok (.aload_n 0, 1) := by decide +kernel
theorem dX7_advance_113 : decode cX7_advance 113 = .ok (.getfield 39, 3) := by decide +kernel
theorem dX7_advance_116 : decode cX7_advance 116 = .ok (.iconst 3, 1) := by decide +kernel
theorem dX7_advance_117 : decode cX7_advance 117 = .ok (.if_icmp .eq 37, 3) := by decide +kernel
theorem dX7_advance_120 : decode cX7_advance 120 = .ok (.aload_n 0, 1) := by decide +kernel
theorem dX7_advance_121 : decode cX7_advance 121 = .ok (.getfield 26, 3) := by decide +kernel
theorem dX7_advance_124 : decode cX7_advance 124 = .ok (.aload_n 0, 1) := by decide +kernel
theorem dX7_advance_125 : decode cX7_advance 125 = .ok (.getfield 36, 3) := by decide +kernel
theorem dX7_advance_128 : decode cX7_advance 128 = .ok (.invokevirtual 61, 3) := by decide +kernel
theorem dX7_advance_131 : decode cX7_advance 131 = .ok (.invokestatic 80, 3) := by decide +kernel
theorem dX7_advance_134 : decode cX7_advance 134 = .ok (.aload_n 0, 1) := by decide +kernel
theorem dX7_advance_135 : decode cX7_advance 135 = .ok (.getfield 39, 3) := by decide +kernel
theorem dX7_advance_138 : decode cX7_advance 138 = .ok (.if_icmp .ne 16, 3) := by decide +kernel
theorem dX7_advance_141 : decode cX7_advance 141 = .ok (.aload_n 0, 1) := by decide +kernel
theorem dX7_advance_142 : decode cX7_advance 142 = .ok (.dup, 1) := by decide +kernel
theorem dX7_advance_143 : decode cX7_advance 143 = .ok (.getfield 36, 3) := by decide +kernel
theorem dX7_advance_146 : decode cX7_advance 146 = .ok (.iconst 1, 1) := by decide +kernel
theorem dX7_advance_147 : decode cX7_advance 147 = .ok (.iadd, 1) := by decide +kernel
theorem dX7_advance_148 : decode cX7_advance 148 = .ok (.putfield 36, 3) := by decide +kernel
theorem dX7_advance_151 : decode cX7_advance 151 = .ok (.goto (-50), 3) := by decide +kernel
theorem dX7_advance_154 : decode cX7_advance 154 = .ok (.aload_n 0, 1) := by decide +kernel
theorem dX7_advance_155 : decode cX7_advance 155 = .ok (.iconst 0, 1) := by decide +kernel
theorem dX7_advance_156 : decode cX7_advance 156 = .ok (.putfield 42, 3) := by decide +kernel
theorem dX7_advance_159 : decode cX7_advance 159 = .ok (.aload_n 0, 1) := by decide +kernel
theorem dX7_advance_160 : decode cX7_advance 160 = .ok (.getfield 33, 3) := by decide +kernel
theorem dX7_advance_163 : decode cX7_advance 163 = .ok (.istore_n 1, 1) := by decide +kernel
theorem dX7_advance_164 : decode cX7_advance 164 = .ok (.iload_n 1, 1) := by decide +kernel
theorem dX7_advance_165 : decode cX7_advance 165 = .ok (.aload_n 0, 1) := by decide +kernel
theorem dX7_advance_166 : decode cX7_advance 166 = .ok (.getfield 36, 3) := by decide +kernel
theorem dX7_advance_169 : decode cX7_advance 169 = .ok (.if_icmp .ge 45, 3) := by decide +kernel
theorem dX7_advance_172 : decode cX7_advance 172 = .ok (.aload_n 0, 1) := by decide +kernel
theorem dX7_advance_173 : decode cX7_advance 173 = .ok (.getfield 39, 3) := by decide +kernel
theorem dX7_advance_176 : decode cX7_advance 176 = .ok (.iconst 2, 1) := by decide +kernel
theorem dX7_advance_177 : decode cX7_advance 177 = .ok (.if_icmp .ne 37, 3) := by decide +kernel
theorem dX7_advance_180 : decode cX7_advance 180 = .ok (.aload_n 0, 1) := by decide +kernel
theorem dX7_advance_181 : decode cX7_advance 181 = .ok (.aload_n 0, 1) := by decide +kernel
theorem dX7_advance_182 : decode cX7_advance 182 = .ok (.getfield 42, 3) := by decide +kernel
theorem dX7_advance_185 : decode cX7_advance 185 = .ok (.bipush 10, 2) := by decide +kernel
theorem dX7_advance_187 : decode cX7_advance 187 = .ok (.imul, 1) := by decide +kernel
theorem dX7_advance_188 : decode cX7_advance 188 = .ok (.aload_n 0, 1) := by decide +kernel
theorem dX7_advance_189 : decode cX7_advance 189 = .ok (.getfield 26, 3) := by decide +kernel
theorem dX7_advance_192 : decode cX7_advance 192 = .ok (.iload_n 1, 1) := by decide +kernel
theorem dX7_advance_193 : decode cX7_advance 193 = .ok (.invokevirtual 61, 3) := by decide +kernel
theorem dX7_advance_196 : decode cX7_advance 196 = .ok (.iadd, 1) := by decide +kernel
theorem dX7_advance_197 : decode cX7_advance 197 = .ok (.bipush 48, 2) := by decide +kernel
theorem dX7_advance_199 : decode cX7_advance 199 = .ok (.isub, 1) := by decide +kernel
theorem dX7_advance_200 : decode cX7_advance 200 = .ok (.ldc 83, 2) := by decide +kernel
theorem dX7_advance_202 : decode cX7_advance 202 = .ok (.invokestatic 84, 3) := by decide +kernel
theorem dX7_advance_205 : decode cX7_advance 205 = .ok (.putfield 42, 3) := by decide +kernel
theorem dX7_advance_208 : decode cX7_advance 208 = .ok (.iinc 1 1, 3) := by decide +kernel
theorem dX7_advance_211 : decode cX7_advance 211 = .ok (.goto (-47), 3) := by decide +kernel
theorem dX7_advance_214 : decode cX7_advance 214 = .ok (.return_, 1) := by decide +kernel
def rm_X7_advance : Room := { frames := 1, cells := 0, slots := 0, locals := 21 }
def M_X7_advance_164 (k : Nat) : Nat → (Int32) → (Nat → Nat → Int32) → Option ((Nat → Nat → Int32))
  | 0, _, _ => none
  | n + 1, x1, S => if (S 0 5) ≤ x1 then (some S) else (if (S 0 6) = (2 : Int32) then ((M_X5_at k 700 (S 1) x1).bind fun q3 => lt (va_up S 0 (upd (S 0) 7 (if (100000 : Int32) < ((((S 0 7) * (10 : Int32)) + q3) - (48 : Int32)) then (100000 : Int32) else ((((S 0 7) * (10 : Int32)) + q3) - (48 : Int32))))) fun F4 => M_X7_advance_164 k n (x1 + 1) F4) else (some S))
theorem M_X7_advance_164_s (k : Nat) (n : Nat) (x1 : Int32) (S : Nat → Nat → Int32) : M_X7_advance_164 k (n + 1) x1 S = (if (S 0 5) ≤ x1 then (some S) else (if (S 0 6) = (2 : Int32) then ((M_X5_at k 700 (S 1) x1).bind fun q3 => lt (va_up S 0 (upd (S 0) 7 (if (100000 : Int32) < ((((S 0 7) * (10 : Int32)) + q3) - (48 : Int32)) then (100000 : Int32) else ((((S 0 7) * (10 : Int32)) + q3) - (48 : Int32))))) fun F4 => M_X7_advance_164 k n (x1 + 1) F4) else (some S))) := rfl
set_option maxRecDepth 100000 in
set_option maxHeartbeats 4000000 in
theorem N_X7_advance_164 (C : CX E p l s m args meth c cX7_advance 2 RX7 none A) (a : Nat → Nat) (k : Nat) {post : va_W → Prop} :
    ∀ (n : Nat) (x1 : Int32) (S : Nat → Nat → Int32) (q : (Nat → Nat → Int32)), M_X7_advance_164 k n x1 S = some q → post (wTk E a q) →
      WW E p l e rm_X7_advance s m args below meth c A 0 0 (QV E below post args s rm_X7_advance A) (wTk E a S) 2 [some (.ref (a 0)), some (.int x1)] 164 [] := by
  intro n
  induction n with
  | zero => intro x1 S q  h _; cases h
  | succ n ih =>
    intro x1 S q  h hq
    rw [M_X7_advance_164_s] at h
    refine r_iload_n (pc := 164) C (i := 1) dX7_advance_164 rfl rfl ?_
    refine r_aload_n (pc := 165) C (i := 0) dX7_advance_165 rfl rfl ?_
    refine r_get (pc := 166) C gwX7 0 rfl rfl 6 (by decide) wm_1_186 rfl dX7_advance_166 ?_
    refine r_icmp_ge (pc := 169) C (tgt := 214) dX7_advance_169 rfl (fun c1 => ?_) (fun c1 => ?_)
    · rw [if_pos c1] at h
      cases h
      exact r_vret (pc := 214) C hq (Nat.zero_le _) (Nat.zero_le _) dX7_advance_214
    · rw [if_neg c1] at h
      refine r_aload_n (pc := 172) C (i := 0) dX7_advance_172 rfl rfl ?_
      refine r_get (pc := 173) C gwX7 0 rfl rfl 7 (by decide) wm_1_187 rfl dX7_advance_173 ?_
      refine r_iconst (pc := 176) C (v := 2) dX7_advance_176 (by decide) ?_
      refine r_icmp_ne (pc := 177) C (tgt := 214) dX7_advance_177 rfl (fun c2 => ?_) (fun c2 => ?_)
      · rw [if_neg c2] at h
        cases h
        exact r_vret (pc := 214) C hq (Nat.zero_le _) (Nat.zero_le _) dX7_advance_214
      · rw [if_pos c2] at h
        refine r_aload_n (pc := 180) C (i := 0) dX7_advance_180 rfl rfl ?_
        refine r_aload_n (pc := 181) C (i := 0) dX7_advance_181 rfl rfl ?_
        refine r_get (pc := 182) C gwX7 0 rfl rfl 8 (by decide) wm_1_188 rfl dX7_advance_182 ?_
        refine r_bipush (pc := 185) C (v := 10) dX7_advance_185 (by decide) ?_
        refine r_imul (pc := 187) C dX7_advance_187 ?_
        refine r_aload_n (pc := 188) C (i := 0) dX7_advance_188 rfl rfl ?_
        refine r_get (pc := 189) C gwX7 0 rfl rfl 3 (by decide) wm_1_183 rfl dX7_advance_189 ?_
        refine r_iload_n (pc := 192) C (i := 1) dX7_advance_192 rfl rfl ?_
        obtain ⟨q3, hq3, h⟩ := bnd h
        refine r_callVp_CI (Cn := RX5) (pc := 193) C [.int x1] (c_X5_at E l k (fun i => a (i + 1)) 700 (S 1) x1 hq3) [1, 2] rfl (by decide) 0 rfl rfl rfl g_X7_61 hd_X5_at ⟨Nat.le_of_ble_eq_true rfl, Nat.le_of_ble_eq_true rfl⟩ ⟨Nat.zero_le _, Nat.zero_le _⟩ (Nat.le_of_ble_eq_true rfl) rfl dX7_advance_193 (fun r hr => ?_)
        have hr := hr.symm
        subst hr
        refine r_iadd (pc := 196) C dX7_advance_196 ?_
        refine r_bipush (pc := 197) C (v := 48) dX7_advance_197 (by decide) ?_
        refine r_isub (pc := 199) C dX7_advance_199 ?_
        refine r_ldc (pc := 200) C (v := 100000) wm_3_28 dX7_advance_200 ?_
        refine r_mmin (pc := 202) C wm_3_29 wm_2_101 wm_1_14 wm_2_102 ⟨Nat.le_of_ble_eq_true rfl, Nat.le_of_ble_eq_true rfl, Nat.zero_le _, Nat.zero_le _⟩ (Nat.le_of_ble_eq_true rfl) dX7_advance_202 ?_
        obtain ⟨F4, hF4, h⟩ := lt_e h
        refine r_put (pc := 205) C gwX7 tyX7 tyX7_ok nmX7 0 rfl rfl 8 (by decide) wm_1_188 rfl rfl rfl rfl (Nat.le_of_ble_eq_true rfl) (w' := (wTk E a F4)) (by rw [hF4]; rfl) dX7_advance_205 ?_
        refine r_iinc (pc := 208) C (v := (x1 + 1)) dX7_advance_208 rfl rfl (by decide) rfl ?_
        refine r_goto (pc := 211) C (tgt := 164) dX7_advance_211 rfl ?_
        refine r_weak (lSub_s (lSub_s lSub_e)) ?_
        exact ih (x1 + 1) F4 q  h hq
def M_X7_advance_101 (k : Nat) : Nat → (Nat → Nat → Int32) → Option ((Nat → Nat → Int32))
  | 0, _ => none
  | n + 1, S => if (S 0 3) ≤ (S 0 5) then (lt (va_up S 0 (upd (S 0) 7 (0 : Int32))) fun F6 => lt (F6 0 4) fun v7 => M_X7_advance_164 k k v7 F6) else (if (S 0 6) = (3 : Int32) then (lt (va_up S 0 (upd (S 0) 7 (0 : Int32))) fun F9 => lt (F9 0 4) fun v10 => M_X7_advance_164 k k v10 F9) else ((M_X5_at k 700 (S 1) (S 0 5)).bind fun q11 => (M_X7_kindOf k q11).bind fun q12 => if q12 = (S 0 6) then (lt (va_up S 0 (upd (S 0) 5 ((S 0 5) + (1 : Int32)))) fun F16 => M_X7_advance_101 k n F16) else (lt (va_up S 0 (upd (S 0) 7 (0 : Int32))) fun F14 => lt (F14 0 4) fun v15 => M_X7_advance_164 k k v15 F14)))
theorem M_X7_advance_101_s (k : Nat) (n : Nat) (S : Nat → Nat → Int32) : M_X7_advance_101 k (n + 1) S = (if (S 0 3) ≤ (S 0 5) then (lt (va_up S 0 (upd (S 0) 7 (0 : Int32))) fun F6 => lt (F6 0 4) fun v7 => M_X7_advance_164 k k v7 F6) else (if (S 0 6) = (3 : Int32) then (lt (va_up S 0 (upd (S 0) 7 (0 : Int32))) fun F9 => lt (F9 0 4) fun v10 => M_X7_advance_164 k k v10 F9) else ((M_X5_at k 700 (S 1) (S 0 5)).bind fun q11 => (M_X7_kindOf k q11).bind fun q12 => if q12 = (S 0 6) then (lt (va_up S 0 (upd (S 0) 5 ((S 0 5) + (1 : Int32)))) fun F16 => M_X7_advance_101 k n F16) else (lt (va_up S 0 (upd (S 0) 7 (0 : Int32))) fun F14 => lt (F14 0 4) fun v15 => M_X7_advance_164 k k v15 F14)))) := rfl
set_option maxRecDepth 100000 in
set_option maxHeartbeats 4000000 in
theorem N_X7_advance_101 (C : CX E p l s m args meth c cX7_advance 2 RX7 none A) (a : Nat → Nat) (k : Nat) {post : va_W → Prop} :
    ∀ (n : Nat) (S : Nat → Nat → Int32) (q : (Nat → Nat → Int32)), M_X7_advance_101 k n S = some q → post (wTk E a q) →
      WW E p l e rm_X7_advance s m args below meth c A 0 0 (QV E below post args s rm_X7_advance A) (wTk E a S) 2 [some (.ref (a 0)), none] 101 [] := by
  intro n
  induction n with
  | zero => intro S q  h _; cases h
  | succ n ih =>
    intro S q  h hq
    rw [M_X7_advance_101_s] at h
    refine r_aload_n (pc := 101) C (i := 0) dX7_advance_101 rfl rfl ?_
    refine r_get (pc := 102) C gwX7 0 rfl rfl 6 (by decide) wm_1_186 rfl dX7_advance_102 ?_
    refine r_aload_n (pc := 105) C (i := 0) dX7_advance_105 rfl rfl ?_
    refine r_get (pc := 106) C gwX7 0 rfl rfl 4 (by decide) wm_1_184 rfl dX7_advance_106 ?_
    refine r_icmp_ge (pc := 109) C (tgt := 154) dX7_advance_109 rfl (fun c5 => ?_) (fun c5 => ?_)
    · rw [if_pos c5] at h
      refine r_aload_n (pc := 154) C (i := 0) dX7_advance_154 rfl rfl ?_
      refine r_iconst (pc := 155) C (v := 0) dX7_advance_155 (by decide) ?_
      obtain ⟨F6, hF6, h⟩ := lt_e h
      refine r_put (pc := 156) C gwX7 tyX7 tyX7_ok nmX7 0 rfl rfl 8 (by decide) wm_1_188 rfl rfl rfl rfl (Nat.le_of_ble_eq_true rfl) (w' := (wTk E a F6)) (by rw [hF6]; rfl) dX7_advance_156 ?_
      refine r_aload_n (pc := 159) C (i := 0) dX7_advance_159 rfl rfl ?_
      refine r_get (pc := 160) C gwX7 0 rfl rfl 5 (by decide) wm_1_185 rfl dX7_advance_160 ?_
      obtain ⟨v7, hv7, h⟩ := lt_e h
      refine r_topi hv7 ?_
      refine r_istore_n (pc := 163) C (i := 1) dX7_advance_163 rfl (by decide) rfl ?_
      refine r_weak (lSub_s (lSub_s lSub_e)) ?_
      exact N_X7_advance_164 C a k k v7 F6 q  h hq
    · rw [if_neg c5] at h
      refine r_aload_n (pc := 112) C (i := 0) dX7_advance_112 rfl rfl ?_
      refine r_get (pc := 113) C gwX7 0 rfl rfl 7 (by decide) wm_1_187 rfl dX7_advance_113 ?_
      refine r_iconst (pc := 116) C (v := 3) dX7_advance_116 (by decide) ?_
      refine r_icmp_eq (pc := 117) C (tgt := 154) dX7_advance_117 rfl (fun c8 => ?_) (fun c8 => ?_)
      · rw [if_pos c8] at h
        refine r_aload_n (pc := 154) C (i := 0) dX7_advance_154 rfl rfl ?_
        refine r_iconst (pc := 155) C (v := 0) dX7_advance_155 (by decide) ?_
        obtain ⟨F9, hF9, h⟩ := lt_e h
        refine r_put (pc := 156) C gwX7 tyX7 tyX7_ok nmX7 0 rfl rfl 8 (by decide) wm_1_188 rfl rfl rfl rfl (Nat.le_of_ble_eq_true rfl) (w' := (wTk E a F9)) (by rw [hF9]; rfl) dX7_advance_156 ?_
        refine r_aload_n (pc := 159) C (i := 0) dX7_advance_159 rfl rfl ?_
        refine r_get (pc := 160) C gwX7 0 rfl rfl 5 (by decide) wm_1_185 rfl dX7_advance_160 ?_
        obtain ⟨v10, hv10, h⟩ := lt_e h
        refine r_topi hv10 ?_
        refine r_istore_n (pc := 163) C (i := 1) dX7_advance_163 rfl (by decide) rfl ?_
        refine r_weak (lSub_s (lSub_s lSub_e)) ?_
        exact N_X7_advance_164 C a k k v10 F9 q  h hq
      · rw [if_neg c8] at h
        refine r_aload_n (pc := 120) C (i := 0) dX7_advance_120 rfl rfl ?_
        refine r_get (pc := 121) C gwX7 0 rfl rfl 3 (by decide) wm_1_183 rfl dX7_advance_121 ?_
        refine r_aload_n (pc := 124) C (i := 0) dX7_advance_124 rfl rfl ?_
        refine r_get (pc := 125) C gwX7 0 rfl rfl 6 (by decide) wm_1_186 rfl dX7_advance_125 ?_
        obtain ⟨q11, hq11, h⟩ := bnd h
        refine r_callVp_CI (Cn := RX5) (pc := 128) C [.int (S 0 5)] (c_X5_at E l k (fun i => a (i + 1)) 700 (S 1) (S 0 5) hq11) [1, 2] rfl (by decide) 0 rfl rfl rfl g_X7_61 hd_X5_at ⟨Nat.le_of_ble_eq_true rfl, Nat.le_of_ble_eq_true rfl⟩ ⟨Nat.zero_le _, Nat.zero_le _⟩ (Nat.le_of_ble_eq_true rfl) rfl dX7_advance_128 (fun r hr => ?_)
        have hr := hr.symm
        subst hr
        obtain ⟨q12, hq12, h⟩ := bnd h
        refine r_callSp_CI (pc := 131) C [.int q11] (c_X7_kindOf E l k q11 hq12) [] rfl (by decide) g_X7_80 hd_X7_kindOf.2 ⟨Nat.le_of_ble_eq_true rfl, Nat.le_of_ble_eq_true rfl⟩ ⟨Nat.zero_le _, Nat.zero_le _⟩ (Nat.le_of_ble_eq_true rfl) rfl dX7_advance_131 (fun r hr => ?_)
        have hr := hr.symm
        subst hr
        refine r_aload_n (pc := 134) C (i := 0) dX7_advance_134 rfl rfl ?_
        refine r_get (pc := 135) C gwX7 0 rfl rfl 7 (by decide) wm_1_187 rfl dX7_advance_135 ?_
        refine r_icmp_ne (pc := 138) C (tgt := 154) dX7_advance_138 rfl (fun c13 => ?_) (fun c13 => ?_)
        · rw [if_neg c13] at h
          refine r_aload_n (pc := 154) C (i := 0) dX7_advance_154 rfl rfl ?_
          refine r_iconst (pc := 155) C (v := 0) dX7_advance_155 (by decide) ?_
          obtain ⟨F14, hF14, h⟩ := lt_e h
          refine r_put (pc := 156) C gwX7 tyX7 tyX7_ok nmX7 0 rfl rfl 8 (by decide) wm_1_188 rfl rfl rfl rfl (Nat.le_of_ble_eq_true rfl) (w' := (wTk E a F14)) (by rw [hF14]; rfl) dX7_advance_156 ?_
          refine r_aload_n (pc := 159) C (i := 0) dX7_advance_159 rfl rfl ?_
          refine r_get (pc := 160) C gwX7 0 rfl rfl 5 (by decide) wm_1_185 rfl dX7_advance_160 ?_
          obtain ⟨v15, hv15, h⟩ := lt_e h
          refine r_topi hv15 ?_
          refine r_istore_n (pc := 163) C (i := 1) dX7_advance_163 rfl (by decide) rfl ?_
          refine r_weak (lSub_s (lSub_s lSub_e)) ?_
          exact N_X7_advance_164 C a k k v15 F14 q  h hq
        · rw [if_pos c13] at h
          refine r_aload_n (pc := 141) C (i := 0) dX7_advance_141 rfl rfl ?_
          refine r_dup (pc := 142) C dX7_advance_142 rfl ?_
          refine r_get (pc := 143) C gwX7 0 rfl rfl 6 (by decide) wm_1_186 rfl dX7_advance_143 ?_
          refine r_iconst (pc := 146) C (v := 1) dX7_advance_146 (by decide) ?_
          refine r_iadd (pc := 147) C dX7_advance_147 ?_
          obtain ⟨F16, hF16, h⟩ := lt_e h
          refine r_put (pc := 148) C gwX7 tyX7 tyX7_ok nmX7 0 rfl rfl 6 (by decide) wm_1_186 rfl rfl rfl rfl (Nat.le_of_ble_eq_true rfl) (w' := (wTk E a F16)) (by rw [hF16]; rfl) dX7_advance_148 ?_
          refine r_goto (pc := 151) C (tgt := 101) dX7_advance_151 rfl ?_
          refine r_weak (lSub_s (lSub_n lSub_e)) ?_
          exact ih F16 q  h hq
def M_X7_advance_49 (k : Nat) (S : Nat → Nat → Int32) : Option ((Nat → Nat → Int32)) := lt (va_up S 0 (upd (S 0) 5 (S 0 4))) fun F17 => lt (va_up F17 0 (upd (F17 0) 6 (0 : Int32))) fun F18 => if (F18 0 3) ≤ (F18 0 4) then (M_X7_advance_101 k k F18) else ((M_X5_at k 700 (F18 1) (F18 0 4)).bind fun q20 => (M_X7_kindOf k q20).bind fun q21 => lt (va_up F18 0 (upd (F18 0) 6 q21)) fun F22 => lt (va_up F22 0 (upd (F22 0) 5 ((F22 0 5) + (1 : Int32)))) fun F23 => M_X7_advance_101 k k F23)
set_option maxRecDepth 100000 in
set_option maxHeartbeats 4000000 in
theorem N_X7_advance_49 (C : CX E p l s m args meth c cX7_advance 2 RX7 none A) (a : Nat → Nat) (k : Nat) {post : va_W → Prop} :
    ∀ (S : Nat → Nat → Int32) (q : (Nat → Nat → Int32)), M_X7_advance_49 k S = some q → post (wTk E a q) →
      WW E p l e rm_X7_advance s m args below meth c A 0 0 (QV E below post args s rm_X7_advance A) (wTk E a S) 2 [some (.ref (a 0)), none] 49 [] := by
  intro S q  h hq
  unfold M_X7_advance_49 at h
  refine r_aload_n (pc := 49) C (i := 0) dX7_advance_49 rfl rfl ?_
  refine r_aload_n (pc := 50) C (i := 0) dX7_advance_50 rfl rfl ?_
  refine r_get (pc := 51) C gwX7 0 rfl rfl 5 (by decide) wm_1_185 rfl dX7_advance_51 ?_
  obtain ⟨F17, hF17, h⟩ := lt_e h
  refine r_put (pc := 54) C gwX7 tyX7 tyX7_ok nmX7 0 rfl rfl 6 (by decide) wm_1_186 rfl rfl rfl rfl (Nat.le_of_ble_eq_true rfl) (w' := (wTk E a F17)) (by rw [hF17]; rfl) dX7_advance_54 ?_
  refine r_aload_n (pc := 57) C (i := 0) dX7_advance_57 rfl rfl ?_
  refine r_iconst (pc := 58) C (v := 0) dX7_advance_58 (by decide) ?_
  obtain ⟨F18, hF18, h⟩ := lt_e h
  refine r_put (pc := 59) C gwX7 tyX7 tyX7_ok nmX7 0 rfl rfl 7 (by decide) wm_1_187 rfl rfl rfl rfl (Nat.le_of_ble_eq_true rfl) (w' := (wTk E a F18)) (by rw [hF18]; rfl) dX7_advance_59 ?_
  refine r_aload_n (pc := 62) C (i := 0) dX7_advance_62 rfl rfl ?_
  refine r_get (pc := 63) C gwX7 0 rfl rfl 5 (by decide) wm_1_185 rfl dX7_advance_63 ?_
  refine r_aload_n (pc := 66) C (i := 0) dX7_advance_66 rfl rfl ?_
  refine r_get (pc := 67) C gwX7 0 rfl rfl 4 (by decide) wm_1_184 rfl dX7_advance_67 ?_
  refine r_icmp_ge (pc := 70) C (tgt := 101) dX7_advance_70 rfl (fun c19 => ?_) (fun c19 => ?_)
  · rw [if_pos c19] at h
    refine r_weak (lSub_s (lSub_n lSub_e)) ?_
    exact N_X7_advance_101 C a k k F18 q  h hq
  · rw [if_neg c19] at h
    refine r_aload_n (pc := 73) C (i := 0) dX7_advance_73 rfl rfl ?_
    refine r_aload_n (pc := 74) C (i := 0) dX7_advance_74 rfl rfl ?_
    refine r_get (pc := 75) C gwX7 0 rfl rfl 3 (by decide) wm_1_183 rfl dX7_advance_75 ?_
    refine r_aload_n (pc := 78) C (i := 0) dX7_advance_78 rfl rfl ?_
    refine r_get (pc := 79) C gwX7 0 rfl rfl 5 (by decide) wm_1_185 rfl dX7_advance_79 ?_
    obtain ⟨q20, hq20, h⟩ := bnd h
    refine r_callVp_CI (Cn := RX5) (pc := 82) C [.int (F18 0 4)] (c_X5_at E l k (fun i => a (i + 1)) 700 (F18 1) (F18 0 4) hq20) [1, 2] rfl (by decide) 0 rfl rfl rfl g_X7_61 hd_X5_at ⟨Nat.le_of_ble_eq_true rfl, Nat.le_of_ble_eq_true rfl⟩ ⟨Nat.zero_le _, Nat.zero_le _⟩ (Nat.le_of_ble_eq_true rfl) rfl dX7_advance_82 (fun r hr => ?_)
    have hr := hr.symm
    subst hr
    obtain ⟨q21, hq21, h⟩ := bnd h
    refine r_callSp_CI (pc := 85) C [.int q20] (c_X7_kindOf E l k q20 hq21) [] rfl (by decide) g_X7_80 hd_X7_kindOf.2 ⟨Nat.le_of_ble_eq_true rfl, Nat.le_of_ble_eq_true rfl⟩ ⟨Nat.zero_le _, Nat.zero_le _⟩ (Nat.le_of_ble_eq_true rfl) rfl dX7_advance_85 (fun r hr => ?_)
    have hr := hr.symm
    subst hr
    obtain ⟨F22, hF22, h⟩ := lt_e h
    refine r_put (pc := 88) C gwX7 tyX7 tyX7_ok nmX7 0 rfl rfl 7 (by decide) wm_1_187 rfl rfl rfl rfl (Nat.le_of_ble_eq_true rfl) (w' := (wTk E a F22)) (by rw [hF22]; rfl) dX7_advance_88 ?_
    refine r_aload_n (pc := 91) C (i := 0) dX7_advance_91 rfl rfl ?_
    refine r_dup (pc := 92) C dX7_advance_92 rfl ?_
    refine r_get (pc := 93) C gwX7 0 rfl rfl 6 (by decide) wm_1_186 rfl dX7_advance_93 ?_
    refine r_iconst (pc := 96) C (v := 1) dX7_advance_96 (by decide) ?_
    refine r_iadd (pc := 97) C dX7_advance_97 ?_
    obtain ⟨F23, hF23, h⟩ := lt_e h
    refine r_put (pc := 98) C gwX7 tyX7 tyX7_ok nmX7 0 rfl rfl 6 (by decide) wm_1_186 rfl rfl rfl rfl (Nat.le_of_ble_eq_true rfl) (w' := (wTk E a F23)) (by rw [hF23]; rfl) dX7_advance_98 ?_
    refine r_weak (lSub_s (lSub_n lSub_e)) ?_
    exact N_X7_advance_101 C a k k F23 q  h hq
def M_X7_advance_8 (k : Nat) : Nat → (Nat → Nat → Int32) → Option ((Nat → Nat → Int32))
  | 0, _ => none
  | n + 1, S => if (S 0 3) ≤ (S 0 4) then (M_X7_advance_49 k S) else ((M_X5_at k 700 (S 1) (S 0 4)).bind fun q25 => (M_X7_isBlank k q25).bind fun q26 => if q26 = 0 then (M_X7_advance_49 k S) else (lt (va_up S 0 (upd (S 0) 4 ((S 0 4) + (1 : Int32)))) fun F28 => M_X7_advance_8 k n F28))
theorem M_X7_advance_8_s (k : Nat) (n : Nat) (S : Nat → Nat → Int32) : M_X7_advance_8 k (n + 1) S = (if (S 0 3) ≤ (S 0 4) then (M_X7_advance_49 k S) else ((M_X5_at k 700 (S 1) (S 0 4)).bind fun q25 => (M_X7_isBlank k q25).bind fun q26 => if q26 = 0 then (M_X7_advance_49 k S) else (lt (va_up S 0 (upd (S 0) 4 ((S 0 4) + (1 : Int32)))) fun F28 => M_X7_advance_8 k n F28))) := rfl
set_option maxRecDepth 100000 in
set_option maxHeartbeats 4000000 in
theorem N_X7_advance_8 (C : CX E p l s m args meth c cX7_advance 2 RX7 none A) (a : Nat → Nat) (k : Nat) {post : va_W → Prop} :
    ∀ (n : Nat) (S : Nat → Nat → Int32) (q : (Nat → Nat → Int32)), M_X7_advance_8 k n S = some q → post (wTk E a q) →
      WW E p l e rm_X7_advance s m args below meth c A 0 0 (QV E below post args s rm_X7_advance A) (wTk E a S) 2 [some (.ref (a 0)), none] 8 [] := by
  intro n
  induction n with
  | zero => intro S q  h _; cases h
  | succ n ih =>
    intro S q  h hq
    rw [M_X7_advance_8_s] at h
    refine r_aload_n (pc := 8) C (i := 0) dX7_advance_8 rfl rfl ?_
    refine r_get (pc := 9) C gwX7 0 rfl rfl 5 (by decide) wm_1_185 rfl dX7_advance_9 ?_
    refine r_aload_n (pc := 12) C (i := 0) dX7_advance_12 rfl rfl ?_
    refine r_get (pc := 13) C gwX7 0 rfl rfl 4 (by decide) wm_1_184 rfl dX7_advance_13 ?_
    refine r_icmp_ge (pc := 16) C (tgt := 49) dX7_advance_16 rfl (fun c24 => ?_) (fun c24 => ?_)
    · rw [if_pos c24] at h
      refine r_weak (lSub_s (lSub_n lSub_e)) ?_
      exact N_X7_advance_49 C a k S q  h hq
    · rw [if_neg c24] at h
      refine r_aload_n (pc := 19) C (i := 0) dX7_advance_19 rfl rfl ?_
      refine r_get (pc := 20) C gwX7 0 rfl rfl 3 (by decide) wm_1_183 rfl dX7_advance_20 ?_
      refine r_aload_n (pc := 23) C (i := 0) dX7_advance_23 rfl rfl ?_
      refine r_get (pc := 24) C gwX7 0 rfl rfl 5 (by decide) wm_1_185 rfl dX7_advance_24 ?_
      obtain ⟨q25, hq25, h⟩ := bnd h
      refine r_callVp_CI (Cn := RX5) (pc := 27) C [.int (S 0 4)] (c_X5_at E l k (fun i => a (i + 1)) 700 (S 1) (S 0 4) hq25) [1, 2] rfl (by decide) 0 rfl rfl rfl g_X7_61 hd_X5_at ⟨Nat.le_of_ble_eq_true rfl, Nat.le_of_ble_eq_true rfl⟩ ⟨Nat.zero_le _, Nat.zero_le _⟩ (Nat.le_of_ble_eq_true rfl) rfl dX7_advance_27 (fun r hr => ?_)
      have hr := hr.symm
      subst hr
      obtain ⟨q26, hq26, h⟩ := bnd h
      refine r_callSp_CI (pc := 30) C [.int q25] (c_X7_isBlank E l k q25 hq26) [] rfl (by decide) g_X7_76 hd_X7_isBlank.2 ⟨Nat.le_of_ble_eq_true rfl, Nat.le_of_ble_eq_true rfl⟩ ⟨Nat.zero_le _, Nat.zero_le _⟩ (Nat.le_of_ble_eq_true rfl) rfl dX7_advance_30 (fun r hr => ?_)
      have hr := hr.symm
      subst hr
      refine r_if_eq (pc := 33) C (tgt := 49) dX7_advance_33 rfl (fun c27 => ?_) (fun c27 => ?_)
      · rw [if_pos c27] at h
        refine r_weak (lSub_s (lSub_n lSub_e)) ?_
        exact N_X7_advance_49 C a k S q  h hq
      · rw [if_neg c27] at h
        refine r_aload_n (pc := 36) C (i := 0) dX7_advance_36 rfl rfl ?_
        refine r_dup (pc := 37) C dX7_advance_37 rfl ?_
        refine r_get (pc := 38) C gwX7 0 rfl rfl 5 (by decide) wm_1_185 rfl dX7_advance_38 ?_
        refine r_iconst (pc := 41) C (v := 1) dX7_advance_41 (by decide) ?_
        refine r_iadd (pc := 42) C dX7_advance_42 ?_
        obtain ⟨F28, hF28, h⟩ := lt_e h
        refine r_put (pc := 43) C gwX7 tyX7 tyX7_ok nmX7 0 rfl rfl 5 (by decide) wm_1_185 rfl rfl rfl rfl (Nat.le_of_ble_eq_true rfl) (w' := (wTk E a F28)) (by rw [hF28]; rfl) dX7_advance_43 ?_
        refine r_goto (pc := 46) C (tgt := 8) dX7_advance_46 rfl ?_
        refine r_weak (lSub_s (lSub_n lSub_e)) ?_
        exact ih F28 q  h hq
def M_X7_advance_0 (k : Nat) (S : Nat → Nat → Int32) : Option ((Nat → Nat → Int32)) := lt (va_up S 0 (upd (S 0) 4 (S 0 5))) fun F29 => M_X7_advance_8 k k F29
set_option maxRecDepth 100000 in
set_option maxHeartbeats 4000000 in
theorem N_X7_advance_0 (C : CX E p l s m args meth c cX7_advance 2 RX7 none A) (a : Nat → Nat) (k : Nat) {post : va_W → Prop} :
    ∀ (S : Nat → Nat → Int32) (q : (Nat → Nat → Int32)), M_X7_advance_0 k S = some q → post (wTk E a q) →
      WW E p l e rm_X7_advance s m args below meth c A 0 0 (QV E below post args s rm_X7_advance A) (wTk E a S) 2 [some (.ref (a 0)), none] 0 [] := by
  intro S q  h hq
  unfold M_X7_advance_0 at h
  refine r_aload_n (pc := 0) C (i := 0) dX7_advance_0 rfl rfl ?_
  refine r_aload_n (pc := 1) C (i := 0) dX7_advance_1 rfl rfl ?_
  refine r_get (pc := 2) C gwX7 0 rfl rfl 6 (by decide) wm_1_186 rfl dX7_advance_2 ?_
  obtain ⟨F29, hF29, h⟩ := lt_e h
  refine r_put (pc := 5) C gwX7 tyX7 tyX7_ok nmX7 0 rfl rfl 5 (by decide) wm_1_185 rfl rfl rfl rfl (Nat.le_of_ble_eq_true rfl) (w' := (wTk E a F29)) (by rw [hF29]; rfl) dX7_advance_5 ?_
  refine r_weak (lSub_s (lSub_n lSub_e)) ?_
  exact N_X7_advance_8 C a k k F29 q  h hq
def M_X7_advance (k : Nat) (S : Nat → Nat → Int32) : Option ((Nat → Nat → Int32)) := M_X7_advance_0 k S
set_option maxRecDepth 100000 in
set_option maxHeartbeats 4000000 in
theorem c_X7_advance (E : ENV) (l : Launch) (k : Nat) (a : Nat → Nat) (S : Nat → Nat → Int32) {q : (Nat → Nat → Int32)} (hm : M_X7_advance k S = some q) : CV E l yX7_advance cX7_advance 2 none rm_X7_advance [.ref (a 0)] (wTk E a S) (fun w' => w' = (wTk E a q)) :=
  CV.of 1 (by decide) (Nat.le_of_ble_eq_true rfl) (fun p e s m below meth c A C _ => r_weak (lSub_s (lSub_n lSub_e)) (N_X7_advance_0 C a k S q  hm rfl))
theorem hd_X7_advance : yX7_advance.cls = RX7 ∧ yX7_advance.cls ≠ "java/lang/invoke/MethodHandle" ∧ yX7_advance.cls ≠ "java/lang/invoke/VarHandle" ∧ (parseMethodDescriptor yX7_advance.desc).map (fun d => d.parameters.length) = some 0 := by decide +kernel
theorem g_X7_49 : GoodIn GW (wsV RX7 49 RX7 yX7_advance (wsG yX7_advance cX7_advance 2 none)) := gw_V wm_3_17 wm_3_18 wm_3_19 wm_1_7 wm_3_20
-- ShardGuard$Tokens.begin(I)V
theorem dX7_begin_0 : decode cX7_begin 0 = .ok (.aload_n 0, 1) := by decide +kernel
theorem dX7_begin_1 : decode cX7_begin 1 = .ok (.iload_n 1, 1) := by decide +kernel
theorem dX7_begin_2 : decode cX7_begin 2 = .ok (.putfield 30, 3) := by decide +kernel
theorem dX7_begin_5 : decode cX7_begin 5 = .ok (.aload_n 0, 1) := by decide +kernel
theorem dX7_begin_6 : decode cX7_begin 6 = .ok (.iconst 0, 1) := by decide +kernel
theorem dX7_begin_7 : decode cX7_begin 7 = .ok (.putfield 9, 3) := by decide +kernel
theorem dX7_begin_10 : decode cX7_begin 10 = .ok (.aload_n 0, 1) := by decide +kernel
theorem dX7_begin_11 : decode cX7_begin 11 = .ok (.iconst 0, 1) := by decide +kernel
theorem dX7_begin_12 : decode cX7_begin 12 = .ok (.putfield 15, 3) := by decide +kernel
theorem dX7_begin_15 : decode cX7_begin 15 = .ok (.aload_n 0, 1) := by decide +kernel
theorem dX7_begin_16 : decode cX7_begin 16 = .ok (.iconst (-1), 1) := by decide +kernel
theorem dX7_begin_17 : decode cX7_begin 17 = .ok (.putfield 18, 3) := by decide +kernel
theorem dX7_begin_20 : decode cX7_begin 20 = .ok (.aload_n 0, 1) := by decide +kernel
theorem dX7_begin_21 : decode cX7_begin 21 = .ok (.iconst 0, 1) := by decide +kernel
theorem dX7_begin_22 : decode cX7_begin 22 = .ok (.putfield 36, 3) := by decide +kernel
theorem dX7_begin_25 : decode cX7_begin 25 = .ok (.aload_n 0, 1) := by decide +kernel
theorem dX7_begin_26 : decode cX7_begin 26 = .ok (.invokevirtual 49, 3) := by decide +kernel
theorem dX7_begin_29 : decode cX7_begin 29 = .ok (.return_, 1) := by decide +kernel
def rm_X7_begin : Room := { frames := 2, cells := 0, slots := 0, locals := 42 }
def M_X7_begin_0 (k : Nat) (p0 : Int32) (S : Nat → Nat → Int32) : Option ((Nat → Nat → Int32)) := lt (va_up S 0 (upd (S 0) 3 p0)) fun F1 => lt (va_up F1 0 (upd (F1 0) 0 (0 : Int32))) fun F2 => lt (va_up F2 0 (upd (F2 0) 1 (0 : Int32))) fun F3 => lt (va_up F3 0 (upd (F3 0) 2 (-1 : Int32))) fun F4 => lt (va_up F4 0 (upd (F4 0) 5 (0 : Int32))) fun F5 => (M_X7_advance k F5).bind fun q6 => some q6
set_option maxRecDepth 100000 in
set_option maxHeartbeats 4000000 in
theorem N_X7_begin_0 (C : CX E p l s m args meth c cX7_begin 2 RX7 none A) (a : Nat → Nat) (k : Nat) {post : va_W → Prop} :
    ∀ (p0 : Int32) (S : Nat → Nat → Int32) (q : (Nat → Nat → Int32)), M_X7_begin_0 k p0 S = some q → post (wTk E a q) →
      WW E p l e rm_X7_begin s m args below meth c A 0 0 (QV E below post args s rm_X7_begin A) (wTk E a S) 2 [some (.ref (a 0)), some (.int p0)] 0 [] := by
  intro p0 S q  h hq
  unfold M_X7_begin_0 at h
  refine r_aload_n (pc := 0) C (i := 0) dX7_begin_0 rfl rfl ?_
  refine r_iload_n (pc := 1) C (i := 1) dX7_begin_1 rfl rfl ?_
  obtain ⟨F1, hF1, h⟩ := lt_e h
  refine r_put (pc := 2) C gwX7 tyX7 tyX7_ok nmX7 0 rfl rfl 4 (by decide) wm_1_184 rfl rfl rfl rfl (Nat.le_of_ble_eq_true rfl) (w' := (wTk E a F1)) (by rw [hF1]; rfl) dX7_begin_2 ?_
  refine r_aload_n (pc := 5) C (i := 0) dX7_begin_5 rfl rfl ?_
  refine r_iconst (pc := 6) C (v := 0) dX7_begin_6 (by decide) ?_
  obtain ⟨F2, hF2, h⟩ := lt_e h
  refine r_put (pc := 7) C gwX7 tyX7 tyX7_ok nmX7 0 rfl rfl 0 (by decide) wm_1_177 rfl rfl rfl rfl (Nat.le_of_ble_eq_true rfl) (w' := (wTk E a F2)) (by rw [hF2]; rfl) dX7_begin_7 ?_
  refine r_aload_n (pc := 10) C (i := 0) dX7_begin_10 rfl rfl ?_
  refine r_iconst (pc := 11) C (v := 0) dX7_begin_11 (by decide) ?_
  obtain ⟨F3, hF3, h⟩ := lt_e h
  refine r_put (pc := 12) C gwX7 tyX7 tyX7_ok nmX7 0 rfl rfl 1 (by decide) wm_1_179 rfl rfl rfl rfl (Nat.le_of_ble_eq_true rfl) (w' := (wTk E a F3)) (by rw [hF3]; rfl) dX7_begin_12 ?_
  refine r_aload_n (pc := 15) C (i := 0) dX7_begin_15 rfl rfl ?_
  refine r_iconst (pc := 16) C (v := (-1)) dX7_begin_16 (by decide) ?_
  obtain ⟨F4, hF4, h⟩ := lt_e h
  refine r_put (pc := 17) C gwX7 tyX7 tyX7_ok nmX7 0 rfl rfl 2 (by decide) wm_1_181 rfl rfl rfl rfl (Nat.le_of_ble_eq_true rfl) (w' := (wTk E a F4)) (by rw [hF4]; rfl) dX7_begin_17 ?_
  refine r_aload_n (pc := 20) C (i := 0) dX7_begin_20 rfl rfl ?_
  refine r_iconst (pc := 21) C (v := 0) dX7_begin_21 (by decide) ?_
  obtain ⟨F5, hF5, h⟩ := lt_e h
  refine r_put (pc := 22) C gwX7 tyX7 tyX7_ok nmX7 0 rfl rfl 6 (by decide) wm_1_186 rfl rfl rfl rfl (Nat.le_of_ble_eq_true rfl) (w' := (wTk E a F5)) (by rw [hF5]; rfl) dX7_begin_22 ?_
  refine r_aload_n (pc := 25) C (i := 0) dX7_begin_25 rfl rfl ?_
  obtain ⟨q6, hq6, h⟩ := bnd h
  refine r_callV_CV (Cn := RX7) (pc := 26) C [] (c_X7_advance E l k a F5 hq6) [0, 1, 2] rfl (by decide) 0 rfl rfl rfl g_X7_49 hd_X7_advance ⟨Nat.le_of_ble_eq_true rfl, Nat.le_of_ble_eq_true rfl⟩ ⟨Nat.zero_le _, Nat.zero_le _⟩ (Nat.le_of_ble_eq_true rfl) rfl dX7_begin_26 (fun w1 hw1 => ?_)
  subst hw1
  refine ⟨(wTk E a q6), by rfl, ?_⟩
  cases h
  exact r_vret (pc := 29) C hq (Nat.zero_le _) (Nat.zero_le _) dX7_begin_29
def M_X7_begin (k : Nat) (S : Nat → Nat → Int32) (p0 : Int32) : Option ((Nat → Nat → Int32)) := M_X7_begin_0 k p0 S
set_option maxRecDepth 100000 in
set_option maxHeartbeats 4000000 in
theorem c_X7_begin (E : ENV) (l : Launch) (k : Nat) (a : Nat → Nat) (S : Nat → Nat → Int32) (p0 : Int32) {q : (Nat → Nat → Int32)} (hm : M_X7_begin k S p0 = some q) : CV E l yX7_begin cX7_begin 2 none rm_X7_begin [.ref (a 0), .int p0] (wTk E a S) (fun w' => w' = (wTk E a q)) :=
  CV.of 0 (by decide) (Nat.le_of_ble_eq_true rfl) (fun p e s m below meth c A C _ => r_weak (lSub_s (lSub_s lSub_e)) (N_X7_begin_0 C a k p0 S q  hm rfl))
theorem hd_X7_is : yX7_is.cls = RX7 ∧ yX7_is.cls ≠ "java/lang/invoke/MethodHandle" ∧ yX7_is.cls ≠ "java/lang/invoke/VarHandle" ∧ (parseMethodDescriptor yX7_is.desc).map (fun d => d.parameters.length) = some 1 := by decide +kernel
theorem g_X7_69 : GoodIn GW (wsV RX7 69 RX7 yX7_is (wsG yX7_is cX7_is 3 (some .boolean))) := gw_V wm_3_41 wm_3_42 wm_3_43 wm_1_7 wm_3_44
-- ShardGuard$Tokens.take(Ljava/lang/String;)V
theorem dX7_take_0 : decode cX7_take 0 = .ok (.aload_n 0, 1) := by decide +kernel
theorem dX7_take_1 : decode cX7_take 1 = .ok (.aload_n 1, 1) := by decide +kernel
theorem dX7_take_2 : decode cX7_take 2 = .ok (.invokevirtual 69, 3) := by decide +kernel
theorem dX7_take_5 : decode cX7_take 5 = .ok (.ifCond .eq 10, 3) := by decide +kernel
theorem dX7_take_8 : decode cX7_take 8 = .ok (.aload_n 0, 1) := by decide +kernel
theorem dX7_take_9 : decode cX7_take 9 = .ok (.invokevirtual 49, 3) := by decide +kernel
theorem dX7_take_12 : decode cX7_take 12 = .ok (.goto 8, 3) := by decide +kernel
theorem dX7_take_15 : decode cX7_take 15 = .ok (.aload_n 0, 1) := by decide +kernel
theorem dX7_take_16 : decode cX7_take 16 = .ok (.iconst 1, 1) := by decide +kernel
theorem dX7_take_17 : decode cX7_take 17 = .ok (.invokevirtual 73, 3) := by decide +kernel
theorem dX7_take_20 : decode cX7_take 20 = .ok (.return_, 1) := by decide +kernel
def rm_X7_take : Room := { frames := 7, cells := 0, slots := 0, locals := 172 }
def M_X7_take_0 (k : Nat) (p0 : Nat) (S : Nat → Nat → Int32) : Option ((Nat → Nat → Int32)) := (M_X7_is k S p0).bind fun q1 => if q1 = 0 then ((M_X7_fail k S (1 : Int32)).bind fun q3 => some q3) else ((M_X7_advance k S).bind fun q4 => some q4)
set_option maxRecDepth 100000 in
set_option maxHeartbeats 4000000 in
theorem N_X7_take_0 (C : CX E p l s m args meth c cX7_take 2 RX7 none A) (a : Nat → Nat) (k : Nat) {post : va_W → Prop} :
    ∀ (p0 : Nat) (S : Nat → Nat → Int32) (q : (Nat → Nat → Int32)), p0 < 79 → M_X7_take_0 k p0 S = some q → post (wTk E a q) →
      WW E p l e rm_X7_take s m args below meth c A 0 0 (QV E below post args s rm_X7_take A) (wTk E a S) 2 [some (.ref (a 0)), some (.ref (eS E p0))] 0 [] := by
  intro p0 S q hj_p0 h hq
  unfold M_X7_take_0 at h
  refine r_aload_n (pc := 0) C (i := 0) dX7_take_0 rfl rfl ?_
  refine r_aload_n (pc := 1) C (i := 1) dX7_take_1 rfl rfl ?_
  obtain ⟨q1, hq1, h⟩ := bnd h
  refine r_callVp_CI (Cn := RX7) (pc := 2) C [.ref (eS E p0)] (c_X7_is E l k a S p0 hj_p0 hq1) [0, 1, 2] rfl (by decide) 0 rfl rfl rfl g_X7_69 hd_X7_is ⟨Nat.le_of_ble_eq_true rfl, Nat.le_of_ble_eq_true rfl⟩ ⟨Nat.zero_le _, Nat.zero_le _⟩ (Nat.le_of_ble_eq_true rfl) rfl dX7_take_2 (fun r hr => ?_)
  have hr := hr.symm
  subst hr
  refine r_if_eq (pc := 5) C (tgt := 15) dX7_take_5 rfl (fun c2 => ?_) (fun c2 => ?_)
  · rw [if_pos c2] at h
    refine r_aload_n (pc := 15) C (i := 0) dX7_take_15 rfl rfl ?_
    refine r_iconst (pc := 16) C (v := 1) dX7_take_16 (by decide) ?_
    obtain ⟨q3, hq3, h⟩ := bnd h
    refine r_callV_CV (Cn := RX7) (pc := 17) C [.int (1 : Int32)] (c_X7_fail E l k a S (1 : Int32) hq3) [0, 1, 2] rfl (by decide) 0 rfl rfl rfl g_X7_73 hd_X7_fail ⟨Nat.le_of_ble_eq_true rfl, Nat.le_of_ble_eq_true rfl⟩ ⟨Nat.zero_le _, Nat.zero_le _⟩ (Nat.le_of_ble_eq_true rfl) rfl dX7_take_17 (fun w1 hw1 => ?_)
    subst hw1
    refine ⟨(wTk E a q3), by rfl, ?_⟩
    cases h
    exact r_vret (pc := 20) C hq (Nat.zero_le _) (Nat.zero_le _) dX7_take_20
  · rw [if_neg c2] at h
    refine r_aload_n (pc := 8) C (i := 0) dX7_take_8 rfl rfl ?_
    obtain ⟨q4, hq4, h⟩ := bnd h
    refine r_callV_CV (Cn := RX7) (pc := 9) C [] (c_X7_advance E l k a S hq4) [0, 1, 2] rfl (by decide) 0 rfl rfl rfl g_X7_49 hd_X7_advance ⟨Nat.le_of_ble_eq_true rfl, Nat.le_of_ble_eq_true rfl⟩ ⟨Nat.zero_le _, Nat.zero_le _⟩ (Nat.le_of_ble_eq_true rfl) rfl dX7_take_9 (fun w1 hw1 => ?_)
    subst hw1
    refine ⟨(wTk E a q4), by rfl, ?_⟩
    refine r_goto (pc := 12) C (tgt := 20) dX7_take_12 rfl ?_
    cases h
    exact r_vret (pc := 20) C hq (Nat.zero_le _) (Nat.zero_le _) dX7_take_20
def M_X7_take (k : Nat) (S : Nat → Nat → Int32) (p0 : Nat) : Option ((Nat → Nat → Int32)) := M_X7_take_0 k p0 S
set_option maxRecDepth 100000 in
set_option maxHeartbeats 4000000 in
theorem c_X7_take (E : ENV) (l : Launch) (k : Nat) (a : Nat → Nat) (S : Nat → Nat → Int32) (p0 : Nat) (hj_p0 : p0 < 79) {q : (Nat → Nat → Int32)} (hm : M_X7_take k S p0 = some q) : CV E l yX7_take cX7_take 2 none rm_X7_take [.ref (a 0), .ref (eS E p0)] (wTk E a S) (fun w' => w' = (wTk E a q)) :=
  CV.of 0 (by decide) (Nat.le_of_ble_eq_true rfl) (fun p e s m below meth c A C _ => r_weak (lSub_s (lSub_s lSub_e)) (N_X7_take_0 C a k p0 S q hj_p0 hm rfl))
-- ShardGuard$Tokens.takeNumber(II)I
theorem dX7_takeNumber_0 : decode cX7_takeNumber 0 = .ok (.aload_n 0, 1) := by decide +kernel
theorem dX7_takeNumber_1 : decode cX7_takeNumber 1 = .ok (.getfield 42, 3) := by decide +kernel
theorem dX7_takeNumber_4 : decode cX7_takeNumber 4 = .ok (.istore_n 3, 1) := by decide +kernel
theorem dX7_takeNumber_5 : decode cX7_takeNumber 5 = .ok (.aload_n 0, 1) := by decide +kernel
theorem dX7_takeNumber_6 : decode cX7_takeNumber 6 = .ok (.getfield 39, 3) := by decide +kernel
theorem dX7_takeNumber_9 : decode cX7_takeNumber 9 = .ok (.iconst 2, 1) := by decide +kernel
theorem dX7_takeNumber_10 : decode cX7_takeNumber 10 = .ok (.if_icmp .eq 11, 3) := by decide +kernel
theorem dX7_takeNumber_13 : decode cX7_takeNumber 13 = .ok (.aload_n 0, 1) := by decide +kernel
theorem dX7_takeNumber_14 : decode cX7_takeNumber 14 = .ok (.iconst 1, 1) := by decide +kernel
theorem dX7_takeNumber_15 : decode cX7_takeNumber 15 = .ok (.invokevirtual 73, 3) := by decide +kernel
theorem dX7_takeNumber_18 : decode cX7_takeNumber 18 = .ok (.goto 18, 3) := by decide +kernel
theorem dX7_takeNumber_21 : decode cX7_takeNumber 21 = .ok (.iload_n 3, 1) := by decide +kernel
theorem dX7_takeNumber_22 : decode cX7_takeNumber 22 = .ok (.iload_n 1, 1) := by decide +kernel
theorem dX7_takeNumber_23 : decode cX7_takeNumber 23 = .ok (.if_icmp .lt 8, 3) := by decide +kernel
theorem dX7_takeNumber_26 : decode cX7_takeNumber 26 = .ok (.iload_n 3, 1) := by decide +kernel
theorem dX7_takeNumber_27 : decode cX7_takeNumber 27 = .ok (.iload_n 2, 1) := by decide +kernel
theorem dX7_takeNumber_28 : decode cX7_takeNumber 28 = .ok (.if_icmp .le 8, 3) := by decide +kernel
theorem dX7_takeNumber_31 : decode cX7_takeNumber 31 = .ok (.aload_n 0, 1) := by decide +kernel
theorem dX7_takeNumber_32 : decode cX7_takeNumber 32 = .ok (.iconst 2, 1) := by decide +kernel
theorem dX7_takeNumber_33 : decode cX7_takeNumber 33 = .ok (.invokevirtual 73, 3) := by decide +kernel
theorem dX7_takeNumber_36 : decode cX7_takeNumber 36 = .ok (.aload_n 0, 1) := by decide +kernel
theorem dX7_takeNumber_37 : decode cX7_takeNumber 37 = .ok (.invokevirtual 52, 3) := by decide +kernel
theorem dX7_takeNumber_40 : decode cX7_takeNumber 40 = .ok (.ifCond .ne 5, 3) := by decide +kernel
theorem dX7_takeNumber_43 : decode cX7_takeNumber 43 = .ok (.iconst (-1), 1) := by decide +kernel
theorem dX7_takeNumber_44 : decode cX7_takeNumber 44 = .ok (.ireturn, 1) := by decide +kernel
theorem dX7_takeNumber_45 : decode cX7_takeNumber 45 = .ok (.aload_n 0, 1) := by decide +kernel
theorem dX7_takeNumber_46 : decode cX7_takeNumber 46 = .ok (.invokevirtual 49, 3) := by decide +kernel
theorem dX7_takeNumber_49 : decode cX7_takeNumber 49 = .ok (.iload_n 3, 1) := by decide +kernel
theorem dX7_takeNumber_50 : decode cX7_takeNumber 50 = .ok (.ireturn, 1) := by decide +kernel
def rm_X7_takeNumber : Room := { frames := 2, cells := 0, slots := 0, locals := 42 }
def M_X7_takeNumber_36 (k : Nat) (x3 : Int32) (S : Nat → Nat → Int32) : Option (Int32 × (Nat → Nat → Int32)) := (M_X7_isGood k S).bind fun q1 => if q1 = 0 then (some ((-1 : Int32), S)) else ((M_X7_advance k S).bind fun q3 => some (x3, q3))
set_option maxRecDepth 100000 in
set_option maxHeartbeats 4000000 in
theorem N_X7_takeNumber_36 (C : CX E p l s m args meth c cX7_takeNumber 4 RX7 (some .int) A) (a : Nat → Nat) (k : Nat) {post : Int32 → va_W → Prop} :
    ∀ (x3 : Int32) (S : Nat → Nat → Int32) (q : Int32 × (Nat → Nat → Int32)), M_X7_takeNumber_36 k x3 S = some q → post q.1 (wTk E a q.2) →
      WW E p l e rm_X7_takeNumber s m args below meth c A 0 0 (QI E below post args s rm_X7_takeNumber A) (wTk E a S) 4 [some (.ref (a 0)), none, none, some (.int x3)] 36 [] := by
  intro x3 S q  h hq
  unfold M_X7_takeNumber_36 at h
  refine r_aload_n (pc := 36) C (i := 0) dX7_takeNumber_36 rfl rfl ?_
  obtain ⟨q1, hq1, h⟩ := bnd h
  refine r_callVp_CI (Cn := RX7) (pc := 37) C [] (c_X7_isGood E l k a S hq1) [0, 1, 2] rfl (by decide) 0 rfl rfl rfl g_X7_52 hd_X7_isGood ⟨Nat.le_of_ble_eq_true rfl, Nat.le_of_ble_eq_true rfl⟩ ⟨Nat.zero_le _, Nat.zero_le _⟩ (Nat.le_of_ble_eq_true rfl) rfl dX7_takeNumber_37 (fun r hr => ?_)
  have hr := hr.symm
  subst hr
  refine r_if_ne (pc := 40) C (tgt := 45) dX7_takeNumber_40 rfl (fun c2 => ?_) (fun c2 => ?_)
  · rw [if_neg c2] at h
    refine r_aload_n (pc := 45) C (i := 0) dX7_takeNumber_45 rfl rfl ?_
    obtain ⟨q3, hq3, h⟩ := bnd h
    refine r_callV_CV (Cn := RX7) (pc := 46) C [] (c_X7_advance E l k a S hq3) [0, 1, 2] rfl (by decide) 0 rfl rfl rfl g_X7_49 hd_X7_advance ⟨Nat.le_of_ble_eq_true rfl, Nat.le_of_ble_eq_true rfl⟩ ⟨Nat.zero_le _, Nat.zero_le _⟩ (Nat.le_of_ble_eq_true rfl) rfl dX7_takeNumber_46 (fun w1 hw1 => ?_)
    subst hw1
    refine ⟨(wTk E a q3), by rfl, ?_⟩
    refine r_iload_n (pc := 49) C (i := 3) dX7_takeNumber_49 rfl rfl ?_
    cases h
    exact r_ireti (pc := 50) C hq (Nat.zero_le _) (Nat.zero_le _) dX7_takeNumber_50
  · rw [if_pos c2] at h
    refine r_iconst (pc := 43) C (v := (-1)) dX7_takeNumber_43 (by decide) ?_
    have h := Option.some.inj h
    subst h
    exact r_ireti (pc := 44) C hq (Nat.zero_le _) (Nat.zero_le _) dX7_takeNumber_44
def M_X7_takeNumber_0 (k : Nat) (p0 : Int32) (p1 : Int32) (S : Nat → Nat → Int32) : Option (Int32 × (Nat → Nat → Int32)) := lt (S 0 7) fun v4 => if (S 0 6) = (2 : Int32) then (if v4 < p0 then ((M_X7_fail k S (2 : Int32)).bind fun q7 => M_X7_takeNumber_36 k v4 q7) else (if v4 ≤ p1 then (M_X7_takeNumber_36 k v4 S) else ((M_X7_fail k S (2 : Int32)).bind fun q9 => M_X7_takeNumber_36 k v4 q9))) else ((M_X7_fail k S (1 : Int32)).bind fun q10 => M_X7_takeNumber_36 k v4 q10)
set_option maxRecDepth 100000 in
set_option maxHeartbeats 4000000 in
theorem N_X7_takeNumber_0 (C : CX E p l s m args meth c cX7_takeNumber 4 RX7 (some .int) A) (a : Nat → Nat) (k : Nat) {post : Int32 → va_W → Prop} :
    ∀ (p0 : Int32) (p1 : Int32) (S : Nat → Nat → Int32) (q : Int32 × (Nat → Nat → Int32)), M_X7_takeNumber_0 k p0 p1 S = some q → post q.1 (wTk E a q.2) →
      WW E p l e rm_X7_takeNumber s m args below meth c A 0 0 (QI E below post args s rm_X7_takeNumber A) (wTk E a S) 4 [some (.ref (a 0)), some (.int p0), some (.int p1), none] 0 [] := by
  intro p0 p1 S q  h hq
  unfold M_X7_takeNumber_0 at h
  refine r_aload_n (pc := 0) C (i := 0) dX7_takeNumber_0 rfl rfl ?_
  refine r_get (pc := 1) C gwX7 0 rfl rfl 8 (by decide) wm_1_188 rfl dX7_takeNumber_1 ?_
  obtain ⟨v4, hv4, h⟩ := lt_e h
  refine r_topi hv4 ?_
  refine r_istore_n (pc := 4) C (i := 3) dX7_takeNumber_4 rfl (by decide) rfl ?_
  refine r_aload_n (pc := 5) C (i := 0) dX7_takeNumber_5 rfl rfl ?_
  refine r_get (pc := 6) C gwX7 0 rfl rfl 7 (by decide) wm_1_187 rfl dX7_takeNumber_6 ?_
  refine r_iconst (pc := 9) C (v := 2) dX7_takeNumber_9 (by decide) ?_
  refine r_icmp_eq (pc := 10) C (tgt := 21) dX7_takeNumber_10 rfl (fun c5 => ?_) (fun c5 => ?_)
  · rw [if_pos c5] at h
    refine r_iload_n (pc := 21) C (i := 3) dX7_takeNumber_21 rfl rfl ?_
    refine r_iload_n (pc := 22) C (i := 1) dX7_takeNumber_22 rfl rfl ?_
    refine r_icmp_lt (pc := 23) C (tgt := 31) dX7_takeNumber_23 rfl (fun c6 => ?_) (fun c6 => ?_)
    · rw [if_pos c6] at h
      refine r_aload_n (pc := 31) C (i := 0) dX7_takeNumber_31 rfl rfl ?_
      refine r_iconst (pc := 32) C (v := 2) dX7_takeNumber_32 (by decide) ?_
      obtain ⟨q7, hq7, h⟩ := bnd h
      refine r_callV_CV (Cn := RX7) (pc := 33) C [.int (2 : Int32)] (c_X7_fail E l k a S (2 : Int32) hq7) [0, 1, 2] rfl (by decide) 0 rfl rfl rfl g_X7_73 hd_X7_fail ⟨Nat.le_of_ble_eq_true rfl, Nat.le_of_ble_eq_true rfl⟩ ⟨Nat.zero_le _, Nat.zero_le _⟩ (Nat.le_of_ble_eq_true rfl) rfl dX7_takeNumber_33 (fun w1 hw1 => ?_)
      subst hw1
      refine ⟨(wTk E a q7), by rfl, ?_⟩
      refine r_weak (lSub_s (lSub_n (lSub_n (lSub_s lSub_e)))) ?_
      exact N_X7_takeNumber_36 C a k v4 q7 q  h hq
    · rw [if_neg c6] at h
      refine r_iload_n (pc := 26) C (i := 3) dX7_takeNumber_26 rfl rfl ?_
      refine r_iload_n (pc := 27) C (i := 2) dX7_takeNumber_27 rfl rfl ?_
      refine r_icmp_le (pc := 28) C (tgt := 36) dX7_takeNumber_28 rfl (fun c8 => ?_) (fun c8 => ?_)
      · rw [if_pos c8] at h
        refine r_weak (lSub_s (lSub_n (lSub_n (lSub_s lSub_e)))) ?_
        exact N_X7_takeNumber_36 C a k v4 S q  h hq
      · rw [if_neg c8] at h
        refine r_aload_n (pc := 31) C (i := 0) dX7_takeNumber_31 rfl rfl ?_
        refine r_iconst (pc := 32) C (v := 2) dX7_takeNumber_32 (by decide) ?_
        obtain ⟨q9, hq9, h⟩ := bnd h
        refine r_callV_CV (Cn := RX7) (pc := 33) C [.int (2 : Int32)] (c_X7_fail E l k a S (2 : Int32) hq9) [0, 1, 2] rfl (by decide) 0 rfl rfl rfl g_X7_73 hd_X7_fail ⟨Nat.le_of_ble_eq_true rfl, Nat.le_of_ble_eq_true rfl⟩ ⟨Nat.zero_le _, Nat.zero_le _⟩ (Nat.le_of_ble_eq_true rfl) rfl dX7_takeNumber_33 (fun w1 hw1 => ?_)
        subst hw1
        refine ⟨(wTk E a q9), by rfl, ?_⟩
        refine r_weak (lSub_s (lSub_n (lSub_n (lSub_s lSub_e)))) ?_
        exact N_X7_takeNumber_36 C a k v4 q9 q  h hq
  · rw [if_neg c5] at h
    refine r_aload_n (pc := 13) C (i := 0) dX7_takeNumber_13 rfl rfl ?_
    refine r_iconst (pc := 14) C (v := 1) dX7_takeNumber_14 (by decide) ?_
    obtain ⟨q10, hq10, h⟩ := bnd h
    refine r_callV_CV (Cn := RX7) (pc := 15) C [.int (1 : Int32)] (c_X7_fail E l k a S (1 : Int32) hq10) [0, 1, 2] rfl (by decide) 0 rfl rfl rfl g_X7_73 hd_X7_fail ⟨Nat.le_of_ble_eq_true rfl, Nat.le_of_ble_eq_true rfl⟩ ⟨Nat.zero_le _, Nat.zero_le _⟩ (Nat.le_of_ble_eq_true rfl) rfl dX7_takeNumber_15 (fun w1 hw1 => ?_)
    subst hw1
    refine ⟨(wTk E a q10), by rfl, ?_⟩
    refine r_goto (pc := 18) C (tgt := 36) dX7_takeNumber_18 rfl ?_
    refine r_weak (lSub_s (lSub_n (lSub_n (lSub_s lSub_e)))) ?_
    exact N_X7_takeNumber_36 C a k v4 q10 q  h hq
def M_X7_takeNumber (k : Nat) (S : Nat → Nat → Int32) (p0 : Int32) (p1 : Int32) : Option (Int32 × (Nat → Nat → Int32)) := M_X7_takeNumber_0 k p0 p1 S
set_option maxRecDepth 100000 in
set_option maxHeartbeats 4000000 in
theorem c_X7_takeNumber (E : ENV) (l : Launch) (k : Nat) (a : Nat → Nat) (S : Nat → Nat → Int32) (p0 : Int32) (p1 : Int32) {q : Int32 × (Nat → Nat → Int32)} (hm : M_X7_takeNumber k S p0 p1 = some q) : CI E l yX7_takeNumber cX7_takeNumber 4 (some .int) rm_X7_takeNumber [.ref (a 0), .int p0, .int p1] (wTk E a S) (fun r w' => r = q.1 ∧ w' = (wTk E a q.2)) :=
  CI.of 1 (by decide) (Nat.le_of_ble_eq_true rfl) (fun p e s m below meth c A C _ => r_weak (lSub_s (lSub_s (lSub_s (lSub_n lSub_e)))) (N_X7_takeNumber_0 C a k p0 p1 S q  hm ⟨rfl, rfl⟩))
end WALKS
