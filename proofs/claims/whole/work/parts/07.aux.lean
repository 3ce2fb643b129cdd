-- ===== words of the classes whose objects the worlds hold =====
theorem gwX0 : ∀ x ∈ u_ws RX0 TX0 13, x ∈ GW := by
  show ∀ x ∈ [Cond.lays "ShardGuard$Fleet" "ShardGuard$Fleet" "workers" "I", Cond.lays "ShardGuard$Fleet" "ShardGuard$Fleet" "shardSize" "I", Cond.lays "ShardGuard$Fleet" "ShardGuard$Fleet" "tenants" "I", Cond.lays "ShardGuard$Fleet" "ShardGuard$Fleet" "requests" "I", Cond.lays "ShardGuard$Fleet" "ShardGuard$Fleet" "time" "I", Cond.lays "ShardGuard$Fleet" "ShardGuard$Fleet" "upMask" "I", Cond.laysFinal "ShardGuard$Fleet" "ShardGuard$Fleet" "settings" "LShardGuard$Row;", Cond.laysFinal "ShardGuard$Fleet" "ShardGuard$Fleet" "startTimes" "LShardGuard$Row;", Cond.laysFinal "ShardGuard$Fleet" "ShardGuard$Fleet" "tenantTable" "LShardGuard$Table;", Cond.laysFinal "ShardGuard$Fleet" "ShardGuard$Fleet" "requestTable" "LShardGuard$Table;", Cond.laysFinal "ShardGuard$Fleet" "ShardGuard$Fleet" "kills" "LShardGuard$KillLog;", Cond.laysFinal "ShardGuard$Fleet" "ShardGuard$Fleet" "line" "LShardGuard$Row;", Cond.lays "ShardGuard$Fleet" "ShardGuard$Fleet" "waiting" "I"], x ∈ GW
  exact List.forall_mem_cons.mpr ⟨wm_1_123, List.forall_mem_cons.mpr ⟨wm_1_125, List.forall_mem_cons.mpr ⟨wm_1_127, List.forall_mem_cons.mpr ⟨wm_1_129, List.forall_mem_cons.mpr ⟨wm_1_131, List.forall_mem_cons.mpr ⟨wm_1_133, List.forall_mem_cons.mpr ⟨wm_1_135, List.forall_mem_cons.mpr ⟨wm_1_137, List.forall_mem_cons.mpr ⟨wm_1_139, List.forall_mem_cons.mpr ⟨wm_1_141, List.forall_mem_cons.mpr ⟨wm_1_143, List.forall_mem_cons.mpr ⟨wm_1_145, List.forall_mem_cons.mpr ⟨wm_1_147, fun _ h => absurd h List.not_mem_nil⟩⟩⟩⟩⟩⟩⟩⟩⟩⟩⟩⟩⟩
theorem gwX2 : ∀ x ∈ u_ws RX2 TX2 3, x ∈ GW := by
  show ∀ x ∈ [Cond.lays "ShardGuard$History" "ShardGuard$History" "count" "I", Cond.lays "ShardGuard$History" "ShardGuard$History" "next" "I", Cond.laysFinal "ShardGuard$History" "ShardGuard$History" "kept" "[LShardGuard$Fleet;"], x ∈ GW
  exact List.forall_mem_cons.mpr ⟨wm_1_162, List.forall_mem_cons.mpr ⟨wm_1_164, List.forall_mem_cons.mpr ⟨wm_1_166, fun _ h => absurd h List.not_mem_nil⟩⟩⟩
theorem gwX3 : ∀ x ∈ u_ws RX3 TX3 4, x ∈ GW := by
  show ∀ x ∈ [Cond.lays "ShardGuard$KillLog" "ShardGuard$KillLog" "count" "I", Cond.laysFinal "ShardGuard$KillLog" "ShardGuard$KillLog" "times" "LShardGuard$Row;", Cond.laysFinal "ShardGuard$KillLog" "ShardGuard$KillLog" "tenants" "LShardGuard$Row;", Cond.laysFinal "ShardGuard$KillLog" "ShardGuard$KillLog" "pairs" "LShardGuard$Table;"], x ∈ GW
  exact List.forall_mem_cons.mpr ⟨wm_1_83, List.forall_mem_cons.mpr ⟨wm_1_85, List.forall_mem_cons.mpr ⟨wm_1_87, List.forall_mem_cons.mpr ⟨wm_1_89, fun _ h => absurd h List.not_mem_nil⟩⟩⟩⟩
theorem gwX5 : ∀ x ∈ u_ws RX5 TX5 1, x ∈ GW := by
  show ∀ x ∈ [Cond.laysFinal "ShardGuard$Row" "ShardGuard$Row" "cells" "[I"], x ∈ GW
  exact List.forall_mem_cons.mpr ⟨wm_1_47, fun _ h => absurd h List.not_mem_nil⟩
theorem gwX6 : ∀ x ∈ u_ws RX6 TX6 3, x ∈ GW := by
  show ∀ x ∈ [Cond.laysFinal "ShardGuard$Table" "ShardGuard$Table" "rows" "I", Cond.laysFinal "ShardGuard$Table" "ShardGuard$Table" "columns" "I", Cond.laysFinal "ShardGuard$Table" "ShardGuard$Table" "cells" "[I"], x ∈ GW
  exact List.forall_mem_cons.mpr ⟨wm_1_60, List.forall_mem_cons.mpr ⟨wm_1_62, List.forall_mem_cons.mpr ⟨wm_1_64, fun _ h => absurd h List.not_mem_nil⟩⟩⟩
theorem gwX7 : ∀ x ∈ u_ws RX7 TX7 9, x ∈ GW := by
  show ∀ x ∈ [Cond.lays "ShardGuard$Tokens" "ShardGuard$Tokens" "filled" "I", Cond.lays "ShardGuard$Tokens" "ShardGuard$Tokens" "errorCode" "I", Cond.lays "ShardGuard$Tokens" "ShardGuard$Tokens" "errorPlace" "I", Cond.laysFinal "ShardGuard$Tokens" "ShardGuard$Tokens" "bytes" "LShardGuard$Row;", Cond.lays "ShardGuard$Tokens" "ShardGuard$Tokens" "length" "I", Cond.lays "ShardGuard$Tokens" "ShardGuard$Tokens" "start" "I", Cond.lays "ShardGuard$Tokens" "ShardGuard$Tokens" "end" "I", Cond.lays "ShardGuard$Tokens" "ShardGuard$Tokens" "kind" "I", Cond.lays "ShardGuard$Tokens" "ShardGuard$Tokens" "number" "I"], x ∈ GW
  exact List.forall_mem_cons.mpr ⟨wm_1_189, List.forall_mem_cons.mpr ⟨wm_1_191, List.forall_mem_cons.mpr ⟨wm_1_193, List.forall_mem_cons.mpr ⟨wm_1_195, List.forall_mem_cons.mpr ⟨wm_1_197, List.forall_mem_cons.mpr ⟨wm_1_199, List.forall_mem_cons.mpr ⟨wm_1_201, List.forall_mem_cons.mpr ⟨wm_1_203, List.forall_mem_cons.mpr ⟨wm_1_205, fun _ h => absurd h List.not_mem_nil⟩⟩⟩⟩⟩⟩⟩⟩⟩
theorem gwX8 : ∀ x ∈ u_ws RX8 TX8 2, x ∈ GW := by
  show ∀ x ∈ [Cond.lays "ShardGuard$WorkerText" "ShardGuard$WorkerText" "length" "I", Cond.laysFinal "ShardGuard$WorkerText" "ShardGuard$WorkerText" "bytes" "LShardGuard$Row;"], x ∈ GW
  exact List.forall_mem_cons.mpr ⟨wm_1_220, List.forall_mem_cons.mpr ⟨wm_1_222, fun _ h => absurd h List.not_mem_nil⟩⟩
theorem gwX9 : ∀ x ∈ u_ws RX9 TX9 7, x ∈ GW := by
  show ∀ x ∈ [Cond.laysFinal "ShardGuard" "ShardGuard" "fleet" "LShardGuard$Fleet;", Cond.laysFinal "ShardGuard" "ShardGuard" "draft" "LShardGuard$Fleet;", Cond.laysFinal "ShardGuard" "ShardGuard" "snapshot" "LShardGuard$Fleet;", Cond.lays "ShardGuard" "ShardGuard" "hasSnapshot" "Z", Cond.laysFinal "ShardGuard" "ShardGuard" "history" "LShardGuard$History;", Cond.laysFinal "ShardGuard" "ShardGuard" "tokens" "LShardGuard$Tokens;", Cond.laysFinal "ShardGuard" "ShardGuard" "formatted" "LShardGuard$WorkerText;"], x ∈ GW
  exact List.forall_mem_cons.mpr ⟨wm_2_22, List.forall_mem_cons.mpr ⟨wm_2_24, List.forall_mem_cons.mpr ⟨wm_2_26, List.forall_mem_cons.mpr ⟨wm_2_28, List.forall_mem_cons.mpr ⟨wm_2_30, List.forall_mem_cons.mpr ⟨wm_2_32, List.forall_mem_cons.mpr ⟨wm_2_34, fun _ h => absurd h List.not_mem_nil⟩⟩⟩⟩⟩⟩⟩
theorem gwX10 : ∀ x ∈ u_ws RX10 TX10 28, x ∈ GW := by
  show ∀ x ∈ [Cond.laysFinal "ShardGuardModel" "ShardGuardModel" "now" "[I", Cond.laysFinal "ShardGuardModel" "ShardGuardModel" "draft" "[I", Cond.laysFinal "ShardGuardModel" "ShardGuardModel" "aside" "[I", Cond.laysFinal "ShardGuardModel" "ShardGuardModel" "snapshot" "[I", Cond.laysFinal "ShardGuardModel" "ShardGuardModel" "history" "[I", Cond.lays "ShardGuardModel" "ShardGuardModel" "undoCount" "I", Cond.lays "ShardGuardModel" "ShardGuardModel" "thrown" "I", Cond.lays "ShardGuardModel" "ShardGuardModel" "hasSnapshot" "Z", Cond.lays "ShardGuardModel" "ShardGuardModel" "guard" "[I", Cond.laysFinal "ShardGuardModel" "ShardGuardModel" "killedBy" "[I", Cond.lays "ShardGuardModel" "ShardGuardModel" "harmed" "I", Cond.laysFinal "ShardGuardModel" "ShardGuardModel" "formatted" "[I", Cond.lays "ShardGuardModel" "ShardGuardModel" "formattedLength" "I", Cond.laysFinal "ShardGuardModel" "ShardGuardModel" "buffer" "[I", Cond.lays "ShardGuardModel" "ShardGuardModel" "bufferLength" "I", Cond.lays "ShardGuardModel" "ShardGuardModel" "limit" "I", Cond.lays "ShardGuardModel" "ShardGuardModel" "next" "I", Cond.lays "ShardGuardModel" "ShardGuardModel" "beginsAt" "I", Cond.lays "ShardGuardModel" "ShardGuardModel" "token" "I", Cond.lays "ShardGuardModel" "ShardGuardModel" "error" "I", Cond.lays "ShardGuardModel" "ShardGuardModel" "errorAt" "I", Cond.lays "ShardGuardModel" "ShardGuardModel" "errorPosition" "I", Cond.lays "ShardGuardModel" "ShardGuardModel" "nested" "I", Cond.laysFinal "ShardGuardModel" "ShardGuardModel" "settingNames" "[Ljava/lang/String;", Cond.laysFinal "ShardGuardModel" "ShardGuardModel" "names" "[Ljava/lang/String;", Cond.laysFinal "ShardGuardModel" "ShardGuardModel" "codes" "[I", Cond.laysFinal "ShardGuardModel" "ShardGuardModel" "stack" "[J", Cond.lays "ShardGuardModel" "ShardGuardModel" "codeCount" "I"], x ∈ GW
  exact List.forall_mem_cons.mpr ⟨wm_5_234, List.forall_mem_cons.mpr ⟨wm_5_236, List.forall_mem_cons.mpr ⟨wm_5_238, List.forall_mem_cons.mpr ⟨wm_6_0, List.forall_mem_cons.mpr ⟨wm_6_2, List.forall_mem_cons.mpr ⟨wm_6_4, List.forall_mem_cons.mpr ⟨wm_6_6, List.forall_mem_cons.mpr ⟨wm_6_8, List.forall_mem_cons.mpr ⟨wm_6_10, List.forall_mem_cons.mpr ⟨wm_6_12, List.forall_mem_cons.mpr ⟨wm_6_14, List.forall_mem_cons.mpr ⟨wm_6_16, List.forall_mem_cons.mpr ⟨wm_6_18, List.forall_mem_cons.mpr ⟨wm_6_20, List.forall_mem_cons.mpr ⟨wm_6_22, List.forall_mem_cons.mpr ⟨wm_6_24, List.forall_mem_cons.mpr ⟨wm_6_26, List.forall_mem_cons.mpr ⟨wm_6_28, List.forall_mem_cons.mpr ⟨wm_6_30, List.forall_mem_cons.mpr ⟨wm_6_32, List.forall_mem_cons.mpr ⟨wm_6_34, List.forall_mem_cons.mpr ⟨wm_6_36, List.forall_mem_cons.mpr ⟨wm_6_38, List.forall_mem_cons.mpr ⟨wm_6_40, List.forall_mem_cons.mpr ⟨wm_6_42, List.forall_mem_cons.mpr ⟨wm_6_44, List.forall_mem_cons.mpr ⟨wm_6_46, List.forall_mem_cons.mpr ⟨wm_6_48, fun _ h => absurd h List.not_mem_nil⟩⟩⟩⟩⟩⟩⟩⟩⟩⟩⟩⟩⟩⟩⟩⟩⟩⟩⟩⟩⟩⟩⟩⟩⟩⟩⟩⟩
-- ===== small helps of the mirrors =====
def lt {α β : Type} (x : α) (f : α → Option β) : Option β := f x
theorem lt_e {α β : Type} {x : α} {f : α → Option β} {r : β} (h : lt x f = some r) : ∃ y, y = x ∧ f y = some r := ⟨x, rfl, h⟩
theorem bnd {α β : Type} {x : Option α} {f : α → Option β} {r : β} (h : x.bind f = some r) : ∃ q, x = some q ∧ f q = some r := Option.bind_eq_some_iff.mp h
theorem ifn {α : Type} {c : Prop} [Decidable c] {x : Option α} {r : α} (h : (if c then x else none) = some r) : c ∧ x = some r := by
  by_cases hc : c
  · rw [if_pos hc] at h; exact ⟨hc, h⟩
  · rw [if_neg hc] at h; cases h
theorem ifz {α : Type} {c : Prop} [Decidable c] {x : Option α} {r : α} (h : (if c then none else x) = some r) : ¬ c ∧ x = some r := by
  by_cases hc : c
  · rw [if_pos hc] at h; cases h
  · rw [if_neg hc] at h; exact ⟨hc, h⟩
def cpOK (sp dp n : Int32) (n0 n1 : Nat) : Bool := !decide (sp < 0) && !decide (dp < 0) && !decide (n < 0) && decide (sp.toNatClampNeg + n.toNatClampNeg ≤ n0) && decide (dp.toNatClampNeg + n.toNatClampNeg ≤ n1)
theorem cpOK_e {sp dp n : Int32} {n0 n1 : Nat} (h : cpOK sp dp n n0 n1 = true) : (¬ sp < 0) ∧ (¬ dp < 0) ∧ (¬ n < 0) ∧ sp.toNatClampNeg + n.toNatClampNeg ≤ n0 ∧ dp.toNatClampNeg + n.toNatClampNeg ≤ n1 := by
  simp only [cpOK, Bool.and_eq_true, Bool.not_eq_true', decide_eq_false_iff_not, decide_eq_true_eq] at h
  exact ⟨h.1.1.1.1, h.1.1.1.2, h.1.1.2, h.1.2, h.2⟩
def lSub (L' L : List (Option Value)) : Prop := ∀ (i : Nat) (v : Value), L'[i]? = some (some v) → L[i]? = some (some v)
theorem lSub_e {L : List (Option Value)} : lSub [] L := fun i v h => by simp at h
theorem lSub_n {o : Option Value} {L' L : List (Option Value)} (h : lSub L' L) : lSub (none :: L') (o :: L) := fun i v hi => by
  cases i with
  | zero => simp at hi
  | succ i => simpa using h i v (by simpa using hi)
theorem lSub_s {o : Value} {L' L : List (Option Value)} (h : lSub L' L) : lSub (some o :: L') (some o :: L) := fun i v hi => by
  cases i with
  | zero => simpa using hi
  | succ i => simpa using h i v (by simpa using hi)
theorem lH.weak {ls : Array Slot} {nL : Nat} {L L' : List (Option Value)} (hs : lSub L' L) (h : lH ls nL L) : lH ls nL L' := by
  obtain ⟨lv, h1, h2⟩ := h
  exact ⟨lv, h1, fun i v hi => h2 i v (hs i v hi)⟩
theorem putW_self : ∀ (ps : List Nat) (w wc : va_W), ps.map (fun i => w[i]?) = wc.map some → putW w ps wc = some w := by
  intro ps
  induction ps with
  | nil =>
    intro w wc h
    cases wc with
    | nil => simp [putW]
    | cons x xs => simp at h
  | cons p ps ih =>
    intro w wc h
    cases wc with
    | nil => simp at h
    | cons x xs =>
      simp only [List.map_cons, List.cons.injEq] at h
      have h1 : w.set p x = w := by
        obtain ⟨hl, he⟩ := List.getElem?_eq_some_iff.mp h.1
        rw [← he, List.set_getElem_self]
      simp only [putW]
      rw [h1]
      exact ih w xs h.2
section WROWS2
variable {E : ENV} {p : Program} {l : Launch} {e : Env} {R : Room} {s : State} {m : MethodId} {args : Array Value} {below : List Frame} {meth : Method} {c : Code} {cc : ByteArray} {nL : Nat} {own : String} {ret : Option FieldType} {A : Nat → Prop} {cells slots : Nat} {Q : State → Prop} {w : va_W} {L : List (Option Value)} {pc : Nat} {st : List Value}
theorem r_weak {L' : List (Option Value)} (hs : lSub L' L) (k : WW E p l e R s m args below meth c A cells slots Q w nL L' pc st) : WW E p l e R s m args below meth c A cells slots Q w nL L pc st := fun H locs ls hP hD hS hl => k H locs ls hP hD hS (hl.weak hs)
theorem r_topi {x y : Int32} (h : y = x) (k : WW E p l e R s m args below meth c A cells slots Q w nL L pc (.int y :: st)) : WW E p l e R s m args below meth c A cells slots Q w nL L pc (.int x :: st) := h ▸ k
theorem r_topl {x y : Int64} (h : y = x) (k : WW E p l e R s m args below meth c A cells slots Q w nL L pc (.long y :: st)) : WW E p l e R s m args below meth c A cells slots Q w nL L pc (.long x :: st) := h ▸ k
theorem r_callVp_CI (C : CX E p l s m args meth c cc nL own ret A) {y : MethodName} {cy : ByteArray} {mL index : Nat} {ry : Option FieldType} {rm : Room} {b : Nat} {Cn : String} {wc : va_W} {φ : Int32 → Prop} (As : List Value) (hM : CI E l y cy mL ry rm (.ref b :: As) wc (fun r w9 => φ r ∧ w9 = wc)) (ps : List Nat) (hps : ps.map (fun i => w[i]?) = wc.map some) (hnd : ps.Nodup) (i0 : Nat) {ci : Nat} {fs : List Value} {q9 : vw_C} (hr : wc[i0]? = some (b, .inr (ci, fs))) (hc9 : vwCl[ci]? = some q9) (hq9 : q9.1 = Cn) (hg : GoodIn GW (wsV own index Cn y (wsG y cy mL ry))) (hd : y.cls = Cn ∧ y.cls ≠ "java/lang/invoke/MethodHandle" ∧ y.cls ≠ "java/lang/invoke/VarHandle" ∧ (parseMethodDescriptor y.desc).map (fun d => d.parameters.length) = some As.length) (hR : rm.frames + 1 ≤ R.frames ∧ 8 + (mL + 11) + rm.locals ≤ R.locals) (hf : cells + rm.cells ≤ R.cells ∧ slots + rm.slots ≤ R.slots) (hst : (st.map fun v => v.category).sum ≤ 8) {st0 : List Value} (hst0 : st0 = As.reverse ++ .ref b :: st) (d : decode cc pc = .ok (.invokevirtual index, 3)) (k : ∀ r : Int32, φ r → WW E p l e R s m args below meth c A (cells + rm.cells) (slots + rm.slots) Q w nL L (pc + 3) (.int r :: st)) : WW E p l e R s m args below meth c A cells slots Q w nL L pc st0 :=
  r_callV_CI C As hM ps hps hnd i0 hr hc9 hq9 hg hd hR hf hst hst0 d (fun r w1 hq => ⟨w, by rw [hq.2]; exact putW_self ps w wc hps, k r hq.1⟩)
theorem r_callVp_CL (C : CX E p l s m args meth c cc nL own ret A) {y : MethodName} {cy : ByteArray} {mL index : Nat} {ry : Option FieldType} {rm : Room} {b : Nat} {Cn : String} {wc : va_W} {φ : Int64 → Prop} (As : List Value) (hM : CL E l y cy mL ry rm (.ref b :: As) wc (fun r w9 => φ r ∧ w9 = wc)) (ps : List Nat) (hps : ps.map (fun i => w[i]?) = wc.map some) (hnd : ps.Nodup) (i0 : Nat) {ci : Nat} {fs : List Value} {q9 : vw_C} (hr : wc[i0]? = some (b, .inr (ci, fs))) (hc9 : vwCl[ci]? = some q9) (hq9 : q9.1 = Cn) (hg : GoodIn GW (wsV own index Cn y (wsG y cy mL ry))) (hd : y.cls = Cn ∧ y.cls ≠ "java/lang/invoke/MethodHandle" ∧ y.cls ≠ "java/lang/invoke/VarHandle" ∧ (parseMethodDescriptor y.desc).map (fun d => d.parameters.length) = some As.length) (hR : rm.frames + 1 ≤ R.frames ∧ 8 + (mL + 11) + rm.locals ≤ R.locals) (hf : cells + rm.cells ≤ R.cells ∧ slots + rm.slots ≤ R.slots) (hst : (st.map fun v => v.category).sum ≤ 8) {st0 : List Value} (hst0 : st0 = As.reverse ++ .ref b :: st) (d : decode cc pc = .ok (.invokevirtual index, 3)) (k : ∀ r : Int64, φ r → WW E p l e R s m args below meth c A (cells + rm.cells) (slots + rm.slots) Q w nL L (pc + 3) (.long r :: st)) : WW E p l e R s m args below meth c A cells slots Q w nL L pc st0 :=
  r_callV_CL C As hM ps hps hnd i0 hr hc9 hq9 hg hd hR hf hst hst0 d (fun r w1 hq => ⟨w, by rw [hq.2]; exact putW_self ps w wc hps, k r hq.1⟩)
theorem r_callSp_CI (C : CX E p l s m args meth c cc nL own ret A) {y : MethodName} {cy : ByteArray} {mL index : Nat} {ry : Option FieldType} {rm : Room} {wc : va_W} {φ : Int32 → Prop} (As : List Value) (hM : CI E l y cy mL ry rm (As) wc (fun r w9 => φ r ∧ w9 = wc)) (ps : List Nat) (hps : ps.map (fun i => w[i]?) = wc.map some) (hnd : ps.Nodup) (hg : GoodIn GW (wsS own index y (wsG y cy mL ry))) (hd : y.cls = own ∧ y.cls ≠ "java/lang/invoke/MethodHandle" ∧ y.cls ≠ "java/lang/invoke/VarHandle" ∧ (parseMethodDescriptor y.desc).map (fun d => d.parameters.length) = some As.length) (hR : rm.frames + 1 ≤ R.frames ∧ 8 + (mL + 11) + rm.locals ≤ R.locals) (hf : cells + rm.cells ≤ R.cells ∧ slots + rm.slots ≤ R.slots) (hst : (st.map fun v => v.category).sum ≤ 8) {st0 : List Value} (hst0 : st0 = As.reverse ++ st) (d : decode cc pc = .ok (.invokestatic index, 3)) (k : ∀ r : Int32, φ r → WW E p l e R s m args below meth c A (cells + rm.cells) (slots + rm.slots) Q w nL L (pc + 3) (.int r :: st)) : WW E p l e R s m args below meth c A cells slots Q w nL L pc st0 :=
  r_callS_CI C As hM ps hps hnd hg hd hR hf hst hst0 d (fun r w1 hq => ⟨w, by rw [hq.2]; exact putW_self ps w wc hps, k r hq.1⟩)
theorem r_callSp_CL (C : CX E p l s m args meth c cc nL own ret A) {y : MethodName} {cy : ByteArray} {mL index : Nat} {ry : Option FieldType} {rm : Room} {wc : va_W} {φ : Int64 → Prop} (As : List Value) (hM : CL E l y cy mL ry rm (As) wc (fun r w9 => φ r ∧ w9 = wc)) (ps : List Nat) (hps : ps.map (fun i => w[i]?) = wc.map some) (hnd : ps.Nodup) (hg : GoodIn GW (wsS own index y (wsG y cy mL ry))) (hd : y.cls = own ∧ y.cls ≠ "java/lang/invoke/MethodHandle" ∧ y.cls ≠ "java/lang/invoke/VarHandle" ∧ (parseMethodDescriptor y.desc).map (fun d => d.parameters.length) = some As.length) (hR : rm.frames + 1 ≤ R.frames ∧ 8 + (mL + 11) + rm.locals ≤ R.locals) (hf : cells + rm.cells ≤ R.cells ∧ slots + rm.slots ≤ R.slots) (hst : (st.map fun v => v.category).sum ≤ 8) {st0 : List Value} (hst0 : st0 = As.reverse ++ st) (d : decode cc pc = .ok (.invokestatic index, 3)) (k : ∀ r : Int64, φ r → WW E p l e R s m args below meth c A (cells + rm.cells) (slots + rm.slots) Q w nL L (pc + 3) (.long r :: st)) : WW E p l e R s m args below meth c A cells slots Q w nL L pc st0 :=
  r_callS_CL C As hM ps hps hnd hg hd hR hf hst hst0 d (fun r w1 hq => ⟨w, by rw [hq.2]; exact putW_self ps w wc hps, k r hq.1⟩)
end WROWS2
