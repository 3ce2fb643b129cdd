-- ===== methods that throw: contracts, ends, calls; doubles and floats; a world with a tail =====
def excN (c : Int32) : String := if c = 1 then "java/util/NoSuchElementException" else "java/lang/IllegalArgumentException"
/-- words of the tables that no list of a method keeps: who declares the constructors; what no handler takes -/
def dclL : List MethodName := [Bundle.initS "java/lang/RuntimeException", Bundle.initS "java/lang/Exception", Bundle.initS "java/lang/Throwable"]
def DC (U : State) : Prop := (∀ x ∈ dclL, va_Nw (.declares x) U) ∧ va_Nc "java/lang/IllegalArgumentException" "java/util/NoSuchElementException" U
theorem DC.warm {s U : State} (hW : s.WarmedH U.vm) (h : DC s) : DC U := ⟨fun x hx => va_Nw.warmD hW (h.1 x hx), va_Nc.moved hW.alike h.2⟩
def Pre2 (E : ENV) (w : va_W) (sz : Nat) (U : State) : Prop := Pre E w sz U ∧ DC U
theorem Pre2.blind (E : ENV) (w : va_W) (sz : Nat) (av : List Value) : FrameBlind (va_Pc av (Pre2 E w sz)) := fun a U g mk q => by
  obtain ⟨q0, q1, q2⟩ := q
  obtain ⟨r0, r1⟩ := Pre.blind E w sz av a U g mk ⟨q0, q1⟩
  exact ⟨r0, r1, DC.warm (s := U) (U := U.calling g mk a) (State.WarmedH.refl U) q2⟩
def XX (E : ENV) (px : Int32 → va_W → Prop) (A : Nat → Prop) : String → State → State → Prop := vx_X (S := Int32 × va_W) (fun u => px u.1 u.2) (fun nm u t => nm = excN u.1 ∧ Bk E A u.2 t) A
def XI (E : ENV) (l : Launch) (y : MethodName) (cc : ByteArray) (mL : Nat) (ret : Option FieldType) (rm : Room) (args : List Value) (w : va_W) (post : Int32 → va_W → Prop) (px : Int32 → va_W → Prop) : Prop := ∀ sz, vx_Met l y (wsG y cc mL ret) rm (va_Pc args (Pre2 E w sz)) (va_Qi post (Bk E (va_A w sz)) (va_A w sz)) (XX E px (va_A w sz)) rm.cells rm.slots (va_A w sz)
def XV (E : ENV) (l : Launch) (y : MethodName) (cc : ByteArray) (mL : Nat) (ret : Option FieldType) (rm : Room) (args : List Value) (w : va_W) (post : va_W → Prop) (px : Int32 → va_W → Prop) : Prop := ∀ sz, vx_Met l y (wsG y cc mL ret) rm (va_Pc args (Pre2 E w sz)) (va_Qv post (Bk E (va_A w sz)) (va_A w sz)) (XX E px (va_A w sz)) rm.cells rm.slots (va_A w sz)
def QXI (E : ENV) (below : List Frame) (post : Int32 → va_W → Prop) (px : Int32 → va_W → Prop) (args : Array Value) (s : State) (rm : Room) (A : Nat → Prop) : State → Prop := vx_MQ below (va_Qi post (Bk E A) A) (XX E px A) args s rm.cells rm.slots A
def QXV (E : ENV) (below : List Frame) (post : va_W → Prop) (px : Int32 → va_W → Prop) (args : Array Value) (s : State) (rm : Room) (A : Nat → Prop) : State → Prop := vx_MQ below (va_Qv post (Bk E A) A) (XX E px A) args s rm.cells rm.slots A
/-- a result with a code: 0 returned, 1 or 2 thrown -/
def TI (post : Int32 → va_W → Prop) (px : Int32 → va_W → Prop) (c r : Int32) (w : va_W) : Prop := if c = 0 then post r w else px c w
def TV (post : va_W → Prop) (px : Int32 → va_W → Prop) (c : Int32) (w : va_W) : Prop := if c = 0 then post w else px c w
def CD (E : ENV) (l : Launch) (y : MethodName) (cc : ByteArray) (mL : Nat) (ret : Option FieldType) (rm : Room) (args : List Value) (w : va_W) (post : UInt64 → va_W → Prop) : Prop := ∀ sz, Met l y (wsG y cc mL ret) rm (va_Pc args (Pre E w sz)) (va_Qd post (Bk E (va_A w sz)) (va_A w sz)) rm.cells rm.slots (va_A w sz)
def CF (E : ENV) (l : Launch) (y : MethodName) (cc : ByteArray) (mL : Nat) (ret : Option FieldType) (rm : Room) (args : List Value) (w : va_W) (post : UInt32 → va_W → Prop) : Prop := ∀ sz, Met l y (wsG y cc mL ret) rm (va_Pc args (Pre E w sz)) (va_Qf post (Bk E (va_A w sz)) (va_A w sz)) rm.cells rm.slots (va_A w sz)
def QD (E : ENV) (below : List Frame) (post : UInt64 → va_W → Prop) (args : Array Value) (s : State) (rm : Room) (A : Nat → Prop) : State → Prop := MQ below (va_Qd post (Bk E A) A) args s rm.cells rm.slots A
def QF (E : ENV) (below : List Frame) (post : UInt32 → va_W → Prop) (args : Array Value) (s : State) (rm : Room) (A : Nat → Prop) : State → Prop := MQ below (va_Qf post (Bk E A) A) args s rm.cells rm.slots A
section WROWS5
variable {E : ENV} {p : Program} {l : Launch} {e : Env} {R : Room} {s : State} {m : MethodId} {args : Array Value} {below : List Frame} {meth : Method} {c : Code} {cc : ByteArray} {nL : Nat} {own : String} {ret : Option FieldType} {A : Nat → Prop} {cells slots : Nat} {Q : State → Prop} {w : va_W} {L : List (Option Value)} {pc : Nat} {st : List Value}
theorem CD.of {y : MethodName} {rm : Room} {av : List Value} {post : UInt64 → va_W → Prop} (k : Nat) (hy : plainName y.cls = true) (hn : (lg_sl av).length ≤ nL) (body : ∀ (p : Program) (e : Env) (s : State) (m : MethodId) (below : List Frame) (meth : Method) (c : Code) (A : Nat → Prop), CX E p l s m av.toArray meth c cc nL y.cls ret A → WW E p l e rm s m av.toArray below meth c A 0 0 (QD E below post av.toArray s rm A) w nL (lPad av k) 0 []) : CD E l y cc nL ret rm av w post := by
  intro sz
  refine Met.ofW (cc := cc) (maxL := nL) (ret := ret) hy rfl ?_
  intro p e s m args below meth c s₁ B hml hv
  obtain ⟨rfl, hsz, hP, hK, hD0, hE⟩ := hv
  subst hsz
  have hts : ∀ x ∈ GW, x.before av.toArray s = true := fun x hx => atoms_spec (ws := wsG y cc nL ret) B.pre x (List.mem_cons_of_mem _ hx)
  have hown : s.vm.findClass y.cls = some m.cls := findClass_of_methodNamed B.named
  rw [lg_entry_eq]
  exact body p e s m below meth c _ ⟨B.exec, B.bytes, hml, hown, hts, hK, hE, fun q h => Or.inr h, B.notSynchronized, B.returns⟩ s.heap [] _ hP hD0.self va_S.rf (lH.entry av hn)
theorem CF.of {y : MethodName} {rm : Room} {av : List Value} {post : UInt32 → va_W → Prop} (k : Nat) (hy : plainName y.cls = true) (hn : (lg_sl av).length ≤ nL) (body : ∀ (p : Program) (e : Env) (s : State) (m : MethodId) (below : List Frame) (meth : Method) (c : Code) (A : Nat → Prop), CX E p l s m av.toArray meth c cc nL y.cls ret A → WW E p l e rm s m av.toArray below meth c A 0 0 (QF E below post av.toArray s rm A) w nL (lPad av k) 0 []) : CF E l y cc nL ret rm av w post := by
  intro sz
  refine Met.ofW (cc := cc) (maxL := nL) (ret := ret) hy rfl ?_
  intro p e s m args below meth c s₁ B hml hv
  obtain ⟨rfl, hsz, hP, hK, hD0, hE⟩ := hv
  subst hsz
  have hts : ∀ x ∈ GW, x.before av.toArray s = true := fun x hx => atoms_spec (ws := wsG y cc nL ret) B.pre x (List.mem_cons_of_mem _ hx)
  have hown : s.vm.findClass y.cls = some m.cls := findClass_of_methodNamed B.named
  rw [lg_entry_eq]
  exact body p e s m below meth c _ ⟨B.exec, B.bytes, hml, hown, hts, hK, hE, fun q h => Or.inr h, B.notSynchronized, B.returns⟩ s.heap [] _ hP hD0.self va_S.rf (lH.entry av hn)
theorem XI.of {y : MethodName} {rm : Room} {av : List Value} {post : Int32 → va_W → Prop} {px : Int32 → va_W → Prop} (k : Nat) (hy : plainName y.cls = true) (hn : (lg_sl av).length ≤ nL) (body : ∀ (p : Program) (e : Env) (s : State) (m : MethodId) (below : List Frame) (meth : Method) (c : Code) (A : Nat → Prop), CX E p l s m av.toArray meth c cc nL y.cls ret A → (∀ x ∈ c.exceptionTable.toList, False) → DC s → WW E p l e rm s m av.toArray below meth c A 0 0 (QXI E below post px av.toArray s rm A) w nL (lPad av k) 0 []) : XI E l y cc nL ret rm av w post px := by
  intro sz
  refine vx_ofW (cc := cc) (maxL := nL) (ret := ret) hy rfl ?_
  intro p e s m args below meth c s₁ B hml hno hv
  obtain ⟨rfl, ⟨hsz, hP, hK, hD0, hE⟩, hdc⟩ := hv
  subst hsz
  have hts : ∀ x ∈ GW, x.before av.toArray s = true := fun x hx => atoms_spec (ws := wsG y cc nL ret) B.pre x (List.mem_cons_of_mem _ hx)
  have hown : s.vm.findClass y.cls = some m.cls := findClass_of_methodNamed B.named
  rw [lg_entry_eq]
  exact body p e s m below meth c _ ⟨B.exec, B.bytes, hml, hown, hts, hK, hE, fun q h => Or.inr h, B.notSynchronized, B.returns⟩ hno hdc s.heap [] _ hP hD0.self va_S.rf (lH.entry av hn)
theorem XV.of {y : MethodName} {rm : Room} {av : List Value} {post : va_W → Prop} {px : Int32 → va_W → Prop} (k : Nat) (hy : plainName y.cls = true) (hn : (lg_sl av).length ≤ nL) (body : ∀ (p : Program) (e : Env) (s : State) (m : MethodId) (below : List Frame) (meth : Method) (c : Code) (A : Nat → Prop), CX E p l s m av.toArray meth c cc nL y.cls ret A → (∀ x ∈ c.exceptionTable.toList, False) → DC s → WW E p l e rm s m av.toArray below meth c A 0 0 (QXV E below post px av.toArray s rm A) w nL (lPad av k) 0 []) : XV E l y cc nL ret rm av w post px := by
  intro sz
  refine vx_ofW (cc := cc) (maxL := nL) (ret := ret) hy rfl ?_
  intro p e s m args below meth c s₁ B hml hno hv
  obtain ⟨rfl, ⟨hsz, hP, hK, hD0, hE⟩, hdc⟩ := hv
  subst hsz
  have hts : ∀ x ∈ GW, x.before av.toArray s = true := fun x hx => atoms_spec (ws := wsG y cc nL ret) B.pre x (List.mem_cons_of_mem _ hx)
  have hown : s.vm.findClass y.cls = some m.cls := findClass_of_methodNamed B.named
  rw [lg_entry_eq]
  exact body p e s m below meth c _ ⟨B.exec, B.bytes, hml, hown, hts, hK, hE, fun q h => Or.inr h, B.notSynchronized, B.returns⟩ hno hdc s.heap [] _ hP hD0.self va_S.rf (lH.entry av hn)
theorem r_dret (C : CX E p l s m args meth c cc nL own (some .double) A) {post : UInt64 → va_W → Prop} {v : UInt64} (hq : post v w) (hc : cells ≤ R.cells) (hs : slots ≤ R.slots) (d : decode cc pc = .ok (.dreturn, 1)) : WW E p l e R s m args below meth c A cells slots (QD E below post args s R A) w nL L pc [.double v] := fun H locs ls hP hD hS hl => W.widen hc hs (W.dret C.1 C.2.1 C.2.2.2.2.2.2.2.2.2 (fun t ht hW => ⟨⟨v, w, rfl, hq, by rw [ht]; exact hP, hD⟩, hS.F ht⟩) hS.2.2 d C.2.2.2.2.2.2.2.2.1)
theorem r_fret (C : CX E p l s m args meth c cc nL own (some .float) A) {post : UInt32 → va_W → Prop} {v : UInt32} (hq : post v w) (hc : cells ≤ R.cells) (hs : slots ≤ R.slots) (d : decode cc pc = .ok (.freturn, 1)) : WW E p l e R s m args below meth c A cells slots (QF E below post args s R A) w nL L pc [.float v] := fun H locs ls hP hD hS hl => W.widen hc hs (W.fret C.1 C.2.1 C.2.2.2.2.2.2.2.2.2 (fun t ht hW => ⟨⟨v, w, rfl, hq, by rw [ht]; exact hP, hD⟩, hS.F ht⟩) hS.2.2 d C.2.2.2.2.2.2.2.2.1)
theorem r_dconst0 (C : CX E p l s m args meth c cc nL own ret A) (d : decode cc pc = .ok (.dconst 0, 1)) (k : WW E p l e R s m args below meth c A cells slots Q w nL L (pc + 1) (.double FP.dconst0 :: st)) : WW E p l e R s m args below meth c A cells slots Q w nL L pc st := fun H locs ls hP hD hS hl => lv_dconst0 C.1 C.2.1 d (k H locs ls hP hD hS hl)
theorem r_fconst0 (C : CX E p l s m args meth c cc nL own ret A) (d : decode cc pc = .ok (.fconst 0, 1)) (k : WW E p l e R s m args below meth c A cells slots Q w nL L (pc + 1) (.float FP.fconst0 :: st)) : WW E p l e R s m args below meth c A cells slots Q w nL L pc st := fun H locs ls hP hD hS hl => lv_fconst0 C.1 C.2.1 d (k H locs ls hP hD hS hl)
theorem r_xI {post : Int32 → va_W → Prop} {px : Int32 → va_W → Prop} (k : WW E p l e R s m args below meth c A cells slots (QI E below post args s R A) w nL L pc st) : WW E p l e R s m args below meth c A cells slots (QXI E below post px args s R A) w nL L pc st := fun H locs ls hP hD hS hl => vx_ret (k H locs ls hP hD hS hl)
theorem r_xV {post : va_W → Prop} {px : Int32 → va_W → Prop} (k : WW E p l e R s m args below meth c A cells slots (QV E below post args s R A) w nL L pc st) : WW E p l e R s m args below meth c A cells slots (QXV E below post px args s R A) w nL L pc st := fun H locs ls hP hD hS hl => vx_ret (k H locs ls hP hD hS hl)
theorem TI_0 {post : Int32 → va_W → Prop} {px : Int32 → va_W → Prop} {r : Int32} (h : TI post px 0 r w) : post r w := by unfold TI at h; rwa [if_pos rfl] at h
theorem TV_0 {post : va_W → Prop} {px : Int32 → va_W → Prop} (h : TV post px 0 w) : post w := by unfold TV at h; rwa [if_pos rfl] at h
theorem TI_x {post : Int32 → va_W → Prop} {px : Int32 → va_W → Prop} {c r : Int32} (hc : ¬ c = 0) (h : TI post px c r w) : px c w := by unfold TI at h; rwa [if_neg hc] at h
theorem TV_x {post : va_W → Prop} {px : Int32 → va_W → Prop} {c : Int32} (hc : ¬ c = 0) (h : TV post px c w) : px c w := by unfold TV at h; rwa [if_neg hc] at h
theorem tm_0 {w : Cond} (i : Nat) (h : (k2_sels lw_privs)[i]? = some w) : w ∈ lw_tbl := List.mem_append_left _ (List.mem_of_getElem? h)
theorem tm_1 {w : Cond} (i : Nat) (h : tables_1_1[i]? = some w) : w ∈ lw_tbl := List.mem_append_right _ (List.mem_append_left _ (List.mem_of_getElem? h))
theorem tm_2 {w : Cond} (i : Nat) (h : tables_1_2[i]? = some w) : w ∈ lw_tbl := List.mem_append_right _ (List.mem_append_right _ (List.mem_append_left _ (List.mem_of_getElem? h)))
theorem tm_3 {w : Cond} (i : Nat) (h : tables_1_3[i]? = some w) : w ∈ lw_tbl := List.mem_append_right _ (List.mem_append_right _ (List.mem_append_right _ (List.mem_append_left _ (List.mem_of_getElem? h))))
theorem tm_4 {w : Cond} (i : Nat) (h : tables_1_4[i]? = some w) : w ∈ lw_tbl := List.mem_append_right _ (List.mem_append_right _ (List.mem_append_right _ (List.mem_append_right _ (List.mem_append_left _ (List.mem_of_getElem? h)))))
theorem tm_5 {w : Cond} (i : Nat) (h : tables_1_5[i]? = some w) : w ∈ lw_tbl := List.mem_append_right _ (List.mem_append_right _ (List.mem_append_right _ (List.mem_append_right _ (List.mem_append_right _ (List.mem_append_left _ (List.mem_of_getElem? h))))))
theorem tm_6 {w : Cond} (i : Nat) (h : tables_1_6[i]? = some w) : w ∈ lw_tbl := List.mem_append_right _ (List.mem_append_right _ (List.mem_append_right _ (List.mem_append_right _ (List.mem_append_right _ (List.mem_append_right _ (List.mem_append_left _ (List.mem_of_getElem? h)))))))
theorem tm_7 {w : Cond} (i : Nat) (h : tables_1_7[i]? = some w) : w ∈ lw_tbl := List.mem_append_right _ (List.mem_append_right _ (List.mem_append_right _ (List.mem_append_right _ (List.mem_append_right _ (List.mem_append_right _ (List.mem_append_right _ (List.mem_append_left _ (List.mem_of_getElem? h))))))))
theorem tm_8 {w : Cond} (i : Nat) (h : tables_1_8[i]? = some w) : w ∈ lw_tbl := List.mem_append_right _ (List.mem_append_right _ (List.mem_append_right _ (List.mem_append_right _ (List.mem_append_right _ (List.mem_append_right _ (List.mem_append_right _ (List.mem_append_right _ ((List.mem_of_getElem? h)))))))))
set_option maxRecDepth 100000 in
theorem atl_N : ∀ w ∈ vy_atoms "ShardGuard" 138 "java/util/NoSuchElementException" "java/lang/RuntimeException" ["java/lang/Exception"], vx_no w = true → goodWord w = true → w ∈ lw_tbl := List.forall_mem_cons.mpr ⟨fun _ _ => tm_1 10 rfl, List.forall_mem_cons.mpr ⟨fun _ _ => tm_2 208 rfl, List.forall_mem_cons.mpr ⟨fun _ _ => tm_2 217 rfl, List.forall_mem_cons.mpr ⟨fun _ _ => tm_2 220 rfl, List.forall_mem_cons.mpr ⟨fun _ _ => tm_2 223 rfl, List.forall_mem_cons.mpr ⟨fun _ _ => tm_2 225 rfl, List.forall_mem_cons.mpr ⟨fun _ _ => tm_2 209 rfl, List.forall_mem_cons.mpr ⟨fun _ _ => tm_2 210 rfl, List.forall_mem_cons.mpr ⟨fun _ _ => tm_1 32 rfl, List.forall_mem_cons.mpr ⟨fun _ _ => tm_1 33 rfl, List.forall_mem_cons.mpr ⟨fun _ _ => tm_2 211 rfl, List.forall_mem_cons.mpr ⟨fun _ _ => tm_2 216 rfl, List.forall_mem_cons.mpr ⟨fun _ _ => tm_2 221 rfl, List.forall_mem_cons.mpr ⟨fun _ _ => tm_3 1 rfl, List.forall_mem_cons.mpr ⟨fun _ _ => tm_2 198 rfl, List.forall_mem_cons.mpr ⟨fun _ _ => tm_3 2 rfl, List.forall_mem_cons.mpr ⟨fun _ _ => tm_2 200 rfl, List.forall_mem_cons.mpr ⟨fun _ _ => tm_3 3 rfl, List.forall_mem_cons.mpr ⟨fun _ _ => tm_2 202 rfl, List.forall_mem_cons.mpr ⟨fun _ _ => tm_2 212 rfl, List.forall_mem_cons.mpr ⟨fun _ _ => tm_2 213 rfl, List.forall_mem_cons.mpr ⟨fun _ _ => tm_2 214 rfl, List.forall_mem_cons.mpr ⟨fun _ _ => tm_2 215 rfl, List.forall_mem_cons.mpr ⟨fun _ _ => tm_2 204 rfl, List.forall_mem_cons.mpr ⟨fun _ _ => tm_2 237 rfl, List.forall_mem_cons.mpr ⟨fun _ _ => tm_2 238 rfl, List.forall_mem_cons.mpr ⟨fun _ _ => tm_3 0 rfl, List.forall_mem_cons.mpr ⟨fun _ _ => tm_2 204 rfl, List.forall_mem_cons.mpr ⟨fun _ _ => tm_3 221 rfl, List.forall_mem_cons.mpr ⟨fun _ _ => tm_3 222 rfl, List.forall_mem_cons.mpr ⟨fun _ _ => tm_3 223 rfl, List.forall_mem_cons.mpr ⟨fun _ _ => tm_2 231 rfl, List.forall_mem_cons.mpr ⟨fun _ _ => tm_2 190 rfl, List.forall_mem_cons.mpr ⟨fun _ _ => tm_2 231 rfl, List.forall_mem_cons.mpr ⟨fun _ _ => tm_2 232 rfl, List.forall_mem_cons.mpr ⟨fun _ _ => tm_2 233 rfl, List.forall_mem_cons.mpr ⟨fun _ _ => tm_2 234 rfl, List.forall_mem_cons.mpr ⟨fun _ _ => tm_2 192 rfl, List.forall_mem_cons.mpr ⟨fun _ _ => tm_2 234 rfl, List.forall_mem_cons.mpr ⟨fun _ _ => tm_2 235 rfl, List.forall_mem_cons.mpr ⟨fun _ _ => tm_2 236 rfl, List.forall_mem_cons.mpr ⟨fun _ _ => tm_2 237 rfl, List.forall_mem_cons.mpr ⟨fun _ _ => tm_2 194 rfl, List.forall_mem_cons.mpr ⟨fun _ _ => tm_3 220 rfl, List.forall_mem_cons.mpr ⟨fun _ _ => tm_3 211 rfl, List.forall_mem_cons.mpr ⟨fun _ _ => tm_3 212 rfl, List.forall_mem_cons.mpr ⟨fun _ _ => tm_3 213 rfl, List.forall_mem_cons.mpr ⟨fun _ _ => tm_2 219 rfl, List.forall_mem_cons.mpr ⟨fun _ _ => tm_3 214 rfl, List.forall_mem_cons.mpr ⟨fun _ _ => tm_3 215 rfl, List.forall_mem_cons.mpr ⟨fun _ _ => tm_3 216 rfl, List.forall_mem_cons.mpr ⟨fun _ _ => tm_3 217 rfl, List.forall_mem_cons.mpr ⟨fun h _ => absurd h (by decide +kernel), List.forall_mem_cons.mpr ⟨fun h _ => absurd h (by decide +kernel), List.forall_mem_cons.mpr ⟨fun _ _ => tm_2 207 rfl, List.forall_mem_cons.mpr ⟨fun _ _ => tm_2 206 rfl, List.forall_mem_cons.mpr ⟨fun _ _ => tm_3 218 rfl, fun _ h => absurd h List.not_mem_nil⟩⟩⟩⟩⟩⟩⟩⟩⟩⟩⟩⟩⟩⟩⟩⟩⟩⟩⟩⟩⟩⟩⟩⟩⟩⟩⟩⟩⟩⟩⟩⟩⟩⟩⟩⟩⟩⟩⟩⟩⟩⟩⟩⟩⟩⟩⟩⟩⟩⟩⟩⟩⟩⟩⟩⟩⟩
theorem at1_N : ∀ w ∈ (vy_at "ShardGuard" 138 "java/util/NoSuchElementException" "java/lang/RuntimeException" ["java/lang/Exception"]).filter goodWord, w ∈ GW := fun w hw => gw_of (atl_N w (List.mem_filter.mp (List.mem_filter.mp hw).1).1 (List.mem_filter.mp (List.mem_filter.mp hw).1).2 (List.mem_filter.mp hw).2) (List.mem_filter.mp hw).2
set_option maxRecDepth 100000 in
theorem at2_N : ∀ w ∈ (vy_at "ShardGuard" 138 "java/util/NoSuchElementException" "java/lang/RuntimeException" ["java/lang/Exception"]).filter (fun w => !goodWord w), w ∈ Cond.castable "java/util/NoSuchElementException" "java/util/NoSuchElementException" :: dclL.map Cond.declares := by decide +kernel
set_option maxRecDepth 100000 in
theorem at3_N (ik : Nat) : ∀ w ∈ Cond.classLink "ShardGuard" ik "java/util/NoSuchElementException" :: Cond.initialized "java/util/NoSuchElementException" :: vy_at "ShardGuard" 138 "java/util/NoSuchElementException" "java/lang/RuntimeException" ["java/lang/Exception"], vx_ot w = true := List.forall_mem_cons.mpr ⟨rfl, List.forall_mem_cons.mpr ⟨rfl, by decide +kernel⟩⟩
theorem r_throwN (C : CX E p l s m args meth c cc nL "ShardGuard" ret A) (hlt : l.stackTraces = false) (hno : ∀ x ∈ c.exceptionTable.toList, False) (hdc : DC s) {Qc : Array Value → State → Outcome → State → Prop} {px : Int32 → va_W → Prop} {ik is : Nat} {text : String} (j : Nat)
    (hj : strTab[j]? = some ("ShardGuard", is, text)) (hk : Cond.classLink "ShardGuard" ik "java/util/NoSuchElementException" ∈ GW) (hini : Cond.initialized "java/util/NoSuchElementException" ∈ GW)
    (d0 : decode cc pc = .ok (.new ik, 3)) (d3 : decode cc (pc + 3) = .ok (.dup, 1)) (d4 : decode cc (pc + 4) = .ok (.ldc is, 2)) (d7 : decode cc (pc + 6) = .ok (.invokespecial 138, 3)) (d10 : decode cc (pc + 9) = .ok (.athrow, 1))
    (hRf : 6 ≤ R.frames) (hRl : 100 ≤ R.locals) (hst : (st.map fun v => v.category).sum ≤ 8) (hc : cells + 1 ≤ R.cells) (hs : slots + 6 ≤ R.slots) (hx : px 1 w) : WW E p l e R s m args below meth c A cells slots (vx_MQ below Qc (XX E px A) args s R.cells R.slots A) w nL L pc st := by
  intro H locs ls hP hD hS hl
  have hstr : vk_R "ShardGuard" is text (eS E j) s := (C.2.2.2.2.2.2.1.1 j _ hj).1
  refine vy_throw (own := "ShardGuard") (cls := "java/util/NoSuchElementException") (text := text) (up := "java/lang/RuntimeException") (names := ["java/lang/Exception"]) (ik := ik) (is := is) (ic := 138) (sa := eS E j) (A := A) C.1 C.2.1 hlt C.2.2.2.1 (by decide +kernel) (by decide +kernel) (by decide +kernel) (C.2.2.2.2.1 _ hk) (C.2.2.2.2.1 _ hini) hstr ?_ (at3_N ik) C.2.2.2.2.2.2.1.2.1 C.2.2.2.2.2.2.1.2.2.1 hS (hl.size.trans C.2.2.1.symm) d0 d3 d4 d7 d10 (fun x hx => (hno x hx).elim) (Nat.lt_of_lt_of_le (by decide) hRf) (by simp only [List.length_cons, List.length_nil]; omega) hc hs C.2.2.2.2.2.2.2.2.1 (fun t hvm hz ht => ⟨(1, w), hx, ⟨rfl, ?_, hD⟩, ?_⟩) hS.2.2 hc hs
  · refine vx_hat (fun w hw => C.2.2.2.2.1 w (at1_N w hw)) at2_N (vx_c ?_ (fun w hw => ?_))
    · exact va_tabs rfl rfl (C.2.2.2.2.2.2.1.cast 1 rfl)
    · obtain ⟨x9, hx9, rfl⟩ := List.mem_map.mp hw
      exact va_tabs rfl rfl (hdc.1 x9 hx9)
  · exact hP.kept (fun k q hq => ht q.1 (hP k q hq).lt)
  · exact ⟨Nat.le_trans hS.1 hz, fun q hq hA => by rw [ht q (Nat.lt_of_lt_of_le hq hS.1)]; exact hS.2.1 q hq hA⟩
theorem r_throwNW (C : CX E p l s m args meth c cc nL "ShardGuard" ret A) (hlt : l.stackTraces = false) (hno : ∀ x ∈ c.exceptionTable.toList, False) (hdc : DC s) {Qc : Array Value → State → Outcome → State → Prop} {px : Int32 → va_W → Prop} {ik is : Nat} {text : String} (j : Nat)
    (hj : strTab[j]? = some ("ShardGuard", is, text)) (hk : Cond.classLink "ShardGuard" ik "java/util/NoSuchElementException" ∈ GW) (hini : Cond.initialized "java/util/NoSuchElementException" ∈ GW)
    (d0 : decode cc pc = .ok (.new ik, 3)) (d3 : decode cc (pc + 3) = .ok (.dup, 1)) (d4 : decode cc (pc + 4) = .ok (.ldc_w is, 3)) (d7 : decode cc (pc + 7) = .ok (.invokespecial 138, 3)) (d10 : decode cc (pc + 10) = .ok (.athrow, 1))
    (hRf : 6 ≤ R.frames) (hRl : 100 ≤ R.locals) (hst : (st.map fun v => v.category).sum ≤ 8) (hc : cells + 1 ≤ R.cells) (hs : slots + 6 ≤ R.slots) (hx : px 1 w) : WW E p l e R s m args below meth c A cells slots (vx_MQ below Qc (XX E px A) args s R.cells R.slots A) w nL L pc st := by
  intro H locs ls hP hD hS hl
  have hstr : vk_R "ShardGuard" is text (eS E j) s := (C.2.2.2.2.2.2.1.1 j _ hj).1
  refine vy_throwW (own := "ShardGuard") (cls := "java/util/NoSuchElementException") (text := text) (up := "java/lang/RuntimeException") (names := ["java/lang/Exception"]) (ik := ik) (is := is) (ic := 138) (sa := eS E j) (A := A) C.1 C.2.1 hlt C.2.2.2.1 (by decide +kernel) (by decide +kernel) (by decide +kernel) (C.2.2.2.2.1 _ hk) (C.2.2.2.2.1 _ hini) hstr ?_ (at3_N ik) C.2.2.2.2.2.2.1.2.1 C.2.2.2.2.2.2.1.2.2.1 hS (hl.size.trans C.2.2.1.symm) d0 d3 d4 d7 d10 (fun x hx => (hno x hx).elim) (Nat.lt_of_lt_of_le (by decide) hRf) (by simp only [List.length_cons, List.length_nil]; omega) hc hs C.2.2.2.2.2.2.2.2.1 (fun t hvm hz ht => ⟨(1, w), hx, ⟨rfl, ?_, hD⟩, ?_⟩) hS.2.2 hc hs
  · refine vx_hat (fun w hw => C.2.2.2.2.1 w (at1_N w hw)) at2_N (vx_c ?_ (fun w hw => ?_))
    · exact va_tabs rfl rfl (C.2.2.2.2.2.2.1.cast 1 rfl)
    · obtain ⟨x9, hx9, rfl⟩ := List.mem_map.mp hw
      exact va_tabs rfl rfl (hdc.1 x9 hx9)
  · exact hP.kept (fun k q hq => ht q.1 (hP k q hq).lt)
  · exact ⟨Nat.le_trans hS.1 hz, fun q hq hA => by rw [ht q (Nat.lt_of_lt_of_le hq hS.1)]; exact hS.2.1 q hq hA⟩
set_option maxRecDepth 100000 in
theorem atl_A : ∀ w ∈ Bundle.ownAtoms "ShardGuard" 63 "java/lang/IllegalArgumentException" ["java/lang/RuntimeException", "java/lang/Exception"], vx_no w = true → goodWord w = true → w ∈ lw_tbl := List.forall_mem_cons.mpr ⟨fun _ _ => tm_1 10 rfl, List.forall_mem_cons.mpr ⟨fun _ _ => tm_2 208 rfl, List.forall_mem_cons.mpr ⟨fun _ _ => tm_2 217 rfl, List.forall_mem_cons.mpr ⟨fun _ _ => tm_2 220 rfl, List.forall_mem_cons.mpr ⟨fun _ _ => tm_2 223 rfl, List.forall_mem_cons.mpr ⟨fun _ _ => tm_2 225 rfl, List.forall_mem_cons.mpr ⟨fun _ _ => tm_2 209 rfl, List.forall_mem_cons.mpr ⟨fun _ _ => tm_2 210 rfl, List.forall_mem_cons.mpr ⟨fun _ _ => tm_1 32 rfl, List.forall_mem_cons.mpr ⟨fun _ _ => tm_1 33 rfl, List.forall_mem_cons.mpr ⟨fun _ _ => tm_2 211 rfl, List.forall_mem_cons.mpr ⟨fun _ _ => tm_2 216 rfl, List.forall_mem_cons.mpr ⟨fun _ _ => tm_2 221 rfl, List.forall_mem_cons.mpr ⟨fun _ _ => tm_3 1 rfl, List.forall_mem_cons.mpr ⟨fun _ _ => tm_2 198 rfl, List.forall_mem_cons.mpr ⟨fun _ _ => tm_3 2 rfl, List.forall_mem_cons.mpr ⟨fun _ _ => tm_2 200 rfl, List.forall_mem_cons.mpr ⟨fun _ _ => tm_3 3 rfl, List.forall_mem_cons.mpr ⟨fun _ _ => tm_2 202 rfl, List.forall_mem_cons.mpr ⟨fun _ _ => tm_2 212 rfl, List.forall_mem_cons.mpr ⟨fun _ _ => tm_2 213 rfl, List.forall_mem_cons.mpr ⟨fun _ _ => tm_2 214 rfl, List.forall_mem_cons.mpr ⟨fun _ _ => tm_2 215 rfl, List.forall_mem_cons.mpr ⟨fun _ _ => tm_2 204 rfl, List.forall_mem_cons.mpr ⟨fun _ _ => tm_2 237 rfl, List.forall_mem_cons.mpr ⟨fun _ _ => tm_2 238 rfl, List.forall_mem_cons.mpr ⟨fun _ _ => tm_3 0 rfl, List.forall_mem_cons.mpr ⟨fun _ _ => tm_2 204 rfl, List.forall_mem_cons.mpr ⟨fun _ _ => tm_2 228 rfl, List.forall_mem_cons.mpr ⟨fun _ _ => tm_2 229 rfl, List.forall_mem_cons.mpr ⟨fun _ _ => tm_2 230 rfl, List.forall_mem_cons.mpr ⟨fun _ _ => tm_2 231 rfl, List.forall_mem_cons.mpr ⟨fun _ _ => tm_2 190 rfl, List.forall_mem_cons.mpr ⟨fun _ _ => tm_2 231 rfl, List.forall_mem_cons.mpr ⟨fun _ _ => tm_2 232 rfl, List.forall_mem_cons.mpr ⟨fun _ _ => tm_2 233 rfl, List.forall_mem_cons.mpr ⟨fun _ _ => tm_2 234 rfl, List.forall_mem_cons.mpr ⟨fun _ _ => tm_2 192 rfl, List.forall_mem_cons.mpr ⟨fun _ _ => tm_2 234 rfl, List.forall_mem_cons.mpr ⟨fun _ _ => tm_2 235 rfl, List.forall_mem_cons.mpr ⟨fun _ _ => tm_2 236 rfl, List.forall_mem_cons.mpr ⟨fun _ _ => tm_2 237 rfl, List.forall_mem_cons.mpr ⟨fun _ _ => tm_2 194 rfl, List.forall_mem_cons.mpr ⟨fun _ _ => tm_2 227 rfl, List.forall_mem_cons.mpr ⟨fun _ _ => tm_2 187 rfl, List.forall_mem_cons.mpr ⟨fun _ _ => tm_2 188 rfl, List.forall_mem_cons.mpr ⟨fun _ _ => tm_2 195 rfl, List.forall_mem_cons.mpr ⟨fun _ _ => tm_2 196 rfl, List.forall_mem_cons.mpr ⟨fun _ _ => tm_2 197 rfl, List.forall_mem_cons.mpr ⟨fun _ _ => tm_2 199 rfl, List.forall_mem_cons.mpr ⟨fun _ _ => tm_2 201 rfl, List.forall_mem_cons.mpr ⟨fun _ _ => tm_2 203 rfl, List.forall_mem_cons.mpr ⟨fun h _ => absurd h (by decide +kernel), List.forall_mem_cons.mpr ⟨fun h _ => absurd h (by decide +kernel), List.forall_mem_cons.mpr ⟨fun _ _ => tm_2 207 rfl, List.forall_mem_cons.mpr ⟨fun _ _ => tm_2 206 rfl, List.forall_mem_cons.mpr ⟨fun _ _ => tm_2 205 rfl, fun _ h => absurd h List.not_mem_nil⟩⟩⟩⟩⟩⟩⟩⟩⟩⟩⟩⟩⟩⟩⟩⟩⟩⟩⟩⟩⟩⟩⟩⟩⟩⟩⟩⟩⟩⟩⟩⟩⟩⟩⟩⟩⟩⟩⟩⟩⟩⟩⟩⟩⟩⟩⟩⟩⟩⟩⟩⟩⟩⟩⟩⟩⟩
theorem at1_A : ∀ w ∈ (vx_atS "ShardGuard" 63 "java/lang/IllegalArgumentException" ["java/lang/RuntimeException", "java/lang/Exception"]).filter goodWord, w ∈ GW := fun w hw => gw_of (atl_A w (List.mem_filter.mp (List.mem_filter.mp hw).1).1 (List.mem_filter.mp (List.mem_filter.mp hw).1).2 (List.mem_filter.mp hw).2) (List.mem_filter.mp hw).2
set_option maxRecDepth 100000 in
theorem at2_A : ∀ w ∈ (vx_atS "ShardGuard" 63 "java/lang/IllegalArgumentException" ["java/lang/RuntimeException", "java/lang/Exception"]).filter (fun w => !goodWord w), w ∈ Cond.castable "java/lang/IllegalArgumentException" "java/lang/IllegalArgumentException" :: dclL.map Cond.declares := by decide +kernel
set_option maxRecDepth 100000 in
theorem at3_A (ik : Nat) : ∀ w ∈ Cond.classLink "ShardGuard" ik "java/lang/IllegalArgumentException" :: Cond.initialized "java/lang/IllegalArgumentException" :: vx_atS "ShardGuard" 63 "java/lang/IllegalArgumentException" ["java/lang/RuntimeException", "java/lang/Exception"], vx_ot w = true := List.forall_mem_cons.mpr ⟨rfl, List.forall_mem_cons.mpr ⟨rfl, by decide +kernel⟩⟩
theorem r_throwA (C : CX E p l s m args meth c cc nL "ShardGuard" ret A) (hlt : l.stackTraces = false) (hno : ∀ x ∈ c.exceptionTable.toList, False) (hdc : DC s) {Qc : Array Value → State → Outcome → State → Prop} {px : Int32 → va_W → Prop} {ik is : Nat} {text : String} (j : Nat)
    (hj : strTab[j]? = some ("ShardGuard", is, text)) (hk : Cond.classLink "ShardGuard" ik "java/lang/IllegalArgumentException" ∈ GW) (hini : Cond.initialized "java/lang/IllegalArgumentException" ∈ GW)
    (d0 : decode cc pc = .ok (.new ik, 3)) (d3 : decode cc (pc + 3) = .ok (.dup, 1)) (d4 : decode cc (pc + 4) = .ok (.ldc is, 2)) (d7 : decode cc (pc + 6) = .ok (.invokespecial 63, 3)) (d10 : decode cc (pc + 9) = .ok (.athrow, 1))
    (hRf : 6 ≤ R.frames) (hRl : 100 ≤ R.locals) (hst : (st.map fun v => v.category).sum ≤ 8) (hc : cells + 1 ≤ R.cells) (hs : slots + 6 ≤ R.slots) (hx : px 2 w) : WW E p l e R s m args below meth c A cells slots (vx_MQ below Qc (XX E px A) args s R.cells R.slots A) w nL L pc st := by
  intro H locs ls hP hD hS hl
  have hstr : vk_R "ShardGuard" is text (eS E j) s := (C.2.2.2.2.2.2.1.1 j _ hj).1
  refine vx_throwS (own := "ShardGuard") (cls := "java/lang/IllegalArgumentException") (text := text) (names := ["java/lang/RuntimeException", "java/lang/Exception"]) (ik := ik) (is := is) (ic := 63) (sa := eS E j) (A := A) C.1 C.2.1 hlt C.2.2.2.1 (by decide +kernel) (by decide +kernel) (C.2.2.2.2.1 _ hk) (C.2.2.2.2.1 _ hini) hstr ?_ (at3_A ik) C.2.2.2.2.2.2.1.2.1 C.2.2.2.2.2.2.1.2.2.1 hS (hl.size.trans C.2.2.1.symm) d0 d3 d4 d7 d10 (fun x hx => (hno x hx).elim) (Nat.lt_of_lt_of_le (by decide) hRf) (by simp only [List.length_cons, List.length_nil]; omega) hc hs C.2.2.2.2.2.2.2.2.1 (fun t hvm hz ht => ⟨(2, w), hx, ⟨rfl, ?_, hD⟩, ?_⟩) hS.2.2 hc hs
  · refine vx_hat (fun w hw => C.2.2.2.2.1 w (at1_A w hw)) at2_A (vx_c ?_ (fun w hw => ?_))
    · exact va_tabs rfl rfl (C.2.2.2.2.2.2.1.cast 0 rfl)
    · obtain ⟨x9, hx9, rfl⟩ := List.mem_map.mp hw
      exact va_tabs rfl rfl (hdc.1 x9 hx9)
  · exact hP.kept (fun k q hq => ht q.1 (hP k q hq).lt)
  · exact ⟨Nat.le_trans hS.1 hz, fun q hq hA => by rw [ht q (Nat.lt_of_lt_of_le hq hS.1)]; exact hS.2.1 q hq hA⟩
theorem r_throwAW (C : CX E p l s m args meth c cc nL "ShardGuard" ret A) (hlt : l.stackTraces = false) (hno : ∀ x ∈ c.exceptionTable.toList, False) (hdc : DC s) {Qc : Array Value → State → Outcome → State → Prop} {px : Int32 → va_W → Prop} {ik is : Nat} {text : String} (j : Nat)
    (hj : strTab[j]? = some ("ShardGuard", is, text)) (hk : Cond.classLink "ShardGuard" ik "java/lang/IllegalArgumentException" ∈ GW) (hini : Cond.initialized "java/lang/IllegalArgumentException" ∈ GW)
    (d0 : decode cc pc = .ok (.new ik, 3)) (d3 : decode cc (pc + 3) = .ok (.dup, 1)) (d4 : decode cc (pc + 4) = .ok (.ldc_w is, 3)) (d7 : decode cc (pc + 7) = .ok (.invokespecial 63, 3)) (d10 : decode cc (pc + 10) = .ok (.athrow, 1))
    (hRf : 6 ≤ R.frames) (hRl : 100 ≤ R.locals) (hst : (st.map fun v => v.category).sum ≤ 8) (hc : cells + 1 ≤ R.cells) (hs : slots + 6 ≤ R.slots) (hx : px 2 w) : WW E p l e R s m args below meth c A cells slots (vx_MQ below Qc (XX E px A) args s R.cells R.slots A) w nL L pc st := by
  intro H locs ls hP hD hS hl
  have hstr : vk_R "ShardGuard" is text (eS E j) s := (C.2.2.2.2.2.2.1.1 j _ hj).1
  refine vx_throwSW (own := "ShardGuard") (cls := "java/lang/IllegalArgumentException") (text := text) (names := ["java/lang/RuntimeException", "java/lang/Exception"]) (ik := ik) (is := is) (ic := 63) (sa := eS E j) (A := A) C.1 C.2.1 hlt C.2.2.2.1 (by decide +kernel) (by decide +kernel) (C.2.2.2.2.1 _ hk) (C.2.2.2.2.1 _ hini) hstr ?_ (at3_A ik) C.2.2.2.2.2.2.1.2.1 C.2.2.2.2.2.2.1.2.2.1 hS (hl.size.trans C.2.2.1.symm) d0 d3 d4 d7 d10 (fun x hx => (hno x hx).elim) (Nat.lt_of_lt_of_le (by decide) hRf) (by simp only [List.length_cons, List.length_nil]; omega) hc hs C.2.2.2.2.2.2.2.2.1 (fun t hvm hz ht => ⟨(2, w), hx, ⟨rfl, ?_, hD⟩, ?_⟩) hS.2.2 hc hs
  · refine vx_hat (fun w hw => C.2.2.2.2.1 w (at1_A w hw)) at2_A (vx_c ?_ (fun w hw => ?_))
    · exact va_tabs rfl rfl (C.2.2.2.2.2.2.1.cast 0 rfl)
    · obtain ⟨x9, hx9, rfl⟩ := List.mem_map.mp hw
      exact va_tabs rfl rfl (hdc.1 x9 hx9)
  · exact hP.kept (fun k q hq => ht q.1 (hP k q hq).lt)
  · exact ⟨Nat.le_trans hS.1 hz, fun q hq hA => by rw [ht q (Nat.lt_of_lt_of_le hq hS.1)]; exact hS.2.1 q hq hA⟩
theorem r_callXV_I (C : CX E p l s m args meth c cc nL own ret A) {y : MethodName} {cy : ByteArray} {mL index : Nat} {ry : Option FieldType} {rm : Room} {b : Nat} {Cn : String} {wc : va_W} {post : Int32 → va_W → Prop} (As : List Value) {pxc px : Int32 → va_W → Prop} {Qc : Array Value → State → Outcome → State → Prop} (hno : ∀ x ∈ c.exceptionTable.toList, False) (hdc : DC s) (hM : XI E l y cy mL ry rm (.ref b :: As) wc post pxc) (ps : List Nat) (hps : ps.map (fun i => w[i]?) = wc.map some) (hnd : ps.Nodup) (i0 : Nat) {ci : Nat} {fs : List Value} {q9 : vw_C} (hr : wc[i0]? = some (b, .inr (ci, fs))) (hc9 : vwCl[ci]? = some q9) (hq9 : q9.1 = Cn) (hg : GoodIn GW (wsV own index Cn y (wsG y cy mL ry))) (hd : y.cls = Cn ∧ y.cls ≠ "java/lang/invoke/MethodHandle" ∧ y.cls ≠ "java/lang/invoke/VarHandle" ∧ (parseMethodDescriptor y.desc).map (fun d => d.parameters.length) = some As.length) (hR : rm.frames + 1 ≤ R.frames ∧ 8 + (mL + 11) + rm.locals ≤ R.locals) (hf : cells + rm.cells ≤ R.cells ∧ slots + rm.slots ≤ R.slots) (hst : (st.map fun v => v.category).sum ≤ 8) {st0 : List Value} (hst0 : st0 = As.reverse ++ .ref b :: st) (d : decode cc pc = .ok (.invokevirtual index, 3)) (kx : ∀ (cd : Int32) (w1 : va_W), pxc cd w1 → ∃ w', putW w ps w1 = some w' ∧ px cd w') (k : ∀ (r : Int32) (w1 : va_W), post r w1 → ∃ w', putW w ps w1 = some w' ∧ WW E p l e R s m args below meth c A (cells + rm.cells) (slots + rm.slots) (vx_MQ below Qc (XX E px A) args s R.cells R.slots A) w' nL L (pc + 3) (.int r :: st)) : WW E p l e R s m args below meth c A cells slots (vx_MQ below Qc (XX E px A) args s R.cells R.slots A) w nL L pc st0 := by
  intro H locs ls hP hD hS hl
  subst hst0
  have hPc : va_P (eD E) vwCl wc H := fun i q hq => by
    obtain ⟨k9, -, h9⟩ := placesC hps i q hq
    exact hP k9 q h9
  have hndb : va_nd ps = true := va_nd_of hnd
  have hDc : va_D A wc := hD.sub ps hndb hps
  have hKc := C.2.2.2.2.2.1
  have hFc : ∀ q, va_A wc H.size q → A q := va_free hD hS C.2.2.2.2.2.2.2.1 ps hps
  refine vx_calli (vx_runV (As := As) (rest := st) (g := F0 m pc ls (As.reverse ++ .ref b :: st)) ⟨C.1, C.2.1, C.2.2.1, C.2.2.2.1, C.2.2.2.2.1⟩ (hM H.size) (cwV As.length C.2.2.2.2.1 hg rfl rfl rfl hd hR) ⟨Pre2.blind E wc H.size _, by subst hq9; exact va_recv hKc hPc hc9 hr, fun U hU hW => ⟨rfl, ⟨by rw [hU], by rw [hU]; exact hPc, va_K.moved hW.alike hKc, hDc.weaken (fun _ _ _ _ => trivial), C.2.2.2.2.2.2.1.pass hS hFc hU hW⟩, hdc.warm hW⟩⟩ rfl rfl hl.size rfl (lv_room hst) d hf) hS (fun q _ h => hFc q h) hFc (fun q _ h => hFc q h) (fun En ce q9 u t H1 locs1 ht hvm hpx hB hz1 hk1 hS1 hce hcv hcl => ?_) (fun r u t H1 locs1 ht hvm hw hB hz1 hk1 hS1 => ?_)
  · obtain ⟨hnm, hP1, hD1⟩ := hB
    rw [ht] at hP1
    obtain ⟨w', hw1, k1⟩ := kx u.1 u.2 hpx
    obtain ⟨hP2, hD2⟩ := joinW hP hD ps hps hnd hk1 hFc hP1 hD1 hw1
    exact vx_out (fun x hx => (hno x hx).elim) C.2.2.2.2.2.2.2.2.1 hce hcv hcl (fun t2 ht2 hvm2 => ⟨(u.1, w'), k1, ⟨hnm, by rw [ht2]; exact hP2, hD2⟩, hS1.F ht2⟩) hS1.2.2 hf.1 hf.2
  obtain ⟨hP1, hD1⟩ := hB
  rw [ht] at hP1
  obtain ⟨w', hw1, k1⟩ := k r u hw
  obtain ⟨hP2, hD2⟩ := joinW hP hD ps hps hnd hk1 hFc hP1 hD1 hw1
  exact k1 H1 locs1 ls hP2 hD2 hS1 hl
theorem r_callXV_V (C : CX E p l s m args meth c cc nL own ret A) {y : MethodName} {cy : ByteArray} {mL index : Nat} {ry : Option FieldType} {rm : Room} {b : Nat} {Cn : String} {wc : va_W} {post : va_W → Prop} (As : List Value) {pxc px : Int32 → va_W → Prop} {Qc : Array Value → State → Outcome → State → Prop} (hno : ∀ x ∈ c.exceptionTable.toList, False) (hdc : DC s) (hM : XV E l y cy mL ry rm (.ref b :: As) wc post pxc) (ps : List Nat) (hps : ps.map (fun i => w[i]?) = wc.map some) (hnd : ps.Nodup) (i0 : Nat) {ci : Nat} {fs : List Value} {q9 : vw_C} (hr : wc[i0]? = some (b, .inr (ci, fs))) (hc9 : vwCl[ci]? = some q9) (hq9 : q9.1 = Cn) (hg : GoodIn GW (wsV own index Cn y (wsG y cy mL ry))) (hd : y.cls = Cn ∧ y.cls ≠ "java/lang/invoke/MethodHandle" ∧ y.cls ≠ "java/lang/invoke/VarHandle" ∧ (parseMethodDescriptor y.desc).map (fun d => d.parameters.length) = some As.length) (hR : rm.frames + 1 ≤ R.frames ∧ 8 + (mL + 11) + rm.locals ≤ R.locals) (hf : cells + rm.cells ≤ R.cells ∧ slots + rm.slots ≤ R.slots) (hst : (st.map fun v => v.category).sum ≤ 8) {st0 : List Value} (hst0 : st0 = As.reverse ++ .ref b :: st) (d : decode cc pc = .ok (.invokevirtual index, 3)) (kx : ∀ (cd : Int32) (w1 : va_W), pxc cd w1 → ∃ w', putW w ps w1 = some w' ∧ px cd w') (k : ∀ (w1 : va_W), post w1 → ∃ w', putW w ps w1 = some w' ∧ WW E p l e R s m args below meth c A (cells + rm.cells) (slots + rm.slots) (vx_MQ below Qc (XX E px A) args s R.cells R.slots A) w' nL L (pc + 3) st) : WW E p l e R s m args below meth c A cells slots (vx_MQ below Qc (XX E px A) args s R.cells R.slots A) w nL L pc st0 := by
  intro H locs ls hP hD hS hl
  subst hst0
  have hPc : va_P (eD E) vwCl wc H := fun i q hq => by
    obtain ⟨k9, -, h9⟩ := placesC hps i q hq
    exact hP k9 q h9
  have hndb : va_nd ps = true := va_nd_of hnd
  have hDc : va_D A wc := hD.sub ps hndb hps
  have hKc := C.2.2.2.2.2.1
  have hFc : ∀ q, va_A wc H.size q → A q := va_free hD hS C.2.2.2.2.2.2.2.1 ps hps
  refine vx_callv (vx_runV (As := As) (rest := st) (g := F0 m pc ls (As.reverse ++ .ref b :: st)) ⟨C.1, C.2.1, C.2.2.1, C.2.2.2.1, C.2.2.2.2.1⟩ (hM H.size) (cwV As.length C.2.2.2.2.1 hg rfl rfl rfl hd hR) ⟨Pre2.blind E wc H.size _, by subst hq9; exact va_recv hKc hPc hc9 hr, fun U hU hW => ⟨rfl, ⟨by rw [hU], by rw [hU]; exact hPc, va_K.moved hW.alike hKc, hDc.weaken (fun _ _ _ _ => trivial), C.2.2.2.2.2.2.1.pass hS hFc hU hW⟩, hdc.warm hW⟩⟩ rfl rfl hl.size rfl (lv_room hst) d hf) hS (fun q _ h => hFc q h) hFc (fun q _ h => hFc q h) (fun En ce q9 u t H1 locs1 ht hvm hpx hB hz1 hk1 hS1 hce hcv hcl => ?_) (fun u t H1 locs1 ht hvm hw hB hz1 hk1 hS1 => ?_)
  · obtain ⟨hnm, hP1, hD1⟩ := hB
    rw [ht] at hP1
    obtain ⟨w', hw1, k1⟩ := kx u.1 u.2 hpx
    obtain ⟨hP2, hD2⟩ := joinW hP hD ps hps hnd hk1 hFc hP1 hD1 hw1
    exact vx_out (fun x hx => (hno x hx).elim) C.2.2.2.2.2.2.2.2.1 hce hcv hcl (fun t2 ht2 hvm2 => ⟨(u.1, w'), k1, ⟨hnm, by rw [ht2]; exact hP2, hD2⟩, hS1.F ht2⟩) hS1.2.2 hf.1 hf.2
  obtain ⟨hP1, hD1⟩ := hB
  rw [ht] at hP1
  obtain ⟨w', hw1, k1⟩ := k u hw
  obtain ⟨hP2, hD2⟩ := joinW hP hD ps hps hnd hk1 hFc hP1 hD1 hw1
  exact k1 H1 locs1 ls hP2 hD2 hS1 hl
theorem r_callXS_I (C : CX E p l s m args meth c cc nL own ret A) {y : MethodName} {cy : ByteArray} {mL index : Nat} {ry : Option FieldType} {rm : Room} {wc : va_W} {post : Int32 → va_W → Prop} (As : List Value) {pxc px : Int32 → va_W → Prop} {Qc : Array Value → State → Outcome → State → Prop} (hno : ∀ x ∈ c.exceptionTable.toList, False) (hdc : DC s) (hM : XI E l y cy mL ry rm (As) wc post pxc) (ps : List Nat) (hps : ps.map (fun i => w[i]?) = wc.map some) (hnd : ps.Nodup) (hg : GoodIn GW (va_wsS own index y (wsG y cy mL ry))) (hd : y.cls ≠ "java/lang/invoke/MethodHandle" ∧ y.cls ≠ "java/lang/invoke/VarHandle" ∧ (parseMethodDescriptor y.desc).map (fun d => d.parameters.length) = some As.length) (hR : rm.frames + 1 ≤ R.frames ∧ 8 + (mL + 11) + rm.locals ≤ R.locals) (hf : cells + rm.cells ≤ R.cells ∧ slots + rm.slots ≤ R.slots) (hst : (st.map fun v => v.category).sum ≤ 8) {st0 : List Value} (hst0 : st0 = As.reverse ++ st) (d : decode cc pc = .ok (.invokestatic index, 3)) (kx : ∀ (cd : Int32) (w1 : va_W), pxc cd w1 → ∃ w', putW w ps w1 = some w' ∧ px cd w') (k : ∀ (r : Int32) (w1 : va_W), post r w1 → ∃ w', putW w ps w1 = some w' ∧ WW E p l e R s m args below meth c A (cells + rm.cells) (slots + rm.slots) (vx_MQ below Qc (XX E px A) args s R.cells R.slots A) w' nL L (pc + 3) (.int r :: st)) : WW E p l e R s m args below meth c A cells slots (vx_MQ below Qc (XX E px A) args s R.cells R.slots A) w nL L pc st0 := by
  intro H locs ls hP hD hS hl
  subst hst0
  have hPc : va_P (eD E) vwCl wc H := fun i q hq => by
    obtain ⟨k9, -, h9⟩ := placesC hps i q hq
    exact hP k9 q h9
  have hndb : va_nd ps = true := va_nd_of hnd
  have hDc : va_D A wc := hD.sub ps hndb hps
  have hKc := C.2.2.2.2.2.1
  have hFc : ∀ q, va_A wc H.size q → A q := va_free hD hS C.2.2.2.2.2.2.2.1 ps hps
  refine vx_calli (vx_runS (As := As) (rest := st) (g := F0 m pc ls (As.reverse ++ st)) ⟨C.1, C.2.1, C.2.2.1, C.2.2.2.1, C.2.2.2.2.1⟩ (hM H.size) (va_cwS As.length C.2.2.2.2.1 hg rfl rfl rfl hd hR) ⟨Pre2.blind E wc H.size _, fun U hU hW => ⟨rfl, ⟨by rw [hU], by rw [hU]; exact hPc, va_K.moved hW.alike hKc, hDc.weaken (fun _ _ _ _ => trivial), C.2.2.2.2.2.2.1.pass hS hFc hU hW⟩, hdc.warm hW⟩⟩ rfl rfl hl.size rfl (lv_room hst) d hf) hS (fun q _ h => hFc q h) hFc (fun q _ h => hFc q h) (fun En ce q9 u t H1 locs1 ht hvm hpx hB hz1 hk1 hS1 hce hcv hcl => ?_) (fun r u t H1 locs1 ht hvm hw hB hz1 hk1 hS1 => ?_)
  · obtain ⟨hnm, hP1, hD1⟩ := hB
    rw [ht] at hP1
    obtain ⟨w', hw1, k1⟩ := kx u.1 u.2 hpx
    obtain ⟨hP2, hD2⟩ := joinW hP hD ps hps hnd hk1 hFc hP1 hD1 hw1
    exact vx_out (fun x hx => (hno x hx).elim) C.2.2.2.2.2.2.2.2.1 hce hcv hcl (fun t2 ht2 hvm2 => ⟨(u.1, w'), k1, ⟨hnm, by rw [ht2]; exact hP2, hD2⟩, hS1.F ht2⟩) hS1.2.2 hf.1 hf.2
  obtain ⟨hP1, hD1⟩ := hB
  rw [ht] at hP1
  obtain ⟨w', hw1, k1⟩ := k r u hw
  obtain ⟨hP2, hD2⟩ := joinW hP hD ps hps hnd hk1 hFc hP1 hD1 hw1
  exact k1 H1 locs1 ls hP2 hD2 hS1 hl
theorem r_callXS_V (C : CX E p l s m args meth c cc nL own ret A) {y : MethodName} {cy : ByteArray} {mL index : Nat} {ry : Option FieldType} {rm : Room} {wc : va_W} {post : va_W → Prop} (As : List Value) {pxc px : Int32 → va_W → Prop} {Qc : Array Value → State → Outcome → State → Prop} (hno : ∀ x ∈ c.exceptionTable.toList, False) (hdc : DC s) (hM : XV E l y cy mL ry rm (As) wc post pxc) (ps : List Nat) (hps : ps.map (fun i => w[i]?) = wc.map some) (hnd : ps.Nodup) (hg : GoodIn GW (va_wsS own index y (wsG y cy mL ry))) (hd : y.cls ≠ "java/lang/invoke/MethodHandle" ∧ y.cls ≠ "java/lang/invoke/VarHandle" ∧ (parseMethodDescriptor y.desc).map (fun d => d.parameters.length) = some As.length) (hR : rm.frames + 1 ≤ R.frames ∧ 8 + (mL + 11) + rm.locals ≤ R.locals) (hf : cells + rm.cells ≤ R.cells ∧ slots + rm.slots ≤ R.slots) (hst : (st.map fun v => v.category).sum ≤ 8) {st0 : List Value} (hst0 : st0 = As.reverse ++ st) (d : decode cc pc = .ok (.invokestatic index, 3)) (kx : ∀ (cd : Int32) (w1 : va_W), pxc cd w1 → ∃ w', putW w ps w1 = some w' ∧ px cd w') (k : ∀ (w1 : va_W), post w1 → ∃ w', putW w ps w1 = some w' ∧ WW E p l e R s m args below meth c A (cells + rm.cells) (slots + rm.slots) (vx_MQ below Qc (XX E px A) args s R.cells R.slots A) w' nL L (pc + 3) st) : WW E p l e R s m args below meth c A cells slots (vx_MQ below Qc (XX E px A) args s R.cells R.slots A) w nL L pc st0 := by
  intro H locs ls hP hD hS hl
  subst hst0
  have hPc : va_P (eD E) vwCl wc H := fun i q hq => by
    obtain ⟨k9, -, h9⟩ := placesC hps i q hq
    exact hP k9 q h9
  have hndb : va_nd ps = true := va_nd_of hnd
  have hDc : va_D A wc := hD.sub ps hndb hps
  have hKc := C.2.2.2.2.2.1
  have hFc : ∀ q, va_A wc H.size q → A q := va_free hD hS C.2.2.2.2.2.2.2.1 ps hps
  refine vx_callv (vx_runS (As := As) (rest := st) (g := F0 m pc ls (As.reverse ++ st)) ⟨C.1, C.2.1, C.2.2.1, C.2.2.2.1, C.2.2.2.2.1⟩ (hM H.size) (va_cwS As.length C.2.2.2.2.1 hg rfl rfl rfl hd hR) ⟨Pre2.blind E wc H.size _, fun U hU hW => ⟨rfl, ⟨by rw [hU], by rw [hU]; exact hPc, va_K.moved hW.alike hKc, hDc.weaken (fun _ _ _ _ => trivial), C.2.2.2.2.2.2.1.pass hS hFc hU hW⟩, hdc.warm hW⟩⟩ rfl rfl hl.size rfl (lv_room hst) d hf) hS (fun q _ h => hFc q h) hFc (fun q _ h => hFc q h) (fun En ce q9 u t H1 locs1 ht hvm hpx hB hz1 hk1 hS1 hce hcv hcl => ?_) (fun u t H1 locs1 ht hvm hw hB hz1 hk1 hS1 => ?_)
  · obtain ⟨hnm, hP1, hD1⟩ := hB
    rw [ht] at hP1
    obtain ⟨w', hw1, k1⟩ := kx u.1 u.2 hpx
    obtain ⟨hP2, hD2⟩ := joinW hP hD ps hps hnd hk1 hFc hP1 hD1 hw1
    exact vx_out (fun x hx => (hno x hx).elim) C.2.2.2.2.2.2.2.2.1 hce hcv hcl (fun t2 ht2 hvm2 => ⟨(u.1, w'), k1, ⟨hnm, by rw [ht2]; exact hP2, hD2⟩, hS1.F ht2⟩) hS1.2.2 hf.1 hf.2
  obtain ⟨hP1, hD1⟩ := hB
  rw [ht] at hP1
  obtain ⟨w', hw1, k1⟩ := k u hw
  obtain ⟨hP2, hD2⟩ := joinW hP hD ps hps hnd hk1 hFc hP1 hD1 hw1
  exact k1 H1 locs1 ls hP2 hD2 hS1 hl
theorem putW_app : ∀ (ps : List Nat) (w0 t c1 t1 w0' : va_W), putW w0 ps c1 = some w0' → c1.length = ps.length → (∀ p ∈ ps, p < w0.length) → t.length ≤ t1.length → putW (w0 ++ t) (ps ++ List.range' w0.length t.length) (c1 ++ t1) = some (w0' ++ t1) := by
  have tail : ∀ (t a t1 : va_W), t.length ≤ t1.length → putW (a ++ t) (List.range' a.length t.length) t1 = some (a ++ t1) := by
    intro t
    induction t with
    | nil => intro a t1 _; simp [putW]
    | cons x t ih =>
      intro a t1 h
      cases t1 with
      | nil => simp at h
      | cons y t1 =>
        simp only [List.length_cons, List.range'_succ, putW]
        have e : (a ++ x :: t).set a.length y = (a ++ [y]) ++ t := by
          rw [List.set_append_right _ _ (Nat.le_refl _)]
          simp
        rw [e]
        have := ih (a ++ [y]) t1 (by simpa using h)
        rw [List.length_append] at this
        simpa using this
  intro ps
  induction ps with
  | nil =>
    intro w0 t c1 t1 w0' h hl _ ht
    have : c1 = [] := List.eq_nil_of_length_eq_zero hl
    subst this
    simp only [putW, List.append_nil, Option.some.injEq] at h
    subst h
    simpa using tail t w0 t1 ht
  | cons p ps ih =>
    intro w0 t c1 t1 w0' h hl hp ht
    cases c1 with
    | nil => simp at hl
    | cons x c1 =>
      simp only [putW] at h
      simp only [List.cons_append, putW]
      rw [List.set_append_left _ _ (hp p List.mem_cons_self)]
      have := ih (w0.set p x) t c1 t1 w0' h (by simpa using hl) (fun q hq => by rw [List.length_set]; exact hp q (List.mem_cons_of_mem _ hq)) ht
      rw [List.length_set] at this
      exact this
theorem map_app {ps : List Nat} {w0 t c0 : va_W} (h : ps.map (fun i => w0[i]?) = c0.map some) : (ps ++ List.range' w0.length t.length).map (fun i => (w0 ++ t)[i]?) = (c0 ++ t).map some := by
  have hl : ∀ p ∈ ps, p < w0.length := by
    intro p hp
    obtain ⟨i, hi, he⟩ := List.mem_iff_getElem.mp hp
    have h1 : (ps.map (fun i => w0[i]?))[i]? = some w0[p]? := by rw [List.getElem?_map, List.getElem?_eq_getElem hi, he]; rfl
    rw [h, List.getElem?_map] at h1
    cases hq : c0[i]? with
    | none => rw [hq] at h1; cases h1
    | some q =>
      rw [hq] at h1
      have h2 : w0[p]? = some q := by simpa using h1.symm
      exact (List.getElem?_eq_some_iff.mp h2).1
  rw [List.map_append, List.map_append]
  congr 1
  · rw [← h]
    exact List.map_congr_left (fun p hp => List.getElem?_append_left (hl p hp))
  · apply List.ext_getElem?
    intro i
    rw [List.getElem?_map, List.getElem?_map]
    by_cases hi : i < t.length
    · rw [List.getElem?_range' hi, List.getElem?_eq_getElem hi]
      show some ((w0 ++ t)[w0.length + 1 * i]?) = some (some t[i])
      rw [Nat.one_mul, List.getElem?_append_right (Nat.le_add_right _ _), Nat.add_sub_cancel_left, List.getElem?_eq_getElem hi]
    · rw [List.getElem?_eq_none (by simpa using hi), List.getElem?_eq_none (by simpa using hi)]
      rfl
theorem lt_of_map {ps : List Nat} {w0 c0 : va_W} (h : ps.map (fun i => w0[i]?) = c0.map some) : ∀ p ∈ ps, p < w0.length := by
  intro p hp
  obtain ⟨i, hi, he⟩ := List.mem_iff_getElem.mp hp
  have h1 : (ps.map (fun i => w0[i]?))[i]? = some w0[p]? := by rw [List.getElem?_map, List.getElem?_eq_getElem hi, he]; rfl
  rw [h, List.getElem?_map] at h1
  cases hq : c0[i]? with
  | none => rw [hq] at h1; cases h1
  | some q =>
    rw [hq] at h1
    have h2 : w0[p]? = some q := by simpa using h1.symm
    exact (List.getElem?_eq_some_iff.mp h2).1
theorem nd_app {ps : List Nat} {w0 t c0 : va_W} (h : ps.map (fun i => w0[i]?) = c0.map some) (hn : ps.Nodup) : (ps ++ List.range' w0.length t.length).Nodup := by
  refine List.nodup_append.mpr ⟨hn, List.nodup_range', fun a ha b hb => ?_⟩
  have h1 := lt_of_map h a ha
  have h2 := (List.mem_range'_1.mp hb).1
  omega
theorem len_of_map {ps : List Nat} {w0 c0 : va_W} (h : ps.map (fun i => w0[i]?) = c0.map some) : ps.length = c0.length := by
  have := congrArg List.length h
  simpa using this
theorem r_callT_CV (C : CX E p l s m args meth c cc nL own ret A) {y : MethodName} {cy : ByteArray} {mL index : Nat} {ry : Option FieldType} {rm : Room} {b : Nat} {Cn : String} {c0 w0 t : va_W} {post : va_W → Prop} (As : List Value) (hM : CV E l y cy mL ry rm (.ref b :: As) (c0 ++ t) post) (ps : List Nat) (hps : ps.map (fun i => w0[i]?) = c0.map some) (hnd : ps.Nodup) (i0 : Nat) {ci : Nat} {fs : List Value} {q9 : vw_C} (hr : (c0 ++ t)[i0]? = some (b, .inr (ci, fs))) (hc9 : vwCl[ci]? = some q9) (hq9 : q9.1 = Cn) (hg : GoodIn GW (wsV own index Cn y (wsG y cy mL ry))) (hd : y.cls = Cn ∧ y.cls ≠ "java/lang/invoke/MethodHandle" ∧ y.cls ≠ "java/lang/invoke/VarHandle" ∧ (parseMethodDescriptor y.desc).map (fun d => d.parameters.length) = some As.length) (hR : rm.frames + 1 ≤ R.frames ∧ 8 + (mL + 11) + rm.locals ≤ R.locals) (hf : cells + rm.cells ≤ R.cells ∧ slots + rm.slots ≤ R.slots) (hst : (st.map fun v => v.category).sum ≤ 8) {st0 : List Value} (hst0 : st0 = As.reverse ++ .ref b :: st) (d : decode cc pc = .ok (.invokevirtual index, 3)) (hw0 : w = w0 ++ t) (k : ∀ (w1 : va_W), post w1 → ∃ c1 t1 w0', w1 = c1 ++ t1 ∧ c1.length = c0.length ∧ t.length ≤ t1.length ∧ putW w0 ps c1 = some w0' ∧ WW E p l e R s m args below meth c A (cells + rm.cells) (slots + rm.slots) Q (w0' ++ t1) nL L (pc + 3) st) : WW E p l e R s m args below meth c A cells slots Q w nL L pc st0 := by
  subst hw0
  refine r_callV_CV C As hM (ps ++ List.range' w0.length t.length) (map_app hps) (nd_app hps hnd) i0 hr hc9 hq9 hg hd hR hf hst hst0 d (fun w1 hq => ?_)
  obtain ⟨c1, t1, w0', e1, e2, e3, e4, k1⟩ := k w1 hq
  subst e1
  exact ⟨_, putW_app ps w0 t c1 t1 w0' e4 (e2.trans (len_of_map hps).symm) (lt_of_map hps) e3, k1⟩
theorem r_callT_CI (C : CX E p l s m args meth c cc nL own ret A) {y : MethodName} {cy : ByteArray} {mL index : Nat} {ry : Option FieldType} {rm : Room} {b : Nat} {Cn : String} {c0 w0 t : va_W} {post : Int32 → va_W → Prop} (As : List Value) (hM : CI E l y cy mL ry rm (.ref b :: As) (c0 ++ t) post) (ps : List Nat) (hps : ps.map (fun i => w0[i]?) = c0.map some) (hnd : ps.Nodup) (i0 : Nat) {ci : Nat} {fs : List Value} {q9 : vw_C} (hr : (c0 ++ t)[i0]? = some (b, .inr (ci, fs))) (hc9 : vwCl[ci]? = some q9) (hq9 : q9.1 = Cn) (hg : GoodIn GW (wsV own index Cn y (wsG y cy mL ry))) (hd : y.cls = Cn ∧ y.cls ≠ "java/lang/invoke/MethodHandle" ∧ y.cls ≠ "java/lang/invoke/VarHandle" ∧ (parseMethodDescriptor y.desc).map (fun d => d.parameters.length) = some As.length) (hR : rm.frames + 1 ≤ R.frames ∧ 8 + (mL + 11) + rm.locals ≤ R.locals) (hf : cells + rm.cells ≤ R.cells ∧ slots + rm.slots ≤ R.slots) (hst : (st.map fun v => v.category).sum ≤ 8) {st0 : List Value} (hst0 : st0 = As.reverse ++ .ref b :: st) (d : decode cc pc = .ok (.invokevirtual index, 3)) (hw0 : w = w0 ++ t) (k : ∀ (r : Int32) (w1 : va_W), post r w1 → ∃ c1 t1 w0', w1 = c1 ++ t1 ∧ c1.length = c0.length ∧ t.length ≤ t1.length ∧ putW w0 ps c1 = some w0' ∧ WW E p l e R s m args below meth c A (cells + rm.cells) (slots + rm.slots) Q (w0' ++ t1) nL L (pc + 3) (.int r :: st)) : WW E p l e R s m args below meth c A cells slots Q w nL L pc st0 := by
  subst hw0
  refine r_callV_CI C As hM (ps ++ List.range' w0.length t.length) (map_app hps) (nd_app hps hnd) i0 hr hc9 hq9 hg hd hR hf hst hst0 d (fun r w1 hq => ?_)
  obtain ⟨c1, t1, w0', e1, e2, e3, e4, k1⟩ := k r w1 hq
  subst e1
  exact ⟨_, putW_app ps w0 t c1 t1 w0' e4 (e2.trans (len_of_map hps).symm) (lt_of_map hps) e3, k1⟩
theorem r_callV_CD (C : CX E p l s m args meth c cc nL own ret A) {y : MethodName} {cy : ByteArray} {mL index : Nat} {ry : Option FieldType} {rm : Room} {b : Nat} {Cn : String} {wc : va_W} {post : UInt64 → va_W → Prop} (As : List Value) (hM : CD E l y cy mL ry rm (.ref b :: As) wc post) (ps : List Nat) (hps : ps.map (fun i => w[i]?) = wc.map some) (hnd : ps.Nodup) (i0 : Nat) {ci : Nat} {fs : List Value} {q9 : vw_C} (hr : wc[i0]? = some (b, .inr (ci, fs))) (hc9 : vwCl[ci]? = some q9) (hq9 : q9.1 = Cn) (hg : GoodIn GW (wsV own index Cn y (wsG y cy mL ry))) (hd : y.cls = Cn ∧ y.cls ≠ "java/lang/invoke/MethodHandle" ∧ y.cls ≠ "java/lang/invoke/VarHandle" ∧ (parseMethodDescriptor y.desc).map (fun d => d.parameters.length) = some As.length) (hR : rm.frames + 1 ≤ R.frames ∧ 8 + (mL + 11) + rm.locals ≤ R.locals) (hf : cells + rm.cells ≤ R.cells ∧ slots + rm.slots ≤ R.slots) (hst : (st.map fun v => v.category).sum ≤ 8) {st0 : List Value} (hst0 : st0 = As.reverse ++ .ref b :: st) (d : decode cc pc = .ok (.invokevirtual index, 3)) (k : ∀ (r : UInt64) (w1 : va_W), post r w1 → ∃ w', putW w ps w1 = some w' ∧ WW E p l e R s m args below meth c A (cells + rm.cells) (slots + rm.slots) Q w' nL L (pc + 3) (.double r :: st)) : WW E p l e R s m args below meth c A cells slots Q w nL L pc st0 := by
  intro H locs ls hP hD hS hl
  subst hst0
  have hPc : va_P (eD E) vwCl wc H := fun i q hq => by
    obtain ⟨k9, -, h9⟩ := placesC hps i q hq
    exact hP k9 q h9
  have hndb : va_nd ps = true := va_nd_of hnd
  have hDc : va_D A wc := hD.sub ps hndb hps
  have hKc := C.2.2.2.2.2.1
  have hFc : ∀ q, va_A wc H.size q → A q := va_free hD hS C.2.2.2.2.2.2.2.1 ps hps
  refine va_calld (va_runV (As := As) (rest := st) (g := F0 m pc ls (As.reverse ++ .ref b :: st)) ⟨C.1, C.2.1, C.2.2.1, C.2.2.2.1, C.2.2.2.2.1⟩ (hM H.size) (cwV As.length C.2.2.2.2.1 hg rfl rfl rfl hd hR) ⟨Pre.blind E wc H.size _, by subst hq9; exact va_recv hKc hPc hc9 hr, fun U hU hW => ⟨rfl, by rw [hU], by rw [hU]; exact hPc, va_K.moved hW.alike hKc, hDc.weaken (fun _ _ _ _ => trivial), C.2.2.2.2.2.2.1.pass hS hFc hU hW⟩⟩ rfl rfl hl.size rfl (lv_room hst) d hf) hS (fun q _ h => hFc q h) hFc (fun r u t H1 locs1 ht hvm hw hB hz1 hk1 hS1 => ?_)
  obtain ⟨hP1, hD1⟩ := hB
  rw [ht] at hP1
  obtain ⟨w', hw1, k1⟩ := k r u hw
  obtain ⟨hP2, hD2⟩ := joinW hP hD ps hps hnd hk1 hFc hP1 hD1 hw1
  exact k1 H1 locs1 ls hP2 hD2 hS1 hl
theorem r_callV_CF (C : CX E p l s m args meth c cc nL own ret A) {y : MethodName} {cy : ByteArray} {mL index : Nat} {ry : Option FieldType} {rm : Room} {b : Nat} {Cn : String} {wc : va_W} {post : UInt32 → va_W → Prop} (As : List Value) (hM : CF E l y cy mL ry rm (.ref b :: As) wc post) (ps : List Nat) (hps : ps.map (fun i => w[i]?) = wc.map some) (hnd : ps.Nodup) (i0 : Nat) {ci : Nat} {fs : List Value} {q9 : vw_C} (hr : wc[i0]? = some (b, .inr (ci, fs))) (hc9 : vwCl[ci]? = some q9) (hq9 : q9.1 = Cn) (hg : GoodIn GW (wsV own index Cn y (wsG y cy mL ry))) (hd : y.cls = Cn ∧ y.cls ≠ "java/lang/invoke/MethodHandle" ∧ y.cls ≠ "java/lang/invoke/VarHandle" ∧ (parseMethodDescriptor y.desc).map (fun d => d.parameters.length) = some As.length) (hR : rm.frames + 1 ≤ R.frames ∧ 8 + (mL + 11) + rm.locals ≤ R.locals) (hf : cells + rm.cells ≤ R.cells ∧ slots + rm.slots ≤ R.slots) (hst : (st.map fun v => v.category).sum ≤ 8) {st0 : List Value} (hst0 : st0 = As.reverse ++ .ref b :: st) (d : decode cc pc = .ok (.invokevirtual index, 3)) (k : ∀ (r : UInt32) (w1 : va_W), post r w1 → ∃ w', putW w ps w1 = some w' ∧ WW E p l e R s m args below meth c A (cells + rm.cells) (slots + rm.slots) Q w' nL L (pc + 3) (.float r :: st)) : WW E p l e R s m args below meth c A cells slots Q w nL L pc st0 := by
  intro H locs ls hP hD hS hl
  subst hst0
  have hPc : va_P (eD E) vwCl wc H := fun i q hq => by
    obtain ⟨k9, -, h9⟩ := placesC hps i q hq
    exact hP k9 q h9
  have hndb : va_nd ps = true := va_nd_of hnd
  have hDc : va_D A wc := hD.sub ps hndb hps
  have hKc := C.2.2.2.2.2.1
  have hFc : ∀ q, va_A wc H.size q → A q := va_free hD hS C.2.2.2.2.2.2.2.1 ps hps
  refine va_callf (va_runV (As := As) (rest := st) (g := F0 m pc ls (As.reverse ++ .ref b :: st)) ⟨C.1, C.2.1, C.2.2.1, C.2.2.2.1, C.2.2.2.2.1⟩ (hM H.size) (cwV As.length C.2.2.2.2.1 hg rfl rfl rfl hd hR) ⟨Pre.blind E wc H.size _, by subst hq9; exact va_recv hKc hPc hc9 hr, fun U hU hW => ⟨rfl, by rw [hU], by rw [hU]; exact hPc, va_K.moved hW.alike hKc, hDc.weaken (fun _ _ _ _ => trivial), C.2.2.2.2.2.2.1.pass hS hFc hU hW⟩⟩ rfl rfl hl.size rfl (lv_room hst) d hf) hS (fun q _ h => hFc q h) hFc (fun r u t H1 locs1 ht hvm hw hB hz1 hk1 hS1 => ?_)
  obtain ⟨hP1, hD1⟩ := hB
  rw [ht] at hP1
  obtain ⟨w', hw1, k1⟩ := k r u hw
  obtain ⟨hP2, hD2⟩ := joinW hP hD ps hps hnd hk1 hFc hP1 hD1 hw1
  exact k1 H1 locs1 ls hP2 hD2 hS1 hl
end WROWS5
