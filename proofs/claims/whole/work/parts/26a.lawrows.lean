-- ===== the law's helpers: a method with a table of its own; what is caught =====
def HI (E : ENV) (l : Launch) (y : MethodName) (cc : ByteArray) (mL : Nat) (ret : Option FieldType) (hh : List (Nat × Nat × Nat × Nat)) (rm : Room) (args : List Value) (w : va_W) (post : Int32 → va_W → Prop) : Prop := ∀ sz, vx_Met l y (Cond.codeWith y cc mL ret hh :: GW) rm (va_Pc args (Pre2 E w sz)) (va_Qi post (Bk E (va_A w sz)) (va_A w sz)) (XX E (fun _ _ => False) (va_A w sz)) rm.cells rm.slots (va_A w sz)
def Catches (s : State) (args : Array Value) (own : String) (c : Code) (pc : Nat) (cd : Int32) (hp : Nat) : Prop := ∃ (pre suf : List ExceptionTableEntry) (x : ExceptionTableEntry) (name : String), c.exceptionTable.toList = pre ++ x :: suf ∧ (∀ z ∈ pre, covers z pc = false ∨ (z.catchType ≠ 0 ∧ ∃ nm : String, (Cond.classLink own z.catchType nm).before args s = true ∧ va_Nc (excN cd) nm s)) ∧ covers x pc = true ∧ x.catchType ≠ 0 ∧ (Cond.classLink own x.catchType name).before args s = true ∧ (Cond.castable (excN cd) name).before args s = true ∧ x.handlerPc = hp
section WROWS7
variable {E : ENV} {p : Program} {l : Launch} {e : Env} {R : Room} {s : State} {m : MethodId} {args : Array Value} {below : List Frame} {meth : Method} {c : Code} {cc : ByteArray} {nL : Nat} {own : String} {ret : Option FieldType} {A : Nat → Prop} {cells slots : Nat} {Q : State → Prop} {w : va_W} {L : List (Option Value)} {pc : Nat} {st : List Value}
theorem HI.of {y : MethodName} {rm : Room} {av : List Value} {hh : List (Nat × Nat × Nat × Nat)} {post : Int32 → va_W → Prop} (k : Nat) (hy : plainName y.cls = true) (hn : (lg_sl av).length ≤ nL) (body : ∀ (p : Program) (e : Env) (s : State) (m : MethodId) (below : List Frame) (meth : Method) (c : Code) (A : Nat → Prop), CX E p l s m av.toArray meth c cc nL y.cls ret A → c.exceptionTable.toList = tableOf hh → DC s → WW E p l e rm s m av.toArray below meth c A 0 0 (QXI E below post (fun _ _ => False) av.toArray s rm A) w nL (lPad av k) 0 []) : HI E l y cc nL ret hh rm av w post := by
  intro sz
  refine vx_ofWH (cc := cc) (maxL := nL) (ret := ret) (hh := hh) hy rfl ?_
  intro p e s m args below meth c s₁ B hml hv
  obtain ⟨rfl, ⟨hsz, hP, hK, hD0, hE⟩, hdc⟩ := hv
  subst hsz
  have hpre := atoms_spec (ws := Cond.codeWith y cc nL ret hh :: GW) B.pre
  have hts : ∀ x ∈ GW, x.before av.toArray s = true := fun x hx => hpre x (List.mem_cons_of_mem _ hx)
  have hown : s.vm.findClass y.cls = some m.cls := findClass_of_methodNamed B.named
  have hct : c.exceptionTable.toList = tableOf hh := vx_table (x := y) B (hpre _ List.mem_cons_self)
  rw [lg_entry_eq]
  exact body p e s m below meth c _ ⟨B.exec, B.bytes, hml, hown, hts, hK, hE, fun q h => Or.inr h, B.notSynchronized, B.returns⟩ hct hdc s.heap [] _ hP hD0.self va_S.rf (lH.entry av hn)
theorem r_callH (C : CX E p l s m args meth c cc nL own ret A) {y : MethodName} {cy : ByteArray} {mL index : Nat} {ry : Option FieldType} {rm : Room} {b : Nat} {Cn : String} {wc : va_W} {post : Int32 → va_W → Prop} (As : List Value) {pxc : Int32 → va_W → Prop} (hdc : DC s) (hM : XI E l y cy mL ry rm (.ref b :: As) wc post pxc) (ps : List Nat) (hps : ps.map (fun i => w[i]?) = wc.map some) (hnd : ps.Nodup) (i0 : Nat) {ci : Nat} {fs : List Value} {q9 : vw_C} (hr : wc[i0]? = some (b, .inr (ci, fs))) (hc9 : vwCl[ci]? = some q9) (hq9 : q9.1 = Cn) (hg : GoodIn GW (wsV own index Cn y (wsG y cy mL ry))) (hd : y.cls = Cn ∧ y.cls ≠ "java/lang/invoke/MethodHandle" ∧ y.cls ≠ "java/lang/invoke/VarHandle" ∧ (parseMethodDescriptor y.desc).map (fun d => d.parameters.length) = some As.length) (hR : rm.frames + 1 ≤ R.frames ∧ 8 + (mL + 11) + rm.locals ≤ R.locals) (hf : cells + rm.cells ≤ R.cells ∧ slots + rm.slots ≤ R.slots) (hst : (st.map fun v => v.category).sum ≤ 8) {st0 : List Value} (hst0 : st0 = As.reverse ++ .ref b :: st) (d : decode cc pc = .ok (.invokevirtual index, 3)) (kx : ∀ (cd : Int32) (w1 : va_W), pxc cd w1 → ∃ w', putW w ps w1 = some w' ∧ ∃ hp : Nat, Catches s args own c pc cd hp ∧ ∀ q : Nat, WW E p l e R s m args below meth c A (cells + rm.cells) (slots + rm.slots) Q w' nL L hp [.ref q]) (k : ∀ (r : Int32) (w1 : va_W), post r w1 → ∃ w', putW w ps w1 = some w' ∧ WW E p l e R s m args below meth c A (cells + rm.cells) (slots + rm.slots) Q w' nL L (pc + 3) (.int r :: st)) : WW E p l e R s m args below meth c A cells slots Q w nL L pc st0 := by
  intro H locs ls hP hD hS hl
  subst hst0
  have hPc : va_P (eD E) vwCl wc H := fun i q hq => by
    obtain ⟨k9, -, h9⟩ := placesC hps i q hq
    exact hP k9 q h9
  have hndb : va_nd ps = true := va_nd_of hnd
  have hDc : va_D A wc := hD.sub ps hndb hps
  have hKc := C.2.2.2.2.2.1
  have hFc : ∀ q, va_A wc H.size q → A q := va_free hD hS C.2.2.2.2.2.2.2.1 ps hps
  refine vx_calli (vx_runV (As := As) (rest := st) (g := F0 m pc ls (As.reverse ++ .ref b :: st)) ⟨C.1, C.2.1, C.2.2.1, C.2.2.2.1, C.2.2.2.2.1⟩ (hM H.size) (cwV As.length C.2.2.2.2.1 hg rfl rfl rfl hd hR) ⟨Pre2.blind E wc H.size _, by subst hq9; exact va_recv hKc hPc hc9 hr, fun U hU hW => ⟨rfl, ⟨by rw [hU], by rw [hU]; exact hPc, va_K.moved hW.alike hKc, hDc.weaken (fun _ _ _ _ => trivial), C.2.2.2.2.2.2.1.pass hS hFc hU hW⟩, hdc.warm hW⟩⟩ rfl rfl hl.size rfl (lv_room hst) d hf) hS (fun q _ h => hFc q h) hFc (fun q _ h => hFc q h) (fun En ce q9 u t H1 locs1 ht hvm hpx hB hz1 hk1 hS1 hce hcv hcl => ?_) (fun r u t H1 locs1 ht hvm hw hB hz1 hk1 hS1 => ?_)
  · obtain ⟨hnm, hP1, hD1⟩ := hB
    rw [ht] at hP1
    obtain ⟨w', hw1, hp, ⟨pre, suf, x, name, g1, g2, g3, g4, g5, g6, g7⟩, k1⟩ := kx u.1 u.2 hpx
    obtain ⟨hP2, hD2⟩ := joinW hP hD ps hps hnd hk1 hFc hP1 hD1 hw1
    subst hnm
    subst g7
    exact vx_catch C.2.2.2.1 pre x suf g1 g2 g3 g4 g5 g6 hce hcv hcl (k1 q9 H1 locs1 ls hP2 hD2 hS1 hl)
  obtain ⟨hP1, hD1⟩ := hB
  rw [ht] at hP1
  obtain ⟨w', hw1, k1⟩ := k r u hw
  obtain ⟨hP2, hD2⟩ := joinW hP hD ps hps hnd hk1 hFc hP1 hD1 hw1
  exact k1 H1 locs1 ls hP2 hD2 hS1 hl
theorem r_callHT (C : CX E p l s m args meth c cc nL own ret A) {y : MethodName} {cy : ByteArray} {mL index : Nat} {ry : Option FieldType} {rm : Room} {b : Nat} {Cn : String} {c0 w0 t : va_W} {post : Int32 → va_W → Prop} (As : List Value) {pxc : Int32 → va_W → Prop} (hdc : DC s) (hM : XI E l y cy mL ry rm (.ref b :: As) (c0 ++ t) post pxc) (ps : List Nat) (hps : ps.map (fun i => w0[i]?) = c0.map some) (hnd : ps.Nodup) (i0 : Nat) {ci : Nat} {fs : List Value} {q9 : vw_C} (hr : (c0 ++ t)[i0]? = some (b, .inr (ci, fs))) (hc9 : vwCl[ci]? = some q9) (hq9 : q9.1 = Cn) (hg : GoodIn GW (wsV own index Cn y (wsG y cy mL ry))) (hd : y.cls = Cn ∧ y.cls ≠ "java/lang/invoke/MethodHandle" ∧ y.cls ≠ "java/lang/invoke/VarHandle" ∧ (parseMethodDescriptor y.desc).map (fun d => d.parameters.length) = some As.length) (hR : rm.frames + 1 ≤ R.frames ∧ 8 + (mL + 11) + rm.locals ≤ R.locals) (hf : cells + rm.cells ≤ R.cells ∧ slots + rm.slots ≤ R.slots) (hst : (st.map fun v => v.category).sum ≤ 8) {st0 : List Value} (hst0 : st0 = As.reverse ++ .ref b :: st) (d : decode cc pc = .ok (.invokevirtual index, 3)) (hw0 : w = w0 ++ t) (kx : ∀ (cd : Int32) (w1 : va_W), pxc cd w1 → ∃ c1 t1 w0', w1 = c1 ++ t1 ∧ c1.length = c0.length ∧ t.length ≤ t1.length ∧ putW w0 ps c1 = some w0' ∧ ∃ hp : Nat, Catches s args own c pc cd hp ∧ ∀ q : Nat, WW E p l e R s m args below meth c A (cells + rm.cells) (slots + rm.slots) Q (w0' ++ t1) nL L hp [.ref q]) (k : ∀ (r : Int32) (w1 : va_W), post r w1 → ∃ c1 t1 w0', w1 = c1 ++ t1 ∧ c1.length = c0.length ∧ t.length ≤ t1.length ∧ putW w0 ps c1 = some w0' ∧ WW E p l e R s m args below meth c A (cells + rm.cells) (slots + rm.slots) Q (w0' ++ t1) nL L (pc + 3) (.int r :: st)) : WW E p l e R s m args below meth c A cells slots Q w nL L pc st0 := by
  subst hw0
  refine r_callH C As hdc hM (ps ++ List.range' w0.length t.length) (map_app hps) (nd_app hps hnd) i0 hr hc9 hq9 hg hd hR hf hst hst0 d (fun cd w1 hq => ?_) (fun r w1 hq => ?_)
  · obtain ⟨c1, t1, w0', e1, e2, e3, e4, k1⟩ := kx cd w1 hq
    subst e1
    exact ⟨_, putW_app ps w0 t c1 t1 w0' e4 (e2.trans (len_of_map hps).symm) (lt_of_map hps) e3, k1⟩
  · obtain ⟨c1, t1, w0', e1, e2, e3, e4, k1⟩ := k r w1 hq
    subst e1
    exact ⟨_, putW_app ps w0 t c1 t1 w0' e4 (e2.trans (len_of_map hps).symm) (lt_of_map hps) e3, k1⟩
theorem r_callSH (C : CX E p l s m args meth c cc nL own ret A) {y : MethodName} {cy : ByteArray} {mL index : Nat} {ry : Option FieldType} {rm : Room} {wc : va_W} {post : Int32 → va_W → Prop} (As : List Value) {hh : List (Nat × Nat × Nat × Nat)} (hdc : DC s) (hM : HI E l y cy mL ry hh rm (As) wc post) (ps : List Nat) (hps : ps.map (fun i => w[i]?) = wc.map some) (hnd : ps.Nodup) (hg : GoodIn GW (va_wsS own index y (Cond.codeWith y cy mL ry hh :: GW))) (hd : y.cls ≠ "java/lang/invoke/MethodHandle" ∧ y.cls ≠ "java/lang/invoke/VarHandle" ∧ (parseMethodDescriptor y.desc).map (fun d => d.parameters.length) = some As.length) (hR : rm.frames + 1 ≤ R.frames ∧ 8 + (mL + 11) + rm.locals ≤ R.locals) (hf : cells + rm.cells ≤ R.cells ∧ slots + rm.slots ≤ R.slots) (hst : (st.map fun v => v.category).sum ≤ 8) {st0 : List Value} (hst0 : st0 = As.reverse ++ st) (d : decode cc pc = .ok (.invokestatic index, 3)) (k : ∀ (r : Int32) (w1 : va_W), post r w1 → ∃ w', putW w ps w1 = some w' ∧ WW E p l e R s m args below meth c A (cells + rm.cells) (slots + rm.slots) Q w' nL L (pc + 3) (.int r :: st)) : WW E p l e R s m args below meth c A cells slots Q w nL L pc st0 := by
  intro H locs ls hP hD hS hl
  subst hst0
  have hPc : va_P (eD E) vwCl wc H := fun i q hq => by
    obtain ⟨k9, -, h9⟩ := placesC hps i q hq
    exact hP k9 q h9
  have hndb : va_nd ps = true := va_nd_of hnd
  have hDc : va_D A wc := hD.sub ps hndb hps
  have hKc := C.2.2.2.2.2.1
  have hFc : ∀ q, va_A wc H.size q → A q := va_free hD hS C.2.2.2.2.2.2.2.1 ps hps
  refine vx_calli (vx_runSX (As := As) (rest := st) (g := F0 m pc ls (As.reverse ++ st)) ⟨C.1, C.2.1, C.2.2.1, C.2.2.2.1, C.2.2.2.2.1⟩ (hM H.size) (vx_cwSW As.length C.2.2.2.2.1 hg rfl rfl rfl hd hR) ⟨Pre2.blind E wc H.size _, fun U hU hW => ⟨rfl, ⟨by rw [hU], by rw [hU]; exact hPc, va_K.moved hW.alike hKc, hDc.weaken (fun _ _ _ _ => trivial), C.2.2.2.2.2.2.1.pass hS hFc hU hW⟩, hdc.warm hW⟩⟩ rfl rfl hl.size rfl (lv_room hst) d hf) hS (fun q _ h => hFc q h) hFc (fun q _ h => hFc q h) (fun En ce q9 u t H1 locs1 ht hvm hpx hB hz1 hk1 hS1 hce hcv hcl => hpx.elim) (fun r u t H1 locs1 ht hvm hw hB hz1 hk1 hS1 => ?_)
  obtain ⟨hP1, hD1⟩ := hB
  rw [ht] at hP1
  obtain ⟨w', hw1, k1⟩ := k r u hw
  obtain ⟨hP2, hD2⟩ := joinW hP hD ps hps hnd hk1 hFc hP1 hD1 hw1
  exact k1 H1 locs1 ls hP2 hD2 hS1 hl
theorem r_callSHT (C : CX E p l s m args meth c cc nL own ret A) {y : MethodName} {cy : ByteArray} {mL index : Nat} {ry : Option FieldType} {rm : Room} {c0 w0 t : va_W} {post : Int32 → va_W → Prop} (As : List Value) {hh : List (Nat × Nat × Nat × Nat)} (hdc : DC s) (hM : HI E l y cy mL ry hh rm (As) (c0 ++ t) post) (ps : List Nat) (hps : ps.map (fun i => w0[i]?) = c0.map some) (hnd : ps.Nodup) (hg : GoodIn GW (va_wsS own index y (Cond.codeWith y cy mL ry hh :: GW))) (hd : y.cls ≠ "java/lang/invoke/MethodHandle" ∧ y.cls ≠ "java/lang/invoke/VarHandle" ∧ (parseMethodDescriptor y.desc).map (fun d => d.parameters.length) = some As.length) (hR : rm.frames + 1 ≤ R.frames ∧ 8 + (mL + 11) + rm.locals ≤ R.locals) (hf : cells + rm.cells ≤ R.cells ∧ slots + rm.slots ≤ R.slots) (hst : (st.map fun v => v.category).sum ≤ 8) {st0 : List Value} (hst0 : st0 = As.reverse ++ st) (d : decode cc pc = .ok (.invokestatic index, 3)) (hw0 : w = w0 ++ t) (k : ∀ (r : Int32) (w1 : va_W), post r w1 → ∃ c1 t1 w0', w1 = c1 ++ t1 ∧ c1.length = c0.length ∧ t.length ≤ t1.length ∧ putW w0 ps c1 = some w0' ∧ WW E p l e R s m args below meth c A (cells + rm.cells) (slots + rm.slots) Q (w0' ++ t1) nL L (pc + 3) (.int r :: st)) : WW E p l e R s m args below meth c A cells slots Q w nL L pc st0 := by
  subst hw0
  refine r_callSH C As hdc hM (ps ++ List.range' w0.length t.length) (map_app hps) (nd_app hps hnd) hg hd hR hf hst hst0 d (fun r w1 hq => ?_)
  obtain ⟨c1, t1, w0', e1, e2, e3, e4, k1⟩ := k r w1 hq
  subst e1
  exact ⟨_, putW_app ps w0 t c1 t1 w0' e4 (e2.trans (len_of_map hps).symm) (lt_of_map hps) e3, k1⟩
end WROWS7
theorem gw_SW {own : String} {idx mL : Nat} {y : MethodName} {cc : ByteArray} {ret : Option FieldType} {hh : List (Nat × Nat × Nat × Nat)} (h1 : Cond.methodLink own idx y ∈ GW) (h2 : Cond.static y ∈ GW) (h4 : Cond.initialized y.cls ∈ GW) (h5 : Cond.codeWith y cc mL ret hh ∈ GW) : GoodIn GW (va_wsS own idx y (Cond.codeWith y cc mL ret hh :: GW)) := gw_sub fun w hw => by
  rcases List.mem_append.mp hw with h | h
  · simp only [List.mem_cons, List.not_mem_nil, or_false] at h
    rcases h with rfl | rfl | rfl <;> assumption
  · rcases List.mem_cons.mp h with e | h
    · rw [e]; exact h5
    · exact h

theorem wSg_len (E : ENV) (a : Nat → Nat) (S : VV × VV × VV × VV × VV × Int32) : (wSg E a S).length = 61 := rfl
theorem hpA (E : ENV) (a : Nat → Nat) (S : VV × VV × VV × VV × VV × Int32) (z : va_W) : ([0, 1, 2, 3, 4, 5, 6, 7, 8, 9, 10, 11, 12, 13, 14, 15, 16, 17, 18, 19, 20, 21, 22, 23, 24, 25, 26, 27, 28, 29, 30, 31, 32, 33, 34, 35, 36, 37, 38, 39, 40, 41, 42, 43, 44, 45, 46, 47, 48, 49, 50, 51, 52, 53, 54, 55, 56, 57, 58, 59, 60] : List Nat).map (fun i => (wSg E a S ++ z)[i]?) = (wSg E a S).map some := seg_mapL [] (wSg E a S) z (List.nil_append _).symm 61 (wSg_len E a S) [0, 1, 2, 3, 4, 5, 6, 7, 8, 9, 10, 11, 12, 13, 14, 15, 16, 17, 18, 19, 20, 21, 22, 23, 24, 25, 26, 27, 28, 29, 30, 31, 32, 33, 34, 35, 36, 37, 38, 39, 40, 41, 42, 43, 44, 45, 46, 47, 48, 49, 50, 51, 52, 53, 54, 55, 56, 57, 58, 59, 60] rfl
theorem pwA (E : ENV) (a : Nat → Nat) (S S' : VV × VV × VV × VV × VV × Int32) (z : va_W) : putW (wSg E a S ++ z) [0, 1, 2, 3, 4, 5, 6, 7, 8, 9, 10, 11, 12, 13, 14, 15, 16, 17, 18, 19, 20, 21, 22, 23, 24, 25, 26, 27, 28, 29, 30, 31, 32, 33, 34, 35, 36, 37, 38, 39, 40, 41, 42, 43, 44, 45, 46, 47, 48, 49, 50, 51, 52, 53, 54, 55, 56, 57, 58, 59, 60] (wSg E a S') = some (wSg E a S' ++ z) := seg_put1 [] (wSg E a S) (wSg E a S') z (List.nil_append _).symm (List.nil_append _) 61 (wSg_len E a S) (wSg_len E a S') [0, 1, 2, 3, 4, 5, 6, 7, 8, 9, 10, 11, 12, 13, 14, 15, 16, 17, 18, 19, 20, 21, 22, 23, 24, 25, 26, 27, 28, 29, 30, 31, 32, 33, 34, 35, 36, 37, 38, 39, 40, 41, 42, 43, 44, 45, 46, 47, 48, 49, 50, 51, 52, 53, 54, 55, 56, 57, 58, 59, 60] rfl
theorem hpB (E : ENV) (a : Nat → Nat) (fa : Nat → Nat → Nat) (S : VV × VV × VV × VV × VV × Int32) (T : Nat × Int32 × Int32 × (Nat → VV)) (x : Nat × va_E) : ([0, 1, 2, 3, 4, 5, 6, 7, 8, 9, 10, 11, 12, 13, 14, 15, 16, 17, 18, 19, 20, 21, 22, 23, 24, 25, 26, 27, 28, 29, 30, 31, 32, 33, 34, 35, 36, 37, 38, 39, 40, 41, 42, 43, 44, 45, 46, 47, 48, 49, 50, 51, 52, 53, 54, 55, 56, 57, 58, 59, 60, 62, 63] : List Nat).map (fun i => (wSg E a S ++ ([x] ++ hiC E a fa T))[i]?) = (wSg E a S ++ hiC E a fa T).map some := seg_map2 (hpA E a S ([x] ++ hiC E a fa T)) (seg_mapL (wSg E a S ++ [x]) (hiC E a fa T) [] (by simp only [List.append_assoc, List.nil_append, List.append_nil]) 2 rfl [62, 63] (by simp only [List.length_append, List.length_cons, List.length_nil, wSg_len]; rfl))
theorem pwB (E : ENV) (a : Nat → Nat) (fa fa' : Nat → Nat → Nat) (S S' : VV × VV × VV × VV × VV × Int32) (T T' : Nat × Int32 × Int32 × (Nat → VV)) (x : Nat × va_E) : putW (wSg E a S ++ ([x] ++ hiC E a fa T)) [0, 1, 2, 3, 4, 5, 6, 7, 8, 9, 10, 11, 12, 13, 14, 15, 16, 17, 18, 19, 20, 21, 22, 23, 24, 25, 26, 27, 28, 29, 30, 31, 32, 33, 34, 35, 36, 37, 38, 39, 40, 41, 42, 43, 44, 45, 46, 47, 48, 49, 50, 51, 52, 53, 54, 55, 56, 57, 58, 59, 60, 62, 63] (wSg E a S' ++ hiC E a fa' T') = some (wSg E a S' ++ ([x] ++ hiC E a fa' T')) := seg_put2 [] (wSg E a S) (wSg E a S') ([x] ++ hiC E a fa T) (List.nil_append _).symm 61 (wSg_len E a S) (wSg_len E a S') [0, 1, 2, 3, 4, 5, 6, 7, 8, 9, 10, 11, 12, 13, 14, 15, 16, 17, 18, 19, 20, 21, 22, 23, 24, 25, 26, 27, 28, 29, 30, 31, 32, 33, 34, 35, 36, 37, 38, 39, 40, 41, 42, 43, 44, 45, 46, 47, 48, 49, 50, 51, 52, 53, 54, 55, 56, 57, 58, 59, 60] rfl (seg_put1 (wSg E a S' ++ [x]) (hiC E a fa T) (hiC E a fa' T') [] (by simp only [List.append_assoc, List.nil_append, List.append_nil]) (by simp only [List.append_assoc, List.nil_append, List.append_nil]) 2 rfl rfl [62, 63] (by simp only [List.length_append, List.length_cons, List.length_nil, wSg_len]; rfl))
