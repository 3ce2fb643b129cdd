-- ===== String constants: length() and charAt(int); static rows of ints =====
section WSTR
variable {E : ENV} {p : Program} {l : Launch} {e : Env} {R : Room} {s : State} {m : MethodId} {args : Array Value} {below : List Frame} {meth : Method} {c : Code} {cc : ByteArray} {nL : Nat} {own : String} {ret : Option FieldType} {A : Nat → Prop} {cells slots : Nat} {Q : State → Prop} {w : va_W} {L : List (Option Value)} {pc : Nat} {st : List Value}
theorem r_getO (C : CX E p l s m args meth c cc nL own ret A) {o n d : String} {index q : Nat} {v : Value} (h : va_OF o n d v q A s s.heap) (hlink : Cond.fieldLink own index o n d ∈ GW) (dd : decode cc pc = .ok (.getfield index, 3)) (k : WW E p l e R s m args below meth c A cells slots Q w nL L (pc + 3) (v :: st)) : WW E p l e R s m args below meth c A cells slots Q w nL L pc (.ref q :: st) := fun H locs ls hP hD hS hl => vk_getf C.1 C.2.1 h hS C.2.2.2.1 (C.2.2.2.2.1 _ hlink) (fun _ h9 => h9) dd (k H locs ls hP hD hS hl)
theorem r_getZ (C : CX E p l s m args meth c cc nL own ret A) {o n d : String} {index : Nat} {v : Value} (h : va_Z o n d v A s s.heap) (hlink : Cond.fieldLink own index o n d ∈ GW) (dd : decode cc pc = .ok (.getstatic index, 3)) (k : WW E p l e R s m args below meth c A cells slots Q w nL L (pc + 3) (v :: st)) : WW E p l e R s m args below meth c A cells slots Q w nL L pc st := fun H locs ls hP hD hS hl => va_gets C.1 C.2.1 h hS C.2.2.2.1 (C.2.2.2.2.1 _ hlink) (fun _ h9 => h9) dd (k H locs ls hP hD hS hl)
theorem r_getsS (C : CX E p l s m args meth c cc nL own ret A) {nm : String} {f : List Int32} {index : Nat} (h : SAr nm f A s s.heap) (hlink : Cond.fieldLink own index "ShardGuard" nm "[I" ∈ GW) (dd : decode cc pc = .ok (.getstatic index, 3)) (k : ∀ t : Nat, va_T .int t f.length (fun j => .int (f.getD j 0)) A s s.heap → WW E p l e R s m args below meth c A cells slots Q w nL L (pc + 3) (.ref t :: st)) : WW E p l e R s m args below meth c A cells slots Q w nL L pc st := by
  obtain ⟨t, h1, h2⟩ := h
  exact r_getZ C h1 hlink dd (k t h2)
theorem r_getsSN (C : CX E p l s m args meth c cc nL own ret A) {nm : String} {f : List Int32} {index : Nat} (h : SAr nm f A s s.heap) (hlink : va_Nw (.fieldLinkNest own index "ShardGuard" nm "[I" "ShardGuard") s) (dd : decode cc pc = .ok (.getstatic index, 3)) (k : ∀ t : Nat, va_T .int t f.length (fun j => .int (f.getD j 0)) A s s.heap → WW E p l e R s m args below meth c A cells slots Q w nL L (pc + 3) (.ref t :: st)) : WW E p l e R s m args below meth c A cells slots Q w nL L pc st := by
  obtain ⟨t, h1, h2⟩ := h
  exact fun H locs ls hP hD hS hl => va_getsN C.1 C.2.1 h1 hS C.2.2.2.1 (va_Nw.use rfl hlink) (fun _ h9 => h9) dd (k t h2 H locs ls hP hD hS hl)
theorem r_stald (C : CX E p l s m args meth c cc nL own ret A) {t : Nat} {f : List Int32} {i : Int32} (h : va_T .int t f.length (fun j => .int (f.getD j 0)) A s s.heap) (hin : inb i f.length = true) (dd : decode cc pc = .ok (.iaload, 1)) (k : WW E p l e R s m args below meth c A cells slots Q w nL L (pc + 1) (.int (f.getD i.toNatClampNeg 0) :: st)) : WW E p l e R s m args below meth c A cells slots Q w nL L pc (.int i :: .ref t :: st) := fun H locs ls hP hD hS hl => va_ti C.1 C.2.1 h hS (inb_in hin) rfl dd (k H locs ls hP hD hS hl)
theorem r_stlen (C : CX E p l s m args meth c cc nL own ret A) {t N : Nat} {ty : FieldType} {f : Nat → Value} (h : va_T ty t N f A s s.heap) (dd : decode cc pc = .ok (.arraylength, 1)) (k : WW E p l e R s m args below meth c A cells slots Q w nL L (pc + 1) (.int (nI N) :: st)) : WW E p l e R s m args below meth c A cells slots Q w nL L pc (.ref t :: st) := fun H locs ls hP hD hS hl => va_tlen C.1 C.2.1 h hS rfl dd (k H locs ls hP hD hS hl)
theorem r_stbld (C : CX E p l s m args meth c cc nL own ret A) {t : Nat} {f : List Int32} {i : Int32} (h : va_T .byte t f.length (fun j => .int (f.getD j 0)) A s s.heap) (hin : inb i f.length = true) (dd : decode cc pc = .ok (.baload, 1)) (k : WW E p l e R s m args below meth c A cells slots Q w nL L (pc + 1) (.int (f.getD i.toNatClampNeg 0) :: st)) : WW E p l e R s m args below meth c A cells slots Q w nL L pc (.int i :: .ref t :: st) := fun H locs ls hP hD hS hl => va_tb C.1 C.2.1 h hS (inb_in hin) rfl dd (k H locs ls hP hD hS hl)
theorem r_i2c (C : CX E p l s m args meth c cc nL own ret A) {x v : Int32} (dd : decode cc pc = .ok (.i2c, 1)) (hv : (x.toUInt32 % 65536).toInt32 = v) (k : WW E p l e R s m args below meth c A cells slots Q w nL L (pc + 1) (.int v :: st)) : WW E p l e R s m args below meth c A cells slots Q w nL L pc (.int x :: st) := fun H locs ls hP hD hS hl => lv_i2c C.1 C.2.1 dd hv (k H locs ls hP hD hS hl)
theorem r_iretn {ty : FieldType} (C : CX E p l s m args meth c cc nL own (some ty) A) {post : Int32 → va_W → Prop} {v : Int32} (hn : narrow ty (.int v) = .int v) (hq : post v w) (hc : cells ≤ R.cells) (hs : slots ≤ R.slots) (d : decode cc pc = .ok (.ireturn, 1)) : WW E p l e R s m args below meth c A cells slots (QI E below post args s R A) w nL L pc [.int v] := fun H locs ls hP hD hS hl => W.widen hc hs (W.zret C.1 C.2.1 C.2.2.2.2.2.2.2.2.2 hn (fun t ht hW => ⟨⟨v, w, rfl, hq, by rw [ht]; exact hP, hD⟩, hS.F ht⟩) hS.2.2 d C.2.2.2.2.2.2.2.2.1)
theorem r_callO_CI (C : CX E p l s m args meth c cc nL own ret A) {y : MethodName} {cy : ByteArray} {mL index : Nat} {ry : Option FieldType} {rm : Room} {b : Nat} {Cn : String} {wc : va_W} {post : Int32 → va_W → Prop} (As : List Value) (hM : CI E l y cy mL ry rm (.ref b :: As) wc post) (ps : List Nat) (hps : ps.map (fun i => w[i]?) = wc.map some) (hnd : ps.Nodup) (hr : va_O Cn b A s s.heap) (hg : GoodIn GW (wsV own index Cn y (wsG y cy mL ry))) (hd : y.cls = Cn ∧ y.cls ≠ "java/lang/invoke/MethodHandle" ∧ y.cls ≠ "java/lang/invoke/VarHandle" ∧ (parseMethodDescriptor y.desc).map (fun d => d.parameters.length) = some As.length) (hR : rm.frames + 1 ≤ R.frames ∧ 8 + (mL + 11) + rm.locals ≤ R.locals) (hf : cells + rm.cells ≤ R.cells ∧ slots + rm.slots ≤ R.slots) (hst : (st.map fun v => v.category).sum ≤ 8) {st0 : List Value} (hst0 : st0 = As.reverse ++ .ref b :: st) (d : decode cc pc = .ok (.invokevirtual index, 3)) (k : ∀ (r : Int32) (w1 : va_W), post r w1 → ∃ w', putW w ps w1 = some w' ∧ WW E p l e R s m args below meth c A (cells + rm.cells) (slots + rm.slots) Q w' nL L (pc + 3) (.int r :: st)) : WW E p l e R s m args below meth c A cells slots Q w nL L pc st0 := by
  intro H locs ls hP hD hS hl
  subst hst0
  have hPc : va_P (eD E) vwCl wc H := fun i q hq => by
    obtain ⟨k9, -, h9⟩ := placesC hps i q hq
    exact hP k9 q h9
  have hndb : va_nd ps = true := va_nd_of hnd
  have hDc : va_D A wc := hD.sub ps hndb hps
  have hKc := C.2.2.2.2.2.1
  have hFc : ∀ q, va_A wc H.size q → A q := va_free hD hS C.2.2.2.2.2.2.2.1 ps hps
  refine va_calli (va_runV (As := As) (rest := st) (g := F0 m pc ls (As.reverse ++ .ref b :: st)) ⟨C.1, C.2.1, C.2.2.1, C.2.2.2.1, C.2.2.2.2.1⟩ (hM H.size) (cwV As.length C.2.2.2.2.1 hg rfl rfl rfl hd hR) ⟨Pre.blind E wc H.size _, by obtain ⟨cell, z1, z2, z3, -⟩ := hr.kept hS.2.1; exact ⟨cell, z1, z2, z3⟩, fun U hU hW => ⟨rfl, by rw [hU], by rw [hU]; exact hPc, va_K.moved hW.alike hKc, hDc.weaken (fun _ _ _ _ => trivial), C.2.2.2.2.2.2.1.pass hS hFc hU hW⟩⟩ rfl rfl hl.size rfl (lv_room hst) d hf) hS (fun q _ h => hFc q h) hFc (fun r u t H1 locs1 ht hvm hw hB hz1 hk1 hS1 => ?_)
  obtain ⟨hP1, hD1⟩ := hB
  rw [ht] at hP1
  obtain ⟨w', hw1, k1⟩ := k r u hw
  obtain ⟨hP2, hD2⟩ := joinW hP hD ps hps hnd hk1 hFc hP1 hD1 hw1
  exact k1 H1 locs1 ls hP2 hD2 hS1 hl
end WSTR
theorem dJ0_length_8abf5_0 : decode cJ0_length_8abf5 0 = .ok (.aload_n 0, 1) := by decide +kernel
theorem dJ0_length_8abf5_1 : decode cJ0_length_8abf5 1 = .ok (.getfield 9, 3) := by decide +kernel
theorem dJ0_length_8abf5_4 : decode cJ0_length_8abf5 4 = .ok (.arraylength, 1) := by decide +kernel
theorem dJ0_length_8abf5_5 : decode cJ0_length_8abf5 5 = .ok (.aload_n 0, 1) := by decide +kernel
theorem dJ0_length_8abf5_6 : decode cJ0_length_8abf5 6 = .ok (.invokevirtual 335, 3) := by decide +kernel
theorem dJ0_length_8abf5_9 : decode cJ0_length_8abf5 9 = .ok (.ishr, 1) := by decide +kernel
theorem dJ0_length_8abf5_10 : decode cJ0_length_8abf5 10 = .ok (.ireturn, 1) := by decide +kernel
theorem dJ0_coder_7d493_0 : decode cJ0_coder_7d493 0 = .ok (.getstatic 38, 3) := by decide +kernel
theorem dJ0_coder_7d493_3 : decode cJ0_coder_7d493 3 = .ok (.ifCond .eq 10, 3) := by decide +kernel
theorem dJ0_coder_7d493_6 : decode cJ0_coder_7d493 6 = .ok (.aload_n 0, 1) := by decide +kernel
theorem dJ0_coder_7d493_7 : decode cJ0_coder_7d493 7 = .ok (.getfield 15, 3) := by decide +kernel
theorem dJ0_coder_7d493_10 : decode cJ0_coder_7d493 10 = .ok (.goto 4, 3) := by decide +kernel
theorem dJ0_coder_7d493_13 : decode cJ0_coder_7d493 13 = .ok (.iconst 1, 1) := by decide +kernel
theorem dJ0_coder_7d493_14 : decode cJ0_coder_7d493 14 = .ok (.ireturn, 1) := by decide +kernel
theorem dJ0_isLatin1_aae02_0 : decode cJ0_isLatin1_aae02 0 = .ok (.getstatic 38, 3) := by decide +kernel
theorem dJ0_isLatin1_aae02_3 : decode cJ0_isLatin1_aae02 3 = .ok (.ifCond .eq 14, 3) := by decide +kernel
theorem dJ0_isLatin1_aae02_6 : decode cJ0_isLatin1_aae02 6 = .ok (.aload_n 0, 1) := by decide +kernel
theorem dJ0_isLatin1_aae02_7 : decode cJ0_isLatin1_aae02 7 = .ok (.getfield 15, 3) := by decide +kernel
theorem dJ0_isLatin1_aae02_10 : decode cJ0_isLatin1_aae02 10 = .ok (.ifCond .ne 7, 3) := by decide +kernel
theorem dJ0_isLatin1_aae02_13 : decode cJ0_isLatin1_aae02 13 = .ok (.iconst 1, 1) := by decide +kernel
theorem dJ0_isLatin1_aae02_14 : decode cJ0_isLatin1_aae02 14 = .ok (.goto 4, 3) := by decide +kernel
theorem dJ0_isLatin1_aae02_17 : decode cJ0_isLatin1_aae02 17 = .ok (.iconst 0, 1) := by decide +kernel
theorem dJ0_isLatin1_aae02_18 : decode cJ0_isLatin1_aae02 18 = .ok (.ireturn, 1) := by decide +kernel
theorem dJ1_charAt_3b067_0 : decode cJ1_charAt_3b067 0 = .ok (.iload_n 1, 1) := by decide +kernel
theorem dJ1_charAt_3b067_1 : decode cJ1_charAt_3b067 1 = .ok (.aload_n 0, 1) := by decide +kernel
theorem dJ1_charAt_3b067_2 : decode cJ1_charAt_3b067 2 = .ok (.arraylength, 1) := by decide +kernel
theorem dJ1_charAt_3b067_3 : decode cJ1_charAt_3b067 3 = .ok (.invokestatic 9, 3) := by decide +kernel
theorem dJ1_charAt_3b067_6 : decode cJ1_charAt_3b067 6 = .ok (.aload_n 0, 1) := by decide +kernel
theorem dJ1_charAt_3b067_7 : decode cJ1_charAt_3b067 7 = .ok (.iload_n 1, 1) := by decide +kernel
theorem dJ1_charAt_3b067_8 : decode cJ1_charAt_3b067 8 = .ok (.baload, 1) := by decide +kernel
theorem dJ1_charAt_3b067_9 : decode cJ1_charAt_3b067 9 = .ok (.sipush 255, 3) := by decide +kernel
theorem dJ1_charAt_3b067_12 : decode cJ1_charAt_3b067 12 = .ok (.iand, 1) := by decide +kernel
theorem dJ1_charAt_3b067_13 : decode cJ1_charAt_3b067 13 = .ok (.i2c, 1) := by decide +kernel
theorem dJ1_charAt_3b067_14 : decode cJ1_charAt_3b067 14 = .ok (.ireturn, 1) := by decide +kernel
theorem dJ0_checkIndex_df160_0 : decode cJ0_checkIndex_df160 0 = .ok (.iload_n 0, 1) := by decide +kernel
theorem dJ0_checkIndex_df160_1 : decode cJ0_checkIndex_df160 1 = .ok (.iload_n 1, 1) := by decide +kernel
theorem dJ0_checkIndex_df160_2 : decode cJ0_checkIndex_df160 2 = .ok (.getstatic 1053, 3) := by decide +kernel
theorem dJ0_checkIndex_df160_5 : decode cJ0_checkIndex_df160 5 = .ok (.invokestatic 1059, 3) := by decide +kernel
theorem dJ0_checkIndex_df160_8 : decode cJ0_checkIndex_df160 8 = .ok (.pop, 1) := by decide +kernel
theorem dJ0_checkIndex_df160_9 : decode cJ0_checkIndex_df160 9 = .ok (.return_, 1) := by decide +kernel
theorem dJ0_charAt_5068e_0 : decode cJ0_charAt_5068e 0 = .ok (.aload_n 0, 1) := by decide +kernel
theorem dJ0_charAt_5068e_1 : decode cJ0_charAt_5068e 1 = .ok (.invokevirtual 492, 3) := by decide +kernel
theorem dJ0_charAt_5068e_4 : decode cJ0_charAt_5068e 4 = .ok (.ifCond .eq 12, 3) := by decide +kernel
theorem dJ0_charAt_5068e_7 : decode cJ0_charAt_5068e 7 = .ok (.aload_n 0, 1) := by decide +kernel
theorem dJ0_charAt_5068e_8 : decode cJ0_charAt_5068e 8 = .ok (.getfield 9, 3) := by decide +kernel
theorem dJ0_charAt_5068e_11 : decode cJ0_charAt_5068e 11 = .ok (.iload_n 1, 1) := by decide +kernel
theorem dJ0_charAt_5068e_12 : decode cJ0_charAt_5068e 12 = .ok (.invokestatic 495, 3) := by decide +kernel
theorem dJ0_charAt_5068e_15 : decode cJ0_charAt_5068e 15 = .ok (.ireturn, 1) := by decide +kernel
theorem dJ3_checkIndex_8e157_0 : decode cJ3_checkIndex_8e157 0 = .ok (.iload_n 0, 1) := by decide +kernel
theorem dJ3_checkIndex_8e157_1 : decode cJ3_checkIndex_8e157 1 = .ok (.ifCond .lt 8, 3) := by decide +kernel
theorem dJ3_checkIndex_8e157_4 : decode cJ3_checkIndex_8e157 4 = .ok (.iload_n 0, 1) := by decide +kernel
theorem dJ3_checkIndex_8e157_5 : decode cJ3_checkIndex_8e157 5 = .ok (.iload_n 1, 1) := by decide +kernel
theorem dJ3_checkIndex_8e157_6 : decode cJ3_checkIndex_8e157 6 = .ok (.if_icmp .lt 10, 3) := by decide +kernel
theorem dJ3_checkIndex_8e157_16 : decode cJ3_checkIndex_8e157 16 = .ok (.iload_n 0, 1) := by decide +kernel
theorem dJ3_checkIndex_8e157_17 : decode cJ3_checkIndex_8e157 17 = .ok (.ireturn, 1) := by decide +kernel
section WJ
variable (E : ENV) (l : Launch)
theorem hd_J0_coder_7d493 : yJ0_coder_7d493.cls = RJ0 ∧ yJ0_coder_7d493.cls ≠ "java/lang/invoke/MethodHandle" ∧ yJ0_coder_7d493.cls ≠ "java/lang/invoke/VarHandle" ∧ (parseMethodDescriptor yJ0_coder_7d493.desc).map (fun d => d.parameters.length) = some 0 := by decide +kernel
theorem g_J0_335 : GoodIn GW (wsV RJ0 335 RJ0 yJ0_coder_7d493 (wsG yJ0_coder_7d493 cJ0_coder_7d493 1 (some .byte))) := gw_V wm_3_53 wm_3_54 wm_3_55 wm_1_16 wm_3_56
theorem hd_J0_isLatin1_aae02 : yJ0_isLatin1_aae02.cls = RJ0 ∧ yJ0_isLatin1_aae02.cls ≠ "java/lang/invoke/MethodHandle" ∧ yJ0_isLatin1_aae02.cls ≠ "java/lang/invoke/VarHandle" ∧ (parseMethodDescriptor yJ0_isLatin1_aae02.desc).map (fun d => d.parameters.length) = some 0 := by decide +kernel
theorem g_J0_492 : GoodIn GW (wsV RJ0 492 RJ0 yJ0_isLatin1_aae02 (wsG yJ0_isLatin1_aae02 cJ0_isLatin1_aae02 1 (some .boolean))) := gw_V wm_3_63 wm_3_64 wm_3_65 wm_1_16 wm_3_66
theorem hd_J1_charAt_3b067 : yJ1_charAt_3b067.cls = RJ1 ∧ yJ1_charAt_3b067.cls ≠ "java/lang/invoke/MethodHandle" ∧ yJ1_charAt_3b067.cls ≠ "java/lang/invoke/VarHandle" ∧ (parseMethodDescriptor yJ1_charAt_3b067.desc).map (fun d => d.parameters.length) = some 2 := by decide +kernel
theorem g_J0_495 : GoodIn GW (va_wsS RJ0 495 yJ1_charAt_3b067 (wsG yJ1_charAt_3b067 cJ1_charAt_3b067 2 (some .char))) := gw_S wm_3_67 wm_3_68 wm_1_17 wm_3_69
theorem hd_J0_checkIndex_df160 : yJ0_checkIndex_df160.cls = RJ0 ∧ yJ0_checkIndex_df160.cls ≠ "java/lang/invoke/MethodHandle" ∧ yJ0_checkIndex_df160.cls ≠ "java/lang/invoke/VarHandle" ∧ (parseMethodDescriptor yJ0_checkIndex_df160.desc).map (fun d => d.parameters.length) = some 2 := by decide +kernel
theorem g_J1_9 : GoodIn GW (va_wsS RJ1 9 yJ0_checkIndex_df160 (wsG yJ0_checkIndex_df160 cJ0_checkIndex_df160 2 none)) := gw_S wm_3_70 wm_3_71 wm_1_16 wm_3_72
theorem hd_J3_checkIndex_8e157 : yJ3_checkIndex_8e157.cls = RJ3 ∧ yJ3_checkIndex_8e157.cls ≠ "java/lang/invoke/MethodHandle" ∧ yJ3_checkIndex_8e157.cls ≠ "java/lang/invoke/VarHandle" ∧ (parseMethodDescriptor yJ3_checkIndex_8e157.desc).map (fun d => d.parameters.length) = some 3 := by decide +kernel
theorem g_J0_1059 : GoodIn GW (va_wsS RJ0 1059 yJ3_checkIndex_8e157 (wsG yJ3_checkIndex_8e157 cJ3_checkIndex_8e157 3 (some .int))) := gw_S wm_3_75 wm_3_76 wm_1_18 wm_3_77
theorem hd_J0_length_8abf5 : yJ0_length_8abf5.cls = RJ0 ∧ yJ0_length_8abf5.cls ≠ "java/lang/invoke/MethodHandle" ∧ yJ0_length_8abf5.cls ≠ "java/lang/invoke/VarHandle" ∧ (parseMethodDescriptor yJ0_length_8abf5.desc).map (fun d => d.parameters.length) = some 0 := by decide +kernel
theorem hd_J0_charAt_5068e : yJ0_charAt_5068e.cls = RJ0 ∧ yJ0_charAt_5068e.cls ≠ "java/lang/invoke/MethodHandle" ∧ yJ0_charAt_5068e.cls ≠ "java/lang/invoke/VarHandle" ∧ (parseMethodDescriptor yJ0_charAt_5068e.desc).map (fun d => d.parameters.length) = some 1 := by decide +kernel
abbrev rmJ (f n : Nat) : Room := { frames := f, cells := 0, slots := 0, locals := n }
set_option maxRecDepth 100000 in
set_option maxHeartbeats 4000000 in
theorem c_J0_coder {j : Nat} (hj : j < 79) : CI E l yJ0_coder_7d493 cJ0_coder_7d493 1 (some .byte) (rmJ 0 0) [.ref (eS E j)] [] (fun r w' => r = 0 ∧ w' = []) :=
  CI.of 0 (by decide) (Nat.le_of_ble_eq_true rfl) (fun p e s m below meth c A C _ => by
    obtain ⟨h1, h2, h3, h4⟩ := C.2.2.2.2.2.2.1.str hj
    refine r_getZ (pc := 0) C C.2.2.2.2.2.2.1.2.2.2.1 wm_3_57 dJ0_coder_7d493_0 ?_
    refine r_if_eq (pc := 3) C (tgt := 13) dJ0_coder_7d493_3 rfl (fun c1 => absurd c1 (by decide)) (fun c1 => ?_)
    refine r_aload_n (pc := 6) C (i := 0) dJ0_coder_7d493_6 rfl rfl ?_
    refine r_getO (pc := 7) C h2 wm_8_131 dJ0_coder_7d493_7 ?_
    refine r_goto (pc := 10) C (tgt := 14) dJ0_coder_7d493_10 rfl ?_
    exact r_iretn (pc := 14) C rfl ⟨rfl, rfl⟩ (Nat.zero_le _) (Nat.zero_le _) dJ0_coder_7d493_14)
set_option maxRecDepth 100000 in
set_option maxHeartbeats 4000000 in
theorem c_J0_isLatin1 {j : Nat} (hj : j < 79) : CI E l yJ0_isLatin1_aae02 cJ0_isLatin1_aae02 1 (some .boolean) (rmJ 0 0) [.ref (eS E j)] [] (fun r w' => r = 1 ∧ w' = []) :=
  CI.of 0 (by decide) (Nat.le_of_ble_eq_true rfl) (fun p e s m below meth c A C _ => by
    obtain ⟨h1, h2, h3, h4⟩ := C.2.2.2.2.2.2.1.str hj
    refine r_getZ (pc := 0) C C.2.2.2.2.2.2.1.2.2.2.1 wm_3_57 dJ0_isLatin1_aae02_0 ?_
    refine r_if_eq (pc := 3) C (tgt := 17) dJ0_isLatin1_aae02_3 rfl (fun c1 => absurd c1 (by decide)) (fun c1 => ?_)
    refine r_aload_n (pc := 6) C (i := 0) dJ0_isLatin1_aae02_6 rfl rfl ?_
    refine r_getO (pc := 7) C h2 wm_8_131 dJ0_isLatin1_aae02_7 ?_
    refine r_if_ne (pc := 10) C (tgt := 17) dJ0_isLatin1_aae02_10 rfl (fun c1 => absurd rfl c1) (fun c1 => ?_)
    refine r_iconst (pc := 13) C (v := 1) dJ0_isLatin1_aae02_13 (by decide) ?_
    refine r_goto (pc := 14) C (tgt := 18) dJ0_isLatin1_aae02_14 rfl ?_
    exact r_iretz (pc := 18) C (Or.inr rfl) ⟨rfl, rfl⟩ (Nat.zero_le _) (Nat.zero_le _) dJ0_isLatin1_aae02_18)
set_option maxRecDepth 100000 in
set_option maxHeartbeats 4000000 in
theorem c_J0_length {j : Nat} (hj : j < 79) : CI E l yJ0_length_8abf5 cJ0_length_8abf5 1 (some .int) (rmJ 1 30) [.ref (eS E j)] [] (fun r w' => r = nI (txB j).length ∧ w' = []) :=
  CI.of 0 (by decide) (Nat.le_of_ble_eq_true rfl) (fun p e s m below meth c A C _ => by
    obtain ⟨h1, h2, h3, h4⟩ := C.2.2.2.2.2.2.1.str hj
    refine r_aload_n (pc := 0) C (i := 0) dJ0_length_8abf5_0 rfl rfl ?_
    refine r_getO (pc := 1) C h3 wm_8_130 dJ0_length_8abf5_1 ?_
    refine r_stlen (pc := 4) C h4 dJ0_length_8abf5_4 ?_
    refine r_aload_n (pc := 5) C (i := 0) dJ0_length_8abf5_5 rfl rfl ?_
    refine r_callO_CI (Cn := RJ0) (pc := 6) C [] (c_J0_coder E l hj) [] rfl (by decide) h1 g_J0_335 hd_J0_coder_7d493 ⟨Nat.le_of_ble_eq_true rfl, Nat.le_of_ble_eq_true rfl⟩ ⟨Nat.zero_le _, Nat.zero_le _⟩ (Nat.le_of_ble_eq_true rfl) rfl dJ0_length_8abf5_6 (fun r w1 hw => ?_)
    obtain ⟨e1, e2⟩ := hw
    subst e1 e2
    refine ⟨[], rfl, ?_⟩
    refine r_ishr (pc := 9) C dJ0_length_8abf5_9 ?_
    exact r_ireti (pc := 10) C ⟨sb_shr0 _, rfl⟩ (Nat.zero_le _) (Nat.zero_le _) dJ0_length_8abf5_10)
set_option maxRecDepth 100000 in
set_option maxHeartbeats 4000000 in
theorem c_J3_checkIndex {i n : Int32} {z : Value} (hz : z = .null ∨ ∃ t, z = .ref t) (h0 : ¬ i < 0) (h1 : i < n) : CI E l yJ3_checkIndex_8e157 cJ3_checkIndex_8e157 3 (some .int) (rmJ 0 0) [.int i, .int n, z] [] (fun r w' => r = i ∧ w' = []) :=
  CI.of 0 (by decide) (by rcases hz with rfl | ⟨t, rfl⟩ <;> exact Nat.le_of_ble_eq_true rfl) (fun p e s m below meth c A C _ => by
    refine r_weak (L' := [some (.int i), some (.int n), none]) (fun k v hk => by
      match k, hk with
      | 0, hk => simp at hk; rw [← hk]; rfl
      | 1, hk => simp at hk; rw [← hk]; rfl
      | 2, hk => simp at hk
      | k + 3, hk => simp at hk) ?_
    refine r_iload_n (pc := 0) C (i := 0) dJ3_checkIndex_8e157_0 rfl rfl ?_
    refine r_if_lt (pc := 1) C (tgt := 9) dJ3_checkIndex_8e157_1 rfl (fun c1 => absurd c1 h0) (fun c1 => ?_)
    refine r_iload_n (pc := 4) C (i := 0) dJ3_checkIndex_8e157_4 rfl rfl ?_
    refine r_iload_n (pc := 5) C (i := 1) dJ3_checkIndex_8e157_5 rfl rfl ?_
    refine r_icmp_lt (pc := 6) C (tgt := 16) dJ3_checkIndex_8e157_6 rfl (fun c2 => ?_) (fun c2 => absurd h1 c2)
    refine r_iload_n (pc := 16) C (i := 0) dJ3_checkIndex_8e157_16 rfl rfl ?_
    exact r_ireti (pc := 17) C ⟨rfl, rfl⟩ (Nat.zero_le _) (Nat.zero_le _) dJ3_checkIndex_8e157_17)
set_option maxRecDepth 100000 in
set_option maxHeartbeats 4000000 in
theorem c_J0_checkIndex {i n : Int32} (h0 : ¬ i < 0) (h1 : i < n) : CV E l yJ0_checkIndex_df160 cJ0_checkIndex_df160 2 none (rmJ 1 30) [.int i, .int n] [] (fun w' => w' = []) :=
  CV.of 0 (by decide) (Nat.le_of_ble_eq_true rfl) (fun p e s m below meth c A C _ => by
    refine r_iload_n (pc := 0) C (i := 0) dJ0_checkIndex_df160_0 rfl rfl ?_
    refine r_iload_n (pc := 1) C (i := 1) dJ0_checkIndex_df160_1 rfl rfl ?_
    obtain ⟨z, hz, hZ⟩ : ∃ z : Value, (z = .null ∨ ∃ t, z = .ref t) ∧ va_Z "jdk/internal/util/Preconditions" "SIOOBE_FORMATTER" "Ljava/util/function/BiFunction;" z A s s.heap := by
      rcases C.2.2.2.2.2.2.1.2.2.2.2.1 with hZ | ⟨t, hZ⟩
      · exact ⟨_, Or.inl rfl, hZ⟩
      · exact ⟨_, Or.inr ⟨t, rfl⟩, hZ⟩
    all_goals
      refine r_getZ (pc := 2) C hZ wm_3_73 dJ0_checkIndex_df160_2 ?_
      refine r_callS_CI (pc := 5) C [.int i, .int n, z] (c_J3_checkIndex E l hz h0 h1) [] rfl (by decide) g_J0_1059 hd_J3_checkIndex_8e157.2 ⟨Nat.le_of_ble_eq_true rfl, Nat.le_of_ble_eq_true rfl⟩ ⟨Nat.zero_le _, Nat.zero_le _⟩ (Nat.le_of_ble_eq_true rfl) rfl dJ0_checkIndex_df160_5 (fun r w1 hw => ?_)
      obtain ⟨e1, e2⟩ := hw
      subst e1 e2
      refine ⟨[], rfl, ?_⟩
      refine r_pop (pc := 8) C dJ0_checkIndex_df160_8 rfl ?_
      exact r_vret (pc := 9) C rfl (Nat.zero_le _) (Nat.zero_le _) dJ0_checkIndex_df160_9)
theorem strB_ok : ∀ j, j < 79 → (txB j).length < 100 ∧ ∀ k, k < (txB j).length → ∃ n : Nat, n < 128 ∧ (txB j).getD k 0 = nI n := by
  have h : (List.range 79).all (fun j => decide ((txB j).length < 100) && (txB j).all (fun b => (List.range 128).any (fun n => decide (b = nI n)))) = true := by decide +kernel
  intro j hj
  have h1 := List.all_eq_true.mp h j (List.mem_range.mpr hj)
  simp only [Bool.and_eq_true, decide_eq_true_eq] at h1
  refine ⟨h1.1, fun k hk => ?_⟩
  have h2 := List.all_eq_true.mp h1.2 ((txB j)[k]) (List.getElem_mem hk)
  obtain ⟨n, hn, he⟩ := List.any_eq_true.mp h2
  refine ⟨n, List.mem_range.mp hn, ?_⟩
  rw [List.getD_eq_getElem?_getD, List.getElem?_eq_getElem hk]
  simpa using he
theorem nI_char : ∀ n, n < 128 → (((nI n) &&& 255).toUInt32 % 65536).toInt32 = nI n ∧ narrow .char (.int (nI n)) = .int (nI n) := by
  intro n hn
  exact ⟨((fun n hn => co_dec (P := fun n => (((nI n) &&& 255).toUInt32 % 65536).toInt32 = nI n) (N := 128) (by decide +kernel) hn) : ∀ n, n < 128 → (((nI n) &&& 255).toUInt32 % 65536).toInt32 = nI n) n hn, (pk_charN (by omega)).1⟩
theorem inb_ge {i : Int32} {n : Nat} (h : inb i n = true) : ¬ i < 0 := by
  have := inb_in h
  unfold vp_in at this
  exact fun h0 => this (Or.inl h0)
theorem inb_lt {i : Int32} {n : Nat} (hn : n < 2 ^ 31) (h : inb i n = true) : i < nI n := by
  obtain ⟨j, hj, rfl⟩ := vp_in_of (inb_in h) hn
  exact nI_lt hj hn
theorem inb_cl {i : Int32} {n : Nat} (h : inb i n = true) : i.toNatClampNeg < n := by
  have := inb_in h
  unfold vp_in at this
  omega
set_option maxRecDepth 100000 in
set_option maxHeartbeats 4000000 in
theorem c_J1_charAt {j : Nat} (hj : j < 79) {i : Int32} (hi : inb i (txB j).length = true) : CI E l yJ1_charAt_3b067 cJ1_charAt_3b067 2 (some .char) (rmJ 2 60) [.ref (eV E j), .int i] [] (fun r w' => r = (txB j).getD i.toNatClampNeg 0 ∧ w' = []) :=
  CI.of 0 (by decide) (Nat.le_of_ble_eq_true rfl) (fun p e s m below meth c A C _ => by
    obtain ⟨h1, h2, h3, h4⟩ := C.2.2.2.2.2.2.1.str hj
    have hb := strB_ok j hj
    obtain ⟨n, hn, hx⟩ := hb.2 _ (inb_cl hi)
    refine r_iload_n (pc := 0) C (i := 1) dJ1_charAt_3b067_0 rfl rfl ?_
    refine r_aload_n (pc := 1) C (i := 0) dJ1_charAt_3b067_1 rfl rfl ?_
    refine r_stlen (pc := 2) C h4 dJ1_charAt_3b067_2 ?_
    refine r_callS_CV (pc := 3) C [.int i, .int (nI (txB j).length)] (c_J0_checkIndex E l (inb_ge hi) (inb_lt (by omega) hi)) [] rfl (by decide) g_J1_9 hd_J0_checkIndex_df160.2 ⟨Nat.le_of_ble_eq_true rfl, Nat.le_of_ble_eq_true rfl⟩ ⟨Nat.zero_le _, Nat.zero_le _⟩ (Nat.le_of_ble_eq_true rfl) rfl dJ1_charAt_3b067_3 (fun w1 hw => ?_)
    subst hw
    refine ⟨[], rfl, ?_⟩
    refine r_aload_n (pc := 6) C (i := 0) dJ1_charAt_3b067_6 rfl rfl ?_
    refine r_iload_n (pc := 7) C (i := 1) dJ1_charAt_3b067_7 rfl rfl ?_
    refine r_stbld (pc := 8) C h4 hi dJ1_charAt_3b067_8 ?_
    refine r_sipush (pc := 9) C (v := 255) dJ1_charAt_3b067_9 (by decide) ?_
    refine r_iand (pc := 12) C dJ1_charAt_3b067_12 ?_
    refine r_i2c (pc := 13) C (v := (txB j).getD i.toNatClampNeg 0) dJ1_charAt_3b067_13 (by rw [hx]; exact (nI_char n hn).1) ?_
    exact r_iretn (pc := 14) C (by rw [hx]; exact (nI_char n hn).2) ⟨rfl, rfl⟩ (Nat.zero_le _) (Nat.zero_le _) dJ1_charAt_3b067_14)
set_option maxRecDepth 100000 in
set_option maxHeartbeats 4000000 in
theorem c_J0_charAt {j : Nat} (hj : j < 79) {i : Int32} (hi : inb i (txB j).length = true) : CI E l yJ0_charAt_5068e cJ0_charAt_5068e 2 (some .char) (rmJ 3 90) [.ref (eS E j), .int i] [] (fun r w' => r = (txB j).getD i.toNatClampNeg 0 ∧ w' = []) :=
  CI.of 0 (by decide) (Nat.le_of_ble_eq_true rfl) (fun p e s m below meth c A C _ => by
    obtain ⟨h1, h2, h3, h4⟩ := C.2.2.2.2.2.2.1.str hj
    have hb := strB_ok j hj
    obtain ⟨n, hn, hx⟩ := hb.2 _ (inb_cl hi)
    refine r_aload_n (pc := 0) C (i := 0) dJ0_charAt_5068e_0 rfl rfl ?_
    refine r_callO_CI (Cn := RJ0) (pc := 1) C [] (c_J0_isLatin1 E l hj) [] rfl (by decide) h1 g_J0_492 hd_J0_isLatin1_aae02 ⟨Nat.le_of_ble_eq_true rfl, Nat.le_of_ble_eq_true rfl⟩ ⟨Nat.zero_le _, Nat.zero_le _⟩ (Nat.le_of_ble_eq_true rfl) rfl dJ0_charAt_5068e_1 (fun r w1 hw => ?_)
    obtain ⟨e1, e2⟩ := hw
    subst e1 e2
    refine ⟨[], rfl, ?_⟩
    refine r_if_eq (pc := 4) C (tgt := 16) dJ0_charAt_5068e_4 rfl (fun c1 => absurd c1 (by decide)) (fun c1 => ?_)
    refine r_aload_n (pc := 7) C (i := 0) dJ0_charAt_5068e_7 rfl rfl ?_
    refine r_getO (pc := 8) C h3 wm_8_130 dJ0_charAt_5068e_8 ?_
    refine r_iload_n (pc := 11) C (i := 1) dJ0_charAt_5068e_11 rfl rfl ?_
    refine r_callS_CI (pc := 12) C [.ref (eV E j), .int i] (c_J1_charAt E l hj hi) [] rfl (by decide) g_J0_495 hd_J1_charAt_3b067.2 ⟨Nat.le_of_ble_eq_true rfl, Nat.le_of_ble_eq_true rfl⟩ ⟨Nat.zero_le _, Nat.zero_le _⟩ (Nat.le_of_ble_eq_true rfl) rfl dJ0_charAt_5068e_12 (fun r w1 hw => ?_)
    obtain ⟨e1, e2⟩ := hw
    subst e1 e2
    refine ⟨[], rfl, ?_⟩
    exact r_iretn (pc := 15) C (by rw [hx]; exact (nI_char n hn).2) ⟨rfl, rfl⟩ (Nat.zero_le _) (Nat.zero_le _) dJ0_charAt_5068e_15)
end WJ
section WSTR2
variable {E : ENV} {p : Program} {l : Launch} {e : Env} {R : Room} {s : State} {m : MethodId} {args : Array Value} {below : List Frame} {meth : Method} {c : Code} {cc : ByteArray} {nL : Nat} {own : String} {ret : Option FieldType} {A : Nat → Prop} {cells slots : Nat} {Q : State → Prop} {w : va_W} {L : List (Option Value)} {pc : Nat} {st : List Value}
theorem r_strlen (C : CX E p l s m args meth c cc nL own ret A) {j index : Nat} (hj : j < 79) (hl : Cond.methodLink own index yJ0_length_8abf5 ∈ GW) (hR : 2 ≤ R.frames ∧ 50 ≤ R.locals) (hf : cells ≤ R.cells ∧ slots ≤ R.slots) (hst : (st.map fun v => v.category).sum ≤ 8) (d : decode cc pc = .ok (.invokevirtual index, 3)) (k : WW E p l e R s m args below meth c A cells slots Q w nL L (pc + 3) (.int (nI (txB j).length) :: st)) : WW E p l e R s m args below meth c A cells slots Q w nL L pc (.ref (eS E j) :: st) :=
  r_callO_CI (Cn := RJ0) C [] (c_J0_length E l hj) [] rfl List.nodup_nil (C.2.2.2.2.2.2.1.str hj).1 (gw_V hl wm_3_50 wm_3_51 wm_1_16 wm_3_52) hd_J0_length_8abf5 ⟨hR.1, Nat.le_trans (Nat.le_of_ble_eq_true rfl) hR.2⟩ hf hst rfl d (fun r w1 hw => by
    obtain ⟨e1, e2⟩ := hw
    subst e1 e2
    exact ⟨w, by simp [putW], k⟩)
theorem r_strat (C : CX E p l s m args meth c cc nL own ret A) {j index : Nat} {i : Int32} (hj : j < 79) (hi : inb i (txB j).length = true) (hl : Cond.methodLink own index yJ0_charAt_5068e ∈ GW) (hR : 4 ≤ R.frames ∧ 120 ≤ R.locals) (hf : cells ≤ R.cells ∧ slots ≤ R.slots) (hst : (st.map fun v => v.category).sum ≤ 8) (d : decode cc pc = .ok (.invokevirtual index, 3)) (k : WW E p l e R s m args below meth c A cells slots Q w nL L (pc + 3) (.int ((txB j).getD i.toNatClampNeg 0) :: st)) : WW E p l e R s m args below meth c A cells slots Q w nL L pc (.int i :: .ref (eS E j) :: st) :=
  r_callO_CI (Cn := RJ0) C [.int i] (c_J0_charAt E l hj hi) [] rfl List.nodup_nil (C.2.2.2.2.2.2.1.str hj).1 (gw_V hl wm_3_60 wm_3_61 wm_1_16 wm_3_62) hd_J0_charAt_5068e ⟨hR.1, Nat.le_trans (Nat.le_of_ble_eq_true rfl) hR.2⟩ hf hst rfl d (fun r w1 hw => by
    obtain ⟨e1, e2⟩ := hw
    subst e1 e2
    exact ⟨w, by simp [putW], k⟩)
end WSTR2
