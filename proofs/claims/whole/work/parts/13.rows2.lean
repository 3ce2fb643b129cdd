-- ===== further rows: switches, Strings in rows, doubles and floats, worlds in another order =====
section WROWS4
variable {E : ENV} {p : Program} {l : Launch} {e : Env} {R : Room} {s : State} {m : MethodId} {args : Array Value} {below : List Frame} {meth : Method} {c : Code} {cc : ByteArray} {nL : Nat} {own : String} {ret : Option FieldType} {A : Nat → Prop} {cells slots : Nat} {Q : State → Prop} {w : va_W} {L : List (Option Value)} {pc : Nat} {st : List Value}
theorem r_tabIn (C : CX E p l s m args meth c cc nL own ret A) {dflt lo hi : Int} {offs : Array Int} {len : Nat} {x v : Int32} {off : Int} (tgt : Nat) (d : decode cc pc = .ok (.tableswitch dflt lo hi offs, len)) (hx : x = v) (h1 : ¬ v.toInt < lo) (h2 : ¬ hi < v.toInt) (ho : offs[(v.toInt - lo).toNat]? = some off) (ht : (pc : Int) + off = (tgt : Int)) (k : WW E p l e R s m args below meth c A cells slots Q w nL L tgt st) : WW E p l e R s m args below meth c A cells slots Q w nL L pc (.int x :: st) := by
  subst hx
  exact fun H locs ls hP hD hS hl => lv_tableIn C.1 C.2.1 d h1 h2 ho ht (k H locs ls hP hD hS hl)
theorem r_tabOut (C : CX E p l s m args meth c cc nL own ret A) {dflt lo hi : Int} {offs : Array Int} {len : Nat} {x : Int32} (tgt : Nat) (d : decode cc pc = .ok (.tableswitch dflt lo hi offs, len)) (h : x.toInt < lo ∨ hi < x.toInt) (ht : (pc : Int) + dflt = (tgt : Int)) (k : WW E p l e R s m args below meth c A cells slots Q w nL L tgt st) : WW E p l e R s m args below meth c A cells slots Q w nL L pc (.int x :: st) := fun H locs ls hP hD hS hl => lv_tableOut C.1 C.2.1 d h ht (k H locs ls hP hD hS hl)
theorem tabGap_of {x v : Int32} {a lo hi : Int} (hv : v.toInt = a) (h : x.toInt = a ∨ (x.toInt < lo ∨ hi < x.toInt)) : x = v ∨ (x.toInt < lo ∨ hi < x.toInt) := by
  rcases h with h | h
  · exact Or.inl (Int32.toInt_inj.mp (by rw [hv]; exact h))
  · exact Or.inr h
theorem r_tabGap (C : CX E p l s m args meth c cc nL own ret A) {dflt lo hi : Int} {offs : Array Int} {len : Nat} {x v : Int32} (tgt : Nat) (d : decode cc pc = .ok (.tableswitch dflt lo hi offs, len)) (h : x = v ∨ (x.toInt < lo ∨ hi < x.toInt)) (h1 : ¬ v.toInt < lo) (h2 : ¬ hi < v.toInt) (ho : offs[(v.toInt - lo).toNat]? = some dflt) (ht : (pc : Int) + dflt = (tgt : Int)) (k : WW E p l e R s m args below meth c A cells slots Q w nL L tgt st) : WW E p l e R s m args below meth c A cells slots Q w nL L pc (.int x :: st) := by
  rcases h with h | h
  · exact r_tabIn C tgt d h h1 h2 ho ht k
  · exact r_tabOut C tgt d h ht k
theorem r_look (C : CX E p l s m args meth c cc nL own ret A) {dflt : Int} {ps : Array (Int × Int)} {len : Nat} {x : Int32} {off : Int} (tgt : Nat) (d : decode cc pc = .ok (.lookupswitch dflt ps, len)) (hp : (ps.toList.zip (ps.toList.drop 1)).all (fun (a, next) => a.1 < next.1) = true) (ho : Op.lookupswitch.offset ps.toList dflt x.toInt = off) (ht : (pc : Int) + off = (tgt : Int)) (k : WW E p l e R s m args below meth c A cells slots Q w nL L tgt st) : WW E p l e R s m args below meth c A cells slots Q w nL L pc (.int x :: st) := fun H locs ls hP hD hS hl => lv_lookup C.1 C.2.1 d hp ho ht (k H locs ls hP hD hS hl)
theorem r_aald (C : CX E p l s m args meth c cc nL own ret A) {a : Nat} (q0 : Nat) {n : Nat} {f : Nat → Option Nat} {i : Int32} {t : Nat} (ha : w[q0]? = some (a, .inl (eC E 3, n, .inr (.inr (.inr (.inr f)))))) (hin : inb i n = true) (hv : f i.toNatClampNeg = some t) (d : decode cc pc = .ok (.aaload, 1)) (k : WW E p l e R s m args below meth c A cells slots Q w nL L (pc + 1) (.ref t :: st)) : WW E p l e R s m args below meth c A cells slots Q w nL L pc (.int i :: .ref a :: st) := fun H locs ls hP hD hS hl => va_aldq C.1 C.2.1 C.2.2.2.2.2.1 hP q0 3 ha rfl (inb_in hin) d (by rw [hv]; exact k H locs ls hP hD hS hl)
theorem r_aaldF (C : CX E p l s m args meth c cc nL own ret A) {a : Nat} (q0 : Nat) {n : Nat} {f : Nat → Option Nat} {i : Int32} (ha : w[q0]? = some (a, .inl (eC E 2, n, .inr (.inr (.inr (.inr f)))))) (hin : inb i n = true) (d : decode cc pc = .ok (.aaload, 1)) (k : WW E p l e R s m args below meth c A cells slots Q w nL L (pc + 1) (va_rf (f i.toNatClampNeg) :: st)) : WW E p l e R s m args below meth c A cells slots Q w nL L pc (.int i :: .ref a :: st) := fun H locs ls hP hD hS hl => va_aldq C.1 C.2.1 C.2.2.2.2.2.1 hP q0 2 ha rfl (inb_in hin) d (k H locs ls hP hD hS hl)
theorem r_mminl (C : CX E p l s m args meth c cc nL own ret A) {index : Nat} {x y : Int64} (h1 : Cond.methodLink own index Lib.MathLoose.min_long.x ∈ GW) (h2 : Cond.static Lib.MathLoose.min_long.x ∈ GW) (h3 : Cond.initialized "java/lang/Math" ∈ GW) (h4 : Cond.code Lib.MathLoose.min_long.x Lib.MathLoose.min_long.code 4 (some .long) ∈ GW) (hR : 1 ≤ R.frames ∧ 23 ≤ R.locals ∧ cells ≤ R.cells ∧ slots ≤ R.slots) (hst : (st.map fun v => v.category).sum ≤ 8) (d : decode cc pc = .ok (.invokestatic index, 3)) (k : WW E p l e R s m args below meth c A cells slots Q w nL L (pc + 3) (.long (if y < x then y else x) :: st)) : WW E p l e R s m args below meth c A cells slots Q w nL L pc (.long y :: .long x :: st) := fun H locs ls hP hD hS hl => va_mmin_long C.1 C.2.1 (C.2.2.1.trans hl.size.symm) C.2.2.2.1 (C.2.2.2.2.1 _ h1) (C.2.2.2.2.1 _ h2) (C.2.2.2.2.1 _ h3) (C.2.2.2.2.1 _ h4) hR.1 (by have := hR.2.1; omega) hR.2.2.1 hR.2.2.2 d (k H locs ls hP hD hS hl)
theorem subW {D : va_G} {cl : List vw_C} {ws w' : va_W} {H : Heap} (hP : va_P D cl ws H) (ps : List Nat) (hC : ps.map (fun i => ws[i]?) = w'.map some) : va_P D cl w' H := fun i q hq => by
  obtain ⟨k9, -, h9⟩ := placesC hC i q hq
  exact hP k9 q h9
theorem r_perm {w' : va_W} (ps : List Nat) (hps : ps.map (fun i => w[i]?) = w'.map some) (hnd : ps.Nodup) (k : WW E p l e R s m args below meth c A cells slots Q w' nL L pc st) : WW E p l e R s m args below meth c A cells slots Q w nL L pc st := fun H locs ls hP hD hS hl => k H locs ls (subW hP ps hps) (hD.sub ps (va_nd_of hnd) hps) hS hl
theorem r_topr {x y : Nat} (h : y = x) (k : WW E p l e R s m args below meth c A cells slots Q w nL L pc (.ref y :: st)) : WW E p l e R s m args below meth c A cells slots Q w nL L pc (.ref x :: st) := h ▸ k
theorem r_topg {a : Nat → Nat} {x y : Nat} (h : y = x) (k : WW E p l e R s m args below meth c A cells slots Q w nL L pc (.ref (a y) :: st)) : WW E p l e R s m args below meth c A cells slots Q w nL L pc (.ref (a x) :: st) := h ▸ k
theorem r_i2d (C : CX E p l s m args meth c cc nL own ret A) {x : Int32} (d : decode cc pc = .ok (.i2d, 1)) (k : WW E p l e R s m args below meth c A cells slots Q w nL L (pc + 1) (.double (FP.i2d x) :: st)) : WW E p l e R s m args below meth c A cells slots Q w nL L pc (.int x :: st) := fun H locs ls hP hD hS hl => lv_i2d C.1 C.2.1 d (k H locs ls hP hD hS hl)
theorem r_i2f (C : CX E p l s m args meth c cc nL own ret A) {x : Int32} (d : decode cc pc = .ok (.i2f, 1)) (k : WW E p l e R s m args below meth c A cells slots Q w nL L (pc + 1) (.float (FP.i2f x) :: st)) : WW E p l e R s m args below meth c A cells slots Q w nL L pc (.int x :: st) := fun H locs ls hP hD hS hl => lv_i2f C.1 C.2.1 d (k H locs ls hP hD hS hl)
theorem r_ddiv (C : CX E p l s m args meth c cc nL own ret A) {x y : UInt64} (d : decode cc pc = .ok (.ddiv, 1)) (hne : vf_n64 (FP.ddiv x y)) (k : WW E p l e R s m args below meth c A cells slots Q w nL L (pc + 1) (.double (FP.ddiv x y) :: st)) : WW E p l e R s m args below meth c A cells slots Q w nL L pc (.double y :: .double x :: st) := fun H locs ls hP hD hS hl => lv_ddiv C.1 C.2.1 d hne (k H locs ls hP hD hS hl)
theorem r_fdiv (C : CX E p l s m args meth c cc nL own ret A) {x y : UInt32} (d : decode cc pc = .ok (.fdiv, 1)) (hne : vf_n32 (FP.fdiv x y)) (k : WW E p l e R s m args below meth c A cells slots Q w nL L (pc + 1) (.float (FP.fdiv x y) :: st)) : WW E p l e R s m args below meth c A cells slots Q w nL L pc (.float y :: .float x :: st) := fun H locs ls hP hD hS hl => lv_fdiv C.1 C.2.1 d hne (k H locs ls hP hD hS hl)
end WROWS4
theorem strLt {i : Int32} {n b : Nat} (h : inb i n = true) (hb : b + n ≤ 79) : b + i.toNatClampNeg < 79 := by have := inb_cl h; omega
def strF (E : ENV) (b n : Nat) : Nat → Option Nat := fun i => if i < n then some (eS E (b + i)) else none
theorem strF_at {E : ENV} {b n : Nat} {i : Int32} (h : inb i n = true) : strF E b n i.toNatClampNeg = some (eS E (b + i.toNatClampNeg)) := by
  unfold strF
  rw [if_pos (inb_cl h)]
def gsel (S : Nat → Nat → Int32) : Nat := (S 0 3).toNatClampNeg
def gokN (g : Nat) : Bool := g == 1 || g == 2 || g == 3
theorem gokN_e {g : Nat} (h : gokN g = true) : g = 1 ∨ g = 2 ∨ g = 3 := by
  simp only [gokN, Bool.or_eq_true, beq_iff_eq] at h
  rcases h with (h | h) | h
  · exact Or.inl h
  · exact Or.inr (Or.inl h)
  · exact Or.inr (Or.inr h)
theorem updL64 (f : Nat → Int32) (k : Nat) (x : Int64) (h : x.toInt32.toInt64 = x) : vp_updL (fun i => (f i).toInt64) k x = fun i => (upd f k x.toInt32 i).toInt64 := by
  funext j
  unfold vp_updL upd
  by_cases hj : j = k
  · rw [if_pos hj, if_pos hj, h]
  · rw [if_neg hj, if_neg hj]
