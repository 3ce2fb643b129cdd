section WHIST
variable {E : ENV} {p : Program} {l : Launch} {e : Env} {R : Room} {s : State} {m : MethodId} {args : Array Value} {below : List Frame} {meth : Method} {c : Code} {cc : ByteArray} {nL : Nat} {own : String} {ret : Option FieldType} {A : Nat → Prop} {cells slots : Nat} {Q : State → Prop} {w : va_W} {L : List (Option Value)} {pc : Nat} {st : List Value}
theorem r_astore_nN (C : CX E p l s m args meth c cc nL own ret A) {k0 : Fin 4} {i : Nat} (d : decode cc pc = .ok (.astore_n k0, 1)) (hi : (k0 : Nat) = i) (hn : i < nL) (hc : cat1 L i = true) (k : WW E p l e R s m args below meth c A cells slots Q w nL (L.set i (some .null)) (pc + 1) st) : WW E p l e R s m args below meth c A cells slots Q w nL L pc (.null :: st) := by
  intro H locs ls hP hD hS hl
  obtain ⟨lv, h1, h2⟩ := hl
  exact lv_astore_nN C.1 C.2.1 d hi h1 hn rfl (fun ls2 h3 => k H locs ls2 hP hD hS (lH.put h2 hc h3))
theorem r_aload_nN (C : CX E p l s m args meth c cc nL own ret A) {k0 : Fin 4} {i : Nat} (d : decode cc pc = .ok (.aload_n k0, 1)) (hi : (k0 : Nat) = i) (hx : L[i]? = some (some .null)) (k : WW E p l e R s m args below meth c A cells slots Q w nL L (pc + 1) (.null :: st)) : WW E p l e R s m args below meth c A cells slots Q w nL L pc st := fun H locs ls hP hD hS hl => lv_aload_nN C.1 C.2.1 d hi (hl.at hx) (k H locs ls hP hD hS hl)
theorem r_topv {x y : Value} (h : x = y) (k : WW E p l e R s m args below meth c A cells slots Q w nL L pc (y :: st)) : WW E p l e R s m args below meth c A cells slots Q w nL L pc (x :: st) := h ▸ k
end WHIST
-- ===== places in a world of pieces =====
theorem seg_nd (x y ps : List Nat) (n k : Nat) (h1 : ∀ q ∈ ps, q < n) (h2 : ps.Nodup) : (List.range' n k ++ ps).Nodup := by
  refine List.nodup_append.mpr ⟨List.nodup_range', h2, fun a ha b hb => ?_⟩
  have h3 := h1 b hb
  have h4 := (List.mem_range'_1.mp ha).1
  omega
/-- a kept fleet among the others -/
theorem hiT_at (E : ENV) (fa : Nat → Nat → Nat) (T : Nat → VV) (h j : Nat) (x y : Int32) (hj : j < h) : hiT E fa (h, x, y, T) = hiT E fa (j, x, y, T) ++ (wFl E (fa j) (T j) ++ (List.range' (j + 1) (h - (j + 1))).flatMap (fun i => wFl E (fa i) (T i))) := by
  unfold hiT
  show (List.range h).flatMap _ = (List.range j).flatMap _ ++ _
  have e : List.range h = List.range j ++ (j :: List.range' (j + 1) (h - (j + 1))) := by
    obtain ⟨d, hd⟩ : ∃ d, d = h - (j + 1) := ⟨_, rfl⟩
    rw [← hd, show h = j + (d + 1) by omega, List.range_eq_range', List.range_eq_range', ← List.range'_append_1, Nat.zero_add, List.range'_succ]
  rw [e, List.flatMap_append, List.flatMap_cons]
theorem flat_congr {α : Type} (L : List Nat) (f g : Nat → List α) (h : ∀ i ∈ L, f i = g i) : L.flatMap f = L.flatMap g := by
  induction L with
  | nil => rfl
  | cons a L ih =>
    rw [List.flatMap_cons, List.flatMap_cons, h a List.mem_cons_self, ih (fun i hi => h i (List.mem_cons_of_mem _ hi))]
theorem hiT_put (E : ENV) (fa : Nat → Nat → Nat) (T : Nat → VV) (h j : Nat) (x y : Int32) (X : VV) (hj : j < h) : hiT E fa (h, x, y, va_up T j X) = hiT E fa (j, x, y, T) ++ (wFl E (fa j) X ++ (List.range' (j + 1) (h - (j + 1))).flatMap (fun i => wFl E (fa i) (T i))) := by
  rw [hiT_at E fa (va_up T j X) h j x y hj]
  congr 1
  · unfold hiT
    exact flat_congr _ _ _ (fun i hi => by
      have h1 : i < j := List.mem_range.mp hi
      show wFl E (fa i) (va_up T j X i) = wFl E (fa i) (T i)
      rw [va_up_ne _ _ (by omega)])
  · congr 1
    · rw [va_up_self]
    · exact flat_congr _ _ _ (fun i hi => by
        have h1 := (List.mem_range'_1.mp hi).1
        rw [va_up_ne _ _ (by omega)])
theorem hiT_new (E : ENV) (fa : Nat → Nat → Nat) (T : Nat → VV) (h : Nat) (x y : Int32) (b : Nat → Nat) (X : VV) : hiT E (va_up fa h b) (h + 1, x, y, va_up T h X) = hiT E fa (h, x, y, T) ++ wFl E b X := by
  unfold hiT
  show (List.range (h + 1)).flatMap _ = _
  rw [List.range_succ, List.flatMap_append, List.flatMap_cons, List.flatMap_nil, List.append_nil]
  congr 1
  · exact flat_congr _ _ _ (fun i hi => by
      have h1 : i < h := List.mem_range.mp hi
      show wFl E (va_up fa h b i) (va_up T h X i) = wFl E (fa i) (T i)
      rw [va_up_ne _ _ (by omega), va_up_ne _ _ (by omega)])
  · show wFl E (va_up fa h b h) (va_up T h X h) = wFl E b X
    rw [va_up_self, va_up_self]
theorem hiC_new (E : ENV) (a : Nat → Nat) (fa : Nat → Nat → Nat) (h : Nat) (x y : Int32) (T T' : Nat → VV) (b : Nat → Nat) : hiC E a (va_up fa h b) (h + 1, x, y, T') = [(a 61, .inr (1, [.int x, .int y, .ref (a 62)])), (a 62, .inl (eC E 2, 10, .inr (.inr (.inr (.inr (va_up (fun j => if j < (h, x, y, T).1 then some (fa j 0) else none) h (some (b 0))))))))] := by
  unfold hiC
  have e9 : (fun j : Nat => if j < (h + 1, x, y, T').1 then some (va_up fa h b j 0) else none) = va_up (fun j => if j < h then some (fa j 0) else none) h (some (b 0)) := by
    funext j
    show (if j < h + 1 then some (va_up fa h b j 0) else none) = va_up (fun j => if j < h then some (fa j 0) else none) h (some (b 0)) j
    unfold va_up
    by_cases e : j = h
    · rw [if_pos (by omega), if_pos e, if_pos e]
    · rw [if_neg e, if_neg e]
      show (if j < h + 1 then some (fa j 0) else none) = (if j < h then some (fa j 0) else none)
      by_cases e2 : j < h
      · rw [if_pos (by omega), if_pos e2]
      · rw [if_neg (by omega), if_neg e2]
  rw [e9]
theorem TI_of {P : va_W → Prop} {c r : Int32} {w : va_W} (h : P w) : TI (fun r' w' => c = 0 ∧ r' = r ∧ P w') (fun cd w' => cd = c ∧ ¬ c = 0 ∧ P w') c r w := by
  unfold TI
  by_cases h0 : c = 0
  · rw [if_pos h0]; exact ⟨h0, rfl, h⟩
  · rw [if_neg h0]; exact ⟨rfl, h0, h⟩
theorem TV_of {P : va_W → Prop} {c : Int32} {w : va_W} (h : P w) : TV (fun w' => c = 0 ∧ P w') (fun cd w' => cd = c ∧ ¬ c = 0 ∧ P w') c w := by
  unfold TV
  by_cases h0 : c = 0
  · rw [if_pos h0]; exact ⟨h0, h⟩
  · rw [if_neg h0]; exact ⟨rfl, h0, h⟩
theorem hpH1 (E : ENV) (a : Nat → Nat) (fa : Nat → Nat → Nat) (S : VV × VV × VV × VV × VV × Int32) (T : Nat × Int32 × Int32 × (Nat → VV)) : ([61, 62] : List Nat).map (fun i => (wSg E a S ++ hiC E a fa T)[i]?) = (hiC E a fa T).map some := seg_mapL (wSg E a S) (hiC E a fa T) [] (by rw [List.append_nil]) 2 rfl [61, 62] rfl
theorem pwH1 (E : ENV) (a : Nat → Nat) (fa fa' : Nat → Nat → Nat) (S : VV × VV × VV × VV × VV × Int32) (T T' : Nat × Int32 × Int32 × (Nat → VV)) : putW (wSg E a S ++ hiC E a fa T) [61, 62] (hiC E a fa' T') = some (wSg E a S ++ hiC E a fa' T') := seg_put1 (wSg E a S) (hiC E a fa T) (hiC E a fa' T') [] (by rw [List.append_nil]) (by rw [List.append_nil]) 2 rfl rfl [61, 62] rfl
theorem wSg_cut (E : ENV) (a : Nat → Nat) (S : VV × VV × VV × VV × VV × Int32) (z : va_W) : wSg E a S ++ z = [(a 0, .inr (7, [.ref (a 1), .ref (a 19), .ref (a 37), .int ((S.2.2.2.2.2)), .ref (a 61), .ref (a 55), .ref (a 58)]))] ++ (wFl E (fun i => a (i + 1)) (S.1) ++ ((wFl E (fun i => a (i + 19)) (S.2.1) ++ (wFl E (fun i => a (i + 37)) (S.2.2.1) ++ (wTk E (fun i => a (i + 55)) (S.2.2.2.1) ++ (wTx E (fun i => a (i + 58)) (S.2.2.2.2.1))))) ++ z)) := by
  unfold wSg
  simp only [List.append_assoc]
theorem hpH2 (E : ENV) (a : Nat → Nat) (fa : Nat → Nat → Nat) (S : VV × VV × VV × VV × VV × Int32) (T : Nat × Int32 × Int32 × (Nat → VV)) : ([1, 2, 3, 4, 5, 6, 7, 8, 9, 10, 11, 12, 13, 14, 15, 16, 17, 18, 61, 62] : List Nat).map (fun i => (wSg E a S ++ hiC E a fa T)[i]?) = (wFl E (fun i => a (i + 1)) (S.1) ++ hiC E a fa T).map some := seg_map2 (seg_mapL _ (wFl E (fun i => a (i + 1)) (S.1)) _ (wSg_cut E a S (hiC E a fa T)) 18 rfl [1, 2, 3, 4, 5, 6, 7, 8, 9, 10, 11, 12, 13, 14, 15, 16, 17, 18] rfl) (hpH1 E a fa S T)
theorem pwH2 (E : ENV) (a : Nat → Nat) (fa fa' : Nat → Nat → Nat) (S : VV × VV × VV × VV × VV × Int32) (X : VV) (T T' : Nat × Int32 × Int32 × (Nat → VV)) : putW (wSg E a S ++ hiC E a fa T) [1, 2, 3, 4, 5, 6, 7, 8, 9, 10, 11, 12, 13, 14, 15, 16, 17, 18, 61, 62] (wFl E (fun i => a (i + 1)) X ++ hiC E a fa' T') = some (wSg E a (X, S.2) ++ hiC E a fa' T') := seg_put2 _ (wFl E (fun i => a (i + 1)) (S.1)) (wFl E (fun i => a (i + 1)) X) _ (wSg_cut E a S (hiC E a fa T)) 18 rfl rfl [1, 2, 3, 4, 5, 6, 7, 8, 9, 10, 11, 12, 13, 14, 15, 16, 17, 18] rfl ((congrArg (fun W => putW W [61, 62] (hiC E a fa' T')) (wSg_cut E a (X, S.2) (hiC E a fa T)).symm).trans (pwH1 E a fa fa' (X, S.2) T T'))
-- ===== keep and takeBack =====
def Hkeep (k : Nat) (T : Nat × Int32 × Int32 × (Nat → VV)) (F : VV) : Option (Nat × Int32 × Int32 × (Nat → VV)) :=
  if T.2.2.1 < 0 then some T else if (10 : Int32) ≤ T.2.2.1 then some T else
  if T.2.2.1.toNatClampNeg < T.1 then (M_X0_copyFrom k (T.2.2.2 T.2.2.1.toNatClampNeg) F).bind fun X => some (T.1, (if (10 : Int32) < T.2.1 + 1 then 10 else T.2.1 + 1), T.2.2.1 + 1 - (T.2.2.1 + 1) / 10 * 10, va_up T.2.2.2 T.2.2.1.toNatClampNeg X)
  else if T.2.2.1.toNatClampNeg = T.1 then (M_X0_copyFrom k (fun _ _ => 0) F).bind fun X => some (T.1 + 1, (if (10 : Int32) < T.2.1 + 1 then 10 else T.2.1 + 1), T.2.2.1 + 1 - (T.2.2.1 + 1) / 10 * 10, va_up T.2.2.2 T.1 X)
  else none
def Hlast (T : Nat × Int32 × Int32 × (Nat → VV)) : Int32 := T.2.2.1 + 10 - 1 - (T.2.2.1 + 10 - 1) / 10 * 10
def HtakeBack (k : Nat) (T : Nat × Int32 × Int32 × (Nat → VV)) (F : VV) : Option (Int32 × (Nat × Int32 × Int32 × (Nat → VV)) × VV) :=
  if T.2.1 ≤ 0 then some (0, T, F) else if Hlast T < 0 then some (0, T, F) else if (10 : Int32) ≤ Hlast T then some (0, T, F) else
  if (Hlast T).toNatClampNeg < T.1 then (M_X0_copyFrom k F (T.2.2.2 (Hlast T).toNatClampNeg)).bind fun X => some (1, (T.1, T.2.1 - 1, Hlast T, T.2.2.2), X)
  else some (0, T, F)
theorem Hkeep_h {k : Nat} {T T' : Nat × Int32 × Int32 × (Nat → VV)} {F : VV} (h : Hkeep k T F = some T') : T.1 ≤ T'.1 := by
  unfold Hkeep at h
  split at h
  · cases h; exact Nat.le_refl _
  · split at h
    · cases h; exact Nat.le_refl _
    · split at h
      · obtain ⟨X, -, h⟩ := bnd h
        cases h; exact Nat.le_refl _
      · split at h
        · obtain ⟨X, -, h⟩ := bnd h
          cases h; exact Nat.le_succ _
        · cases h
theorem Htake_h {k : Nat} {T : Nat × Int32 × Int32 × (Nat → VV)} {F : VV} {q : Int32 × (Nat × Int32 × Int32 × (Nat → VV)) × VV} (h : HtakeBack k T F = some q) : T.1 ≤ q.2.1.1 := by
  unfold HtakeBack at h
  split at h
  · cases h; exact Nat.le_refl _
  · split at h
    · cases h; exact Nat.le_refl _
    · split at h
      · cases h; exact Nat.le_refl _
      · split at h
        · obtain ⟨X, -, h⟩ := bnd h
          cases h; exact Nat.le_refl _
        · cases h; exact Nat.le_refl _
theorem Hclear_h {k : Nat} {T T' : Nat × Int32 × Int32 × (Nat → VV)} (h : M_X2_clear k T = some T') : T.1 ≤ T'.1 := by
  unfold M_X2_clear M_X2_clear_0 lt at h
  cases h; exact Nat.le_refl _
theorem dX2_keep_0 : decode cX2_keep 0 = .ok (.aload_n 0, 1) := by decide +kernel
theorem dX2_keep_1 : decode cX2_keep 1 = .ok (.getfield 15, 3) := by decide +kernel
theorem dX2_keep_4 : decode cX2_keep 4 = .ok (.ifCond .lt 15, 3) := by decide +kernel
theorem dX2_keep_7 : decode cX2_keep 7 = .ok (.aload_n 0, 1) := by decide +kernel
theorem dX2_keep_8 : decode cX2_keep 8 = .ok (.getfield 15, 3) := by decide +kernel
theorem dX2_keep_11 : decode cX2_keep 11 = .ok (.aload_n 0, 1) := by decide +kernel
theorem dX2_keep_12 : decode cX2_keep 12 = .ok (.getfield 20, 3) := by decide +kernel
theorem dX2_keep_15 : decode cX2_keep 15 = .ok (.arraylength, 1) := by decide +kernel
theorem dX2_keep_16 : decode cX2_keep 16 = .ok (.if_icmp .lt 4, 3) := by decide +kernel
theorem dX2_keep_19 : decode cX2_keep 19 = .ok (.return_, 1) := by decide +kernel
theorem dX2_keep_20 : decode cX2_keep 20 = .ok (.aload_n 0, 1) := by decide +kernel
theorem dX2_keep_21 : decode cX2_keep 21 = .ok (.getfield 20, 3) := by decide +kernel
theorem dX2_keep_24 : decode cX2_keep 24 = .ok (.aload_n 0, 1) := by decide +kernel
theorem dX2_keep_25 : decode cX2_keep 25 = .ok (.getfield 15, 3) := by decide +kernel
theorem dX2_keep_28 : decode cX2_keep 28 = .ok (.aaload, 1) := by decide +kernel
theorem dX2_keep_29 : decode cX2_keep 29 = .ok (.astore_n 2, 1) := by decide +kernel
theorem dX2_keep_30 : decode cX2_keep 30 = .ok (.aload_n 2, 1) := by decide +kernel
theorem dX2_keep_31 : decode cX2_keep 31 = .ok (.ifnonnull 21, 3) := by decide +kernel
theorem dX2_keep_34 : decode cX2_keep 34 = .ok (.new 18, 3) := by decide +kernel
theorem dX2_keep_37 : decode cX2_keep 37 = .ok (.dup, 1) := by decide +kernel
theorem dX2_keep_38 : decode cX2_keep 38 = .ok (.invokespecial 24, 3) := by decide +kernel
theorem dX2_keep_41 : decode cX2_keep 41 = .ok (.astore_n 2, 1) := by decide +kernel
theorem dX2_keep_42 : decode cX2_keep 42 = .ok (.aload_n 0, 1) := by decide +kernel
theorem dX2_keep_43 : decode cX2_keep 43 = .ok (.getfield 20, 3) := by decide +kernel
theorem dX2_keep_46 : decode cX2_keep 46 = .ok (.aload_n 0, 1) := by decide +kernel
theorem dX2_keep_47 : decode cX2_keep 47 = .ok (.getfield 15, 3) := by decide +kernel
theorem dX2_keep_50 : decode cX2_keep 50 = .ok (.aload_n 2, 1) := by decide +kernel
theorem dX2_keep_51 : decode cX2_keep 51 = .ok (.aastore, 1) := by decide +kernel
theorem dX2_keep_52 : decode cX2_keep 52 = .ok (.aload_n 2, 1) := by decide +kernel
theorem dX2_keep_53 : decode cX2_keep 53 = .ok (.aload_n 1, 1) := by decide +kernel
theorem dX2_keep_54 : decode cX2_keep 54 = .ok (.invokevirtual 25, 3) := by decide +kernel
theorem dX2_keep_57 : decode cX2_keep 57 = .ok (.aload_n 0, 1) := by decide +kernel
theorem dX2_keep_58 : decode cX2_keep 58 = .ok (.aload_n 0, 1) := by decide +kernel
theorem dX2_keep_59 : decode cX2_keep 59 = .ok (.getfield 15, 3) := by decide +kernel
theorem dX2_keep_62 : decode cX2_keep 62 = .ok (.iconst 1, 1) := by decide +kernel
theorem dX2_keep_63 : decode cX2_keep 63 = .ok (.iadd, 1) := by decide +kernel
theorem dX2_keep_64 : decode cX2_keep 64 = .ok (.bipush 10, 2) := by decide +kernel
theorem dX2_keep_66 : decode cX2_keep 66 = .ok (.irem, 1) := by decide +kernel
theorem dX2_keep_67 : decode cX2_keep 67 = .ok (.putfield 15, 3) := by decide +kernel
theorem dX2_keep_70 : decode cX2_keep 70 = .ok (.aload_n 0, 1) := by decide +kernel
theorem dX2_keep_71 : decode cX2_keep 71 = .ok (.aload_n 0, 1) := by decide +kernel
theorem dX2_keep_72 : decode cX2_keep 72 = .ok (.getfield 9, 3) := by decide +kernel
theorem dX2_keep_75 : decode cX2_keep 75 = .ok (.iconst 1, 1) := by decide +kernel
theorem dX2_keep_76 : decode cX2_keep 76 = .ok (.iadd, 1) := by decide +kernel
theorem dX2_keep_77 : decode cX2_keep 77 = .ok (.bipush 10, 2) := by decide +kernel
theorem dX2_keep_79 : decode cX2_keep 79 = .ok (.invokestatic 29, 3) := by decide +kernel
theorem dX2_keep_82 : decode cX2_keep 82 = .ok (.putfield 9, 3) := by decide +kernel
theorem dX2_keep_85 : decode cX2_keep 85 = .ok (.return_, 1) := by decide +kernel
theorem dX2_takeBack_0 : decode cX2_takeBack 0 = .ok (.aload_n 0, 1) := by decide +kernel
theorem dX2_takeBack_1 : decode cX2_takeBack 1 = .ok (.getfield 15, 3) := by decide +kernel
theorem dX2_takeBack_4 : decode cX2_takeBack 4 = .ok (.bipush 10, 2) := by decide +kernel
theorem dX2_takeBack_6 : decode cX2_takeBack 6 = .ok (.iadd, 1) := by decide +kernel
theorem dX2_takeBack_7 : decode cX2_takeBack 7 = .ok (.iconst 1, 1) := by decide +kernel
theorem dX2_takeBack_8 : decode cX2_takeBack 8 = .ok (.isub, 1) := by decide +kernel
theorem dX2_takeBack_9 : decode cX2_takeBack 9 = .ok (.bipush 10, 2) := by decide +kernel
theorem dX2_takeBack_11 : decode cX2_takeBack 11 = .ok (.irem, 1) := by decide +kernel
theorem dX2_takeBack_12 : decode cX2_takeBack 12 = .ok (.istore_n 2, 1) := by decide +kernel
theorem dX2_takeBack_13 : decode cX2_takeBack 13 = .ok (.aload_n 0, 1) := by decide +kernel
theorem dX2_takeBack_14 : decode cX2_takeBack 14 = .ok (.getfield 9, 3) := by decide +kernel
theorem dX2_takeBack_17 : decode cX2_takeBack 17 = .ok (.ifCond .le 16, 3) := by decide +kernel
theorem dX2_takeBack_20 : decode cX2_takeBack 20 = .ok (.iload_n 2, 1) := by decide +kernel
theorem dX2_takeBack_21 : decode cX2_takeBack 21 = .ok (.ifCond .lt 12, 3) := by decide +kernel
theorem dX2_takeBack_24 : decode cX2_takeBack 24 = .ok (.iload_n 2, 1) := by decide +kernel
theorem dX2_takeBack_25 : decode cX2_takeBack 25 = .ok (.aload_n 0, 1) := by decide +kernel
theorem dX2_takeBack_26 : decode cX2_takeBack 26 = .ok (.getfield 20, 3) := by decide +kernel
theorem dX2_takeBack_29 : decode cX2_takeBack 29 = .ok (.arraylength, 1) := by decide +kernel
theorem dX2_takeBack_30 : decode cX2_takeBack 30 = .ok (.if_icmp .lt 5, 3) := by decide +kernel
theorem dX2_takeBack_33 : decode cX2_takeBack 33 = .ok (.iconst 0, 1) := by decide +kernel
theorem dX2_takeBack_34 : decode cX2_takeBack 34 = .ok (.ireturn, 1) := by decide +kernel
theorem dX2_takeBack_35 : decode cX2_takeBack 35 = .ok (.aload_n 0, 1) := by decide +kernel
theorem dX2_takeBack_36 : decode cX2_takeBack 36 = .ok (.getfield 20, 3) := by decide +kernel
theorem dX2_takeBack_39 : decode cX2_takeBack 39 = .ok (.iload_n 2, 1) := by decide +kernel
theorem dX2_takeBack_40 : decode cX2_takeBack 40 = .ok (.aaload, 1) := by decide +kernel
theorem dX2_takeBack_41 : decode cX2_takeBack 41 = .ok (.astore_n 3, 1) := by decide +kernel
theorem dX2_takeBack_42 : decode cX2_takeBack 42 = .ok (.aload_n 3, 1) := by decide +kernel
theorem dX2_takeBack_43 : decode cX2_takeBack 43 = .ok (.ifnonnull 5, 3) := by decide +kernel
theorem dX2_takeBack_46 : decode cX2_takeBack 46 = .ok (.iconst 0, 1) := by decide +kernel
theorem dX2_takeBack_47 : decode cX2_takeBack 47 = .ok (.ireturn, 1) := by decide +kernel
theorem dX2_takeBack_48 : decode cX2_takeBack 48 = .ok (.aload_n 1, 1) := by decide +kernel
theorem dX2_takeBack_49 : decode cX2_takeBack 49 = .ok (.aload_n 3, 1) := by decide +kernel
theorem dX2_takeBack_50 : decode cX2_takeBack 50 = .ok (.invokevirtual 25, 3) := by decide +kernel
theorem dX2_takeBack_53 : decode cX2_takeBack 53 = .ok (.aload_n 0, 1) := by decide +kernel
theorem dX2_takeBack_54 : decode cX2_takeBack 54 = .ok (.iload_n 2, 1) := by decide +kernel
theorem dX2_takeBack_55 : decode cX2_takeBack 55 = .ok (.putfield 15, 3) := by decide +kernel
theorem dX2_takeBack_58 : decode cX2_takeBack 58 = .ok (.aload_n 0, 1) := by decide +kernel
theorem dX2_takeBack_59 : decode cX2_takeBack 59 = .ok (.dup, 1) := by decide +kernel
theorem dX2_takeBack_60 : decode cX2_takeBack 60 = .ok (.getfield 9, 3) := by decide +kernel
theorem dX2_takeBack_63 : decode cX2_takeBack 63 = .ok (.iconst 1, 1) := by decide +kernel
theorem dX2_takeBack_64 : decode cX2_takeBack 64 = .ok (.isub, 1) := by decide +kernel
theorem dX2_takeBack_65 : decode cX2_takeBack 65 = .ok (.putfield 9, 3) := by decide +kernel
theorem dX2_takeBack_68 : decode cX2_takeBack 68 = .ok (.iconst 1, 1) := by decide +kernel
theorem dX2_takeBack_69 : decode cX2_takeBack 69 = .ok (.ireturn, 1) := by decide +kernel
theorem hd_X0_copyFrom : yX0_copyFrom.cls = RX0 ∧ yX0_copyFrom.cls ≠ "java/lang/invoke/MethodHandle" ∧ yX0_copyFrom.cls ≠ "java/lang/invoke/VarHandle" ∧ (parseMethodDescriptor yX0_copyFrom.desc).map (fun d => d.parameters.length) = some 1 := by decide +kernel
theorem g_X2_25 : GoodIn GW (wsV RX2 25 RX0 yX0_copyFrom (wsG yX0_copyFrom cX0_copyFrom 2 none)) := gw_V wm_2_165 wm_2_93 wm_2_94 wm_1_2 wm_2_95
def rm_X2_keep : Room := { frames := 5, cells := 18, slots := 1488, locals := 200 }
def rm_X2_takeBack : Room := { frames := 4, cells := 0, slots := 0, locals := 150 }
section WALKS
variable {E : ENV} {p : Program} {l : Launch} {e : Env} {s : State} {m : MethodId} {args : Array Value} {below : List Frame} {meth : Method} {c : Code} {A : Nat → Prop}
set_option maxRecDepth 100000 in
set_option maxHeartbeats 4000000 in
theorem keep_52 (C : CX E p l s m args meth c cX2_keep 3 RX2 none A) (a c0 : Nat → Nat) (k : Nat) (F : VV) {post : va_W → Prop} (fa : Nat → Nat → Nat) (h : Nat) (x y : Int32) (T : Nat → VV) (j : Nat) (hj : j < h) {X : VV} (hX : M_X0_copyFrom k (T j) F = some X)
    (hq : post (wFl E c0 F ++ (hiC E a fa (h, (if (10 : Int32) < x + 1 then 10 else x + 1), y + 1 - (y + 1) / 10 * 10, va_up T j X) ++ hiT E fa (h, (if (10 : Int32) < x + 1 then 10 else x + 1), y + 1 - (y + 1) / 10 * 10, va_up T j X)))) :
    WW E p l e rm_X2_keep s m args below meth c A 18 1488 (QV E below post args s rm_X2_keep A) (wFl E c0 F ++ (hiC E a fa (h, x, y, T) ++ hiT E fa (h, x, y, T))) 3 [some (.ref (a 61)), some (.ref (c0 0)), some (.ref (fa j 0))] 52 [] := by
  refine r_aload_n (pc := 52) C (i := 2) dX2_keep_52 rfl rfl ?_
  refine r_aload_n (pc := 53) C (i := 1) dX2_keep_53 rfl rfl ?_
  obtain ⟨V, hV⟩ : ∃ V, V = (List.range' (j + 1) (h - (j + 1))).flatMap (fun i => wFl E (fa i) (T i)) := ⟨_, rfl⟩
  obtain ⟨U, hU⟩ : ∃ U, U = hiC E a fa (h, x, y, T) ++ hiT E fa (j, x, y, T) := ⟨_, rfl⟩
  have ew : (wFl E c0 F ++ (hiC E a fa (h, x, y, T) ++ hiT E fa (h, x, y, T))) = (wFl E c0 F ++ U) ++ (wFl E (fa j) (T j) ++ V) := by
    rw [hiT_at E fa T h j x y hj, ← hV, hU]
    simp only [List.append_assoc]
  refine r_world ew ?_
  have e1 : ([] ++ (wFl E c0 F ++ (U ++ (wFl E (fa j) (T j) ++ V)))) = (wFl E c0 F ++ U) ++ (wFl E (fa j) (T j) ++ V) := by simp only [List.nil_append, List.append_assoc]
  have m1 := seg_map (wFl E c0 F ++ U) (wFl E (fa j) (T j)) V
  have m2 := seg_map [] (wFl E c0 F) (U ++ (wFl E (fa j) (T j) ++ V))
  rw [e1] at m2
  have hU2 : 2 ≤ U.length := by rw [hU]; simp [hiC] <;> omega
  refine r_callV_CV (Cn := RX0) (pc := 54) C [.ref (c0 0)] (c_X0_copyFrom E l k (fa j) c0 (T j) F hX) (List.range' (wFl E c0 F ++ U).length (wFl E (fa j) (T j)).length ++ List.range' 0 (wFl E c0 F).length) (by rw [List.map_append, List.map_append, m1]; exact congrArg _ m2) (seg_nd [] [] _ _ _ (fun q hq => by
    have h1 := (List.mem_range'_1.mp hq).2
    rw [List.length_append]
    omega) List.nodup_range') 0 rfl rfl rfl g_X2_25 hd_X0_copyFrom ⟨Nat.le_of_ble_eq_true rfl, Nat.le_of_ble_eq_true rfl⟩ ⟨Nat.le_of_ble_eq_true rfl, Nat.le_of_ble_eq_true rfl⟩ (Nat.le_of_ble_eq_true rfl) rfl dX2_keep_54 (fun w1 hw1 => ?_)
  subst hw1
  refine ⟨(wFl E c0 F ++ U) ++ (wFl E (fa j) X ++ V), ?_, ?_⟩
  · rw [seg_put (wFl E (fa j) (T j)) (wFl E c0 F ++ U) V (wFl E (fa j) X) _ _ ((wFl_len _ _ _).trans (wFl_len _ _ _).symm)]
    refine putW_self _ _ _ ?_
    have m3 := seg_map [] (wFl E c0 F) (U ++ (wFl E (fa j) X ++ V))
    rw [show ([] ++ (wFl E c0 F ++ (U ++ (wFl E (fa j) X ++ V)))) = (wFl E c0 F ++ U) ++ (wFl E (fa j) X ++ V) by simp only [List.nil_append, List.append_assoc]] at m3
    exact m3
  have ew2 : (wFl E c0 F ++ U) ++ (wFl E (fa j) X ++ V) = wFl E c0 F ++ (hiC E a fa (h, x, y, va_up T j X) ++ hiT E fa (h, x, y, va_up T j X)) := by
    rw [hiT_put E fa T h j x y X hj, ← hV, hU]
    simp only [List.append_assoc]
    rfl
  refine r_world ew2 ?_
  refine r_aload_n (pc := 57) C (i := 0) dX2_keep_57 rfl rfl ?_
  refine r_aload_n (pc := 58) C (i := 0) dX2_keep_58 rfl rfl ?_
  refine r_get (pc := 59) C gwX2 18 rfl rfl 1 (by decide) wm_1_160 rfl dX2_keep_59 ?_
  refine r_iconst (pc := 62) C (v := 1) dX2_keep_62 (by decide) ?_
  refine r_iadd (pc := 63) C dX2_keep_63 ?_
  refine r_bipush (pc := 64) C (v := 10) dX2_keep_64 (by decide) ?_
  refine r_irem (pc := 66) C dX2_keep_66 (by decide) ?_
  refine r_put (pc := 67) C gwX2 tyX2 tyX2_ok nmX2 18 rfl rfl 1 (by decide) wm_1_160 rfl rfl rfl rfl (Nat.le_of_ble_eq_true rfl) (w' := wFl E c0 F ++ (hiC E a fa (h, x, y + 1 - (y + 1) / 10 * 10, va_up T j X) ++ hiT E fa (h, x, y + 1 - (y + 1) / 10 * 10, va_up T j X))) rfl dX2_keep_67 ?_
  refine r_aload_n (pc := 70) C (i := 0) dX2_keep_70 rfl rfl ?_
  refine r_aload_n (pc := 71) C (i := 0) dX2_keep_71 rfl rfl ?_
  refine r_get (pc := 72) C gwX2 18 rfl rfl 0 (by decide) wm_1_158 rfl dX2_keep_72 ?_
  refine r_iconst (pc := 75) C (v := 1) dX2_keep_75 (by decide) ?_
  refine r_iadd (pc := 76) C dX2_keep_76 ?_
  refine r_bipush (pc := 77) C (v := 10) dX2_keep_77 (by decide) ?_
  refine r_mmin (pc := 79) C wm_5_9 wm_2_101 wm_1_14 wm_2_102 ⟨Nat.le_of_ble_eq_true rfl, Nat.le_of_ble_eq_true rfl, Nat.le_of_ble_eq_true rfl, Nat.le_of_ble_eq_true rfl⟩ (Nat.le_of_ble_eq_true rfl) dX2_keep_79 ?_
  refine r_put (pc := 82) C gwX2 tyX2 tyX2_ok nmX2 18 rfl rfl 0 (by decide) wm_1_158 rfl rfl rfl rfl (Nat.le_of_ble_eq_true rfl) (w' := wFl E c0 F ++ (hiC E a fa (h, (if (10 : Int32) < x + 1 then 10 else x + 1), y + 1 - (y + 1) / 10 * 10, va_up T j X) ++ hiT E fa (h, (if (10 : Int32) < x + 1 then 10 else x + 1), y + 1 - (y + 1) / 10 * 10, va_up T j X))) rfl dX2_keep_82 ?_
  exact r_vret (pc := 85) C hq (Nat.le_of_ble_eq_true rfl) (Nat.le_of_ble_eq_true rfl) dX2_keep_85
set_option maxRecDepth 100000 in
set_option maxHeartbeats 4000000 in
theorem keep_20 (C : CX E p l s m args meth c cX2_keep 3 RX2 none A) (a c0 : Nat → Nat) (k : Nat) (F : VV) {post : va_W → Prop} (fa : Nat → Nat → Nat) (h : Nat) (x y : Int32) (T : Nat → VV) (h0 : ¬ y < 0) (h10 : ¬ (10 : Int32) ≤ y) {q : Nat × Int32 × Int32 × (Nat → VV)}
    (hm : Hkeep k (h, x, y, T) F = some q) (hq : ∀ fa', post (wFl E c0 F ++ (hiC E a fa' q ++ hiT E fa' q))) :
    WW E p l e rm_X2_keep s m args below meth c A 0 0 (QV E below post args s rm_X2_keep A) (wFl E c0 F ++ (hiC E a fa (h, x, y, T) ++ hiT E fa (h, x, y, T))) 3 [some (.ref (a 61)), some (.ref (c0 0)), none] 20 [] := by
  have hin : inb y 10 = true := by
    have g1 : y < 10 := Int32.not_le.mp h10
    unfold inb
    rw [decide_eq_false h0, decide_eq_false]
    · rfl
    · have g2 := Int32.lt_iff_toInt_lt.mp g1
      have g3 : (10 : Int32).toInt = 10 := by decide
      have g4 : y.toNatClampNeg = y.toInt.toNat := rfl
      omega
  unfold Hkeep at hm
  rw [if_neg h0, if_neg h10] at hm
  refine r_aload_n (pc := 20) C (i := 0) dX2_keep_20 rfl rfl ?_
  refine r_get (pc := 21) C gwX2 18 rfl rfl 2 (by decide) wm_1_161 rfl dX2_keep_21 ?_
  refine r_aload_n (pc := 24) C (i := 0) dX2_keep_24 rfl rfl ?_
  refine r_get (pc := 25) C gwX2 18 rfl rfl 1 (by decide) wm_1_160 rfl dX2_keep_25 ?_
  refine r_aaldF (pc := 28) C 19 rfl hin dX2_keep_28 ?_
  by_cases hj : y.toNatClampNeg < h
  · have hj' : y.toNatClampNeg < (h, x, y, T).1 := hj
    rw [if_pos hj'] at hm
    obtain ⟨X, hX, hm⟩ := bnd hm
    cases hm
    refine r_topv (y := .ref (fa y.toNatClampNeg 0)) (by rw [if_pos hj']; rfl) ?_
    refine r_astore_n (pc := 29) C (i := 2) dX2_keep_29 rfl (by decide) rfl ?_
    refine r_aload_n (pc := 30) C (i := 2) dX2_keep_30 rfl rfl ?_
    refine r_ifnonnull_r (pc := 31) C (tgt := 52) dX2_keep_31 rfl ?_
    refine r_widen (k1 := 18) (n1 := 1488) (Nat.le_of_ble_eq_true rfl) (Nat.le_of_ble_eq_true rfl) ?_
    exact keep_52 C a c0 k F fa h x y T y.toNatClampNeg hj hX (hq fa)
  · have hj' : ¬ y.toNatClampNeg < (h, x, y, T).1 := hj
    rw [if_neg hj'] at hm
    by_cases hh : y.toNatClampNeg = h
    · have hh' : y.toNatClampNeg = (h, x, y, T).1 := hh
      rw [if_pos hh'] at hm
      obtain ⟨X, hX, hm⟩ := bnd hm
      cases hm
      refine r_topv (y := .null) (by rw [if_neg hj']; rfl) ?_
      refine r_astore_nN (pc := 29) C (i := 2) dX2_keep_29 rfl (by decide) rfl ?_
      refine r_aload_nN (pc := 30) C (i := 2) dX2_keep_30 rfl rfl ?_
      refine r_ifnonnull_n (tgt := 0) (pc := 31) C dX2_keep_31 ?_
      refine r_new (pc := 34) C (ci := 0) (fs := [.int 0, .int 0, .int 0, .int 0, .int 0, .int 0, .null, .null, .null, .null, .null, .null, .int 0]) gwX0 tyX0 tyX0_ok wm_1_156 wm_1_35 wm_1_2 rfl (fun j hj => by rcases (show j = 0 ∨ j = 1 ∨ j = 2 ∨ j = 3 ∨ j = 4 ∨ j = 5 ∨ j = 6 ∨ j = 7 ∨ j = 8 ∨ j = 9 ∨ j = 10 ∨ j = 11 ∨ j = 12 by omega) with rfl | rfl | rfl | rfl | rfl | rfl | rfl | rfl | rfl | rfl | rfl | rfl | rfl <;> rfl) ⟨Nat.le_of_ble_eq_true rfl, Nat.le_of_ble_eq_true rfl⟩ dX2_keep_34 (fun q => ?_)
      refine r_dup (pc := 37) C dX2_keep_37 rfl ?_
      obtain ⟨W1, hW1⟩ : ∃ W1, W1 = (wFl E c0 F ++ (hiC E a fa (h, x, y, T) ++ hiT E fa (h, x, y, T))) := ⟨_, rfl⟩
      refine r_world (w' := W1 ++ [(q, .inr (0, [.int 0, .int 0, .int 0, .int 0, .int 0, .int 0, .null, .null, .null, .null, .null, .null, .int 0]))]) (by rw [hW1]) ?_
      refine r_callIN_CV (pc := 38) C [] (c_X0_init E l q) [W1.length] (by simp) (List.nodup_cons.mpr ⟨List.not_mem_nil, List.nodup_nil⟩) gn_X0_init wm_1_2 wm_1_37 rfl (C.2.2.2.2.2.2.1.nest 7 rfl) hd_X0_init.2 ⟨Nat.le_of_ble_eq_true rfl, Nat.le_of_ble_eq_true rfl⟩ ⟨Nat.le_of_ble_eq_true rfl, Nat.le_of_ble_eq_true rfl⟩ (Nat.le_of_ble_eq_true rfl) rfl dX2_keep_38 (fun w1 hw1 => ?_)
      obtain ⟨a1, rfl, rfl⟩ := hw1
      refine ⟨W1 ++ wFl E a1 (fun _ _ => 0), ?_, ?_⟩
      · show putW ((W1 ++ [_]).set W1.length _) [] _ = _
        rw [List.set_append_right _ _ (Nat.le_refl _), Nat.sub_self]
        show some ((W1 ++ [_]) ++ _) = some (W1 ++ _)
        rw [List.append_assoc]
        rfl
      refine r_astore_n (pc := 41) C (i := 2) dX2_keep_41 rfl (by decide) rfl ?_
      refine r_world (w' := wFl E c0 F ++ ((hiC E a fa (h, x, y, T) ++ hiT E fa (h, x, y, T)) ++ wFl E a1 (fun _ _ => 0))) (by rw [hW1, List.append_assoc]) ?_
      refine r_aload_n (pc := 42) C (i := 0) dX2_keep_42 rfl rfl ?_
      refine r_get (pc := 43) C gwX2 18 rfl rfl 2 (by decide) wm_1_161 rfl dX2_keep_43 ?_
      refine r_aload_n (pc := 46) C (i := 0) dX2_keep_46 rfl rfl ?_
      refine r_get (pc := 47) C gwX2 18 rfl rfl 1 (by decide) wm_1_160 rfl dX2_keep_47 ?_
      refine r_aload_n (pc := 50) C (i := 2) dX2_keep_50 rfl rfl ?_
      have hv : (wFl E c0 F ++ ((hiC E a fa (h, x, y, T) ++ hiT E fa (h, x, y, T)) ++ wFl E a1 (fun _ _ => 0)))[W1.length]? = some (a1 0, .inr (0, [.int 0, .int 0, .int 0, .int 0, .int 0, .int 0, .ref (a1 1), .ref (a1 3), .ref (a1 5), .ref (a1 7), .ref (a1 9), .ref (a1 16), .int 0])) := by
        rw [← List.append_assoc, ← hW1, List.getElem?_append_right (Nat.le_refl _), Nat.sub_self]
        rfl
      refine r_aastF (pc := 51) C 19 W1.length rfl hv hin (w' := wFl E c0 F ++ (hiC E a (va_up fa h a1) (h + 1, x, y, va_up T h (fun _ _ => 0)) ++ hiT E (va_up fa h a1) (h + 1, x, y, va_up T h (fun _ _ => 0)))) (by
        rw [hiC_new E a fa h x y T, hiT_new, hh]
        simp only [hiC, wFl, List.append_assoc, List.cons_append, List.nil_append]
        rfl) dX2_keep_51 ?_
      refine r_weak (L' := [some (.ref (a 61)), some (.ref (c0 0)), some (.ref (va_up fa h a1 h 0))]) (by rw [va_up_self]; exact lSub_s (lSub_s (lSub_s lSub_e))) ?_
      have hq1 := hq (va_up fa h a1)
      refine keep_52 C a c0 k F (va_up fa h a1) (h + 1) x y (va_up T h (fun _ _ => 0)) h (Nat.lt_succ_self h) (X := X) (by rw [va_up_self]; exact hX) ?_
      have e9 : va_up (va_up T h (fun _ _ => 0)) h X = va_up T h X := by
        funext i
        unfold va_up
        by_cases g : i = h
        · rw [if_pos g, if_pos g]
        · rw [if_neg g, if_neg g, if_neg g]
      rw [e9]
      exact hq1
    · have hh' : ¬ y.toNatClampNeg = (h, x, y, T).1 := hh
      rw [if_neg hh'] at hm
      cases hm
set_option maxRecDepth 100000 in
set_option maxHeartbeats 4000000 in
theorem c_X2_keep (E : ENV) (l : Launch) (k : Nat) (a c0 : Nat → Nat) (fa : Nat → Nat → Nat) (T : Nat × Int32 × Int32 × (Nat → VV)) (F : VV) {q : Nat × Int32 × Int32 × (Nat → VV)} (hm : Hkeep k T F = some q) : CV E l yX2_keep cX2_keep 3 none rm_X2_keep [.ref (a 61), .ref (c0 0)] (wFl E c0 F ++ hiC E a fa T ++ hiT E fa T) (fun w' => ∃ fa' : Nat → Nat → Nat, w' = wFl E c0 F ++ (hiC E a fa' q ++ hiT E fa' q)) := by
  obtain ⟨h, x, y, T⟩ := T
  refine CV.of 1 (by decide) (Nat.le_of_ble_eq_true rfl) (fun p e s m below meth c A C _ => ?_)
  refine r_world (List.append_assoc _ _ _) ?_
  have hq : ∀ fa' : Nat → Nat → Nat, (fun w' => ∃ fa' : Nat → Nat → Nat, w' = wFl E c0 F ++ (hiC E a fa' q ++ hiT E fa' q)) (wFl E c0 F ++ (hiC E a fa' q ++ hiT E fa' q)) := fun fa' => ⟨fa', rfl⟩
  refine r_weak (L' := [some (.ref (a 61)), some (.ref (c0 0)), none]) (lSub_s (lSub_s (lSub_n lSub_e))) ?_
  refine r_aload_n (pc := 0) C (i := 0) dX2_keep_0 rfl rfl ?_
  refine r_get (pc := 1) C gwX2 18 rfl rfl 1 (by decide) wm_1_160 rfl dX2_keep_1 ?_
  refine r_if_lt (pc := 4) C (tgt := 19) dX2_keep_4 rfl (fun c1 => ?_) (fun c1 => ?_)
  · have hm2 := hm
    unfold Hkeep at hm2
    rw [if_pos c1] at hm2
    cases hm2
    exact r_vret (pc := 19) C (hq fa) (Nat.le_of_ble_eq_true rfl) (Nat.le_of_ble_eq_true rfl) dX2_keep_19
  · refine r_aload_n (pc := 7) C (i := 0) dX2_keep_7 rfl rfl ?_
    refine r_get (pc := 8) C gwX2 18 rfl rfl 1 (by decide) wm_1_160 rfl dX2_keep_8 ?_
    refine r_aload_n (pc := 11) C (i := 0) dX2_keep_11 rfl rfl ?_
    refine r_get (pc := 12) C gwX2 18 rfl rfl 2 (by decide) wm_1_161 rfl dX2_keep_12 ?_
    refine r_alen (pc := 15) C 19 2 rfl rfl dX2_keep_15 ?_
    refine r_icmp_lt (pc := 16) C (tgt := 20) dX2_keep_16 rfl (fun c2 => ?_) (fun c2 => ?_)
    · exact keep_20 C a c0 k F fa h x y T c1 (Int32.not_le.mpr c2) hm hq
    · have hm2 := hm
      unfold Hkeep at hm2
      have c3 : (10 : Int32) ≤ (h, x, y, T).2.2.1 := Int32.not_lt.mp c2
      rw [if_neg c1, if_pos c3] at hm2
      cases hm2
      exact r_vret (pc := 19) C (hq fa) (Nat.le_of_ble_eq_true rfl) (Nat.le_of_ble_eq_true rfl) dX2_keep_19
set_option maxRecDepth 100000 in
set_option maxHeartbeats 4000000 in
theorem c_X2_takeBack (E : ENV) (l : Launch) (k : Nat) (a c0 : Nat → Nat) (fa : Nat → Nat → Nat) (T : Nat × Int32 × Int32 × (Nat → VV)) (F : VV) {q : Int32 × (Nat × Int32 × Int32 × (Nat → VV)) × VV} (hm : HtakeBack k T F = some q) : CI E l yX2_takeBack cX2_takeBack 4 (some .boolean) rm_X2_takeBack [.ref (a 61), .ref (c0 0)] (wFl E c0 F ++ hiC E a fa T ++ hiT E fa T) (fun r w' => r = q.1 ∧ ∃ fa' : Nat → Nat → Nat, w' = wFl E c0 q.2.2 ++ (hiC E a fa' q.2.1 ++ hiT E fa' q.2.1)) := by
  obtain ⟨h, x, y, T⟩ := T
  refine CI.of 2 (by decide) (Nat.le_of_ble_eq_true rfl) (fun p e s m below meth c A C _ => ?_)
  refine r_world (List.append_assoc _ _ _) ?_
  have hq : ∀ fa' : Nat → Nat → Nat, (fun r w' => r = q.1 ∧ ∃ fa' : Nat → Nat → Nat, w' = wFl E c0 q.2.2 ++ (hiC E a fa' q.2.1 ++ hiT E fa' q.2.1)) q.1 (wFl E c0 q.2.2 ++ (hiC E a fa' q.2.1 ++ hiT E fa' q.2.1)) := fun fa' => ⟨rfl, fa', rfl⟩
  refine r_weak (L' := [some (.ref (a 61)), some (.ref (c0 0)), none, none]) (lSub_s (lSub_s (lSub_n (lSub_n lSub_e)))) ?_
  refine r_aload_n (pc := 0) C (i := 0) dX2_takeBack_0 rfl rfl ?_
  refine r_get (pc := 1) C gwX2 18 rfl rfl 1 (by decide) wm_1_160 rfl dX2_takeBack_1 ?_
  refine r_bipush (pc := 4) C (v := 10) dX2_takeBack_4 (by decide) ?_
  refine r_iadd (pc := 6) C dX2_takeBack_6 ?_
  refine r_iconst (pc := 7) C (v := 1) dX2_takeBack_7 (by decide) ?_
  refine r_isub (pc := 8) C dX2_takeBack_8 ?_
  refine r_bipush (pc := 9) C (v := 10) dX2_takeBack_9 (by decide) ?_
  refine r_irem (pc := 11) C dX2_takeBack_11 (by decide) ?_
  obtain ⟨z, hz⟩ : ∃ z, z = Hlast (h, x, y, T) := ⟨_, rfl⟩
  refine r_topi (y := z) hz ?_
  unfold HtakeBack at hm
  rw [← hz] at hm
  refine r_istore_n (pc := 12) C (i := 2) dX2_takeBack_12 rfl (by decide) rfl ?_
  refine r_aload_n (pc := 13) C (i := 0) dX2_takeBack_13 rfl rfl ?_
  refine r_get (pc := 14) C gwX2 18 rfl rfl 0 (by decide) wm_1_158 rfl dX2_takeBack_14 ?_
  refine r_if_le (pc := 17) C (tgt := 33) dX2_takeBack_17 rfl (fun c1 => ?_) (fun c1 => ?_)
  · rw [if_pos c1] at hm
    cases hm
    refine r_iconst (pc := 33) C (v := 0) dX2_takeBack_33 (by decide) ?_
    exact r_iretz (pc := 34) C (Or.inl rfl) (hq fa) (Nat.le_of_ble_eq_true rfl) (Nat.le_of_ble_eq_true rfl) dX2_takeBack_34
  rw [if_neg c1] at hm
  refine r_iload_n (pc := 20) C (i := 2) dX2_takeBack_20 rfl rfl ?_
  refine r_if_lt (pc := 21) C (tgt := 33) dX2_takeBack_21 rfl (fun c2 => ?_) (fun c2 => ?_)
  · rw [if_pos c2] at hm
    cases hm
    refine r_iconst (pc := 33) C (v := 0) dX2_takeBack_33 (by decide) ?_
    exact r_iretz (pc := 34) C (Or.inl rfl) (hq fa) (Nat.le_of_ble_eq_true rfl) (Nat.le_of_ble_eq_true rfl) dX2_takeBack_34
  rw [if_neg c2] at hm
  refine r_iload_n (pc := 24) C (i := 2) dX2_takeBack_24 rfl rfl ?_
  refine r_aload_n (pc := 25) C (i := 0) dX2_takeBack_25 rfl rfl ?_
  refine r_get (pc := 26) C gwX2 18 rfl rfl 2 (by decide) wm_1_161 rfl dX2_takeBack_26 ?_
  refine r_alen (pc := 29) C 19 2 rfl rfl dX2_takeBack_29 ?_
  refine r_icmp_lt (pc := 30) C (tgt := 35) dX2_takeBack_30 rfl (fun c3 => ?_) (fun c3 => ?_)
  rotate_left
  · have c4 : (10 : Int32) ≤ z := Int32.not_lt.mp c3
    rw [if_pos c4] at hm
    cases hm
    refine r_iconst (pc := 33) C (v := 0) dX2_takeBack_33 (by decide) ?_
    exact r_iretz (pc := 34) C (Or.inl rfl) (hq fa) (Nat.le_of_ble_eq_true rfl) (Nat.le_of_ble_eq_true rfl) dX2_takeBack_34
  have c4 : ¬ (10 : Int32) ≤ z := Int32.not_le.mpr c3
  rw [if_neg c4] at hm
  have hin : inb z 10 = true := by
    have g1 : z < 10 := c3
    unfold inb
    rw [decide_eq_false c2, decide_eq_false]
    · rfl
    · have g2 := Int32.lt_iff_toInt_lt.mp g1
      have g3 : (10 : Int32).toInt = 10 := by decide
      have g4 : z.toNatClampNeg = z.toInt.toNat := rfl
      omega
  refine r_aload_n (pc := 35) C (i := 0) dX2_takeBack_35 rfl rfl ?_
  refine r_get (pc := 36) C gwX2 18 rfl rfl 2 (by decide) wm_1_161 rfl dX2_takeBack_36 ?_
  refine r_iload_n (pc := 39) C (i := 2) dX2_takeBack_39 rfl rfl ?_
  refine r_aaldF (pc := 40) C 19 rfl hin dX2_takeBack_40 ?_
  by_cases hj : z.toNatClampNeg < (h, x, y, T).1
  rotate_left
  · rw [if_neg hj] at hm
    cases hm
    refine r_topv (y := .null) (by rw [if_neg hj]; rfl) ?_
    refine r_astore_nN (pc := 41) C (i := 3) dX2_takeBack_41 rfl (by decide) rfl ?_
    refine r_aload_nN (pc := 42) C (i := 3) dX2_takeBack_42 rfl rfl ?_
    refine r_ifnonnull_n (tgt := 0) (pc := 43) C dX2_takeBack_43 ?_
    refine r_iconst (pc := 46) C (v := 0) dX2_takeBack_46 (by decide) ?_
    exact r_iretz (pc := 47) C (Or.inl rfl) (hq fa) (Nat.le_of_ble_eq_true rfl) (Nat.le_of_ble_eq_true rfl) dX2_takeBack_47
  rw [if_pos hj] at hm
  obtain ⟨X, hX, hm⟩ := bnd hm
  cases hm
  obtain ⟨j, ej⟩ : ∃ j, j = z.toNatClampNeg := ⟨_, rfl⟩
  rw [← ej] at hj hX
  refine r_topv (y := .ref (fa j 0)) (by rw [ej, if_pos (by rw [← ej]; exact hj)]; rfl) ?_
  refine r_astore_n (pc := 41) C (i := 3) dX2_takeBack_41 rfl (by decide) rfl ?_
  refine r_aload_n (pc := 42) C (i := 3) dX2_takeBack_42 rfl rfl ?_
  refine r_ifnonnull_r (pc := 43) C (tgt := 48) dX2_takeBack_43 rfl ?_
  refine r_aload_n (pc := 48) C (i := 1) dX2_takeBack_48 rfl rfl ?_
  refine r_aload_n (pc := 49) C (i := 3) dX2_takeBack_49 rfl rfl ?_
  obtain ⟨V, hV⟩ : ∃ V, V = (List.range' (j + 1) (h - (j + 1))).flatMap (fun i => wFl E (fa i) (T i)) := ⟨_, rfl⟩
  obtain ⟨U, hU⟩ : ∃ U, U = hiC E a fa (h, x, y, T) ++ hiT E fa (j, x, y, T) := ⟨_, rfl⟩
  have ew : wFl E c0 F ++ (hiC E a fa (h, x, y, T) ++ hiT E fa (h, x, y, T)) = [] ++ (wFl E c0 F ++ (U ++ (wFl E (fa j) (T j) ++ V))) := by
    rw [hiT_at E fa T h j x y hj, ← hV, hU]
    simp only [List.append_assoc, List.nil_append]
  refine r_world ew ?_
  have e1 : ([] ++ (wFl E c0 F ++ (U ++ (wFl E (fa j) (T j) ++ V)))) = (wFl E c0 F ++ U) ++ (wFl E (fa j) (T j) ++ V) := by simp only [List.nil_append, List.append_assoc]
  have m1 := seg_map [] (wFl E c0 F) (U ++ (wFl E (fa j) (T j) ++ V))
  have m2 := seg_map (wFl E c0 F ++ U) (wFl E (fa j) (T j)) V
  rw [← e1] at m2
  refine r_callV_CV (Cn := RX0) (pc := 50) C [.ref (fa j 0)] (c_X0_copyFrom E l k c0 (fa j) F (T j) hX) (List.range' ([] : va_W).length (wFl E c0 F).length ++ List.range' (wFl E c0 F ++ U).length (wFl E (fa j) (T j)).length) (by rw [List.map_append, List.map_append, m1]; exact congrArg _ m2) (by
    refine List.nodup_append.mpr ⟨List.nodup_range', List.nodup_range', fun a ha b hb => ?_⟩
    have h3 := (List.mem_range'_1.mp ha).2
    have h4 := (List.mem_range'_1.mp hb).1
    rw [List.length_append] at h4
    have h5 : ([] : va_W).length = 0 := rfl
    omega) 0 rfl rfl rfl g_X2_25 hd_X0_copyFrom ⟨Nat.le_of_ble_eq_true rfl, Nat.le_of_ble_eq_true rfl⟩ ⟨Nat.le_of_ble_eq_true rfl, Nat.le_of_ble_eq_true rfl⟩ (Nat.le_of_ble_eq_true rfl) rfl dX2_takeBack_50 (fun w1 hw1 => ?_)
  subst hw1
  refine ⟨[] ++ (wFl E c0 X ++ (U ++ (wFl E (fa j) (T j) ++ V))), ?_, ?_⟩
  · rw [seg_put (wFl E c0 F) [] (U ++ (wFl E (fa j) (T j) ++ V)) (wFl E c0 X) _ _ ((wFl_len _ _ _).trans (wFl_len _ _ _).symm)]
    refine putW_self _ _ _ ?_
    have m3 := seg_map (wFl E c0 X ++ U) (wFl E (fa j) (T j)) V
    rw [show (wFl E c0 X ++ U) ++ (wFl E (fa j) (T j) ++ V) = [] ++ (wFl E c0 X ++ (U ++ (wFl E (fa j) (T j) ++ V))) by simp only [List.nil_append, List.append_assoc]] at m3
    exact m3
  have ew2 : [] ++ (wFl E c0 X ++ (U ++ (wFl E (fa j) (T j) ++ V))) = wFl E c0 X ++ (hiC E a fa (h, x, y, T) ++ hiT E fa (h, x, y, T)) := by
    rw [hiT_at E fa T h j x y hj, ← hV, hU]
    simp only [List.append_assoc, List.nil_append]
  refine r_world ew2 ?_
  refine r_aload_n (pc := 53) C (i := 0) dX2_takeBack_53 rfl rfl ?_
  refine r_iload_n (pc := 54) C (i := 2) dX2_takeBack_54 rfl rfl ?_
  refine r_put (pc := 55) C gwX2 tyX2 tyX2_ok nmX2 18 rfl rfl 1 (by decide) wm_1_160 rfl rfl rfl rfl (Nat.le_of_ble_eq_true rfl) (w' := wFl E c0 X ++ (hiC E a fa (h, x, z, T) ++ hiT E fa (h, x, z, T))) rfl dX2_takeBack_55 ?_
  refine r_aload_n (pc := 58) C (i := 0) dX2_takeBack_58 rfl rfl ?_
  refine r_dup (pc := 59) C dX2_takeBack_59 rfl ?_
  refine r_get (pc := 60) C gwX2 18 rfl rfl 0 (by decide) wm_1_158 rfl dX2_takeBack_60 ?_
  refine r_iconst (pc := 63) C (v := 1) dX2_takeBack_63 (by decide) ?_
  refine r_isub (pc := 64) C dX2_takeBack_64 ?_
  refine r_put (pc := 65) C gwX2 tyX2 tyX2_ok nmX2 18 rfl rfl 0 (by decide) wm_1_158 rfl rfl rfl rfl (Nat.le_of_ble_eq_true rfl) (w' := wFl E c0 X ++ (hiC E a fa (h, x - 1, z, T) ++ hiT E fa (h, x - 1, z, T))) rfl dX2_takeBack_65 ?_
  refine r_iconst (pc := 68) C (v := 1) dX2_takeBack_68 (by decide) ?_
  exact r_iretz (pc := 69) C (Or.inr rfl) (hq fa) (Nat.le_of_ble_eq_true rfl) (Nat.le_of_ble_eq_true rfl) dX2_takeBack_69
end WALKS
