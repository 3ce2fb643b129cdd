-- ===== the words of the tables that a callee keeps; one list for every method =====
def GW : List Cond := lw_tbl.filter goodWord
theorem gw_of {w : Cond} (h : w ∈ lw_tbl) (g : goodWord w = true) : w ∈ GW := List.mem_filter.mpr ⟨h, g⟩
theorem tb_0 {w : Cond} (h : w ∈ k2_sels lw_privs) (g : goodWord w = true) : w ∈ GW := gw_of (List.mem_append_left _ h) g
theorem tb_x {w : Cond} (h : w ∈ tables_1) (g : goodWord w = true) : w ∈ GW := gw_of (List.mem_append_right _ h) g
theorem tb_1 {w : Cond} (i : Nat) (h : tables_1_1[i]? = some w) (g : goodWord w = true) : w ∈ GW := tb_x (List.mem_append_left _ (List.mem_of_getElem? h)) g
theorem tb_2 {w : Cond} (i : Nat) (h : tables_1_2[i]? = some w) (g : goodWord w = true) : w ∈ GW := tb_x (List.mem_append_right _ (List.mem_append_left _ (List.mem_of_getElem? h))) g
theorem tb_3 {w : Cond} (i : Nat) (h : tables_1_3[i]? = some w) (g : goodWord w = true) : w ∈ GW := tb_x (List.mem_append_right _ (List.mem_append_right _ (List.mem_append_left _ (List.mem_of_getElem? h)))) g
theorem tb_4 {w : Cond} (i : Nat) (h : tables_1_4[i]? = some w) (g : goodWord w = true) : w ∈ GW := tb_x (List.mem_append_right _ (List.mem_append_right _ (List.mem_append_right _ (List.mem_append_left _ (List.mem_of_getElem? h))))) g
theorem tb_5 {w : Cond} (i : Nat) (h : tables_1_5[i]? = some w) (g : goodWord w = true) : w ∈ GW := tb_x (List.mem_append_right _ (List.mem_append_right _ (List.mem_append_right _ (List.mem_append_right _ (List.mem_append_left _ (List.mem_of_getElem? h)))))) g
theorem tb_6 {w : Cond} (i : Nat) (h : tables_1_6[i]? = some w) (g : goodWord w = true) : w ∈ GW := tb_x (List.mem_append_right _ (List.mem_append_right _ (List.mem_append_right _ (List.mem_append_right _ (List.mem_append_right _ (List.mem_append_left _ (List.mem_of_getElem? h))))))) g
theorem tb_7 {w : Cond} (i : Nat) (h : tables_1_7[i]? = some w) (g : goodWord w = true) : w ∈ GW := tb_x (List.mem_append_right _ (List.mem_append_right _ (List.mem_append_right _ (List.mem_append_right _ (List.mem_append_right _ (List.mem_append_right _ (List.mem_append_left _ (List.mem_of_getElem? h)))))))) g
theorem tb_8 {w : Cond} (i : Nat) (h : tables_1_8[i]? = some w) (g : goodWord w = true) : w ∈ GW := tb_x (List.mem_append_right _ (List.mem_append_right _ (List.mem_append_right _ (List.mem_append_right _ (List.mem_append_right _ (List.mem_append_right _ (List.mem_append_right _ (List.mem_of_getElem? h)))))))) g
def wsG (y : MethodName) (cc : ByteArray) (mL : Nat) (ret : Option FieldType) : List Cond := Cond.code y cc mL ret :: GW
theorem gw_good {w : Cond} (h : w ∈ GW) : (w.onTables && w.keeps) = true ∨ ∃ ty, w = .arrayClass ty := good_of_word (List.mem_filter.mp h).2
theorem gw_sub {L : List Cond} (h : ∀ w ∈ L, w ∈ GW) : GoodIn GW L := fun w hw => ⟨h w hw, gw_good (h w hw)⟩
theorem gw_G {y : MethodName} {cc : ByteArray} {mL : Nat} {ret : Option FieldType} (h : Cond.code y cc mL ret ∈ GW) : ∀ w ∈ wsG y cc mL ret, w ∈ GW := fun w hw => by
  rcases List.mem_cons.mp hw with e | h1
  · rw [e]; exact h
  · exact h1
theorem gw_V {own C : String} {idx mL : Nat} {y : MethodName} {cc : ByteArray} {ret : Option FieldType} (h1 : Cond.methodLink own idx y ∈ GW) (h2 : Cond.instanceMethod y ∈ GW) (h3 : Cond.selects C y y ∈ GW) (h4 : Cond.initialized C ∈ GW) (h5 : Cond.code y cc mL ret ∈ GW) : GoodIn GW (wsV own idx C y (wsG y cc mL ret)) := gw_sub fun w hw => by
  rcases List.mem_append.mp hw with h | h
  · simp only [List.mem_cons, List.not_mem_nil, or_false] at h
    rcases h with rfl | rfl | rfl | rfl <;> assumption
  · exact gw_G h5 w h
theorem gw_S {own : String} {idx mL : Nat} {y : MethodName} {cc : ByteArray} {ret : Option FieldType} (h1 : Cond.methodLink own idx y ∈ GW) (h2 : Cond.static y ∈ GW) (h4 : Cond.initialized y.cls ∈ GW) (h5 : Cond.code y cc mL ret ∈ GW) : GoodIn GW (va_wsS own idx y (wsG y cc mL ret)) := gw_sub fun w hw => by
  rcases List.mem_append.mp hw with h | h
  · simp only [List.mem_cons, List.not_mem_nil, or_false] at h
    rcases h with rfl | rfl | rfl <;> assumption
  · exact gw_G h5 w h
-- ===== what is fixed over a run: class numbers, places of fields, array classes, addresses of the String constants =====
abbrev ENV : Type := (Nat → ClassId) × (Nat → Nat → Nat) × (Nat → ClassId) × (Nat → Nat)
def eD (E : ENV) : va_G := (E.1, E.2.1)
def eC (E : ENV) (k : Nat) : ClassId := E.2.2.1 k
def eS (E : ENV) (k : Nat) : Nat := E.2.2.2 k
def eV (E : ENV) (k : Nat) : Nat := E.2.2.2 (k + 1000)
def eT (E : ENV) : List (ClassId × FieldType) := [(eC E 0, .int), (eC E 1, .long), (eC E 2, .object "ShardGuard$Fleet"), (eC E 3, .object "java/lang/String")]
def KE (E : ENV) (U : State) : Prop := va_K (eD E) vwCl (eT E) U
theorem KE.moved {E : ENV} {u U : State} (hvm : u.vm.Alike U.vm) (h : KE E u) : KE E U := va_K.moved hvm h
-- the locals of a frame, place by place
def cat1 (L : List (Option Value)) : Nat → Bool
  | 0 => true
  | i + 1 => match L[i]? with
    | some (some v) => v.category != 2
    | _ => true
def lH (ls : Array Slot) (nL : Nat) (L : List (Option Value)) : Prop := ∃ lv, lv_has ls nL lv ∧ ∀ (i : Nat) (v : Value), L[i]? = some (some v) → (i, v) ∈ lv
theorem lH.size {ls : Array Slot} {nL : Nat} {L : List (Option Value)} (h : lH ls nL L) : ls.size = nL := by
  obtain ⟨lv, h1, -⟩ := h
  exact h1.1
theorem lH.at {ls : Array Slot} {nL : Nat} {L : List (Option Value)} (h : lH ls nL L) {i : Nat} {v : Value} (hi : L[i]? = some (some v)) : ls[i]? = some (.val v) := by
  obtain ⟨lv, h1, h2⟩ := h
  exact h1.2.2 (i, v) (h2 i v hi)
theorem lH.put {ls' : Array Slot} {nL i : Nat} {x : Value} {L : List (Option Value)} {lv : List (Nat × Value)} (h2 : ∀ (i : Nat) (v : Value), L[i]? = some (some v) → (i, v) ∈ lv) (hc : cat1 L i = true) (h : lv_has ls' nL ((i, x) :: lv.filter (fun q => !(q.1 == i) && !(q.1 + 1 == i && q.2.category == 2)))) : lH ls' nL (L.set i (some x)) := by
  refine ⟨_, h, fun j v hj => ?_⟩
  rw [List.getElem?_set] at hj
  by_cases hij : i = j
  · subst hij
    rw [if_pos rfl] at hj
    split at hj
    · cases hj; exact List.mem_cons_self
    · cases hj
  · rw [if_neg hij] at hj
    refine List.mem_cons_of_mem _ (List.mem_filter.mpr ⟨h2 j v hj, ?_⟩)
    have e1 : (j == i) = false := by simp; omega
    have e2 : (j + 1 == i && v.category == 2) = false := by
      by_cases h3 : j + 1 = i
      · subst h3
        have h4 : cat1 L (j + 1) = (v.category != 2) := by simp [cat1, hj]
        rw [h4] at hc
        simp at hc ⊢
        exact hc
      · simp [h3]
    simp only [e1, e2]
    rfl
theorem lH.put2 {ls' : Array Slot} {nL i : Nat} {x : Value} {L : List (Option Value)} {lv : List (Nat × Value)} (h2 : ∀ (i : Nat) (v : Value), L[i]? = some (some v) → (i, v) ∈ lv) (hc : cat1 L i = true) (h : lv_has ls' nL ((i, x) :: lv.filter (fun q => !(q.1 == i) && (!(q.1 == i + 1) && !(q.1 + 1 == i && q.2.category == 2))))) : lH ls' nL ((L.set i (some x)).set (i + 1) none) := by
  refine ⟨_, h, fun j v hj => ?_⟩
  rw [List.getElem?_set] at hj
  by_cases hij1 : i + 1 = j
  · rw [if_pos hij1] at hj
    split at hj <;> cases hj
  · rw [if_neg hij1, List.getElem?_set] at hj
    by_cases hij : i = j
    · subst hij
      rw [if_pos rfl] at hj
      split at hj
      · cases hj; exact List.mem_cons_self
      · cases hj
    · rw [if_neg hij] at hj
      refine List.mem_cons_of_mem _ (List.mem_filter.mpr ⟨h2 j v hj, ?_⟩)
      have e1 : (j == i) = false := by simp; omega
      have e3 : (j == i + 1) = false := by simp; omega
      have e2 : (j + 1 == i && v.category == 2) = false := by
        by_cases h3 : j + 1 = i
        · subst h3
          have h4 : cat1 L (j + 1) = (v.category != 2) := by simp [cat1, hj]
          rw [h4] at hc
          simp at hc ⊢
          exact hc
        · simp [h3]
      simp only [e1, e2, e3]
      rfl
-- the locals at an entry
def lArgs : List Value → List (Option Value)
  | [] => []
  | v :: vs => if v.category = 2 then some v :: none :: lArgs vs else some v :: lArgs vs
theorem lArgs_in (vs : List Value) : ∀ (i0 i : Nat) (v : Value), (lArgs vs)[i]? = some (some v) → (i0 + i, v) ∈ lv_args i0 vs := by
  induction vs with
  | nil => intro i0 i v h; simp [lArgs] at h
  | cons u us ih =>
    intro i0 i v h
    simp only [lArgs, lv_args] at h ⊢
    split at h
    next hc =>
      rw [if_pos hc]
      match i, h with
      | 0, h => simp at h; rw [h]; exact List.mem_cons_self
      | 1, h => simp at h
      | i + 2, h =>
        have h1 := ih (i0 + 2) i v (by simpa using h)
        exact List.mem_cons_of_mem _ (by rw [show i0 + (i + 2) = i0 + 2 + i by omega]; exact h1)
    next hc =>
      rw [if_neg hc]
      match i, h with
      | 0, h => simp at h; rw [h]; exact List.mem_cons_self
      | i + 1, h =>
        have h1 := ih (i0 + 1) i v (by simpa using h)
        exact List.mem_cons_of_mem _ (by rw [show i0 + (i + 1) = i0 + 1 + i by omega]; exact h1)
def lPad (vs : List Value) (n : Nat) : List (Option Value) := lArgs vs ++ List.replicate n none
theorem lH.entry (vs : List Value) {n k : Nat} (h : (lg_sl vs).length ≤ n) : lH ((lg_sl vs ++ List.replicate (n - (lg_sl vs).length) Slot.unset).toArray) n (lPad vs k) := by
  refine ⟨_, lv_entry vs h, fun i v hi => ?_⟩
  unfold lPad at hi
  rw [List.getElem?_append] at hi
  split at hi
  · have := lArgs_in vs 0 i v hi
    rw [Nat.zero_add] at this
    exact this
  · rw [List.getElem?_replicate] at hi
    split at hi <;> cases hi
