-- ===== the String constants of the class and of the reference (own class, its number in the pool, its text); their signs =====
def strTab : List (String × Nat × String) := [("ShardGuard", 61, "the buffer has not that many bytes"), ("ShardGuard$FleetText", 29, "workers"), ("ShardGuard$FleetText", 39, "size"), ("ShardGuard$FleetText", 46, ";"), ("ShardGuard$FleetText", 81, "restart"), ("ShardGuard$FleetText", 87, "retries"), ("ShardGuard$FleetText", 89, "limit"), ("ShardGuard$FleetText", 91, "window"), ("ShardGuard$FleetText", 93, "quarantine"), ("ShardGuard$FleetText", 95, "tenant"), ("ShardGuard$FleetText", 118, "request"), ("ShardGuard$FleetText", 123, "poisoned"), ("ShardGuard", 136, "no such number of the whole"), ("ShardGuard", 338, "no such setting"), ("ShardGuard", 334, "no such worker"), ("ShardGuard", 170, "no such property of a worker"), ("ShardGuard", 336, "no such tenant"), ("ShardGuard", 204, "no such property of a tenant"), ("ShardGuard", 206, "no such request"), ("ShardGuard", 208, "no such property of a request"), ("ShardGuard", 216, "no such place in the queue"), ("ShardGuard", 218, "no such place among the parked requests"), ("ShardGuard", 340, "a seed is not negative"), ("ShardGuard", 247, "0 to 200 ticks"), ("ShardGuard", 252, "a cost is 1 to 20"), ("ShardGuard", 261, "1 to 100 ticks"), ("ShardGuard", 272, "the set has workers that there are not"), ("ShardGuard", 284, "the setting cannot have this value"), ("ShardGuard$WorkerText", 24, "w"), ("ShardGuard$WorkerText", 39, " up"), ("ShardGuard$WorkerText", 41, " down"), ("ShardGuard$WorkerText", 51, " "), ("ShardGuard$WorkerText", 62, "!"), ("ShardGuard$WorkerText", 64, ":"), ("ShardGuard", 303, "no query of this length can be read"), ("ShardGuard", 305, "many"), ("ShardGuard", 311, "first"), ("ShardGuard$QueryText", 28, "not"), ("ShardGuard$QueryText", 30, "("), ("ShardGuard$QueryText", 86, "request"), ("ShardGuard$QueryText", 88, "tenant"), ("ShardGuard$QueryText", 90, "cost"), ("ShardGuard$QueryText", 92, "rest"), ("ShardGuard$QueryText", 94, "poisoned"), ("ShardGuard$QueryText", 96, "state"), ("ShardGuard$QueryText", 98, "attempts"), ("ShardGuard$QueryText", 100, "worker"), ("ShardGuard$QueryText", 102, "place"), ("ShardGuard$QueryText", 65, "<"), ("ShardGuard$QueryText", 67, ">"), ("ShardGuard$QueryText", 69, "="), ("ShardGuard$QueryText", 49, ")"), ("ShardGuard$QueryText", 23, "and"), ("ShardGuard$QueryText", 15, "or"), ("ShardGuardModel", 43, "restart"), ("ShardGuardModel", 45, "retries"), ("ShardGuardModel", 47, "limit"), ("ShardGuardModel", 49, "window"), ("ShardGuardModel", 51, "quarantine"), ("ShardGuardModel", 57, "request"), ("ShardGuardModel", 59, "tenant"), ("ShardGuardModel", 61, "cost"), ("ShardGuardModel", 63, "rest"), ("ShardGuardModel", 65, "poisoned"), ("ShardGuardModel", 67, "state"), ("ShardGuardModel", 69, "attempts"), ("ShardGuardModel", 71, "worker"), ("ShardGuardModel", 73, "place"), ("ShardGuardModel", 339, " up"), ("ShardGuardModel", 341, " down"), ("ShardGuardModel", 331, "!:"), ("ShardGuardModel", 333, ":"), ("ShardGuardModel", 425, "workers"), ("ShardGuardModel", 429, "size"), ("ShardGuardModel", 485, "first"), ("ShardGuardModel", 487, "many"), ("ShardGuardModel", 457, "not"), ("ShardGuardModel", 471, "and"), ("ShardGuardModel", 476, "or")]
def strB : List (List Int32) := [[116, 104, 101, 32, 98, 117, 102, 102, 101, 114, 32, 104, 97, 115, 32, 110, 111, 116, 32, 116, 104, 97, 116, 32, 109, 97, 110, 121, 32, 98, 121, 116, 101, 115], [119, 111, 114, 107, 101, 114, 115], [115, 105, 122, 101], [59], [114, 101, 115, 116, 97, 114, 116], [114, 101, 116, 114, 105, 101, 115], [108, 105, 109, 105, 116], [119, 105, 110, 100, 111, 119], [113, 117, 97, 114, 97, 110, 116, 105, 110, 101], [116, 101, 110, 97, 110, 116], [114, 101, 113, 117, 101, 115, 116], [112, 111, 105, 115, 111, 110, 101, 100], [110, 111, 32, 115, 117, 99, 104, 32, 110, 117, 109, 98, 101, 114, 32, 111, 102, 32, 116, 104, 101, 32, 119, 104, 111, 108, 101], [110, 111, 32, 115, 117, 99, 104, 32, 115, 101, 116, 116, 105, 110, 103], [110, 111, 32, 115, 117, 99, 104, 32, 119, 111, 114, 107, 101, 114], [110, 111, 32, 115, 117, 99, 104, 32, 112, 114, 111, 112, 101, 114, 116, 121, 32, 111, 102, 32, 97, 32, 119, 111, 114, 107, 101, 114], [110, 111, 32, 115, 117, 99, 104, 32, 116, 101, 110, 97, 110, 116], [110, 111, 32, 115, 117, 99, 104, 32, 112, 114, 111, 112, 101, 114, 116, 121, 32, 111, 102, 32, 97, 32, 116, 101, 110, 97, 110, 116], [110, 111, 32, 115, 117, 99, 104, 32, 114, 101, 113, 117, 101, 115, 116], [110, 111, 32, 115, 117, 99, 104, 32, 112, 114, 111, 112, 101, 114, 116, 121, 32, 111, 102, 32, 97, 32, 114, 101, 113, 117, 101, 115, 116], [110, 111, 32, 115, 117, 99, 104, 32, 112, 108, 97, 99, 101, 32, 105, 110, 32, 116, 104, 101, 32, 113, 117, 101, 117, 101], [110, 111, 32, 115, 117, 99, 104, 32, 112, 108, 97, 99, 101, 32, 97, 109, 111, 110, 103, 32, 116, 104, 101, 32, 112, 97, 114, 107, 101, 100, 32, 114, 101, 113, 117, 101, 115, 116, 115], [97, 32, 115, 101, 101, 100, 32, 105, 115, 32, 110, 111, 116, 32, 110, 101, 103, 97, 116, 105, 118, 101], [48, 32, 116, 111, 32, 50, 48, 48, 32, 116, 105, 99, 107, 115], [97, 32, 99, 111, 115, 116, 32, 105, 115, 32, 49, 32, 116, 111, 32, 50, 48], [49, 32, 116, 111, 32, 49, 48, 48, 32, 116, 105, 99, 107, 115], [116, 104, 101, 32, 115, 101, 116, 32, 104, 97, 115, 32, 119, 111, 114, 107, 101, 114, 115, 32, 116, 104, 97, 116, 32, 116, 104, 101, 114, 101, 32, 97, 114, 101, 32, 110, 111, 116], [116, 104, 101, 32, 115, 101, 116, 116, 105, 110, 103, 32, 99, 97, 110, 110, 111, 116, 32, 104, 97, 118, 101, 32, 116, 104, 105, 115, 32, 118, 97, 108, 117, 101], [119], [32, 117, 112], [32, 100, 111, 119, 110], [32], [33], [58], [110, 111, 32, 113, 117, 101, 114, 121, 32, 111, 102, 32, 116, 104, 105, 115, 32, 108, 101, 110, 103, 116, 104, 32, 99, 97, 110, 32, 98, 101, 32, 114, 101, 97, 100], [109, 97, 110, 121], [102, 105, 114, 115, 116], [110, 111, 116], [40], [114, 101, 113, 117, 101, 115, 116], [116, 101, 110, 97, 110, 116], [99, 111, 115, 116], [114, 101, 115, 116], [112, 111, 105, 115, 111, 110, 101, 100], [115, 116, 97, 116, 101], [97, 116, 116, 101, 109, 112, 116, 115], [119, 111, 114, 107, 101, 114], [112, 108, 97, 99, 101], [60], [62], [61], [41], [97, 110, 100], [111, 114], [114, 101, 115, 116, 97, 114, 116], [114, 101, 116, 114, 105, 101, 115], [108, 105, 109, 105, 116], [119, 105, 110, 100, 111, 119], [113, 117, 97, 114, 97, 110, 116, 105, 110, 101], [114, 101, 113, 117, 101, 115, 116], [116, 101, 110, 97, 110, 116], [99, 111, 115, 116], [114, 101, 115, 116], [112, 111, 105, 115, 111, 110, 101, 100], [115, 116, 97, 116, 101], [97, 116, 116, 101, 109, 112, 116, 115], [119, 111, 114, 107, 101, 114], [112, 108, 97, 99, 101], [32, 117, 112], [32, 100, 111, 119, 110], [33, 58], [58], [119, 111, 114, 107, 101, 114, 115], [115, 105, 122, 101], [102, 105, 114, 115, 116], [109, 97, 110, 121], [110, 111, 116], [97, 110, 100], [111, 114]]
def txB (j : Nat) : List Int32 := strB.getD j []
def nestM : List (String × Nat × MethodName × String) := [("ShardGuard", 11, yX0_init, "ShardGuard"), ("ShardGuard$Fleet", 37, yX3_init, "ShardGuard"), ("ShardGuard", 28, yX2_init, "ShardGuard"), ("ShardGuard", 35, yX7_init, "ShardGuard"), ("ShardGuard", 42, yX8_init, "ShardGuard"), ("ShardGuard$FleetText", 69, yX9_leastSetting, "ShardGuard"), ("ShardGuard$FleetText", 73, yX9_greatestSetting, "ShardGuard"), ("ShardGuard$History", 24, yX0_init, "ShardGuard"), ("ShardGuard", 316, yX4_test, "ShardGuard")]
def castL : List (String × String) := [("java/lang/IllegalArgumentException", "java/lang/IllegalArgumentException"), ("java/util/NoSuchElementException", "java/util/NoSuchElementException"), ("ShardGuard", "java/lang/Object"), ("ShardGuard$Fleet", "java/lang/Object"), ("ShardGuard$Row", "java/lang/Object"), ("ShardGuard$Table", "java/lang/Object"), ("ShardGuard$KillLog", "java/lang/Object"), ("ShardGuard$History", "java/lang/Object"), ("ShardGuard$Tokens", "java/lang/Object"), ("ShardGuard$WorkerText", "java/lang/Object"), ("ShardGuardModel", "java/lang/Object"), ("java/lang/IllegalArgumentException", "java/lang/Object"), ("java/util/NoSuchElementException", "java/lang/Object"), ("java/lang/Throwable", "java/lang/Object"), ("java/lang/String", "java/lang/Object")]
/-- an ordinary String with these signs (0 to 127), at q -/
def SStr (q v : Nat) (bs : List Int32) (A : Nat → Prop) (U : State) (H : Heap) : Prop := va_O "java/lang/String" q A U H ∧ va_OF "java/lang/String" "coder" "B" (.int 0) q A U H ∧ va_OF "java/lang/String" "value" "[B" (.ref v) q A U H ∧ va_T .byte v bs.length (fun j => .int (bs.getD j 0)) A U H
/-- a static row of ints of ShardGuard -/
def SAr (n : String) (f : List Int32) (A : Nat → Prop) (U : State) (H : Heap) : Prop := ∃ t : Nat, va_Z "ShardGuard" n "[I" (.ref t) A U H ∧ va_T .int t f.length (fun j => .int (f.getD j 0)) A U H
theorem SStr.moved {q v : Nat} {bs : List Int32} {A : Nat → Prop} {u U : State} {H : Heap} (hvm : u.vm.Alike U.vm) (h : SStr q v bs A u H) : SStr q v bs A U H := by
  obtain ⟨h1, h2, h3, h4⟩ := h
  exact ⟨va_O.moved hvm h1, va_OF.moved hvm h2, va_OF.moved hvm h3, va_T.moved hvm h4⟩
theorem SStr.kept {q v : Nat} {bs : List Int32} {A : Nat → Prop} {U : State} {H H1 : Heap} (h : SStr q v bs A U H) (hq : ∀ a : Nat, a < H.size → ¬ A a → H1[a]? = H[a]?) : SStr q v bs A U H1 := by
  obtain ⟨h1, h2, h3, h4⟩ := h
  exact ⟨h1.kept hq, h2.kept hq, h3.kept hq, h4.kept hq⟩
theorem SStr.narrow {q v : Nat} {bs : List Int32} {A B : Nat → Prop} {U : State} {H : Heap} (h : SStr q v bs A U H) (hAB : ∀ q, B q → A q) : SStr q v bs B U H := by
  obtain ⟨h1, h2, h3, h4⟩ := h
  exact ⟨h1.narrow hAB, h2.narrow hAB, h3.narrow hAB, h4.narrow hAB⟩
theorem SAr.moved {n : String} {f : List Int32} {A : Nat → Prop} {u U : State} {H : Heap} (hvm : u.vm.Alike U.vm) (h : SAr n f A u H) : SAr n f A U H := by
  obtain ⟨t, h1, h2⟩ := h
  exact ⟨t, va_Z.moved hvm h1, va_T.moved hvm h2⟩
theorem SAr.kept {n : String} {f : List Int32} {A : Nat → Prop} {U : State} {H H1 : Heap} (h : SAr n f A U H) (hq : ∀ a : Nat, a < H.size → ¬ A a → H1[a]? = H[a]?) : SAr n f A U H1 := by
  obtain ⟨t, h1, h2⟩ := h
  exact ⟨t, h1.kept hq, h2.kept hq⟩
theorem SAr.narrow {n : String} {f : List Int32} {A B : Nat → Prop} {U : State} {H : Heap} (h : SAr n f A U H) (hAB : ∀ q, B q → A q) : SAr n f B U H := by
  obtain ⟨t, h1, h2⟩ := h
  exact ⟨t, h1.narrow hAB, h2.narrow hAB⟩
/-- what lies outside of both systems and stays as it is -/
def EN (E : ENV) (A : Nat → Prop) (U : State) (H : Heap) : Prop :=
  (∀ (j : Nat) (x : String × Nat × String), strTab[j]? = some x → vk_R x.1 x.2.1 x.2.2 (eS E j) U ∧ SStr (eS E j) (eV E j) (txB j) A U H) ∧
  vx_Zq Bundle.tN "UNASSIGNED_STACK" Bundle.steD A U H ∧ vx_Zq Bundle.tN "SUPPRESSED_SENTINEL" Bundle.listD A U H ∧
  va_Z "java/lang/String" "COMPACT_STRINGS" "Z" (.int 1) A U H ∧ va_Zq "jdk/internal/util/Preconditions" "SIOOBE_FORMATTER" "Ljava/util/function/BiFunction;" A U H ∧
  SAr "LEAST_SETTINGS" [1, 0, 1, 1, 1] A U H ∧ SAr "GREATEST_SETTINGS" [50, 5, 9, 99, 999] A U H ∧ SAr "USUAL_SETTINGS" [5, 2, 3, 20, 50] A U H ∧
  va_AO "ShardGuard$Fleet" U ∧ va_AO "java/lang/String" U ∧ (∀ x ∈ nestM, va_Nw (.methodLinkNest x.1 x.2.1 x.2.2.1 x.2.2.2) U) ∧ va_Nw (.fieldLinkNest "ShardGuard$Fleet" 68 "ShardGuard" "USUAL_SETTINGS" "[I" "ShardGuard") U ∧ (∀ x ∈ castL, va_Nw (.castable x.1 x.2) U)
theorem EN.warm {E : ENV} {A : Nat → Prop} {u U : State} {H : Heap} (hW : u.WarmedH U.vm) (h : EN E A u H) : EN E A U H := by
  obtain ⟨h1, h2, h3, h4, h5, h6, h7, h8, h9, h10, h11, h12, h13⟩ := h
  have hvm := hW.alike
  exact ⟨fun j x hx => ⟨vk_R.warm hW (h1 j x hx).1, SStr.moved hvm (h1 j x hx).2⟩, vx_Zq.moved hvm h2, vx_Zq.moved hvm h3, va_Z.moved hvm h4, va_Zq.moved hvm h5, SAr.moved hvm h6, SAr.moved hvm h7, SAr.moved hvm h8, va_AO.moved hvm h9, va_AO.moved hvm h10, fun x hx => va_Nw.warmM hW (h11 x hx), va_Nw.warmF hW h12, fun x hx => va_Nw.warmC hW (h13 x hx)⟩
theorem EN.kept {E : ENV} {A : Nat → Prop} {U : State} {H H1 : Heap} (h : EN E A U H) (hq : ∀ a : Nat, a < H.size → ¬ A a → H1[a]? = H[a]?) : EN E A U H1 := by
  obtain ⟨h1, h2, h3, h4, h5, h6, h7, h8, h9, h10, h11, h12, h13⟩ := h
  exact ⟨fun j x hx => ⟨(h1 j x hx).1, (h1 j x hx).2.kept hq⟩, h2.kept hq, h3.kept hq, h4.kept hq, h5.kept hq, h6.kept hq, h7.kept hq, h8.kept hq, h9, h10, h11, h12, h13⟩
theorem EN.narrow {E : ENV} {A B : Nat → Prop} {U : State} {H : Heap} (h : EN E A U H) (hAB : ∀ q, B q → A q) : EN E B U H := by
  obtain ⟨h1, h2, h3, h4, h5, h6, h7, h8, h9, h10, h11, h12, h13⟩ := h
  exact ⟨fun j x hx => ⟨(h1 j x hx).1, (h1 j x hx).2.narrow hAB⟩, h2.narrow hAB, h3.narrow hAB, h4.narrow hAB, h5.narrow hAB, h6.narrow hAB, h7.narrow hAB, h8.narrow hAB, h9, h10, h11, h12, h13⟩
theorem EN.pass {E : ENV} {A B : Nat → Prop} {s U : State} {H : Heap} {locs : List Loc} (h : EN E A s s.heap) (hS : va_S A s.heap H locs) (hAB : ∀ q, B q → A q) (hU : U.heap = H) (hW : s.WarmedH U.vm) : EN E B U U.heap := by
  rw [hU]
  exact EN.warm hW ((h.kept hS.2.1).narrow hAB)
-- ===== contracts: what a method answers, and what becomes of the world w =====
def Pre (E : ENV) (w : va_W) (sz : Nat) (U : State) : Prop := U.heap.size = sz ∧ va_P (eD E) vwCl w U.heap ∧ KE E U ∧ va_D (fun _ => True) w ∧ EN E (va_A w sz) U U.heap
theorem Pre.blind (E : ENV) (w : va_W) (sz : Nat) (av : List Value) : FrameBlind (va_Pc av (Pre E w sz)) := fun a U g mk q => by
  obtain ⟨q0, q1, q2, q3, q4, q5⟩ := q
  exact ⟨q0, q1, q2, KE.moved (u := U) (U := U.calling g mk a) (Vm.Alike.refl U.vm) q3, q4, EN.warm (u := U) (U := U.calling g mk a) (State.WarmedH.refl U) q5⟩
def Bk (E : ENV) (A : Nat → Prop) (w' : va_W) (t : State) : Prop := va_P (eD E) vwCl w' t.heap ∧ va_D A w'
def CI (E : ENV) (l : Launch) (y : MethodName) (cc : ByteArray) (mL : Nat) (ret : Option FieldType) (rm : Room) (args : List Value) (w : va_W) (post : Int32 → va_W → Prop) : Prop := ∀ sz, Met l y (wsG y cc mL ret) rm (va_Pc args (Pre E w sz)) (va_Qi post (Bk E (va_A w sz)) (va_A w sz)) rm.cells rm.slots (va_A w sz)
def CL (E : ENV) (l : Launch) (y : MethodName) (cc : ByteArray) (mL : Nat) (ret : Option FieldType) (rm : Room) (args : List Value) (w : va_W) (post : Int64 → va_W → Prop) : Prop := ∀ sz, Met l y (wsG y cc mL ret) rm (va_Pc args (Pre E w sz)) (va_Ql post (Bk E (va_A w sz)) (va_A w sz)) rm.cells rm.slots (va_A w sz)
def CV (E : ENV) (l : Launch) (y : MethodName) (cc : ByteArray) (mL : Nat) (ret : Option FieldType) (rm : Room) (args : List Value) (w : va_W) (post : va_W → Prop) : Prop := ∀ sz, Met l y (wsG y cc mL ret) rm (va_Pc args (Pre E w sz)) (va_Qv post (Bk E (va_A w sz)) (va_A w sz)) rm.cells rm.slots (va_A w sz)
-- ===== a callee's world back into the caller's =====
def putW : va_W → List Nat → va_W → Option va_W
  | w, [], xs => some (w ++ xs)
  | _, _ :: _, [] => none
  | w, p :: ps, x :: xs => putW (w.set p x) ps xs
theorem putW_src : ∀ (ps : List Nat) (ws w1 w' : va_W), putW ws ps w1 = some w' → ps.Nodup → (∀ p ∈ ps, p < ws.length) →
    ∃ src : Nat → Option Nat, (∀ k q, w'[k]? = some q → (∃ i, src k = some i ∧ w1[i]? = some q) ∨ (src k = none ∧ k ∉ ps ∧ ws[k]? = some q)) ∧ (∀ k1 k2 i, src k1 = some i → src k2 = some i → k1 = k2) ∧ (∀ k i, src k = some i → k ∈ ps ∨ ws.length ≤ k) := by
  intro ps
  induction ps with
  | nil =>
    intro ws w1 w' h _ _
    simp only [putW, Option.some.injEq] at h
    subst h
    refine ⟨fun k => if k < ws.length then none else some (k - ws.length), fun k q hk => ?_, fun k1 k2 i h1 h2 => ?_, fun k i h1 => ?_⟩
    · by_cases hl : k < ws.length
      · rw [List.getElem?_append_left hl] at hk
        exact Or.inr ⟨if_pos hl, by simp, hk⟩
      · rw [List.getElem?_append_right (by omega)] at hk
        exact Or.inl ⟨k - ws.length, if_neg hl, hk⟩
    · by_cases hl1 : k1 < ws.length
      · simp only [if_pos hl1] at h1; cases h1
      · by_cases hl2 : k2 < ws.length
        · simp only [if_pos hl2] at h2; cases h2
        · simp only [if_neg hl1, if_neg hl2, Option.some.injEq] at h1 h2
          omega
    · by_cases hl1 : k < ws.length
      · simp only [if_pos hl1] at h1; cases h1
      · exact Or.inr (by omega)
  | cons p ps ih =>
    intro ws w1 w' h hn hp
    cases w1 with
    | nil => simp [putW] at h
    | cons x xs =>
      simp only [putW] at h
      have hn2 := List.nodup_cons.mp hn
      obtain ⟨src, h1, h2, h3⟩ := ih (ws.set p x) xs w' h hn2.2 (fun q hq => by rw [List.length_set]; exact hp q (List.mem_cons_of_mem _ hq))
      have hpl : p < ws.length := hp p List.mem_cons_self
      refine ⟨fun k => if k = p then some 0 else (src k).map (· + 1), fun k q hk => ?_, fun k1 k2 i g1 g2 => ?_, fun k i g1 => ?_⟩
      · by_cases hkp : k = p
        · subst hkp
          rcases h1 k q hk with ⟨i, hi, -⟩ | ⟨-, -, hq⟩
          · rcases h3 k i hi with h4 | h4
            · exact absurd h4 hn2.1
            · rw [List.length_set] at h4; omega
          · rw [List.getElem?_set] at hq
            rw [if_pos rfl, if_pos hpl] at hq
            exact Or.inl ⟨0, if_pos rfl, hq⟩
        · rcases h1 k q hk with ⟨i, hi, hq⟩ | ⟨hs, hnp, hq⟩
          · exact Or.inl ⟨i + 1, by simp [hkp, hi], by simpa using hq⟩
          · rw [List.getElem?_set, if_neg (fun e => hkp e.symm)] at hq
            exact Or.inr ⟨by simp [hkp, hs], fun hm => (List.mem_cons.mp hm).elim hkp hnp, hq⟩
      · by_cases hk1 : k1 = p
        · by_cases hk2 : k2 = p
          · rw [hk1, hk2]
          · simp only [if_pos hk1, if_neg hk2] at g1 g2
            cases hs : src k2 with
            | none => rw [hs] at g2; cases g2
            | some j => rw [hs] at g2; simp at g1 g2; omega
        · by_cases hk2 : k2 = p
          · simp only [if_neg hk1, if_pos hk2] at g1 g2
            cases hs : src k1 with
            | none => rw [hs] at g1; cases g1
            | some j => rw [hs] at g1; simp at g1 g2; omega
          · simp only [if_neg hk1, if_neg hk2] at g1 g2
            cases hs1 : src k1 with
            | none => rw [hs1] at g1; cases g1
            | some j1 =>
              cases hs2 : src k2 with
              | none => rw [hs2] at g2; cases g2
              | some j2 =>
                rw [hs1] at g1; rw [hs2] at g2
                simp at g1 g2
                exact h2 k1 k2 j1 hs1 (by rw [hs2]; congr 1; omega)
      · by_cases hkp : k = p
        · exact Or.inl (by rw [hkp]; exact List.mem_cons_self)
        · simp only [if_neg hkp] at g1
          cases hs : src k with
          | none => rw [hs] at g1; cases g1
          | some j =>
            rcases h3 k j hs with h4 | h4
            · exact Or.inl (List.mem_cons_of_mem _ h4)
            · rw [List.length_set] at h4; exact Or.inr h4
theorem placesC {ws wc : va_W} {ps : List Nat} (hC : ps.map (fun i => ws[i]?) = wc.map some) : ∀ (i : Nat) (q : Nat × va_E), wc[i]? = some q → ∃ k, k ∈ ps ∧ ws[k]? = some q := by
  intro i q hq
  have h1 : (wc.map some)[i]? = some (some q) := by rw [List.getElem?_map, hq]; rfl
  rw [← hC, List.getElem?_map] at h1
  cases hp : ps[i]? with
  | none => rw [hp] at h1; cases h1
  | some k => rw [hp] at h1; exact ⟨k, List.mem_of_getElem? hp, by simpa using h1⟩
theorem joinW {A0 : Nat → Prop} {D : va_G} {cl : List vw_C} {ws wc w1 w' : va_W} {H H1 : Heap} (hP : va_P D cl ws H) (hD : va_D A0 ws) (ps : List Nat) (hC : ps.map (fun i => ws[i]?) = wc.map some) (hn : ps.Nodup)
    (hk : ∀ q : Nat, q < H.size → ¬ va_A wc H.size q → H1[q]? = H[q]?) (hF : ∀ q, va_A wc H.size q → A0 q) (hP1 : va_P D cl w1 H1) (hD1 : va_D (va_A wc H.size) w1) (hw : putW ws ps w1 = some w') : va_P D cl w' H1 ∧ va_D A0 w' := by
  have hpl : ∀ p ∈ ps, p < ws.length := by
    intro p hp
    obtain ⟨i, hi, he⟩ := List.mem_iff_getElem.mp hp
    have h1 : (ps.map (fun i => ws[i]?))[i]? = some ws[p]? := by rw [List.getElem?_map, List.getElem?_eq_getElem hi, he]; rfl
    rw [hC, List.getElem?_map] at h1
    cases hq : wc[i]? with
    | none => rw [hq] at h1; cases h1
    | some q =>
      rw [hq] at h1
      have h2 : ws[p]? = some q := by simpa using h1.symm
      exact (List.getElem?_eq_some_iff.mp h2).1
  obtain ⟨src, h1, h2, -⟩ := putW_src ps ws w1 w' hw hn hpl
  have hout : ∀ (k : Nat) (q : Nat × va_E), k ∉ ps → ws[k]? = some q → ¬ va_A wc H.size q.1 := by
    rintro k q hkp hq (⟨i, e, hi⟩ | hge)
    · obtain ⟨k2, hk2, hq2⟩ := placesC hC i (q.1, e) hi
      have := hD.1 k k2 q (q.1, e) hq hq2 rfl
      exact hkp (this ▸ hk2)
    · have := (hP k q hq).lt
      omega
  refine ⟨fun k q hq => ?_, fun k1 k2 q1 q2 hq1 hq2 he => ?_, fun k q hq => ?_⟩
  · rcases h1 k q hq with ⟨i, -, hi⟩ | ⟨-, hnp, hi⟩
    · exact hP1 i q hi
    · have h3 : va_P D cl [q] H := fun k2 q2 h4 => by
        match k2, h4 with
        | 0, h4 => cases h4; exact hP k q hi
        | k2 + 1, h4 => simp at h4
      have h5 : va_P D cl [q] H1 := h3.kept (fun k2 q2 h4 => by
        match k2, h4 with
        | 0, h4 => cases h4; exact hk _ (hP k q hi).lt (hout k q hnp hi)
        | k2 + 1, h4 => simp at h4)
      exact h5 0 q rfl
  · rcases h1 k1 q1 hq1 with ⟨i1, s1, e1⟩ | ⟨s1, n1, e1⟩
    · rcases h1 k2 q2 hq2 with ⟨i2, s2, e2⟩ | ⟨s2, n2, e2⟩
      · have := hD1.1 i1 i2 q1 q2 e1 e2 he
        subst this
        exact h2 k1 k2 i1 s1 s2
      · exact absurd (he ▸ hD1.2 i1 q1 e1) (hout k2 q2 n2 e2)
    · rcases h1 k2 q2 hq2 with ⟨i2, s2, e2⟩ | ⟨s2, n2, e2⟩
      · exact absurd (he ▸ hD1.2 i2 q2 e2) (hout k1 q1 n1 e1)
      · exact hD.1 k1 k2 q1 q2 e1 e2 he
  · rcases h1 k q hq with ⟨i, -, hi⟩ | ⟨-, -, hi⟩
    · exact hF _ (hD1.2 i q hi)
    · exact hD.2 k q hi
theorem EN.least {E : ENV} {A : Nat → Prop} {U : State} {H : Heap} (h : EN E A U H) : SAr "LEAST_SETTINGS" [1, 0, 1, 1, 1] A U H := h.2.2.2.2.2.1
theorem EN.greatest {E : ENV} {A : Nat → Prop} {U : State} {H : Heap} (h : EN E A U H) : SAr "GREATEST_SETTINGS" [50, 5, 9, 99, 999] A U H := h.2.2.2.2.2.2.1
theorem EN.usual {E : ENV} {A : Nat → Prop} {U : State} {H : Heap} (h : EN E A U H) : SAr "USUAL_SETTINGS" [5, 2, 3, 20, 50] A U H := h.2.2.2.2.2.2.2.1
theorem EN.aoF {E : ENV} {A : Nat → Prop} {U : State} {H : Heap} (h : EN E A U H) : va_AO "ShardGuard$Fleet" U := h.2.2.2.2.2.2.2.2.1
theorem EN.aoS {E : ENV} {A : Nat → Prop} {U : State} {H : Heap} (h : EN E A U H) : va_AO "java/lang/String" U := h.2.2.2.2.2.2.2.2.2.1
theorem EN.nest {E : ENV} {A : Nat → Prop} {U : State} {H : Heap} (h : EN E A U H) (i : Nat) {x : String × Nat × MethodName × String} (hx : nestM[i]? = some x) : va_Nw (.methodLinkNest x.1 x.2.1 x.2.2.1 x.2.2.2) U := h.2.2.2.2.2.2.2.2.2.2.1 x (List.mem_of_getElem? hx)
theorem EN.nestF {E : ENV} {A : Nat → Prop} {U : State} {H : Heap} (h : EN E A U H) : va_Nw (.fieldLinkNest "ShardGuard$Fleet" 68 "ShardGuard" "USUAL_SETTINGS" "[I" "ShardGuard") U := h.2.2.2.2.2.2.2.2.2.2.2.1
theorem EN.cast {E : ENV} {A : Nat → Prop} {U : State} {H : Heap} (h : EN E A U H) (i : Nat) {x : String × String} (hx : castL[i]? = some x) : va_Nw (.castable x.1 x.2) U := h.2.2.2.2.2.2.2.2.2.2.2.2 x (List.mem_of_getElem? hx)
theorem EN.str {E : ENV} {A : Nat → Prop} {U : State} {H : Heap} (h : EN E A U H) {j : Nat} (hj : j < 79) : SStr (eS E j) (eV E j) (txB j) A U H := by
  have hl : j < strTab.length := hj
  exact (h.1 j _ (List.getElem?_eq_getElem hl)).2
