-- ===== the first states =====
theorem st_start {k : Nat} (hk : 20000 ≤ k) : ∃ F G1 G, M_X0_begin k (fun _ _ => 0) 2 1 = some F ∧ M_X10_clear k 1692 (fun _ => 0) = some G1 ∧ M_X10_layWorkers k 1692 G1 2 1 = some G ∧ GIx (F, (fun _ _ => 0), (fun _ _ => 0), tk0, (fun _ _ => 0), 0) (md0 G) (0, 0, 0, fun _ => (fun _ _ => 0)) 0 := by
  obtain ⟨Y, eY, hY⟩ := r_clear hk (fun _ => 0)
  obtain ⟨F, G, e1, e2, lf⟩ := l_begin (F := fun _ _ => 0) (U := fun j c => if j = 0 then (if c = 3 then 2 else 0) else clr0 Y c) (k := k) (W := 2) (Z := 1) hk (by decide) (by decide) (by decide) (by decide) (by decide) (Y := Y) rfl hY rfl
  have J := lf.jr
  refine ⟨F, clr0 Y, G, e1, eY, e2, ?_⟩
  refine GIx.ofs (nw := ⟨_, (by decide : (0 : Nat) ≤ 9999), J.cong (AgF.refl F) (gs_of rfl) (fun j _ => rfl)⟩) (ti := ⟨0, by decide, rfl, rfl, fun i hi => absurd hi (Nat.not_lt_zero i), rfl⟩) (xi := ⟨0, by decide, rfl, rfl, fun i hi => absurd hi (Nat.not_lt_zero i)⟩) (si := Or.inl ⟨rfl, rfl⟩) (hi := ⟨0, 0, rfl, rfl, rfl, by decide, by decide, Nat.le_refl 0, Nat.zero_le _, fun j hj => absurd hj (Nat.not_lt_zero j)⟩)
-- ===== what the law's cases have in common =====
def STP (q : Option ((VV × VV × VV × VV × VV × Int32) × (Nat → Nat → Int32) × (Nat → Int64) × (Nat × Int32 × Int32 × (Nat → VV)))) (N : Nat) : Prop := ∃ S' T' U' V', q = some (S', T', U', V') ∧ GIx S' T' V' N
theorem STP.eq {q q' : Option ((VV × VV × VV × VV × VV × Int32) × (Nat → Nat → Int32) × (Nat → Int64) × (Nat × Int32 × Int32 × (Nat → VV)))} {N : Nat} (e : q = q') (h : STP q' N) : STP q N := by
  rw [e]
  exact h
def IXS (x4 : Int32) (Ls : Nat) : Prop := (inb (x4 + (1 : Int32)) Ls = true) ∧ (inb (x4 + (2 : Int32)) Ls = true) ∧ (inb (x4 + (3 : Int32)) Ls = true) ∧ (inb (x4 + (4 : Int32)) Ls = true) ∧ (inb (x4 + (5 : Int32)) Ls = true)
theorem IXS.h1 {x4 : Int32} {Ls : Nat} (R__ : IXS x4 Ls) : inb (x4 + (1 : Int32)) Ls = true := R__.1
theorem IXS.h2 {x4 : Int32} {Ls : Nat} (R__ : IXS x4 Ls) : inb (x4 + (2 : Int32)) Ls = true := R__.2.1
theorem IXS.h3 {x4 : Int32} {Ls : Nat} (R__ : IXS x4 Ls) : inb (x4 + (3 : Int32)) Ls = true := R__.2.2.1
theorem IXS.h4 {x4 : Int32} {Ls : Nat} (R__ : IXS x4 Ls) : inb (x4 + (4 : Int32)) Ls = true := R__.2.2.2.1
theorem IXS.h5 {x4 : Int32} {Ls : Nat} (R__ : IXS x4 Ls) : inb (x4 + (5 : Int32)) Ls = true := R__.2.2.2.2
theorem IXS.ofs {x4 : Int32} {Ls : Nat} (h1 : inb (x4 + (1 : Int32)) Ls = true) (h2 : inb (x4 + (2 : Int32)) Ls = true) (h3 : inb (x4 + (3 : Int32)) Ls = true) (h4 : inb (x4 + (4 : Int32)) Ls = true) (h5 : inb (x4 + (5 : Int32)) Ls = true) : IXS x4 Ls := ⟨h1, h2, h3, h4, h5⟩
def gU (c : Int32) (g : Nat → Int64) (v : Int32) : Nat → Int64 := if c = 0 then vp_updL g (0 : Int32).toNatClampNeg v.toInt64 else g
theorem gU_eq {c : Int32} {g : Nat → Int64} {v v' : Int32} (hv : c = 0 → v = v') (h : c = 0) : lg_cmp (gU c g v (0 : Int32).toNatClampNeg) v'.toInt64 = 0 := by
  rw [lg_cmp_eq]
  unfold gU
  rw [if_pos h, hv h]
  exact if_pos rfl
theorem t_tail {k : Nat} {T' : VV} {g : Nat → Int64} {d v' : Int32} {X : (VV × VV × VV × VV × VV × Int32) × (Nat → Nat → Int32) × (Nat → Int64) × (Nat × Int32 × Int32 × (Nat → VV))} (h1 : T' 0 1 = d) (h : d = 0 → lg_cmp (g (0 : Int32).toNatClampNeg) v'.toInt64 = 0) : ((M_X10_thrown k T').bind fun q5 => if q5 = d then (if d = 0 then (if inb (0 : Int32) 1 = true then (if lg_cmp (g (0 : Int32).toNatClampNeg) v'.toInt64 = 0 then some X else none) else none) else some X) else none) = some X := by
  have e : M_X10_thrown k T' = some (T' 0 1) := rfl
  rw [e, Option.bind_some, if_pos h1]
  by_cases h0 : d = 0
  · rw [if_pos h0, if_pos (show inb (0 : Int32) 1 = true by decide), if_pos (h h0)]
  · rw [if_neg h0]
theorem f2_0 {c : Int32} (hc : c ∈ ([0, 2] : List Int32)) (h : f2 c = 0) : c = 0 := by
  rcases List.mem_cons.mp hc with e | hc
  · exact e
  · rcases List.mem_cons.mp hc with e | hc
    · subst e
      exact absurd h (by decide)
    · cases hc
theorem id_0 {c : Int32} {cs : List Int32} (_ : c ∈ cs) (h : id c = 0) : c = 0 := h
section LAWL
variable {c v : Int32} {g : Nat → Int64}
theorem lv_val {q : Option (Int32 × Int32)} (e : q = some (c, v)) (hc : c = 0 ∨ c = 1) : (q.bind fun q => if q.1 = 0 then some ((0 : Int32), (vp_updL g (0 : Int32).toNatClampNeg q.2.toInt64)) else if q.1 = 1 then some ((1 : Int32), g) else none) = some (c, gU c g v) := by
  subst e
  rcases hc with rfl | rfl
  · rfl
  · rfl
theorem ls_01 {α : Type} {q : Option (Int32 × Int32 × α)} {s : α} (e : q = some (c, v, s)) (hc : c ∈ ([0, 1] : List Int32)) : (q.bind fun q => if q.1 = 0 then some ((0 : Int32), q.2.2, (vp_updL g (0 : Int32).toNatClampNeg q.2.1.toInt64)) else if q.1 = 1 then some ((1 : Int32), q.2.2, g) else none) = some (id c, s, gU c g v) := by
  subst e
  rcases List.mem_cons.mp hc with rfl | hc
  · rfl
  · rcases List.mem_cons.mp hc with rfl | hc
    · rfl
    · cases hc
theorem ls_02 {α : Type} {q : Option (Int32 × Int32 × α)} {s : α} (e : q = some (c, v, s)) (hc : c ∈ ([0, 2] : List Int32)) : (q.bind fun q => if q.1 = 0 then some ((0 : Int32), q.2.2, (vp_updL g (0 : Int32).toNatClampNeg q.2.1.toInt64)) else if q.1 = 2 then some ((1 : Int32), q.2.2, g) else none) = some (f2 c, s, gU c g v) := by
  subst e
  rcases List.mem_cons.mp hc with rfl | hc
  · rfl
  · rcases List.mem_cons.mp hc with rfl | hc
    · rfl
    · cases hc
theorem ls_012 {α : Type} {q : Option (Int32 × Int32 × α)} {s : α} (e : q = some (c, v, s)) (hc : c ∈ ([0, 1, 2] : List Int32)) : (q.bind fun q => if q.1 = 0 then some ((0 : Int32), q.2.2, (vp_updL g (0 : Int32).toNatClampNeg q.2.1.toInt64)) else if q.1 = 1 then some ((1 : Int32), q.2.2, g) else if q.1 = 2 then some ((2 : Int32), q.2.2, g) else none) = some (id c, s, gU c g v) := by
  subst e
  rcases List.mem_cons.mp hc with rfl | hc
  · rfl
  · rcases List.mem_cons.mp hc with rfl | hc
    · rfl
    · rcases List.mem_cons.mp hc with rfl | hc
      · rfl
      · cases hc
theorem lo_01 {α β : Type} {q : Option (Int32 × Int32 × α × β)} {s : α} {h : β} (e : q = some (c, v, s, h)) (hc : c ∈ ([0, 1] : List Int32)) : (q.bind fun q => if q.1 = 0 then some ((0 : Int32), q.2.2.1, q.2.2.2, (vp_updL g (0 : Int32).toNatClampNeg q.2.1.toInt64)) else if q.1 = 1 then some ((1 : Int32), q.2.2.1, q.2.2.2, g) else none) = some (id c, s, h, gU c g v) := by
  subst e
  rcases List.mem_cons.mp hc with rfl | hc
  · rfl
  · rcases List.mem_cons.mp hc with rfl | hc
    · rfl
    · cases hc
theorem lo_02 {α β : Type} {q : Option (Int32 × Int32 × α × β)} {s : α} {h : β} (e : q = some (c, v, s, h)) (hc : c ∈ ([0, 2] : List Int32)) : (q.bind fun q => if q.1 = 0 then some ((0 : Int32), q.2.2.1, q.2.2.2, (vp_updL g (0 : Int32).toNatClampNeg q.2.1.toInt64)) else if q.1 = 2 then some ((1 : Int32), q.2.2.1, q.2.2.2, g) else none) = some (f2 c, s, h, gU c g v) := by
  subst e
  rcases List.mem_cons.mp hc with rfl | hc
  · rfl
  · rcases List.mem_cons.mp hc with rfl | hc
    · rfl
    · cases hc
theorem lo_012 {α β : Type} {q : Option (Int32 × Int32 × α × β)} {s : α} {h : β} (e : q = some (c, v, s, h)) (hc : c ∈ ([0, 1, 2] : List Int32)) : (q.bind fun q => if q.1 = 0 then some ((0 : Int32), q.2.2.1, q.2.2.2, (vp_updL g (0 : Int32).toNatClampNeg q.2.1.toInt64)) else if q.1 = 1 then some ((1 : Int32), q.2.2.1, q.2.2.2, g) else if q.1 = 2 then some ((2 : Int32), q.2.2.1, q.2.2.2, g) else none) = some (id c, s, h, gU c g v) := by
  subst e
  rcases List.mem_cons.mp hc with rfl | hc
  · rfl
  · rcases List.mem_cons.mp hc with rfl | hc
    · rfl
    · rcases List.mem_cons.mp hc with rfl | hc
      · rfl
      · cases hc
end LAWL
