theorem strTab_79 (j : Nat) (hj : 79 ≤ j) : strTab[j]? = none := List.getElem?_eq_none hj
set_option maxRecDepth 100000 in
theorem st_all {b : Nat} {s : State} {A : Nat → Prop} (h : narrow_1.before #[Value.ref b] s = true) (hts : ∀ w ∈ lw_tbl, w.before #[Value.ref b] s = true) (hA : ∀ a : Nat, a < s.heap.size → ¬ A a) : ∀ j : Nat, ∃ q : Nat × Nat, ∀ x, strTab[j]? = some x → vk_R x.1 x.2.1 x.2.2 q.1 s ∧ SStr q.1 q.2 (txB j) A s s.heap := fun j => match j with
  | 0 => (st_0 h hts hA).imp (fun q hq x hx => by cases hx; exact hq)
  | 1 => (st_1 h hts hA).imp (fun q hq x hx => by cases hx; exact hq)
  | 2 => (st_2 h hts hA).imp (fun q hq x hx => by cases hx; exact hq)
  | 3 => (st_3 h hts hA).imp (fun q hq x hx => by cases hx; exact hq)
  | 4 => (st_4 h hts hA).imp (fun q hq x hx => by cases hx; exact hq)
  | 5 => (st_5 h hts hA).imp (fun q hq x hx => by cases hx; exact hq)
  | 6 => (st_6 h hts hA).imp (fun q hq x hx => by cases hx; exact hq)
  | 7 => (st_7 h hts hA).imp (fun q hq x hx => by cases hx; exact hq)
  | 8 => (st_8 h hts hA).imp (fun q hq x hx => by cases hx; exact hq)
  | 9 => (st_9 h hts hA).imp (fun q hq x hx => by cases hx; exact hq)
  | 10 => (st_10 h hts hA).imp (fun q hq x hx => by cases hx; exact hq)
  | 11 => (st_11 h hts hA).imp (fun q hq x hx => by cases hx; exact hq)
  | 12 => (st_12 h hts hA).imp (fun q hq x hx => by cases hx; exact hq)
  | 13 => (st_13 h hts hA).imp (fun q hq x hx => by cases hx; exact hq)
  | 14 => (st_14 h hts hA).imp (fun q hq x hx => by cases hx; exact hq)
  | 15 => (st_15 h hts hA).imp (fun q hq x hx => by cases hx; exact hq)
  | 16 => (st_16 h hts hA).imp (fun q hq x hx => by cases hx; exact hq)
  | 17 => (st_17 h hts hA).imp (fun q hq x hx => by cases hx; exact hq)
  | 18 => (st_18 h hts hA).imp (fun q hq x hx => by cases hx; exact hq)
  | 19 => (st_19 h hts hA).imp (fun q hq x hx => by cases hx; exact hq)
  | 20 => (st_20 h hts hA).imp (fun q hq x hx => by cases hx; exact hq)
  | 21 => (st_21 h hts hA).imp (fun q hq x hx => by cases hx; exact hq)
  | 22 => (st_22 h hts hA).imp (fun q hq x hx => by cases hx; exact hq)
  | 23 => (st_23 h hts hA).imp (fun q hq x hx => by cases hx; exact hq)
  | 24 => (st_24 h hts hA).imp (fun q hq x hx => by cases hx; exact hq)
  | 25 => (st_25 h hts hA).imp (fun q hq x hx => by cases hx; exact hq)
  | 26 => (st_26 h hts hA).imp (fun q hq x hx => by cases hx; exact hq)
  | 27 => (st_27 h hts hA).imp (fun q hq x hx => by cases hx; exact hq)
  | 28 => (st_28 h hts hA).imp (fun q hq x hx => by cases hx; exact hq)
  | 29 => (st_29 h hts hA).imp (fun q hq x hx => by cases hx; exact hq)
  | 30 => (st_30 h hts hA).imp (fun q hq x hx => by cases hx; exact hq)
  | 31 => (st_31 h hts hA).imp (fun q hq x hx => by cases hx; exact hq)
  | 32 => (st_32 h hts hA).imp (fun q hq x hx => by cases hx; exact hq)
  | 33 => (st_33 h hts hA).imp (fun q hq x hx => by cases hx; exact hq)
  | 34 => (st_34 h hts hA).imp (fun q hq x hx => by cases hx; exact hq)
  | 35 => (st_35 h hts hA).imp (fun q hq x hx => by cases hx; exact hq)
  | 36 => (st_36 h hts hA).imp (fun q hq x hx => by cases hx; exact hq)
  | 37 => (st_37 h hts hA).imp (fun q hq x hx => by cases hx; exact hq)
  | 38 => (st_38 h hts hA).imp (fun q hq x hx => by cases hx; exact hq)
  | 39 => (st_39 h hts hA).imp (fun q hq x hx => by cases hx; exact hq)
  | 40 => (st_40 h hts hA).imp (fun q hq x hx => by cases hx; exact hq)
  | 41 => (st_41 h hts hA).imp (fun q hq x hx => by cases hx; exact hq)
  | 42 => (st_42 h hts hA).imp (fun q hq x hx => by cases hx; exact hq)
  | 43 => (st_43 h hts hA).imp (fun q hq x hx => by cases hx; exact hq)
  | 44 => (st_44 h hts hA).imp (fun q hq x hx => by cases hx; exact hq)
  | 45 => (st_45 h hts hA).imp (fun q hq x hx => by cases hx; exact hq)
  | 46 => (st_46 h hts hA).imp (fun q hq x hx => by cases hx; exact hq)
  | 47 => (st_47 h hts hA).imp (fun q hq x hx => by cases hx; exact hq)
  | 48 => (st_48 h hts hA).imp (fun q hq x hx => by cases hx; exact hq)
  | 49 => (st_49 h hts hA).imp (fun q hq x hx => by cases hx; exact hq)
  | 50 => (st_50 h hts hA).imp (fun q hq x hx => by cases hx; exact hq)
  | 51 => (st_51 h hts hA).imp (fun q hq x hx => by cases hx; exact hq)
  | 52 => (st_52 h hts hA).imp (fun q hq x hx => by cases hx; exact hq)
  | 53 => (st_53 h hts hA).imp (fun q hq x hx => by cases hx; exact hq)
  | 54 => (st_54 h hts hA).imp (fun q hq x hx => by cases hx; exact hq)
  | 55 => (st_55 h hts hA).imp (fun q hq x hx => by cases hx; exact hq)
  | 56 => (st_56 h hts hA).imp (fun q hq x hx => by cases hx; exact hq)
  | 57 => (st_57 h hts hA).imp (fun q hq x hx => by cases hx; exact hq)
  | 58 => (st_58 h hts hA).imp (fun q hq x hx => by cases hx; exact hq)
  | 59 => (st_59 h hts hA).imp (fun q hq x hx => by cases hx; exact hq)
  | 60 => (st_60 h hts hA).imp (fun q hq x hx => by cases hx; exact hq)
  | 61 => (st_61 h hts hA).imp (fun q hq x hx => by cases hx; exact hq)
  | 62 => (st_62 h hts hA).imp (fun q hq x hx => by cases hx; exact hq)
  | 63 => (st_63 h hts hA).imp (fun q hq x hx => by cases hx; exact hq)
  | 64 => (st_64 h hts hA).imp (fun q hq x hx => by cases hx; exact hq)
  | 65 => (st_65 h hts hA).imp (fun q hq x hx => by cases hx; exact hq)
  | 66 => (st_66 h hts hA).imp (fun q hq x hx => by cases hx; exact hq)
  | 67 => (st_67 h hts hA).imp (fun q hq x hx => by cases hx; exact hq)
  | 68 => (st_68 h hts hA).imp (fun q hq x hx => by cases hx; exact hq)
  | 69 => (st_69 h hts hA).imp (fun q hq x hx => by cases hx; exact hq)
  | 70 => (st_70 h hts hA).imp (fun q hq x hx => by cases hx; exact hq)
  | 71 => (st_71 h hts hA).imp (fun q hq x hx => by cases hx; exact hq)
  | 72 => (st_72 h hts hA).imp (fun q hq x hx => by cases hx; exact hq)
  | 73 => (st_73 h hts hA).imp (fun q hq x hx => by cases hx; exact hq)
  | 74 => (st_74 h hts hA).imp (fun q hq x hx => by cases hx; exact hq)
  | 75 => (st_75 h hts hA).imp (fun q hq x hx => by cases hx; exact hq)
  | 76 => (st_76 h hts hA).imp (fun q hq x hx => by cases hx; exact hq)
  | 77 => (st_77 h hts hA).imp (fun q hq x hx => by cases hx; exact hq)
  | 78 => (st_78 h hts hA).imp (fun q hq x hx => by cases hx; exact hq)
  | j + 79 => ⟨(0, 0), fun x hx => by rw [strTab_79 _ (Nat.le_add_left 79 j)] at hx; cases hx⟩
set_option maxRecDepth 100000 in
set_option maxHeartbeats 4000000 in
/-- the environment of the walks, from the start that the Statement allows -/
theorem env_start {b : Nat} {s : State} {A : Nat → Prop} (h : narrow_1.before #[Value.ref b] s = true) (hts : ∀ w ∈ lw_tbl, w.before #[Value.ref b] s = true) (hA : ∀ a : Nat, a < s.heap.size → ¬ A a) : ∃ E : ENV, KE E s ∧ EN E A s s.heap ∧ DC s := by
  have hgw : ∀ w ∈ GW, w.before #[Value.ref b] s = true := fun w hw => hts w (List.mem_filter.mp hw).1
  obtain ⟨c0, i0, k0⟩ := u_known (C := RX0) (T := TX0) (N := 13) (n := 13) hgw gwX0 (hts _ (tm_1 35 rfl))
  obtain ⟨c1, i1, k1⟩ := u_known (C := RX2) (T := TX2) (N := 3) (n := 3) hgw gwX2 (hts _ (tm_1 151 rfl))
  obtain ⟨c2, i2, k2⟩ := u_known (C := RX3) (T := TX3) (N := 4) (n := 4) hgw gwX3 (hts _ (tm_1 68 rfl))
  obtain ⟨c3, i3, k3⟩ := u_known (C := RX5) (T := TX5) (N := 1) (n := 1) hgw gwX5 (hts _ (tm_1 41 rfl))
  obtain ⟨c4, i4, k4⟩ := u_known (C := RX6) (T := TX6) (N := 3) (n := 3) hgw gwX6 (hts _ (tm_1 52 rfl))
  obtain ⟨c5, i5, k5⟩ := u_known (C := RX7) (T := TX7) (N := 9) (n := 9) hgw gwX7 (hts _ (tm_1 170 rfl))
  obtain ⟨c6, i6, k6⟩ := u_known (C := RX8) (T := TX8) (N := 2) (n := 2) hgw gwX8 (hts _ (tm_1 209 rfl))
  obtain ⟨c7, i7, k7⟩ := u_known (C := RX9) (T := TX9) (N := 7) (n := 7) hgw gwX9 (hts _ (tm_1 27 rfl))
  obtain ⟨c8, i8, k8⟩ := u_known (C := RX10) (T := TX10) (N := 28) (n := 28) hgw gwX10 (hts _ (tm_5 173 rfl))
  obtain ⟨dC, dI, hKc⟩ : ∃ (dC : Nat → ClassId) (dI : Nat → Nat → Nat), ∀ (k : Nat) (q : vw_C), vwCl[k]? = some q → u_Kn s q.1 q.2.1 q.2.2 (dC k) (dI k) := by
    refine ⟨fun k => [c0, c1, c2, c3, c4, c5, c6, c7, c8].getD k c0, fun k => [i0, i1, i2, i3, i4, i5, i6, i7, i8].getD k i0, ?_⟩
    intro k q hq
    match k, hq with
    | 0, hq => cases hq; exact k0
    | 1, hq => cases hq; exact k1
    | 2, hq => cases hq; exact k2
    | 3, hq => cases hq; exact k3
    | 4, hq => cases hq; exact k4
    | 5, hq => cases hq; exact k5
    | 6, hq => cases hq; exact k6
    | 7, hq => cases hq; exact k7
    | 8, hq => cases hq; exact k8
    | k + 9, hq => simp [vwCl] at hq
  obtain ⟨a0, ka0, co0, f0, g0, e0⟩ := Cond.arrayClass_spec (show (Cond.arrayClass .int).holds #[Value.ref b] s none s [] = true from (hts _ (tm_1 50 rfl)))
  obtain ⟨a1, ka1, co1, f1, g1, e1⟩ := Cond.arrayClass_spec (show (Cond.arrayClass .long).holds #[Value.ref b] s none s [] = true from (hts _ (tm_6 48 rfl)))
  obtain ⟨co2, a2, ka2, f2, -, g2, e2, h2⟩ := Cond.arrayOver_spec (show (Cond.arrayOver (.object "ShardGuard$Fleet")).holds #[Value.ref b] s none s [] = true from (hts _ (tm_1 157 rfl)))
  obtain ⟨co3, a3, ka3, f3, -, g3, e3, h3⟩ := Cond.arrayOver_spec (show (Cond.arrayOver (.object "java/lang/String")).holds #[Value.ref b] s none s [] = true from (hts _ (tm_5 179 rfl)))
  obtain ⟨ad, had⟩ := Classical.axiomOfChoice (st_all h hts hA)
  refine ⟨(dC, dI, fun k => [a0, a1, a2, a3].getD k a0, fun k => if k < 1000 then (ad k).1 else (ad (k - 1000)).2), ⟨hKc, fun k q hq => ?_⟩, ⟨fun j x hx => ?_, (vx_Zqof (hts _ (tm_2 213 rfl)) (hts _ (tm_1 10 rfl)) (pL (pR (pR (pR (pL (pL (pL (pL (pL (pL h)))))))))) hA), (vx_Zqof (hts _ (tm_2 215 rfl)) (hts _ (tm_1 10 rfl)) (pR (pR (pR (pR (pL (pL (pL (pL (pL (pL h)))))))))) hA), (va_Zof (hts _ (tm_3 58 rfl)) (hts _ (tm_1 16 rfl)) (va_eqt (pL (pL (pL (pR (pL (pL (pL (pL (pL h)))))))))) hA), (va_Zqof (hts _ (tm_3 74 rfl)) (hts _ (tm_1 18 rfl)) (pL (pR (pL (pL (pR (pL (pL (pL (pL (pL h)))))))))) hA), sr_LEAST_SETTINGS h hts hA, sr_GREATEST_SETTINGS h hts hA, sr_USUAL_SETTINGS h hts hA, va_AO.of (hts _ (tm_1 157 rfl)), va_AO.of (hts _ (tm_5 179 rfl)), List.forall_mem_cons.mpr ⟨(va_Nw.of rfl (hts _ (tm_1 36 rfl))), List.forall_mem_cons.mpr ⟨(va_Nw.of rfl (hts _ (tm_1 69 rfl))), List.forall_mem_cons.mpr ⟨(va_Nw.of rfl (hts _ (tm_1 152 rfl))), List.forall_mem_cons.mpr ⟨(va_Nw.of rfl (hts _ (tm_1 171 rfl))), List.forall_mem_cons.mpr ⟨(va_Nw.of rfl (hts _ (tm_1 210 rfl))), List.forall_mem_cons.mpr ⟨(va_Nw.of rfl (hts _ (tm_3 123 rfl))), List.forall_mem_cons.mpr ⟨(va_Nw.of rfl (hts _ (tm_3 128 rfl))), List.forall_mem_cons.mpr ⟨(va_Nw.of rfl (hts _ (tm_5 8 rfl))), List.forall_mem_cons.mpr ⟨(va_Nw.of rfl (hts _ (tm_5 106 rfl))), fun _ h => absurd h List.not_mem_nil⟩⟩⟩⟩⟩⟩⟩⟩⟩, (va_Nw.of rfl (hts _ (tm_1 237 rfl))), List.forall_mem_cons.mpr ⟨(va_Nw.of rfl (hts _ (tm_2 188 rfl))), List.forall_mem_cons.mpr ⟨(va_Nw.of rfl (hts _ (tm_3 212 rfl))), List.forall_mem_cons.mpr ⟨(va_Nw.of rfl (hts _ (tm_8 117 rfl))), List.forall_mem_cons.mpr ⟨(va_Nw.of rfl (hts _ (tm_8 118 rfl))), List.forall_mem_cons.mpr ⟨(va_Nw.of rfl (hts _ (tm_8 119 rfl))), List.forall_mem_cons.mpr ⟨(va_Nw.of rfl (hts _ (tm_8 120 rfl))), List.forall_mem_cons.mpr ⟨(va_Nw.of rfl (hts _ (tm_8 121 rfl))), List.forall_mem_cons.mpr ⟨(va_Nw.of rfl (hts _ (tm_8 122 rfl))), List.forall_mem_cons.mpr ⟨(va_Nw.of rfl (hts _ (tm_8 123 rfl))), List.forall_mem_cons.mpr ⟨(va_Nw.of rfl (hts _ (tm_8 124 rfl))), List.forall_mem_cons.mpr ⟨(va_Nw.of rfl (hts _ (tm_8 125 rfl))), List.forall_mem_cons.mpr ⟨(va_Nw.of rfl (hts _ (tm_8 126 rfl))), List.forall_mem_cons.mpr ⟨(va_Nw.of rfl (hts _ (tm_8 127 rfl))), List.forall_mem_cons.mpr ⟨(va_Nw.of rfl (hts _ (tm_8 128 rfl))), List.forall_mem_cons.mpr ⟨(va_Nw.of rfl (hts _ (tm_8 129 rfl))), fun _ h => absurd h List.not_mem_nil⟩⟩⟩⟩⟩⟩⟩⟩⟩⟩⟩⟩⟩⟩⟩⟩, ⟨List.forall_mem_cons.mpr ⟨(va_Nw.of rfl (hts _ (tm_2 190 rfl))), List.forall_mem_cons.mpr ⟨(va_Nw.of rfl (hts _ (tm_2 192 rfl))), List.forall_mem_cons.mpr ⟨(va_Nw.of rfl (hts _ (tm_2 194 rfl))), fun _ h => absurd h List.not_mem_nil⟩⟩⟩, va_Nc.of (pR (pR (pL (pL (pL (pL (pR (pL (pL (pL h))))))))))⟩⟩
  · match k, hq with
    | 0, hq => cases hq; exact ⟨fun n z => ⟨fun k h => (by cases h), ka0, g0, co0, e0⟩, f0⟩
    | 1, hq => cases hq; exact ⟨fun n z => ⟨fun k h => (by cases h), ka1, g1, co1, e1⟩, f1⟩
    | 2, hq => cases hq; exact ⟨fun n z => ⟨fun k h => (by cases h), ka2, g2, co2, e2⟩, ka2, co2, g2, e2, f2, h2⟩
    | 3, hq => cases hq; exact ⟨fun n z => ⟨fun k h => (by cases h), ka3, g3, co3, e3⟩, ka3, co3, g3, e3, f3, h3⟩
    | k + 4, hq => simp [eT] at hq
  · have hj : j < 79 := Nat.not_le.mp fun q => by rw [strTab_79 j q] at hx; cases hx
    obtain ⟨g1, g2⟩ := had j x hx
    have e1 : eS (dC, dI, fun k => [a0, a1, a2, a3].getD k a0, fun k => if k < 1000 then (ad k).1 else (ad (k - 1000)).2) j = (ad j).1 := if_pos (by omega)
    have e2 : eV (dC, dI, fun k => [a0, a1, a2, a3].getD k a0, fun k => if k < 1000 then (ad k).1 else (ad (k - 1000)).2) j = (ad j).2 := by
      unfold eV
      show (if j + 1000 < 1000 then (ad (j + 1000)).1 else (ad (j + 1000 - 1000)).2) = (ad j).2
      rw [if_neg (by omega), Nat.add_sub_cancel]
    rw [e1, e2]
    exact ⟨g1, g2⟩
