-- ===== a tick on both sides =====
/-- how many of the first n places of a number have a bit -/
def pcn (a n : Nat) : Nat := (List.range n).countP (fun i => a.testBit i)
def RST (A : AF) (fg mk : Nat → Nat) (ks ks' : KL) (tk : Nat) (tkt : Nat → Nat) : Prop := (LI A) ∧ (SU A) ∧ (SR A) ∧ (TO A tk tkt) ∧ (KO A ks) ∧ (ks'.Perm ks) ∧ (MK A fg mk ks') ∧ (∀ t, t < A.m → fg t ≤ A.t) ∧ (AT A ks.length) ∧ (A.st 1 ≤ 5) ∧ (∀ t, t < A.m → pcn (A.sh t) 12 = A.Z) ∧ (A.Z ≤ 4)
theorem RST.li {A : AF} {fg mk : Nat → Nat} {ks ks' : KL} {tk : Nat} {tkt : Nat → Nat} (R__ : RST A fg mk ks ks' tk tkt) : LI A := R__.1
theorem RST.su {A : AF} {fg mk : Nat → Nat} {ks ks' : KL} {tk : Nat} {tkt : Nat → Nat} (R__ : RST A fg mk ks ks' tk tkt) : SU A := R__.2.1
theorem RST.sr {A : AF} {fg mk : Nat → Nat} {ks ks' : KL} {tk : Nat} {tkt : Nat → Nat} (R__ : RST A fg mk ks ks' tk tkt) : SR A := R__.2.2.1
theorem RST.tt {A : AF} {fg mk : Nat → Nat} {ks ks' : KL} {tk : Nat} {tkt : Nat → Nat} (R__ : RST A fg mk ks ks' tk tkt) : TO A tk tkt := R__.2.2.2.1
theorem RST.ko {A : AF} {fg mk : Nat → Nat} {ks ks' : KL} {tk : Nat} {tkt : Nat → Nat} (R__ : RST A fg mk ks ks' tk tkt) : KO A ks := R__.2.2.2.2.1
theorem RST.pm {A : AF} {fg mk : Nat → Nat} {ks ks' : KL} {tk : Nat} {tkt : Nat → Nat} (R__ : RST A fg mk ks ks' tk tkt) : ks'.Perm ks := R__.2.2.2.2.2.1
theorem RST.km {A : AF} {fg mk : Nat → Nat} {ks ks' : KL} {tk : Nat} {tkt : Nat → Nat} (R__ : RST A fg mk ks ks' tk tkt) : MK A fg mk ks' := R__.2.2.2.2.2.2.1
theorem RST.fl {A : AF} {fg mk : Nat → Nat} {ks ks' : KL} {tk : Nat} {tkt : Nat → Nat} (R__ : RST A fg mk ks ks' tk tkt) : ∀ t, t < A.m → fg t ≤ A.t := R__.2.2.2.2.2.2.2.1
theorem RST.ac {A : AF} {fg mk : Nat → Nat} {ks ks' : KL} {tk : Nat} {tkt : Nat → Nat} (R__ : RST A fg mk ks ks' tk tkt) : AT A ks.length := R__.2.2.2.2.2.2.2.2.1
theorem RST.r5 {A : AF} {fg mk : Nat → Nat} {ks ks' : KL} {tk : Nat} {tkt : Nat → Nat} (R__ : RST A fg mk ks ks' tk tkt) : A.st 1 ≤ 5 := R__.2.2.2.2.2.2.2.2.2.1
theorem RST.pc {A : AF} {fg mk : Nat → Nat} {ks ks' : KL} {tk : Nat} {tkt : Nat → Nat} (R__ : RST A fg mk ks ks' tk tkt) : ∀ t, t < A.m → pcn (A.sh t) 12 = A.Z := R__.2.2.2.2.2.2.2.2.2.2.1
theorem RST.z4 {A : AF} {fg mk : Nat → Nat} {ks ks' : KL} {tk : Nat} {tkt : Nat → Nat} (R__ : RST A fg mk ks ks' tk tkt) : A.Z ≤ 4 := R__.2.2.2.2.2.2.2.2.2.2.2
theorem RST.ofs {A : AF} {fg mk : Nat → Nat} {ks ks' : KL} {tk : Nat} {tkt : Nat → Nat} (li : LI A) (su : SU A) (sr : SR A) (tt : TO A tk tkt) (ko : KO A ks) (pm : ks'.Perm ks) (km : MK A fg mk ks') (fl : ∀ t, t < A.m → fg t ≤ A.t) (ac : AT A ks.length) (r5 : A.st 1 ≤ 5) (pc : ∀ t, t < A.m → pcn (A.sh t) 12 = A.Z) (z4 : A.Z ≤ 4) : RST A fg mk ks ks' tk tkt := ⟨li, su, sr, tt, ko, pm, km, fl, ac, r5, pc, z4⟩
/-- both sides keep one fleet -/
def JR (F S : VV) (g : Nat) (A : AF) (N : Nat) : Prop := ∃ fg mk ks ks' tk tkt, RelC F A fg ks ∧ RelM S g A mk ks' tk tkt ∧ RST A fg mk ks ks' tk tkt ∧ tk ≤ N
theorem AT.le {A : AF} {len : Nat} (a : AT A len) (h : LI A) : len ≤ 360 := by
  have := a.room h
  omega
theorem jr_tick {F S : VV} {g N k : Nat} {A : AF} (J : JR F S g A N) (ht : A.t + 1 < 20000) (hN : N + 3000 < 2 ^ 31) (hk : 20000 ≤ k) :
    ∃ F' S' A', M_X0_tick k F = some F' ∧ M_X10_tick k S = some S' ∧ JR F' S' g A' (N + 2000) ∧ A'.t = A.t + 1 ∧ SameZ A A' ∧ ∀ j, j ≠ g → j ≠ 6 → S' j = S j := by
  obtain ⟨fg, mk, ks, ks', tk, tkt, R, M, I, hN2⟩ := J
  have h := I.li
  -- the fleets on the way
  have h0 := wT_LI h ht
  have sU := stF_same (A.wT (A.t + 1)) A.W
  have h1 : LI (tk1 A) := h0.sameU sU
  have su1 : SU (tk1 A) := SU.sameU (A := A.wT (A.t + 1)) I.su sU
  have z1 : SameZ A (tk1 A) := ⟨sU.W, sU.Z, sU.m, sU.n, sU.st, sU.sh⟩
  have t1 : (tk1 A).t = A.t + 1 := sU.t
  have q1 : (tk1 A).Q = A.Q := sU.Q
  have s1 : SR (tk1 A) := fun r hr => by rw [q1]; exact I.sr r (by rw [← z1.n]; exact hr)
  have a1 : AT (tk1 A) ks.length := I.ac.of z1.n (fun r _ => by rw [q1]) (fun r _ hw => by
    unfold waits at hw ⊢
    rw [q1] at hw
    exact hw)
  have key2 := routeP_inv h1 (fun _ => True) trivial (fun _ _ _ _ _ _ => trivial)
  have h2 : LI (tk2 A) := key2.1
  have m2 : Same (tk1 A) (tk2 A) := key2.2.1
  have su2 : SU (tk2 A) := SU.routeP h1 su1
  have s2 : SR (tk2 A) := sr_routeP h1 s1
  have a2 : AT (tk2 A) ks.length := a1.routeP h1
  have z2 : SameZ A (tk2 A) := z1.trans ⟨m2.W, m2.Z, m2.m, m2.n, m2.st, m2.sh⟩
  have t2 : (tk2 A).t = A.t + 1 := m2.t.trans t1
  have I3 := refW_inv h2 (tk2 A).W (Nat.le_refl _)
  have h3 : LI (tk3 A) := I3.li
  have z3' := refW_sm (tk2 A) (tk2 A).W
  have z3 : SameZ A (tk3 A) := z2.trans z3'.1
  have t3 : (tk3 A).t = A.t + 1 := z3'.2.trans t2
  have s3 : SR (tk3 A) := sr_refW s2 _
  have a3 : AT (tk3 A) ks.length := a2.refW _
  have sk3 : SK (killer (tk2 A)) 0 (tk3 A) := refW_SK h2 su2
  have hWW : (tk3 A).W = (tk2 A).W := I3.W
  have hK := killer_hK h2 su2
  have I4 := clear_inv h3 hK (tk3 A).W (Nat.le_refl _)
  have h4 : LI (tk4 A) := I4.li
  have z4 : SameZ A (tk4 A) := z3.trans ⟨I4.sm.W, I4.sm.Z, I4.sm.m, I4.sm.n, I4.sm.st, I4.sm.sh⟩
  have t4 : (tk4 A).t = A.t + 1 := I4.sm.t.trans t3
  have s4 : SR (tk4 A) := sr_clear h3 s3 hK _ (Nat.le_refl _)
  have a4 : AT (tk4 A) (ks.length + (killsK (killer (tk2 A)) (tk3 A) (tk3 A).W).length) := a3.clear h3 (by rw [z3.st]; exact I.r5) hK _ (Nat.le_refl _)
  have sk4 := sk_clear h3 hK sk3 (tk3 A).W (Nat.le_refl _)
  have su4 : SU (tk4 A) := fun r j hr hj hq => by
    have hj2 : j < (tk3 A).W := by rw [← I4.sm.W]; exact hj
    rcases sk4 r j hr hj hq with e | ⟨e, _⟩
    · exact e
    · omega
  have e5 := endF_same (tk4 A) (tk4 A).m
  have h5 : LI (tk5 A) := h4.sameE e5
  have z5 : SameZ A (tk5 A) := z4.trans ⟨e5.W, e5.Z, e5.m, e5.n, e5.st, e5.sh⟩
  have t5 : (tk5 A).t = A.t + 1 := e5.t.trans t4
  have s5 : SR (tk5 A) := s4.sameE e5
  have su5 : SU (tk5 A) := su4.sameE e5
  have a5 := AT.sameE a4 e5
  have hfg : ∀ t, t < (tk5 A).m → fg t ≤ (tk5 A).t := fun t hm => by
    rw [t5]
    exact Nat.le_succ_of_le (I.fl t (by rw [← z5.m]; exact hm))
  -- the kills of this tick
  have kp := kills_perm h2 su2
  have kp : (killsK (killer (tk2 A)) (tk3 A) (tk3 A).W).Perm (wkKills (tk2 A) (fsts (tk2 A))) := by rw [hWW]; exact kp
  have wt : ∀ x, x ∈ wkKills (tk2 A) (fsts (tk2 A)) → x.1 = A.t + 1 ∧ x.2.1 < A.m ∧ x.2.2 < A.W := fun x hx => by
    rw [wkKills_map] at hx
    obtain ⟨p, hp, rfl⟩ := List.mem_map.mp hx
    have hp := (List.mem_filter.mp hp).1
    have hpl := firsts_mem hp
    have hw := ((fsts_iff h2 su2 p).mp hp).1
    refine ⟨t2, ?_, ?_⟩
    · rw [← z2.m]; exact (h2.toAW.tn (h2.me _ hpl)).1
    · rw [← z2.W]; exact hw
  have hlen : (ks ++ wkKills (tk2 A) (fsts (tk2 A))).length = ks.length + (killsK (killer (tk2 A)) (tk3 A) (tk3 A).W).length := by
    rw [List.length_append, kp.length_eq]
  have hroom := a2.room h2
  have hl : (ks ++ wkKills (tk2 A) (fsts (tk2 A))).length ≤ 360 := by
    rw [hlen]
    exact a5.le h5
  have ko5 : KO (tk5 A) (ks ++ wkKills (tk2 A) (fsts (tk2 A))) := by
    refine ⟨List.pairwise_append.mpr ⟨I.ko.so, pw_all (fun a ha b hb => ?_), fun a ha b hb => ?_⟩, fun x hx => ?_⟩
    · rw [(wt a ha).1, (wt b hb).1]; exact Nat.le_refl _
    · rw [(wt b hb).1]; exact Nat.le_succ_of_le (I.ko.le a ha).1
    · rw [t5, z5.m, z5.W]
      rcases List.mem_append.mp hx with hx | hx
      · obtain ⟨g1, g2, g3⟩ := I.ko.le x hx
        exact ⟨Nat.le_succ_of_le g1, g2, g3⟩
      · obtain ⟨g1, g2, g3⟩ := wt x hx
        exact ⟨Nat.le_of_eq g1, g2, g3⟩
  have hp : (ks' ++ killsK (killer (tk2 A)) (tk3 A) (tk3 A).W).Perm (ks ++ wkKills (tk2 A) (fsts (tk2 A))) := I.pm.append kp
  have hle : ∀ x, x ∈ ks' ++ killsK (killer (tk2 A)) (tk3 A) (tk3 A).W → x.1 ≤ (tk5 A).t ∧ x.2.1 < (tk5 A).m ∧ x.2.2 < (tk5 A).W := fun x hx => ko5.le x (hp.mem_iff.mp hx)
  have hmk : MK (tk5 A) fg mk (ks' ++ killsK (killer (tk2 A)) (tk3 A) (tk3 A).W) := fun t htm => by
    have htm : t < A.m := by rw [← z5.m]; exact htm
    obtain ⟨g1, g2⟩ := I.km t htm
    refine ⟨by rw [List.length_append]; omega, fun i hi => ?_⟩
    by_cases c : i < ks'.length
    · rw [List.getElem_append_left c]; exact g2 i c
    · have hin : (ks' ++ killsK (killer (tk2 A)) (tk3 A) (tk3 A).W)[i] ∈ killsK (killer (tk2 A)) (tk3 A) (tk3 A).W := by
        rw [List.getElem_append_right (by omega)]
        exact List.getElem_mem _
      have e1 := (wt _ (kp.mem_iff.mp hin)).1
      have := I.fl t htm
      rw [e1]
      constructor
      · intro _; omega
      · intro _; omega
  obtain ⟨F', e, R'⟩ := co_tick R h I.su s5 ht hk hroom ko5 hfg hl
  obtain ⟨S', mk', tk', tkt', eS, M', T', K', b', f'⟩ := ro_tick (fg := fg) (ks1 := ks ++ wkKills (tk2 A) (fsts (tk2 A))) M h I.su I.tt s5 ht (by omega) hk (by rw [hp.length_eq]; exact hl) hp hle hmk hfg
  have B := beg_inv h5 s5 hfg (ks := ks ++ wkKills (tk2 A) (fsts (tk2 A))) (tk5 A).m
  have C := beg_more h5 s5 hfg su5 a5 (ks := ks ++ wkKills (tk2 A) (fsts (tk2 A))) (tk5 A).m
  have zB : SameZ (tk5 A) (begF (tk5 A) fg (ks ++ wkKills (tk2 A) (fsts (tk2 A))) (tk5 A).m).1 := ⟨B.sm.W, B.sm.Z, B.sm.m, B.sm.n, B.sm.st, B.sm.sh⟩
  have zA := z5.trans zB
  refine ⟨F', S', _, e, eS, ⟨_, mk', _, _, tk', tkt', R', M', RST.ofs (li := B.li) (su := C.1) (sr := B.sr) (tt := T') (ko := ⟨ko5.so, fun x hx => ?_⟩) (pm := hp) (km := K') (fl := fun t htm => ?_) (ac := ?_) (r5 := ?_) (pc := fun t htm => ?_) (z4 := by rw [zA.Z]; exact I.z4), by omega⟩, B.sm.t.trans t5, zA, f'⟩
  · rw [B.sm.t, B.sm.m, B.sm.W]; exact ko5.le x hx
  · rw [B.sm.t]; exact B.fl t (by rw [← B.sm.m]; exact htm)
  · rw [hlen]; exact C.2
  · rw [zA.st]; exact I.r5
  · rw [zA.sh, zA.Z]; exact I.pc t (by rw [← zA.m]; exact htm)
