section WALKS
variable {E : ENV} {p : Program} {l : Launch} {e : Env} {s : State} {m : MethodId} {args : Array Value} {below : List Frame} {meth : Method} {c : Code} {A : Nat → Prop}
-- ShardGuard$History.clear()V
theorem dX2_clear_0 : decode cX2_clear 0 = .ok (.aload_n 0, 1) := by decide +kernel
theorem dX2_clear_1 : decode cX2_clear 1 = .ok (.iconst 0, 1) := by decide +kernel
theorem dX2_clear_2 : decode cX2_clear 2 = .ok (.putfield 9, 3) := by decide +kernel
theorem dX2_clear_5 : decode cX2_clear 5 = .ok (.return_, 1) := by decide +kernel
def rm_X2_clear : Room := { frames := 0, cells := 0, slots := 0, locals := 0 }
def M_X2_clear_0 (k : Nat) (S : Nat × Int32 × Int32 × (Nat → VV)) : Option ((Nat × Int32 × Int32 × (Nat → VV))) := lt ((S.1, (0 : Int32), S.2.2)) fun F1 => some F1
set_option maxRecDepth 100000 in
set_option maxHeartbeats 4000000 in
theorem N_X2_clear_0 (C : CX E p l s m args meth c cX2_clear 1 RX2 none A) (a : Nat → Nat) (k : Nat) (fa : Nat → Nat → Nat) {post : va_W → Prop} :
    ∀ (S : Nat × Int32 × Int32 × (Nat → VV)) (q : (Nat × Int32 × Int32 × (Nat → VV))), M_X2_clear_0 k S = some q → (∀ fa' : Nat → Nat → Nat, S.1 ≤ q.1 → post (wHi E a fa' q)) →
      WW E p l e rm_X2_clear s m args below meth c A 0 0 (QV E below post args s rm_X2_clear A) (wHi E a fa S) 1 [some (.ref (a 61))] 0 [] := by
  intro S q  h hq
  unfold M_X2_clear_0 at h
  refine r_aload_n (pc := 0) C (i := 0) dX2_clear_0 rfl rfl ?_
  refine r_iconst (pc := 1) C (v := 0) dX2_clear_1 (by decide) ?_
  obtain ⟨F1, hF1, h⟩ := lt_e h
  refine r_put (pc := 2) C gwX2 tyX2 tyX2_ok nmX2 0 rfl rfl 0 (by decide) wm_1_158 rfl rfl rfl rfl (Nat.le_of_ble_eq_true rfl) (w' := (wHi E a fa F1)) (by rw [hF1]; rfl) dX2_clear_2 ?_
  cases h
  exact r_vret (pc := 5) C (hq fa (by rw [hF1]; exact Nat.le_refl _)) (Nat.zero_le _) (Nat.zero_le _) dX2_clear_5
def M_X2_clear (k : Nat) (S : Nat × Int32 × Int32 × (Nat → VV)) : Option ((Nat × Int32 × Int32 × (Nat → VV))) := M_X2_clear_0 k S
set_option maxRecDepth 100000 in
set_option maxHeartbeats 4000000 in
theorem c_X2_clear (E : ENV) (l : Launch) (k : Nat) (a : Nat → Nat) (fa : Nat → Nat → Nat) (S : Nat × Int32 × Int32 × (Nat → VV)) {q : (Nat × Int32 × Int32 × (Nat → VV))} (hm : M_X2_clear k S = some q) : CV E l yX2_clear cX2_clear 1 none rm_X2_clear [.ref (a 61)] (wHi E a fa S) (fun w' => ∃ fa' : Nat → Nat → Nat, w' = (wHi E a fa' q) ∧ S.1 ≤ q.1) :=
  CV.of 0 (by decide) (Nat.le_of_ble_eq_true rfl) (fun p e s m below meth c A C _ => r_weak (lSub_s lSub_e) (N_X2_clear_0 C a k fa S q  hm (fun fa' hm' => ⟨fa', rfl, hm'⟩)))
end WALKS
