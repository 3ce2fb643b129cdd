-- ===== a String constant by a wide index =====
section WROWS6
variable {E : ENV} {p : Program} {l : Launch} {e : Env} {R : Room} {s : State} {m : MethodId} {args : Array Value} {below : List Frame} {meth : Method} {c : Code} {cc : ByteArray} {nL : Nat} {own : String} {ret : Option FieldType} {A : Nat → Prop} {cells slots : Nat} {Q : State → Prop} {w : va_W} {L : List (Option Value)} {pc : Nat} {st : List Value}
theorem r_ldcwS (C : CX E p l s m args meth c cc nL own ret A) (j : Nat) {index : Nat} {tx : String} (hj : strTab[j]? = some (own, index, tx)) (d : decode cc pc = .ok (.ldc_w index, 3)) (k : WW E p l e R s m args below meth c A cells slots Q w nL L (pc + 3) (.ref (eS E j) :: st)) : WW E p l e R s m args below meth c A cells slots Q w nL L pc st := fun H locs ls hP hD hS hl => by
  intro T hT X
  obtain ⟨t, a1, b1⟩ := k H locs ls hP hD hS hl T hT X
  have hZ := (C.2.2.2.2.2.2.1.1 j _ hj).1
  exact ⟨t, X.ldcStringW C.1 C.2.2.2.1 (text := tx) (a := eS E j) hZ.1 hZ.2 (g := F0 m pc ls st) rfl (by rw [C.2.1]; exact d) t a1, b1⟩
end WROWS6
