-- ===== lengths of a world with its history =====
theorem hiC_len (E : ENV) (a : Nat → Nat) (fa : Nat → Nat → Nat) (V : Nat × Int32 × Int32 × (Nat → VV)) : (hiC E a fa V).length = 2 := rfl
theorem len_L2 (E : ENV) (a : Nat → Nat) (o : Nat) (fa fa' : Nat → Nat → Nat) (S S' : VV × VV × VV × VV × VV × Int32) (U U' : Nat → Int64) (V V' : Nat × Int32 × Int32 × (Nat → VV)) : (wSg E a S' ++ (([(o, .inl (eC E 1, 1, .inr (.inl U')))] : va_W) ++ hiC E a fa' V')).length = (wSg E a S ++ (([(o, .inl (eC E 1, 1, .inr (.inl U)))] : va_W) ++ hiC E a fa V)).length := by
  rw [List.length_append, List.length_append, List.length_append, List.length_append, wSg_len, wSg_len, hiC_len, hiC_len]
  rfl
