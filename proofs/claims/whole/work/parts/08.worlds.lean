-- ===== what the heap holds of each object, by a value =====
abbrev VV : Type := Nat → Nat → Int32
def klF (F : VV) : VV := fun i => F (i + 6)
def klP (F K : VV) : VV
  | 0 => F 0
  | 1 => F 1
  | 2 => F 2
  | 3 => F 3
  | 4 => F 4
  | 5 => F 5
  | i + 6 => K i
def wRow (E : ENV) (a : Nat → Nat) (nn : Nat) (S : Nat → Int32) : va_W := [(a 0, .inr (3, [.ref (a 1)])), (a 1, .inl (eC E 0, nn, .inl S))]
def wTab (E : ENV) (a : Nat → Nat) (rr : Int32) (rc : Int32) (nn : Nat) (S : Nat → Int32) : va_W := [(a 0, .inr (4, [.int rr, .int rc, .ref (a 1)])), (a 1, .inl (eC E 0, nn, .inl S))]
def wKl (E : ENV) (a : Nat → Nat) (S : Nat → Nat → Int32) : va_W := [(a 0, .inr (2, [.int (S 0 0), .ref (a 1), .ref (a 3), .ref (a 5)])), (a 1, .inr (3, [.ref (a 2)])), (a 2, .inl (eC E 0, 360, .inl (S 1))), (a 3, .inr (3, [.ref (a 4)])), (a 4, .inl (eC E 0, 360, .inl (S 2))), (a 5, .inr (4, [.int 12, .int 12, .ref (a 6)])), (a 6, .inl (eC E 0, 144, .inl (S 3)))]
def wFl (E : ENV) (a : Nat → Nat) (S : Nat → Nat → Int32) : va_W := [(a 0, .inr (0, [.int (S 0 0), .int (S 0 1), .int (S 0 2), .int (S 0 3), .int (S 0 4), .int (S 0 5), .ref (a 1), .ref (a 3), .ref (a 5), .ref (a 7), .ref (a 9), .ref (a 16), .int (S 0 6)])), (a 1, .inr (3, [.ref (a 2)])), (a 2, .inl (eC E 0, 5, .inl (S 1))), (a 3, .inr (3, [.ref (a 4)])), (a 4, .inl (eC E 0, 12, .inl (S 2))), (a 5, .inr (4, [.int 12, .int 3, .ref (a 6)])), (a 6, .inl (eC E 0, 36, .inl (S 3))), (a 7, .inr (4, [.int 60, .int 8, .ref (a 8)])), (a 8, .inl (eC E 0, 480, .inl (S 4))), (a 9, .inr (2, [.int ((klF S) 0 0), .ref (a 10), .ref (a 12), .ref (a 14)])), (a 10, .inr (3, [.ref (a 11)])), (a 11, .inl (eC E 0, 360, .inl ((klF S) 1))), (a 12, .inr (3, [.ref (a 13)])), (a 13, .inl (eC E 0, 360, .inl ((klF S) 2))), (a 14, .inr (4, [.int 12, .int 12, .ref (a 15)])), (a 15, .inl (eC E 0, 144, .inl ((klF S) 3))), (a 16, .inr (3, [.ref (a 17)])), (a 17, .inl (eC E 0, 60, .inl (S 5)))]
def wTk (E : ENV) (a : Nat → Nat) (S : Nat → Nat → Int32) : va_W := [(a 0, .inr (5, [.int (S 0 0), .int (S 0 1), .int (S 0 2), .ref (a 1), .int (S 0 3), .int (S 0 4), .int (S 0 5), .int (S 0 6), .int (S 0 7)])), (a 1, .inr (3, [.ref (a 2)])), (a 2, .inl (eC E 0, 700, .inl (S 1)))]
def wTx (E : ENV) (a : Nat → Nat) (S : Nat → Nat → Int32) : va_W := [(a 0, .inr (6, [.int (S 0 0), .ref (a 1)])), (a 1, .inr (3, [.ref (a 2)])), (a 2, .inl (eC E 0, 428, .inl (S 1)))]
