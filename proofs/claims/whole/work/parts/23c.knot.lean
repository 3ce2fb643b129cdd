-- ===== the recursions, closed at a depth =====
def ff4 : Nat → Nat
  | 0 => 0
  | d + 1 => 10 + ff4 d
def fl4 : Nat → Nat
  | 0 => 0
  | d + 1 => 243 + fl4 d
def fac4 (k : Nat) : Nat → (Nat → Nat → Int32) → (Nat → Nat → Int32) → Int32 → Option (Int64 × (Nat → Nat → Int32))
  | 0 => fun _ _ _ => none
  | d + 1 => M_X4_factor k (fac4 k d)
theorem c_fac4 (E : ENV) (l : Launch) (k : Nat) : ∀ (d : Nat) (a b : Nat → Nat) (S T : (Nat → Nat → Int32)) (p0 : Int32) (q : Int64 × (Nat → Nat → Int32)), fac4 k d S T p0 = some q → CL E l yX4_factor cX4_factor 6 (some .long) (rmV (ff4 d) (fl4 d)) [.ref (a 0), .ref (b 0), .int p0] (wTk E a S ++ wFl E b T) (fun r w' => r = q.1 ∧ w' = wTk E a q.2 ++ wFl E b T) := by
  intro d
  induction d with
  | zero => intro a b S T p0 q h; cases h
  | succ d ih => intro a b S T p0 q h; exact c_X4_factor E l k (fac4 k d) (ff4 d) (fl4 d) ih a b S T p0 h
def rm_X4_testT : Room := rm_X4_test (ff4 8) (fl4 8)
def M_X4_testT (k : Nat) (S : (Nat → Nat → Int32)) (T : (Nat → Nat → Int32)) (p0 : Int32) : Option (Int64 × (Nat → Nat → Int32)) := M_X4_test k (fac4 k 8) S T p0
theorem c_X4_testT (E : ENV) (l : Launch) (k : Nat) (a b : Nat → Nat) (S T : (Nat → Nat → Int32)) (p0 : Int32) {q : Int64 × (Nat → Nat → Int32)} (hm : M_X4_testT k S T p0 = some q) : CL E l yX4_test cX4_test 11 (some .long) rm_X4_testT [.ref (a 0), .ref (b 0), .int p0] (wTk E a S ++ wFl E b T) (fun r w' => r = q.1 ∧ w' = (wTk E a q.2 ++ wFl E b T)) :=
  c_X4_test E l k (fac4 k 8) (ff4 8) (fl4 8) (c_fac4 E l k 8) a b S T p0 hm
def ff10 : Nat → Nat
  | 0 => 0
  | d + 1 => 10 + ff10 d
def fl10 : Nat → Nat
  | 0 => 0
  | d + 1 => 235 + fl10 d
def fac10 (k : Nat) : Nat → (Nat → Nat → Int32) → Option ((Nat → Nat → Int32))
  | 0 => fun _ => none
  | d + 1 => M_X10_compileFactor k (fac10 k d)
theorem c_fac10 (E : ENV) (l : Launch) (k : Nat) : ∀ (d : Nat) (a : Nat → Nat) (S : (Nat → Nat → Int32)) (q : (Nat → Nat → Int32)), fac10 k d S = some q → CV E l yX10_compileFactor cX10_compileFactor 2 none (rmV (ff10 d) (fl10 d)) [.ref (a 0)] (wMd E a S) (fun w' => w' = wMd E a q) := by
  intro d
  induction d with
  | zero => intro a S q h; cases h
  | succ d ih => intro a S q h; exact c_X10_compileFactor E l k (fac10 k d) (ff10 d) (fl10 d) ih a S h
def rm_X10_compileTestT : Room := rm_X10_compileTest (ff10 8) (fl10 8)
def M_X10_compileTestT (k : Nat) (S : (Nat → Nat → Int32)) : Option ((Nat → Nat → Int32)) := M_X10_compileTest k (fac10 k 8) S
theorem c_X10_compileTestT (E : ENV) (l : Launch) (k : Nat) (a : Nat → Nat) (S : (Nat → Nat → Int32)) {q : (Nat → Nat → Int32)} (hm : M_X10_compileTestT k S = some q) : CV E l yX10_compileTest cX10_compileTest 1 none rm_X10_compileTestT [.ref (a 0)] (wMd E a S) (fun w' => w' = (wMd E a q)) :=
  c_X10_compileTest E l k (fac10 k 8) (ff10 8) (fl10 8) (c_fac10 E l k 8) a S hm
