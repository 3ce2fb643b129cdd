-- ===== sums =====
def sumI (f : Nat → Int32) : Nat → Int32
  | 0 => 0
  | n + 1 => sumI f n + f n
theorem sumI_ext {f g : Nat → Int32} {n : Nat} (h : ∀ i, i < n → f i = g i) : sumI f n = sumI g n := by
  induction n with
  | zero => rfl
  | succ n ih => unfold sumI; rw [ih (fun i hi => h i (by omega)), h n (by omega)]
theorem loop_sum {β : Type} (M : Nat → Int32 → Int32 → Option β) (N : Nat) (f : Nat → Int32) (fin : Int32 → Option β)
    (hs : ∀ n i a, i < N → M (n + 1) a (nI i) = M n (a + f i) (nI (i + 1))) (he : ∀ n a, M (n + 1) a (nI N) = fin a) {fuel : Nat} (hf : N < fuel) : M fuel 0 0 = fin (sumI f N) := by
  have : ∀ m i, i + m = N → ∀ fuel, m < fuel → M fuel (sumI f i) (nI i) = fin (sumI f N) := by
    intro m
    induction m with
    | zero =>
      intro i hi fuel hf
      have : i = N := by omega
      subst this
      obtain ⟨g, rfl⟩ : ∃ g, fuel = g + 1 := ⟨fuel - 1, by omega⟩
      exact he g _
    | succ m ih =>
      intro i hi fuel hf
      obtain ⟨g, rfl⟩ : ∃ g, fuel = g + 1 := ⟨fuel - 1, by omega⟩
      rw [hs g i _ (by omega)]
      exact ih (i + 1) (by omega) g (by omega)
  have h := this N 0 (Nat.zero_add N) fuel hf
  rw [nI_0] at h
  exact h
/-- the same with any start of the sum -/
theorem loop_sum' {β : Type} (M : Nat → Int32 → Int32 → Option β) (N : Nat) (f : Nat → Int32) (fin : Int32 → Option β) (a0 : Int32)
    (hs : ∀ n i a, i < N → M (n + 1) a (nI i) = M n (a + f i) (nI (i + 1))) (he : ∀ n a, M (n + 1) a (nI N) = fin a) {fuel : Nat} (hf : N < fuel) : M fuel a0 0 = fin (a0 + sumI f N) := by
  have h := loop_sum (fun n a i => M n (a0 + a) i) N f (fun a => fin (a0 + a)) (fun n i a hi => by
    show M (n + 1) (a0 + a) (nI i) = M n (a0 + (a + f i)) (nI (i + 1))
    rw [hs n i _ hi, Int32.add_assoc]) (fun n a => he n _) hf
  rw [Int32.add_zero] at h
  exact h
def lsum (g : Nat → Int32) : List Nat → Int32
  | [] => 0
  | r :: l => g r + lsum g l
theorem lsum_append (g : Nat → Int32) (l l' : List Nat) : lsum g (l ++ l') = lsum g l + lsum g l' := by
  induction l with
  | nil => show lsum g l' = 0 + lsum g l'; rw [Int32.zero_add]
  | cons r l ih => show g r + lsum g (l ++ l') = g r + lsum g l + lsum g l'; rw [ih, Int32.add_assoc]
theorem lsum_perm (g : Nat → Int32) {l l' : List Nat} (h : l.Perm l') : lsum g l = lsum g l' := by
  induction h with
  | nil => rfl
  | cons x _ ih => show g x + _ = g x + _; rw [ih]
  | swap x y l =>
    show g y + (g x + lsum g l) = g x + (g y + lsum g l)
    rw [← Int32.add_assoc, ← Int32.add_assoc, Int32.add_comm (g y)]
  | trans _ _ ih1 ih2 => rw [ih1, ih2]
theorem lsum_filter (g : Nat → Int32) (p : Nat → Bool) (l : List Nat) : lsum g (l.filter p) = lsum (fun r => if p r then g r else 0) l := by
  induction l with
  | nil => rfl
  | cons r l ih =>
    rw [List.filter_cons]
    show _ = (if p r then g r else 0) + _
    split
    · show g r + _ = _; rw [ih]
    · rw [ih, Int32.zero_add]
theorem lsum_ext {f g : Nat → Int32} {l : List Nat} (h : ∀ r, r ∈ l → f r = g r) : lsum f l = lsum g l := by
  induction l with
  | nil => rfl
  | cons r l ih => show f r + _ = g r + _; rw [h r List.mem_cons_self, ih (fun r hr => h r (List.mem_cons_of_mem _ hr))]
theorem lsum_range (g : Nat → Int32) (n : Nat) : lsum g (List.range n) = sumI g n := by
  induction n with
  | zero => rfl
  | succ n ih =>
    rw [List.range_succ, lsum_append, ih]
    show _ + (g n + 0) = _
    rw [Int32.add_zero]
    rfl
theorem sumI_get (g : Nat → Int32) (l : List Nat) : sumI (fun i => g (l.getD i 0)) l.length = lsum g l := by
  have : ∀ l l' : List Nat, sumI (fun i => g ((l ++ l').getD i 0)) l.length = lsum g l := by
    intro l
    induction l with
    | nil => intro l'; rfl
    | cons r l ih => 
      intro l'
      have key : ∀ (f : Nat → Int32) (n : Nat), sumI f (n + 1) = f 0 + sumI (fun i => f (i + 1)) n := by
        intro f n
        induction n with
        | zero => show 0 + f 0 = f 0 + 0; rw [Int32.zero_add, Int32.add_zero]
        | succ n ih => 
          show sumI f (n + 1) + f (n + 1) = _
          rw [ih, Int32.add_assoc]
          rfl
      rw [List.length_cons, key]
      show g r + sumI (fun i => g ((l ++ l').getD i 0)) l.length = g r + lsum g l
      rw [ih]
  have h := this l []
  rw [List.append_nil] at h
  exact h
theorem nodup_filter {l : List Nat} (h : l.Nodup) (p : Nat → Bool) : (l.filter p).Nodup := List.Pairwise.filter p h
/-- a list without doubles that has just those below n with p -/
theorem lsum_line (g : Nat → Int32) {l : List Nat} {n : Nat} {p : Nat → Bool} (hd : l.Nodup) (hm : ∀ r, r ∈ l ↔ r < n ∧ p r = true) : lsum g l = sumI (fun r => if p r then g r else 0) n := by
  have h : l.Perm ((List.range n).filter p) := (List.perm_ext_iff_of_nodup hd (nodup_filter List.nodup_range p)).mpr (fun r => by
    rw [hm, List.mem_filter, List.mem_range])
  rw [lsum_perm g h, lsum_filter, lsum_range]
theorem length_line {l : List Nat} {n : Nat} (hd : l.Nodup) (hm : ∀ r, r ∈ l → r < n) : l.length ≤ n := by
  have h : (l).Perm ((List.range n).filter (fun r => decide (r ∈ l))) := (List.perm_ext_iff_of_nodup hd (nodup_filter List.nodup_range _)).mpr (fun r => by
    rw [List.mem_filter, List.mem_range]
    constructor
    · intro h; exact ⟨hm r h, decide_eq_true h⟩
    · intro h; exact of_decide_eq_true h.2)
  rw [h.length_eq]
  exact Nat.le_trans (List.length_filter_le _ _) (by rw [List.length_range]; exact Nat.le_refl _)
def b1 (b : Bool) : Int32 := if b then 1 else 0
/-- a loop over a list, from its first to its last -/
theorem getD_lt {l : List Nat} {i : Nat} (h : i < l.length) : l.getD i 0 = l[i] := by
  rw [List.getD_eq_getElem?_getD, List.getElem?_eq_getElem h]
  rfl
