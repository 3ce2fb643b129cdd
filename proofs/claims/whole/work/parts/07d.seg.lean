-- ===== places in a world of pieces =====
theorem seg_map (x y z : va_W) : (List.range' x.length y.length).map (fun i => (x ++ (y ++ z))[i]?) = y.map some := by
  apply List.ext_getElem?
  intro i
  rw [List.getElem?_map, List.getElem?_map]
  by_cases hi : i < y.length
  · rw [List.getElem?_range' hi, List.getElem?_eq_getElem hi]
    show some ((x ++ (y ++ z))[x.length + 1 * i]?) = some (some y[i])
    rw [Nat.one_mul, List.getElem?_append_right (Nat.le_add_right _ _), Nat.add_sub_cancel_left, List.getElem?_append_left hi, List.getElem?_eq_getElem hi]
  · rw [List.getElem?_eq_none (by simpa using hi), List.getElem?_eq_none (by simpa using hi)]
    rfl
theorem seg_put : ∀ (y x z y' : va_W) (ps : List Nat) (c1 : va_W), y'.length = y.length → putW (x ++ (y ++ z)) (List.range' x.length y.length ++ ps) (y' ++ c1) = putW (x ++ (y' ++ z)) ps c1 := by
  intro y
  induction y with
  | nil =>
    intro x z y' ps c1 h
    have : y' = [] := List.eq_nil_of_length_eq_zero h
    subst this
    rfl
  | cons a y ih =>
    intro x z y' ps c1 h
    cases y' with
    | nil => simp at h
    | cons b y' =>
      simp only [List.length_cons, List.range'_succ, List.cons_append, putW]
      have e : (x ++ a :: (y ++ z)).set x.length b = (x ++ [b]) ++ (y ++ z) := by
        rw [List.set_append_right _ _ (Nat.le_refl _)]
        simp
      rw [e]
      have := ih (x ++ [b]) z y' ps c1 (by simpa using h)
      rw [List.length_append] at this
      simpa using this
theorem seg_mapL {W : va_W} (x y z : va_W) (e : W = x ++ (y ++ z)) (n : Nat) (hn : y.length = n) (ps : List Nat) (hp : ps = List.range' x.length n) : ps.map (fun i => W[i]?) = y.map some := by
  subst e
  subst hn
  subst hp
  exact seg_map x y z
theorem seg_mapE {W : va_W} (x y : va_W) (e : W = x ++ y) (n : Nat) (hn : y.length = n) (ps : List Nat) (hp : ps = List.range' x.length n) : ps.map (fun i => W[i]?) = y.map some := by
  subst e
  subst hn
  subst hp
  have := seg_map x y []
  rw [List.append_nil] at this
  exact this
theorem seg_map2 {W y1 y2 : va_W} {p1 p2 : List Nat} (h1 : p1.map (fun i => W[i]?) = y1.map some) (h2 : p2.map (fun i => W[i]?) = y2.map some) : (p1 ++ p2).map (fun i => W[i]?) = (y1 ++ y2).map some := by rw [List.map_append, List.map_append, h1, h2]
theorem seg_put1 {W W1 : va_W} (x y y' z : va_W) (e : W = x ++ (y ++ z)) (e1 : x ++ (y' ++ z) = W1) (n : Nat) (hn : y.length = n) (hn' : y'.length = n) (ps : List Nat) (hp : ps = List.range' x.length n) : putW W ps y' = some W1 := by
  subst e
  subst hn
  subst hp
  subst e1
  have := seg_put y x z y' [] [] hn'
  rw [List.append_nil, List.append_nil] at this
  rw [this]
  simp [putW]
theorem seg_putE {W W1 : va_W} (x y y' : va_W) (e : W = x ++ y) (e1 : x ++ y' = W1) (n : Nat) (hn : y.length = n) (hn' : y'.length = n) (ps : List Nat) (hp : ps = List.range' x.length n) : putW W ps y' = some W1 :=
  seg_put1 x y y' [] (by rw [List.append_nil]; exact e) (by rw [List.append_nil]; exact e1) n hn hn' ps hp
theorem seg_put2 {W : va_W} (x y y' z : va_W) (e : W = x ++ (y ++ z)) (n : Nat) (hn : y.length = n) (hn' : y'.length = n) (ps : List Nat) (hp : ps = List.range' x.length n) {p2 : List Nat} {c2 : va_W} {r : Option va_W} (h : putW (x ++ (y' ++ z)) p2 c2 = r) : putW W (ps ++ p2) (y' ++ c2) = r := by
  subst e
  subst hn
  subst hp
  rw [seg_put y x z y' p2 c2 hn']
  exact h
