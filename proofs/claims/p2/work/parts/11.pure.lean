/-! PURE WORDS of the class: sums, rows, the odds of a model -/
/-- the sum of the first k -/
def sm (f : Nat → Int32) : Nat → Int32
  | 0 => 0
  | k + 1 => sm f k + f k
/-- a row's array holds the list -/
def rwIs (xs : List Int32) (f : Nat → Int32) : Prop := ∀ i, i < xs.length → f i = xs.getD i 0
/-- the capacity of a row that has grown k times -/
abbrev rwCap (k : Nat) : Nat := 64 * 2 ^ k
/-- how often a row has grown, once it held n -/
def rwK (k n : Nat) : Nat := if n ≤ rwCap k then k else k + 1
def rwAt (xs : List Int32) (i : Int32) : Int32 := if 0 ≤ i ∧ i < nI xs.length then xs.getD i.toNatClampNeg 0 else -1
theorem rwIs_nil (f : Nat → Int32) : rwIs [] f := fun i h => absurd h (Nat.not_lt_zero i)
theorem rwIs_add {xs : List Int32} {f g : Nat → Int32} {x : Int32} (h : rwIs xs f) (hg : ∀ i, i < xs.length → g i = f i) (hx : g xs.length = x) : rwIs (xs ++ [x]) g := by
  intro i hi
  rw [List.length_append, List.length_singleton] at hi
  rcases Nat.lt_or_ge i xs.length with h1 | h1
  · rw [hg i h1, h i h1]
    simp [List.getD_eq_getElem?_getD, List.getElem?_append_left h1]
  · have e : i = xs.length := by omega
    subst e
    rw [hx]
    simp [List.getD_eq_getElem?_getD]
theorem rwIs_set {xs : List Int32} {f : Nat → Int32} {k : Nat} {x : Int32} (h : rwIs xs f) : rwIs (xs.set k x) (upd f k x) := by
  intro i hi
  rw [List.length_set] at hi
  by_cases e : i = k
  · subst e
    rw [pk_us]
    simp [List.getD_eq_getElem?_getD, hi]
  · rw [pk_un e, h i hi]
    simp [List.getD_eq_getElem?_getD, List.getElem?_set_ne (Ne.symm e)]
/-- an index that two tests let through -/
theorem in_of {i : Int32} {n : Nat} (hn : n < 2 ^ 31) (h0 : ¬ i < 0) (h1 : i < nI n) : vp_in i n := by
  rw [vp_in_iff]
  have a : 0 ≤ i.toInt := by
    have := h0
    rw [Int32.lt_iff_toInt_lt] at this
    simpa using this
  have b : i.toInt < (nI n).toInt := Int32.lt_iff_toInt_lt.mp h1
  rw [nI_toInt hn] at b
  exact ⟨a, b⟩
theorem in_of' {i : Int32} {n : Nat} (hn : n < 2 ^ 31) (h0 : 0 ≤ i) (h1 : ¬ nI n ≤ i) : vp_in i n := by
  refine in_of hn ?_ ?_
  · rw [Int32.lt_iff_toInt_lt]; rw [Int32.le_iff_toInt_le] at h0; omega
  · rw [Int32.lt_iff_toInt_lt]; rw [Int32.le_iff_toInt_le] at h1; omega
