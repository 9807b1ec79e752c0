/-! PURE WORDS of the class: sums, rows, the odds of a model -/
/-- the sum of the first k -/
def sm (f : Nat → Int32) : Nat → Int32
  | 0 => 0
  | k + 1 => sm f k + f k
/-- an index that two tests let through -/
theorem in_of {i : Int32} {n : Nat} (hn : n < 2 ^ 31) (h0 : ¬ i < 0) (h1 : i < nI n) : vp_in i n := by
  rw [vp_in_iff]
  have a : 0 ≤ i.toInt := by
    have := h0
    rw [Int32.lt_iff_toInt_lt] at this
    simpa using this
  have b : i.toInt < (nI n).toInt := Int32.lt_iff_toInt_lt.mp h1
  rw [nI_toInt hn] at b
  exact ⟨a, b⟩
theorem in_of' {i : Int32} {n : Nat} (hn : n < 2 ^ 31) (h0 : 0 ≤ i) (h1 : ¬ nI n ≤ i) : vp_in i n := by
  refine in_of hn ?_ ?_
  · rw [Int32.lt_iff_toInt_lt]; rw [Int32.le_iff_toInt_le] at h0; omega
  · rw [Int32.lt_iff_toInt_lt]; rw [Int32.le_iff_toInt_le] at h1; omega

