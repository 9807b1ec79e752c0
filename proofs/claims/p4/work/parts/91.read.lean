theorem r3_ge {x : Int64} {n : Nat} (hx : x = lN n) (hn : n < 4294967296) (c : (8388608 : Int64) ≤ x) : 8388608 ≤ n := by
  rw [hx] at c
  exact (L_le (a := 8388608) (by decide) (by omega)).mp c
