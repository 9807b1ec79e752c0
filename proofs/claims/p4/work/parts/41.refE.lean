/-! a sign or a VALUE of forms 0, 1, 3 is read -/
theorem pOk_lt {R L : Nat} (h : pOk R L) : R < 4294967296 := by
  obtain ⟨z1, z2, z3, z4⟩ := h
  rcases Nat.lt_or_ge R 4294967296 with z | z
  · exact z
  · have := z4 (by omega)
    omega
theorem wnt_some {tt RR x w : Nat} (h : wnt tt RR x = some w) : 0 < tt ∧ tt ≤ RR ∧ w < tt ∧ RR / tt * w ≤ x ∧ 0 < RR / tt := by
  unfold wnt at h
  split at h
  · cases h
  · rename_i h1
    split at h
    · rename_i h2
      cases h
      have hp : 0 < RR / tt := Nat.pos_of_ne_zero h1
      have ht : 0 < tt := by
        rcases Nat.eq_zero_or_pos tt with z | z
        · subst z; rw [Nat.div_zero] at hp; omega
        · exact z
      refine ⟨ht, ?_, h2, Nat.mul_div_le _ _, hp⟩
      rcases Nat.lt_or_ge RR tt with z | z
      · rw [Nat.div_eq_of_lt z] at hp; omega
      · exact z
    · cases h
theorem oL_neg {o : Option Nat} (h : ∀ v, o = some v → v < 2 ^ 63) : ¬ 0 ≤ oL o ↔ o = none := by
  cases o with
  | none => simp only [oL, iff_true]; decide
  | some v =>
    simp only [oL, reduceCtorEq, iff_false]
    exact fun z => z ((L_le (a := 0) (by decide) (h v rfl)).mpr (Nat.zero_le _))
def gr0 (is : List Nat) (n : Nat) (F : Nat → Nat) (r : RS) : Option Nat × RS × (Nat → Nat) := match wnt (ns F n) r.1 r.2.1 with
  | none => (none, r, F)
  | some w => (some (sgA F n w), wrS is (r.1 / ns F n * F (sgA F n w), r.2.1 - r.1 / ns F n * ns F (sgA F n w), r.2.2), lrn n (sgA F n w) F)
def gr1 (is : List Nat) (n : Nat) (F : Nat → Nat) (r : RP) : Option Nat × RP × (Nat → Nat) := match wnt (ns F n) r.1 ((r.2.2.1 + 4294967296 - r.2.1) % 4294967296) with
  | none => (none, r, F)
  | some w => (some (sgA F n w), prS is (r.1 / ns F n * F (sgA F n w), r.2.1 + r.1 / ns F n * ns F (sgA F n w), r.2.2.1, r.2.2.2), lrn n (sgA F n w) F)
def gv0 (is : List Nat) (b : Nat) (r : RS) : Option Nat × RS := match wnt (2 ^ b) r.1 r.2.1 with
  | none => (none, r)
  | some w => (some w, wrS is (r.1 / 2 ^ b * 1, r.2.1 - r.1 / 2 ^ b * w, r.2.2))
def gv1 (is : List Nat) (b : Nat) (r : RP) : Option Nat × RP := match wnt (2 ^ b) r.1 ((r.2.2.1 + 4294967296 - r.2.1) % 4294967296) with
  | none => (none, r)
  | some w => (some w, prS is (r.1 / 2 ^ b * 1, r.2.1 + r.1 / 2 ^ b * w, r.2.2.1, r.2.2.2))
def gs3 (is : List Nat) (n : Nat) (F : Nat → Nat) (X q : Nat) : Option Nat × (Nat × Nat) := if ns F n = 0 then (none, (X, q)) else (some (sgA F n (X % 4096)), rfS is (X / 4096 * F (sgA F n (X % 4096)) + X % 4096 - ns F (sgA F n (X % 4096)), q))

