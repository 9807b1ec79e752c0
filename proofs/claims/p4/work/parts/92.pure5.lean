theorem s3_len (f : Nat) : ∀ (k : Nat) (r : Nat × List Nat), (s3N f k r).2.length ≤ r.2.length + k
  | 0, r => Nat.le_refl _
  | k + 1, r => by
    by_cases h : f * 524288 ≤ r.1
    · rw [s3N_s (show 0 < k + 1 from Nat.succ_pos k) h, Nat.add_sub_cancel]
      have := s3_len f k (r.1 / 256, r.2 ++ [r.1 % 256])
      have e : (r.2 ++ [r.1 % 256]).length = r.2.length + 1 := by rw [List.length_append, List.length_singleton]
      have h2 : (s3N f k (r.1 / 256, r.2 ++ [r.1 % 256])).2.length ≤ (r.2 ++ [r.1 % 256]).length + k := this
      omega
    · rw [s3N_e h]; omega
theorem e3_len (Fn : Nat → Nat → Nat) (its : List It) : ∀ (k : Nat) (r : Nat × List Nat), (e3N Fn its k r).2.length ≤ r.2.length + 8 * k
  | 0, r => Nat.le_refl _
  | k + 1, r => by
    have h1 := e3_len Fn its k (s3I (itF 4096 Fn (itA its k)) (itC 4096 Fn (itA its k)) r)
    have h2 := s3_len (itF 4096 Fn (itA its k)) 8 r
    have h3 : (s3I (itF 4096 Fn (itA its k)) (itC 4096 Fn (itA its k)) r).2.length = (s3N (itF 4096 Fn (itA its k)) 8 r).2.length := rfl
    show (e3N Fn its k (s3I (itF 4096 Fn (itA its k)) (itC 4096 Fn (itA its k)) r)).2.length ≤ _
    omega
theorem e3S_len (Fn : Nat → Nat → Nat) (its : List It) : (e3S Fn its).length ≤ 8 * its.length + 4 := by
  unfold e3S
  rw [List.length_append]
  have h1 := e3_len Fn its its.length (8388608, [])
  have h2 : ∀ (x k : Nat), (b4 x k).length = k := by
    intro x k
    induction k generalizing x with
    | zero => rfl
    | succ k ih => rw [b4, List.length_cons, ih]
  rw [h2]
  have h3 : (e3N Fn its its.length (8388608, [])).2.length ≤ 0 + 8 * its.length := h1
  omega
theorem it3_of {km : Nat} {N : Nat → Nat} {vMany vC vNow : Nat → Int32} {it : It} (hM : MD km N vMany vC) (h : itOk 4096 12 km N vNow it) : it3 vNow N (Fvw vNow) it := by
  rcases h with h | ⟨h1, h2, h3, h4, h5, h6⟩
  · exact Or.inl h
  · exact Or.inr ⟨h1, by have := hM.1; omega, (hM.2 _ h2).2.2.1, h3, h4, h5, h6⟩
theorem oct_setx {is : List Nat} {i t : Nat} (h : oct is) (ht : t < 256) : oct (is.set i (byA is i ^^^ t)) := by
  rw [oct_iff] at h ⊢
  intro x hx
  rcases List.mem_or_eq_of_mem_set hx with q | q
  · exact h x q
  · rw [q]
    have h0 : byA is i < 2 ^ 8 := by
      have := oct_iff.mpr h
      exact this i
    exact Nat.xor_lt_two_pow h0 (show t < 2 ^ 8 from ht)
