/-! FORMS 3 and 4: what a message's items are in the class -/
theorem s3_main {f : Nat} (hf : 0 < f) : ∀ (k : Nat) (r : Nat × List Nat), 6 ≤ k → k ≤ 8 → r.1 < xb k → f * 2048 ≤ r.1 → f * 2048 ≤ (s3N f k r).1 ∧ (s3N f k r).1 < f * 524288 ∧ (s3N f k r).2.length + 6 ≤ r.2.length + k := by
  intro k
  induction k with
  | zero => intro r h; omega
  | succ k ih =>
    intro r h6 h8 hx hl
    by_cases h : f * 524288 ≤ r.1
    · have h7 := xb_k h6 h8 hf hx h
      have hs := xb_s h7 h8 hx
      rw [Nat.add_sub_cancel] at hs
      rw [s3N_s (by omega) h, Nat.add_sub_cancel]
      have q := ih (r.1 / 256, r.2 ++ [r.1 % 256]) (by omega) (by omega) hs (by show f * 2048 ≤ r.1 / 256; exact (Nat.le_div_iff_mul_le (by decide)).mpr (by rw [Nat.mul_assoc]; exact h))
      rw [show ((r.1 / 256, r.2 ++ [r.1 % 256]) : Nat × List Nat).2.length = r.2.length + 1 from by rw [List.length_append, List.length_singleton]] at q
      exact ⟨q.1, q.2.1, by omega⟩
    · rw [s3N_e h]
      exact ⟨hl, by omega, by omega⟩
theorem s3I_ok {f c X : Nat} {bs : List Nat} (hf : 0 < f) (hf2 : f ≤ 4096) (hcf : c + f ≤ 4096) (h1 : 8388608 ≤ X) (h2 : X < 2147483648) : 8388608 ≤ (s3I f c (X, bs)).1 ∧ (s3I f c (X, bs)).1 < 2147483648 ∧ (s3I f c (X, bs)).2.length ≤ bs.length + 2 := by
  have q := s3_main hf 8 (X, bs) (by decide) (by decide) h2 (by show f * 2048 ≤ X; omega)
  have z := s3_fin hf q.1 q.2.1 hcf
  have w : (s3N f 8 (X, bs)).2.length + 6 ≤ bs.length + 8 := q.2.2
  exact ⟨z.1, z.2, by show (s3N f 8 (X, bs)).2.length ≤ _; omega⟩
theorem t4_main {f : Nat} (hf : 0 < f) : ∀ (k : Nat) (r : Nat × List Nat), r.1 < 2 ^ k → f ≤ r.1 → f ≤ (t4N f k r).1 ∧ (t4N f k r).1 < 2 * f ∧ (t4N f k r).2.length + 1 ≤ r.2.length + k := by
  intro k
  induction k with
  | zero => intro r h; have : r.1 < 1 := h; omega
  | succ k ih =>
    intro r h hl
    by_cases h2 : 2 * f ≤ r.1
    · have hk := pw_k h (by omega)
      have q := ih (r.1 / 2, r.2 ++ [r.1 % 2]) (by have z := pw_h h (by omega); rw [Nat.add_sub_cancel] at z; exact z) (by show f ≤ r.1 / 2; omega)
      rw [show ((r.1 / 2, r.2 ++ [r.1 % 2]) : Nat × List Nat).2.length = r.2.length + 1 from by rw [List.length_append, List.length_singleton]] at q
      rw [t4N_s (by omega) h2, Nat.add_sub_cancel]
      exact ⟨q.1, q.2.1, by omega⟩
    · rw [t4N_e h2]
      exact ⟨hl, by omega, by omega⟩
theorem t4_bt {f : Nat} : ∀ (k : Nat) (r : Nat × List Nat), bt2 r.2 → bt2 (t4N f k r).2
  | 0, r, h => h
  | k + 1, r, h => by
    by_cases h2 : 2 * f ≤ r.1
    · rw [t4N_s (by omega) h2, Nat.add_sub_cancel]
      exact t4_bt k _ (bt2_add h (Nat.mod_lt _ (by decide)))
    · rw [t4N_e h2]; exact h
theorem t4I_ok {F : Nat → Nat} {n t V : Nat} {ws : List Nat} (hs : ns F n = 512) (ht : t < n) (hf : 0 < F t) (h1 : 512 ≤ V) (h2 : V < 1024) (hb : bt2 ws) : 512 ≤ (t4I F n t (V, ws)).1 ∧ (t4I F n t (V, ws)).1 < 1024 ∧ (t4I F n t (V, ws)).2.length ≤ ws.length + 9 ∧ bt2 (t4I F n t (V, ws)).2 := by
  have hg := ns_ge (F := F) ht
  have q := t4_main hf 10 (V, ws) h2 (by show F t ≤ V; omega)
  have z := plO_ok (d := (t4N (F t) 10 (V, ws)).1 - F t) hs ht (by omega)
  have w : (t4N (F t) 10 (V, ws)).2.length + 1 ≤ ws.length + 10 := q.2.2
  have e1 : (t4I F n t (V, ws)).1 = 512 + plO F n t ((t4N (F t) 10 (V, ws)).1 - F t) := by simp only [t4I]
  have e2 : (t4I F n t (V, ws)).2 = (t4N (F t) 10 (V, ws)).2 := by simp only [t4I]
  rw [e1, e2]
  exact ⟨by omega, by omega, by omega, t4_bt 10 _ hb⟩
/-- odds that hold F -/
def ob3 (o : OB) (n : Nat) (F : Nat → Nat) : Prop := n ≤ 64 ∧ o.2.2.2.1 = 0 ∧ o.2.2.2.2.2.2.1 = n ∧ tbI o.2.2.2.2.2.2.2.1 n F ∧ o.2.2.2.2.2.2.2.2.1 ≤ 512
def ob4 (o : OB) (n : Nat) (F : Nat → Nat) : Prop := n ≤ 64 ∧ o.2.2.2.1 = 0 ∧ o.2.2.2.2.2.2.1 = n ∧ tbI o.2.2.2.2.2.2.2.1 n F ∧ o.2.2.2.2.2.2.2.2.1 = 512 ∧ tbI o.2.2.2.2.2.2.2.2.2 512 (plc F n)
/-- an item as the class keeps it -/
def kpV (bm : Nat) (sof : Nat → Option Nat) (snf swf : Nat → Int32) (i : Nat) (it : It) : Prop := it.1 = 0 ∧ sof i = none ∧ snf i = nI it.2.2 ∧ swf i = nI it.2.1 ∧ 1 ≤ it.2.1 ∧ it.2.1 ≤ bm ∧ it.2.2 < 2 ^ it.2.1
def kpS (cI : ClassId) (ob : OB → Nat → (Nat → Nat) → Prop) (M : Nat) (N : Nat → Nat) (Fn : Nat → Nat → Nat) (sof : Nat → Option Nat) (snf : Nat → Int32) (pl : va_W) (i : Nat) (it : It) : Prop := ¬ it.1 = 0 ∧ snf i = nI it.2.2 ∧ it.2.2 < N it.2.1 ∧ 0 < Fn it.2.1 it.2.2 ∧ ns (Fn it.2.1) (N it.2.1) = M ∧ ∃ (o : OB) (rest : va_W), sof i = some o.1 ∧ ob o (N it.2.1) (Fn it.2.1) ∧ pl.Perm (obC cI o ++ rest)
def kpt (cI : ClassId) (ob : OB → Nat → (Nat → Nat) → Prop) (M bm : Nat) (N : Nat → Nat) (Fn : Nat → Nat → Nat) (sof : Nat → Option Nat) (snf swf : Nat → Int32) (pl : va_W) (its : List It) : Prop := ∀ i, i < its.length → kpV bm sof snf swf i (itA its i) ∨ kpS cI ob M N Fn sof snf pl i (itA its i)
theorem kp_none {cI : ClassId} {ob : OB → Nat → (Nat → Nat) → Prop} {M bm : Nat} {N : Nat → Nat} {Fn : Nat → Nat → Nat} {sof : Nat → Option Nat} {snf swf : Nat → Int32} {pl : va_W} {its : List It} {i : Nat} (h : kpt cI ob M bm N Fn sof snf swf pl its) (hi : i < its.length) (hq : sof i = none) : kpV bm sof snf swf i (itA its i) := by
  rcases h i hi with q | q
  · exact q
  · obtain ⟨-, -, -, -, -, o, r, e, -⟩ := q
    rw [e] at hq
    cases hq
theorem kp_some {cI : ClassId} {ob : OB → Nat → (Nat → Nat) → Prop} {M bm : Nat} {N : Nat → Nat} {Fn : Nat → Nat → Nat} {sof : Nat → Option Nat} {snf swf : Nat → Int32} {pl : va_W} {its : List It} {i a : Nat} (h : kpt cI ob M bm N Fn sof snf swf pl its) (hi : i < its.length) (hq : sof i = some a) : kpS cI ob M N Fn sof snf pl i (itA its i) := by
  rcases h i hi with q | q
  · rw [q.2.1] at hq
    cases hq
  · exact q
theorem min600 {k v : Int32} {n : Nat} (hk : k = nI n) (hn : n ≤ 600) (e : v = if 600 < k then 600 else k) : v = nI n := by
  rw [e, hk, if_neg (show ¬ (600 : Int32) < nI n from Int32.not_lt.mpr (nI_le (b := 600) hn (by decide)))]

