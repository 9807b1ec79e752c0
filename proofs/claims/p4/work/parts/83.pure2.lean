/-! what a put leaves -/
theorem nr_le {Rg t c f : Nat} (ht : 0 < t) (hcf : c + f ≤ t) : Rg / t * c + Rg / t * f ≤ Rg := by
  rw [← Nat.mul_add]
  exact Nat.le_trans (Nat.mul_le_mul_left _ hcf) (Nat.div_mul_le_self Rg t)
theorem nr_pos {Rg t f : Nat} (ht : 0 < t) (hf : 0 < f) (h : t ≤ Rg) : 0 < Rg / t * f := Nat.mul_pos (Nat.div_pos h ht) hf
theorem nr_inv {Rg L t c f Pn : Nat} {ca : Option Nat} {bs : List Nat} (h : eInv (Rg, L, ca, Pn, bs)) (ht : 0 < t) (hcf : c + f ≤ t) (hf : 0 < f) (hRt : t ≤ Rg) : eInv (wdS (Rg / t * f, L + Rg / t * c, ca, Pn, bs)) ∧ eN (wdS (Rg / t * f, L + Rg / t * c, ca, Pn, bs)) ≤ bs.length + Pn + 1 + 3 := by
  obtain ⟨h1, h2, h3, h4⟩ := h
  have a := nr_le (Rg := Rg) ht hcf
  have b := nr_pos ht hf hRt
  have h1 : 16777216 ≤ Rg := h1
  have h2 : Rg < 4294967296 := h2
  have h3 : L + Rg ≤ 8589934592 := h3
  exact wd_inv (e := (Rg / t * f, L + Rg / t * c, ca, Pn, bs)) b (show Rg / t * f < 4294967296 by omega) (show L + Rg / t * c + Rg / t * f ≤ 8589934592 by omega) h4
theorem pOk_nr {Rg L t c f : Nat} (h : pOk Rg L) (ht : 0 < t) (hcf : c + f ≤ t) (hf : 0 < f) (hRt : t ≤ Rg) : pOk (Rg / t * f) (L + Rg / t * c) := by
  obtain ⟨h1, h2, h3, h4⟩ := h
  have a := nr_le (Rg := Rg) ht hcf
  have b := nr_pos ht hf hRt
  exact ⟨by omega, by omega, by omega, fun z => by have := h4 (by omega); omega⟩
theorem pl_main : ∀ (k : Nat) (e : PS), plI k e.1 e.2.1 → pOk (plN k e).1 (plN k e).2.1 ∧ 65536 ≤ (plN k e).1 ∧ (plN k e).2.2.length + 4 ≤ e.2.2.length + k
  | 0, e, h => absurd h.2.1 (by decide)
  | k + 1, e, h => by
    by_cases hm : mvP e.2.1 e.1
    · obtain ⟨h1, h2⟩ := plI_st h hm
      rw [plN_s (show 0 < k + 1 from Nat.succ_pos k) hm]
      rw [Nat.add_sub_cancel] at h2 ⊢
      obtain ⟨a, b, c⟩ := pl_main k (mvR e.2.1 e.1, mvL e.2.1, e.2.2 ++ [e.2.1 / 16777216 % 256]) h2
      refine ⟨a, b, ?_⟩
      have c' : (plN k (mvR e.2.1 e.1, mvL e.2.1, e.2.2 ++ [e.2.1 / 16777216 % 256])).2.2.length + 4 ≤ (e.2.2 ++ [e.2.1 / 16777216 % 256]).length + k := c
      rw [List.length_append, List.length_singleton] at c'
      omega
    · rw [plN_e hm]
      refine ⟨h.1, ?_, ?_⟩
      · rcases Nat.lt_or_ge e.1 65536 with z | z
        · exact absurd (Or.inr z) hm
        · exact z
      · have := h.2.1; omega
theorem pl_inv {R L : Nat} {bs : List Nat} (h : pOk R L) : pOk (plS (R, L, bs)).1 (plS (R, L, bs)).2.1 ∧ 65536 ≤ (plS (R, L, bs)).1 ∧ (plS (R, L, bs)).2.2.length ≤ bs.length + 4 := by
  obtain ⟨a, b, c⟩ := pl_main 8 (R, L, bs) (plI_0 h)
  exact ⟨a, b, by have c' : (plN 8 (R, L, bs)).2.2.length + 4 ≤ bs.length + 8 := c; show (plN 8 (R, L, bs)).2.2.length ≤ _; omega⟩
theorem vb_all (v : Nat) : ∀ (b : Nat) (e : ES), eInv e → oct (eB e) → eInv (vbN v b e) ∧ eN (vbN v b e) ≤ eN e + b ∧ oct (eB (vbN v b e))
  | 0, e, h, ho => ⟨h, Nat.le_refl _, ho⟩
  | b + 1, e, h, ho => by
    obtain ⟨a1, a2⟩ := vb_inv h (v / 2 ^ b % 2 = 1)
    obtain ⟨b1, b2, b3⟩ := vb_all v b _ a1 (oct_wd ho)
    exact ⟨b1, by show eN (vbN v b _) ≤ _; omega, b3⟩
theorem sp_all (sh t : Nat) (hs : 1 ≤ sh) : ∀ (k nd : Nat) (e : ES) (C : Nat → Nat), k ≤ 6 → nd < 2 ^ (7 - k) → eInv e → oct (eB e) → (∀ j, j < 64 → 1 ≤ C j ∧ C j ≤ 2047) → eInv (spN sh t k nd e C).1 ∧ eN (spN sh t k nd e C).1 ≤ eN e + 2 * k ∧ oct (eB (spN sh t k nd e C).1) ∧ ∀ j, j < 64 → 1 ≤ (spN sh t k nd e C).2 j ∧ (spN sh t k nd e C).2 j ≤ 2047
  | 0, nd, e, C, _, _, h, ho, hC => ⟨h, Nat.le_refl _, ho, hC⟩
  | k + 1, nd, e, C, hk, hnd, h, ho, hC => by
    have hn64 : nd < 64 := Nat.lt_of_lt_of_le hnd (Nat.le_trans (Nat.pow_le_pow_right (by decide) (show 7 - (k + 1) ≤ 6 by omega)) (by decide))
    obtain ⟨c1, c2⟩ := hC nd hn64
    obtain ⟨a1, a2⟩ := bt_inv (p := C nd) (bt := t / 2 ^ k % 2) h c1 c2
    have hb : t / 2 ^ k % 2 < 2 := Nat.mod_lt _ (by decide)
    have hnd2 : 2 * nd + t / 2 ^ k % 2 < 2 ^ (7 - k) := by
      have e7 : 7 - k = (7 - (k + 1)) + 1 := by omega
      rw [e7, Nat.pow_succ]
      omega
    obtain ⟨b1, b2, b3, b4⟩ := sp_all sh t hs k (2 * nd + t / 2 ^ k % 2) _ (upN C nd (mvC sh (t / 2 ^ k % 2) (C nd))) (by omega) hnd2 a1 (oct_bt ho) (ch_up hs hC)
    exact ⟨b1, by show eN (spN sh t k _ _ _).1 ≤ _; omega, b3, b4⟩
theorem lev_6 (n : Nat) : lev n ≤ 6 := by
  unfold lev
  repeat' split
  all_goals decide
theorem tab_01 {fm n mm : Nat} {f : Nat → Int32} {F : Nat → Nat} (hf : fm < 2) (h : tabI fm n f mm F) : sgI f (64 * mm) n F ∧ ns F n ≤ 8192 := by
  unfold tabI at h
  rcases h with h | h | h | h
  · exact h.2
  · exact absurd h.1 (by omega)
  · exact absurd h.1 (by omega)
  · exact absurd h.1 (by omega)
theorem tab_2 {n mm : Nat} {f : Nat → Int32} {F : Nat → Nat} (h : tabI 2 n f mm F) : sgI f (64 * mm) 64 F ∧ ∀ k, k < 64 → 1 ≤ F k ∧ F k ≤ 2047 := by
  unfold tabI at h
  rcases h with h | h | h | h
  · exact absurd h.1 (by omega)
  · exact h.2
  · exact absurd h.1 (by omega)
  · exact absurd h.1 (by omega)
theorem tab_3 {n mm : Nat} {f : Nat → Int32} {F : Nat → Nat} (h : tabI 3 n f mm F) : sgI f (64 * mm) n F ∧ (ns F n = 0 ∨ ns F n = 4096) := by
  unfold tabI at h
  rcases h with h | h | h | h
  · exact absurd h.1 (by omega)
  · exact absurd h.1 (by omega)
  · exact h.2
  · exact absurd h.1 (by omega)
theorem tab_4 {n mm : Nat} {f : Nat → Int32} {F : Nat → Nat} (h : tabI 4 n f mm F) : sgI f (64 * mm) n F ∧ (ns F n = 0 ∨ ns F n = 512) := by
  unfold tabI at h
  rcases h with h | h | h | h
  · exact absurd h.1 (by omega)
  · exact absurd h.1 (by omega)
  · exact absurd h.1 (by omega)
  · exact h.2
theorem pw12 {b : Nat} (h : b ≤ 12) : 2 ^ b ≤ 4096 := Nat.le_trans (Nat.pow_le_pow_right (by decide) h) (by decide)
theorem n01 {n : Int32} (h : n ≤ 1) (h0 : ¬ n < 0) (h1 : ¬ n = 0) (h2 : ¬ n = 1) : False := by
  have e0 : (0 : Int32).toInt = 0 := rfl
  have e1 : (1 : Int32).toInt = 1 := rfl
  rw [Int32.lt_iff_toInt_lt, e0] at h0
  rw [Int32.le_iff_toInt_le, e1] at h
  have h1' : n.toInt ≠ 0 := fun z => h1 (Int32.toInt_inj.mp (by rw [z]; rfl))
  have h2' : n.toInt ≠ 1 := fun z => h2 (Int32.toInt_inj.mp (by rw [z]; rfl))
  omega
theorem cp_st {fI f : Nat → Int32} {k i : Nat} {x : Int32} (h : ∀ j, j < k → fI j = f j) (hi : i = k) (hx : x = f k) : ∀ j, j < k + 1 → upd fI i x j = f j := by
  intro j hj
  subst hi
  by_cases e : j = i
  · subst e; rw [pk_us]; exact hx
  · rw [pk_un e]; exact h j (by omega)
