/-! what a reading leaves -/
def RD0 (cn : Nat) (fAsk : Int32) (fCode fRR : Int64) : Prop := ∃ RR CD q : Nat, fCode = lN CD ∧ fRR = lN RR ∧ fAsk = nI q ∧ RR < 4294967296 ∧ CD < 4294967296 ∧ q ≤ 40 * cn + 4
def RD1 (cn : Nat) (fAsk : Int32) (fCode fRL fRR : Int64) : Prop := ∃ RR L CD q : Nat, fCode = lN CD ∧ fRL = lN L ∧ fRR = lN RR ∧ fAsk = nI q ∧ pOk RR L ∧ CD < 4294967296 ∧ q ≤ 40 * cn + 4
def RD2 (cn : Nat) (fAsk : Int32) (fCode fRR : Int64) : Prop := ∃ RR CD q : Nat, fCode = lN CD ∧ fRR = lN RR ∧ fAsk = nI q ∧ rInv (RR, CD, q) ∧ q ≤ 40 * cn + 4
def RD3 (cn : Nat) (fAsk : Int32) (fX : Int64) : Prop := ∃ X q : Nat, fX = lN X ∧ fAsk = nI q ∧ 8388608 ≤ X ∧ X < 4294967296 ∧ q ≤ 40 * cn + 4
def RD4 (cn : Nat) (fAsk fBAsk : Int32) (fX : Int64) : Prop := ∃ X t : Nat, fX = lN X ∧ fBAsk = nI t ∧ fAsk = nI ((t + 7) / 8) ∧ 512 ≤ X ∧ X < 1024 ∧ t ≤ 40 * cn + 9
theorem gr0_ok {is : List Nat} {n : Nat} {F : Nat → Nat} {r : RS} (ho : oct is) (hn : n ≤ 64) (hs : ns F n ≤ 8192) (h1 : r.1 < 4294967296) (h2 : r.2.1 < 4294967296) : (gr0 is n F r).2.1.1 < 4294967296 ∧ (gr0 is n F r).2.1.2.1 < 4294967296 ∧ (gr0 is n F r).2.1.2.2 ≤ r.2.2 + 3 ∧ ns (gr0 is n F r).2.2 n ≤ 8192 := by
  cases h : wnt (ns F n) r.1 r.2.1 with
  | none =>
    have e : gr0 is n F r = (none, r, F) := by unfold gr0; rw [h]
    rw [e]
    exact ⟨h1, h2, by show r.2.2 ≤ _; omega, hs⟩
  | some w =>
    have e : gr0 is n F r = (some (sgA F n w), wrS is (r.1 / ns F n * F (sgA F n w), r.2.1 - r.1 / ns F n * ns F (sgA F n w), r.2.2), lrn n (sgA F n w) F) := by unfold gr0; rw [h]
    rw [e]
    obtain ⟨a1, a2, a3, a4, a5⟩ := wnt_some h
    obtain ⟨b1, b2, b3⟩ := sgA_spec a3
    have hf : 0 < F (sgA F n w) := by omega
    have hp := nr_pos a1 hf a2
    have hl := nr_le (Rg := r.1) a1 (ns_m1 F b1)
    obtain ⟨c1, c2, c3⟩ := wr_inv ho (r := (r.1 / ns F n * F (sgA F n w), r.2.1 - r.1 / ns F n * ns F (sgA F n w), r.2.2)) hp (show r.1 / ns F n * F (sgA F n w) < 4294967296 by omega) (show r.2.1 - r.1 / ns F n * ns F (sgA F n w) < 4294967296 by omega)
    exact ⟨c1.2.1, c1.2.2, c2, lrn_ok hn b1 hs⟩
theorem gv0_ok {is : List Nat} {b : Nat} {r : RS} (ho : oct is) (h1 : r.1 < 4294967296) (h2 : r.2.1 < 4294967296) : (gv0 is b r).2.1 < 4294967296 ∧ (gv0 is b r).2.2.1 < 4294967296 ∧ (gv0 is b r).2.2.2 ≤ r.2.2 + 3 := by
  cases h : wnt (2 ^ b) r.1 r.2.1 with
  | none =>
    have e : gv0 is b r = (none, r) := by unfold gv0; rw [h]
    rw [e]
    exact ⟨h1, h2, by show r.2.2 ≤ _; omega⟩
  | some w =>
    have e : gv0 is b r = (some w, wrS is (r.1 / 2 ^ b * 1, r.2.1 - r.1 / 2 ^ b * w, r.2.2)) := by unfold gv0; rw [h]
    rw [e]
    obtain ⟨a1, a2, a3, a4, a5⟩ := wnt_some h
    have hp := nr_pos (f := 1) a1 (by decide) a2
    have hl := nr_le (Rg := r.1) (c := w) (f := 1) a1 (by omega)
    obtain ⟨c1, c2, c3⟩ := wr_inv ho (r := (r.1 / 2 ^ b * 1, r.2.1 - r.1 / 2 ^ b * w, r.2.2)) hp (show r.1 / 2 ^ b * 1 < 4294967296 by omega) (show r.2.1 - r.1 / 2 ^ b * w < 4294967296 by omega)
    exact ⟨c1.2.1, c1.2.2, c2⟩
theorem pr_main {is : List Nat} (ho : oct is) : ∀ (k : Nat) (e : RP), plI k e.1 e.2.1 → e.2.2.1 < 4294967296 → pOk (prN is k e).1 (prN is k e).2.1 ∧ (prN is k e).2.2.1 < 4294967296 ∧ (prN is k e).2.2.2 + 4 ≤ e.2.2.2 + k
  | 0, e, h, _ => absurd h.2.1 (by decide)
  | k + 1, e, h, hc => by
    by_cases hm : mvP e.2.1 e.1
    · obtain ⟨h1, h2⟩ := plI_st h hm
      rw [prN_s (show 0 < k + 1 from Nat.succ_pos k) hm]
      rw [Nat.add_sub_cancel] at h2 ⊢
      have hb := ho e.2.2.2
      obtain ⟨a, b, c⟩ := pr_main ho k (mvR e.2.1 e.1, mvL e.2.1, e.2.2.1 * 256 % 4294967296 + byA is e.2.2.2, e.2.2.2 + 1) h2 (show e.2.2.1 * 256 % 4294967296 + byA is e.2.2.2 < 4294967296 by omega)
      have c' : (prN is k (mvR e.2.1 e.1, mvL e.2.1, e.2.2.1 * 256 % 4294967296 + byA is e.2.2.2, e.2.2.2 + 1)).2.2.2 + 4 ≤ e.2.2.2 + 1 + k := c
      exact ⟨a, b, by omega⟩
    · rw [prN_e hm]
      exact ⟨h.1, hc, by have := h.2.1; omega⟩
theorem pr_inv {is : List Nat} (ho : oct is) {R L C q : Nat} (h : pOk R L) (hc : C < 4294967296) : pOk (prS is (R, L, C, q)).1 (prS is (R, L, C, q)).2.1 ∧ (prS is (R, L, C, q)).2.2.1 < 4294967296 ∧ (prS is (R, L, C, q)).2.2.2 ≤ q + 4 := by
  obtain ⟨a, b, c⟩ := pr_main ho 8 (R, L, C, q) (plI_0 h) hc
  exact ⟨a, b, by have c' : (prN is 8 (R, L, C, q)).2.2.2 + 4 ≤ q + 8 := c; show (prN is 8 (R, L, C, q)).2.2.2 ≤ _; omega⟩
theorem gr1_ok {is : List Nat} {n : Nat} {F : Nat → Nat} {R L C q : Nat} (ho : oct is) (hn : n ≤ 64) (hs : ns F n ≤ 8192) (h1 : pOk R L) (h2 : C < 4294967296) : pOk (gr1 is n F (R, L, C, q)).2.1.1 (gr1 is n F (R, L, C, q)).2.1.2.1 ∧ (gr1 is n F (R, L, C, q)).2.1.2.2.1 < 4294967296 ∧ (gr1 is n F (R, L, C, q)).2.1.2.2.2 ≤ q + 4 ∧ ns (gr1 is n F (R, L, C, q)).2.2 n ≤ 8192 := by
  cases h : wnt (ns F n) R ((C + 4294967296 - L) % 4294967296) with
  | none =>
    have e : gr1 is n F (R, L, C, q) = (none, (R, L, C, q), F) := by unfold gr1; dsimp only; rw [h]
    rw [e]
    exact ⟨h1, h2, by show q ≤ _; omega, hs⟩
  | some w =>
    have e : gr1 is n F (R, L, C, q) = (some (sgA F n w), prS is (R / ns F n * F (sgA F n w), L + R / ns F n * ns F (sgA F n w), C, q), lrn n (sgA F n w) F) := by unfold gr1; dsimp only; rw [h]
    rw [e]
    obtain ⟨a1, a2, a3, a4, a5⟩ := wnt_some h
    obtain ⟨b1, b2, b3⟩ := sgA_spec a3
    obtain ⟨c1, c2, c3⟩ := pr_inv ho (q := q) (pOk_nr h1 a1 (ns_m1 F b1) (by omega) a2) h2
    exact ⟨c1, c2, c3, lrn_ok hn b1 hs⟩
theorem gv1_ok {is : List Nat} {b : Nat} {R L C q : Nat} (ho : oct is) (h1 : pOk R L) (h2 : C < 4294967296) : pOk (gv1 is b (R, L, C, q)).2.1 (gv1 is b (R, L, C, q)).2.2.1 ∧ (gv1 is b (R, L, C, q)).2.2.2.1 < 4294967296 ∧ (gv1 is b (R, L, C, q)).2.2.2.2 ≤ q + 4 := by
  cases h : wnt (2 ^ b) R ((C + 4294967296 - L) % 4294967296) with
  | none =>
    have e : gv1 is b (R, L, C, q) = (none, (R, L, C, q)) := by unfold gv1; dsimp only; rw [h]
    rw [e]
    exact ⟨h1, h2, by show q ≤ _; omega⟩
  | some w =>
    have e : gv1 is b (R, L, C, q) = (some w, prS is (R / 2 ^ b * 1, L + R / 2 ^ b * w, C, q)) := by unfold gv1; dsimp only; rw [h]
    rw [e]
    obtain ⟨a1, a2, a3, a4, a5⟩ := wnt_some h
    exact pr_inv ho (q := q) (pOk_nr h1 a1 (show w + 1 ≤ 2 ^ b by omega) (by decide) a2) h2
theorem gn_main {is : List Nat} (ho : oct is) {sh : Nat} (hs : 1 ≤ sh) : ∀ (k nd : Nat) (r : RS) (D : Nat → Nat), k ≤ 6 → nd < 2 ^ (7 - k) → rInv r → (∀ j, j < 64 → 1 ≤ D j ∧ D j ≤ 2047) → rInv (gnN is sh k nd r D).2.1 ∧ (gnN is sh k nd r D).2.1.2.2 ≤ r.2.2 + 3 * k ∧ ∀ j, j < 64 → 1 ≤ (gnN is sh k nd r D).2.2 j ∧ (gnN is sh k nd r D).2.2 j ≤ 2047
  | 0, nd, r, D, _, _, h, hD => ⟨h, Nat.le_refl _, hD⟩
  | k + 1, nd, r, D, hk, hnd, h, hD => by
    have hn64 : nd < 64 := Nat.lt_of_lt_of_le hnd (Nat.le_trans (Nat.pow_le_pow_right (by decide) (show 7 - (k + 1) ≤ 6 by omega)) (by decide))
    obtain ⟨c1, c2⟩ := hD nd hn64
    have hr : 16777216 ≤ r.1 := h.1
    have hb1 : 0 < r.1 / 2048 * D nd := Nat.mul_pos (by omega) (by omega)
    have hb2 : r.1 / 2048 * D nd < r.1 := by
      have a : r.1 / 2048 * D nd ≤ r.1 / 2048 * 2047 := Nat.mul_le_mul_left _ c2
      omega
    obtain ⟨d1, d2, d3, d4⟩ := rb_ok (q := r.2.2) hb1 hb2 h.2.1 h.2.2
    obtain ⟨e1, e2, e3⟩ := wr_inv ho d1 d2 d3
    have hbt := rbt_lt (r.1 / 2048 * D nd) r.2.1
    have hnd2 : 2 * nd + rbt (r.1 / 2048 * D nd) r.2.1 < 2 ^ (7 - k) := by
      have e7 : 7 - k = (7 - (k + 1)) + 1 := by omega
      rw [e7, Nat.pow_succ]
      omega
    obtain ⟨f1, f2, f3⟩ := gn_main ho hs k (2 * nd + rbt (r.1 / 2048 * D nd) r.2.1) _ (upN D nd (mvC sh (rbt (r.1 / 2048 * D nd) r.2.1) (D nd))) (by omega) hnd2 e1 (ch_up hs hD)
    rw [d4] at e2
    refine ⟨f1, ?_, f3⟩
    show (gnN is sh k _ _ _).2.1.2.2 ≤ _
    omega
theorem gn_ok {is : List Nat} (ho : oct is) {sh n : Nat} (hs : 1 ≤ sh) {r : RS} {D : Nat → Nat} (h : rInv r) (hD : ∀ j, j < 64 → 1 ≤ D j ∧ D j ≤ 2047) : rInv (gnS is sh n r D).2.1 ∧ (gnS is sh n r D).2.1.2.2 ≤ r.2.2 + 18 ∧ ∀ j, j < 64 → 1 ≤ (gnS is sh n r D).2.2 j ∧ (gnS is sh n r D).2.2 j ≤ 2047 := by
  have hl := lev_6 n
  obtain ⟨a, b, c⟩ := gn_main ho hs (lev n) 1 r D hl (Nat.lt_of_lt_of_le (by decide : 1 < 2 ^ 1) (Nat.pow_le_pow_right (by decide) (by omega))) h hD
  unfold gnS
  split
  · exact ⟨a, by show (gnN is sh (lev n) 1 r D).2.1.2.2 ≤ _; omega, c⟩
  · exact ⟨h, by show r.2.2 ≤ _; omega, hD⟩
theorem pb_main {is : List Nat} (ho : oct is) : ∀ (k v : Nat) (r : RS), rInv r → (pbN is k v r).1 ≠ none → rInv (pbN is k v r).2 ∧ (pbN is k v r).2.2.2 ≤ r.2.2 + 3 * k
  | 0, v, r, h, _ => ⟨h, Nat.le_refl _⟩
  | k + 1, v, r, h, hn => by
    have hr : 16777216 ≤ r.1 := h.1
    have hr2 : r.1 < 4294967296 := h.2.1
    by_cases hc : crd r < r.1 / 2
    · have e : pbN is (k + 1) v r = pbN is k (2 * v + rbt (r.1 / 2) r.2.1) (wrS is (r.1 / 2, crd r, r.2.2)) := by
        show (if crd r < r.1 / 2 then _ else _) = _
        rw [if_pos hc]
      rw [e] at hn ⊢
      obtain ⟨e1, e2, e3⟩ := wr_inv ho (r := (r.1 / 2, crd r, r.2.2)) (show 0 < r.1 / 2 by omega) (show r.1 / 2 < 4294967296 by omega) (show crd r < 4294967296 by omega)
      obtain ⟨f1, f2⟩ := pb_main ho k _ _ e1 hn
      have e2' : (wrS is (r.1 / 2, crd r, r.2.2)).2.2 ≤ r.2.2 + 3 := e2
      exact ⟨f1, by omega⟩
    · have e : pbN is (k + 1) v r = (none, (r.1 / 2, crd r, r.2.2)) := by
        show (if crd r < r.1 / 2 then _ else _) = _
        rw [if_neg hc]
      rw [e] at hn
      exact absurd rfl hn
theorem pb_ok {is : List Nat} (ho : oct is) {b : Nat} {r : RS} (h : rInv r) (hn : (pbS is b r).1 ≠ none) : rInv (pbS is b r).2 ∧ (pbS is b r).2.2.2 ≤ r.2.2 + 3 * b := by
  unfold pbS at hn ⊢
  split at hn
  · rename_i z
    rw [if_pos z]
    exact pb_main ho b 0 r h hn
  · exact absurd rfl hn
theorem rf_main {is : List Nat} (ho : oct is) : ∀ (c k : Nat) (r : Nat × Nat), c ≤ 3 → c < k → 256 ^ (3 - c) / 2 ≤ r.1 → 0 < r.1 → r.1 < 4294967296 → 8388608 ≤ (rfN is k r).1 ∧ (rfN is k r).1 < 4294967296 ∧ (rfN is k r).2 ≤ r.2 + c := by
  intro c
  induction c with
  | zero =>
    intro k r _ hk h1 h0 h2
    have h1 : 8388608 ≤ r.1 := h1
    rw [rfN_e (by omega)]
    exact ⟨h1, h2, Nat.le_refl _⟩
  | succ c ih =>
    intro k r hc hk h1 h0 h2
    by_cases hr : r.1 < 8388608
    · rw [rfN_s (by omega) hr]
      have hb := ho r.2
      have hp : 256 ^ (3 - c) / 2 ≤ r.1 * 256 + byA is r.2 := by
        have hx : c = 0 ∨ c = 1 ∨ c = 2 := by omega
        rcases hx with e | e | e <;> subst e <;> simp at h1 ⊢ <;> omega
      obtain ⟨a, b, d⟩ := ih (k - 1) (r.1 * 256 + byA is r.2, r.2 + 1) (by omega) (by omega) hp (show 0 < r.1 * 256 + byA is r.2 by omega) (show r.1 * 256 + byA is r.2 < 4294967296 by omega)
      have d' : (rfN is (k - 1) (r.1 * 256 + byA is r.2, r.2 + 1)).2 ≤ r.2 + 1 + c := d
      exact ⟨a, b, by omega⟩
    · rw [rfN_e hr]
      exact ⟨by omega, h2, by omega⟩
theorem rf_ok {is : List Nat} (ho : oct is) {x q : Nat} (h1 : 0 < x) (h2 : x < 4294967296) : 8388608 ≤ (rfS is (x, q)).1 ∧ (rfS is (x, q)).1 < 4294967296 ∧ (rfS is (x, q)).2 ≤ q + 3 := rf_main ho 3 8 (x, q) (by decide) (by decide) (by show 1 / 2 ≤ x; omega) h1 h2
theorem gs3_ok {is : List Nat} (ho : oct is) {n X q : Nat} {F : Nat → Nat} (hs : ns F n = 0 ∨ ns F n = 4096) (h1 : 8388608 ≤ X) (h2 : X < 4294967296) : 8388608 ≤ (gs3 is n F X q).2.1 ∧ (gs3 is n F X q).2.1 < 4294967296 ∧ (gs3 is n F X q).2.2 ≤ q + 3 := by
  unfold gs3
  split
  · exact ⟨h1, h2, by show q ≤ _; omega⟩
  · rename_i z
    have hs' : ns F n = 4096 := by omega
    obtain ⟨b1, b2, b3⟩ := sgA_spec (F := F) (n := n) (u := X % 4096) (by rw [hs']; exact Nat.mod_lt _ (by decide))
    have hm := ns_m1 F b1
    generalize hsg : sgA F n (X % 4096) = sg at b1 b2 b3 hm ⊢
    have hf : 0 < F sg := by omega
    have hf2 : F sg ≤ 4096 := by omega
    have hx : X / 4096 ≤ 1048575 := by omega
    have ha : X / 4096 * F sg ≤ 1048575 * F sg := Nat.mul_le_mul_right _ hx
    have hb : X / 4096 * 1 ≤ X / 4096 * F sg := Nat.mul_le_mul_left _ hf
    exact rf_ok ho (show 0 < X / 4096 * F sg + X % 4096 - ns F sg by omega) (show X / 4096 * F sg + X % 4096 - ns F sg < 4294967296 by omega)
theorem gv3_ok {is : List Nat} (ho : oct is) {b X q : Nat} (hb : b ≤ 12) (h1 : 8388608 ≤ X) (h2 : X < 4294967296) : 8388608 ≤ (gv3 is b X q).1 ∧ (gv3 is b X q).1 < 4294967296 ∧ (gv3 is b X q).2 ≤ q + 3 := by
  unfold gv3
  have hp : 0 < 4096 / 2 ^ b := Nat.div_pos (pw12 hb) (Nat.two_pow_pos _)
  have hp2 : 4096 / 2 ^ b ≤ 4096 := Nat.div_le_self _ _
  generalize 4096 / 2 ^ b = f at hp hp2 ⊢
  have hx : X / 4096 ≤ 1048575 := by omega
  have ha : X / 4096 * f ≤ 1048575 * f := Nat.mul_le_mul_right _ hx
  have hb : X / 4096 * 1 ≤ X / 4096 * f := Nat.mul_le_mul_left _ hp
  have hm : X % 4096 % f < f := Nat.mod_lt _ hp
  have hd := Nat.div_add_mod (X % 4096) f
  exact rf_ok ho (show 0 < X / 4096 * f + X % 4096 - f * (X % 4096 / f) by omega) (show X / 4096 * f + X % 4096 - f * (X % 4096 / f) < 4294967296 by omega)
theorem RD0_up {cn : Nat} {a : Int32} {c r : Int64} (h : RD0 cn a c r) : RD0 (cn + 1) a c r := by
  obtain ⟨x1, x2, x3, e1, e2, e3, h1, h2, h3⟩ := h
  exact ⟨x1, x2, x3, e1, e2, e3, h1, h2, by omega⟩
theorem RD1_up {cn : Nat} {a : Int32} {c x r : Int64} (h : RD1 cn a c x r) : RD1 (cn + 1) a c x r := by
  obtain ⟨x1, x2, x3, x4, e1, e2, e3, e4, h1, h2, h3⟩ := h
  exact ⟨x1, x2, x3, x4, e1, e2, e3, e4, h1, h2, by omega⟩
theorem RD2_up {cn : Nat} {a : Int32} {c r : Int64} (h : RD2 cn a c r) : RD2 (cn + 1) a c r := by
  obtain ⟨x1, x2, x3, e1, e2, e3, h1, h3⟩ := h
  exact ⟨x1, x2, x3, e1, e2, e3, h1, by omega⟩
theorem RD3_up {cn : Nat} {a : Int32} {x : Int64} (h : RD3 cn a x) : RD3 (cn + 1) a x := by
  obtain ⟨x1, x3, e1, e2, h1, h2, h3⟩ := h
  exact ⟨x1, x3, e1, e2, h1, h2, by omega⟩
theorem RD4_up {cn : Nat} {a b : Int32} {x : Int64} (h : RD4 cn a b x) : RD4 (cn + 1) a b x := by
  obtain ⟨x1, x3, e1, e2, e3, h1, h2, h3⟩ := h
  exact ⟨x1, x3, e1, e2, e3, h1, h2, by omega⟩

