/-! FORM 1: a RANGE that is cut off ahead of a carry -/
abbrev smT (L R : Nat) : Prop := L / 16777216 = (L + R) % 4294967296 / 16777216
abbrev mvP (L R : Nat) : Prop := smT L R ∨ R < 65536
def ngL (L : Nat) : Nat := (18446744073709551616 - L) % 65536
def mvR (L R : Nat) : Nat := (if smT L R then R else ngL L) * 256 % 4294967296
def mvL (L : Nat) : Nat := L * 256 % 4294967296
def pOk (R L : Nat) : Prop := L < 4294967296 ∧ 1 ≤ R ∧ L + R ≤ 4294967296 ∧ (L + R = 4294967296 → 4278190080 ≤ L)
def plI (k R L : Nat) : Prop := pOk R L ∧ 4 ≤ k ∧ k ≤ 8 ∧ ((wb8 k ≤ R ∧ 5 ≤ k) ∨ (L + R = 4294967296 ∧ ((256 ≤ R ∧ 5 ≤ k) ∨ 65536 ≤ R)))
theorem wb8_7 {k r : Nat} (h5 : 5 ≤ k) (h : wb8 k ≤ r) (hr : r < 65536) : 7 ≤ k := by
  rcases Nat.lt_or_ge k 7 with q | q
  · have e : k = 5 ∨ k = 6 := by omega
    rcases e with e | e
    · subst e; have : wb8 5 = 16777216 := by decide
      omega
    · subst e; have : wb8 6 = 65536 := by decide
      omega
  · exact q
theorem plI_0 {R L : Nat} (h : pOk R L) : plI 8 R L := ⟨h, by decide, by decide, Or.inl ⟨h.2.1, by decide⟩⟩
theorem mv_same {R L : Nat} (h : pOk R L) (hs : smT L R) : L % 16777216 + R < 16777216 := by
  obtain ⟨h1, h2, h3, h4⟩ := h
  have h5 : L + R < 4294967296 := by
    rcases Nat.lt_or_ge (L + R) 4294967296 with q | q
    · exact q
    · have e : L + R = 4294967296 := by omega
      have := h4 e
      unfold smT at hs
      rw [e] at hs
      omega
  unfold smT at hs
  omega
theorem mv_cut {R L : Nat} (h : pOk R L) (hs : ¬ smT L R) (hR : R < 65536) : 1 ≤ ngL L ∧ ngL L ≤ R ∧ L % 16777216 + ngL L = 16777216 ∧ (L + R = 4294967296 → ngL L = R) := by
  obtain ⟨h1, h2, h3, h4⟩ := h
  unfold smT at hs
  unfold ngL
  rcases Nat.lt_or_ge (L + R) 4294967296 with q | q
  · have : L % 16777216 + R ≥ 16777216 := by omega
    omega
  · have e : L + R = 4294967296 := by omega
    have := h4 e
    omega
theorem plI_st {k R L : Nat} (h : plI k R L) (hm : mvP L R) : 4 < k ∧ plI (k - 1) (mvR L R) (mvL L) := by
  obtain ⟨hp, hk4, hk8, hc⟩ := h
  by_cases hs : smT L R
  · have h1 := mv_same hp hs
    obtain ⟨a1, a2, a3, a4⟩ := hp
    have eR : mvR L R = R * 256 := by unfold mvR; rw [if_pos hs]; omega
    have eL : mvL L = L % 16777216 * 256 := by unfold mvL; omega
    rcases hc with ⟨c1, c2⟩ | ⟨c1, -⟩
    · have k6 := wb8_k c2 c1 (by omega)
      refine ⟨by omega, ⟨by rw [eL]; omega, by omega, by rw [eR, eL]; omega, by rw [eR, eL]; omega⟩, by omega, by omega, Or.inl ⟨?_, by omega⟩⟩
      rw [eR]; exact wb8_s k6 hk8 c1
    · have := a4 c1
      omega
  · have hR : R < 65536 := hm.elim (fun q => absurd q hs) id
    obtain ⟨b1, b2, b3, b4⟩ := mv_cut hp hs hR
    have eR : mvR L R = ngL L * 256 := by unfold mvR; rw [if_neg hs]; omega
    have eL : mvL L = L % 16777216 * 256 := by unfold mvL; omega
    have sm : mvL L + mvR L R = 4294967296 := by rw [eR, eL]; omega
    rcases hc with ⟨c1, c2⟩ | ⟨c1, c2⟩
    · have k7 := wb8_7 c2 c1 hR
      exact ⟨by omega, ⟨by rw [eL]; omega, by omega, by omega, fun _ => by rw [eL]; omega⟩, by omega, by omega, Or.inr ⟨by omega, Or.inl ⟨by omega, by omega⟩⟩⟩
    · have e := b4 c1
      rcases c2 with ⟨d1, d2⟩ | d1
      · exact ⟨by omega, ⟨by rw [eL]; omega, by omega, by omega, fun _ => by rw [eL]; omega⟩, by omega, by omega, Or.inr ⟨by omega, Or.inr (by omega)⟩⟩
      · omega
abbrev PS : Type := Nat × Nat × List Nat
def plN : Nat → PS → PS
  | 0, e => e
  | k + 1, e => if mvP e.2.1 e.1 then plN k (mvR e.2.1 e.1, mvL e.2.1, e.2.2 ++ [e.2.1 / 16777216 % 256]) else e
def plS (e : PS) : PS := plN 8 e
theorem plN_e {k : Nat} {e : PS} (h : ¬ mvP e.2.1 e.1) : plN k e = e := by
  cases k with
  | zero => rfl
  | succ k => rw [plN, if_neg h]
theorem plN_s {k : Nat} {e : PS} (h0 : 0 < k) (h : mvP e.2.1 e.1) : plN k e = plN (k - 1) (mvR e.2.1 e.1, mvL e.2.1, e.2.2 ++ [e.2.1 / 16777216 % 256]) := by
  cases k with
  | zero => omega
  | succ k => rw [plN, if_pos h]; rfl
theorem L_neg {n : Nat} (h : n < 2 ^ 64) : -lN n = lN (18446744073709551616 - n) := by
  apply wb_inj
  rw [Int64.toBitVec_neg, wb_tb, wb_tb]
  apply BitVec.eq_of_toNat_eq
  rw [BitVec.toNat_neg, BitVec.toNat_ofNat, BitVec.toNat_ofNat, Nat.mod_eq_of_lt h]
theorem L_ng {n : Nat} (h0 : 0 < n) (h : n < 2 ^ 64) : -lN n &&& 65535 = lN (ngL n) := by
  rw [L_neg h, L_and16 (by omega)]; rfl
theorem L_ng0 : -lN 0 &&& 65535 = lN (ngL 0) := by decide +kernel
theorem L_ngA {n : Nat} (h : n < 2 ^ 64) : -lN n &&& 65535 = lN (ngL n) := by
  rcases Nat.eq_zero_or_pos n with e | e
  · subst e; exact L_ng0
  · exact L_ng e h
/-- a reading of form 1: RANGE, LOW, CODE, bytes asked for -/
abbrev RP : Type := Nat × Nat × Nat × Nat
def prN (is : List Nat) : Nat → RP → RP
  | 0, e => e
  | k + 1, e => if mvP e.2.1 e.1 then prN is k (mvR e.2.1 e.1, mvL e.2.1, e.2.2.1 * 256 % 4294967296 + byA is e.2.2.2, e.2.2.2 + 1) else e
def prS (is : List Nat) (e : RP) : RP := prN is 8 e
theorem prN_e {is : List Nat} {k : Nat} {e : RP} (h : ¬ mvP e.2.1 e.1) : prN is k e = e := by
  cases k with
  | zero => rfl
  | succ k => rw [prN, if_neg h]
theorem prN_s {is : List Nat} {k : Nat} {e : RP} (h0 : 0 < k) (h : mvP e.2.1 e.1) : prN is k e = prN is (k - 1) (mvR e.2.1 e.1, mvL e.2.1, e.2.2.1 * 256 % 4294967296 + byA is e.2.2.2, e.2.2.2 + 1) := by
  cases k with
  | zero => omega
  | succ k => rw [prN, if_pos h]; rfl

