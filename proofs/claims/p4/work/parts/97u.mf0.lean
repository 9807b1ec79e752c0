theorem sg_yes {km jj tt : Nat} {N : Nat → Nat} {vMany vC : Nat → Int32} (h : MD km N vMany vC) (hj : jj < km) (ht : tt < N jj) : isN km (nI jj) ∧ (0 ≤ nI tt ∧ nI tt ≤ vMany (nI jj).toNatClampNeg - 1) := by
  have hk := h.1
  obtain ⟨h1, h2, h3, -⟩ := h.2 jj hj
  refine ⟨(isN_iff (by omega)).mpr ⟨jj, hj, rfl⟩, ?_⟩
  rw [nI_clamp (by omega), h1]
  exact (isN_iff (k := N jj) (by omega)).mpr ⟨tt, ht, rfl⟩
theorem sg_nom {km : Nat} {vMany : Nat → Int32} {p1 p2 : Int32} (hk : km ≤ 8) (h : p1 < 0 ∨ nI km ≤ p1) : ¬ (isN km p1 ∧ (0 ≤ p2 ∧ p2 ≤ vMany p1.toNatClampNeg - 1)) := fun q => by
  obtain ⟨j, hj, rfl⟩ := (isN_iff (by omega)).mp q.1
  rcases h with z | z
  · exact absurd z (nI_pos (by omega))
  · exact absurd z (nI_ge hj (by omega))
theorem sg_nos {km jj : Nat} {N : Nat → Nat} {vMany vC : Nat → Int32} {p2 : Int32} (h : MD km N vMany vC) (hj : jj < km) (hno : p2 < 0 ∨ nI (N jj) ≤ p2) : ¬ (isN km (nI jj) ∧ (0 ≤ p2 ∧ p2 ≤ vMany (nI jj).toNatClampNeg - 1)) := fun q => by
  have hk := h.1
  obtain ⟨h1, h2, h3, -⟩ := h.2 jj hj
  have q2 := q.2
  rw [nI_clamp (by omega), h1] at q2
  obtain ⟨j, hj2, rfl⟩ := (isN_iff (k := N jj) (by omega)).mp q2
  rcases hno with z | z
  · exact absurd z (nI_pos (by omega))
  · exact absurd z (nI_ge hj2 (by omega))
theorem md_no {km : Nat} {p1 : Int32} (hk : km ≤ 8) (h : p1 < 0 ∨ nI km ≤ p1) : ¬ (0 ≤ p1 ∧ p1 ≤ nI km - 1) := fun q => by
  obtain ⟨j, hj, rfl⟩ := (isN_iff (by omega)).mp q
  rcases h with z | z
  · exact absurd z (nI_pos (by omega))
  · exact absurd z (nI_ge hj (by omega))
theorem okB_no {bm : Nat} {v b x : Int32} (hbm : bm ≤ 12) (hno : ¬ okB bm v b) (h1 : 1 ≤ b ∧ b ≤ nI bm) (ex : x = (1 : Int32) <<< (b &&& 31) - 1) : ¬ (0 ≤ v ∧ v ≤ x) := fun q => by
  obtain ⟨bb, q1, q2, rfl⟩ := in_of2 (a := 1) (b := bm) (by decide) (by omega) h1
  rw [shl1 bb (by omega), nI_pred9 (Nat.two_pow_pos bb)] at ex
  have hp : 2 ^ bb ≤ 2 ^ 12 := Nat.pow_le_pow_right (by decide) (by omega)
  have hp0 := Nat.two_pow_pos bb
  rw [ex] at q
  obtain ⟨vv, -, z2, rfl⟩ := in_of2 (a := 0) (b := 2 ^ bb - 1) (by decide) (by omega) q
  exact hno ⟨vv, bb, q1, q2, by omega, rfl, rfl⟩
theorem m255 (i : Nat) : (255#32).getLsbD i = decide (i < 8) := by
  rw [BitVec.getLsbD_ofNat, show (255 : Nat) = 2 ^ 8 - 1 from rfl, Nat.testBit_two_pow_sub_one]
  by_cases h : i < 8
  · simp [h]; omega
  · simp [h]
theorem oB_s (v : Int32) : ∀ k, k < 4 → ∀ x : Int32, x = nI (8 * k) → ((v >>> (x &&& 31)) &&& 255) = nI (oB v k) := by
  intro k hk x ex
  rw [← oB_u v k hk x ex]
  subst ex
  apply Int32.toBitVec_inj.mp
  rw [Int32.toBitVec_and, Int32.toBitVec_and]
  have e1 : (v >>> (nI (8 * k) &&& 31)).toBitVec = v.toBitVec.sshiftRight (8 * k) := by
    have hk' : k = 0 ∨ k = 1 ∨ k = 2 ∨ k = 3 := by omega
    rcases hk' with h | h | h | h <;> subst h <;> rfl
  have e2 : ((v.toUInt32 >>> ((nI (8 * k)).toUInt32 &&& Int32.toUInt32 31)).toInt32).toBitVec = v.toBitVec >>> (8 * k) := by
    have hk' : k = 0 ∨ k = 1 ∨ k = 2 ∨ k = 3 := by omega
    rcases hk' with h | h | h | h <;> subst h <;> rfl
  rw [e1, e2]
  apply BitVec.eq_of_getLsbD_eq
  intro i hi
  show (v.toBitVec.sshiftRight (8 * k) &&& 255#32).getLsbD i = (v.toBitVec >>> (8 * k) &&& 255#32).getLsbD i
  rw [BitVec.getLsbD_and, BitVec.getLsbD_and, m255]
  by_cases h : i < 8
  · rw [BitVec.getLsbD_sshiftRight, BitVec.getLsbD_ushiftRight, if_pos (by omega)]
    have h3 : decide (32 ≤ i) = false := decide_eq_false (by omega)
    have h4 : decide (i < 32) = true := decide_eq_true (by omega)
    first | (rw [h3]; rfl) | (rw [h4]; rfl) | rfl | simp [h3, h4, hi, h]
  · simp [h]
theorem tk_le1 {p1 : Int32} {n : Nat} (hn : n < 2 ^ 31) (h0 : ¬ p1 < 0) (h1 : p1 ≤ 1) : ¬ nI n < p1 - 2 := by
  have e0 : (0 : Int32).toInt = 0 := rfl
  have e1 : (1 : Int32).toInt = 1 := rfl
  have e2 : (2 : Int32).toInt = 2 := rfl
  rw [Int32.lt_iff_toInt_lt, e0] at h0
  rw [Int32.le_iff_toInt_le, e1] at h1
  have hs : (p1 - 2).toInt = p1.toInt - 2 := by
    rw [Int32.toInt_sub, e2]
    apply Int.bmod_eq_of_le <;> omega
  rw [Int32.lt_iff_toInt_lt, hs, nI_toInt hn]
  omega
theorem ml0 {p1 : Int32} {ll : Nat} (h : p1 = 0) (hl : ¬ p1 = 1 → (if (0 : Int32) < p1 - 2 then p1 - 2 else 0) = nI ll) : (0 : Int32) = nI ll := by
  subst h
  have := hl (by decide)
  rw [← this]
  decide
theorem ml2 {p1 : Int32} {ll : Nat} (h0 : ¬ p1 < 0) (h1 : ¬ p1 = 0) (h2 : ¬ p1 = 1) (hl : ¬ p1 = 1 → (if (0 : Int32) < p1 - 2 then p1 - 2 else 0) = nI ll) : p1 - 2 = nI ll := by
  rw [← hl h2]
  have e0 : (0 : Int32).toInt = 0 := rfl
  have e2 : (2 : Int32).toInt = 2 := rfl
  rw [Int32.lt_iff_toInt_lt, e0] at h0
  have h1' : p1.toInt ≠ 0 := fun z => h1 (Int32.toInt_inj.mp (by rw [z]; rfl))
  have h2' : p1.toInt ≠ 1 := fun z => h2 (Int32.toInt_inj.mp (by rw [z]; rfl))
  have hlt := Int32.toInt_lt p1
  have hs : (p1 - 2).toInt = p1.toInt - 2 := by
    rw [Int32.toInt_sub, e2]
    apply Int.bmod_eq_of_le <;> omega
  by_cases z : (0 : Int32) < p1 - 2
  · rw [if_pos z]
  · rw [if_neg z]
    rw [Int32.lt_iff_toInt_lt, hs, e0] at z
    exact Int32.toInt_inj.mp (by rw [hs, e0]; omega)
theorem isN_no {k : Nat} {p : Int32} (hk : k < 2 ^ 30) (h : p < 0 ∨ nI k ≤ p) : ¬ isN k p := fun q => by
  obtain ⟨j, hj, rfl⟩ := (isN_iff hk).mp q
  rcases h with z | z
  · exact absurd z (nI_pos (by omega))
  · exact absurd z (nI_ge hj (by omega))
theorem nd_no {n : Nat} {p : Int32} (hn : n < 2 ^ 30) (h : p < 1 ∨ p < 0 ∨ nI n ≤ p) : ¬ (1 ≤ p ∧ p ≤ nI (n - 1)) := fun q => by
  obtain ⟨j, h1, h2, rfl⟩ := in_of2 (a := 1) (b := n - 1) (by decide) (by omega) q
  rcases h with z | z | z
  · exact absurd q.1 (Int32.not_le.mpr z)
  · exact absurd z (nI_pos (by omega))
  · have := nI_ge' (by omega) (by omega) z
    omega
theorem gIs_cp {f g : Nat → Int32} {bs : List Nat} (h : gIs f bs) (hc : ∀ i, i < bs.length → g i = f i) : gIs g bs := fun i hi => by rw [hc i hi]; exact h i hi
theorem s3_oct {f : Nat} : ∀ (k : Nat) (r : Nat × List Nat), oct r.2 → oct (s3N f k r).2
  | 0, r, h => h
  | k + 1, r, h => by
    by_cases h2 : f * 524288 ≤ r.1
    · rw [s3N_s (by omega) h2, Nat.add_sub_cancel]
      exact s3_oct k _ (oct_add h (Nat.mod_lt _ (by decide)))
    · rw [s3N_e h2]; exact h
theorem e3_oct (Fn : Nat → Nat → Nat) (its : List It) : ∀ (k : Nat) (r : Nat × List Nat), oct r.2 → oct (e3N Fn its k r).2
  | 0, r, h => h
  | k + 1, r, h => by
    rw [e3N]
    exact e3_oct Fn its k _ (s3_oct 8 r h)
theorem b4_oct (X : Nat) : ∀ k, oct (b4 X k) := by
  intro k
  induction k generalizing X with
  | zero => exact oct_nil
  | succ k ih =>
    rw [b4]
    have : oct ([X % 256] ++ b4 (X / 256) k) := oct_app (oct_one (Nat.mod_lt _ (by decide))) (ih _)
    exact this
theorem e3S_oct (Fn : Nat → Nat → Nat) (its : List It) : oct (e3S Fn its) := oct_app (e3_oct Fn its _ _ oct_nil) (b4_oct _ _)
theorem mod_id {l : List Nat} (h : oct l) : l.map (· % 256) = l := by
  rw [oct_iff] at h
  induction l with
  | nil => rfl
  | cons a l ih =>
    rw [List.map_cons, ih (fun x hx => h x (List.mem_cons_of_mem _ hx)), Nat.mod_eq_of_lt (h a List.mem_cons_self)]
theorem oct_rev {l : List Nat} (h : oct l) : oct l.reverse := by
  rw [oct_iff] at h ⊢
  exact fun x hx => h x (List.mem_reverse.mp hx)
theorem e3_out (Fn : Nat → Nat → Nat) (its : List It) : ([] : List Nat) ++ (e3S Fn its).reverse.map (· % 256) = (e3S Fn its).reverse := by rw [List.nil_append, mod_id (oct_rev (e3S_oct Fn its))]
/-- tables of the first j models as a message begins -/
def pfA (fm j : Nat) (N : Nat → Nat) (vC f : Nat → Int32) : Prop := ∀ mm, mm < j → sgI f (64 * mm) (pfN fm (N mm)) (pf fm (N mm) (Fvw vC mm))
theorem pfA_0 (fm : Nat) (N : Nat → Nat) (vC f : Nat → Int32) : pfA fm 0 N vC f := fun mm h => absurd h (Nat.not_lt_zero mm)
theorem pfN_64 {fm n : Nat} (h : n ≤ 64) : pfN fm n ≤ 64 := by unfold pfN; split <;> omega
theorem pfA_st {fm j km : Nat} {N : Nat → Nat} {vC f2 f : Nat → Int32} (h : pfA fm j N vC f) (hN : ∀ i, i < km → N i ≤ 64) (hj : j < km) (ho : sgO f2 f (64 * j) 64) (hF : sgI f2 (64 * j) (pfN fm (N j)) (pf fm (N j) (Fvw vC j))) : pfA fm (j + 1) N vC f2 := by
  intro mm hm
  by_cases e : mm = j
  · subst e; exact hF
  · exact sg_keep ho (Ne.symm e) (pfN_64 (hN mm (by omega))) (h mm (by omega))
theorem MD_C {km mm : Nat} {N : Nat → Nat} {vMany vC : Nat → Int32} (h : MD km N vMany vC) (hm : mm < km) : sgI vC (64 * mm) (N mm) (Fvw vC mm) ∧ bd (Fvw vC mm) (N mm) 4095 := by
  obtain ⟨-, -, -, C, h1, h2⟩ := h.2 mm hm
  have e : ∀ k, k < N mm → Fvw vC mm k = C k := fun k hk => by
    unfold Fvw
    rw [h1 k hk]
    exact nI_clamp (by have := h2 k hk; omega)
  exact ⟨fun k hk => by rw [h1 k hk, e k hk], fun k hk => by rw [e k hk]; exact h2 k hk⟩
theorem L_eqN {a b : Nat} (ha : a < 2 ^ 31) (hb : b < 2 ^ 31) : lN a = lN b ↔ a = b := pk_lEQ (by omega) (by omega)
