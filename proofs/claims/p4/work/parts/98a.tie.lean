/-! HOW MANY BYTES a message can have: RANGE's size in bits pays for them -/
theorem lg_mono {a b : Nat} (h0 : 0 < a) (h : a ≤ b) : a.log2 ≤ b.log2 := (Nat.le_log2 (by omega)).mpr (Nat.le_trans (Nat.log2_self_le (by omega)) h)
theorem lg_256 {a : Nat} (h0 : 0 < a) : a.log2 + 8 ≤ (a * 256).log2 := by
  refine (Nat.le_log2 (by omega)).mpr ?_
  rw [Nat.pow_add]
  exact Nat.mul_le_mul_right 256 (Nat.log2_self_le (by omega))
theorem lg_div {R a : Nat} (h : 2 ^ a ≤ R) : R.log2 ≤ a + (R / 2 ^ a).log2 := by
  have hp := Nat.two_pow_pos a
  have ha : a ≤ R.log2 := (Nat.le_log2 (by omega)).mpr h
  have h1 : 2 ^ (R.log2 - a) ≤ R / 2 ^ a := by
    rw [Nat.le_div_iff_mul_le hp, ← Nat.pow_add, Nat.sub_add_cancel ha]
    exact Nat.log2_self_le (by omega)
  have h2 : R.log2 - a ≤ (R / 2 ^ a).log2 := (Nat.le_log2 (by have := Nat.two_pow_pos (R.log2 - a); omega)).mpr h1
  omega
theorem lg_31 {R : Nat} (h : R < 4294967296) (h0 : 0 < R) : R.log2 ≤ 31 := by
  rcases Nat.lt_or_ge 31 R.log2 with q | q
  · have := (Nat.le_log2 (n := R) (k := 32) (by omega)).mp q
    omega
  · exact q
/-- c bits have been paid -/
def lgI (c : Nat) (e : ES) : Prop := 8 * eN e + 23 ≤ c + (eR e).log2
theorem lg_wdN : ∀ (k : Nat) (e : ES) (c : Nat), 0 < eR e → lgI c e → lgI c (wdN k e)
  | 0, e, c, _, h => h
  | k + 1, e, c, h0, h => by
    by_cases hr : eR e < 16777216
    · rw [wdN_s (show 0 < k + 1 from Nat.succ_pos k) hr, Nat.add_sub_cancel]
      refine lg_wdN k _ c (by show 0 < eR e * 256; omega) ?_
      have a := eN_sh (eR e * 256, e.2)
      have b := lg_256 h0
      have d : eN (eR e * 256, e.2) = eN e := rfl
      unfold lgI at h ⊢
      show 8 * eN (shS (eR e * 256, e.2)) + 23 ≤ c + (eR e * 256).log2
      omega
    · rw [wdN_e hr]; exact h
theorem lg_wd {e : ES} {c : Nat} (h0 : 0 < eR e) (h : lgI c e) : lgI c (wdS e) := lg_wdN 8 e c h0 h
/-- RANGE becomes smaller, by d bits at most -/
theorem lg_lo {R L R2 L2 Pn c d : Nat} {ca : Option Nat} {bs : List Nat} (h : lgI c (R, L, ca, Pn, bs)) (hd : R.log2 ≤ d + R2.log2) : lgI (c + d) (R2, L2, ca, Pn, bs) := by
  unfold lgI at h ⊢
  show 8 * (bs.length + Pn + 1) + 23 ≤ c + d + R2.log2
  have : 8 * (bs.length + Pn + 1) + 23 ≤ c + R.log2 := h
  omega
theorem lg_nr {R L t cc f Pn c : Nat} {ca : Option Nat} {bs : List Nat} (h : lgI c (R, L, ca, Pn, bs)) (hR : 8192 ≤ R) (ht : 0 < t) (ht2 : t ≤ 8192) (hf : 0 < f) : lgI (c + 13) (wdS (R / t * f, L + R / t * cc, ca, Pn, bs)) := by
  have h1 : R / 8192 ≤ R / t := Nat.div_le_div_left ht2 ht
  have h2 : 0 < R / 8192 := Nat.div_pos hR (by decide)
  have h3 : R / t * 1 ≤ R / t * f := Nat.mul_le_mul_left _ hf
  refine lg_wd (by show 0 < R / t * f; omega) (lg_lo h ?_)
  have h4 := lg_div (R := R) (a := 13) hR
  have h5 := lg_mono (a := R / 2 ^ 13) (b := R / t * f) h2 (show R / 8192 ≤ R / t * f by omega)
  omega
theorem lg_bt {p b R L Pn c : Nat} {ca : Option Nat} {bs : List Nat} (h : lgI c (R, L, ca, Pn, bs)) (hR : 16777216 ≤ R) (hp1 : 1 ≤ p) (hp2 : p ≤ 2047) : lgI (c + 11) (wdS (btS p b R L ca Pn bs)) := by
  have h2 : 0 < R / 2048 := Nat.div_pos (by omega) (by decide)
  have h3 : R / 2048 * 1 ≤ R / 2048 * p := Nat.mul_le_mul_left _ hp1
  have h4 : R / 2048 * p ≤ R / 2048 * 2047 := Nat.mul_le_mul_left _ hp2
  have h5 := lg_div (R := R) (a := 11) (by omega)
  unfold btS
  split
  · refine lg_wd (by show 0 < R / 2048 * p; omega) (lg_lo h ?_)
    have := lg_mono (a := R / 2 ^ 11) (b := R / 2048 * p) h2 (show R / 2048 ≤ R / 2048 * p by omega)
    omega
  · refine lg_wd (by show 0 < R - R / 2048 * p; omega) (lg_lo h ?_)
    have := lg_mono (a := R / 2 ^ 11) (b := R - R / 2048 * p) h2 (show R / 2048 ≤ R - R / 2048 * p by omega)
    omega
theorem lg_vb (v : Nat) : ∀ (b : Nat) (e : ES) (c : Nat), eInv e → lgI c e → lgI (c + b) (vbN v b e)
  | 0, e, c, _, h => h
  | b + 1, e, c, hi, h => by
    obtain ⟨r, l, ca, p, bs⟩ := e
    have h1 : 16777216 ≤ r := hi.1
    have h2 := lg_div (R := r) (a := 1) (by omega)
    have z := lg_vb v b (wdS (r / 2, (if v / 2 ^ b % 2 = 1 then l + r / 2 else l), ca, p, bs)) (c + 1) (vb_inv hi (v / 2 ^ b % 2 = 1)).1 (lg_wd (by show 0 < r / 2; omega) (lg_lo h h2))
    rw [show c + (b + 1) = c + 1 + b by omega]
    exact z
theorem lg_sp (sh t : Nat) (hs : 1 ≤ sh) : ∀ (k nd : Nat) (e : ES) (C : Nat → Nat) (c : Nat), k ≤ 6 → nd < 2 ^ (7 - k) → eInv e → (∀ j, j < 64 → 1 ≤ C j ∧ C j ≤ 2047) → lgI c e → lgI (c + 11 * k) (spN sh t k nd e C).1
  | 0, nd, e, C, c, _, _, _, _, h => h
  | k + 1, nd, e, C, c, hk, hnd, hi, hC, h => by
    have hn : nd < 64 := Nat.lt_of_lt_of_le hnd (Nat.le_trans (Nat.pow_le_pow_right (by decide) (show 7 - (k + 1) ≤ 6 by omega)) (by decide))
    obtain ⟨r, l, ca, p, bs⟩ := e
    have hb2 := Nat.mod_lt (t / 2 ^ k) (show 0 < 2 by decide)
    have z := lg_sp sh t hs k (2 * nd + t / 2 ^ k % 2) (wdS (btS (C nd) (t / 2 ^ k % 2) r l ca p bs)) (upN C nd (mvC sh (t / 2 ^ k % 2) (C nd))) (c + 11) (by omega)
      (by have e7 : 7 - k = (7 - (k + 1)) + 1 := by omega
          rw [e7, Nat.pow_succ]; omega) (bt_inv (e := (r, l, ca, p, bs)) hi (hC nd hn).1 (hC nd hn).2).1 (ch_up hs hC) (lg_bt h hi.1 (hC nd hn).1 (hC nd hn).2)
    rw [show c + 11 * (k + 1) = c + 11 + 11 * k by omega]
    exact z
theorem shK_N : ∀ (k : Nat) (e : ES), eN (shK k e) ≤ eN e + k
  | 0, e => Nat.le_refl _
  | k + 1, e => by
    have a := shK_N k (shS e)
    have b := eN_sh e
    show eN (shK k (shS e)) ≤ _
    omega
theorem shK_oct : ∀ (k : Nat) (e : ES), oct (eB e) → oct (eB (shK k e))
  | 0, e, h => h
  | k + 1, e, h => shK_oct k (shS e) (oct_shB h)
theorem tpK_oct : ∀ (k : Nat) (e : Nat × List Nat), oct e.2 → oct (tpK k e).2
  | 0, e, h => h
  | k + 1, e, h => tpK_oct k _ (oct_app h (oct_one (Nat.mod_lt _ (by decide))))
theorem tpK_len : ∀ (k : Nat) (e : Nat × List Nat), (tpK k e).2.length = e.2.length + k
  | 0, e => rfl
  | k + 1, e => by
    have a := tpK_len k (mvL e.1, e.2 ++ [e.1 / 16777216 % 256])
    rw [show ((mvL e.1, e.2 ++ [e.1 / 16777216 % 256]) : Nat × List Nat).2.length = e.2.length + 1 from by rw [List.length_append, List.length_singleton]] at a
    show (tpK k _).2.length = _
    omega
theorem lg_len {R L Pn c : Nat} {ca : Option Nat} {bs : List Nat} (h : lgI c (R, L, ca, Pn, bs)) (hc : c ≤ 43200) (h0 : 0 < R) (hR : R < 4294967296) : (eB (shK 5 (R, L, ca, Pn, bs))).length ≤ 6000 := by
  have a : 8 * eN (R, L, ca, Pn, bs) + 23 ≤ c + R.log2 := h
  have b := lg_31 hR h0
  have d := shK_N 5 (R, L, ca, Pn, bs)
  have e : (eB (shK 5 (R, L, ca, Pn, bs))).length + eP (shK 5 (R, L, ca, Pn, bs)) + 1 = eN (shK 5 (R, L, ca, Pn, bs)) := rfl
  omega
/-! THE TIE of class and reference: bytes -/
/-- the message of forms 0 and 2 -/
def MT0 (fit : Int32) (xlow xrange : Int64) (xcache xpending rwn : Int32) (rwf : Nat → Int32) (fLow fRange : Int64) (fCache fPend fGoes : Int32) (vGoing : Nat → Int32) : Prop := ∃ (ki Rg L : Nat) (ca : Option Nat) (Pn : Nat) (bs : List Nat), ki ≤ 600 ∧ fit = nI ki ∧ xlow = lN L ∧ xrange = lN Rg ∧ xcache = caI ca ∧ xpending = nI Pn ∧ rwn = nI bs.length ∧ fLow = lN L ∧ fRange = lN Rg ∧ fCache = caI ca ∧ fPend = nI Pn ∧ fGoes = nI bs.length ∧ gIs rwf bs ∧ gIs vGoing bs ∧ eInv (Rg, L, ca, Pn, bs) ∧ oct bs ∧ bs.length + Pn ≤ 12 * ki ∧ lgI (72 * ki) (Rg, L, ca, Pn, bs)
theorem MT0_of {e : ES} {ki c : Nat} {f v2 : Nat → Int32} (hk : ki < 600) (he : eInv e) (ho : oct (eB e)) (hf : gIs f (eB e)) (hg : gIs v2 (eB e)) (hl : eN e ≤ 12 * ki + 13) (hc : lgI c e) (hc2 : c ≤ 72 * ki + 72) : MT0 (nI (ki + 1)) (lN (eL e)) (lN (eR e)) (caI (eC e)) (nI (eP e)) (nI (eB e).length) f (lN (eL e)) (lN (eR e)) (caI (eC e)) (nI (eP e)) (nI (eB e).length) v2 := by
  obtain ⟨r, l, ca, p, bs⟩ := e
  have h2 : bs.length + p + 1 ≤ 12 * ki + 13 := hl
  refine ⟨ki + 1, r, l, ca, p, bs, by omega, rfl, rfl, rfl, rfl, rfl, rfl, rfl, rfl, rfl, rfl, rfl, hf, hg, he, ho, by omega, ?_⟩
  unfold lgI at hc ⊢
  omega
theorem MT0_0 (f vGoing : Nat → Int32) : MT0 0 0 4294967295 (-1) 0 0 f 0 4294967295 (-1) 0 0 vGoing := ⟨0, 4294967295, 0, none, 0, [], by decide, rfl, rfl, rfl, rfl, rfl, rfl, rfl, rfl, rfl, rfl, rfl, fun i h => absurd h (Nat.not_lt_zero i), fun i h => absurd h (Nat.not_lt_zero i), ⟨by decide, by decide, by decide, fun _ h => by cases h⟩, oct_iff.mpr (fun _ z => absurd z List.not_mem_nil), by decide, by unfold lgI; decide⟩
/-- the message of form 1 -/
def MT1 (fit : Int32) (xlow xrange : Int64) (rwn : Int32) (rwf : Nat → Int32) (fLow fRange : Int64) (fGoes : Int32) (vGoing : Nat → Int32) : Prop := ∃ (ki Rg L : Nat) (bs : List Nat), ki ≤ 600 ∧ fit = nI ki ∧ xlow = lN L ∧ xrange = lN Rg ∧ rwn = nI bs.length ∧ fLow = lN L ∧ fRange = lN Rg ∧ fGoes = nI bs.length ∧ gIs rwf bs ∧ gIs vGoing bs ∧ pOk Rg L ∧ 65536 ≤ Rg ∧ oct bs ∧ bs.length ≤ 4 * ki
theorem MT1_of {e : PS} {ki : Nat} {f v2 : Nat → Int32} (hk : ki < 600) (hp : pOk e.1 e.2.1) (h6 : 65536 ≤ e.1) (ho : oct e.2.2) (hf : gIs f e.2.2) (hg : gIs v2 e.2.2) (hl : e.2.2.length ≤ 4 * ki + 4) : MT1 (nI (ki + 1)) (lN e.2.1) (lN e.1) (nI e.2.2.length) f (lN e.2.1) (lN e.1) (nI e.2.2.length) v2 := ⟨ki + 1, e.1, e.2.1, e.2.2, by omega, rfl, rfl, rfl, rfl, rfl, rfl, rfl, hf, hg, hp, h6, ho, by omega⟩
theorem MT1_0 (f vGoing : Nat → Int32) : MT1 0 0 4294967295 0 f 0 4294967295 0 vGoing := ⟨0, 4294967295, 0, [], by decide, rfl, rfl, rfl, rfl, rfl, rfl, rfl, fun i h => absurd h (Nat.not_lt_zero i), fun i h => absurd h (Nat.not_lt_zero i), ⟨by decide, by decide, by decide, fun h => absurd h (by decide)⟩, by decide, oct_iff.mpr (fun _ z => absurd z List.not_mem_nil), by decide⟩
/-- items as the class keeps them -/
def kI (ms : List MB) (sof : Nat → Option Nat) (snf swf : Nat → Int32) (i : Nat) (it : It) : Prop := (it.1 = 0 ∧ sof i = none ∧ snf i = nI it.2.2 ∧ swf i = nI it.2.1) ∨ (¬ it.1 = 0 ∧ snf i = nI it.2.2 ∧ ∃ x, ms[it.2.1]? = some x ∧ sof i = some (mS x).1)
/-- the message of forms 3 and 4 -/
def MT3 (M bm : Nat) (ms : List MB) (N : Nat → Nat) (fit xkept : Int32) (sof : Nat → Option Nat) (snf swf : Nat → Int32) (fGoes : Int32) (vIM vIW vNow : Nat → Int32) : Prop := ∃ its : List It, its.length ≤ 600 ∧ fit = nI its.length ∧ xkept = nI its.length ∧ fGoes = 0 ∧ itIs vIM vIW its ∧ (∀ i, i < its.length → itOk M bm ms.length N vNow (itA its i)) ∧ ∀ i, i < its.length → kI ms sof snf swf i (itA its i)
theorem MT3_0 (M bm : Nat) (ms : List MB) (N : Nat → Nat) (sof : Nat → Option Nat) (snf swf vIM vIW vNow : Nat → Int32) : MT3 M bm ms N 0 0 sof snf swf 0 vIM vIW vNow := ⟨[], by decide, rfl, rfl, rfl, fun i h => absurd h (Nat.not_lt_zero i), fun i h => absurd h (Nat.not_lt_zero i), fun i h => absurd h (Nat.not_lt_zero i)⟩
theorem kI_up {ms : List MB} {sof : Nat → Option Nat} {snf swf : Nat → Int32} {i k : Nat} {it : It} {a : Option Nat} {b c : Int32} (h : kI ms sof snf swf i it) (hik : i ≠ k) : kI ms (va_up sof k a) (upd snf k b) (upd swf k c) i it := by
  unfold kI at h ⊢
  rw [va_up_ne _ _ hik, pk_un hik, pk_un hik]
  exact h
theorem MT3_add {M bm : Nat} {ms : List MB} {N : Nat → Nat} {its : List It} {it : It} {sof : Nat → Option Nat} {snf swf vIM vIW vNow : Nat → Int32} {a : Option Nat} {b c p1 p2 : Int32} (hl : its.length < 600) (hi : itIs vIM vIW its) (hok : ∀ i, i < its.length → itOk M bm ms.length N vNow (itA its i)) (hkI : ∀ i, i < its.length → kI ms sof snf swf i (itA its i)) (e1 : p1 = itM it) (e2 : p2 = itW it) (ho : itOk M bm ms.length N vNow it) (hk : kI ms (va_up sof its.length a) (upd snf its.length b) (upd swf its.length c) its.length it) :
    MT3 M bm ms N (nI (its.length + 1)) (nI (its.length + 1)) (va_up sof its.length a) (upd snf its.length b) (upd swf its.length c) 0 (upd vIM its.length p1) (upd vIW its.length p2) vNow := by
  obtain ⟨its2, h1, h2, h3, h4, h5⟩ := MI3_add hl hi hok rfl rfl e1 e2 ho
  refine ⟨its ++ [it], by rw [List.length_append, List.length_singleton]; omega, by rw [List.length_append]; rfl, by rw [List.length_append]; rfl, rfl, ?_, ?_, ?_⟩
  · intro i hi9
    rw [List.length_append, List.length_singleton] at hi9
    by_cases e : i = its.length
    · subst e; rw [itA_e, pk_us, pk_us]; exact ⟨e1, e2⟩
    · rw [itA_l (by omega), pk_un e, pk_un e]; exact hi i (by omega)
  · intro i hi9
    rw [List.length_append, List.length_singleton] at hi9
    by_cases e : i = its.length
    · subst e; rw [itA_e]; exact ho
    · rw [itA_l (by omega)]; exact hok i (by omega)
  · intro i hi9
    rw [List.length_append, List.length_singleton] at hi9
    by_cases e : i = its.length
    · subst e; rw [itA_e]; exact hk
    · rw [itA_l (by omega)]; exact kI_up (hkI i (by omega)) e
/-- of all models -/
theorem mt_set {P P2 : Nat → MB → Prop} {a b : List MB} {x y : MB} (h : ∀ (i : Nat) (u : MB), (a ++ x :: b)[i]? = some u → P i u) (hk : ∀ i u, i ≠ a.length → P i u → P2 i u) (hy : P2 a.length y) : ∀ (i : Nat) (u : MB), (a ++ y :: b)[i]? = some u → P2 i u := by
  intro i u hu
  by_cases e : i = a.length
  · subst e
    rw [mb_get] at hu
    cases hu
    exact hy
  · refine hk i u e (h i u ?_)
    rcases Nat.lt_or_ge i a.length with q | q
    · rw [List.getElem?_append_left q] at hu ⊢; exact hu
    · rw [List.getElem?_append_right q] at hu ⊢
      obtain ⟨d, hd⟩ : ∃ d, i - a.length = d + 1 := ⟨i - a.length - 1, by omega⟩
      rw [hd, List.getElem?_cons_succ] at hu ⊢
      exact hu
theorem mt_push {P P2 : Nat → MB → Prop} {ms : List MB} {y : MB} (h : ∀ (i : Nat) (u : MB), ms[i]? = some u → P i u) (hk : ∀ i u, i < ms.length → P i u → P2 i u) (hy : P2 ms.length y) : ∀ (i : Nat) (u : MB), (ms ++ [y])[i]? = some u → P2 i u := by
  intro i u hu
  rcases Nat.lt_or_ge i ms.length with q | q
  · rw [List.getElem?_append_left q] at hu
    exact hk i u q (h i u hu)
  · have hl := (List.getElem?_eq_some_iff.mp hu).1
    rw [List.length_append, List.length_singleton] at hl
    have e : i = ms.length := by omega
    subst e
    rw [List.getElem?_append_right (Nat.le_refl _), Nat.sub_self] at hu
    cases hu
    exact hy
theorem mA_get {ms ms2 : List MB} {k : Nat} {x : MB} (e : ms2.map mbA = ms.map mbA) (h : ms[k]? = some x) : ∃ y, ms2[k]? = some y ∧ mbA y = mbA x := by
  have h1 : (ms.map mbA)[k]? = some (mbA x) := by rw [List.getElem?_map, h]; rfl
  rw [← e, List.getElem?_map] at h1
  cases hy : ms2[k]? with
  | none => rw [hy] at h1; cases h1
  | some y => rw [hy] at h1; exact ⟨y, rfl, Option.some.inj h1⟩
theorem kI_ms {ms ms2 : List MB} {sof : Nat → Option Nat} {snf swf : Nat → Int32} {i : Nat} {it : It} (e : ms2.map mbA = ms.map mbA) (h : kI ms sof snf swf i it) : kI ms2 sof snf swf i it := by
  rcases h with q | ⟨q1, q2, x, q3, q4⟩
  · exact Or.inl q
  · obtain ⟨y, h1, h2⟩ := mA_get e q3
    refine Or.inr ⟨q1, q2, y, h1, ?_⟩
    rw [q4]
    exact congrArg some (congrArg Prod.snd h2).symm
theorem MT3_ms {M bm : Nat} {ms ms2 : List MB} {N : Nat → Nat} {fit xkept fGoes : Int32} {sof : Nat → Option Nat} {snf swf vIM vIW vNow : Nat → Int32} (e : ms2.map mbA = ms.map mbA) (h : MT3 M bm ms N fit xkept sof snf swf fGoes vIM vIW vNow) : MT3 M bm ms2 N fit xkept sof snf swf fGoes vIM vIW vNow := by
  obtain ⟨its, h1, h2, h3, h4, h5, h6, h7⟩ := h
  have hl : ms2.length = ms.length := by have := congrArg List.length e; rwa [List.length_map, List.length_map] at this
  exact ⟨its, h1, h2, h3, h4, h5, fun i hi => by rw [hl]; exact h6 i hi, fun i hi => kI_ms e (h7 i hi)⟩
theorem MT3_any {M bm : Nat} {ms ms2 : List MB} {N N2 : Nat → Nat} {fit xkept fGoes : Int32} {sof : Nat → Option Nat} {snf swf vIM vIW vNow vNow2 : Nat → Int32} (h : MT3 M bm ms N fit xkept sof snf swf fGoes vIM vIW vNow) (hi : ¬ 0 < fit) : MT3 M bm ms2 N2 fit xkept sof snf swf fGoes vIM vIW vNow2 := by
  obtain ⟨its, h1, h2, h3, h4, h5, h6, h7⟩ := h
  have e : its.length = 0 := by
    rcases Nat.eq_zero_or_pos its.length with z | z
    · exact z
    · exact absurd (show 0 < fit by rw [h2]; exact nI_pos0 z (by omega)) hi
  exact ⟨its, h1, h2, h3, h4, h5, fun i hlt => absurd hlt (by omega), fun i hlt => absurd hlt (by omega)⟩
theorem MT3_new {M bm ns : Nat} {ms : List MB} {y : MB} {N : Nat → Nat} {fit xkept fGoes : Int32} {sof : Nat → Option Nat} {snf swf vIM vIW vNow f2 : Nat → Int32} (h : MT3 M bm ms N fit xkept sof snf swf fGoes vIM vIW vNow) (hN : ∀ i, i < ms.length → N i ≤ 64) (ho : sgO f2 vNow (64 * ms.length) 64) : MT3 M bm (ms ++ [y]) (upN N ms.length ns) fit xkept sof snf swf fGoes vIM vIW f2 := by
  obtain ⟨its, h1, h2, h3, h4, h5, h6, h7⟩ := h
  refine ⟨its, h1, h2, h3, h4, h5, fun i hlt => ?_, fun i hlt => ?_⟩
  · obtain ⟨its2, -, -, -, -, -⟩ := MI3_new (ns := ns) (f2 := f2) (⟨its, h1, h2, h4, h5, h6⟩ : MI3 M bm ms.length N fit fGoes vIM vIW vNow) hN ho
    rw [List.length_append, List.length_singleton]
    rcases h6 i hlt with q | ⟨q1, q2, q3, q4, q5, q6⟩
    · exact Or.inl q
    · generalize hit : itA its i = it at q1 q2 q3 q4 q5 q6 ⊢
      have hn := hN _ q2
      have hne : it.2.1 ≠ ms.length := by omega
      have hF : ∀ k, k < N it.2.1 → Fvw f2 it.2.1 k = Fvw vNow it.2.1 k := fun k hk => by
        unfold Fvw
        rw [ho _ (by omega)]
      refine Or.inr ⟨q1, by omega, by rw [upN_n _ hne]; exact q3, ?_, ?_, ?_⟩
      · rw [hF _ q3]; exact q4
      · rw [upN_n _ hne, ns_cg hF]; exact q5
      · rw [upN_n _ hne]
        intro k hk
        rw [ho _ (by omega), q6 k hk, hF k hk]
  · rcases h7 i hlt with q | ⟨q1, q2, x, q3, q4⟩
    · exact Or.inl q
    · refine Or.inr ⟨q1, q2, x, ?_, q4⟩
      rw [List.getElem?_append_left (List.getElem?_eq_some_iff.mp q3).1]
      exact q3
/-- what the class's items are, for its end -/
theorem kp_of {cI : ClassId} {ob : OB → Nat → (Nat → Nat) → Prop} {M bm : Nat} {ms : List MB} {N : Nat → Nat} {vNow : Nat → Int32} {sof : Nat → Option Nat} {snf swf : Nat → Int32} {its : List It} (hok : ∀ i, i < its.length → itOk M bm ms.length N vNow (itA its i)) (hkI : ∀ i, i < its.length → kI ms sof snf swf i (itA its i)) (hob : ∀ (j : Nat) (x : MB), ms[j]? = some x → ns (Fvw vNow j) (N j) = M → sgI vNow (64 * j) (N j) (Fvw vNow j) → ob (mS x) (N j) (Fvw vNow j)) : kpt cI ob M bm N (Fvw vNow) sof snf swf (mbsC cI ms) its := by
  intro i hi
  rcases hkI i hi with ⟨q1, q2, q3, q4⟩ | ⟨q1, q2, x, q3, q4⟩
  · refine Or.inl ⟨q1, q2, q3, q4, ?_⟩
    rcases hok i hi with z | z
    · exact z.2
    · exact absurd q1 z.1
  · right
    rcases hok i hi with z | z
    · exact absurd z.1 q1
    · obtain ⟨z1, z2, z3, z4, z5, z6⟩ := z
      obtain ⟨p, q, e2⟩ := List.append_of_mem (List.mem_of_getElem? q3)
      refine ⟨q1, q2, z3, z4, z5, mS x, mbH cI x ++ (obC cI (mH x) ++ (mbsC cI p ++ mbsC cI q)), q4, hob _ x q3 z5 z6, ?_⟩
      rw [e2, mb_eq]
      exact pm_5 (mbsC cI p) (mbH cI x) (obC cI (mS x)) (obC cI (mH x)) (mbsC cI q)
theorem ct_set {kf vC : Nat → Int32} {n j t k : Nat} {x : Int32} (h : ∀ k, k < n → kf k = vC (64 * j + k)) (hk : k < n) : upd kf t x k = upd vC (64 * j + t) x (64 * j + k) := by
  by_cases e : k = t
  · subst e; rw [pk_us, pk_us]
  · rw [pk_un e, pk_un (by omega)]; exact h k hk
theorem ct_out {vC : Nat → Int32} {n j t : Nat} {x : Int32} (ht : t < n) (hn : n ≤ 64) : sgO (upd vC (64 * j + t) x) vC (64 * j) 64 := fun i hi => pk_un (by omega)
theorem sg_csN (z : Int32) {n : Nat} (hn : n < 2 ^ 30) : (z < 0 ∨ nI n ≤ z) ∨ ∃ t, t < n ∧ z = nI t := by
  by_cases h1 : z < 0
  · exact Or.inl (Or.inl h1)
  · by_cases h2 : nI n ≤ z
    · exact Or.inl (Or.inr h2)
    · right
      obtain ⟨t, ht, rfl⟩ := nI_of h1
      exact ⟨t, nI_lt' ht h2, rfl⟩
theorem tk_cs (z : Int32) {n : Nat} (hn : n ≤ 6000) : (z < 0 ∨ nI n < z - 2) ∨ ∃ ll, ¬ z < 0 ∧ z - 2 ≤ nI n ∧ ll ≤ n ∧ (z = 1 → ll = n) ∧ (¬ z = 1 → (if (0 : Int32) < z - 2 then z - 2 else 0) = nI ll) := by
  by_cases h1 : z < 0
  · exact Or.inl (Or.inl h1)
  · by_cases h2 : nI n < z - 2
    · exact Or.inl (Or.inr h2)
    · right
      have h3 := Int32.not_lt.mp h2
      by_cases h4 : z = 1
      · exact ⟨n, h1, h3, Nat.le_refl _, fun _ => rfl, fun q => absurd h4 q⟩
      · by_cases h5 : (0 : Int32) < z - 2
        · obtain ⟨t, ht, e⟩ := nI_of (x := z - 2) (fun q => absurd h5 (Int32.not_lt.mpr (Int32.le_of_lt q)))
          refine ⟨t, h1, h3, ?_, fun q => absurd q h4, fun _ => by rw [if_pos h5, e]⟩
          rw [e] at h3
          exact (nI_cmp ht (by omega)).mp h3
        · exact ⟨0, h1, h3, Nat.zero_le _, fun q => absurd q h4, fun _ => by rw [if_neg h5]; rfl⟩
section SPL
variable {is : List Nat} {vIn v2 : Nat → Int32} {p1 p2 r : Int32}
theorem sp_A (hno : ¬ isN is.length p1) (h : (¬ isN is.length p1 ∧ r = -1 ∧ v2 = vIn) ∨ (isN is.length p1 ∧ ¬ (0 ≤ p2 ∧ p2 ≤ 255) ∧ r = -2 ∧ v2 = vIn) ∨ (isN is.length p1 ∧ ∃ t, t < 256 ∧ p2 = nI t ∧ r = nI (byA is p1.toNatClampNeg ^^^ t) ∧ gIs v2 (is.set p1.toNatClampNeg (byA is p1.toNatClampNeg ^^^ t)))) : r = -1 ∧ v2 = vIn := by
  rcases h with q | q | q
  · exact q.2
  · exact absurd q.1 hno
  · exact absurd q.1 hno
theorem sp_V {i7 : Nat} (hl : is.length < 2 ^ 30) (hi : i7 < is.length) (hv : p2 < 0 ∨ nI 255 < p2) (h : (¬ isN is.length (nI i7) ∧ r = -1 ∧ v2 = vIn) ∨ (isN is.length (nI i7) ∧ ¬ (0 ≤ p2 ∧ p2 ≤ 255) ∧ r = -2 ∧ v2 = vIn) ∨ (isN is.length (nI i7) ∧ ∃ t, t < 256 ∧ p2 = nI t ∧ r = nI (byA is (nI i7).toNatClampNeg ^^^ t) ∧ gIs v2 (is.set (nI i7).toNatClampNeg (byA is (nI i7).toNatClampNeg ^^^ t)))) : r = -2 ∧ v2 = vIn := by
  have hy : isN is.length (nI i7) := (isN_iff hl).mpr ⟨i7, hi, rfl⟩
  rcases h with q | q | ⟨-, t, ht, e, -⟩
  · exact absurd hy q.1
  · exact q.2.2
  · exfalso
    rcases hv with z | z
    · rw [e] at z; exact absurd z (nI_pos (by omega))
    · rw [e] at z; exact absurd (nI_le (b := 255) (by omega) (by decide)) (Int32.not_le.mpr z)
theorem sp_L {i7 t7 : Nat} (hl : is.length < 2 ^ 30) (hi : i7 < is.length) (ht7 : t7 ≤ 255) (h : (¬ isN is.length (nI i7) ∧ r = -1 ∧ v2 = vIn) ∨ (isN is.length (nI i7) ∧ ¬ (0 ≤ nI t7 ∧ nI t7 ≤ 255) ∧ r = -2 ∧ v2 = vIn) ∨ (isN is.length (nI i7) ∧ ∃ t, t < 256 ∧ nI t7 = nI t ∧ r = nI (byA is (nI i7).toNatClampNeg ^^^ t) ∧ gIs v2 (is.set (nI i7).toNatClampNeg (byA is (nI i7).toNatClampNeg ^^^ t)))) : r = nI (is.getD i7 0 ^^^ t7) ∧ gIs v2 (is.set i7 (is.getD i7 0 ^^^ t7)) := by
  have hy : isN is.length (nI i7) := (isN_iff hl).mpr ⟨i7, hi, rfl⟩
  rcases h with q | q | ⟨-, t, ht, e, h1, h2⟩
  · exact absurd hy q.1
  · exact absurd ⟨nI_pos' (by omega), nI_le (b := 255) ht7 (by decide)⟩ q.2.1
  · have e2 : t7 = t := nI_inj (by omega) (by omega) e
    subst e2
    rw [nI_clamp (by omega)] at h1 h2
    exact ⟨h1, h2⟩
end SPL
theorem ns_cg2 {F G : Nat → Nat} {n : Nat} (h : ∀ k, k < n → F k = G k) : ∀ j, j ≤ n → ns F j = ns G j := fun j hj => ns_cg (fun k hk => h k (by omega))
theorem fs_cg {F G : Nat → Nat} {n u : Nat} (h : ∀ k, k < n → F k = G k) : ∀ k s, s + k ≤ n → fs F u k s = fs G u k s
  | 0, s, _ => rfl
  | k + 1, s, hs => by
    rw [fs, fs, ns_cg2 h (s + 1) (by omega), fs_cg h k (s + 1) (by omega)]
theorem plc_cg {F G : Nat → Nat} {n : Nat} (h : ∀ k, k < n → F k = G k) (p : Nat) : plc F n p = plc G n p := fs_cg h n 0 (by omega)
theorem Fv_cg {f : Nat → Int32} {j n : Nat} {F : Nat → Nat} (h1 : sgI f (64 * j) n F) (hb : ns F n < 2 ^ 31) : ∀ k, k < n → F k = Fvw f j k := fun k hk => (Fv_eq h1 hb k hk).symm
theorem e4_ok {km : Nat} {N : Nat → Nat} {vNow : Nat → Int32} {its : List It} (hok : ∀ i, i < its.length → itOk 512 9 km N vNow (itA its i)) : ∀ (k : Nat) (r : Nat × List Nat), k ≤ its.length → 512 ≤ r.1 → r.1 < 1024 → bt2 r.2 → (e4N (Fvw vNow) N its k r).2.length ≤ r.2.length + 9 * k ∧ bt2 (e4N (Fvw vNow) N its k r).2 := by
  intro k
  induction k with
  | zero => intro r _ _ _ hb; exact ⟨by show r.2.length ≤ _; omega, hb⟩
  | succ k ih =>
    intro r hk h1 h2 hb
    obtain ⟨V, ws⟩ := r
    rw [e4N]
    have hs : 512 ≤ (e4I (Fvw vNow) N (itA its k) (V, ws)).1 ∧ (e4I (Fvw vNow) N (itA its k) (V, ws)).1 < 1024 ∧ (e4I (Fvw vNow) N (itA its k) (V, ws)).2.length ≤ ws.length + 9 ∧ bt2 (e4I (Fvw vNow) N (itA its k) (V, ws)).2 := by
      unfold e4I
      rcases hok k (by omega) with ⟨q1, q2, q3, q4⟩ | ⟨q1, q2, q3, q4, q5, q6⟩
      · rw [if_pos q1]
        exact ⟨h1, h2, by show (ws ++ bvL _ _).length ≤ _; rw [List.length_append, bvL_len]; omega, bt2_app hb (bt2_bv _ _)⟩
      · rw [if_neg q1]
        exact t4I_ok q5 q3 q4 h1 h2 hb
    have z := ih _ (by omega) hs.1 hs.2.1 hs.2.2.2
    refine ⟨?_, z.2⟩
    have a := z.1
    have b := hs.2.2.1
    show _ ≤ ws.length + 9 * (k + 1)
    omega
theorem e4W_len {km : Nat} {N : Nat → Nat} {vNow : Nat → Int32} {its : List It} (hok : ∀ i, i < its.length → itOk 512 9 km N vNow (itA its i)) : (e4W (Fvw vNow) N its).length ≤ 9 * its.length + 9 := by
  have z := (e4_ok hok its.length (512, []) (Nat.le_refl _) (by decide) (by decide) (fun x h => absurd h List.not_mem_nil)).1
  unfold e4W
  rw [List.length_append, bvL_len]
  have : ((512, []) : Nat × List Nat).2.length = 0 := rfl
  omega
theorem e4W_bt {km : Nat} {N : Nat → Nat} {vNow : Nat → Int32} {its : List It} (hok : ∀ i, i < its.length → itOk 512 9 km N vNow (itA its i)) : bt2 (e4W (Fvw vNow) N its) := bt2_app (e4_ok hok its.length (512, []) (Nat.le_refl _) (by decide) (by decide) (fun x h => absurd h List.not_mem_nil)).2 (bt2_bv _ _)
theorem pkB_oct {ws : List Nat} (h : bt2 ws) : ∀ k, oct (pkB ws k)
  | 0 => oct_nil
  | k + 1 => oct_app (pkB_oct h k) (oct_one (Nat.lt_of_lt_of_le (byW_lt h _ 8) (by decide)))
theorem les_cg {n : Nat} : ∀ (r : Nat) {F G : Nat → Nat}, (∀ k, k < n → F k = G k) → ∀ k, k < n → lesN n r F k = lesN n r G k
  | 0, F, G, h, k, hk => h k hk
  | r + 1, F, G, h, k, hk => by
    rw [lesN, lesN, ns_cg h]
    split
    · exact h k hk
    · exact les_cg r (fun q hq => by unfold hv; rw [h q hq]) k hk
theorem gr_cg {F G : Nat → Nat} {n : Nat} (h : ∀ k, k < n → F k = G k) : ∀ j, j ≤ n → gr F j = gr G j
  | 0, _ => rfl
  | j + 1, hj => by
    have e := gr_cg h j (by omega)
    have hl : gr G j < n := by
      rcases Nat.eq_zero_or_pos j with z | z
      · subst z; show 0 < n; omega
      · have := gr_lt G z; omega
    rw [gr, gr, e, h _ hl, h j (by omega)]
theorem up_cg {F G : Nat → Nat} {n a b v w : Nat} (h : ∀ k, k < n → F k = G k) (ha : a = b) (hv : v = w) : ∀ k, k < n → upN F a v k = upN G b w k := by
  subst ha; subst hv
  intro k hk
  by_cases e : k = a
  · subst e; rw [upN_s, upN_s]
  · rw [upN_n _ e, upN_n _ e]; exact h k hk
theorem dec_cg {n : Nat} (hn : 0 < n) : ∀ (e : Nat) {F G : Nat → Nat}, (∀ k, k < n → F k = G k) → ∀ k, k < n → dec n e F k = dec n e G k
  | 0, F, G, h, k, hk => h k hk
  | e + 1, F, G, h, k, hk => by
    have g := gr_cg h n (Nat.le_refl _)
    rw [dec, dec]
    exact dec_cg hn e (up_cg h g (by rw [g, h _ (gr_lt G hn)])) k hk
theorem sc_cg {n M : Nat} (hn : 0 < n) {F G : Nat → Nat} (h : ∀ k, k < n → F k = G k) : ∀ k, k < n → sc n M F k = sc n M G k := by
  intro k hk
  have hs : ns F n = ns G n := ns_cg h
  have hG : ∀ k, k < n → scG n M F k = scG n M G k := fun k hk => by unfold scG; rw [h k hk, hs]
  have hS : ns (scG n M F) n = ns (scG n M G) n := ns_cg hG
  unfold sc
  rw [hs]
  split
  · exact h k hk
  · rw [hS]
    have hd := dec_cg hn (ns (scG n M G) n - M) hG
    generalize dec n (ns (scG n M G) n - M) (scG n M F) = A at hd ⊢
    generalize dec n (ns (scG n M G) n - M) (scG n M G) = B at hd ⊢
    have g := gr_cg hd n (Nat.le_refl _)
    have s2 : ns A n = ns B n := ns_cg hd
    unfold scE
    exact up_cg hd g (by rw [g, hd _ (gr_lt B hn), s2]) k hk
theorem pf_cg {fm n : Nat} {F G : Nat → Nat} (hn : 0 < n) (h : ∀ k, k < n → F k = G k) : ∀ k, k < pfN fm n → pf fm n F k = pf fm n G k := by
  intro k hk
  unfold pf
  unfold pfN at hk
  split
  · rfl
  · rename_i h2
    rw [if_neg h2] at hk
    split
    · exact les_cg 32 h k hk
    · exact sc_cg hn h k hk
theorem mt_setJ {P P2 : Nat → MB → Prop} {a b : List MB} {x y : MB} {j : Nat} (hla : a.length = j) (h : ∀ (i : Nat) (u : MB), (a ++ x :: b)[i]? = some u → P i u) (hk : ∀ i u, i ≠ j → P i u → P2 i u) (hy : P2 j y) : ∀ (i : Nat) (u : MB), (a ++ y :: b)[i]? = some u → P2 i u := by
  subst hla
  exact mt_set h hk hy

