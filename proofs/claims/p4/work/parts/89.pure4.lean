/-! PLACES: how many a sign has -/
theorem cn_cP (P : Nat → Nat) (x : Nat) : ∀ q, cn P x q = (List.range q).countP (fun p => P p = x)
  | 0 => rfl
  | q + 1 => by
    rw [List.range_succ, List.countP_append, ← cn_cP P x q]
    show (if P q = x then cn P x q + 1 else cn P x q) = cn P x q + List.countP (fun p => decide (P p = x)) [q]
    by_cases h : P q = x <;> simp [h]
theorem stp_perm : ((List.range 512).map stp).Perm (List.range 512) := by decide +kernel
theorem iv_cP (a b : Nat) : ∀ m, (List.range m).countP (fun j => a ≤ j ∧ j < b) = min m b - min m a
  | 0 => by simp
  | m + 1 => by
    rw [List.range_succ, List.countP_append, iv_cP a b m]
    by_cases h : a ≤ m ∧ m < b
    · simp [h]; omega
    · simp [h]; omega
theorem cn_all {F : Nat → Nat} {n x : Nat} (hs : ns F n = 512) (hx : x < n) : cn (plc F n) x 512 = F x := by
  rw [cn_cP]
  have e1 : (List.range 512).countP (fun p => decide (plc F n p = x)) = ((List.range 512).map stp).countP (fun j => decide (sgA F n j = x)) := by
    rw [List.countP_map]
    rfl
  rw [e1, stp_perm.countP_eq]
  have e2 : (List.range 512).countP (fun j => decide (sgA F n j = x)) = (List.range 512).countP (fun j => decide (ns F x ≤ j ∧ j < ns F x + F x)) := by
    refine List.countP_congr (fun j hj => ?_)
    have hj5 : j < 512 := List.mem_range.mp hj
    simp only [decide_eq_true_eq]
    constructor
    · intro h
      obtain ⟨b1, b2, b3⟩ := sgA_spec (F := F) (n := n) (u := j) (by omega)
      rw [h] at b2 b3
      exact ⟨b2, b3⟩
    · intro h
      exact sgA_eq hx h.1 h.2
  have h3 := iv_cP (ns F x) (ns F x + F x) 512
  rw [e2, h3]
  have := ns_m1 F hx
  omega
theorem cn_mono (P : Nat → Nat) (x : Nat) {a b : Nat} (h : a ≤ b) : cn P x a ≤ cn P x b := by
  induction b with
  | zero => have : a = 0 := by omega
            subst this; exact Nat.le_refl _
  | succ b ih =>
    rcases Nat.eq_or_lt_of_le h with e | e
    · subst e; exact Nat.le_refl _
    · have := ih (by omega)
      show _ ≤ (if P b = x then cn P x b + 1 else cn P x b)
      split <;> omega
theorem cn_find (P : Nat → Nat) (x : Nat) {d : Nat} : ∀ q, d < cn P x q → ∃ p, p < q ∧ P p = x ∧ cn P x p = d
  | 0, h => absurd h (Nat.not_lt_zero d)
  | q + 1, h => by
    have h' : d < (if P q = x then cn P x q + 1 else cn P x q) := h
    by_cases hd : d < cn P x q
    · obtain ⟨p, h1, h2, h3⟩ := cn_find P x q hd
      exact ⟨p, by omega, h2, h3⟩
    · split at h'
      · exact ⟨q, Nat.lt_succ_self q, by assumption, by omega⟩
      · exact absurd h' hd
theorem num_lt {F : Nat → Nat} {n p : Nat} (hs : ns F n = 512) (hp : p < 512) : num F n p < F (plc F n p) := by
  have h1 := cn_all hs (plc_lt (p := p) hs)
  have h2 := cn_mono (plc F n) (plc F n p) (a := p + 1) (b := 512) hp
  have h3 : cn (plc F n) (plc F n p) (p + 1) = cn (plc F n) (plc F n p) p + 1 := by
    show (if plc F n p = plc F n p then _ else _) = _
    rw [if_pos rfl]
  show cn (plc F n) (plc F n p) p < _
  omega
theorem pl_find {F : Nat → Nat} {n x d : Nat} (hs : ns F n = 512) (hx : x < n) (hd : d < F x) : ∃ p, p < 512 ∧ plc F n p = x ∧ num F n p = d := by
  obtain ⟨p, h1, h2, h3⟩ := cn_find (plc F n) x 512 (d := d) (by rw [cn_all hs hx]; exact hd)
  exact ⟨p, h1, h2, by show cn (plc F n) (plc F n p) p = d; rw [h2]; exact h3⟩
theorem tb_main {is : List Nat} : ∀ (c k : Nat) (r : Nat × Nat), c ≤ 9 → c < k → 2 ^ (9 - c) ≤ r.1 → r.1 < 1024 → 512 ≤ (tbN is k r).1 ∧ (tbN is k r).1 < 1024 ∧ (tbN is k r).2 ≤ r.2 + c := by
  intro c
  induction c with
  | zero =>
    intro k r _ hk h1 h2
    have h1 : 512 ≤ r.1 := h1
    rw [tbN_e (by omega)]
    exact ⟨h1, h2, Nat.le_refl _⟩
  | succ c ih =>
    intro k r hc hk h1 h2
    by_cases hr : r.1 < 512
    · rw [tbN_s (by omega) hr]
      have hb := biA_lt is r.2
      have hp : 2 ^ (9 - c) ≤ 2 * r.1 + biA is r.2 := by
        have e : 9 - c = (9 - (c + 1)) + 1 := by omega
        rw [e, Nat.pow_succ]
        omega
      obtain ⟨a, b, d⟩ := ih (k - 1) (2 * r.1 + biA is r.2, r.2 + 1) (by omega) (by omega) hp (show 2 * r.1 + biA is r.2 < 1024 by omega)
      have d' : (tbN is (k - 1) (2 * r.1 + biA is r.2, r.2 + 1)).2 ≤ r.2 + 1 + c := d
      exact ⟨a, b, by omega⟩
    · rw [tbN_e hr]
      exact ⟨by omega, h2, by omega⟩
theorem gt4_ok {is : List Nat} {n X t : Nat} {F : Nat → Nat} (hs : ns F n = 0 ∨ ns F n = 512) (h1 : 512 ≤ X) (h2 : X < 1024) : 512 ≤ (gt4 is n F X t).2.1 ∧ (gt4 is n F X t).2.1 < 1024 ∧ (gt4 is n F X t).2.2 ≤ t + 9 := by
  unfold gt4
  split
  · exact ⟨h1, h2, by show t ≤ _; omega⟩
  · have hs' : ns F n = 512 := by omega
    have hn := num_lt (p := X - 512) hs' (by omega)
    have hp := ns_m1 F (plc_lt (p := X - 512) hs')
    have a1 : 2 ^ (9 - 9) ≤ F (plc F n (X - 512)) + num F n (X - 512) := by rw [Nat.sub_self, Nat.pow_zero]; omega
    have a2 : F (plc F n (X - 512)) + num F n (X - 512) < 1024 := by omega
    generalize F (plc F n (X - 512)) + num F n (X - 512) = z at a1 a2 ⊢
    have h := tb_main (is := is) 9 10 (z, t) (by decide) (by decide) a1 a2
    exact ⟨h.1, h.2.1, h.2.2⟩
theorem gt4_F {n X : Nat} {F : Nat → Nat} (h2 : X < 1024) : ns F n = 512 → 0 < F (plc F n (X - 512)) := fun hs => by
  have hn := num_lt (p := X - 512) hs (by omega)
  omega
/-! items of the forms 3 and 4 -/
def Fvw (f : Nat → Int32) : Nat → Nat → Nat := fun mm k => (f (64 * mm + k)).toNatClampNeg
theorem ns_cg {F G : Nat → Nat} : ∀ {n : Nat}, (∀ k, k < n → F k = G k) → ns F n = ns G n
  | 0, _ => rfl
  | n + 1, h => by
    show ns F n + F n = ns G n + G n
    rw [ns_cg (n := n) (fun k hk => h k (by omega)), h n (Nat.lt_succ_self n)]
theorem Fv_eq {f : Nat → Int32} {mm n : Nat} {F : Nat → Nat} (h : sgI f (64 * mm) n F) (hb : ns F n < 2 ^ 31) : ∀ k, k < n → Fvw f mm k = F k := by
  intro k hk
  unfold Fvw
  rw [h k hk]
  exact nI_clamp (Nat.lt_of_le_of_lt (ns_ge hk) hb)
theorem Fv_sg {f : Nat → Int32} {mm n : Nat} {F : Nat → Nat} (h : sgI f (64 * mm) n F) (hb : ns F n < 2 ^ 31) : sgI f (64 * mm) n (Fvw f mm) ∧ ns (Fvw f mm) n = ns F n :=
  ⟨sgI_c h (fun k hk => (Fv_eq h hb k hk).symm), ns_cg (Fv_eq h hb)⟩
def itOk (M bm km : Nat) (N : Nat → Nat) (vNow : Nat → Int32) (it : It) : Prop := (it.1 = 0 ∧ 1 ≤ it.2.1 ∧ it.2.1 ≤ bm ∧ it.2.2 < 2 ^ it.2.1) ∨ (¬ it.1 = 0 ∧ it.2.1 < km ∧ it.2.2 < N it.2.1 ∧ 0 < Fvw vNow it.2.1 it.2.2 ∧ ns (Fvw vNow it.2.1) (N it.2.1) = M ∧ sgI vNow (64 * it.2.1) (N it.2.1) (Fvw vNow it.2.1))
def MI3 (M bm km : Nat) (N : Nat → Nat) (fItems fGoes : Int32) (vIM vIW vNow : Nat → Int32) : Prop := ∃ its : List It, its.length ≤ 600 ∧ fItems = nI its.length ∧ fGoes = 0 ∧ itIs vIM vIW its ∧ ∀ i, i < its.length → itOk M bm km N vNow (itA its i)
theorem itA_l {its : List It} {it : It} {i : Nat} (h : i < its.length) : itA (its ++ [it]) i = itA its i := by
  show (its ++ [it]).getD i (0, 0, 0) = its.getD i (0, 0, 0)
  rw [List.getD_eq_getElem?_getD, List.getD_eq_getElem?_getD, List.getElem?_append_left h]
theorem itA_e {its : List It} {it : It} : itA (its ++ [it]) its.length = it := by
  show (its ++ [it]).getD its.length (0, 0, 0) = it
  rw [List.getD_eq_getElem?_getD, List.getElem?_append_right (Nat.le_refl _), Nat.sub_self]
  rfl
theorem MI3_add {M bm km : Nat} {N : Nat → Nat} {vIM vIW vNow f2 v2 : Nat → Int32} {its : List It} {it : It} {p1 p2 : Int32} (hl : its.length < 600) (hi : itIs vIM vIW its) (hok : ∀ i, i < its.length → itOk M bm km N vNow (itA its i)) (h1 : f2 = upd vIM its.length p1) (h2 : v2 = upd vIW its.length p2) (e1 : p1 = itM it) (e2 : p2 = itW it) (ho : itOk M bm km N vNow it) : MI3 M bm km N (nI (its.length + 1)) 0 f2 v2 vNow := by
  refine ⟨its ++ [it], by rw [List.length_append, List.length_singleton]; omega, by rw [List.length_append, List.length_singleton], rfl, fun i hi2 => ?_, fun i hi2 => ?_⟩
  · rw [List.length_append, List.length_singleton] at hi2
    subst h1 h2 e1 e2
    by_cases e : i = its.length
    · subst e
      rw [itA_e, pk_us, pk_us]
      exact ⟨rfl, rfl⟩
    · rw [itA_l (by omega), pk_un e, pk_un e]
      exact hi i (by omega)
  · rw [List.length_append, List.length_singleton] at hi2
    by_cases e : i = its.length
    · subst e; rw [itA_e]; exact ho
    · rw [itA_l (by omega)]; exact hok i (by omega)
theorem it_sign {M bm km jj tt : Nat} {N : Nat → Nat} {vNow : Nat → Int32} {F : Nat → Nat} (hM : M ≤ 4096) (hj : jj < km) (ht : tt < N jj) (hF : sgI vNow (64 * jj) (N jj) F) (hs : ns F (N jj) = 0 ∨ ns F (N jj) = M) (hp : 0 < F tt) : itOk M bm km N vNow (1, jj, tt) := by
  have h0 := ns_ge (F := F) ht
  have hsM : ns F (N jj) = M := by omega
  obtain ⟨a, b⟩ := Fv_sg hF (by omega)
  refine Or.inr ⟨(show ¬ (1 : Nat) = 0 by decide), hj, ht, ?_, by rw [← hsM]; exact b, a⟩
  show 0 < Fvw vNow jj tt
  rw [Fv_eq hF (by omega) tt ht]
  exact hp
theorem it_val {M bm km b v : Nat} {N : Nat → Nat} {vNow : Nat → Int32} (h1 : 1 ≤ b) (h2 : b ≤ bm) (h3 : v < 2 ^ b) : itOk M bm km N vNow (0, b, v) := Or.inl ⟨rfl, h1, h2, h3⟩

