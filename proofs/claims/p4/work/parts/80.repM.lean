/-! THE REFERENCE's state: what holds between calls -/
theorem les_main {n : Nat} (hn : n ≤ 64) : ∀ (r : Nat) (F : Nat → Nat), 27 ≤ r → r ≤ 32 → bd F n (lb r) → ns (lesN n r F) n ≤ 8192 := by
  intro r
  induction r with
  | zero => intro F h1; omega
  | succ r ih =>
    intro F h1 h2 hb
    by_cases h : ns F n ≤ 8192
    · rw [lesN_e h]; exact h
    · rw [lesN_s (show 0 < r + 1 from Nat.succ_pos r) h, Nat.add_sub_cancel]
      by_cases hr : 27 < r + 1
      · exact ih (hv F) (by omega) (by omega) (fun k hk => by have := lb_st (r := r + 1) (x := F k) hr h2 (hb k hk); rwa [Nat.add_sub_cancel] at this)
      · exfalso
        have e : r + 1 = 27 := by omega
        rw [e] at hb
        exact h (ns_le64 hn hb)
theorem les_ok {n : Nat} {F : Nat → Nat} (hn : n ≤ 64) (h : bd F n 4095) : ns (les n F) n ≤ 8192 := les_main hn 32 F (by decide) (by decide) h
theorem hv_ns {F : Nat → Nat} : ∀ n : Nat, 2 * ns (hv F) n ≤ ns F n + n
  | 0 => Nat.le_refl _
  | n + 1 => by
    have := hv_ns (F := F) n
    show 2 * (ns (hv F) n + (F n + 1) / 2) ≤ ns F n + F n + (n + 1)
    omega
theorem lrn_ok {n t : Nat} {F : Nat → Nat} (hn : n ≤ 64) (ht : t < n) (h : ns F n ≤ 8192) : ns (lrn n t F) n ≤ 8192 := by
  unfold lrn
  split
  · assumption
  · have h1 := hv_ns (F := upN F t (F t + 32)) n
    have h2 := ns_up (F := F) (v := F t + 32) ht
    omega
theorem dec_sum {n : Nat} (hn : 0 < n) : ∀ (k : Nat) (G : Nat → Nat), k ≤ ns G n → ns (dec n k G) n = ns G n - k
  | 0, G, _ => rfl
  | k + 1, G, h => by
    show ns (dec n k (upN G (gr G n) (G (gr G n) - 1))) n = _
    have h1 := dec_ns (G := G) hn (by omega)
    rw [dec_sum hn k _ (by omega), h1]
    omega
theorem sc_ok {n M : Nat} {F : Nat → Nat} (hn : 0 < n) : ns (sc n M F) n = 0 ∨ ns (sc n M F) n = M := by
  unfold sc
  split
  · left; assumption
  · right
    unfold scE
    generalize hG : dec n (ns (scG n M F) n - M) (scG n M F) = G
    have h1 : ns G n ≤ M := by
      rw [← hG, dec_sum hn _ _ (Nat.sub_le _ _)]
      omega
    have h2 := ns_up (F := G) (v := G (gr G n) + (M - ns G n)) (gr_lt G hn)
    omega
/-- the F of model mm, as the form wants them -/
def tabI (fm n : Nat) (f : Nat → Int32) (mm : Nat) (F : Nat → Nat) : Prop :=
  (fm < 2 ∧ sgI f (64 * mm) n F ∧ ns F n ≤ 8192) ∨ (fm = 2 ∧ sgI f (64 * mm) 64 F ∧ ∀ k, k < 64 → 1 ≤ F k ∧ F k ≤ 2047) ∨ (fm = 3 ∧ sgI f (64 * mm) n F ∧ (ns F n = 0 ∨ ns F n = 4096)) ∨ (fm = 4 ∧ sgI f (64 * mm) n F ∧ (ns F n = 0 ∨ ns F n = 512))
def TB (fm km : Nat) (N : Nat → Nat) (f : Nat → Int32) : Prop := ∀ mm, mm < km → ∃ F, tabI fm (N mm) f mm F
/-- the models -/
def MD (km : Nat) (N : Nat → Nat) (vMany vCounts : Nat → Int32) : Prop := km ≤ 8 ∧ ∀ mm, mm < km → vMany mm = nI (N mm) ∧ 2 ≤ N mm ∧ N mm ≤ 64 ∧ ∃ C, sgI vCounts (64 * mm) (N mm) C ∧ bd C (N mm) 4095
theorem tab_pf {fm n mm : Nat} {f : Nat → Int32} {C : Nat → Nat} (hfm : fm ≤ 4) (hn2 : n ≤ 64) (hn1 : 0 < n) (hB : bd C n 4095) (h : sgI f (64 * mm) (pfN fm n) (pf fm n C)) : tabI fm n f mm (pf fm n C) := by
  unfold tabI
  rcases (show fm = 0 ∨ fm = 1 ∨ fm = 2 ∨ fm = 3 ∨ fm = 4 by omega) with e | e | e | e | e <;> subst e
  · exact Or.inl ⟨by decide, h, les_ok hn2 hB⟩
  · exact Or.inl ⟨by decide, h, les_ok hn2 hB⟩
  · exact Or.inr (Or.inl ⟨rfl, h, fun k _ => by show 1 ≤ 1024 ∧ 1024 ≤ 2047; decide⟩)
  · exact Or.inr (Or.inr (Or.inl ⟨rfl, h, sc_ok hn1⟩))
  · exact Or.inr (Or.inr (Or.inr ⟨rfl, h, sc_ok hn1⟩))
theorem sg_keep {f2 f : Nat → Int32} {a b n : Nat} {F : Nat → Nat} (ho : sgO f2 f (64 * a) 64) (hab : a ≠ b) (hn : n ≤ 64) (h : sgI f (64 * b) n F) : sgI f2 (64 * b) n F := by
  intro k hk
  rw [ho (64 * b + k) (by omega)]
  exact h k hk
theorem tab_keep {fm n : Nat} {f2 f : Nat → Int32} {a b : Nat} {F : Nat → Nat} (ho : sgO f2 f (64 * a) 64) (hab : a ≠ b) (hn : n ≤ 64) (h : tabI fm n f b F) : tabI fm n f2 b F := by
  unfold tabI at h ⊢
  rcases h with ⟨h1, h2, h3⟩ | ⟨h1, h2, h3⟩ | ⟨h1, h2, h3⟩ | ⟨h1, h2, h3⟩
  · exact Or.inl ⟨h1, sg_keep ho hab hn h2, h3⟩
  · exact Or.inr (Or.inl ⟨h1, sg_keep ho hab (Nat.le_refl _) h2, h3⟩)
  · exact Or.inr (Or.inr (Or.inl ⟨h1, sg_keep ho hab hn h2, h3⟩))
  · exact Or.inr (Or.inr (Or.inr ⟨h1, sg_keep ho hab hn h2, h3⟩))
/-- one model's table is made anew -/
theorem TB_set {fm km mm : Nat} {N : Nat → Nat} {f2 f : Nat → Int32} (h : TB fm km N f) (hN : ∀ i, i < km → N i ≤ 64) (ho : sgO f2 f (64 * mm) 64) {F : Nat → Nat} (hF : tabI fm (N mm) f2 mm F) : TB fm km N f2 := by
  intro i hi
  by_cases e : mm = i
  · subst e; exact ⟨F, hF⟩
  · obtain ⟨G, hG⟩ := h i hi
    exact ⟨G, tab_keep ho e (hN i hi) hG⟩
theorem TB_0 (fm : Nat) (N : Nat → Nat) (f : Nat → Int32) : TB fm 0 N f := fun i hi => absurd hi (Nat.not_lt_zero i)
theorem MD_N {km : Nat} {N : Nat → Nat} {vMany vCounts : Nat → Int32} (h : MD km N vMany vCounts) : ∀ i, i < km → N i ≤ 64 := fun i hi => (h.2 i hi).2.2.1
/-- bytes -/
theorem oct_iff {bs : List Nat} : oct bs ↔ ∀ x ∈ bs, x < 256 := by
  constructor
  · intro h x hx
    obtain ⟨i, hi, e⟩ := List.mem_iff_getElem.mp hx
    have this : bs.getD i 0 < 256 := h i
    rw [List.getD_eq_getElem?_getD, List.getElem?_eq_getElem hi, e] at this
    exact this
  · intro h i
    show bs.getD i 0 < 256
    rw [List.getD_eq_getElem?_getD]
    rcases Nat.lt_or_ge i bs.length with q | q
    · rw [List.getElem?_eq_getElem q]
      exact h _ (List.getElem_mem q)
    · rw [List.getElem?_eq_none q]; decide
theorem oct_app {a b : List Nat} (ha : oct a) (hb : oct b) : oct (a ++ b) := by
  rw [oct_iff] at ha hb ⊢
  intro x hx
  rcases List.mem_append.mp hx with h | h
  · exact ha x h
  · exact hb x h
theorem oct_caB (c : Option Nat) (k : Nat) : oct (caB c k) := by
  rw [oct_iff]
  cases c with
  | none => intro x hx; exact absurd hx List.not_mem_nil
  | some v =>
    intro x hx
    have : x = (v + k) % 256 := by simpa [caB] using hx
    rw [this]; exact Nat.mod_lt _ (by decide)
theorem oct_shB {L : Nat} {ca : Option Nat} {P : Nat} {bs : List Nat} (h : oct bs) : oct (shB L ca P bs) := by
  unfold shB
  split
  · refine oct_app (oct_app h (oct_caB _ _)) ?_
    rw [oct_iff]
    intro x hx
    rw [(List.mem_replicate.mp hx).2]
    exact Nat.mod_lt _ (by decide)
  · exact h
theorem oct_wdN : ∀ (k : Nat) (e : ES), oct (eB e) → oct (eB (wdN k e))
  | 0, e, h => h
  | k + 1, e, h => by
    by_cases hr : eR e < 16777216
    · rw [wdN_s (show 0 < k + 1 from Nat.succ_pos k) hr, Nat.add_sub_cancel]
      exact oct_wdN k _ (oct_shB h)
    · rw [wdN_e hr]; exact h
theorem oct_wd {e : ES} (h : oct (eB e)) : oct (eB (wdS e)) := oct_wdN 8 e h
theorem oct_bt {p bt Rg L : Nat} {ca : Option Nat} {Pn : Nat} {bs : List Nat} (h : oct bs) : oct (eB (wdS (btS p bt Rg L ca Pn bs))) := by
  refine oct_wd ?_
  unfold btS
  split <;> exact h
theorem oct_plN : ∀ (k : Nat) (e : PS), oct e.2.2 → oct (plN k e).2.2
  | 0, e, h => h
  | k + 1, e, h => by
    by_cases hr : mvP e.2.1 e.1
    · rw [plN_s (show 0 < k + 1 from Nat.succ_pos k) hr, Nat.add_sub_cancel]
      refine oct_plN k _ (oct_app h ?_)
      rw [oct_iff]
      intro x hx
      rw [List.mem_singleton.mp hx]
      exact Nat.mod_lt _ (by decide)
    · rw [plN_e hr]; exact h
theorem oct_pl {e : PS} (h : oct e.2.2) : oct (plS e).2.2 := oct_plN 8 e h
theorem md_of {km : Nat} {p1 : Int32} (hk : km ≤ 8) (h : 0 ≤ p1 ∧ p1 ≤ nI km - 1) : ∃ jj, jj < km ∧ p1 = nI jj := (isN_iff (by omega)).mp h
theorem in_of2 {a b : Nat} {p : Int32} (ha : a < 2 ^ 31) (hb : b < 2 ^ 31) (h : nI a ≤ p ∧ p ≤ nI b) : ∃ n, a ≤ n ∧ n ≤ b ∧ p = nI n := by
  obtain ⟨h1, h2⟩ := h
  rw [Int32.le_iff_toInt_le, nI_toInt ha] at h1
  rw [Int32.le_iff_toInt_le, nI_toInt hb] at h2
  refine ⟨p.toInt.toNat, by omega, by omega, ?_⟩
  apply Int32.toInt_inj.mp
  rw [nI_toInt (by omega)]
  omega
theorem MD_set {km jj tt c : Nat} {N : Nat → Nat} {vMany vC : Nat → Int32} {i : Nat} {x : Int32} (h : MD km N vMany vC) (hj : jj < km) (ht : tt < N jj) (hc : c ≤ 4095) (hi : i = 64 * jj + tt) (hx : x = nI c) : MD km N vMany (upd vC i x) := by
  refine ⟨h.1, fun mm hm => ?_⟩
  obtain ⟨h1, h2, h3, C, h4, h5⟩ := h.2 mm hm
  refine ⟨h1, h2, h3, ?_⟩
  by_cases e : mm = jj
  · subst e
    obtain ⟨a, -⟩ := sg_up (v := c) h4 ht hi hx
    refine ⟨_, a, fun k hk => ?_⟩
    by_cases e2 : k = tt
    · subst e2; rw [upN_s]; exact hc
    · rw [upN_n _ e2]; exact h5 k hk
  · refine ⟨C, fun k hk => ?_, h5⟩
    rw [pk_un (by have := (h.2 jj hj).2.2.1; omega)]
    exact h4 k hk
theorem MD_new {km ns : Nat} {N : Nat → Nat} {vMany vC vC2 : Nat → Int32} {C : Nat → Nat} (h : MD km N vMany vC) (hk : km < 8) (h2 : 2 ≤ ns) (h64 : ns ≤ 64) (ho : sgO vC2 vC (64 * km) 64) (hC : sgI vC2 (64 * km) ns C) (hB : bd C ns 4095) : MD (km + 1) (upN N km ns) (upd vMany km (nI ns)) vC2 := by
  refine ⟨hk, fun mm hm => ?_⟩
  by_cases e : mm = km
  · subst e
    rw [pk_us, upN_s]
    exact ⟨rfl, h2, h64, C, hC, hB⟩
  · rw [pk_un e, upN_n _ e]
    obtain ⟨a1, a2, a3, D, a4, a5⟩ := h.2 mm (by omega)
    exact ⟨a1, a2, a3, D, sg_keep ho (Ne.symm e) a3 a4, a5⟩
theorem TB_new {fm km ns : Nat} {N : Nat → Nat} {f2 f : Nat → Int32} (h : TB fm km N f) (hN : ∀ i, i < km → N i ≤ 64) (ho : sgO f2 f (64 * km) 64) {F : Nat → Nat} (hF : tabI fm ns f2 km F) : TB fm (km + 1) (upN N km ns) f2 := by
  intro i hi
  by_cases e : i = km
  · subst e; rw [upN_s]; exact ⟨F, hF⟩
  · rw [upN_n _ e]
    obtain ⟨G, hG⟩ := h i (by omega)
    exact ⟨G, tab_keep ho (Ne.symm e) (hN i (by omega)) hG⟩
theorem TB_step {fm km j : Nat} {N : Nat → Nat} {f2 f : Nat → Int32} (h : TB fm j N f) (hN : ∀ i, i < km → N i ≤ 64) (hj : j < km) (ho : sgO f2 f (64 * j) 64) {F : Nat → Nat} (hF : tabI fm (N j) f2 j F) : TB fm (j + 1) N f2 := by
  intro i hi
  by_cases e : i = j
  · subst e; exact ⟨F, hF⟩
  · obtain ⟨G, hG⟩ := h i (by omega)
    exact ⟨G, tab_keep ho (Ne.symm e) (hN i (by omega)) hG⟩
def IN (fIns : Int32) (vIn : Nat → Int32) : Prop := ∃ is : List Nat, fIns = nI is.length ∧ gIs vIn is ∧ is.length ≤ 6000 ∧ oct is
theorem gIs_take {f : Nat → Int32} {os : List Nat} {n : Nat} {fI : Nat → Int32} (h : gIs f os) (hn : n ≤ os.length) (hc : ∀ i, i < n → fI i = f i) : gIs fI (os.take n) := by
  intro i hi
  rw [List.length_take] at hi
  rw [hc i (by omega), h i (by omega)]
  congr 1
  rw [List.getD_eq_getElem?_getD, List.getD_eq_getElem?_getD, List.getElem?_take_of_lt (by omega)]
theorem oct_take {os : List Nat} (n : Nat) (h : oct os) : oct (os.take n) := by
  rw [oct_iff] at h ⊢
  exact fun x hx => h x (List.mem_of_mem_take hx)
theorem oct_one {x : Nat} (h : x < 256) : oct [x] := by
  rw [oct_iff]
  intro y hy
  rw [List.mem_singleton.mp hy]
  exact h
