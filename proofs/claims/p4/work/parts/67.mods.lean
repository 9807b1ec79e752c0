/-! MODELS in any number: the tail of a world -/
/-- an Odds: address, signs, sum, first cell, its rows' addresses, cells, places -/
abbrev OB : Type := Nat × Int32 × Int32 × Int32 × Nat × Nat × Nat × (Nat → Int32) × Nat × (Nat → Int32)
/-- a Model: address, COUNTS (address, number, contents), for the message, for the reading -/
abbrev MB : Type := Nat × Nat × Nat × (Nat → Int32) × OB × OB
def obC (cI : ClassId) (o : OB) : va_W := [(o.1, Sum.inr (7, [Value.int o.2.1, Value.int o.2.2.1, Value.int o.2.2.2.1, Value.ref o.2.2.2.2.1, Value.ref o.2.2.2.2.2.1])), (o.2.2.2.2.1, Sum.inl (cI, o.2.2.2.2.2.2.1, Sum.inl o.2.2.2.2.2.2.2.1)), (o.2.2.2.2.2.1, Sum.inl (cI, o.2.2.2.2.2.2.2.2.1, Sum.inl o.2.2.2.2.2.2.2.2.2))]
def mbC (cI : ClassId) (x : MB) : va_W := (x.1, Sum.inr (8, [Value.ref x.2.1, Value.ref x.2.2.2.2.1.1, Value.ref x.2.2.2.2.2.1])) :: (x.2.1, Sum.inl (cI, x.2.2.1, Sum.inl x.2.2.2.1)) :: (obC cI x.2.2.2.2.1 ++ obC cI x.2.2.2.2.2)
def mbsC (cI : ClassId) (ms : List MB) : va_W := ms.flatMap (mbC cI)
def obOk (o : OB) : Prop := 1 ≤ o.2.2.2.2.2.2.1 ∧ o.2.2.2.2.2.2.1 ≤ 64 ∧ o.2.2.2.2.2.2.2.2.1 ≤ 512
def mbOk (x : MB) : Prop := x.2.2.1 ≤ 64 ∧ obOk x.2.2.2.2.1 ∧ obOk x.2.2.2.2.2
/-- what stays: where a model and its odds for the message lie -/
def mbA (x : MB) : Nat × Nat := (x.1, x.2.2.2.2.1.1)
/-- the object's row of models -/
def mfOk (mf : Nat → Option Nat) (ms : List MB) : Prop := ∀ i, i < 8 → mf i = (ms[i]?).map (·.1)
section PRM
variable {D : va_G} {cl : List vw_C} {ws ws' : va_W} {H : Heap} {A : Nat → Prop}
theorem pm_P (h : va_P D cl ws H) (p : ws'.Perm ws) : va_P D cl ws' H := by
  intro k q hk
  obtain ⟨j, hj, e⟩ := List.mem_iff_getElem.mp (p.mem_iff.mp (List.mem_of_getElem? hk))
  exact h j q (by rw [List.getElem?_eq_getElem hj, e])
theorem pm_nd (h : va_D A ws) : (ws.map (·.1)).Nodup := by
  rw [List.nodup_iff_pairwise_ne, List.pairwise_iff_getElem]
  intro i j hi hj hij e
  rw [List.length_map] at hi hj
  rw [List.getElem_map, List.getElem_map] at e
  have := h.1 i j ws[i] ws[j] (List.getElem?_eq_getElem hi) (List.getElem?_eq_getElem hj) e
  omega
theorem pm_of (h : (ws.map (·.1)).Nodup) (h2 : ∀ q ∈ ws, A q.1) : va_D A ws := by
  refine ⟨fun i j p q hi hj e => ?_, fun k q hk => h2 q (List.mem_of_getElem? hk)⟩
  obtain ⟨hi1, hi2⟩ := List.getElem?_eq_some_iff.mp hi
  obtain ⟨hj1, hj2⟩ := List.getElem?_eq_some_iff.mp hj
  rw [List.nodup_iff_pairwise_ne, List.pairwise_iff_getElem] at h
  rcases Nat.lt_trichotomy i j with z | z | z
  · exact absurd (by rw [List.getElem_map, List.getElem_map, hi2, hj2]; exact e) (h i j (by rw [List.length_map]; exact hi1) (by rw [List.length_map]; exact hj1) z)
  · exact z
  · exact absurd (by rw [List.getElem_map, List.getElem_map, hi2, hj2]; exact e.symm) (h j i (by rw [List.length_map]; exact hj1) (by rw [List.length_map]; exact hi1) z)
theorem pm_D (h : va_D A ws) (p : ws'.Perm ws) : va_D A ws' := by
  refine pm_of ((p.map _).nodup_iff.mpr (pm_nd h)) (fun q hq => ?_)
  obtain ⟨j, hj, e⟩ := List.mem_iff_getElem.mp (p.mem_iff.mp hq)
  exact h.2 j q (by rw [List.getElem?_eq_getElem hj, e])
end PRM
theorem pm_mid {α : Type} (X A C B : List α) : ((X ++ C) ++ (A ++ B)).Perm (X ++ (A ++ (C ++ B))) := by
  rw [List.append_assoc]
  refine List.Perm.append_left X ?_
  rw [← List.append_assoc, ← List.append_assoc]
  exact List.Perm.append_right B List.perm_append_comm
theorem mb_eq (cI : ClassId) (a b : List MB) (x : MB) : mbsC cI (a ++ x :: b) = mbsC cI a ++ (mbC cI x ++ mbsC cI b) := by
  unfold mbsC
  rw [List.flatMap_append, List.flatMap_cons]
theorem mb_out (cI : ClassId) (X : va_W) (a b : List MB) (x : MB) : ((X ++ mbC cI x) ++ (mbsC cI a ++ mbsC cI b)).Perm (X ++ mbsC cI (a ++ x :: b)) := by
  rw [mb_eq]
  exact pm_mid X _ _ _
theorem mb_at {ms : List MB} {i : Nat} (h : i < ms.length) : ∃ a x b, ms = a ++ x :: b ∧ a.length = i := by
  refine ⟨ms.take i, ms[i], ms.drop (i + 1), ?_, by rw [List.length_take]; omega⟩
  rw [List.getElem_cons_drop, List.take_append_drop]
theorem mb_get {a b : List MB} {x : MB} : (a ++ x :: b)[a.length]? = some x := by
  rw [List.getElem?_append_right (Nat.le_refl _), Nat.sub_self]
  rfl
theorem mb_set {a b : List MB} {x y : MB} {f : MB → Nat × Nat} (h : f y = f x) : (a ++ y :: b).map f = (a ++ x :: b).map f := by
  rw [List.map_append, List.map_append, List.map_cons, List.map_cons, h]
theorem mb_len {ms ms' : List MB} (h : ms'.map mbA = ms.map mbA) : ms'.length = ms.length := by
  have := congrArg List.length h
  rwa [List.length_map, List.length_map] at this
theorem mf_keep {mf : Nat → Option Nat} {ms ms' : List MB} (h : mfOk mf ms) (e : ms'.map mbA = ms.map mbA) : mfOk mf ms' := by
  intro i hi
  rw [h i hi]
  have e1 : (ms'.map mbA)[i]? = (ms.map mbA)[i]? := by rw [e]
  rw [List.getElem?_map, List.getElem?_map] at e1
  have e2 := congrArg (Option.map Prod.fst) e1
  rw [Option.map_map, Option.map_map] at e2
  exact e2.symm
theorem mf_some {mf : Nat → Option Nat} {a b : List MB} {x : MB} (h : mfOk mf (a ++ x :: b)) (h8 : a.length < 8) : mf a.length = some x.1 := by
  rw [h _ h8, mb_get]
  rfl
theorem mf_none {mf : Nat → Option Nat} {ms : List MB} {i : Nat} (h : mfOk mf ms) (h8 : i < 8) (hi : ms.length ≤ i) : mf i = none := by
  rw [h _ h8, List.getElem?_eq_none hi]
  rfl
theorem ok_mid {a b : List MB} {x : MB} (h : ∀ y ∈ a ++ x :: b, mbOk y) : mbOk x := h x (List.mem_append_right _ List.mem_cons_self)
theorem ok_set {a b : List MB} {x y : MB} (h : ∀ z ∈ a ++ x :: b, mbOk z) (hy : mbOk y) : ∀ z ∈ a ++ y :: b, mbOk z := by
  intro z hz
  rcases List.mem_append.mp hz with q | q
  · exact h z (List.mem_append_left _ q)
  · rcases List.mem_cons.mp q with e | q
    · rw [e]; exact hy
    · exact h z (List.mem_append_right _ (List.mem_cons_of_mem _ q))
section TLC
variable {p : Program} {l : Launch} {e : Env} {R : Room} {s : State} {m : MethodId} {args : Array Value} {below : List Frame} {meth : Method} {c : Code} {H : Heap} {locs : List Loc} {cells slots : Nat} {Q : State → Prop}
variable {cc : ByteArray} {pc : Nat} {ls : Array Slot} {rest st0 : List Value} {D : va_G} {cl : List vw_C} {tys : List (ClassId × FieldType)} {A : Nat → Prop} {f0 : Nat} {a : Array Value}
theorem my_freeP {X wc pl : va_W} (hD : va_D A (X ++ pl)) (hS : va_S A s.heap H locs) (hA : ∀ q : Nat, s.heap.size ≤ q → A q) (isC : List Nat) (hC : isC.map (fun i => X[i]?) = wc.map some) : ∀ q, va_A (wc ++ pl) H.size q → A q := by
  intro q h
  rcases h with ⟨k, e, h⟩ | h
  · exact hD.2 _ (q, e) (va_part isC hC k (q, e) h)
  · exact hA q (Nat.le_trans hS.1 h)
theorem my_ciT {S : Type} {post : Int32 → S → Prop} {rx pq : S → va_W} {mc ms : Nat} {X wc wr pl : va_W} (hr : va_Run p l e R s m args below meth c H locs cells slots mc ms (F0 m pc ls st0) rest (va_Qi post (my_B D cl tys (fun u => rx u ++ pq u) (va_A (wc ++ pl) H.size)) (va_A (wc ++ pl) H.size) a) (va_A (wc ++ pl) H.size)) (hP : va_P D cl (X ++ pl) H) (hD : va_D A (X ++ pl)) (hS : va_S A s.heap H locs) (hA : ∀ q : Nat, s.heap.size ≤ q → A q) (isC isR : List Nat) (hC : isC.map (fun i => X[i]?) = wc.map some) (hR : isR.map (fun i => X[i]?) = wr.map some) (hn : va_nd isR = true) (hdis : ∀ i ∈ isR, i ∉ isC)
    (kk : ∀ (r : Int32) (u : S) (H1 : Heap) (locs1 : List Loc), post r u → va_P D cl ((wr ++ rx u) ++ pq u) H1 → va_D A ((wr ++ rx u) ++ pq u) → va_S A s.heap H1 locs1 → W p l e R s m args below meth c H1 locs1 (cells + mc) (slots + ms) Q (F0 m (pc + 3) ls (.int r :: rest))) : W p l e R s m args below meth c H locs cells slots Q (F0 m pc ls st0) := by
  have hFc : ∀ q, va_A (wc ++ pl) H.size q → A q := my_freeP hD hS hA isC hC
  refine va_calli hr hS (fun q _ h => hFc q h) hFc (fun r u t H1 locs1 ht hvm hw hB hz1 hk1 hS1 => ?_)
  obtain ⟨hP1, hK1, hD1⟩ := hB
  rw [ht] at hP1
  obtain ⟨hP2, hD2⟩ := va_joinP hP hD isC isR hC hR hn hdis hk1 hFc hP1 hD1
  exact kk r u H1 locs1 hw hP2 hD2 hS1
theorem my_cigT {S : Type} {post : Int32 → S → Prop} {rx pq : S → va_W} {ph : S → Nat} {X wc wr pl : va_W} (hr : va_Run p l e R s m args below meth c H locs cells slots f0 f0 (F0 m pc ls st0) rest (va_Qi post (my_Bg D cl tys (fun u => rx u ++ pq u) (va_A (wc ++ pl) H.size) H.size (hSl H) f0 ph) (va_A (wc ++ pl) H.size) a) (va_A (wc ++ pl) H.size)) (hP : va_P D cl (X ++ pl) H) (hD : va_D A (X ++ pl)) (hS : va_S A s.heap H locs) (hA : ∀ q : Nat, s.heap.size ≤ q → A q) (isC isR : List Nat) (hC : isC.map (fun i => X[i]?) = wc.map some) (hR : isR.map (fun i => X[i]?) = wr.map some) (hn : va_nd isR = true) (hdis : ∀ i ∈ isR, i ∉ isC)
    (kk : ∀ (r : Int32) (u : S) (d : Nat) (H1 : Heap) (locs1 : List Loc), d + ph u ≤ f0 → post r u → va_P D cl ((wr ++ rx u) ++ pq u) H1 → va_D A ((wr ++ rx u) ++ pq u) → va_S A s.heap H1 locs1 → W p l e R s m args below meth c H1 locs1 (cells + d) (slots + d) Q (F0 m (pc + 3) ls (.int r :: rest))) : W p l e R s m args below meth c H locs cells slots Q (F0 m pc ls st0) := by
  refine W.know (fun k1 k2 => ?_)
  have hFc : ∀ q, va_A (wc ++ pl) H.size q → A q := my_freeP hD hS hA isC hC
  refine va_calli hr hS (fun q _ h => hFc q h) hFc (fun r u t H1 locs1 ht hvm hw hB hz1 hk1 hS1 => ?_)
  obtain ⟨⟨hP1, hK1, hD1⟩, g1, g2⟩ := hB
  rw [ht] at hP1 g1 g2
  obtain ⟨hP2, hD2⟩ := va_joinP hP hD isC isR hC hR hn hdis hk1 hFc hP1 hD1
  refine W.tight (cells' := cells + (f0 - ph u)) (slots' := slots + (f0 - ph u)) (by omega) (by omega) ?_
  exact kk r u (f0 - ph u) H1 locs1 (by omega) hw hP2 hD2 hS1
theorem my_cvgT {S : Type} {post : S → Prop} {rx pq : S → va_W} {ph : S → Nat} {X wc wr pl : va_W} (hr : va_Run p l e R s m args below meth c H locs cells slots f0 f0 (F0 m pc ls st0) rest (va_Qv post (my_Bg D cl tys (fun u => rx u ++ pq u) (va_A (wc ++ pl) H.size) H.size (hSl H) f0 ph) (va_A (wc ++ pl) H.size) a) (va_A (wc ++ pl) H.size)) (hP : va_P D cl (X ++ pl) H) (hD : va_D A (X ++ pl)) (hS : va_S A s.heap H locs) (hA : ∀ q : Nat, s.heap.size ≤ q → A q) (isC isR : List Nat) (hC : isC.map (fun i => X[i]?) = wc.map some) (hR : isR.map (fun i => X[i]?) = wr.map some) (hn : va_nd isR = true) (hdis : ∀ i ∈ isR, i ∉ isC)
    (kk : ∀ (u : S) (d : Nat) (H1 : Heap) (locs1 : List Loc), d + ph u ≤ f0 → post u → va_P D cl ((wr ++ rx u) ++ pq u) H1 → va_D A ((wr ++ rx u) ++ pq u) → va_S A s.heap H1 locs1 → W p l e R s m args below meth c H1 locs1 (cells + d) (slots + d) Q (F0 m (pc + 3) ls rest)) : W p l e R s m args below meth c H locs cells slots Q (F0 m pc ls st0) := by
  refine W.know (fun k1 k2 => ?_)
  have hFc : ∀ q, va_A (wc ++ pl) H.size q → A q := my_freeP hD hS hA isC hC
  refine va_callv hr hS (fun q _ h => hFc q h) hFc (fun u t H1 locs1 ht hvm hw hB hz1 hk1 hS1 => ?_)
  obtain ⟨⟨hP1, hK1, hD1⟩, g1, g2⟩ := hB
  rw [ht] at hP1 g1 g2
  obtain ⟨hP2, hD2⟩ := va_joinP hP hD isC isR hC hR hn hdis hk1 hFc hP1 hD1
  refine W.tight (cells' := cells + (f0 - ph u)) (slots' := slots + (f0 - ph u)) (by omega) (by omega) ?_
  exact kk u (f0 - ph u) H1 locs1 (by omega) hw hP2 hD2 hS1
end TLC
theorem od_out {cI : ClassId} {pl rest : va_W} {o : OB} (X : va_W) (h : pl.Perm (obC cI o ++ rest)) : ((X ++ obC cI o) ++ rest).Perm (X ++ pl) := by
  rw [List.append_assoc]
  exact List.Perm.append_left X h.symm
theorem my_subU {D : va_G} {cl : List vw_C} {X cx pl : va_W} {H : Heap} (h : va_P D cl (X ++ pl) H) (is : List Nat) (hs : is.filterMap (fun i => X[i]?) = cx) : va_P D cl cx H :=
  va_P.sub (ws := X) (fun k q hk => h k q (by rw [List.getElem?_append_left (List.getElem?_eq_some_iff.mp hk).1]; exact hk)) is hs
theorem my_partU {D : va_G} {cl : List vw_C} {X cx pl : va_W} {H : Heap} (h : va_P D cl (X ++ pl) H) (is : List Nat) (hs : is.filterMap (fun i => X[i]?) = cx) : va_P D cl (cx ++ pl) H :=
  va_P.app (my_subU h is hs) (fun k q hk => h (X.length + k) q (by rw [List.getElem?_append_right (Nat.le_add_right _ _), Nat.add_sub_cancel_left]; exact hk))

