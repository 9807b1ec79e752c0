/-! GROWTH: how much a call has made, told by the heap behind it -/
/-- all slots of a heap -/
def hSl (H : Heap) : Nat := H.foldl (fun n c => n + c.slots.size) 0
section GR1
variable {p : Program} {l : Launch} {e : Env} {R : Room} {s : State} {m : MethodId} {args : Array Value} {below : List Frame} {meth : Method} {c : Code} {H : Heap} {locs : List Loc} {cells slots : Nat} {Q : State → Prop}
theorem gr_sl {T : State} (X : Stand p l e R s m args below meth c T locs cells slots) : hSl T.heap = hSl s.heap + ((T.heap.toList.drop s.heap.size).map (·.slots.size)).sum := by
  have h0 : s.slotsTrue = true := by
    have h := X.room
    simp only [State.hasRoom, Bool.and_eq_true] at h
    exact h.2
  have h1 := X.book
  have e0 : s.slotsUsed = hSl s.heap := eq_of_beq h0
  have e1 : T.slotsUsed = hSl T.heap := eq_of_beq h1
  have h2 : T.slotsUsed = s.slotsUsed + ((T.heap.toList.drop s.heap.size).map (·.slots.size)).sum := X.same.2.2.2.1
  rw [← e0, ← e1]
  exact h2
/-- what the count says of the heap -/
theorem W.know {g : JFrame} (k : H.size ≤ s.heap.size + cells → hSl H ≤ hSl s.heap + slots → W p l e R s m args below meth c H locs cells slots Q g) : W p l e R s m args below meth c H locs cells slots Q g := by
  intro T hT X
  have h1 : H.size ≤ s.heap.size + cells := by rw [← hT]; exact X.same.2.2.1
  have h2 : hSl H ≤ hSl s.heap + slots := by
    have h3 := gr_sl X
    have h4 : ((T.heap.toList.drop s.heap.size).map (·.slots.size)).sum ≤ slots := X.same.2.2.2.2.1
    rw [← hT, h3]
    omega
  exact k h1 h2 T hT X
/-- a smaller count, where the heap says so -/
theorem W.tight {g : JFrame} {cells' slots' : Nat} (h1 : H.size ≤ s.heap.size + cells') (h2 : hSl H ≤ hSl s.heap + slots') (k : W p l e R s m args below meth c H locs cells' slots' Q g) : W p l e R s m args below meth c H locs cells slots Q g := by
  intro T hT X
  have h3 := gr_sl X
  refine k T hT { X with same := ⟨X.same.1, X.same.2.1, by subst hT; exact h1, X.same.2.2.2.1, ?_, X.same.2.2.2.2.2⟩ }
  show ((T.heap.toList.drop s.heap.size).map (·.slots.size)).sum ≤ slots'
  rw [hT] at h3
  rw [hT]
  omega
end GR1
def my_Pg (D : va_G) (cl : List vw_C) (tys : List (ClassId × FieldType)) (wc : va_W) (sz sl : Nat) (U : State) : Prop := my_P D cl tys wc sz U ∧ hSl U.heap = sl
def my_Bg {S : Type} (D : va_G) (cl : List vw_C) (tys : List (ClassId × FieldType)) (w1 : S → va_W) (A : Nat → Prop) (sz sl f0 : Nat) (ph : S → Nat) (u : S) (t : State) : Prop := my_B D cl tys w1 A u t ∧ t.heap.size + ph u ≤ sz + f0 ∧ hSl t.heap + ph u ≤ sl + f0
abbrev MetIg {S : Type} (l : Launch) (y : MethodName) (ws : List Cond) (rm : Room) (D : va_G) (cl : List vw_C) (tys : List (ClassId × FieldType)) (av : List Value) (wc : va_W) (sz sl : Nat) (post : Int32 → S → Prop) (w1 : S → va_W) (f0 : Nat) (ph : S → Nat) : Prop :=
  Met l y ws rm (va_Pc av (my_Pg D cl tys wc sz sl)) (va_Qi post (my_Bg D cl tys w1 (va_A wc sz) sz sl f0 ph) (va_A wc sz)) f0 f0 (va_A wc sz)
abbrev MetVg {S : Type} (l : Launch) (y : MethodName) (ws : List Cond) (rm : Room) (D : va_G) (cl : List vw_C) (tys : List (ClassId × FieldType)) (av : List Value) (wc : va_W) (sz sl : Nat) (post : S → Prop) (w1 : S → va_W) (f0 : Nat) (ph : S → Nat) : Prop :=
  Met l y ws rm (va_Pc av (my_Pg D cl tys wc sz sl)) (va_Qv post (my_Bg D cl tys w1 (va_A wc sz) sz sl f0 ph) (va_A wc sz)) f0 f0 (va_A wc sz)
abbrev MetQg {S : Type} (l : Launch) (y : MethodName) (ws : List Cond) (rm : Room) (D : va_G) (cl : List vw_C) (tys : List (ClassId × FieldType)) (av : List Value) (wc : va_W) (sz sl : Nat) (post : Option Nat → S → Prop) (w1 : S → va_W) (f0 : Nat) (ph : S → Nat) : Prop :=
  Met l y ws rm (va_Pc av (my_Pg D cl tys wc sz sl)) (va_Qq post (my_Bg D cl tys w1 (va_A wc sz) sz sl f0 ph) (va_A wc sz)) f0 f0 (va_A wc sz)
theorem my_ofg {l : Launch} {y : MethodName} {ws ws' : List Cond} {rm : Room} {D : va_G} {cl : List vw_C} {tys : List (ClassId × FieldType)} {av : List Value} {wc : va_W} {sz sl mc ms n : Nat} {cc : ByteArray} {ret : Option FieldType} {QF : (Nat → Prop) → Nat → Nat → Array Value → State → Outcome → State → Prop}
    (hy : plainName y.cls = true) (hw : ws = Cond.code y cc n ret :: ws') (hn : (lg_sl av).length ≤ n)
    (body : ∀ (p : Program) (e : Env) (s : State) (m : MethodId) (args : Array Value) (below : List Frame) (meth : Method) (c : Code) (R : Room) (Q : State → Prop) (A : Nat → Prop) (ls : Array Slot) (H : Heap) (locs : List Loc), p.tables.exec = Jvm.exec → c.code = cc → meth.sig.returnType = ret → (∀ w ∈ ws, w.before args s = true) → s.vm.findClass y.cls = some m.cls → meth.locks = false → c.maxLocals = n → meth.name = y.name → R = rm → Q = MQ below (QF A s.heap.size (hSl s.heap)) args s mc ms A → (∀ q : Nat, s.heap.size ≤ q → A q) → lv_has ls n (lv_args 0 av) → va_P D cl wc H → va_K D cl tys s → nw s → va_D A wc → va_S A s.heap H locs → W p l e R s m args below meth c H locs 0 0 Q (F0 m 0 ls [])) :
    Met l y ws rm (va_Pc av (my_Pg D cl tys wc sz sl)) (QF (va_A wc sz) sz sl) mc ms (va_A wc sz) := by
  refine Met.ofW (cc := cc) (maxL := n) (ret := ret) hy hw ?_
  intro p e s m args below meth c s₁ B hml hv
  obtain ⟨ha, ⟨hsz, hP, ⟨hK, hN⟩, hD0⟩, hsl⟩ := hv
  subst hsz
  subst hsl
  refine W.eq (g2 := F0 m 0 ((lg_sl av ++ List.replicate (n - (lg_sl av).length) Slot.unset).toArray) []) (by rw [ha]; exact lg_entry_eq m av n) ?_
  exact body p e s m args below meth c _ _ (va_A wc s.heap.size) _ _ _ B.exec B.bytes B.returns (atoms_spec (ws := ws) B.pre) (findClass_of_methodNamed B.named) B.notSynchronized hml (name_of_methodNamed B.named B.method).1 rfl rfl (fun q h => Or.inr h) (lv_entry av hn) hP hK hN hD0.self va_S.rf
theorem my_ofIg {S : Type} {l : Launch} {y : MethodName} {ws ws' : List Cond} {rm : Room} {D : va_G} {cl : List vw_C} {tys : List (ClassId × FieldType)} {av : List Value} {wc : va_W} {sz sl f0 n : Nat} {cc : ByteArray} {ret : Option FieldType} {post : Int32 → S → Prop} {w1 : S → va_W} {ph : S → Nat}
    (hy : plainName y.cls = true) (hw : ws = Cond.code y cc n ret :: ws') (hn : (lg_sl av).length ≤ n)
    (body : ∀ (p : Program) (e : Env) (s : State) (m : MethodId) (args : Array Value) (below : List Frame) (meth : Method) (c : Code) (R : Room) (Q : State → Prop) (A : Nat → Prop) (ls : Array Slot) (H : Heap) (locs : List Loc), p.tables.exec = Jvm.exec → c.code = cc → meth.sig.returnType = ret → (∀ w ∈ ws, w.before args s = true) → s.vm.findClass y.cls = some m.cls → meth.locks = false → c.maxLocals = n → meth.name = y.name → R = rm → Q = MQ below (va_Qi post (my_Bg D cl tys w1 A s.heap.size (hSl s.heap) f0 ph) A) args s f0 f0 A → (∀ q : Nat, s.heap.size ≤ q → A q) → lv_has ls n (lv_args 0 av) → va_P D cl wc H → va_K D cl tys s → nw s → va_D A wc → va_S A s.heap H locs → W p l e R s m args below meth c H locs 0 0 Q (F0 m 0 ls [])) :
    MetIg l y ws rm D cl tys av wc sz sl post w1 f0 ph := my_ofg (QF := fun A sz sl => va_Qi post (my_Bg D cl tys w1 A sz sl f0 ph) A) hy hw hn body
theorem my_ofVg {S : Type} {l : Launch} {y : MethodName} {ws ws' : List Cond} {rm : Room} {D : va_G} {cl : List vw_C} {tys : List (ClassId × FieldType)} {av : List Value} {wc : va_W} {sz sl f0 n : Nat} {cc : ByteArray} {ret : Option FieldType} {post : S → Prop} {w1 : S → va_W} {ph : S → Nat}
    (hy : plainName y.cls = true) (hw : ws = Cond.code y cc n ret :: ws') (hn : (lg_sl av).length ≤ n)
    (body : ∀ (p : Program) (e : Env) (s : State) (m : MethodId) (args : Array Value) (below : List Frame) (meth : Method) (c : Code) (R : Room) (Q : State → Prop) (A : Nat → Prop) (ls : Array Slot) (H : Heap) (locs : List Loc), p.tables.exec = Jvm.exec → c.code = cc → meth.sig.returnType = ret → (∀ w ∈ ws, w.before args s = true) → s.vm.findClass y.cls = some m.cls → meth.locks = false → c.maxLocals = n → meth.name = y.name → R = rm → Q = MQ below (va_Qv post (my_Bg D cl tys w1 A s.heap.size (hSl s.heap) f0 ph) A) args s f0 f0 A → (∀ q : Nat, s.heap.size ≤ q → A q) → lv_has ls n (lv_args 0 av) → va_P D cl wc H → va_K D cl tys s → nw s → va_D A wc → va_S A s.heap H locs → W p l e R s m args below meth c H locs 0 0 Q (F0 m 0 ls [])) :
    MetVg l y ws rm D cl tys av wc sz sl post w1 f0 ph := my_ofg (QF := fun A sz sl => va_Qv post (my_Bg D cl tys w1 A sz sl f0 ph) A) hy hw hn body
theorem my_ofQg {S : Type} {l : Launch} {y : MethodName} {ws ws' : List Cond} {rm : Room} {D : va_G} {cl : List vw_C} {tys : List (ClassId × FieldType)} {av : List Value} {wc : va_W} {sz sl f0 n : Nat} {cc : ByteArray} {ret : Option FieldType} {post : Option Nat → S → Prop} {w1 : S → va_W} {ph : S → Nat}
    (hy : plainName y.cls = true) (hw : ws = Cond.code y cc n ret :: ws') (hn : (lg_sl av).length ≤ n)
    (body : ∀ (p : Program) (e : Env) (s : State) (m : MethodId) (args : Array Value) (below : List Frame) (meth : Method) (c : Code) (R : Room) (Q : State → Prop) (A : Nat → Prop) (ls : Array Slot) (H : Heap) (locs : List Loc), p.tables.exec = Jvm.exec → c.code = cc → meth.sig.returnType = ret → (∀ w ∈ ws, w.before args s = true) → s.vm.findClass y.cls = some m.cls → meth.locks = false → c.maxLocals = n → meth.name = y.name → R = rm → Q = MQ below (va_Qq post (my_Bg D cl tys w1 A s.heap.size (hSl s.heap) f0 ph) A) args s f0 f0 A → (∀ q : Nat, s.heap.size ≤ q → A q) → lv_has ls n (lv_args 0 av) → va_P D cl wc H → va_K D cl tys s → nw s → va_D A wc → va_S A s.heap H locs → W p l e R s m args below meth c H locs 0 0 Q (F0 m 0 ls [])) :
    MetQg l y ws rm D cl tys av wc sz sl post w1 f0 ph := my_ofg (QF := fun A sz sl => va_Qq post (my_Bg D cl tys w1 A sz sl f0 ph) A) hy hw hn body
section MYG
variable {p : Program} {l : Launch} {e : Env} {R : Room} {s : State} {m : MethodId} {args : Array Value} {below : List Frame} {meth : Method} {c : Code} {H : Heap} {locs : List Loc} {cells slots : Nat} {Q : State → Prop}
variable {cc : ByteArray} {pc : Nat} {ls : Array Slot} {rest st0 : List Value} {D : va_G} {cl : List vw_C} {tys : List (ClassId × FieldType)} {A : Nat → Prop} {f0 : Nat} {a : Array Value}
theorem my_iretg {S : Type} {post : Int32 → S → Prop} {w1 : S → va_W} {ph : S → Nat} {v : Int32} {rt : FieldType} (hx : p.tables.exec = Jvm.exec) (hb : c.code = cc) (hr : meth.sig.returnType = some rt) (hn : narrow rt (.int v) = .int v) (hlocks : meth.locks = false) (hQ : Q = MQ below (va_Qi post (my_Bg D cl tys w1 A s.heap.size (hSl s.heap) f0 ph) A) args s f0 f0 A) (hK : va_K D cl tys s) (hS : va_S A s.heap H locs) (u : S) (hc : cells + ph u ≤ f0) (hsl : slots + ph u ≤ f0) (hp : post v u) (hP : va_P D cl (w1 u) H) (hD : va_D A (w1 u)) (hdg : decode cc pc = .ok (.ireturn, 1)) : W p l e R s m args below meth c H locs cells slots Q (F0 m pc ls [Value.int v]) := by
  subst hQ
  refine W.know (fun k1 k2 => ?_)
  refine W.widen (show cells ≤ f0 by omega) (show slots ≤ f0 by omega) ?_
  exact W.zret (v := v) hx hb hr hn (fun t ht hW => ⟨⟨v, u, rfl, hp, ⟨by rw [ht]; exact hP, va_K.moved hW.alike hK, hD⟩, by rw [ht]; omega, by rw [ht]; omega⟩, hS.F ht⟩) hS.2.2 hdg hlocks
theorem my_vretg {S : Type} {post : S → Prop} {w1 : S → va_W} {ph : S → Nat} (hx : p.tables.exec = Jvm.exec) (hb : c.code = cc) (hr : meth.sig.returnType = none) (hlocks : meth.locks = false) (hQ : Q = MQ below (va_Qv post (my_Bg D cl tys w1 A s.heap.size (hSl s.heap) f0 ph) A) args s f0 f0 A) (hK : va_K D cl tys s) (hS : va_S A s.heap H locs) (u : S) (hc : cells + ph u ≤ f0) (hsl : slots + ph u ≤ f0) (hp : post u) (hP : va_P D cl (w1 u) H) (hD : va_D A (w1 u)) (hdg : decode cc pc = .ok (.return_, 1)) : W p l e R s m args below meth c H locs cells slots Q (F0 m pc ls []) := by
  subst hQ
  refine W.know (fun k1 k2 => ?_)
  refine W.widen (show cells ≤ f0 by omega) (show slots ≤ f0 by omega) ?_
  exact W.vret hx hb hr (fun t ht hW => ⟨⟨u, rfl, hp, ⟨by rw [ht]; exact hP, va_K.moved hW.alike hK, hD⟩, by rw [ht]; omega, by rw [ht]; omega⟩, hS.F ht⟩) hS.2.2 hdg hlocks
theorem my_qretg {S : Type} {post : Option Nat → S → Prop} {w1 : S → va_W} {ph : S → Nat} {v : Option Nat} {rt : FieldType} (hx : p.tables.exec = Jvm.exec) (hb : c.code = cc) (hr : meth.sig.returnType = some rt) (hrt : (∃ n, rt = .object n) ∨ ∃ t, rt = .array t) (hlocks : meth.locks = false) (hQ : Q = MQ below (va_Qq post (my_Bg D cl tys w1 A s.heap.size (hSl s.heap) f0 ph) A) args s f0 f0 A) (hK : va_K D cl tys s) (hS : va_S A s.heap H locs) (u : S) (hc : cells + ph u ≤ f0) (hsl : slots + ph u ≤ f0) (hp : post v u) (hP : va_P D cl (w1 u) H) (hD : va_D A (w1 u)) (hdg : decode cc pc = .ok (.areturn, 1)) : W p l e R s m args below meth c H locs cells slots Q (F0 m pc ls [va_rf v]) := by
  subst hQ
  refine W.know (fun k1 k2 => ?_)
  refine W.widen (show cells ≤ f0 by omega) (show slots ≤ f0 by omega) ?_
  exact W.aret (v := va_rf v) hx hb hr hrt (va_rf_or v) (fun t ht hW => ⟨⟨v, u, rfl, hp, ⟨by rw [ht]; exact hP, va_K.moved hW.alike hK, hD⟩, by rw [ht]; omega, by rw [ht]; omega⟩, hS.F ht⟩) hS.2.2 hdg hlocks
theorem my_preg {wc : va_W} {As : List Value} (hK : va_K D cl tys s) (hN : nw s) (hPc : va_P D cl wc H) (hDc : va_D A wc) : FrameBlind (va_Pc As (my_Pg D cl tys wc H.size (hSl H))) ∧ ∀ U : State, U.heap = H → s.WarmedH U.vm → va_Pc As (my_Pg D cl tys wc H.size (hSl H)) As.toArray U :=
  ⟨fun a U g mk q => ⟨q.1, ⟨q.2.1.1, q.2.1.2.1, ⟨va_K.moved (u := U) (U := U.calling g mk a) (Vm.Alike.refl U.vm) q.2.1.2.2.1.1, nw.same (s := U) (U := U.calling g mk a) rfl q.2.1.2.2.1.2⟩, q.2.1.2.2.2⟩, q.2.2⟩, fun U hU hW => ⟨rfl, ⟨by rw [hU], by rw [hU]; exact hPc, ⟨va_K.moved hW.alike hK, nw.warm hW hN⟩, hDc.weaken (fun _ _ _ _ => trivial)⟩, by rw [hU]⟩⟩
theorem my_preVg {wc : va_W} {As : List Value} {b : Nat} {ci : Nat} {fs : List Value} {r : vw_C} (hK : va_K D cl tys s) (hN : nw s) (hPc : va_P D cl wc H) (hDc : va_D A wc) (q0 : Nat) (h0 : wc[q0]? = some (b, Sum.inr (ci, fs))) (hc : cl[ci]? = some r) : PreV s H r.1 b (va_Pc (.ref b :: As) (my_Pg D cl tys wc H.size (hSl H))) As :=
  ⟨(my_preg (As := .ref b :: As) hK hN hPc hDc).1, va_recv hK hPc (ci := ci) (q0 := q0) hc h0, (my_preg (As := .ref b :: As) hK hN hPc hDc).2⟩
theorem my_freeT {X wc pl : va_W} (hD : va_D A (X ++ pl)) (hS : va_S A s.heap H locs) (hA : ∀ q : Nat, s.heap.size ≤ q → A q) (isC : List Nat) (hC : isC.map (fun i => X[i]?) = wc.map some) : ∀ q, va_A wc H.size q → A q := by
  intro q h
  rcases h with ⟨k, e, h⟩ | h
  · have h2 := va_part (pl := pl) isC hC k (q, e) (by rw [List.getElem?_append_left (by exact (List.getElem?_eq_some_iff.mp h).1)]; exact h)
    exact hD.2 _ (q, e) h2
  · exact hA q (Nat.le_trans hS.1 h)
theorem my_cigt {S : Type} {post : Int32 → S → Prop} {w1 : S → va_W} {ph : S → Nat} {X wc wr pl : va_W} (hr : va_Run p l e R s m args below meth c H locs cells slots f0 f0 (F0 m pc ls st0) rest (va_Qi post (my_Bg D cl tys w1 (va_A wc H.size) H.size (hSl H) f0 ph) (va_A wc H.size) a) (va_A wc H.size)) (hP : va_P D cl (X ++ pl) H) (hD : va_D A (X ++ pl)) (hS : va_S A s.heap H locs) (hA : ∀ q : Nat, s.heap.size ≤ q → A q) (isC isR : List Nat) (hC : isC.map (fun i => X[i]?) = wc.map some) (hR : isR.map (fun i => X[i]?) = wr.map some) (hn : va_nd isR = true) (hdis : ∀ i ∈ isR, i ∉ isC)
    (kk : ∀ (r : Int32) (u : S) (d : Nat) (H1 : Heap) (locs1 : List Loc), d + ph u ≤ f0 → post r u → va_P D cl ((wr ++ w1 u) ++ pl) H1 → va_D A ((wr ++ w1 u) ++ pl) → va_S A s.heap H1 locs1 → W p l e R s m args below meth c H1 locs1 (cells + d) (slots + d) Q (F0 m (pc + 3) ls (.int r :: rest))) : W p l e R s m args below meth c H locs cells slots Q (F0 m pc ls st0) := by
  refine W.know (fun k1 k2 => ?_)
  have hFc : ∀ q, va_A wc H.size q → A q := my_freeT hD hS hA isC hC
  refine va_calli hr hS (fun q _ h => hFc q h) hFc (fun r u t H1 locs1 ht hvm hw hB hz1 hk1 hS1 => ?_)
  obtain ⟨⟨hP1, hK1, hD1⟩, g1, g2⟩ := hB
  rw [ht] at hP1 g1 g2
  obtain ⟨hP2, hD2⟩ := va_joinQ hP hD isC isR hC hR hn hdis hk1 hFc hP1 hD1
  refine W.tight (cells' := cells + (f0 - ph u)) (slots' := slots + (f0 - ph u)) (by omega) (by omega) ?_
  exact kk r u (f0 - ph u) H1 locs1 (by omega) hw hP2 hD2 hS1
theorem my_cit {S : Type} {post : Int32 → S → Prop} {w1 : S → va_W} {mc ms : Nat} {X wc wr pl : va_W} (hr : va_Run p l e R s m args below meth c H locs cells slots mc ms (F0 m pc ls st0) rest (va_Qi post (my_B D cl tys w1 (va_A wc H.size)) (va_A wc H.size) a) (va_A wc H.size)) (hP : va_P D cl (X ++ pl) H) (hD : va_D A (X ++ pl)) (hS : va_S A s.heap H locs) (hA : ∀ q : Nat, s.heap.size ≤ q → A q) (isC isR : List Nat) (hC : isC.map (fun i => X[i]?) = wc.map some) (hR : isR.map (fun i => X[i]?) = wr.map some) (hn : va_nd isR = true) (hdis : ∀ i ∈ isR, i ∉ isC)
    (kk : ∀ (r : Int32) (u : S) (H1 : Heap) (locs1 : List Loc), post r u → va_P D cl ((wr ++ w1 u) ++ pl) H1 → va_D A ((wr ++ w1 u) ++ pl) → va_S A s.heap H1 locs1 → W p l e R s m args below meth c H1 locs1 (cells + mc) (slots + ms) Q (F0 m (pc + 3) ls (.int r :: rest))) : W p l e R s m args below meth c H locs cells slots Q (F0 m pc ls st0) := by
  have hFc : ∀ q, va_A wc H.size q → A q := my_freeT hD hS hA isC hC
  refine va_calli hr hS (fun q _ h => hFc q h) hFc (fun r u t H1 locs1 ht hvm hw hB hz1 hk1 hS1 => ?_)
  obtain ⟨hP1, hK1, hD1⟩ := hB
  rw [ht] at hP1
  obtain ⟨hP2, hD2⟩ := va_joinQ hP hD isC isR hC hR hn hdis hk1 hFc hP1 hD1
  exact kk r u H1 locs1 hw hP2 hD2 hS1
theorem my_clt {S : Type} {post : Int64 → S → Prop} {w1 : S → va_W} {mc ms : Nat} {X wc wr pl : va_W} (hr : va_Run p l e R s m args below meth c H locs cells slots mc ms (F0 m pc ls st0) rest (va_Ql post (my_B D cl tys w1 (va_A wc H.size)) (va_A wc H.size) a) (va_A wc H.size)) (hP : va_P D cl (X ++ pl) H) (hD : va_D A (X ++ pl)) (hS : va_S A s.heap H locs) (hA : ∀ q : Nat, s.heap.size ≤ q → A q) (isC isR : List Nat) (hC : isC.map (fun i => X[i]?) = wc.map some) (hR : isR.map (fun i => X[i]?) = wr.map some) (hn : va_nd isR = true) (hdis : ∀ i ∈ isR, i ∉ isC)
    (kk : ∀ (r : Int64) (u : S) (H1 : Heap) (locs1 : List Loc), post r u → va_P D cl ((wr ++ w1 u) ++ pl) H1 → va_D A ((wr ++ w1 u) ++ pl) → va_S A s.heap H1 locs1 → W p l e R s m args below meth c H1 locs1 (cells + mc) (slots + ms) Q (F0 m (pc + 3) ls (.long r :: rest))) : W p l e R s m args below meth c H locs cells slots Q (F0 m pc ls st0) := by
  have hFc : ∀ q, va_A wc H.size q → A q := my_freeT hD hS hA isC hC
  refine va_calll hr hS (fun q _ h => hFc q h) hFc (fun r u t H1 locs1 ht hvm hw hB hz1 hk1 hS1 => ?_)
  obtain ⟨hP1, hK1, hD1⟩ := hB
  rw [ht] at hP1
  obtain ⟨hP2, hD2⟩ := va_joinQ hP hD isC isR hC hR hn hdis hk1 hFc hP1 hD1
  exact kk r u H1 locs1 hw hP2 hD2 hS1
theorem my_cvg {S : Type} {post : S → Prop} {w1 : S → va_W} {ph : S → Nat} {ws wc wr : va_W} (hr : va_Run p l e R s m args below meth c H locs cells slots f0 f0 (F0 m pc ls st0) rest (va_Qv post (my_Bg D cl tys w1 (va_A wc H.size) H.size (hSl H) f0 ph) (va_A wc H.size) a) (va_A wc H.size)) (hP : va_P D cl ws H) (hD : va_D A ws) (hS : va_S A s.heap H locs) (hA : ∀ q : Nat, s.heap.size ≤ q → A q) (isC isR : List Nat) (hC : isC.map (fun i => ws[i]?) = wc.map some) (hR : isR.map (fun i => ws[i]?) = wr.map some) (hn : va_nd isR = true) (hdis : ∀ i ∈ isR, i ∉ isC)
    (kk : ∀ (u : S) (d : Nat) (H1 : Heap) (locs1 : List Loc), d + ph u ≤ f0 → post u → va_P D cl (wr ++ w1 u) H1 → va_D A (wr ++ w1 u) → va_S A s.heap H1 locs1 → W p l e R s m args below meth c H1 locs1 (cells + d) (slots + d) Q (F0 m (pc + 3) ls rest)) : W p l e R s m args below meth c H locs cells slots Q (F0 m pc ls st0) := by
  refine W.know (fun k1 k2 => ?_)
  have hFc : ∀ q, va_A wc H.size q → A q := va_free (wc := wc) hD hS hA isC hC
  refine va_callv hr hS (fun q _ h => hFc q h) hFc (fun u t H1 locs1 ht hvm hw hB hz1 hk1 hS1 => ?_)
  obtain ⟨⟨hP1, hK1, hD1⟩, g1, g2⟩ := hB
  rw [ht] at hP1 g1 g2
  obtain ⟨hP2, hD2⟩ := va_join hP hD isC isR hC hR hn hdis hk1 hFc hP1 hD1
  refine W.tight (cells' := cells + (f0 - ph u)) (slots' := slots + (f0 - ph u)) (by omega) (by omega) ?_
  exact kk u (f0 - ph u) H1 locs1 (by omega) hw hP2 hD2 hS1
theorem my_cvgt {S : Type} {post : S → Prop} {w1 : S → va_W} {ph : S → Nat} {X wc wr pl : va_W} (hr : va_Run p l e R s m args below meth c H locs cells slots f0 f0 (F0 m pc ls st0) rest (va_Qv post (my_Bg D cl tys w1 (va_A wc H.size) H.size (hSl H) f0 ph) (va_A wc H.size) a) (va_A wc H.size)) (hP : va_P D cl (X ++ pl) H) (hD : va_D A (X ++ pl)) (hS : va_S A s.heap H locs) (hA : ∀ q : Nat, s.heap.size ≤ q → A q) (isC isR : List Nat) (hC : isC.map (fun i => X[i]?) = wc.map some) (hR : isR.map (fun i => X[i]?) = wr.map some) (hn : va_nd isR = true) (hdis : ∀ i ∈ isR, i ∉ isC)
    (kk : ∀ (u : S) (d : Nat) (H1 : Heap) (locs1 : List Loc), d + ph u ≤ f0 → post u → va_P D cl ((wr ++ w1 u) ++ pl) H1 → va_D A ((wr ++ w1 u) ++ pl) → va_S A s.heap H1 locs1 → W p l e R s m args below meth c H1 locs1 (cells + d) (slots + d) Q (F0 m (pc + 3) ls rest)) : W p l e R s m args below meth c H locs cells slots Q (F0 m pc ls st0) := by
  refine W.know (fun k1 k2 => ?_)
  have hFc : ∀ q, va_A wc H.size q → A q := my_freeT hD hS hA isC hC
  refine va_callv hr hS (fun q _ h => hFc q h) hFc (fun u t H1 locs1 ht hvm hw hB hz1 hk1 hS1 => ?_)
  obtain ⟨⟨hP1, hK1, hD1⟩, g1, g2⟩ := hB
  rw [ht] at hP1 g1 g2
  obtain ⟨hP2, hD2⟩ := va_joinQ hP hD isC isR hC hR hn hdis hk1 hFc hP1 hD1
  refine W.tight (cells' := cells + (f0 - ph u)) (slots' := slots + (f0 - ph u)) (by omega) (by omega) ?_
  exact kk u (f0 - ph u) H1 locs1 (by omega) hw hP2 hD2 hS1
theorem my_cvt {S : Type} {post : S → Prop} {w1 : S → va_W} {mc ms : Nat} {X wc wr pl : va_W} (hr : va_Run p l e R s m args below meth c H locs cells slots mc ms (F0 m pc ls st0) rest (va_Qv post (my_B D cl tys w1 (va_A wc H.size)) (va_A wc H.size) a) (va_A wc H.size)) (hP : va_P D cl (X ++ pl) H) (hD : va_D A (X ++ pl)) (hS : va_S A s.heap H locs) (hA : ∀ q : Nat, s.heap.size ≤ q → A q) (isC isR : List Nat) (hC : isC.map (fun i => X[i]?) = wc.map some) (hR : isR.map (fun i => X[i]?) = wr.map some) (hn : va_nd isR = true) (hdis : ∀ i ∈ isR, i ∉ isC)
    (kk : ∀ (u : S) (H1 : Heap) (locs1 : List Loc), post u → va_P D cl ((wr ++ w1 u) ++ pl) H1 → va_D A ((wr ++ w1 u) ++ pl) → va_S A s.heap H1 locs1 → W p l e R s m args below meth c H1 locs1 (cells + mc) (slots + ms) Q (F0 m (pc + 3) ls rest)) : W p l e R s m args below meth c H locs cells slots Q (F0 m pc ls st0) := by
  have hFc : ∀ q, va_A wc H.size q → A q := my_freeT hD hS hA isC hC
  refine va_callv hr hS (fun q _ h => hFc q h) hFc (fun u t H1 locs1 ht hvm hw hB hz1 hk1 hS1 => ?_)
  obtain ⟨hP1, hK1, hD1⟩ := hB
  rw [ht] at hP1
  obtain ⟨hP2, hD2⟩ := va_joinQ hP hD isC isR hC hR hn hdis hk1 hFc hP1 hD1
  exact kk u H1 locs1 hw hP2 hD2 hS1
theorem my_cqg {S : Type} {post : Option Nat → S → Prop} {w1 : S → va_W} {ph : S → Nat} {ws wc wr : va_W} (hr : va_Run p l e R s m args below meth c H locs cells slots f0 f0 (F0 m pc ls st0) rest (va_Qq post (my_Bg D cl tys w1 (va_A wc H.size) H.size (hSl H) f0 ph) (va_A wc H.size) a) (va_A wc H.size)) (hP : va_P D cl ws H) (hD : va_D A ws) (hS : va_S A s.heap H locs) (hA : ∀ q : Nat, s.heap.size ≤ q → A q) (isC isR : List Nat) (hC : isC.map (fun i => ws[i]?) = wc.map some) (hR : isR.map (fun i => ws[i]?) = wr.map some) (hn : va_nd isR = true) (hdis : ∀ i ∈ isR, i ∉ isC)
    (kk : ∀ (r : Option Nat) (u : S) (d : Nat) (H1 : Heap) (locs1 : List Loc), d + ph u ≤ f0 → post r u → va_P D cl (wr ++ w1 u) H1 → va_D A (wr ++ w1 u) → va_S A s.heap H1 locs1 → W p l e R s m args below meth c H1 locs1 (cells + d) (slots + d) Q (F0 m (pc + 3) ls (va_rf r :: rest))) : W p l e R s m args below meth c H locs cells slots Q (F0 m pc ls st0) := by
  refine W.know (fun k1 k2 => ?_)
  have hFc : ∀ q, va_A wc H.size q → A q := va_free (wc := wc) hD hS hA isC hC
  refine va_callq hr hS (fun q _ h => hFc q h) hFc (fun r u t H1 locs1 ht hvm hw hB hz1 hk1 hS1 => ?_)
  obtain ⟨⟨hP1, hK1, hD1⟩, g1, g2⟩ := hB
  rw [ht] at hP1 g1 g2
  obtain ⟨hP2, hD2⟩ := va_join hP hD isC isR hC hR hn hdis hk1 hFc hP1 hD1
  refine W.tight (cells' := cells + (f0 - ph u)) (slots' := slots + (f0 - ph u)) (by omega) (by omega) ?_
  exact kk r u (f0 - ph u) H1 locs1 (by omega) hw hP2 hD2 hS1
end MYG
theorem my_gU {y0 y : MethodName} {b0 b : ByteArray} {n0 n : Nat} {r0 r : Option FieldType} {x : MethodName} {own C owner : String} {idx : Nat} (h0 : Cond.methodLink own idx x ∈ gw) (h1 : Cond.sameMethod x.cls owner x.name x.desc ∈ gw) (h2 : Cond.selects C x y ∈ gw) (h3 : Cond.instanceMethod y ∈ gw) (h4 : Cond.initialized y.cls ∈ gw) (h5 : Cond.code y b n r ∈ gw) : GoodIn (Cond.code y0 b0 n0 r0 :: gw) (va_wsU own idx C owner x y (Cond.code y b n r :: gw)) := by
  intro w hw
  have hw' : w ∈ gw := by
    unfold va_wsU at hw
    simp only [List.cons_append, List.nil_append, List.mem_cons] at hw
    rcases hw with rfl | rfl | rfl | rfl | rfl | rfl | h
    · exact h0
    · exact h1
    · exact h2
    · exact h3
    · exact h4
    · exact h5
    · exact h
  exact ⟨List.mem_cons_of_mem _ hw', (gw_good w hw').2⟩
theorem my_gO {y0 y : MethodName} {b0 b : ByteArray} {n0 n : Nat} {r0 r : Option FieldType} {x : MethodName} {own C owner : String} {idx : Nat} (h0 : Cond.methodLink own idx x ∈ gw) (h1 : Cond.sameMethod x.cls owner x.name x.desc ∈ gw) (h2 : Cond.instanceMethod ⟨owner, x.name, x.desc⟩ ∈ gw) (h3 : Cond.selects C x y ∈ gw) (h4 : Cond.instanceMethod y ∈ gw) (h5 : Cond.initialized y.cls ∈ gw) (h6 : Cond.code y b n r ∈ gw) : GoodIn (Cond.code y0 b0 n0 r0 :: gw) (va_wsO own idx C owner x y (Cond.code y b n r :: gw)) := by
  intro w hw
  have hw' : w ∈ gw := by
    unfold va_wsO at hw
    simp only [List.cons_append, List.nil_append, List.mem_cons] at hw
    rcases hw with rfl | rfl | rfl | rfl | rfl | rfl | rfl | h
    · exact h0
    · exact h1
    · exact h2
    · exact h3
    · exact h4
    · exact h5
    · exact h6
    · exact h
  exact ⟨List.mem_cons_of_mem _ hw', (gw_good w hw').2⟩
theorem my_gSU {y0 y : MethodName} {b0 b : ByteArray} {n0 n : Nat} {r0 r : Option FieldType} {own : String} {idx : Nat} (h0 : Cond.methodLink own idx y ∈ gw) (h1 : Cond.sameMethod y.cls y.cls y.name y.desc ∈ gw) (h2 : Cond.superclass own y.cls ∈ gw) (h3 : Cond.instanceMethod y ∈ gw) (h4 : Cond.initialized y.cls ∈ gw) (h5 : Cond.code y b n r ∈ gw) : GoodIn (Cond.code y0 b0 n0 r0 :: gw) (va_wsSU own idx y (Cond.code y b n r :: gw)) := by
  intro w hw
  have hw' : w ∈ gw := by
    unfold va_wsSU at hw
    simp only [List.cons_append, List.nil_append, List.mem_cons] at hw
    rcases hw with rfl | rfl | rfl | rfl | rfl | rfl | h
    · exact h0
    · exact h1
    · exact h2
    · exact h3
    · exact h4
    · exact h5
    · exact h
  exact ⟨List.mem_cons_of_mem _ hw', (gw_good w hw').2⟩
/-! numbers -/
theorem I_up {i j v : Int32} (h : ¬ j ≤ i) (ev : v = i + 1) : v.toInt = i.toInt + 1 ∧ i.toInt < j.toInt := by
  subst ev
  rw [Int32.le_iff_toInt_le] at h
  have := Int32.toInt_lt j
  have := Int32.le_toInt i
  rw [Int32.toInt_add]
  have e1 : (1 : Int32).toInt = 1 := rfl
  rw [e1]
  have e2 : (i.toInt + 1).bmod (2 ^ 32) = i.toInt + 1 := by
    apply Int.bmod_eq_of_le <;> omega
  rw [e2]
  omega
theorem I_dn {i v : Int32} (h : ¬ i < 0) (ev : v = i + (-1)) : v.toInt = i.toInt - 1 ∧ 0 ≤ i.toInt := by
  subst ev
  rw [Int32.lt_iff_toInt_lt] at h
  have e0 : (0 : Int32).toInt = 0 := rfl
  rw [e0] at h
  have := Int32.toInt_lt i
  rw [Int32.toInt_add]
  have e1 : (-1 : Int32).toInt = -1 := rfl
  rw [e1]
  have e2 : (i.toInt + -1).bmod (2 ^ 32) = i.toInt + -1 := by
    apply Int.bmod_eq_of_le <;> omega
  rw [e2]
  omega
theorem I_dnp {i v : Int32} (h : ¬ i ≤ 0) (ev : v = i + (-1)) : v.toInt = i.toInt - 1 ∧ 0 < i.toInt := by
  rw [Int32.le_iff_toInt_le] at h
  have e0 : (0 : Int32).toInt = 0 := rfl
  rw [e0] at h
  have z := I_dn (i := i) (v := v) (by rw [Int32.lt_iff_toInt_lt, e0]; omega) ev
  omega
theorem I_in {i : Int32} {n : Nat} (hn : n < 2 ^ 31) (h0 : 0 ≤ i.toInt) (h1 : ¬ nI n ≤ i) : vp_in i n := by
  refine in_of' hn ?_ h1
  rw [Int32.le_iff_toInt_le]
  exact h0
theorem I_in' {i : Int32} {n : Nat} (hn : n < 2 ^ 31) (h0 : ¬ i < 0) (h1 : ¬ nI n ≤ i) : vp_in i n := by
  refine I_in hn ?_ h1
  rw [Int32.lt_iff_toInt_lt] at h0
  have e0 : (0 : Int32).toInt = 0 := rfl
  rw [e0] at h0
  omega
theorem I_nz {t : Int32} (h : ¬ t ≤ 0) : t ≠ 0 := fun e => h (by rw [e]; decide)
theorem L_nz {t : Int64} (h : ¬ t ≤ 0) : t ≠ 0 := fun e => h (by rw [e]; decide)
theorem L_nzi {t : Int32} (h : ¬ t ≤ 0) : t.toInt64 ≠ 0 := by
  intro h1
  have h2 : t.toInt64.toInt = (0 : Int64).toInt := by rw [h1]
  rw [Int32.toInt_toInt64] at h2
  have e0 : (0 : Int64).toInt = 0 := rfl
  rw [e0] at h2
  apply h
  rw [Int32.le_iff_toInt_le]
  have e1 : (0 : Int32).toInt = 0 := rfl
  rw [e1]
  omega
/-- a row: so many of so much room -/
def rOk (n : Int32) (cap : Nat) : Prop := 0 ≤ n.toInt ∧ n.toInt ≤ cap ∧ 1 ≤ cap ∧ cap ≤ 16384
/-- what a row may still make -/
def rPh (cap : Nat) : Nat := 32768 - 2 * cap
theorem rOk_0 {n : Int32} {cap : Nat} (h : rOk n cap) : rOk 0 cap := ⟨by decide, by have := h.2.2.1; have e : (0 : Int32).toInt = 0 := rfl; omega, h.2.2⟩
theorem rPh_2 {cap : Nat} (h1 : 1 ≤ cap) (h : cap < 8192) : 1 + rPh (2 * cap) ≤ rPh cap ∧ 2 * cap + rPh (2 * cap) ≤ rPh cap := by
  unfold rPh
  omega
theorem I_nzp {t : Int32} (h : 0 < t) : ¬ t = 0 := fun e => by rw [e] at h; exact absurd h (by decide)
theorem I_up9 {i v : Int32} (h : ¬ (9 : Int32) < i) (ev : v = i + 1) : v.toInt = i.toInt + 1 ∧ i.toInt < 10 := by
  have e9 : (9 : Int32).toInt = 9 := rfl
  have e10 : (10 : Int32).toInt = 10 := rfl
  rw [Int32.lt_iff_toInt_lt, e9] at h
  have z := I_up (i := i) (j := 10) (v := v) (by rw [Int32.le_iff_toInt_le, e10]; omega) ev
  rw [e10] at z
  exact z
theorem I_dn8 {i v : Int32} (h : ¬ i < 0) (ev : v = i + (-8)) : v.toInt = i.toInt - 8 ∧ 0 ≤ i.toInt := by
  subst ev
  rw [Int32.lt_iff_toInt_lt] at h
  have e0 : (0 : Int32).toInt = 0 := rfl
  rw [e0] at h
  have := Int32.toInt_lt i
  rw [Int32.toInt_add]
  have e1 : (-8 : Int32).toInt = -8 := rfl
  rw [e1]
  have e2 : (i.toInt + -8).bmod (2 ^ 32) = i.toInt + -8 := by
    apply Int.bmod_eq_of_le <;> omega
  rw [e2]
  omega
theorem I_lenz {i : Int32} {n : Nat} (hn : n < 2 ^ 31) (h0 : ¬ i < 0) (h1 : ¬ nI n ≤ i) : ¬ nI n = 0 := by
  intro h2
  rw [h2] at h1
  rw [Int32.lt_iff_toInt_lt] at h0
  rw [Int32.le_iff_toInt_le] at h1
  omega
theorem rw_dbl (k : Nat) : nI k * 2 = nI (2 * k) := by
  rw [show (2 : Int32) = nI 2 from rfl, Nat.mul_comm 2 k]
  exact pk_mul k 2
theorem nI_inj {a b : Nat} (ha : a < 2 ^ 31) (hb : b < 2 ^ 31) (h : nI a = nI b) : a = b := by
  have h1 : (nI a).toInt = (nI b).toInt := by rw [h]
  rw [nI_toInt ha, nI_toInt hb] at h1
  omega
theorem rOk_2 {n : Int32} {cap : Nat} (h : rOk n cap) (h1 : cap < 8192) : rOk n (2 * cap) := by
  obtain ⟨a, b, c, d⟩ := h
  exact ⟨a, by omega, by omega, by omega⟩
theorem rOk_lt {n : Int32} {cap : Nat} (h : rOk n cap) : cap ≤ 16384 ∧ 1 ≤ cap := ⟨h.2.2.2, h.2.2.1⟩
theorem rw_lt {cap : Nat} (hc : cap ≤ 16384) (h : ¬ (8192 : Int32) ≤ nI cap) : cap < 8192 := by
  rw [Int32.le_iff_toInt_le, nI_toInt (by omega)] at h
  have e : (8192 : Int32).toInt = 8192 := rfl
  rw [e] at h
  omega
section TLS
variable {D : va_G} {cl : List vw_C} {X cx pl : va_W} {H : Heap} {A : Nat → Prop}
theorem my_dubT (h : va_D A (X ++ pl)) (is : List Nat) (hn : va_nd is = true) (hs : is.map (fun i => X[i]?) = cx.map some) : va_D A cx := by
  have h2 := h.part is hn hs
  refine ⟨fun i j p q hi hj e => h2.1 i j p q ?_ ?_ e, fun k q hk => h2.2 k q ?_⟩
  · rw [List.getElem?_append_left (List.getElem?_eq_some_iff.mp hi).1]; exact hi
  · rw [List.getElem?_append_left (List.getElem?_eq_some_iff.mp hj).1]; exact hj
  · rw [List.getElem?_append_left (List.getElem?_eq_some_iff.mp hk).1]; exact hk
end TLS
theorem my_cwS2 {R : Room} {s : State} {args : Array Value} {own : String} {index maxL mc ms : Nat} {y : MethodName} {bytes : ByteArray} {ret : Option FieldType} {Ts ws ws' : List Cond} {rm : Room} (n : Nat) (ht : ∀ w ∈ Ts, w.before args s = true) (hG : GoodIn Ts ws) (hw : ws = Cond.code y bytes maxL ret :: ws') (hrc : rm.cells = mc) (hrs : rm.slots = ms) (hini : (Cond.initialized y.cls).before args s = true) (hl : (Cond.methodLink own index y).before args s = true) (hst : (Cond.static y).before args s = true)
    (hd : y.cls ≠ "java/lang/invoke/MethodHandle" ∧ y.cls ≠ "java/lang/invoke/VarHandle" ∧ (parseMethodDescriptor y.desc).map (fun d => d.parameters.length) = some n) (hR : rm.frames + 1 ≤ R.frames ∧ 8 + (maxL + 11) + rm.locals ≤ R.locals) :
    CallB R s args own index y bytes maxL ret ws rm mc ms n ∧ (Cond.static y).before args s = true := ⟨callB_of n ht hG hw hrc hrs hini hl hd hR, hst⟩

