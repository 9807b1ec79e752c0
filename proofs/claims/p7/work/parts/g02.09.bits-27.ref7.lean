section
/-! ===== lN n to 2^64: shifts, and, or, masks, one bit ===== -/
theorem wb_tb (n : Nat) : (lN n).toBitVec = BitVec.ofNat 64 n := rfl
theorem wb_inj {a b : Int64} (h : a.toBitVec = b.toBitVec) : a = b := Int64.toBitVec_inj.mp h
theorem wb_tn {n : Nat} (h : n < 2 ^ 64) : (lN n).toBitVec.toNat = n := by rw [wb_tb, BitVec.toNat_ofNat, Nat.mod_eq_of_lt h]
theorem wb_c : ∀ k, k < 64 → ((nI k).toInt64 &&& 63) = lN k := by decide +kernel
theorem wb_cu : ∀ k, k < 64 → ((nI k).toInt64.toUInt64 &&& Int64.toUInt64 63) = UInt64.ofNat k := by decide +kernel
theorem wb_sm : ∀ k, k < 64 → (BitVec.ofNat 64 k).smod 64 = BitVec.ofNat 64 k := by decide +kernel
theorem wb_lt2 {a b : Nat} (h : a < b) : 2 ^ a < 2 ^ b := Nat.pow_lt_pow_right (by decide) h
theorem wb_mod (n : Nat) : lN n = lN (n % 2 ^ 64) := wb_inj (by rw [wb_tb, wb_tb]; apply BitVec.eq_of_toNat_eq; rw [BitVec.toNat_ofNat, BitVec.toNat_ofNat, Nat.mod_mod])
theorem wb_shr {n k : Nat} (hn : n < 2 ^ 64) (hk : k < 64) : ((lN n).toUInt64 >>> ((nI k).toInt64.toUInt64 &&& Int64.toUInt64 63)).toInt64 = lN (n / 2 ^ k) := by
  rw [wb_cu k hk]
  apply wb_inj
  apply BitVec.eq_of_toNat_eq
  show ((lN n).toUInt64 >>> UInt64.ofNat k).toNat = (BitVec.ofNat 64 _).toNat
  have h1 : (UInt64.ofNat k).toNat = k := by
    show (BitVec.ofNat 64 k).toNat = k
    rw [BitVec.toNat_ofNat, Nat.mod_eq_of_lt (by omega)]
  have h2 : (lN n).toUInt64.toNat = n := wb_tn hn
  rw [UInt64.toNat_shiftRight, h1, h2, Nat.mod_eq_of_lt hk, Nat.shiftRight_eq_div_pow, BitVec.toNat_ofNat, Nat.mod_eq_of_lt (Nat.lt_of_le_of_lt (Nat.div_le_self _ _) hn)]
theorem wb_shl (n : Nat) {k : Nat} (hk : k < 64) : lN n <<< ((nI k).toInt64 &&& 63) = lN (n * 2 ^ k) := by
  rw [wb_c k hk]
  apply wb_inj
  rw [Int64.toBitVec_shiftLeft, wb_tb, wb_tb, wb_tb, wb_sm k hk]
  apply BitVec.eq_of_toNat_eq
  rw [BitVec.shiftLeft_eq', BitVec.toNat_shiftLeft, BitVec.toNat_ofNat, BitVec.toNat_ofNat, BitVec.toNat_ofNat, Nat.mod_eq_of_lt (show k < 2 ^ 64 by omega), Nat.shiftLeft_eq, Nat.mul_mod, Nat.mod_mod, ← Nat.mul_mod]
theorem wb_and {a b : Nat} (ha : a < 2 ^ 64) (hb : b < 2 ^ 64) : lN a &&& lN b = lN (a &&& b) := by
  apply wb_inj
  rw [Int64.toBitVec_and, wb_tb, wb_tb, wb_tb]
  apply BitVec.eq_of_toNat_eq
  rw [BitVec.toNat_and, BitVec.toNat_ofNat, BitVec.toNat_ofNat, BitVec.toNat_ofNat, Nat.mod_eq_of_lt ha, Nat.mod_eq_of_lt hb, Nat.mod_eq_of_lt (Nat.and_lt_two_pow _ hb)]
theorem wb_mask {n k : Nat} (hn : n < 2 ^ 64) (hk : k < 64) : lN n &&& lN (2 ^ k - 1) = lN (n % 2 ^ k) := by
  rw [wb_and hn (by have := wb_lt2 hk; omega), Nat.and_two_pow_sub_one_eq_mod]
theorem wb_a1 {n : Nat} (hn : n < 2 ^ 64) : lN n &&& 1 = lN (n % 2) := wb_mask (k := 1) hn (by decide)
/-! ===== lN: masks, 'or' of parts that don't overlap is a sum ===== -/
theorem u_tn {n : Nat} (h : n < 2 ^ 64) : (UInt64.ofNat n).toNat = n := Nat.mod_eq_of_lt h
theorem g_and {a b c : Nat} (ha : a < 2 ^ 64) (hb : b < 2 ^ 64) (hc : a &&& b = c) : lN a &&& lN b = lN c := by
  subst hc
  have h : UInt64.ofNat a &&& UInt64.ofNat b = UInt64.ofNat (a &&& b) := UInt64.toNat_inj.mp (by rw [UInt64.toNat_and, u_tn ha, u_tn hb, u_tn (Nat.and_lt_two_pow a hb)])
  have h2 := congrArg UInt64.toInt64 h
  exact h2
theorem g_mask {a s p : Nat} (hp : 2 ^ s = p) (hs : s < 64) (ha : a < 2 ^ 64) : lN a &&& lN (p - 1) = lN (a % p) := by
  subst hp
  have := Nat.pow_lt_pow_right (show 1 < 2 by decide) hs
  exact g_and ha (by omega) (Nat.and_two_pow_sub_one_eq_mod a s)
theorem g_or {k p a b : Nat} (hp : 2 ^ k = p) (ha : a < p) (h : b * p + a < 2 ^ 64) : lN (b * p) ||| lN a = lN (b * p + a) := by
  subst hp
  have h1 : b * 2 ^ k ||| a = b * 2 ^ k + a := by rw [← Nat.shiftLeft_eq, Nat.shiftLeft_add_eq_or_of_lt ha]
  have h3 : UInt64.ofNat (b * 2 ^ k) ||| UInt64.ofNat a = UInt64.ofNat (b * 2 ^ k + a) := UInt64.toNat_inj.mp (by rw [UInt64.toNat_or, u_tn (by omega), u_tn (by omega), u_tn h, h1])
  have h2 := congrArg UInt64.toInt64 h3
  exact h2
/-! ===== lN to 2^62 under >> and >>> ===== -/
theorem pf_lI {a : Nat} (h : a < 2 ^ 63) : (lN a).toInt = (a : Int) := lg_ofNat_toInt h
theorem pf_shr {a d : Nat} {D : Int64} (hD : (D.toBitVec.smod 64).toNat = d) (h : a < 2 ^ 62) : lN a >>> D = lN (a / 2 ^ d) := by
  have hd : a / 2 ^ d ≤ a := Nat.div_le_self _ _
  apply Int64.toInt_inj.mp
  have e : (lN a >>> D).toInt = (lN a).toInt >>> d := by
    rw [← hD]
    exact BitVec.toInt_sshiftRight ..
  rw [e, Int.shiftRight_eq_div_pow, pf_lI (by omega), pf_lI (by omega)]
  rfl
end
section
/-! OWN KIT: a contract's world in one word, a call in one row -/
/-- a contract's start: the world wc, in a heap of sz cells -/
def my_P (D : va_G) (cl : List vw_C) (tys : List (ClassId × FieldType)) (wc : va_W) (sz : Nat) (U : State) : Prop := U.heap.size = sz ∧ va_P D cl wc U.heap ∧ (va_K D cl tys U ∧ nw U) ∧ va_D (fun _ => True) wc
/-- a world in the heap, its cells free of what is kept -/
abbrev my_PD (D : va_G) (cl : List vw_C) (A : Nat → Prop) (w : va_W) (H : Heap) : Prop := va_P D cl w H ∧ va_D A w
/-- a contract's end: the world w1 u -/
def my_B {S : Type} (D : va_G) (cl : List vw_C) (tys : List (ClassId × FieldType)) (w1 : S → va_W) (A : Nat → Prop) (u : S) (t : State) : Prop := va_P D cl (w1 u) t.heap ∧ va_K D cl tys t ∧ va_D A (w1 u)
abbrev MetI {S : Type} (l : Launch) (y : MethodName) (ws : List Cond) (rm : Room) (D : va_G) (cl : List vw_C) (tys : List (ClassId × FieldType)) (av : List Value) (wc : va_W) (sz : Nat) (post : Int32 → S → Prop) (w1 : S → va_W) (mc ms : Nat) : Prop :=
  Met l y ws rm (va_Pc av (my_P D cl tys wc sz)) (va_Qi post (my_B D cl tys w1 (va_A wc sz)) (va_A wc sz)) mc ms (va_A wc sz)
abbrev MetL {S : Type} (l : Launch) (y : MethodName) (ws : List Cond) (rm : Room) (D : va_G) (cl : List vw_C) (tys : List (ClassId × FieldType)) (av : List Value) (wc : va_W) (sz : Nat) (post : Int64 → S → Prop) (w1 : S → va_W) (mc ms : Nat) : Prop :=
  Met l y ws rm (va_Pc av (my_P D cl tys wc sz)) (va_Ql post (my_B D cl tys w1 (va_A wc sz)) (va_A wc sz)) mc ms (va_A wc sz)
abbrev MetV {S : Type} (l : Launch) (y : MethodName) (ws : List Cond) (rm : Room) (D : va_G) (cl : List vw_C) (tys : List (ClassId × FieldType)) (av : List Value) (wc : va_W) (sz : Nat) (post : S → Prop) (w1 : S → va_W) (mc ms : Nat) : Prop :=
  Met l y ws rm (va_Pc av (my_P D cl tys wc sz)) (va_Qv post (my_B D cl tys w1 (va_A wc sz)) (va_A wc sz)) mc ms (va_A wc sz)
/-- an answer that is a reference or null -/
abbrev MetQ {S : Type} (l : Launch) (y : MethodName) (ws : List Cond) (rm : Room) (D : va_G) (cl : List vw_C) (tys : List (ClassId × FieldType)) (av : List Value) (wc : va_W) (sz : Nat) (post : Option Nat → S → Prop) (w1 : S → va_W) (mc ms : Nat) : Prop :=
  Met l y ws rm (va_Pc av (my_P D cl tys wc sz)) (va_Qq post (my_B D cl tys w1 (va_A wc sz)) (va_A wc sz)) mc ms (va_A wc sz)
/-- a contract's beginning -/
theorem my_of {l : Launch} {y : MethodName} {ws ws' : List Cond} {rm : Room} {D : va_G} {cl : List vw_C} {tys : List (ClassId × FieldType)} {av : List Value} {wc : va_W} {sz mc ms n : Nat} {cc : ByteArray} {ret : Option FieldType} {QF : (Nat → Prop) → Array Value → State → Outcome → State → Prop}
    (hy : plainName y.cls = true) (hw : ws = Cond.code y cc n ret :: ws') (hn : (lg_sl av).length ≤ n)
    (body : ∀ (p : Program) (e : Env) (s : State) (m : MethodId) (args : Array Value) (below : List Frame) (meth : Method) (c : Code) (R : Room) (Q : State → Prop) (A : Nat → Prop) (ls : Array Slot) (H : Heap) (locs : List Loc), p.tables.exec = Jvm.exec → c.code = cc → meth.sig.returnType = ret → (∀ w ∈ ws, w.before args s = true) → s.vm.findClass y.cls = some m.cls → meth.locks = false → c.maxLocals = n → meth.name = y.name → R = rm → Q = MQ below (QF A) args s mc ms A → (∀ q : Nat, s.heap.size ≤ q → A q) → lv_has ls n (lv_args 0 av) → va_P D cl wc H → va_K D cl tys s → nw s → va_D A wc → va_S A s.heap H locs → W p l e R s m args below meth c H locs 0 0 Q (F0 m 0 ls [])) :
    Met l y ws rm (va_Pc av (my_P D cl tys wc sz)) (QF (va_A wc sz)) mc ms (va_A wc sz) := by
  refine Met.ofW (cc := cc) (maxL := n) (ret := ret) hy hw ?_
  intro p e s m args below meth c s₁ B hml hv
  obtain ⟨ha, hsz, hP, ⟨hK, hN⟩, hD0⟩ := hv
  subst hsz
  refine W.eq (g2 := F0 m 0 ((lg_sl av ++ List.replicate (n - (lg_sl av).length) Slot.unset).toArray) []) (by rw [ha]; exact lg_entry_eq m av n) ?_
  exact body p e s m args below meth c _ _ (va_A wc s.heap.size) _ _ _ B.exec B.bytes B.returns (atoms_spec (ws := ws) B.pre) (findClass_of_methodNamed B.named) B.notSynchronized hml (name_of_methodNamed B.named B.method).1 rfl rfl (fun q h => Or.inr h) (lv_entry av hn) hP hK hN hD0.self va_S.rf
section MYK
variable {p : Program} {l : Launch} {e : Env} {R : Room} {s : State} {m : MethodId} {args : Array Value} {below : List Frame} {meth : Method} {c : Code} {H : Heap} {locs : List Loc} {cells slots : Nat} {Q : State → Prop}
variable {cc : ByteArray} {pc : Nat} {ls : Array Slot} {rest st0 : List Value} {D : va_G} {cl : List vw_C} {tys : List (ClassId × FieldType)} {A : Nat → Prop} {mc ms : Nat} {a : Array Value}
theorem my_iret {S : Type} {post : Int32 → S → Prop} {w1 : S → va_W} {v : Int32} {rt : FieldType} (hx : p.tables.exec = Jvm.exec) (hb : c.code = cc) (hr : meth.sig.returnType = some rt) (hn : narrow rt (.int v) = .int v) (hlocks : meth.locks = false) (hQ : Q = MQ below (va_Qi post (my_B D cl tys w1 A) A) args s mc ms A) (hK : va_K D cl tys s) (hS : va_S A s.heap H locs) (hc : cells ≤ mc) (hsl : slots ≤ ms) (u : S) (hp : post v u) (hP : va_P D cl (w1 u) H) (hD : va_D A (w1 u)) (hdg : decode cc pc = .ok (.ireturn, 1)) : W p l e R s m args below meth c H locs cells slots Q (F0 m pc ls [Value.int v]) := by
  subst hQ
  refine W.widen hc hsl ?_
  exact W.zret (v := v) hx hb hr hn (fun t ht hW => ⟨⟨v, u, rfl, hp, by rw [ht]; exact hP, va_K.moved hW.alike hK, hD⟩, hS.F ht⟩) hS.2.2 hdg hlocks
theorem my_lret {S : Type} {post : Int64 → S → Prop} {w1 : S → va_W} {v : Int64} (hx : p.tables.exec = Jvm.exec) (hb : c.code = cc) (hr : meth.sig.returnType = some .long) (hlocks : meth.locks = false) (hQ : Q = MQ below (va_Ql post (my_B D cl tys w1 A) A) args s mc ms A) (hK : va_K D cl tys s) (hS : va_S A s.heap H locs) (hc : cells ≤ mc) (hsl : slots ≤ ms) (u : S) (hp : post v u) (hP : va_P D cl (w1 u) H) (hD : va_D A (w1 u)) (hdg : decode cc pc = .ok (.lreturn, 1)) : W p l e R s m args below meth c H locs cells slots Q (F0 m pc ls [Value.long v]) := by
  subst hQ
  refine W.widen hc hsl ?_
  exact W.lret (v := v) hx hb hr (fun t ht hW => ⟨⟨v, u, rfl, hp, by rw [ht]; exact hP, va_K.moved hW.alike hK, hD⟩, hS.F ht⟩) hS.2.2 hdg hlocks
theorem my_vret {S : Type} {post : S → Prop} {w1 : S → va_W} (hx : p.tables.exec = Jvm.exec) (hb : c.code = cc) (hr : meth.sig.returnType = none) (hlocks : meth.locks = false) (hQ : Q = MQ below (va_Qv post (my_B D cl tys w1 A) A) args s mc ms A) (hK : va_K D cl tys s) (hS : va_S A s.heap H locs) (hc : cells ≤ mc) (hsl : slots ≤ ms) (u : S) (hp : post u) (hP : va_P D cl (w1 u) H) (hD : va_D A (w1 u)) (hdg : decode cc pc = .ok (.return_, 1)) : W p l e R s m args below meth c H locs cells slots Q (F0 m pc ls []) := by
  subst hQ
  refine W.widen hc hsl ?_
  exact W.vret hx hb hr (fun t ht hW => ⟨⟨u, rfl, hp, by rw [ht]; exact hP, va_K.moved hW.alike hK, hD⟩, hS.F ht⟩) hS.2.2 hdg hlocks
theorem my_qret {S : Type} {post : Option Nat → S → Prop} {w1 : S → va_W} {v : Option Nat} {rt : FieldType} (hx : p.tables.exec = Jvm.exec) (hb : c.code = cc) (hr : meth.sig.returnType = some rt) (hrt : (∃ n, rt = .object n) ∨ ∃ t, rt = .array t) (hlocks : meth.locks = false) (hQ : Q = MQ below (va_Qq post (my_B D cl tys w1 A) A) args s mc ms A) (hK : va_K D cl tys s) (hS : va_S A s.heap H locs) (hc : cells ≤ mc) (hsl : slots ≤ ms) (u : S) (hp : post v u) (hP : va_P D cl (w1 u) H) (hD : va_D A (w1 u)) (hdg : decode cc pc = .ok (.areturn, 1)) : W p l e R s m args below meth c H locs cells slots Q (F0 m pc ls [va_rf v]) := by
  subst hQ
  refine W.widen hc hsl ?_
  exact W.aret (v := va_rf v) hx hb hr hrt (va_rf_or v) (fun t ht hW => ⟨⟨v, u, rfl, hp, by rw [ht]; exact hP, va_K.moved hW.alike hK, hD⟩, hS.F ht⟩) hS.2.2 hdg hlocks
/-- what a receiver must be -/
theorem my_pre {wc : va_W} {As : List Value} (hK : va_K D cl tys s) (hN : nw s) (hPc : va_P D cl wc H) (hDc : va_D A wc) : FrameBlind (va_Pc As (my_P D cl tys wc H.size)) ∧ ∀ U : State, U.heap = H → s.WarmedH U.vm → va_Pc As (my_P D cl tys wc H.size) As.toArray U :=
  ⟨fun a U g mk q => ⟨q.1, q.2.1, q.2.2.1, ⟨va_K.moved (u := U) (U := U.calling g mk a) (Vm.Alike.refl U.vm) q.2.2.2.1.1, nw.same (s := U) (U := U.calling g mk a) rfl q.2.2.2.1.2⟩, q.2.2.2.2⟩, fun U hU hW => ⟨rfl, by rw [hU], by rw [hU]; exact hPc, ⟨va_K.moved hW.alike hK, nw.warm hW hN⟩, hDc.weaken (fun _ _ _ _ => trivial)⟩⟩
theorem my_preV {wc : va_W} {As : List Value} {b : Nat} {ci : Nat} {fs : List Value} {C9 : String} {T9 : u_T} {N9 : Nat} (hK : va_K D cl tys s) (hN : nw s) (hPc : va_P D cl wc H) (hDc : va_D A wc) (q0 : Nat) (h0 : wc[q0]? = some (b, Sum.inr (ci, fs))) (hc : cl[ci]? = some (C9, T9, N9)) : PreV s H C9 b (va_Pc (.ref b :: As) (my_P D cl tys wc H.size)) As :=
  ⟨(my_pre (As := .ref b :: As) hK hN hPc hDc).1, va_recv hK hPc (ci := ci) (q0 := q0) hc h0, (my_pre (As := .ref b :: As) hK hN hPc hDc).2⟩
/-- behind a call -/
theorem my_ci {S : Type} {post : Int32 → S → Prop} {w1 : S → va_W} {ws wc wr : va_W} (hr : va_Run p l e R s m args below meth c H locs cells slots mc ms (F0 m pc ls st0) rest (va_Qi post (my_B D cl tys w1 (va_A wc H.size)) (va_A wc H.size) a) (va_A wc H.size)) (hP : va_P D cl ws H) (hD : va_D A ws) (hS : va_S A s.heap H locs) (hA : ∀ q : Nat, s.heap.size ≤ q → A q) (isC isR : List Nat) (hC : isC.map (fun i => ws[i]?) = wc.map some) (hR : isR.map (fun i => ws[i]?) = wr.map some) (hn : va_nd isR = true) (hdis : ∀ i ∈ isR, i ∉ isC)
    (kk : ∀ (r : Int32) (u : S) (H1 : Heap) (locs1 : List Loc), post r u → va_P D cl (wr ++ w1 u) H1 → va_D A (wr ++ w1 u) → va_S A s.heap H1 locs1 → W p l e R s m args below meth c H1 locs1 (cells + mc) (slots + ms) Q (F0 m (pc + 3) ls (.int r :: rest))) : W p l e R s m args below meth c H locs cells slots Q (F0 m pc ls st0) := by
  have hFc := va_free (wc := wc) hD hS hA isC hC
  refine va_calli hr hS (fun q _ h => hFc q h) hFc (fun r u t H1 locs1 ht hvm hw hB hz1 hk1 hS1 => ?_)
  obtain ⟨hP1, hK1, hD1⟩ := hB
  rw [ht] at hP1
  obtain ⟨hP2, hD2⟩ := va_join hP hD isC isR hC hR hn hdis hk1 hFc hP1 hD1
  exact kk r u H1 locs1 hw hP2 hD2 hS1
theorem my_cl {S : Type} {post : Int64 → S → Prop} {w1 : S → va_W} {ws wc wr : va_W} (hr : va_Run p l e R s m args below meth c H locs cells slots mc ms (F0 m pc ls st0) rest (va_Ql post (my_B D cl tys w1 (va_A wc H.size)) (va_A wc H.size) a) (va_A wc H.size)) (hP : va_P D cl ws H) (hD : va_D A ws) (hS : va_S A s.heap H locs) (hA : ∀ q : Nat, s.heap.size ≤ q → A q) (isC isR : List Nat) (hC : isC.map (fun i => ws[i]?) = wc.map some) (hR : isR.map (fun i => ws[i]?) = wr.map some) (hn : va_nd isR = true) (hdis : ∀ i ∈ isR, i ∉ isC)
    (kk : ∀ (r : Int64) (u : S) (H1 : Heap) (locs1 : List Loc), post r u → va_P D cl (wr ++ w1 u) H1 → va_D A (wr ++ w1 u) → va_S A s.heap H1 locs1 → W p l e R s m args below meth c H1 locs1 (cells + mc) (slots + ms) Q (F0 m (pc + 3) ls (.long r :: rest))) : W p l e R s m args below meth c H locs cells slots Q (F0 m pc ls st0) := by
  have hFc := va_free (wc := wc) hD hS hA isC hC
  refine va_calll hr hS (fun q _ h => hFc q h) hFc (fun r u t H1 locs1 ht hvm hw hB hz1 hk1 hS1 => ?_)
  obtain ⟨hP1, hK1, hD1⟩ := hB
  rw [ht] at hP1
  obtain ⟨hP2, hD2⟩ := va_join hP hD isC isR hC hR hn hdis hk1 hFc hP1 hD1
  exact kk r u H1 locs1 hw hP2 hD2 hS1
theorem my_cv {S : Type} {post : S → Prop} {w1 : S → va_W} {ws wc wr : va_W} (hr : va_Run p l e R s m args below meth c H locs cells slots mc ms (F0 m pc ls st0) rest (va_Qv post (my_B D cl tys w1 (va_A wc H.size)) (va_A wc H.size) a) (va_A wc H.size)) (hP : va_P D cl ws H) (hD : va_D A ws) (hS : va_S A s.heap H locs) (hA : ∀ q : Nat, s.heap.size ≤ q → A q) (isC isR : List Nat) (hC : isC.map (fun i => ws[i]?) = wc.map some) (hR : isR.map (fun i => ws[i]?) = wr.map some) (hn : va_nd isR = true) (hdis : ∀ i ∈ isR, i ∉ isC)
    (kk : ∀ (u : S) (H1 : Heap) (locs1 : List Loc), post u → va_P D cl (wr ++ w1 u) H1 → va_D A (wr ++ w1 u) → va_S A s.heap H1 locs1 → W p l e R s m args below meth c H1 locs1 (cells + mc) (slots + ms) Q (F0 m (pc + 3) ls rest)) : W p l e R s m args below meth c H locs cells slots Q (F0 m pc ls st0) := by
  have hFc := va_free (wc := wc) hD hS hA isC hC
  refine va_callv hr hS (fun q _ h => hFc q h) hFc (fun u t H1 locs1 ht hvm hw hB hz1 hk1 hS1 => ?_)
  obtain ⟨hP1, hK1, hD1⟩ := hB
  rw [ht] at hP1
  obtain ⟨hP2, hD2⟩ := va_join hP hD isC isR hC hR hn hdis hk1 hFc hP1 hD1
  exact kk u H1 locs1 hw hP2 hD2 hS1
theorem my_cq {S : Type} {post : Option Nat → S → Prop} {w1 : S → va_W} {ws wc wr : va_W} (hr : va_Run p l e R s m args below meth c H locs cells slots mc ms (F0 m pc ls st0) rest (va_Qq post (my_B D cl tys w1 (va_A wc H.size)) (va_A wc H.size) a) (va_A wc H.size)) (hP : va_P D cl ws H) (hD : va_D A ws) (hS : va_S A s.heap H locs) (hA : ∀ q : Nat, s.heap.size ≤ q → A q) (isC isR : List Nat) (hC : isC.map (fun i => ws[i]?) = wc.map some) (hR : isR.map (fun i => ws[i]?) = wr.map some) (hn : va_nd isR = true) (hdis : ∀ i ∈ isR, i ∉ isC)
    (kk : ∀ (r : Option Nat) (u : S) (H1 : Heap) (locs1 : List Loc), post r u → va_P D cl (wr ++ w1 u) H1 → va_D A (wr ++ w1 u) → va_S A s.heap H1 locs1 → W p l e R s m args below meth c H1 locs1 (cells + mc) (slots + ms) Q (F0 m (pc + 3) ls (va_rf r :: rest))) : W p l e R s m args below meth c H locs cells slots Q (F0 m pc ls st0) := by
  have hFc := va_free (wc := wc) hD hS hA isC hC
  refine va_callq hr hS (fun q _ h => hFc q h) hFc (fun r u t H1 locs1 ht hvm hw hB hz1 hk1 hS1 => ?_)
  obtain ⟨hP1, hK1, hD1⟩ := hB
  rw [ht] at hP1
  obtain ⟨hP2, hD2⟩ := va_join hP hD isC isR hC hR hn hdis hk1 hFc hP1 hD1
  exact kk r u H1 locs1 hw hP2 hD2 hS1
end MYK
theorem my_ofI {S : Type} {l : Launch} {y : MethodName} {ws ws' : List Cond} {rm : Room} {D : va_G} {cl : List vw_C} {tys : List (ClassId × FieldType)} {av : List Value} {wc : va_W} {sz mc ms n : Nat} {cc : ByteArray} {ret : Option FieldType} {post : Int32 → S → Prop} {w1 : S → va_W}
    (hy : plainName y.cls = true) (hw : ws = Cond.code y cc n ret :: ws') (hn : (lg_sl av).length ≤ n)
    (body : ∀ (p : Program) (e : Env) (s : State) (m : MethodId) (args : Array Value) (below : List Frame) (meth : Method) (c : Code) (R : Room) (Q : State → Prop) (A : Nat → Prop) (ls : Array Slot) (H : Heap) (locs : List Loc), p.tables.exec = Jvm.exec → c.code = cc → meth.sig.returnType = ret → (∀ w ∈ ws, w.before args s = true) → s.vm.findClass y.cls = some m.cls → meth.locks = false → c.maxLocals = n → meth.name = y.name → R = rm → Q = MQ below (va_Qi post (my_B D cl tys w1 A) A) args s mc ms A → (∀ q : Nat, s.heap.size ≤ q → A q) → lv_has ls n (lv_args 0 av) → va_P D cl wc H → va_K D cl tys s → nw s → va_D A wc → va_S A s.heap H locs → W p l e R s m args below meth c H locs 0 0 Q (F0 m 0 ls [])) :
    MetI l y ws rm D cl tys av wc sz post w1 mc ms := my_of (QF := fun A => va_Qi post (my_B D cl tys w1 A) A) hy hw hn body
theorem my_ofL {S : Type} {l : Launch} {y : MethodName} {ws ws' : List Cond} {rm : Room} {D : va_G} {cl : List vw_C} {tys : List (ClassId × FieldType)} {av : List Value} {wc : va_W} {sz mc ms n : Nat} {cc : ByteArray} {ret : Option FieldType} {post : Int64 → S → Prop} {w1 : S → va_W}
    (hy : plainName y.cls = true) (hw : ws = Cond.code y cc n ret :: ws') (hn : (lg_sl av).length ≤ n)
    (body : ∀ (p : Program) (e : Env) (s : State) (m : MethodId) (args : Array Value) (below : List Frame) (meth : Method) (c : Code) (R : Room) (Q : State → Prop) (A : Nat → Prop) (ls : Array Slot) (H : Heap) (locs : List Loc), p.tables.exec = Jvm.exec → c.code = cc → meth.sig.returnType = ret → (∀ w ∈ ws, w.before args s = true) → s.vm.findClass y.cls = some m.cls → meth.locks = false → c.maxLocals = n → meth.name = y.name → R = rm → Q = MQ below (va_Ql post (my_B D cl tys w1 A) A) args s mc ms A → (∀ q : Nat, s.heap.size ≤ q → A q) → lv_has ls n (lv_args 0 av) → va_P D cl wc H → va_K D cl tys s → nw s → va_D A wc → va_S A s.heap H locs → W p l e R s m args below meth c H locs 0 0 Q (F0 m 0 ls [])) :
    MetL l y ws rm D cl tys av wc sz post w1 mc ms := my_of (QF := fun A => va_Ql post (my_B D cl tys w1 A) A) hy hw hn body
theorem my_ofV {S : Type} {l : Launch} {y : MethodName} {ws ws' : List Cond} {rm : Room} {D : va_G} {cl : List vw_C} {tys : List (ClassId × FieldType)} {av : List Value} {wc : va_W} {sz mc ms n : Nat} {cc : ByteArray} {ret : Option FieldType} {post : S → Prop} {w1 : S → va_W}
    (hy : plainName y.cls = true) (hw : ws = Cond.code y cc n ret :: ws') (hn : (lg_sl av).length ≤ n)
    (body : ∀ (p : Program) (e : Env) (s : State) (m : MethodId) (args : Array Value) (below : List Frame) (meth : Method) (c : Code) (R : Room) (Q : State → Prop) (A : Nat → Prop) (ls : Array Slot) (H : Heap) (locs : List Loc), p.tables.exec = Jvm.exec → c.code = cc → meth.sig.returnType = ret → (∀ w ∈ ws, w.before args s = true) → s.vm.findClass y.cls = some m.cls → meth.locks = false → c.maxLocals = n → meth.name = y.name → R = rm → Q = MQ below (va_Qv post (my_B D cl tys w1 A) A) args s mc ms A → (∀ q : Nat, s.heap.size ≤ q → A q) → lv_has ls n (lv_args 0 av) → va_P D cl wc H → va_K D cl tys s → nw s → va_D A wc → va_S A s.heap H locs → W p l e R s m args below meth c H locs 0 0 Q (F0 m 0 ls [])) :
    MetV l y ws rm D cl tys av wc sz post w1 mc ms := my_of (QF := fun A => va_Qv post (my_B D cl tys w1 A) A) hy hw hn body
theorem my_ofQ {S : Type} {l : Launch} {y : MethodName} {ws ws' : List Cond} {rm : Room} {D : va_G} {cl : List vw_C} {tys : List (ClassId × FieldType)} {av : List Value} {wc : va_W} {sz mc ms n : Nat} {cc : ByteArray} {ret : Option FieldType} {post : Option Nat → S → Prop} {w1 : S → va_W}
    (hy : plainName y.cls = true) (hw : ws = Cond.code y cc n ret :: ws') (hn : (lg_sl av).length ≤ n)
    (body : ∀ (p : Program) (e : Env) (s : State) (m : MethodId) (args : Array Value) (below : List Frame) (meth : Method) (c : Code) (R : Room) (Q : State → Prop) (A : Nat → Prop) (ls : Array Slot) (H : Heap) (locs : List Loc), p.tables.exec = Jvm.exec → c.code = cc → meth.sig.returnType = ret → (∀ w ∈ ws, w.before args s = true) → s.vm.findClass y.cls = some m.cls → meth.locks = false → c.maxLocals = n → meth.name = y.name → R = rm → Q = MQ below (va_Qq post (my_B D cl tys w1 A) A) args s mc ms A → (∀ q : Nat, s.heap.size ≤ q → A q) → lv_has ls n (lv_args 0 av) → va_P D cl wc H → va_K D cl tys s → nw s → va_D A wc → va_S A s.heap H locs → W p l e R s m args below meth c H locs 0 0 Q (F0 m 0 ls [])) :
    MetQ l y ws rm D cl tys av wc sz post w1 mc ms := my_of (QF := fun A => va_Qq post (my_B D cl tys w1 A) A) hy hw hn body
section MYN
variable {p : Program} {l : Launch} {e : Env} {R : Room} {s : State} {m : MethodId} {args : Array Value} {below : List Frame} {meth : Method} {c : Code} {H : Heap} {locs : List Loc} {cells slots : Nat} {Q : State → Prop}
variable {cc : ByteArray} {pc : Nat} {ls : Array Slot} {rest : List Value} {D : va_G} {cl : List vw_C} {tys : List (ClassId × FieldType)} {A : Nat → Prop} {ws : va_W}
/-- a new array of ints: its class is the one that is known -/
theorem my_newi (hx : p.tables.exec = Jvm.exec) (hb : c.code = cc) (harr : (Cond.arrayClass .int).before args s = true) (hK : va_K D cl tys s) {cI : ClassId} (t0 : Nat) (ht : tys[t0]? = some (cI, .int)) (hP : va_P D cl ws H) (hD : va_D A ws) (hS : va_S A s.heap H locs) (hA : ∀ q : Nat, s.heap.size ≤ q → A q) {n : Int32} {N' : Nat} (hn : ¬ n < 0) (hN : n.toNatClampNeg = N') (hbytes : N' * 4 ≤ 536870912) (hcells : cells + 1 ≤ R.cells) (hslots : slots + N' ≤ R.slots) (hdg : decode cc pc = .ok (.newarray .int, 2))
    (kk : ∀ (q : Nat) (H1 : Heap), va_P D cl (ws ++ [(q, Sum.inl (cI, N', Sum.inl (fun _ => 0)))]) H1 → va_D A (ws ++ [(q, Sum.inl (cI, N', Sum.inl (fun _ => 0)))]) → va_S A s.heap H1 locs → W p l e R s m args below meth c H1 locs (cells + 1) (slots + N') Q (F0 m (pc + 2) ls (.ref q :: rest))) : W p l e R s m args below meth c H locs cells slots Q (F0 m pc ls (.int n :: rest)) := by
  refine va_newa hx hb (atype := .int) (ty := .int) harr rfl hK hP hD hS hA (a0 := (N', Sum.inl (fun _ => 0))) (fun cA => rfl) hn hN hbytes hcells hslots hdg (fun q cA H1 hK1 hP1 hD1 hS1 => ?_)
  have e1 := va_nm_int (hK.2 t0 _ ht).2
  have e2 := va_nm_int (hK1.2 tys.length (cA, .int) (by simp)).2
  have e3 : cA = cI := Option.some.inj (e2.symm.trans e1)
  subst e3
  exact kk q H1 hP1 hD1 hS1
theorem my_newq (hx : p.tables.exec = Jvm.exec) (hb : c.code = cc) {own C : String} {index : Nat} (hown : s.vm.findClass own = some m.cls) (hclink : (Cond.classLink own index C).before args s = true) (hover : va_AO C s) (hK : va_K D cl tys s) {cO : ClassId} (t0 : Nat) (ht : tys[t0]? = some (cO, .object C)) (hP : va_P D cl ws H) (hD : va_D A ws) (hS : va_S A s.heap H locs) (hA : ∀ q : Nat, s.heap.size ≤ q → A q) {n : Int32} {N' : Nat} (hn : ¬ n < 0) (hN : n.toNatClampNeg = N') (hbytes : N' * 4 ≤ 536870912) (hcells : cells + 1 ≤ R.cells) (hslots : slots + N' ≤ R.slots) (hdg : decode cc pc = .ok (.anewarray index, 3))
    (kk : ∀ (q : Nat) (H1 : Heap), va_P D cl (ws ++ [(q, Sum.inl (cO, N', Sum.inr (Sum.inr (Sum.inr (Sum.inr (fun _ => none))))))]) H1 → va_D A (ws ++ [(q, Sum.inl (cO, N', Sum.inr (Sum.inr (Sum.inr (Sum.inr (fun _ => none))))))]) → va_S A s.heap H1 locs → W p l e R s m args below meth c H1 locs (cells + 1) (slots + N') Q (F0 m (pc + 3) ls (.ref q :: rest))) : W p l e R s m args below meth c H locs cells slots Q (F0 m pc ls (.int n :: rest)) := by
  refine va_newq hx hb hown hclink hover hK hP hD hS hA hn hN hbytes hcells hslots hdg (fun q cA H1 hK1 hP1 hD1 hS1 => ?_)
  obtain ⟨_, _, -, -, -, e1⟩ := (hK.2 t0 _ ht).2
  obtain ⟨_, _, -, -, -, e2⟩ := (hK1.2 tys.length (cA, .object C) (by simp)).2
  have e3 : cA = cO := Option.some.inj (e2.symm.trans e1)
  subst e3
  exact kk q H1 hP1 hD1 hS1
end MYN
/-- the words of a call, out of the one list -/
theorem my_gV {y0 y : MethodName} {b0 b : ByteArray} {n0 n : Nat} {r0 r : Option FieldType} {own C : String} {idx : Nat} (h1 : Cond.methodLink own idx y ∈ gw) (h2 : Cond.instanceMethod y ∈ gw) (h3 : Cond.selects C y y ∈ gw) (h4 : Cond.initialized C ∈ gw) (h5 : Cond.code y b n r ∈ gw) : GoodIn (Cond.code y0 b0 n0 r0 :: gw) (wsV own idx C y (Cond.code y b n r :: gw)) := by
  intro w hw
  have hw' : w ∈ gw := by
    unfold wsV at hw
    simp only [List.cons_append, List.nil_append, List.mem_cons] at hw
    rcases hw with rfl | rfl | rfl | rfl | rfl | h
    · exact h1
    · exact h2
    · exact h3
    · exact h4
    · exact h5
    · exact h
  exact ⟨List.mem_cons_of_mem _ hw', (gw_good w hw').2⟩
theorem my_gS {y0 y : MethodName} {b0 b : ByteArray} {n0 n : Nat} {r0 r : Option FieldType} {own : String} {idx : Nat} (h1 : Cond.methodLink own idx y ∈ gw) (h2 : Cond.static y ∈ gw) (h4 : Cond.initialized own ∈ gw) (h5 : Cond.code y b n r ∈ gw) : GoodIn (Cond.code y0 b0 n0 r0 :: gw) (wsS own idx y (Cond.code y b n r :: gw)) := by
  intro w hw
  have hw' : w ∈ gw := by
    unfold wsS at hw
    simp only [List.cons_append, List.nil_append, List.mem_cons] at hw
    rcases hw with rfl | rfl | rfl | rfl | h
    · exact h1
    · exact h2
    · exact h4
    · exact h5
    · exact h
  exact ⟨List.mem_cons_of_mem _ hw', (gw_good w hw').2⟩
theorem my_gC {y0 y : MethodName} {b0 b : ByteArray} {n0 n : Nat} {r0 r : Option FieldType} (h5 : Cond.code y b n r ∈ gw) : GoodIn (Cond.code y0 b0 n0 r0 :: gw) (Cond.code y b n r :: gw) := by
  intro w hw
  have hw' : w ∈ gw := by
    rcases List.mem_cons.mp hw with rfl | h
    · exact h5
    · exact h
  exact ⟨List.mem_cons_of_mem _ hw', (gw_good w hw').2⟩
end
section
/-! PURE WORDS of the class: sums, rows, the odds of a model -/
/-- the sum of the first k -/
def sm (f : Nat → Int32) : Nat → Int32
  | 0 => 0
  | k + 1 => sm f k + f k
/-- an index that two tests let through -/
theorem in_of {i : Int32} {n : Nat} (hn : n < 2 ^ 31) (h0 : ¬ i < 0) (h1 : i < nI n) : vp_in i n := by
  rw [vp_in_iff]
  have a : 0 ≤ i.toInt := by
    have := h0
    rw [Int32.lt_iff_toInt_lt] at this
    simpa using this
  have b : i.toInt < (nI n).toInt := Int32.lt_iff_toInt_lt.mp h1
  rw [nI_toInt hn] at b
  exact ⟨a, b⟩
theorem in_of' {i : Int32} {n : Nat} (hn : n < 2 ^ 31) (h0 : 0 ≤ i) (h1 : ¬ nI n ≤ i) : vp_in i n := by
  refine in_of hn ?_ ?_
  · rw [Int32.lt_iff_toInt_lt]; rw [Int32.le_iff_toInt_le] at h0; omega
  · rw [Int32.lt_iff_toInt_lt]; rw [Int32.le_iff_toInt_le] at h1; omega
end
section
/-! PURE WORDS of a model's numbers: sums, the greatest, halves, scales -/
def ns (F : Nat → Nat) : Nat → Nat
  | 0 => 0
  | k + 1 => ns F k + F k
def upN (F : Nat → Nat) (k v : Nat) : Nat → Nat := fun j => if j = k then v else F j
theorem upN_s (F : Nat → Nat) (k v : Nat) : upN F k v k = v := by simp [upN]
theorem upN_n (F : Nat → Nat) {k v j : Nat} (h : j ≠ k) : upN F k v j = F j := by simp [upN, h]
/-- f holds G from b on, n places -/
def sgI (f : Nat → Int32) (b n : Nat) (G : Nat → Nat) : Prop := ∀ k, k < n → f (b + k) = nI (G k)
/-- but for those places f2 is f -/
def sgO (f2 f : Nat → Int32) (b n : Nat) : Prop := ∀ i, (i < b ∨ b + n ≤ i) → f2 i = f i
def sgL (fL f : Nat → Int32) (b n j : Nat) (G F : Nat → Nat) : Prop := sgI fL b j G ∧ (∀ k, j ≤ k → k < n → fL (b + k) = nI (F k)) ∧ sgO fL f b n
def sgM (fL f : Nat → Int32) (b n j : Nat) (G : Nat → Nat) : Prop := sgI fL b j G ∧ sgO fL f b n
theorem sgO_rf (f : Nat → Int32) (b n : Nat) : sgO f f b n := fun _ _ => rfl
theorem sgO_tr {f3 f2 f : Nat → Int32} {b n : Nat} (h : sgO f3 f2 b n) (h2 : sgO f2 f b n) : sgO f3 f b n := fun i hi => (h i hi).trans (h2 i hi)
theorem sgO_w {f2 f : Nat → Int32} {b n m : Nat} (h : sgO f2 f b n) (hm : n ≤ m) : sgO f2 f b m := fun i hi => h i (by omega)
theorem sgI_w {f : Nat → Int32} {b n m : Nat} {G : Nat → Nat} (h : sgI f b n G) (hm : m ≤ n) : sgI f b m G := fun k hk => h k (by omega)
theorem sgI_c {f : Nat → Int32} {b n : Nat} {G G2 : Nat → Nat} (h : sgI f b n G) (e : ∀ k, k < n → G k = G2 k) : sgI f b n G2 := fun k hk => by rw [h k hk, e k hk]
theorem sgL_0 {f : Nat → Int32} {b n : Nat} {G F : Nat → Nat} (h : sgI f b n F) : sgL f f b n 0 G F := ⟨fun k hk => absurd hk (Nat.not_lt_zero k), fun k _ hk => h k hk, sgO_rf _ _ _⟩
theorem sgL_rd {fL f : Nat → Int32} {b n j : Nat} {G F : Nat → Nat} (h : sgL fL f b n j G F) (hj : j < n) : fL (b + j) = nI (F j) := h.2.1 j (Nat.le_refl _) hj
theorem sgL_st {fL f : Nat → Int32} {b n j i : Nat} {G F : Nat → Nat} {x : Int32} (h : sgL fL f b n j G F) (hj : j < n) (hi : i = b + j) (hx : x = nI (G j)) : sgL (upd fL i x) f b n (j + 1) G F := by
  subst hi
  refine ⟨fun k hk => ?_, fun k hk hk2 => ?_, fun q hq => ?_⟩
  · by_cases e : k = j
    · subst e; rw [pk_us, hx]
    · rw [pk_un (by omega)]; exact h.1 k (by omega)
  · rw [pk_un (by omega)]; exact h.2.1 k (by omega) hk2
  · rw [pk_un (by omega)]; exact h.2.2 q hq
theorem sgL_e {fL f : Nat → Int32} {b n : Nat} {G F : Nat → Nat} (h : sgL fL f b n n G F) : sgI fL b n G ∧ sgO fL f b n := ⟨h.1, h.2.2⟩
theorem sgM_0 (f : Nat → Int32) (b n : Nat) (G : Nat → Nat) : sgM f f b n 0 G := ⟨fun k hk => absurd hk (Nat.not_lt_zero k), sgO_rf _ _ _⟩
theorem sgM_st {fL f : Nat → Int32} {b n j i : Nat} {G : Nat → Nat} {x : Int32} (h : sgM fL f b n j G) (hj : j < n) (hi : i = b + j) (hx : x = nI (G j)) : sgM (upd fL i x) f b n (j + 1) G := by
  subst hi
  refine ⟨fun k hk => ?_, fun q hq => ?_⟩
  · by_cases e : k = j
    · subst e; rw [pk_us, hx]
    · rw [pk_un (by omega)]; exact h.1 k (by omega)
  · rw [pk_un (by omega)]; exact h.2 q hq
/-- one place of a segment -/
theorem sg_up {f : Nat → Int32} {b n j i : Nat} {F : Nat → Nat} {x : Int32} {v : Nat} (h : sgI f b n F) (hj : j < n) (hi : i = b + j) (hx : x = nI v) : sgI (upd f i x) b n (upN F j v) ∧ sgO (upd f i x) f b n := by
  subst hi
  refine ⟨fun k hk => ?_, fun q hq => pk_un (by omega)⟩
  by_cases e : k = j
  · subst e; rw [pk_us, upN_s, hx]
  · rw [pk_un (by omega), upN_n _ e]; exact h k hk
def bd (F : Nat → Nat) (n B : Nat) : Prop := ∀ k, k < n → F k ≤ B
theorem ns_le {F : Nat → Nat} {B : Nat} : ∀ {n : Nat}, bd F n B → ns F n ≤ n * B
  | 0, _ => by simp [ns]
  | n + 1, h => by
    have h1 := ns_le (n := n) (fun k hk => h k (by omega))
    have h2 := h n (by omega)
    rw [ns, Nat.succ_mul]
    omega
theorem ns_le64 {F : Nat → Nat} {B n : Nat} (hn : n ≤ 64) (h : bd F n B) : ns F n ≤ 64 * B := Nat.le_trans (ns_le h) (Nat.mul_le_mul_right B hn)
theorem ns_up {F : Nat → Nat} {j v : Nat} : ∀ {n : Nat}, j < n → ns (upN F j v) n + F j = ns F n + v
  | 0, h => absurd h (Nat.not_lt_zero _)
  | n + 1, h => by
    by_cases e : j = n
    · subst e
      have : ∀ m, m ≤ j → ns (upN F j v) m = ns F m := by
        intro m
        induction m with
        | zero => intro _; rfl
        | succ m ih => intro hm; rw [ns, ns, ih (by omega), upN_n _ (by omega)]
      rw [ns, ns, this j (Nat.le_refl _), upN_s]; omega
    · have := ns_up (F := F) (v := v) (n := n) (by omega : j < n)
      rw [ns, ns, upN_n F (by omega : n ≠ j)]; omega
theorem ns_pos {F : Nat → Nat} : ∀ {n : Nat}, 0 < ns F n → ∃ k, k < n ∧ 0 < F k
  | 0, h => absurd h (by simp [ns])
  | n + 1, h => by
    rw [ns] at h
    by_cases e : 0 < F n
    · exact ⟨n, by omega, e⟩
    · obtain ⟨k, h1, h2⟩ := ns_pos (F := F) (n := n) (by omega)
      exact ⟨k, by omega, h2⟩
theorem ns_ge {F : Nat → Nat} {j : Nat} : ∀ {n : Nat}, j < n → F j ≤ ns F n
  | 0, h => absurd h (Nat.not_lt_zero _)
  | n + 1, h => by
    rw [ns]
    by_cases e : j = n
    · subst e; omega
    · have := ns_ge (F := F) (n := n) (by omega : j < n); omega
/-- the greatest, of several the first -/
def gr (F : Nat → Nat) : Nat → Nat
  | 0 => 0
  | k + 1 => if F (gr F k) < F k then k else gr F k
theorem gr_lt (F : Nat → Nat) : ∀ {n : Nat}, 0 < n → gr F n < n
  | 0, h => absurd h (Nat.not_lt_zero _)
  | n + 1, _ => by
    rw [gr]
    split
    · omega
    · by_cases e : 0 < n
      · have := gr_lt F e; omega
      · have : n = 0 := by omega
        subst this; simp [gr]
theorem gr_ge (F : Nat → Nat) : ∀ {n k : Nat}, k < n → F k ≤ F (gr F n)
  | 0, _, h => absurd h (Nat.not_lt_zero _)
  | n + 1, k, h => by
    rw [gr]
    by_cases e : k = n
    · subst e; split <;> omega
    · have := gr_ge F (n := n) (by omega : k < n)
      split <;> omega
theorem gr_pos {F : Nat → Nat} {n : Nat} (h : 0 < ns F n) : 0 < F (gr F n) := by
  obtain ⟨k, h1, h2⟩ := ns_pos h
  exact Nat.lt_of_lt_of_le h2 (gr_ge F h1)
def hv (F : Nat → Nat) : Nat → Nat := fun k => (F k + 1) / 2
def lesN (n : Nat) : Nat → (Nat → Nat) → (Nat → Nat)
  | 0, F => F
  | r + 1, F => if ns F n ≤ 8192 then F else lesN n r (hv F)
/-- as long as the sum is above 8192, halves -/
def les (n : Nat) (F : Nat → Nat) : Nat → Nat := lesN n 32 F
/-- what a COUNT can be after so many halvings -/
def lb (r : Nat) : Nat := if 32 ≤ r then 4095 else if r = 31 then 2048 else if r = 30 then 1024 else if r = 29 then 512 else if r = 28 then 256 else 128
theorem lb_st {r x : Nat} (h0 : 27 < r) (h1 : r ≤ 32) (h : x ≤ lb r) : (x + 1) / 2 ≤ lb (r - 1) := by
  have hr : r = 28 ∨ r = 29 ∨ r = 30 ∨ r = 31 ∨ r = 32 := by omega
  rcases hr with e | e | e | e | e <;> subst e <;> simp [lb] at h ⊢ <;> omega
theorem lesN_e {n r : Nat} {F : Nat → Nat} (h : ns F n ≤ 8192) : lesN n r F = F := by
  cases r with
  | zero => rfl
  | succ r => rw [lesN, if_pos h]
theorem lesN_s {n r : Nat} {F : Nat → Nat} (h0 : 0 < r) (h : ¬ ns F n ≤ 8192) : lesN n r F = lesN n (r - 1) (hv F) := by
  cases r with
  | zero => omega
  | succ r => rw [lesN, if_neg h]; rfl
def lrn (n t : Nat) (F : Nat → Nat) : Nat → Nat := if ns (upN F t (F t + 32)) n ≤ 8192 then upN F t (F t + 32) else hv (upN F t (F t + 32))
def scG (n M : Nat) (F : Nat → Nat) : Nat → Nat := fun k => if F k = 0 then 0 else if F k * M / ns F n < 1 then 1 else F k * M / ns F n
def dec (n : Nat) : Nat → (Nat → Nat) → (Nat → Nat)
  | 0, G => G
  | e + 1, G => dec n e (upN G (gr G n) (G (gr G n) - 1))
def scE (n M : Nat) (G : Nat → Nat) : Nat → Nat := upN G (gr G n) (G (gr G n) + (M - ns G n))
/-- SCALED to M -/
def sc (n M : Nat) (F : Nat → Nat) : Nat → Nat := if ns F n = 0 then F else scE n M (dec n (ns (scG n M F) n - M) (scG n M F))
theorem nI_cmp {a b : Nat} (ha : a < 2 ^ 31) (hb : b < 2 ^ 31) : nI a ≤ nI b ↔ a ≤ b := nI_leI ha hb
theorem one_ne {r : Int32} {P : Prop} [Decidable P] (h : r = if P then 1 else 0) (c : ¬ r = 0) : P := by
  by_cases hp : P
  · exact hp
  · rw [if_neg hp] at h; exact absurd h c
theorem one_eq {r : Int32} {P : Prop} [Decidable P] (h : r = if P then 1 else 0) (c : r = 0) : ¬ P := by
  intro hp
  rw [if_pos hp] at h
  rw [h] at c
  exact absurd c (by decide)
/-- a model's or a sign's number -/
abbrev isN (k : Nat) (p : Int32) : Prop := 0 ≤ p ∧ p ≤ nI k - 1
theorem isN_iff {k : Nat} {p : Int32} (hk : k < 2 ^ 30) : isN k p ↔ ∃ j, j < k ∧ p = nI j := by
  constructor
  · rintro ⟨h0, h1⟩
    obtain ⟨j, hj, rfl⟩ := nI_of (Int32.not_lt.mpr h0)
    refine ⟨j, ?_, rfl⟩
    cases k with
    | zero => rw [Int32.le_iff_toInt_le, nI_toInt hj] at h1; have : ((nI 0 - 1 : Int32)).toInt = -1 := by decide
              rw [this] at h1; omega
    | succ k => rw [nI_pred] at h1; have := (nI_leI hj (by omega)).mp h1; omega
  · rintro ⟨j, hj, rfl⟩
    refine ⟨nI_pos' (by omega), ?_⟩
    cases k with
    | zero => omega
    | succ k => rw [nI_pred]; exact nI_le (by omega) (by omega)
/-- how many levels a model of n signs has -/
def lev (n : Nat) : Nat := if n ≤ 1 then 0 else if n ≤ 2 then 1 else if n ≤ 4 then 2 else if n ≤ 8 then 3 else if n ≤ 16 then 4 else if n ≤ 32 then 5 else 6
theorem lev_of {n j : Nat} (hj : j ≤ 6) (h : n ≤ 2 ^ j) (h2 : 0 < j → 2 ^ (j - 1) < n) : j = lev n := by
  have hh : j = 0 ∨ j = 1 ∨ j = 2 ∨ j = 3 ∨ j = 4 ∨ j = 5 ∨ j = 6 := by omega
  unfold lev
  rcases hh with e | e | e | e | e | e | e <;> subst e <;> simp at h h2 <;> repeat (first | omega | split)
theorem shl1 : ∀ j, j < 31 → (1 : Int32) <<< (nI j &&& 31) = nI (2 ^ j) := by decide +kernel
theorem scG_le {n M : Nat} {F : Nat → Nat} (hM : 1 ≤ M) : bd (scG n M F) n M := by
  intro k hk
  unfold scG
  split
  · omega
  · split
    · exact hM
    · have h1 := ns_ge (F := F) hk
      have h2 : F k * M / ns F n ≤ ns F n * M / ns F n := Nat.div_le_div_right (Nat.mul_le_mul_right M h1)
      rcases Nat.eq_zero_or_pos (ns F n) with e | e
      · rw [e]; simp
      · rw [Nat.mul_div_cancel_left M e] at h2; exact h2
theorem dec_bd {n B : Nat} {G : Nat → Nat} (h : bd G n B) : bd (upN G (gr G n) (G (gr G n) - 1)) n B := by
  intro k hk
  by_cases e : k = gr G n
  · subst e; rw [upN_s]; have := h _ hk; omega
  · rw [upN_n _ e]; exact h k hk
theorem dec_ns {n : Nat} {G : Nat → Nat} (hn : 0 < n) (h : 0 < ns G n) : ns (upN G (gr G n) (G (gr G n) - 1)) n = ns G n - 1 := by
  have h1 := ns_up (F := G) (v := G (gr G n) - 1) (gr_lt G hn)
  have h2 := gr_pos h
  omega
theorem dec_st {n M : Nat} {G : Nat → Nat} (hn : 0 < n) (h : M < ns G n) : dec n (ns G n - M) G = dec n (ns (upN G (gr G n) (G (gr G n) - 1)) n - M) (upN G (gr G n) (G (gr G n) - 1)) := by
  rw [dec_ns hn (by omega)]
  have e : ns G n - M = (ns G n - 1 - M) + 1 := by omega
  rw [e, dec]
theorem dec_0 {n M : Nat} {G : Nat → Nat} (h : ns G n ≤ M) : dec n (ns G n - M) G = G := by
  have e : ns G n - M = 0 := by omega
  rw [e, dec]
theorem ns_m (F : Nat → Nat) {t : Nat} : ∀ {n : Nat}, t ≤ n → ns F t ≤ ns F n
  | 0, h => by have : t = 0 := by omega
               subst this; exact Nat.le_refl _
  | n + 1, h => by
    by_cases e : t = n + 1
    · subst e; exact Nat.le_refl _
    · have := ns_m F (n := n) (by omega : t ≤ n)
      rw [ns]; omega
theorem ns_m1 (F : Nat → Nat) {t n : Nat} (h : t < n) : ns F t + F t ≤ ns F n := ns_m F (t := t + 1) h
end
section
/-! longs as naturals, with the literals of the code -/
theorem L_shl8 (n : Nat) : lN n <<< ((8 : Int32).toInt64 &&& 63) = lN (n * 256) := wb_shl n (k := 8) (by decide)
theorem L_shl12 (n : Nat) : lN n <<< ((12 : Int32).toInt64 &&& 63) = lN (n * 4096) := wb_shl n (k := 12) (by decide)
theorem L_shl19 (n : Nat) : lN n <<< ((19 : Int32).toInt64 &&& 63) = lN (n * 524288) := wb_shl n (k := 19) (by decide)
theorem L_shr24 {n : Nat} (h : n < 2 ^ 62) : lN n >>> ((24 : Int32).toInt64 &&& 63) = lN (n / 16777216) := pf_shr (d := 24) (by decide +kernel) h
theorem L_shr32 {n : Nat} (h : n < 2 ^ 62) : lN n >>> ((32 : Int32).toInt64 &&& 63) = lN (n / 4294967296) := pf_shr (d := 32) (by decide +kernel) h
theorem L_shr11 {n : Nat} (h : n < 2 ^ 62) : lN n >>> ((11 : Int32).toInt64 &&& 63) = lN (n / 2048) := pf_shr (d := 11) (by decide +kernel) h
theorem L_shr12 {n : Nat} (h : n < 2 ^ 62) : lN n >>> ((12 : Int32).toInt64 &&& 63) = lN (n / 4096) := pf_shr (d := 12) (by decide +kernel) h
theorem L_shr8 {n : Nat} (h : n < 2 ^ 62) : lN n >>> ((8 : Int32).toInt64 &&& 63) = lN (n / 256) := pf_shr (d := 8) (by decide +kernel) h
theorem L_shr1 {n : Nat} (h : n < 2 ^ 62) : lN n >>> ((1 : Int32).toInt64 &&& 63) = lN (n / 2) := pf_shr (d := 1) (by decide +kernel) h
theorem L_and32 {n : Nat} (h : n < 2 ^ 64) : lN n &&& 4294967295 = lN (n % 4294967296) := g_mask (s := 32) (p := 4294967296) (by decide) (by decide) h
theorem L_and24 {n : Nat} (h : n < 2 ^ 64) : lN n &&& 16777215 = lN (n % 16777216) := g_mask (s := 24) (p := 16777216) (by decide) (by decide) h
theorem L_and16 {n : Nat} (h : n < 2 ^ 64) : lN n &&& 65535 = lN (n % 65536) := g_mask (s := 16) (p := 65536) (by decide) (by decide) h
theorem L_and12 {n : Nat} (h : n < 2 ^ 64) : lN n &&& 4095 = lN (n % 4096) := g_mask (s := 12) (p := 4096) (by decide) (by decide) h
theorem L_and8 {n : Nat} (h : n < 2 ^ 64) : lN n &&& 255 = lN (n % 256) := g_mask (s := 8) (p := 256) (by decide) (by decide) h
theorem L_lt {a b : Nat} (ha : a < 2 ^ 63) (hb : b < 2 ^ 63) : lN a < lN b ↔ a < b := pk_lLT ha hb
theorem L_le {a b : Nat} (ha : a < 2 ^ 63) (hb : b < 2 ^ 63) : lN a ≤ lN b ↔ a ≤ b := pk_lLE ha hb
/-! THE MESSAGE'S STATE of forms 0 to 2: RANGE, LOW, CACHE, PENDING, the bytes that have come -/
abbrev ES : Type := Nat × Nat × Option Nat × Nat × List Nat
abbrev eR (e : ES) : Nat := e.1
abbrev eL (e : ES) : Nat := e.2.1
abbrev eC (e : ES) : Option Nat := e.2.2.1
abbrev eP (e : ES) : Nat := e.2.2.2.1
abbrev eB (e : ES) : List Nat := e.2.2.2.2
/-- a CACHE as an int -/
def caI : Option Nat → Int32
  | none => -1
  | some c => nI c
def caB : Option Nat → Nat → List Nat
  | none, _ => []
  | some c, k => [(c + k) % 256]
abbrev shO (L : Nat) : Prop := L < 4278190080 ∨ 4294967296 ≤ L
/-- LOW is SHIFTED -/
def shL (L : Nat) : Nat := L % 16777216 * 256
def shC (L : Nat) (ca : Option Nat) : Option Nat := if shO L then some (L / 16777216 % 256) else ca
def shP (L P : Nat) : Nat := if shO L then 0 else P + 1
def shB (L : Nat) (ca : Option Nat) (P : Nat) (bs : List Nat) : List Nat := if shO L then bs ++ caB ca (L / 4294967296) ++ List.replicate P ((255 + L / 4294967296) % 256) else bs
def shS (e : ES) : ES := (eR e, shL (eL e), shC (eL e) (eC e), shP (eL e) (eP e), shB (eL e) (eC e) (eP e) (eB e))
/-- RANGE is widened: at most so many times -/
def wdN : Nat → ES → ES
  | 0, e => e
  | k + 1, e => if eR e < 16777216 then wdN k (shS (eR e * 256, e.2)) else e
def wdS (e : ES) : ES := wdN 8 e
/-- a list of bytes in an array -/
def gIs (f : Nat → Int32) (bs : List Nat) : Prop := ∀ i, i < bs.length → f i = nI (bs.getD i 0)
theorem gIs_add {f g : Nat → Int32} {bs : List Nat} {x : Nat} (h : gIs f bs) (hg : ∀ i, i < bs.length → g i = f i) (hx : g bs.length = nI x) : gIs g (bs ++ [x]) := by
  intro i hi
  rw [List.length_append, List.length_singleton] at hi
  rcases Nat.lt_or_ge i bs.length with h1 | h1
  · rw [hg i h1, h i h1]
    simp [List.getD_eq_getElem?_getD, List.getElem?_append_left h1]
  · have e : i = bs.length := by omega
    subst e
    rw [hx]
    simp [List.getD_eq_getElem?_getD]
theorem gIs_up {f : Nat → Int32} {bs : List Nat} {i x : Nat} {v : Int32} (h : gIs f bs) (hi : i = bs.length) (hx : v = nI x) : gIs (upd f i v) (bs ++ [x]) := by
  subst hi
  exact gIs_add h (fun j hj => pk_un (by omega)) (by rw [pk_us, hx])
theorem caI_ne {c : Option Nat} (h : ∀ x, c = some x → x < 256) : caI c = -1 ↔ c = none := by
  cases c with
  | none => simp [caI]
  | some x =>
    have hx := h x rfl
    simp only [caI, reduceCtorEq, iff_false]
    intro e
    have e1 := congrArg Int32.toInt e
    rw [nI_toInt (by omega)] at e1
    have : ((-1 : Int32)).toInt = -1 := by decide
    omega
/-- what holds of a message's state -/
def eOk (e : ES) : Prop := eL e < 8589934592 ∧ (∀ x, eC e = some x → x < 256)
theorem eOk_sh {e : ES} (h : eOk e) : eOk (shS e) := by
  refine ⟨?_, ?_⟩
  · show shL (eL e) < _
    unfold shL
    have := Nat.mod_lt (eL e) (show 0 < 16777216 by decide)
    omega
  · intro x hx
    simp only [shS, eC, shC] at hx
    split at hx
    · cases hx; exact Nat.mod_lt _ (by decide)
    · exact h.2 x hx
/-- how many bytes there can be, at most -/
def eN (e : ES) : Nat := (eB e).length + eP e + 1
theorem caB_le (c : Option Nat) (k : Nat) : (caB c k).length ≤ 1 := by cases c <;> simp [caB]
theorem eN_sh (e : ES) : eN (shS e) ≤ eN e + 1 := by
  obtain ⟨r, l, c, p, b⟩ := e
  have h := caB_le c (l / 4294967296)
  unfold eN
  simp only [shS, shB, shP, eB, eP, eC, eL]
  split
  · simp only [List.length_append, List.length_replicate]
    omega
  · omega
theorem wdN_e {k : Nat} {e : ES} (h : ¬ eR e < 16777216) : wdN k e = e := by
  cases k with
  | zero => rfl
  | succ k => rw [wdN, if_neg h]
theorem wdN_s {k : Nat} {e : ES} (h0 : 0 < k) (h : eR e < 16777216) : wdN k e = wdN (k - 1) (shS (eR e * 256, e.2)) := by
  cases k with
  | zero => omega
  | succ k => rw [wdN, if_pos h]; rfl
/-- a RANGE is at least this, with k times left -/
def wb8 (k : Nat) : Nat := 256 ^ (8 - k)
theorem wb8_k {k r : Nat} (h5 : 5 ≤ k) (h : wb8 k ≤ r) (hr : r < 16777216) : 5 < k := by
  rcases Nat.lt_or_ge 5 k with q | q
  · exact q
  · have e : k = 5 := by omega
    subst e
    have : wb8 5 = 16777216 := by decide
    omega
theorem wb8_s {k r : Nat} (h5 : 5 < k) (h8 : k ≤ 8) (h : wb8 k ≤ r) : wb8 (k - 1) ≤ r * 256 := by
  have hk : k = 6 ∨ k = 7 ∨ k = 8 := by omega
  rcases hk with e | e | e <;> subst e
  · have a : wb8 6 = 65536 := by decide
    have b : wb8 (6 - 1) = 16777216 := by decide
    omega
  · have a : wb8 7 = 256 := by decide
    have b : wb8 (7 - 1) = 65536 := by decide
    omega
  · have a : wb8 8 = 1 := by decide
    have b : wb8 (8 - 1) = 256 := by decide
    omega
theorem sl32 : ∀ n, n < 32 → ((nI n &&& 31).toBitVec.smod 32).toNat = n := by decide +kernel
theorem I_shr {n s : Nat} (h : n < 2 ^ 31) (hs : s < 32) : nI n >>> (nI s &&& 31) = nI (n / 2 ^ s) := pk_shrN h _ s (sl32 s hs)
/-- a CHANCE learns -/
def mvC (sh bt p : Nat) : Nat := if bt = 0 then p + (2048 - p) / 2 ^ sh else p - p / 2 ^ sh
/-- a bit is coded by the CHANCE p -/
def btS (p bt Rg L : Nat) (ca : Option Nat) (Pn : Nat) (bs : List Nat) : ES := if bt = 0 then (Rg / 2048 * p, L, ca, Pn, bs) else (Rg - Rg / 2048 * p, L + Rg / 2048 * p, ca, Pn, bs)
/-- what holds of a message's state between items -/
def eInv (e : ES) : Prop := 16777216 ≤ eR e ∧ eR e < 4294967296 ∧ eL e + eR e ≤ 8589934592 ∧ ∀ x, eC e = some x → x < 256
theorem wd_main : ∀ (c k : Nat) (e : ES), c ≤ 3 → c < k → 256 ^ (3 - c) ≤ eR e → eR e < 4294967296 → eL e + eR e ≤ 8589934592 → (∀ x, eC e = some x → x < 256) → eInv (wdN k e) ∧ eN (wdN k e) ≤ eN e + c := by
  intro c
  induction c with
  | zero =>
    intro k e _ _ h1 h2 h3 h4
    have h5 : 16777216 ≤ eR e := h1
    rw [wdN_e (by omega)]
    exact ⟨⟨h5, h2, h3, h4⟩, Nat.le_refl _⟩
  | succ c ih =>
    intro k e hc hk h1 h2 h3 h4
    by_cases h : eR e < 16777216
    · rw [wdN_s (by omega) h]
      have hp : 256 ^ (3 - c) = 256 ^ (3 - (c + 1)) * 256 := by rw [← Nat.pow_succ]; congr 1; omega
      have hm := Nat.mod_lt (eL e) (show 0 < 16777216 by decide)
      have hp0 : 0 < eR e := Nat.lt_of_lt_of_le (Nat.pow_pos (by decide)) h1
      have hok := eOk_sh (e := (eR e * 256, e.2)) ⟨by show eL e < _; omega, h4⟩
      have q := ih (k - 1) (shS (eR e * 256, e.2)) (by omega) (by omega) (by show _ ≤ eR e * 256; rw [hp]; exact Nat.mul_le_mul_right _ h1) (by show eR e * 256 < _; omega) (by show shL (eL e) + eR e * 256 ≤ _; unfold shL; omega) hok.2
      refine ⟨q.1, ?_⟩
      have q2 := eN_sh (eR e * 256, e.2)
      have q3 : eN (eR e * 256, e.2) = eN e := rfl
      omega
    · rw [wdN_e h]
      exact ⟨⟨by omega, h2, h3, h4⟩, by omega⟩
theorem wd_inv {e : ES} (h1 : 0 < eR e) (h2 : eR e < 4294967296) (h3 : eL e + eR e ≤ 8589934592) (h4 : ∀ x, eC e = some x → x < 256) : eInv (wdS e) ∧ eN (wdS e) ≤ eN e + 3 := wd_main 3 8 e (by decide) (by decide) h1 h2 h3 h4
theorem wd_inv2 {e : ES} (h1 : 256 ≤ eR e) (h2 : eR e < 4294967296) (h3 : eL e + eR e ≤ 8589934592) (h4 : ∀ x, eC e = some x → x < 256) : eInv (wdS e) ∧ eN (wdS e) ≤ eN e + 2 := wd_main 2 8 e (by decide) (by decide) h1 h2 h3 h4
theorem wd_inv1 {e : ES} (h1 : 65536 ≤ eR e) (h2 : eR e < 4294967296) (h3 : eL e + eR e ≤ 8589934592) (h4 : ∀ x, eC e = some x → x < 256) : eInv (wdS e) ∧ eN (wdS e) ≤ eN e + 1 := wd_main 1 8 e (by decide) (by decide) h1 h2 h3 h4
/-- the bits of a VALUE of form 2, k of them still to come -/
def vbN (v : Nat) : Nat → ES → ES
  | 0, e => e
  | k + 1, e => vbN v k (wdS (eR e / 2, (if v / 2 ^ k % 2 = 1 then eL e + eR e / 2 else eL e), e.2.2))
theorem vb_inv {e : ES} (h : eInv e) (b : Prop) [Decidable b] : eInv (wdS (eR e / 2, (if b then eL e + eR e / 2 else eL e), e.2.2)) ∧ eN (wdS (eR e / 2, (if b then eL e + eR e / 2 else eL e), e.2.2)) ≤ eN e + 1 := by
  obtain ⟨h1, h2, h3, h4⟩ := h
  have q := wd_inv1 (e := (eR e / 2, (if b then eL e + eR e / 2 else eL e), e.2.2)) (by show 65536 ≤ eR e / 2; omega) (by show eR e / 2 < _; omega) (by show (if b then eL e + eR e / 2 else eL e) + eR e / 2 ≤ _; split <;> omega) h4
  exact ⟨q.1, q.2⟩
theorem bt_inv {p bt : Nat} {e : ES} (h : eInv e) (hp1 : 1 ≤ p) (hp2 : p ≤ 2047) : eInv (wdS (btS p bt (eR e) (eL e) (eC e) (eP e) (eB e))) ∧ eN (wdS (btS p bt (eR e) (eL e) (eC e) (eP e) (eB e))) ≤ eN e + 2 := by
  obtain ⟨h1, h2, h3, h4⟩ := h
  have q1 : 8192 ≤ eR e / 2048 := by omega
  have q2 : eR e / 2048 * p ≤ eR e / 2048 * 2047 := Nat.mul_le_mul_left _ hp2
  have q3 : eR e / 2048 * 1 ≤ eR e / 2048 * p := Nat.mul_le_mul_left _ hp1
  unfold btS
  generalize eR e / 2048 * p = bb at q2 q3
  split
  · exact wd_inv2 (e := (bb, eL e, eC e, eP e, eB e)) (by show 256 ≤ bb; omega) (by show bb < _; omega) (by show eL e + bb ≤ _; omega) h4
  · exact wd_inv2 (e := (eR e - bb, eL e + bb, eC e, eP e, eB e)) (by show 256 ≤ eR e - bb; omega) (by show eR e - bb < _; omega) (by show eL e + bb + (eR e - bb) ≤ _; omega) h4
theorem mvC_ok {sh bt p : Nat} (hs : 1 ≤ sh) (hp1 : 1 ≤ p) (hp2 : p ≤ 2047) : 1 ≤ mvC sh bt p ∧ mvC sh bt p ≤ 2047 := by
  have h2 : 2 ≤ 2 ^ sh := Nat.pow_le_pow_right (n := 2) (by decide) hs
  have a : p / 2 ^ sh ≤ p / 2 := Nat.div_le_div_left h2 (by decide)
  have b : (2048 - p) / 2 ^ sh ≤ (2048 - p) / 2 := Nat.div_le_div_left h2 (by decide)
  unfold mvC
  generalize p / 2 ^ sh = x at a
  generalize (2048 - p) / 2 ^ sh = y at b
  split <;> omega
/-- the bits of a sign of form 2: NODE, the message's state, the CHANCES -/
def spN (sh s : Nat) : Nat → Nat → ES → (Nat → Nat) → ES × (Nat → Nat)
  | 0, _, e, C => (e, C)
  | k + 1, nd, e, C => spN sh s k (2 * nd + s / 2 ^ k % 2) (wdS (btS (C nd) (s / 2 ^ k % 2) (eR e) (eL e) (eC e) (eP e) (eB e))) (upN C nd (mvC sh (s / 2 ^ k % 2) (C nd)))
theorem nd_st {lv j nd b : Nat} (hj : 1 ≤ j) (hj2 : j ≤ lv) (h : 0 < nd ∧ nd < 2 ^ (lv - j + 1)) (hb : b < 2) : 0 < 2 * nd + b ∧ 2 * nd + b < 2 ^ (lv - (j - 1) + 1) := by
  have z : 2 ^ (lv - (j - 1) + 1) = 2 * 2 ^ (lv - j + 1) := by rw [show lv - (j - 1) + 1 = (lv - j + 1) + 1 by omega, Nat.pow_succ, Nat.mul_comm]
  omega
theorem ch_up {D : Nat → Nat} {nd sh b : Nat} (hs : 1 ≤ sh) (h : ∀ k, k < 64 → 1 ≤ D k ∧ D k ≤ 2047) : ∀ k, k < 64 → 1 ≤ upN D nd (mvC sh b (D nd)) k ∧ upN D nd (mvC sh b (D nd)) k ≤ 2047 := by
  intro k hk
  by_cases e : k = nd
  · subst e; rw [upN_s]; exact mvC_ok hs (h k hk).1 (h k hk).2
  · rw [upN_n _ e]; exact h k hk
end
section
/-! THE READING: bytes and bits of IN, RANGE and CODE -/
abbrev byA (is : List Nat) (q : Nat) : Nat := is.getD q 0
def oct (is : List Nat) : Prop := ∀ i, byA is i < 256
def frN (is : List Nat) (q : Nat) : Nat → Nat
  | 0 => 0
  | j + 1 => frN is q j * 256 + byA is (q + j)
theorem frN_lt {is : List Nat} (h : oct is) (q : Nat) : ∀ j, frN is q j < 256 ^ j
  | 0 => by simp [frN]
  | j + 1 => by
    have h1 := frN_lt h q j
    have h2 := h (q + j)
    rw [frN, Nat.pow_succ]
    omega
def biA (is : List Nat) (t : Nat) : Nat := byA is (t / 8) / 2 ^ (7 - t % 8) % 2
abbrev RS : Type := Nat × Nat × Nat
/-- RANGE, CODE, bytes asked for: widened -/
def wrN (is : List Nat) : Nat → RS → RS
  | 0, r => r
  | k + 1, r => if r.1 < 16777216 then wrN is k (r.1 * 256, r.2.1 * 256 % 4294967296 + byA is r.2.2, r.2.2 + 1) else r
def wrS (is : List Nat) (r : RS) : RS := wrN is 8 r
theorem wrN_e {is : List Nat} {k : Nat} {r : RS} (h : ¬ r.1 < 16777216) : wrN is k r = r := by
  cases k with
  | zero => rfl
  | succ k => rw [wrN, if_neg h]
theorem wrN_s {is : List Nat} {k : Nat} {r : RS} (h0 : 0 < k) (h : r.1 < 16777216) : wrN is k r = wrN is (k - 1) (r.1 * 256, r.2.1 * 256 % 4294967296 + byA is r.2.2, r.2.2 + 1) := by
  cases k with
  | zero => omega
  | succ k => rw [wrN, if_pos h]; rfl
/-- X, bytes asked for: filled again -/
def rfN (is : List Nat) : Nat → Nat × Nat → Nat × Nat
  | 0, r => r
  | k + 1, r => if r.1 < 8388608 then rfN is k (r.1 * 256 + byA is r.2, r.2 + 1) else r
def rfS (is : List Nat) (r : Nat × Nat) : Nat × Nat := rfN is 8 r
theorem rfN_e {is : List Nat} {k : Nat} {r : Nat × Nat} (h : ¬ r.1 < 8388608) : rfN is k r = r := by
  cases k with
  | zero => rfl
  | succ k => rw [rfN, if_neg h]
theorem rfN_s {is : List Nat} {k : Nat} {r : Nat × Nat} (h0 : 0 < k) (h : r.1 < 8388608) : rfN is k r = rfN is (k - 1) (r.1 * 256 + byA is r.2, r.2 + 1) := by
  cases k with
  | zero => omega
  | succ k => rw [rfN, if_pos h]; rfl
theorem L_or8 {a b : Nat} (hb : b < 256) (h : a * 256 + b < 2 ^ 64) : lN (a * 256) ||| lN b = lN (a * 256 + b) := g_or (k := 8) (p := 256) (by decide) hb h
theorem I_shrA {n x : Nat} {s : Int32} (h : n < 2 ^ 31) (hs : s = nI x) (hx : x < 32) : nI n >>> (s &&& 31) = nI (n / 2 ^ x) := by subst hs; exact I_shr h hx
theorem I_and1 {n : Nat} (h : n < 2 ^ 32) : nI n &&& 1 = nI (n % 2) := pk_andN h 1 (by decide +kernel)
/-- the sign whose part holds u: k tries left, from s on -/
def fs (F : Nat → Nat) (u : Nat) : Nat → Nat → Nat
  | 0, s => s
  | k + 1, s => if u < ns F (s + 1) then s else fs F u k (s + 1)
def sgA (F : Nat → Nat) (n u : Nat) : Nat := fs F u n 0
theorem fs_spec {F : Nat → Nat} {u : Nat} : ∀ (k s : Nat), ns F s ≤ u → u < ns F (s + k) → fs F u k s < s + k ∧ ns F (fs F u k s) ≤ u ∧ u < ns F (fs F u k s + 1)
  | 0, s, h1, h2 => by rw [Nat.add_zero] at h2; omega
  | k + 1, s, h1, h2 => by
    rw [fs]
    split
    · rename_i h; exact ⟨by omega, h1, h⟩
    · rename_i h
      have q := fs_spec (F := F) (u := u) k (s + 1) (by omega) (by rw [show s + 1 + k = s + (k + 1) by omega]; exact h2)
      exact ⟨by omega, q.2⟩
theorem sgA_spec {F : Nat → Nat} {n u : Nat} (h : u < ns F n) : sgA F n u < n ∧ ns F (sgA F n u) ≤ u ∧ u < ns F (sgA F n u) + F (sgA F n u) := by
  have q := fs_spec (F := F) (u := u) n 0 (Nat.zero_le _) (by rw [Nat.zero_add]; exact h)
  rw [Nat.zero_add] at q
  exact ⟨q.1, q.2.1, q.2.2⟩
/-- v of an item, if it isn't BAD -/
def wnt (tt RR x : Nat) : Option Nat := if RR / tt = 0 then none else if x / (RR / tt) < tt then some (x / (RR / tt)) else none
def oL : Option Nat → Int64
  | none => -1
  | some v => lN v
theorem L_sub32 {a b : Nat} (ha : a < 4294967296) (hb : b < 4294967296) : lN a - lN b &&& 4294967295 = lN ((a + 4294967296 - b) % 4294967296) := by
  have e : lN a - lN b = lN (a + (18446744073709551616 - b)) := by
    apply wb_inj
    rw [Int64.toBitVec_sub, wb_tb, wb_tb, wb_tb]
    apply BitVec.eq_of_toNat_eq
    rw [BitVec.toNat_sub, BitVec.toNat_ofNat, BitVec.toNat_ofNat, BitVec.toNat_ofNat]
    omega
  rw [e]
  rcases Nat.lt_or_ge (a + (18446744073709551616 - b)) 18446744073709551616 with q | q
  · rw [L_and32 q]; congr 1; omega
  · rw [show lN (a + (18446744073709551616 - b)) = lN (a - b) from by
      rw [wb_mod (a + (18446744073709551616 - b))]; congr 1; omega]
    rw [L_and32 (by omega)]; congr 1; omega
def rInv (r : RS) : Prop := 16777216 ≤ r.1 ∧ r.1 < 4294967296 ∧ r.2.1 < 4294967296
theorem wr_main {is : List Nat} (ho : oct is) : ∀ (c k : Nat) (r : RS), c ≤ 3 → c < k → 256 ^ (3 - c) ≤ r.1 → r.1 < 4294967296 → r.2.1 < 4294967296 → rInv (wrN is k r) ∧ (wrN is k r).2.2 ≤ r.2.2 + c ∧ r.2.2 ≤ (wrN is k r).2.2 := by
  intro c
  induction c with
  | zero =>
    intro k r _ _ h1 h2 h3
    have h5 : 16777216 ≤ r.1 := h1
    rw [wrN_e (by omega)]
    exact ⟨⟨h5, h2, h3⟩, Nat.le_refl _, Nat.le_refl _⟩
  | succ c ih =>
    intro k r hc hk h1 h2 h3
    by_cases h : r.1 < 16777216
    · rw [wrN_s (by omega) h]
      have hp : 256 ^ (3 - c) = 256 ^ (3 - (c + 1)) * 256 := by rw [← Nat.pow_succ]; congr 1; omega
      have hb := ho r.2.2
      have q := ih (k - 1) (r.1 * 256, r.2.1 * 256 % 4294967296 + byA is r.2.2, r.2.2 + 1) (by omega) (by omega) (by show _ ≤ r.1 * 256; rw [hp]; exact Nat.mul_le_mul_right _ h1) (by show r.1 * 256 < _; omega) (by show r.2.1 * 256 % 4294967296 + byA is r.2.2 < _; omega)
      refine ⟨q.1, ?_, ?_⟩
      · have := q.2.1; simp only at this; omega
      · have := q.2.2; simp only at this; omega
    · rw [wrN_e h]
      exact ⟨⟨by omega, h2, h3⟩, by omega, Nat.le_refl _⟩
theorem wr_inv {is : List Nat} (ho : oct is) {r : RS} (h1 : 0 < r.1) (h2 : r.1 < 4294967296) (h3 : r.2.1 < 4294967296) : rInv (wrS is r) ∧ (wrS is r).2.2 ≤ r.2.2 + 3 ∧ r.2.2 ≤ (wrS is r).2.2 := wr_main ho 3 8 r (by decide) (by decide) h1 h2 h3
/-- a bit is read: what it is; RANGE and CODE then -/
def rbt (bb CD : Nat) : Nat := if CD < bb then 0 else 1
def rbS (bb RR CD q : Nat) : RS := if CD < bb then (bb, CD, q) else (RR - bb, CD - bb, q)
/-- CODE behind a bit of a VALUE -/
abbrev crd (r : RS) : Nat := if r.2.1 < r.1 / 2 then r.2.1 else r.2.1 - r.1 / 2
/-- the bits of a VALUE of form 2 are read -/
def pbN (is : List Nat) : Nat → Nat → RS → Option Nat × RS
  | 0, v, r => (some v, r)
  | k + 1, v, r => if crd r < r.1 / 2 then pbN is k (2 * v + rbt (r.1 / 2) r.2.1) (wrS is (r.1 / 2, crd r, r.2.2)) else (none, (r.1 / 2, crd r, r.2.2))
/-- a VALUE of form 2 -/
def pbS (is : List Nat) (b : Nat) (r : RS) : Option Nat × RS := if r.2.1 < r.1 then pbN is b 0 r else (none, r)
def oI : Option Nat → Int32
  | none => -1
  | some v => nI v
/-- the bits of a sign of form 2 are read: NODE, the reading, the CHANCES -/
def gnN (is : List Nat) (sh : Nat) : Nat → Nat → RS → (Nat → Nat) → Nat × RS × (Nat → Nat)
  | 0, nd, r, D => (nd, r, D)
  | k + 1, nd, r, D => gnN is sh k (2 * nd + rbt (r.1 / 2048 * D nd) r.2.1) (wrS is (rbS (r.1 / 2048 * D nd) r.1 r.2.1 r.2.2)) (upN D nd (mvC sh (rbt (r.1 / 2048 * D nd) r.2.1) (D nd)))
/-- a sign of form 2 -/
def gnS (is : List Nat) (sh n : Nat) (r : RS) (D : Nat → Nat) : Option Nat × RS × (Nat → Nat) := if r.2.1 < r.1 then ((if (gnN is sh (lev n) 1 r D).1 - 2 ^ lev n < n then some ((gnN is sh (lev n) 1 r D).1 - 2 ^ lev n) else none), (gnN is sh (lev n) 1 r D).2) else (none, r, D)
theorem rbt_lt (bb CD : Nat) : rbt bb CD < 2 := by unfold rbt; split <;> decide
theorem rb_ok {bb RR CD q : Nat} (h1 : 0 < bb) (h2 : bb < RR) (h3 : RR < 4294967296) (h4 : CD < 4294967296) : 0 < (rbS bb RR CD q).1 ∧ (rbS bb RR CD q).1 < 4294967296 ∧ (rbS bb RR CD q).2.1 < 4294967296 ∧ (rbS bb RR CD q).2.2 = q := by
  unfold rbS
  split
  · exact ⟨h1, by show bb < _; omega, h4, rfl⟩
  · exact ⟨by show 0 < RR - bb; omega, by show RR - bb < _; omega, by show CD - bb < _; omega, rfl⟩
theorem nd_lo {lv j nd b : Nat} (hj : 1 ≤ j) (hj2 : j ≤ lv) (h : 2 ^ (lv - j) ≤ nd ∧ nd < 2 ^ (lv - j + 1)) (hb : b < 2) : 2 ^ (lv - (j - 1)) ≤ 2 * nd + b ∧ 2 * nd + b < 2 ^ (lv - (j - 1) + 1) := by
  have z1 : 2 ^ (lv - (j - 1)) = 2 * 2 ^ (lv - j) := by rw [show lv - (j - 1) = (lv - j) + 1 by omega, Nat.pow_succ, Nat.mul_comm]
  have z : 2 ^ (lv - (j - 1) + 1) = 2 * 2 ^ (lv - j + 1) := by rw [show lv - (j - 1) + 1 = (lv - j + 1) + 1 by omega, Nat.pow_succ, Nat.mul_comm]
  omega
end
section
/-! FORM 1: a RANGE that is cut off ahead of a carry -/
abbrev smT (L R : Nat) : Prop := L / 16777216 = (L + R) % 4294967296 / 16777216
abbrev mvP (L R : Nat) : Prop := smT L R ∨ R < 65536
def ngL (L : Nat) : Nat := (18446744073709551616 - L) % 65536
def mvR (L R : Nat) : Nat := (if smT L R then R else ngL L) * 256 % 4294967296
def mvL (L : Nat) : Nat := L * 256 % 4294967296
def pOk (R L : Nat) : Prop := L < 4294967296 ∧ 1 ≤ R ∧ L + R ≤ 4294967296 ∧ (L + R = 4294967296 → 4278190080 ≤ L)
def plI (k R L : Nat) : Prop := pOk R L ∧ 4 ≤ k ∧ k ≤ 8 ∧ ((wb8 k ≤ R ∧ 5 ≤ k) ∨ (L + R = 4294967296 ∧ ((256 ≤ R ∧ 5 ≤ k) ∨ 65536 ≤ R)))
theorem wb8_7 {k r : Nat} (h5 : 5 ≤ k) (h : wb8 k ≤ r) (hr : r < 65536) : 7 ≤ k := by
  rcases Nat.lt_or_ge k 7 with q | q
  · have e : k = 5 ∨ k = 6 := by omega
    rcases e with e | e
    · subst e; have : wb8 5 = 16777216 := by decide
      omega
    · subst e; have : wb8 6 = 65536 := by decide
      omega
  · exact q
theorem plI_0 {R L : Nat} (h : pOk R L) : plI 8 R L := ⟨h, by decide, by decide, Or.inl ⟨h.2.1, by decide⟩⟩
theorem mv_same {R L : Nat} (h : pOk R L) (hs : smT L R) : L % 16777216 + R < 16777216 := by
  obtain ⟨h1, h2, h3, h4⟩ := h
  have h5 : L + R < 4294967296 := by
    rcases Nat.lt_or_ge (L + R) 4294967296 with q | q
    · exact q
    · have e : L + R = 4294967296 := by omega
      have := h4 e
      unfold smT at hs
      rw [e] at hs
      omega
  unfold smT at hs
  omega
theorem mv_cut {R L : Nat} (h : pOk R L) (hs : ¬ smT L R) (hR : R < 65536) : 1 ≤ ngL L ∧ ngL L ≤ R ∧ L % 16777216 + ngL L = 16777216 ∧ (L + R = 4294967296 → ngL L = R) := by
  obtain ⟨h1, h2, h3, h4⟩ := h
  unfold smT at hs
  unfold ngL
  rcases Nat.lt_or_ge (L + R) 4294967296 with q | q
  · have : L % 16777216 + R ≥ 16777216 := by omega
    omega
  · have e : L + R = 4294967296 := by omega
    have := h4 e
    omega
theorem plI_st {k R L : Nat} (h : plI k R L) (hm : mvP L R) : 4 < k ∧ plI (k - 1) (mvR L R) (mvL L) := by
  obtain ⟨hp, hk4, hk8, hc⟩ := h
  by_cases hs : smT L R
  · have h1 := mv_same hp hs
    obtain ⟨a1, a2, a3, a4⟩ := hp
    have eR : mvR L R = R * 256 := by unfold mvR; rw [if_pos hs]; omega
    have eL : mvL L = L % 16777216 * 256 := by unfold mvL; omega
    rcases hc with ⟨c1, c2⟩ | ⟨c1, -⟩
    · have k6 := wb8_k c2 c1 (by omega)
      refine ⟨by omega, ⟨by rw [eL]; omega, by omega, by rw [eR, eL]; omega, by rw [eR, eL]; omega⟩, by omega, by omega, Or.inl ⟨?_, by omega⟩⟩
      rw [eR]; exact wb8_s k6 hk8 c1
    · have := a4 c1
      omega
  · have hR : R < 65536 := hm.elim (fun q => absurd q hs) id
    obtain ⟨b1, b2, b3, b4⟩ := mv_cut hp hs hR
    have eR : mvR L R = ngL L * 256 := by unfold mvR; rw [if_neg hs]; omega
    have eL : mvL L = L % 16777216 * 256 := by unfold mvL; omega
    have sm : mvL L + mvR L R = 4294967296 := by rw [eR, eL]; omega
    rcases hc with ⟨c1, c2⟩ | ⟨c1, c2⟩
    · have k7 := wb8_7 c2 c1 hR
      exact ⟨by omega, ⟨by rw [eL]; omega, by omega, by omega, fun _ => by rw [eL]; omega⟩, by omega, by omega, Or.inr ⟨by omega, Or.inl ⟨by omega, by omega⟩⟩⟩
    · have e := b4 c1
      rcases c2 with ⟨d1, d2⟩ | d1
      · exact ⟨by omega, ⟨by rw [eL]; omega, by omega, by omega, fun _ => by rw [eL]; omega⟩, by omega, by omega, Or.inr ⟨by omega, Or.inr (by omega)⟩⟩
      · omega
abbrev PS : Type := Nat × Nat × List Nat
def plN : Nat → PS → PS
  | 0, e => e
  | k + 1, e => if mvP e.2.1 e.1 then plN k (mvR e.2.1 e.1, mvL e.2.1, e.2.2 ++ [e.2.1 / 16777216 % 256]) else e
def plS (e : PS) : PS := plN 8 e
theorem plN_e {k : Nat} {e : PS} (h : ¬ mvP e.2.1 e.1) : plN k e = e := by
  cases k with
  | zero => rfl
  | succ k => rw [plN, if_neg h]
theorem plN_s {k : Nat} {e : PS} (h0 : 0 < k) (h : mvP e.2.1 e.1) : plN k e = plN (k - 1) (mvR e.2.1 e.1, mvL e.2.1, e.2.2 ++ [e.2.1 / 16777216 % 256]) := by
  cases k with
  | zero => omega
  | succ k => rw [plN, if_pos h]; rfl
theorem L_neg {n : Nat} (h : n < 2 ^ 64) : -lN n = lN (18446744073709551616 - n) := by
  apply wb_inj
  rw [Int64.toBitVec_neg, wb_tb, wb_tb]
  apply BitVec.eq_of_toNat_eq
  rw [BitVec.toNat_neg, BitVec.toNat_ofNat, BitVec.toNat_ofNat, Nat.mod_eq_of_lt h]
theorem L_ng {n : Nat} (h0 : 0 < n) (h : n < 2 ^ 64) : -lN n &&& 65535 = lN (ngL n) := by
  rw [L_neg h, L_and16 (by omega)]; rfl
theorem L_ng0 : -lN 0 &&& 65535 = lN (ngL 0) := by decide +kernel
theorem L_ngA {n : Nat} (h : n < 2 ^ 64) : -lN n &&& 65535 = lN (ngL n) := by
  rcases Nat.eq_zero_or_pos n with e | e
  · subst e; exact L_ng0
  · exact L_ng e h
/-- a reading of form 1: RANGE, LOW, CODE, bytes asked for -/
abbrev RP : Type := Nat × Nat × Nat × Nat
def prN (is : List Nat) : Nat → RP → RP
  | 0, e => e
  | k + 1, e => if mvP e.2.1 e.1 then prN is k (mvR e.2.1 e.1, mvL e.2.1, e.2.2.1 * 256 % 4294967296 + byA is e.2.2.2, e.2.2.2 + 1) else e
def prS (is : List Nat) (e : RP) : RP := prN is 8 e
theorem prN_e {is : List Nat} {k : Nat} {e : RP} (h : ¬ mvP e.2.1 e.1) : prN is k e = e := by
  cases k with
  | zero => rfl
  | succ k => rw [prN, if_neg h]
theorem prN_s {is : List Nat} {k : Nat} {e : RP} (h0 : 0 < k) (h : mvP e.2.1 e.1) : prN is k e = prN is (k - 1) (mvR e.2.1 e.1, mvL e.2.1, e.2.2.1 * 256 % 4294967296 + byA is e.2.2.2, e.2.2.2 + 1) := by
  cases k with
  | zero => omega
  | succ k => rw [prN, if_pos h]; rfl
end
section
/-! the reference: its object in one word -/
abbrev mO (g : Nat → Nat) (fForm : Int32) (fShift : Int32) (fModels : Int32) (fItems : Int32) (fEnded : Int32) (fLow : Int64) (fRange : Int64) (fCache : Int32) (fPend : Int32) (fGoes : Int32) (fOuts : Int32) (fIns : Int32) (fReads : Int32) (fBad : Int32) (fIR : Int32) (fAsk : Int32) (fBAsk : Int32) (fCode : Int64) (fRL : Int64) (fRR : Int64) (fX : Int64) (fWrites : Int32) (fThrown : Int32) : List Value := [Value.int fForm, Value.int fShift, Value.int fModels, Value.ref (g 0), Value.ref (g 1), Value.ref (g 2), Value.ref (g 3), Value.int fItems, Value.ref (g 4), Value.ref (g 5), Value.int fEnded, Value.long fLow, Value.long fRange, Value.int fCache, Value.int fPend, Value.ref (g 6), Value.int fGoes, Value.ref (g 7), Value.int fOuts, Value.ref (g 8), Value.int fIns, Value.int fReads, Value.int fBad, Value.int fIR, Value.int fAsk, Value.int fBAsk, Value.long fCode, Value.long fRL, Value.long fRR, Value.long fX, Value.ref (g 9), Value.ref (g 10), Value.ref (g 11), Value.int fWrites, Value.int fThrown]
theorem ix64 {a b : Nat} : (64 : Int32) * nI a + nI b = nI (64 * a + b) := by rw [← nI_add, ← pk_mul]; rfl
end
section
set_option maxHeartbeats 1000000 in
set_option maxRecDepth 100000 in
/-- in -/
theorem c_M_in (l : Launch) (dC : Nat → ClassId) (dI : Nat → Nat → Nat) (cI cM cO : ClassId) (sz : Nat) (v : Int32) (a : Int32) (b : Int32) : MetI l y_M_in (Cond.code y_M_in prog_14_method_3_code 3 (some .boolean) :: gw) ({ frames := 0, cells := 0, slots := 0, locals := 0 } : Room) (dC, dI) vwCl (kT cI cM cO) [Value.int v, Value.int a, Value.int b] [] sz (fun (r : Int32) (u : Unit) => r = if a ≤ v ∧ v ≤ b then 1 else 0) (fun (u : Unit) => []) 0 0 := by
  refine my_ofI (cc := prog_14_method_3_code) (n := 3) (ret := (some .boolean)) (by decide) rfl (Nat.le_of_ble_eq_true rfl) ?_
  intro p e s m args below meth c R Q A ls H locs hx hb hr hts hown hlocks hml hnm hR hQ hA hl hP hK hN hD hS
  have hg : ∀ w ∈ gw, w.before args s = true := fun w h => hts w (List.mem_cons_of_mem _ h)
  have hown : s.vm.findClass "RangeCodersModel" = some m.cls := hown
  have hl : lv_has ls 3 [(0, Value.int v), (1, Value.int a), (2, Value.int b)] := hl
  refine lv_iload_n hx hb d_M_in_0 rfl (lv_at hl 0 rfl) ?_
  refine lv_iload_n hx hb d_M_in_1 rfl (lv_at hl 1 rfl) ?_
  refine lv_icmp_lt (tgt := 14) hx hb d_M_in_2 (by decide) (fun c_1 => ?_) (fun c_1 => ?_)
  · refine lv_iconst (v := 0) hx hb d_M_in_14 (by decide) ?_
    exact my_iret (v := 0) hx hb hr (rfl) hlocks hQ hK hS (Nat.le_refl _) (Nat.le_refl _) () (by rw [if_neg (fun h => absurd c_1 (Int32.not_lt.mpr h.1))]) (hP.sub [] rfl) (hD.sub [] (by decide +kernel) rfl) d_M_in_15
  · refine lv_iload_n hx hb d_M_in_5 rfl (lv_at hl 0 rfl) ?_
    refine lv_iload_n hx hb d_M_in_6 rfl (lv_at hl 2 rfl) ?_
    refine lv_icmp_gt (tgt := 14) hx hb d_M_in_7 (by decide) (fun c_2 => ?_) (fun c_2 => ?_)
    · refine lv_iconst (v := 0) hx hb d_M_in_14 (by decide) ?_
      exact my_iret (v := 0) hx hb hr (rfl) hlocks hQ hK hS (Nat.le_refl _) (Nat.le_refl _) () (by rw [if_neg (fun h => absurd c_2 (Int32.not_lt.mpr h.2))]) (hP.sub [] rfl) (hD.sub [] (by decide +kernel) rfl) d_M_in_15
    · refine lv_iconst (v := 1) hx hb d_M_in_10 (by decide) ?_
      refine lv_goto (tgt := 15) hx hb d_M_in_11 (by decide) ?_
      exact my_iret (v := 1) hx hb hr (rfl) hlocks hQ hK hS (Nat.le_refl _) (Nat.le_refl _) () (by rw [if_pos ⟨Int32.not_lt.mp c_1, Int32.not_lt.mp c_2⟩]) (hP.sub [] rfl) (hD.sub [] (by decide +kernel) rfl) d_M_in_15
set_option maxHeartbeats 1000000 in
set_option maxRecDepth 100000 in
theorem c_M_isModel (l : Launch) (dC : Nat → ClassId) (dI : Nat → Nat → Nat) (cI cM cO : ClassId) (sz : Nat) (o : Nat) (g : Nat → Nat) (fForm : Int32) (fShift : Int32) (fModels : Int32) (fItems : Int32) (fEnded : Int32) (fLow : Int64) (fRange : Int64) (fCache : Int32) (fPend : Int32) (fGoes : Int32) (fOuts : Int32) (fIns : Int32) (fReads : Int32) (fBad : Int32) (fIR : Int32) (fAsk : Int32) (fBAsk : Int32) (fCode : Int64) (fRL : Int64) (fRR : Int64) (fX : Int64) (fWrites : Int32) (fThrown : Int32) (p1 : Int32) : MetI l y_M_isModel (Cond.code y_M_isModel prog_14_method_4_code 2 (some .boolean) :: gw) ({ frames := 1, cells := 0, slots := 0, locals := 22 } : Room) (dC, dI) vwCl (kT cI cM cO) [Value.ref o, Value.int p1] [(o, Sum.inr (9, mO g fForm fShift fModels fItems fEnded fLow fRange fCache fPend fGoes fOuts fIns fReads fBad fIR fAsk fBAsk fCode fRL fRR fX fWrites fThrown))] sz (fun (r : Int32) (u : Unit) => r = if 0 ≤ p1 ∧ p1 ≤ fModels - 1 then 1 else 0) (fun (u : Unit) => [(o, Sum.inr (9, mO g fForm fShift fModels fItems fEnded fLow fRange fCache fPend fGoes fOuts fIns fReads fBad fIR fAsk fBAsk fCode fRL fRR fX fWrites fThrown))]) 0 0 := by
  refine my_ofI (cc := prog_14_method_4_code) (n := 2) (ret := (some .boolean)) (by decide) rfl (Nat.le_of_ble_eq_true rfl) ?_
  intro p e s m args below meth c R Q A ls H locs hx hb hr hts hown hlocks hml hnm hR hQ hA hl hP hK hN hD hS
  have hg : ∀ w ∈ gw, w.before args s = true := fun w h => hts w (List.mem_cons_of_mem _ h)
  have hown : s.vm.findClass "RangeCodersModel" = some m.cls := hown
  have hl : lv_has ls 2 [(0, Value.ref o), (1, Value.int p1)] := hl
  refine lv_iload_n hx hb d_M_isModel_0 rfl (lv_at hl 1 rfl) ?_
  refine lv_iconst (v := 0) hx hb d_M_isModel_1 (by decide) ?_
  refine lv_aload_n hx hb d_M_isModel_2 rfl (lv_at hl 0 rfl) ?_
  refine va_get (D := (dC, dI)) (ci := 9) (v := .int fModels) (C := "RangeCodersModel") (T := T_M) (N := 35) hx hb hg in_M hown hK hP 0 rfl rfl 2 (by decide) (hg _ k954) (fun _ h9 => h9) rfl d_M_isModel_3 ?_
  refine lv_iconst (v := 1) hx hb d_M_isModel_6 (by decide) ?_
  refine lv_isub hx hb d_M_isModel_7 ?_
  refine lv_topi (fun v_1 ev_1 => ?_)
  refine my_ci (wr := [(o, Sum.inr (9, mO g fForm fShift fModels fItems fEnded fLow fRange fCache fPend fGoes fOuts fIns fReads fBad fIR fAsk fBAsk fCode fRL fRR fX fWrites fThrown))]) (va_runS (As := [Value.int p1, Value.int 0, Value.int v_1]) (rest := []) ⟨hx, hb, hml, hown, hts⟩ (c_M_in l dC dI cI cM cO H.size p1 0 v_1) (cwS 3 hts (my_gS k1062 k1063 k12 k1064) rfl rfl rfl (by decide +kernel) ⟨by rw [hR]; exact Nat.le_of_ble_eq_true rfl, by rw [hR]; exact Nat.le_of_ble_eq_true rfl⟩) (my_pre hK hN (hP.sub [] rfl) (hD.sub [] (by decide +kernel) rfl)) rfl rfl hl.1 rfl (lv_room (Nat.le_of_ble_eq_true rfl)) d_M_isModel_8 ⟨by rw [hR]; exact Nat.le_of_ble_eq_true rfl, by rw [hR]; exact Nat.le_of_ble_eq_true rfl⟩) hP hD hS hA [] [0] rfl rfl (by decide +kernel) (by decide +kernel) (fun r_8 u9 H locs hw_8 hP hD hS => ?_)
  have hw_8 : r_8 = if 0 ≤ p1 ∧ p1 ≤ v_1 then 1 else 0 := hw_8
  have hPD : my_PD (dC, dI) vwCl A [(o, Sum.inr (9, mO g fForm fShift fModels fItems fEnded fLow fRange fCache fPend fGoes fOuts fIns fReads fBad fIR fAsk fBAsk fCode fRL fRR fX fWrites fThrown))] H := ⟨hP, hD⟩
  have hP := hPD.1
  have hD := hPD.2
  exact my_iret (v := r_8) hx hb hr (by subst_vars; split <;> rfl) hlocks hQ hK hS (Nat.le_refl _) (Nat.le_refl _) () (by subst_vars; assumption) (hP.sub [0] rfl) (hD.sub [0] (by decide +kernel) rfl) d_M_isModel_11
set_option maxHeartbeats 1000000 in
set_option maxRecDepth 100000 in
/-- sum -/
theorem c_M_sum (l : Launch) (dC : Nat → ClassId) (dI : Nat → Nat → Nat) (cI cM cO : ClassId) (sz : Nat) (o : Nat) (g : Nat → Nat) (fForm : Int32) (fShift : Int32) (fModels : Int32) (fItems : Int32) (fEnded : Int32) (fLow : Int64) (fRange : Int64) (fCache : Int32) (fPend : Int32) (fGoes : Int32) (fOuts : Int32) (fIns : Int32) (fReads : Int32) (fBad : Int32) (fIR : Int32) (fAsk : Int32) (fBAsk : Int32) (fCode : Int64) (fRL : Int64) (fRR : Int64) (fX : Int64) (fWrites : Int32) (fThrown : Int32) (vMany : Nat → Int32) (a : Nat) (f : Nat → Int32) (mm : Nat) (n : Nat) (F : Nat → Nat) (hmm : mm < 8) (hn : vMany mm = nI n) (hn2 : n ≤ 64) (hf : sgI f (64 * mm) n F) : MetI l y_M_sum (Cond.code y_M_sum prog_14_method_8_code 5 (some .int) :: gw) ({ frames := 0, cells := 0, slots := 0, locals := 0 } : Room) (dC, dI) vwCl (kT cI cM cO) [Value.ref o, Value.ref a, Value.int (nI mm)] [(o, Sum.inr (9, mO g fForm fShift fModels fItems fEnded fLow fRange fCache fPend fGoes fOuts fIns fReads fBad fIR fAsk fBAsk fCode fRL fRR fX fWrites fThrown)), ((g 0), Sum.inl (cI, 8, Sum.inl vMany)), (a, Sum.inl (cI, 512, Sum.inl f))] sz (fun (r : Int32) (u : Unit) => r = nI (ns F n)) (fun (u : Unit) => [(o, Sum.inr (9, mO g fForm fShift fModels fItems fEnded fLow fRange fCache fPend fGoes fOuts fIns fReads fBad fIR fAsk fBAsk fCode fRL fRR fX fWrites fThrown)), ((g 0), Sum.inl (cI, 8, Sum.inl vMany)), (a, Sum.inl (cI, 512, Sum.inl f))]) 0 0 := by
  refine my_ofI (cc := prog_14_method_8_code) (n := 5) (ret := (some .int)) (by decide) rfl (Nat.le_of_ble_eq_true rfl) ?_
  intro p e s m args below meth c R Q A ls H locs hx hb hr hts hown hlocks hml hnm hR hQ hA hl hP hK hN hD hS
  have hg : ∀ w ∈ gw, w.before args s = true := fun w h => hts w (List.mem_cons_of_mem _ h)
  have hown : s.vm.findClass "RangeCodersModel" = some m.cls := hown
  have hl : lv_has ls 5 [(0, Value.ref o), (1, Value.ref a), (2, Value.int (nI mm))] := hl
  refine lv_iconst (v := 0) hx hb d_M_sum_0 (by decide) ?_
  refine lv_istore_n (lv' := [(3, Value.int 0), (0, Value.ref o), (1, Value.ref a), (2, Value.int (nI mm))]) hx hb d_M_sum_1 rfl hl (by decide) rfl (fun ls hl => ?_)
  refine lv_iconst (v := 0) hx hb d_M_sum_2 (by decide) ?_
  refine lv_istore (lv' := [(4, Value.int 0), (3, Value.int 0), (0, Value.ref o), (1, Value.ref a), (2, Value.int (nI mm))]) hx hb d_M_sum_3 hl (by decide) rfl (fun ls hl => ?_)
  have J_5 : ∀ (n9_5 : Nat) (s9 : Int32) (i9 : Int32) (j : Nat) (hn9_5 : n - j = n9_5) (hs : s9 = nI (ns F j)) (hi : i9 = nI j) (hj : j ≤ n) (H : Heap) (locs : List Loc) (ls : Array Slot), va_P (dC, dI) vwCl [(o, Sum.inr (9, mO g fForm fShift fModels fItems fEnded fLow fRange fCache fPend fGoes fOuts fIns fReads fBad fIR fAsk fBAsk fCode fRL fRR fX fWrites fThrown)), ((g 0), Sum.inl (cI, 8, Sum.inl vMany)), (a, Sum.inl (cI, 512, Sum.inl f))] H → va_D A [(o, Sum.inr (9, mO g fForm fShift fModels fItems fEnded fLow fRange fCache fPend fGoes fOuts fIns fReads fBad fIR fAsk fBAsk fCode fRL fRR fX fWrites fThrown)), ((g 0), Sum.inl (cI, 8, Sum.inl vMany)), (a, Sum.inl (cI, 512, Sum.inl f))] → va_S A s.heap H locs → lv_has ls 5 [(4, Value.int i9), (3, Value.int s9), (0, Value.ref o), (1, Value.ref a), (2, Value.int (nI mm))] → W p l e R s m args below meth c H locs 0 0 Q (F0 m 5 ls []) := by
    intro n9_5
    induction n9_5 using Nat.strongRecOn with
    | ind n9_5 ih9_5 =>
      intro s9 i9 j hn9_5 hs hi hj H locs ls hP hD hS hl
      refine lv_iload hx hb d_M_sum_5 (lv_at hl 0 rfl) ?_
      refine lv_aload_n hx hb d_M_sum_7 rfl (lv_at hl 2 rfl) ?_
      refine va_get (D := (dC, dI)) (ci := 9) (v := .ref (g 0)) (C := "RangeCodersModel") (T := T_M) (N := 35) hx hb hg in_M hown hK hP 0 rfl rfl 3 (by decide) (hg _ k955) (fun _ h9 => h9) rfl d_M_sum_8 ?_
      refine lv_iload_n hx hb d_M_sum_11 rfl (lv_at hl 4 rfl) ?_
      refine va_iald hx hb hK hP 1 0 rfl rfl (vp_in_nI hmm (by decide)) d_M_sum_12 ?_
      refine lv_topi (fun v_1 ev_1 => ?_)
      have hv9 : v_1 = nI n := by subst_vars; rw [nI_clamp (by omega)]; exact hn
      refine lv_icmp_ge (tgt := 34) hx hb d_M_sum_13 (by decide) (fun c_2 => ?_) (fun c_2 => ?_)
      · have hj3 : j = n := by
          rcases Nat.lt_or_ge j n with q | q
          · exact absurd c_2 (by rw [hv9, hi]; exact nI_ge q (by omega))
          · omega
        refine lv_iload_n hx hb d_M_sum_34 rfl (lv_at hl 1 rfl) ?_
        exact my_iret (v := s9) hx hb hr (rfl) hlocks hQ hK hS (Nat.le_refl _) (Nat.le_refl _) () (by rw [hs, hj3]) (hP.sub [0, 1, 2] rfl) (hD.sub [0, 1, 2] (by decide +kernel) rfl) d_M_sum_35
      · have hj2 : j < n := by
          rcases Nat.lt_or_ge j n with q | q
          · exact q
          · exact absurd (by rw [hv9, hi]; exact nI_le q (by omega)) c_2
        refine lv_iload_n hx hb d_M_sum_16 rfl (lv_at hl 1 rfl) ?_
        refine lv_aload_n hx hb d_M_sum_17 rfl (lv_at hl 3 rfl) ?_
        refine lv_bipush (v := 64) hx hb d_M_sum_18 (by decide) ?_
        refine lv_iload_n hx hb d_M_sum_20 rfl (lv_at hl 4 rfl) ?_
        refine lv_imul hx hb d_M_sum_21 ?_
        refine lv_topi (fun v_3 ev_3 => ?_)
        refine lv_iload hx hb d_M_sum_22 (lv_at hl 0 rfl) ?_
        refine lv_iadd hx hb d_M_sum_24 ?_
        refine lv_topi (fun v_4 ev_4 => ?_)
        have hix : v_4 = nI (64 * mm + j) := by subst_vars; exact ix64
        refine va_iald hx hb hK hP 2 0 rfl rfl (by rw [hix]; exact vp_in_nI (by omega) (by decide)) d_M_sum_25 ?_
        refine lv_topi (fun v_5 ev_5 => ?_)
        refine lv_iadd hx hb d_M_sum_26 ?_
        refine lv_topi (fun v_6 ev_6 => ?_)
        refine lv_istore_n (lv' := [(3, Value.int v_6), (4, Value.int i9), (0, Value.ref o), (1, Value.ref a), (2, Value.int (nI mm))]) hx hb d_M_sum_27 rfl hl (by decide) rfl (fun ls hl => ?_)
        obtain ⟨v_7, ev_7⟩ : ∃ y : Int32, y = i9 + (1) := ⟨_, rfl⟩
        refine lv_iinc (v := v_7) (lv' := [(4, Value.int v_7), (3, Value.int v_6), (0, Value.ref o), (1, Value.ref a), (2, Value.int (nI mm))]) hx hb d_M_sum_28 hl (k := 1) rfl (by rw [ev_7]; rfl) (by decide) rfl (fun ls hl => ?_)
        refine lv_goto (tgt := 5) hx hb d_M_sum_31 (by decide) ?_
        exact ih9_5 _ (by first | omega | (omega)) v_6 v_7 (j + 1) rfl (by subst_vars; rw [nI_clamp (by omega), hf j hj2, nI_add]; rfl) (by subst_vars; exact nI_1 j) (by omega) H locs ls (hP.sub [0, 1, 2] rfl) (hD.sub [0, 1, 2] (by decide +kernel) rfl) hS (lv_sub hl [0, 1, 2, 3, 4] rfl)
  exact J_5 _ 0 0 0 rfl (rfl) (rfl) (Nat.zero_le _) H locs ls (hP.sub [0, 1, 2] rfl) (hD.sub [0, 1, 2] (by decide +kernel) rfl) hS (lv_sub hl [0, 1, 2, 3, 4] rfl)
set_option maxHeartbeats 1000000 in
set_option maxRecDepth 100000 in
/-- before -/
theorem c_M_before (l : Launch) (dC : Nat → ClassId) (dI : Nat → Nat → Nat) (cI cM cO : ClassId) (sz : Nat) (o : Nat) (g : Nat → Nat) (fForm : Int32) (fShift : Int32) (fModels : Int32) (fItems : Int32) (fEnded : Int32) (fLow : Int64) (fRange : Int64) (fCache : Int32) (fPend : Int32) (fGoes : Int32) (fOuts : Int32) (fIns : Int32) (fReads : Int32) (fBad : Int32) (fIR : Int32) (fAsk : Int32) (fBAsk : Int32) (fCode : Int64) (fRL : Int64) (fRR : Int64) (fX : Int64) (fWrites : Int32) (fThrown : Int32) (a : Nat) (f : Nat → Int32) (mm : Nat) (t : Nat) (F : Nat → Nat) (hmm : mm < 8) (ht : t ≤ 64) (hf : sgI f (64 * mm) t F) : MetI l y_M_before (Cond.code y_M_before prog_14_method_22_code 6 (some .int) :: gw) ({ frames := 0, cells := 0, slots := 0, locals := 0 } : Room) (dC, dI) vwCl (kT cI cM cO) [Value.ref o, Value.ref a, Value.int (nI mm), Value.int (nI t)] [(o, Sum.inr (9, mO g fForm fShift fModels fItems fEnded fLow fRange fCache fPend fGoes fOuts fIns fReads fBad fIR fAsk fBAsk fCode fRL fRR fX fWrites fThrown)), (a, Sum.inl (cI, 512, Sum.inl f))] sz (fun (r : Int32) (u : Unit) => r = nI (ns F t)) (fun (u : Unit) => [(o, Sum.inr (9, mO g fForm fShift fModels fItems fEnded fLow fRange fCache fPend fGoes fOuts fIns fReads fBad fIR fAsk fBAsk fCode fRL fRR fX fWrites fThrown)), (a, Sum.inl (cI, 512, Sum.inl f))]) 0 0 := by
  refine my_ofI (cc := prog_14_method_22_code) (n := 6) (ret := (some .int)) (by decide) rfl (Nat.le_of_ble_eq_true rfl) ?_
  intro p e s m args below meth c R Q A ls H locs hx hb hr hts hown hlocks hml hnm hR hQ hA hl hP hK hN hD hS
  have hg : ∀ w ∈ gw, w.before args s = true := fun w h => hts w (List.mem_cons_of_mem _ h)
  have hown : s.vm.findClass "RangeCodersModel" = some m.cls := hown
  have hl : lv_has ls 6 [(0, Value.ref o), (1, Value.ref a), (2, Value.int (nI mm)), (3, Value.int (nI t))] := hl
  refine lv_iconst (v := 0) hx hb d_M_before_0 (by decide) ?_
  refine lv_istore (lv' := [(4, Value.int 0), (0, Value.ref o), (1, Value.ref a), (2, Value.int (nI mm)), (3, Value.int (nI t))]) hx hb d_M_before_1 hl (by decide) rfl (fun ls hl => ?_)
  refine lv_iconst (v := 0) hx hb d_M_before_3 (by decide) ?_
  refine lv_istore (lv' := [(5, Value.int 0), (4, Value.int 0), (0, Value.ref o), (1, Value.ref a), (2, Value.int (nI mm)), (3, Value.int (nI t))]) hx hb d_M_before_4 hl (by decide) rfl (fun ls hl => ?_)
  have J_6 : ∀ (n9_6 : Nat) (s9 : Int32) (i9 : Int32) (j : Nat) (hn9_6 : t - j = n9_6) (hs : s9 = nI (ns F j)) (hi : i9 = nI j) (hj : j ≤ t) (H : Heap) (locs : List Loc) (ls : Array Slot), va_P (dC, dI) vwCl [(o, Sum.inr (9, mO g fForm fShift fModels fItems fEnded fLow fRange fCache fPend fGoes fOuts fIns fReads fBad fIR fAsk fBAsk fCode fRL fRR fX fWrites fThrown)), (a, Sum.inl (cI, 512, Sum.inl f))] H → va_D A [(o, Sum.inr (9, mO g fForm fShift fModels fItems fEnded fLow fRange fCache fPend fGoes fOuts fIns fReads fBad fIR fAsk fBAsk fCode fRL fRR fX fWrites fThrown)), (a, Sum.inl (cI, 512, Sum.inl f))] → va_S A s.heap H locs → lv_has ls 6 [(5, Value.int i9), (4, Value.int s9), (0, Value.ref o), (1, Value.ref a), (2, Value.int (nI mm)), (3, Value.int (nI t))] → W p l e R s m args below meth c H locs 0 0 Q (F0 m 6 ls []) := by
    intro n9_6
    induction n9_6 using Nat.strongRecOn with
    | ind n9_6 ih9_6 =>
      intro s9 i9 j hn9_6 hs hi hj H locs ls hP hD hS hl
      refine lv_iload hx hb d_M_before_6 (lv_at hl 0 rfl) ?_
      refine lv_iload_n hx hb d_M_before_8 rfl (lv_at hl 5 rfl) ?_
      refine lv_icmp_ge (tgt := 32) hx hb d_M_before_9 (by decide) (fun c_1 => ?_) (fun c_1 => ?_)
      · have hj3 : j = t := by
          rcases Nat.lt_or_ge j t with q | q
          · exact absurd c_1 (by rw [hi]; exact nI_ge q (by omega))
          · omega
        refine lv_iload hx hb d_M_before_32 (lv_at hl 1 rfl) ?_
        exact my_iret (v := s9) hx hb hr (rfl) hlocks hQ hK hS (Nat.le_refl _) (Nat.le_refl _) () (by rw [hs, hj3]) (hP.sub [0, 1] rfl) (hD.sub [0, 1] (by decide +kernel) rfl) d_M_before_34
      · have hj2 : j < t := by
          rcases Nat.lt_or_ge j t with q | q
          · exact q
          · exact absurd (by rw [hi]; exact nI_le q (by omega)) c_1
        refine lv_iload hx hb d_M_before_12 (lv_at hl 1 rfl) ?_
        refine lv_aload_n hx hb d_M_before_14 rfl (lv_at hl 3 rfl) ?_
        refine lv_bipush (v := 64) hx hb d_M_before_15 (by decide) ?_
        refine lv_iload_n hx hb d_M_before_17 rfl (lv_at hl 4 rfl) ?_
        refine lv_imul hx hb d_M_before_18 ?_
        refine lv_topi (fun v_2 ev_2 => ?_)
        refine lv_iload hx hb d_M_before_19 (lv_at hl 0 rfl) ?_
        refine lv_iadd hx hb d_M_before_21 ?_
        refine lv_topi (fun v_3 ev_3 => ?_)
        have hix : v_3 = nI (64 * mm + j) := by subst_vars; exact ix64
        refine va_iald hx hb hK hP 1 0 rfl rfl (by rw [hix]; exact vp_in_nI (by omega) (by decide)) d_M_before_22 ?_
        refine lv_topi (fun v_4 ev_4 => ?_)
        refine lv_iadd hx hb d_M_before_23 ?_
        refine lv_topi (fun v_5 ev_5 => ?_)
        refine lv_istore (lv' := [(4, Value.int v_5), (5, Value.int i9), (0, Value.ref o), (1, Value.ref a), (2, Value.int (nI mm)), (3, Value.int (nI t))]) hx hb d_M_before_24 hl (by decide) rfl (fun ls hl => ?_)
        obtain ⟨v_6, ev_6⟩ : ∃ y : Int32, y = i9 + (1) := ⟨_, rfl⟩
        refine lv_iinc (v := v_6) (lv' := [(5, Value.int v_6), (4, Value.int v_5), (0, Value.ref o), (1, Value.ref a), (2, Value.int (nI mm)), (3, Value.int (nI t))]) hx hb d_M_before_26 hl (k := 1) rfl (by rw [ev_6]; rfl) (by decide) rfl (fun ls hl => ?_)
        refine lv_goto (tgt := 6) hx hb d_M_before_29 (by decide) ?_
        exact ih9_6 _ (by first | omega | (omega)) v_5 v_6 (j + 1) rfl (by subst_vars; rw [nI_clamp (by omega), hf j hj2, nI_add]; rfl) (by subst_vars; exact nI_1 j) (by omega) H locs ls (hP.sub [0, 1] rfl) (hD.sub [0, 1] (by decide +kernel) rfl) hS (lv_sub hl [0, 1, 2, 3, 4, 5] rfl)
  exact J_6 _ 0 0 0 rfl (rfl) (rfl) (Nat.zero_le _) H locs ls (hP.sub [0, 1] rfl) (hD.sub [0, 1] (by decide +kernel) rfl) hS (lv_sub hl [0, 1, 2, 3, 4, 5] rfl)
set_option maxHeartbeats 1000000 in
set_option maxRecDepth 100000 in
/-- halve -/
theorem c_M_halve (l : Launch) (dC : Nat → ClassId) (dI : Nat → Nat → Nat) (cI cM cO : ClassId) (sz : Nat) (o : Nat) (g : Nat → Nat) (fForm : Int32) (fShift : Int32) (fModels : Int32) (fItems : Int32) (fEnded : Int32) (fLow : Int64) (fRange : Int64) (fCache : Int32) (fPend : Int32) (fGoes : Int32) (fOuts : Int32) (fIns : Int32) (fReads : Int32) (fBad : Int32) (fIR : Int32) (fAsk : Int32) (fBAsk : Int32) (fCode : Int64) (fRL : Int64) (fRR : Int64) (fX : Int64) (fWrites : Int32) (fThrown : Int32) (vMany : Nat → Int32) (a : Nat) (f : Nat → Int32) (mm : Nat) (n : Nat) (F : Nat → Nat) (hmm : mm < 8) (hn : vMany mm = nI n) (hn2 : n ≤ 64) (hf : sgI f (64 * mm) n F) (hB : bd F n 1000000) : MetV l y_M_halve (Cond.code y_M_halve prog_14_method_9_code 4 none :: gw) ({ frames := 0, cells := 0, slots := 0, locals := 0 } : Room) (dC, dI) vwCl (kT cI cM cO) [Value.ref o, Value.ref a, Value.int (nI mm)] [(o, Sum.inr (9, mO g fForm fShift fModels fItems fEnded fLow fRange fCache fPend fGoes fOuts fIns fReads fBad fIR fAsk fBAsk fCode fRL fRR fX fWrites fThrown)), ((g 0), Sum.inl (cI, 8, Sum.inl vMany)), (a, Sum.inl (cI, 512, Sum.inl f))] sz (fun (u : (Nat → Int32)) => sgI u (64 * mm) n (hv F) ∧ sgO u f (64 * mm) n) (fun (u : (Nat → Int32)) => [(o, Sum.inr (9, mO g fForm fShift fModels fItems fEnded fLow fRange fCache fPend fGoes fOuts fIns fReads fBad fIR fAsk fBAsk fCode fRL fRR fX fWrites fThrown)), ((g 0), Sum.inl (cI, 8, Sum.inl vMany)), (a, Sum.inl (cI, 512, Sum.inl u))]) 0 0 := by
  refine my_ofV (cc := prog_14_method_9_code) (n := 4) (ret := none) (by decide) rfl (Nat.le_of_ble_eq_true rfl) ?_
  intro p e s m args below meth c R Q A ls H locs hx hb hr hts hown hlocks hml hnm hR hQ hA hl hP hK hN hD hS
  have hg : ∀ w ∈ gw, w.before args s = true := fun w h => hts w (List.mem_cons_of_mem _ h)
  have hown : s.vm.findClass "RangeCodersModel" = some m.cls := hown
  have hl : lv_has ls 4 [(0, Value.ref o), (1, Value.ref a), (2, Value.int (nI mm))] := hl
  refine lv_iconst (v := 0) hx hb d_M_halve_0 (by decide) ?_
  refine lv_istore_n (lv' := [(3, Value.int 0), (0, Value.ref o), (1, Value.ref a), (2, Value.int (nI mm))]) hx hb d_M_halve_1 rfl hl (by decide) rfl (fun ls hl => ?_)
  have J_2 : ∀ (n9_2 : Nat) (fL : Nat → Int32) (i9 : Int32) (j : Nat) (hn9_2 : n - j = n9_2) (hL : sgL fL f (64 * mm) n j (hv F) F) (hi : i9 = nI j) (hj : j ≤ n) (H : Heap) (locs : List Loc) (ls : Array Slot), va_P (dC, dI) vwCl [(o, Sum.inr (9, mO g fForm fShift fModels fItems fEnded fLow fRange fCache fPend fGoes fOuts fIns fReads fBad fIR fAsk fBAsk fCode fRL fRR fX fWrites fThrown)), ((g 0), Sum.inl (cI, 8, Sum.inl vMany)), (a, Sum.inl (cI, 512, Sum.inl fL))] H → va_D A [(o, Sum.inr (9, mO g fForm fShift fModels fItems fEnded fLow fRange fCache fPend fGoes fOuts fIns fReads fBad fIR fAsk fBAsk fCode fRL fRR fX fWrites fThrown)), ((g 0), Sum.inl (cI, 8, Sum.inl vMany)), (a, Sum.inl (cI, 512, Sum.inl fL))] → va_S A s.heap H locs → lv_has ls 4 [(3, Value.int i9), (0, Value.ref o), (1, Value.ref a), (2, Value.int (nI mm))] → W p l e R s m args below meth c H locs 0 0 Q (F0 m 2 ls []) := by
    intro n9_2
    induction n9_2 using Nat.strongRecOn with
    | ind n9_2 ih9_2 =>
      intro fL i9 j hn9_2 hL hi hj H locs ls hP hD hS hl
      refine lv_iload_n hx hb d_M_halve_2 rfl (lv_at hl 0 rfl) ?_
      refine lv_aload_n hx hb d_M_halve_3 rfl (lv_at hl 1 rfl) ?_
      refine va_get (D := (dC, dI)) (ci := 9) (v := .ref (g 0)) (C := "RangeCodersModel") (T := T_M) (N := 35) hx hb hg in_M hown hK hP 0 rfl rfl 3 (by decide) (hg _ k955) (fun _ h9 => h9) rfl d_M_halve_4 ?_
      refine lv_iload_n hx hb d_M_halve_7 rfl (lv_at hl 3 rfl) ?_
      refine va_iald hx hb hK hP 1 0 rfl rfl (vp_in_nI hmm (by decide)) d_M_halve_8 ?_
      refine lv_topi (fun v_1 ev_1 => ?_)
      have hv9 : v_1 = nI n := by subst_vars; rw [nI_clamp (by omega)]; exact hn
      refine lv_icmp_ge (tgt := 38) hx hb d_M_halve_9 (by decide) (fun c_2 => ?_) (fun c_2 => ?_)
      · have hj3 : j = n := by
          rcases Nat.lt_or_ge j n with q | q
          · exact absurd c_2 (by rw [hv9, hi]; exact nI_ge q (by omega))
          · omega
        exact my_vret hx hb hr hlocks hQ hK hS (Nat.le_refl _) (Nat.le_refl _) fL (sgL_e (hj3 ▸ hL)) (hP.sub [0, 1, 2] rfl) (hD.sub [0, 1, 2] (by decide +kernel) rfl) d_M_halve_38
      · have hj2 : j < n := by
          rcases Nat.lt_or_ge j n with q | q
          · exact q
          · exact absurd (by rw [hv9, hi]; exact nI_le q (by omega)) c_2
        refine lv_aload_n hx hb d_M_halve_12 rfl (lv_at hl 2 rfl) ?_
        refine lv_bipush (v := 64) hx hb d_M_halve_13 (by decide) ?_
        refine lv_iload_n hx hb d_M_halve_15 rfl (lv_at hl 3 rfl) ?_
        refine lv_imul hx hb d_M_halve_16 ?_
        refine lv_topi (fun v_3 ev_3 => ?_)
        refine lv_iload_n hx hb d_M_halve_17 rfl (lv_at hl 0 rfl) ?_
        refine lv_iadd hx hb d_M_halve_18 ?_
        refine lv_topi (fun v_4 ev_4 => ?_)
        have hix : v_4 = nI (64 * mm + j) := by subst_vars; exact ix64
        refine lv_aload_n hx hb d_M_halve_19 rfl (lv_at hl 2 rfl) ?_
        refine lv_bipush (v := 64) hx hb d_M_halve_20 (by decide) ?_
        refine lv_iload_n hx hb d_M_halve_22 rfl (lv_at hl 3 rfl) ?_
        refine lv_imul hx hb d_M_halve_23 ?_
        refine lv_topi (fun v_5 ev_5 => ?_)
        refine lv_iload_n hx hb d_M_halve_24 rfl (lv_at hl 0 rfl) ?_
        refine lv_iadd hx hb d_M_halve_25 ?_
        refine lv_topi (fun v_6 ev_6 => ?_)
        have hix2 : v_6 = nI (64 * mm + j) := by subst_vars; exact ix64
        refine va_iald hx hb hK hP 2 0 rfl rfl (by rw [hix2]; exact vp_in_nI (by omega) (by decide)) d_M_halve_26 ?_
        refine lv_topi (fun v_7 ev_7 => ?_)
        refine lv_iconst (v := 1) hx hb d_M_halve_27 (by decide) ?_
        refine lv_iadd hx hb d_M_halve_28 ?_
        refine lv_topi (fun v_8 ev_8 => ?_)
        refine lv_iconst (v := 2) hx hb d_M_halve_29 (by decide) ?_
        refine lv_idiv hx hb d_M_halve_30 (by decide) ?_
        refine lv_topi (fun v_9 ev_9 => ?_)
        have hval : v_9 = nI (hv F j) := by
          have hb9 := hB j hj2
          subst_vars
          rw [nI_clamp (by omega), sgL_rd hL hj2]
          exact (congrArg (· / (2 : Int32)) (nI_1 (F j))).trans (pk_div (d := 2) (by omega) (by decide) (by decide))
        refine va_iast hx hb hK hP hD hS 2 0 rfl rfl (by rw [hix]; exact vp_in_nI (by omega) (by decide)) d_M_halve_31 (fun H locs hP hD hS => ?_)
        have hPD : my_PD (dC, dI) vwCl A [(o, Sum.inr (9, mO g fForm fShift fModels fItems fEnded fLow fRange fCache fPend fGoes fOuts fIns fReads fBad fIR fAsk fBAsk fCode fRL fRR fX fWrites fThrown)), ((g 0), Sum.inl (cI, 8, Sum.inl vMany)), (a, Sum.inl (cI, 512, Sum.inl (upd fL v_4.toNatClampNeg v_9)))] H := ⟨hP, hD⟩
        have hP := hPD.1
        have hD := hPD.2
        obtain ⟨v_10, ev_10⟩ : ∃ y : Int32, y = i9 + (1) := ⟨_, rfl⟩
        refine lv_iinc (v := v_10) (lv' := [(3, Value.int v_10), (0, Value.ref o), (1, Value.ref a), (2, Value.int (nI mm))]) hx hb d_M_halve_32 hl (k := 0) rfl (by rw [ev_10]; rfl) (by decide) rfl (fun ls hl => ?_)
        refine lv_goto (tgt := 2) hx hb d_M_halve_35 (by decide) ?_
        exact ih9_2 _ (by first | omega | (omega)) (upd fL v_4.toNatClampNeg v_9) v_10 (j + 1) rfl (sgL_st hL hj2 (by rw [hix]; exact nI_clamp (by omega)) hval) (by subst_vars; exact nI_1 j) (by omega) H locs ls (hP.sub [0, 1, 2] rfl) (hD.sub [0, 1, 2] (by decide +kernel) rfl) hS (lv_sub hl [0, 1, 2, 3] rfl)
  exact J_2 _ f 0 0 rfl (sgL_0 hf) (rfl) (Nat.zero_le _) H locs ls (hP.sub [0, 1, 2] rfl) (hD.sub [0, 1, 2] (by decide +kernel) rfl) hS (lv_sub hl [0, 1, 2, 3] rfl)
set_option maxHeartbeats 1000000 in
set_option maxRecDepth 100000 in
/-- greatest -/
theorem c_M_greatest (l : Launch) (dC : Nat → ClassId) (dI : Nat → Nat → Nat) (cI cM cO : ClassId) (sz : Nat) (o : Nat) (g : Nat → Nat) (fForm : Int32) (fShift : Int32) (fModels : Int32) (fItems : Int32) (fEnded : Int32) (fLow : Int64) (fRange : Int64) (fCache : Int32) (fPend : Int32) (fGoes : Int32) (fOuts : Int32) (fIns : Int32) (fReads : Int32) (fBad : Int32) (fIR : Int32) (fAsk : Int32) (fBAsk : Int32) (fCode : Int64) (fRL : Int64) (fRR : Int64) (fX : Int64) (fWrites : Int32) (fThrown : Int32) (vMany : Nat → Int32) (a : Nat) (f : Nat → Int32) (mm : Nat) (n : Nat) (F : Nat → Nat) (hmm : mm < 8) (hn : vMany mm = nI n) (hn2 : n ≤ 64) (hn1 : 0 < n) (hf : sgI f (64 * mm) n F) (hB : bd F n 1000000) : MetI l y_M_greatest (Cond.code y_M_greatest prog_14_method_11_code 5 (some .int) :: gw) ({ frames := 0, cells := 0, slots := 0, locals := 0 } : Room) (dC, dI) vwCl (kT cI cM cO) [Value.ref o, Value.ref a, Value.int (nI mm)] [(o, Sum.inr (9, mO g fForm fShift fModels fItems fEnded fLow fRange fCache fPend fGoes fOuts fIns fReads fBad fIR fAsk fBAsk fCode fRL fRR fX fWrites fThrown)), ((g 0), Sum.inl (cI, 8, Sum.inl vMany)), (a, Sum.inl (cI, 512, Sum.inl f))] sz (fun (r : Int32) (u : Unit) => r = nI (64 * mm + gr F n)) (fun (u : Unit) => [(o, Sum.inr (9, mO g fForm fShift fModels fItems fEnded fLow fRange fCache fPend fGoes fOuts fIns fReads fBad fIR fAsk fBAsk fCode fRL fRR fX fWrites fThrown)), ((g 0), Sum.inl (cI, 8, Sum.inl vMany)), (a, Sum.inl (cI, 512, Sum.inl f))]) 0 0 := by
  refine my_ofI (cc := prog_14_method_11_code) (n := 5) (ret := (some .int)) (by decide) rfl (Nat.le_of_ble_eq_true rfl) ?_
  intro p e s m args below meth c R Q A ls H locs hx hb hr hts hown hlocks hml hnm hR hQ hA hl hP hK hN hD hS
  have hg : ∀ w ∈ gw, w.before args s = true := fun w h => hts w (List.mem_cons_of_mem _ h)
  have hown : s.vm.findClass "RangeCodersModel" = some m.cls := hown
  have hl : lv_has ls 5 [(0, Value.ref o), (1, Value.ref a), (2, Value.int (nI mm))] := hl
  refine lv_iconst (v := 0) hx hb d_M_greatest_0 (by decide) ?_
  refine lv_istore_n (lv' := [(3, Value.int 0), (0, Value.ref o), (1, Value.ref a), (2, Value.int (nI mm))]) hx hb d_M_greatest_1 rfl hl (by decide) rfl (fun ls hl => ?_)
  refine lv_iconst (v := 1) hx hb d_M_greatest_2 (by decide) ?_
  refine lv_istore (lv' := [(4, Value.int 1), (3, Value.int 0), (0, Value.ref o), (1, Value.ref a), (2, Value.int (nI mm))]) hx hb d_M_greatest_3 hl (by decide) rfl (fun ls hl => ?_)
  have J_5 : ∀ (n9_5 : Nat) (s9 : Int32) (i9 : Int32) (j : Nat) (hn9_5 : n - j = n9_5) (hs : s9 = nI (gr F j)) (hi : i9 = nI j) (hj : j ≤ n) (hj1 : 0 < j) (H : Heap) (locs : List Loc) (ls : Array Slot), va_P (dC, dI) vwCl [(o, Sum.inr (9, mO g fForm fShift fModels fItems fEnded fLow fRange fCache fPend fGoes fOuts fIns fReads fBad fIR fAsk fBAsk fCode fRL fRR fX fWrites fThrown)), ((g 0), Sum.inl (cI, 8, Sum.inl vMany)), (a, Sum.inl (cI, 512, Sum.inl f))] H → va_D A [(o, Sum.inr (9, mO g fForm fShift fModels fItems fEnded fLow fRange fCache fPend fGoes fOuts fIns fReads fBad fIR fAsk fBAsk fCode fRL fRR fX fWrites fThrown)), ((g 0), Sum.inl (cI, 8, Sum.inl vMany)), (a, Sum.inl (cI, 512, Sum.inl f))] → va_S A s.heap H locs → lv_has ls 5 [(4, Value.int i9), (3, Value.int s9), (0, Value.ref o), (1, Value.ref a), (2, Value.int (nI mm))] → W p l e R s m args below meth c H locs 0 0 Q (F0 m 5 ls []) := by
    intro n9_5
    induction n9_5 using Nat.strongRecOn with
    | ind n9_5 ih9_5 =>
      intro s9 i9 j hn9_5 hs hi hj hj1 H locs ls hP hD hS hl
      refine lv_iload hx hb d_M_greatest_5 (lv_at hl 0 rfl) ?_
      refine lv_aload_n hx hb d_M_greatest_7 rfl (lv_at hl 2 rfl) ?_
      refine va_get (D := (dC, dI)) (ci := 9) (v := .ref (g 0)) (C := "RangeCodersModel") (T := T_M) (N := 35) hx hb hg in_M hown hK hP 0 rfl rfl 3 (by decide) (hg _ k955) (fun _ h9 => h9) rfl d_M_greatest_8 ?_
      refine lv_iload_n hx hb d_M_greatest_11 rfl (lv_at hl 4 rfl) ?_
      refine va_iald hx hb hK hP 1 0 rfl rfl (vp_in_nI hmm (by decide)) d_M_greatest_12 ?_
      refine lv_topi (fun v_1 ev_1 => ?_)
      have hv9 : v_1 = nI n := by subst_vars; rw [nI_clamp (by omega)]; exact hn
      refine lv_icmp_ge (tgt := 49) hx hb d_M_greatest_13 (by decide) (fun c_2 => ?_) (fun c_2 => ?_)
      · have hj3 : j = n := by
          rcases Nat.lt_or_ge j n with q | q
          · exact absurd c_2 (by rw [hv9, hi]; exact nI_ge q (by omega))
          · omega
        refine lv_bipush (v := 64) hx hb d_M_greatest_49 (by decide) ?_
        refine lv_iload_n hx hb d_M_greatest_51 rfl (lv_at hl 4 rfl) ?_
        refine lv_imul hx hb d_M_greatest_52 ?_
        refine lv_topi (fun v_3 ev_3 => ?_)
        refine lv_iload_n hx hb d_M_greatest_53 rfl (lv_at hl 1 rfl) ?_
        refine lv_iadd hx hb d_M_greatest_54 ?_
        refine lv_topi (fun v_4 ev_4 => ?_)
        exact my_iret (v := v_4) hx hb hr (rfl) hlocks hQ hK hS (Nat.le_refl _) (Nat.le_refl _) () (by subst_vars; exact ix64) (hP.sub [0, 1, 2] rfl) (hD.sub [0, 1, 2] (by decide +kernel) rfl) d_M_greatest_55
      · have hj2 : j < n := by
          rcases Nat.lt_or_ge j n with q | q
          · exact q
          · exact absurd (by rw [hv9, hi]; exact nI_le q (by omega)) c_2
        have hg1 := gr_lt F hj1
        have hb1 := hB j hj2
        have hb2 := hB (gr F j) (by omega)
        refine lv_aload_n hx hb d_M_greatest_16 rfl (lv_at hl 3 rfl) ?_
        refine lv_bipush (v := 64) hx hb d_M_greatest_17 (by decide) ?_
        refine lv_iload_n hx hb d_M_greatest_19 rfl (lv_at hl 4 rfl) ?_
        refine lv_imul hx hb d_M_greatest_20 ?_
        refine lv_topi (fun v_5 ev_5 => ?_)
        refine lv_iload hx hb d_M_greatest_21 (lv_at hl 0 rfl) ?_
        refine lv_iadd hx hb d_M_greatest_23 ?_
        refine lv_topi (fun v_6 ev_6 => ?_)
        have hix : v_6 = nI (64 * mm + j) := by subst_vars; exact ix64
        refine va_iald hx hb hK hP 2 0 rfl rfl (by rw [hix]; exact vp_in_nI (by omega) (by decide)) d_M_greatest_24 ?_
        refine lv_topi (fun v_7 ev_7 => ?_)
        have hld : v_7 = nI (F j) := by rw [ev_7, hix, nI_clamp (by omega)]; exact hf j hj2
        refine lv_aload_n hx hb d_M_greatest_25 rfl (lv_at hl 3 rfl) ?_
        refine lv_bipush (v := 64) hx hb d_M_greatest_26 (by decide) ?_
        refine lv_iload_n hx hb d_M_greatest_28 rfl (lv_at hl 4 rfl) ?_
        refine lv_imul hx hb d_M_greatest_29 ?_
        refine lv_topi (fun v_8 ev_8 => ?_)
        refine lv_iload_n hx hb d_M_greatest_30 rfl (lv_at hl 1 rfl) ?_
        refine lv_iadd hx hb d_M_greatest_31 ?_
        refine lv_topi (fun v_9 ev_9 => ?_)
        have hix2 : v_9 = nI (64 * mm + gr F j) := by subst_vars; exact ix64
        refine va_iald hx hb hK hP 2 0 rfl rfl (by rw [hix2]; exact vp_in_nI (by omega) (by decide)) d_M_greatest_32 ?_
        refine lv_topi (fun v_10 ev_10 => ?_)
        have hlg : v_10 = nI (F (gr F j)) := by rw [ev_10, hix2, nI_clamp (by omega)]; exact hf _ (by omega)
        refine lv_icmp_le (tgt := 41) hx hb d_M_greatest_33 (by decide) (fun c_11 => ?_) (fun c_11 => ?_)
        · refine lv_iload_n hx hb d_M_greatest_41 rfl (lv_at hl 1 rfl) ?_
          refine lv_istore_n (lv' := [(3, Value.int s9), (4, Value.int i9), (0, Value.ref o), (1, Value.ref a), (2, Value.int (nI mm))]) hx hb d_M_greatest_42 rfl hl (by decide) rfl (fun ls hl => ?_)
          obtain ⟨v_12, ev_12⟩ : ∃ y : Int32, y = i9 + (1) := ⟨_, rfl⟩
          refine lv_iinc (v := v_12) (lv' := [(4, Value.int v_12), (3, Value.int s9), (0, Value.ref o), (1, Value.ref a), (2, Value.int (nI mm))]) hx hb d_M_greatest_43 hl (k := 1) rfl (by rw [ev_12]; rfl) (by decide) rfl (fun ls hl => ?_)
          refine lv_goto (tgt := 5) hx hb d_M_greatest_46 (by decide) ?_
          exact ih9_5 _ (by first | omega | (omega)) s9 v_12 (j + 1) rfl (by rw [gr]; rw [if_neg (by rw [hld, hlg, nI_cmp (by omega) (by omega)] at c_11; omega)]; exact hs) (by subst_vars; exact nI_1 j) (by omega) (by omega) H locs ls (hP.sub [0, 1, 2] rfl) (hD.sub [0, 1, 2] (by decide +kernel) rfl) hS (lv_sub hl [0, 1, 2, 3, 4] rfl)
        · refine lv_iload hx hb d_M_greatest_36 (lv_at hl 0 rfl) ?_
          refine lv_goto (tgt := 42) hx hb d_M_greatest_38 (by decide) ?_
          refine lv_istore_n (lv' := [(3, Value.int i9), (4, Value.int i9), (0, Value.ref o), (1, Value.ref a), (2, Value.int (nI mm))]) hx hb d_M_greatest_42 rfl hl (by decide) rfl (fun ls hl => ?_)
          obtain ⟨v_13, ev_13⟩ : ∃ y : Int32, y = i9 + (1) := ⟨_, rfl⟩
          refine lv_iinc (v := v_13) (lv' := [(4, Value.int v_13), (3, Value.int i9), (0, Value.ref o), (1, Value.ref a), (2, Value.int (nI mm))]) hx hb d_M_greatest_43 hl (k := 1) rfl (by rw [ev_13]; rfl) (by decide) rfl (fun ls hl => ?_)
          refine lv_goto (tgt := 5) hx hb d_M_greatest_46 (by decide) ?_
          exact ih9_5 _ (by first | omega | (omega)) i9 v_13 (j + 1) rfl (by rw [gr]; rw [if_pos (by rw [hld, hlg, nI_cmp (by omega) (by omega)] at c_11; omega)]; exact hi) (by subst_vars; exact nI_1 j) (by omega) (by omega) H locs ls (hP.sub [0, 1, 2] rfl) (hD.sub [0, 1, 2] (by decide +kernel) rfl) hS (lv_sub hl [0, 1, 2, 3, 4] rfl)
  exact J_5 _ 0 1 1 rfl (by rw [show gr F 1 = 0 by simp [gr]]; rfl) (rfl) (by omega) (by decide) H locs ls (hP.sub [0, 1, 2] rfl) (hD.sub [0, 1, 2] (by decide +kernel) rfl) hS (lv_sub hl [0, 1, 2, 3, 4] rfl)
set_option maxHeartbeats 1000000 in
set_option maxRecDepth 100000 in
/-- lessen -/
theorem c_M_lessen (l : Launch) (dC : Nat → ClassId) (dI : Nat → Nat → Nat) (cI cM cO : ClassId) (sz : Nat) (o : Nat) (g : Nat → Nat) (fForm : Int32) (fShift : Int32) (fModels : Int32) (fItems : Int32) (fEnded : Int32) (fLow : Int64) (fRange : Int64) (fCache : Int32) (fPend : Int32) (fGoes : Int32) (fOuts : Int32) (fIns : Int32) (fReads : Int32) (fBad : Int32) (fIR : Int32) (fAsk : Int32) (fBAsk : Int32) (fCode : Int64) (fRL : Int64) (fRR : Int64) (fX : Int64) (fWrites : Int32) (fThrown : Int32) (vMany : Nat → Int32) (a : Nat) (f : Nat → Int32) (mm : Nat) (n : Nat) (F : Nat → Nat) (hmm : mm < 8) (hn : vMany mm = nI n) (hn2 : n ≤ 64) (hf : sgI f (64 * mm) n F) (hB : bd F n 4095) : MetV l y_M_lessen (Cond.code y_M_lessen prog_14_method_10_code 3 none :: gw) ({ frames := 1, cells := 0, slots := 0, locals := 24 } : Room) (dC, dI) vwCl (kT cI cM cO) [Value.ref o, Value.ref a, Value.int (nI mm)] [(o, Sum.inr (9, mO g fForm fShift fModels fItems fEnded fLow fRange fCache fPend fGoes fOuts fIns fReads fBad fIR fAsk fBAsk fCode fRL fRR fX fWrites fThrown)), ((g 0), Sum.inl (cI, 8, Sum.inl vMany)), (a, Sum.inl (cI, 512, Sum.inl f))] sz (fun (u : (Nat → Int32)) => sgI u (64 * mm) n (les n F) ∧ sgO u f (64 * mm) n) (fun (u : (Nat → Int32)) => [(o, Sum.inr (9, mO g fForm fShift fModels fItems fEnded fLow fRange fCache fPend fGoes fOuts fIns fReads fBad fIR fAsk fBAsk fCode fRL fRR fX fWrites fThrown)), ((g 0), Sum.inl (cI, 8, Sum.inl vMany)), (a, Sum.inl (cI, 512, Sum.inl u))]) 0 0 := by
  refine my_ofV (cc := prog_14_method_10_code) (n := 3) (ret := none) (by decide) rfl (Nat.le_of_ble_eq_true rfl) ?_
  intro p e s m args below meth c R Q A ls H locs hx hb hr hts hown hlocks hml hnm hR hQ hA hl hP hK hN hD hS
  have hg : ∀ w ∈ gw, w.before args s = true := fun w h => hts w (List.mem_cons_of_mem _ h)
  have hown : s.vm.findClass "RangeCodersModel" = some m.cls := hown
  have hl : lv_has ls 3 [(0, Value.ref o), (1, Value.ref a), (2, Value.int (nI mm))] := hl
  have J_0 : ∀ (n9_0 : Nat) (fL : Nat → Int32) (F9 : Nat → Nat) (r9 : Nat) (hn9_0 : r9 = n9_0) (hI : sgI fL (64 * mm) n F9) (hO : sgO fL f (64 * mm) n) (hE : les n F = lesN n r9 F9) (hbF : bd F9 n (lb r9)) (hr1 : 27 ≤ r9) (hr2 : r9 ≤ 32) (H : Heap) (locs : List Loc) (ls : Array Slot), va_P (dC, dI) vwCl [(o, Sum.inr (9, mO g fForm fShift fModels fItems fEnded fLow fRange fCache fPend fGoes fOuts fIns fReads fBad fIR fAsk fBAsk fCode fRL fRR fX fWrites fThrown)), ((g 0), Sum.inl (cI, 8, Sum.inl vMany)), (a, Sum.inl (cI, 512, Sum.inl fL))] H → va_D A [(o, Sum.inr (9, mO g fForm fShift fModels fItems fEnded fLow fRange fCache fPend fGoes fOuts fIns fReads fBad fIR fAsk fBAsk fCode fRL fRR fX fWrites fThrown)), ((g 0), Sum.inl (cI, 8, Sum.inl vMany)), (a, Sum.inl (cI, 512, Sum.inl fL))] → va_S A s.heap H locs → lv_has ls 3 [(0, Value.ref o), (1, Value.ref a), (2, Value.int (nI mm))] → W p l e R s m args below meth c H locs 0 0 Q (F0 m 0 ls []) := by
    intro n9_0
    induction n9_0 using Nat.strongRecOn with
    | ind n9_0 ih9_0 =>
      intro fL F9 r9 hn9_0 hI hO hE hbF hr1 hr2 H locs ls hP hD hS hl
      have hb0 : bd F9 n 4095 := fun k hk => Nat.le_trans (hbF k hk) (by unfold lb; repeat (first | omega | split))
      have hs9 := ns_le64 hn2 hb0
      refine lv_aload_n hx hb d_M_lessen_0 rfl (lv_at hl 0 rfl) ?_
      refine lv_aload_n hx hb d_M_lessen_1 rfl (lv_at hl 1 rfl) ?_
      refine lv_iload_n hx hb d_M_lessen_2 rfl (lv_at hl 2 rfl) ?_
      refine my_ci (wr := []) (va_runV (As := [Value.ref a, Value.int (nI mm)]) (rest := []) ⟨hx, hb, hml, hown, hts⟩ (c_M_sum l dC dI cI cM cO H.size o g fForm fShift fModels fItems fEnded fLow fRange fCache fPend fGoes fOuts fIns fReads fBad fIR fAsk fBAsk fCode fRL fRR fX fWrites fThrown vMany a fL mm n F9 (by assumption) (by assumption) (by assumption) (hI)) (cwV 2 hts (my_gV k936 k938 ks21 k12 k939) rfl rfl rfl (by decide +kernel) ⟨by rw [hR]; exact Nat.le_of_ble_eq_true rfl, by rw [hR]; exact Nat.le_of_ble_eq_true rfl⟩) (my_preV hK hN (hP.sub [0, 1, 2] rfl) (hD.sub [0, 1, 2] (by decide +kernel) rfl) 0 rfl rfl) rfl rfl hl.1 rfl (lv_room (Nat.le_of_ble_eq_true rfl)) d_M_lessen_3 ⟨by rw [hR]; exact Nat.le_of_ble_eq_true rfl, by rw [hR]; exact Nat.le_of_ble_eq_true rfl⟩) hP hD hS hA [0, 1, 2] [] rfl rfl (by decide +kernel) (by decide +kernel) (fun r_3 u9 H locs hw_3 hP hD hS => ?_)
      have hw_3 : r_3 = nI (ns F9 n) := hw_3
      have hPD : my_PD (dC, dI) vwCl A [(o, Sum.inr (9, mO g fForm fShift fModels fItems fEnded fLow fRange fCache fPend fGoes fOuts fIns fReads fBad fIR fAsk fBAsk fCode fRL fRR fX fWrites fThrown)), ((g 0), Sum.inl (cI, 8, Sum.inl vMany)), (a, Sum.inl (cI, 512, Sum.inl fL))] H := ⟨hP, hD⟩
      have hP := hPD.1
      have hD := hPD.2
      refine lv_sipush (v := 8192) hx hb d_M_lessen_6 (by decide) ?_
      refine lv_icmp_le (tgt := 21) hx hb d_M_lessen_9 (by decide) (fun c_1 => ?_) (fun c_1 => ?_)
      · have hle : ns F9 n ≤ 8192 := by
          rw [hw_3] at c_1
          exact (nI_cmp (b := 8192) (by omega) (by decide)).mp c_1
        exact my_vret hx hb hr hlocks hQ hK hS (Nat.le_refl _) (Nat.le_refl _) fL (⟨by rw [hE, lesN_e hle]; exact hI, hO⟩) (hP.sub [0, 1, 2] rfl) (hD.sub [0, 1, 2] (by decide +kernel) rfl) d_M_lessen_21
      · have hgt : ¬ ns F9 n ≤ 8192 := fun q => absurd (show r_3 ≤ 8192 by rw [hw_3]; exact nI_le (b := 8192) q (by decide)) c_1
        have hr27 : 27 < r9 := by
          rcases Nat.lt_or_ge 27 r9 with q | q
          · exact q
          · have e : r9 = 27 := by omega
            subst e
            exact absurd (ns_le64 hn2 hbF) (by simp [lb]; omega)
        refine lv_aload_n hx hb d_M_lessen_12 rfl (lv_at hl 0 rfl) ?_
        refine lv_aload_n hx hb d_M_lessen_13 rfl (lv_at hl 1 rfl) ?_
        refine lv_iload_n hx hb d_M_lessen_14 rfl (lv_at hl 2 rfl) ?_
        refine my_cv (wr := []) (va_runV (As := [Value.ref a, Value.int (nI mm)]) (rest := []) ⟨hx, hb, hml, hown, hts⟩ (c_M_halve l dC dI cI cM cO H.size o g fForm fShift fModels fItems fEnded fLow fRange fCache fPend fGoes fOuts fIns fReads fBad fIR fAsk fBAsk fCode fRL fRR fX fWrites fThrown vMany a fL mm n F9 (by assumption) (by assumption) (by assumption) (hI) (fun k hk => Nat.le_trans (hb0 k hk) (by decide))) (cwV 2 hts (my_gV k940 k942 ks22 k12 k943) rfl rfl rfl (by decide +kernel) ⟨by rw [hR]; exact Nat.le_of_ble_eq_true rfl, by rw [hR]; exact Nat.le_of_ble_eq_true rfl⟩) (my_preV hK hN (hP.sub [0, 1, 2] rfl) (hD.sub [0, 1, 2] (by decide +kernel) rfl) 0 rfl rfl) rfl rfl hl.1 rfl (lv_room (Nat.le_of_ble_eq_true rfl)) d_M_lessen_15 ⟨by rw [hR]; exact Nat.le_of_ble_eq_true rfl, by rw [hR]; exact Nat.le_of_ble_eq_true rfl⟩) hP hD hS hA [0, 1, 2] [] rfl rfl (by decide +kernel) (by decide +kernel) (fun u9 H locs hw_15 hP hD hS => ?_)
        obtain ⟨f2_15, rfl⟩ : ∃ z, z = u9 := ⟨_, rfl⟩
        have hw_15 : sgI f2_15 (64 * mm) n (hv F9) ∧ sgO f2_15 fL (64 * mm) n := hw_15
        have hPD : my_PD (dC, dI) vwCl A [(o, Sum.inr (9, mO g fForm fShift fModels fItems fEnded fLow fRange fCache fPend fGoes fOuts fIns fReads fBad fIR fAsk fBAsk fCode fRL fRR fX fWrites fThrown)), ((g 0), Sum.inl (cI, 8, Sum.inl vMany)), (a, Sum.inl (cI, 512, Sum.inl f2_15))] H := ⟨hP, hD⟩
        have hP := hPD.1
        have hD := hPD.2
        refine lv_goto (tgt := 0) hx hb d_M_lessen_18 (by decide) ?_
        exact ih9_0 _ (by first | omega | (omega)) f2_15 (hv F9) (r9 - 1) rfl (hw_15.1) (sgO_tr hw_15.2 hO) (by rw [hE, lesN_s (by omega) hgt]) (fun k hk => lb_st hr27 hr2 (hbF k hk)) (by omega) (by omega) H locs ls (hP.sub [0, 1, 2] rfl) (hD.sub [0, 1, 2] (by decide +kernel) rfl) hS (lv_sub hl [0, 1, 2] rfl)
  exact J_0 _ f F 32 rfl (hf) (sgO_rf _ _ _) (rfl) (hB) (by decide) (by decide) H locs ls (hP.sub [0, 1, 2] rfl) (hD.sub [0, 1, 2] (by decide +kernel) rfl) hS (lv_sub hl [0, 1, 2] rfl)
end
section
set_option maxHeartbeats 1000000 in
set_option maxRecDepth 100000 in
/-- isSign -/
theorem c_M_isSign (l : Launch) (dC : Nat → ClassId) (dI : Nat → Nat → Nat) (cI cM cO : ClassId) (sz : Nat) (o : Nat) (g : Nat → Nat) (fForm : Int32) (fShift : Int32) (fModels : Int32) (fItems : Int32) (fEnded : Int32) (fLow : Int64) (fRange : Int64) (fCache : Int32) (fPend : Int32) (fGoes : Int32) (fOuts : Int32) (fIns : Int32) (fReads : Int32) (fBad : Int32) (fIR : Int32) (fAsk : Int32) (fBAsk : Int32) (fCode : Int64) (fRL : Int64) (fRR : Int64) (fX : Int64) (fWrites : Int32) (fThrown : Int32) (vMany : Nat → Int32) (km : Nat) (p1 : Int32) (p2 : Int32) (hkm : km ≤ 8) (hmod : fModels = nI km) : MetI l y_M_isSign (Cond.code y_M_isSign prog_14_method_5_code 3 (some .boolean) :: gw) ({ frames := 2, cells := 0, slots := 0, locals := 43 } : Room) (dC, dI) vwCl (kT cI cM cO) [Value.ref o, Value.int p1, Value.int p2] [(o, Sum.inr (9, mO g fForm fShift fModels fItems fEnded fLow fRange fCache fPend fGoes fOuts fIns fReads fBad fIR fAsk fBAsk fCode fRL fRR fX fWrites fThrown)), ((g 0), Sum.inl (cI, 8, Sum.inl vMany))] sz (fun (r : Int32) (u : Unit) => r = if isN km p1 ∧ (0 ≤ p2 ∧ p2 ≤ vMany p1.toNatClampNeg - 1) then 1 else 0) (fun (u : Unit) => [(o, Sum.inr (9, mO g fForm fShift fModels fItems fEnded fLow fRange fCache fPend fGoes fOuts fIns fReads fBad fIR fAsk fBAsk fCode fRL fRR fX fWrites fThrown)), ((g 0), Sum.inl (cI, 8, Sum.inl vMany))]) 0 0 := by
  refine my_ofI (cc := prog_14_method_5_code) (n := 3) (ret := (some .boolean)) (by decide) rfl (Nat.le_of_ble_eq_true rfl) ?_
  intro p e s m args below meth c R Q A ls H locs hx hb hr hts hown hlocks hml hnm hR hQ hA hl hP hK hN hD hS
  have hg : ∀ w ∈ gw, w.before args s = true := fun w h => hts w (List.mem_cons_of_mem _ h)
  have hown : s.vm.findClass "RangeCodersModel" = some m.cls := hown
  have hl : lv_has ls 3 [(0, Value.ref o), (1, Value.int p1), (2, Value.int p2)] := hl
  have hm9 : ∀ r : Int32, (r = if 0 ≤ p1 ∧ p1 ≤ fModels - 1 then 1 else 0) → (¬ r = 0 ↔ isN km p1) := fun r h => by
    rw [hmod] at h
    exact ⟨fun c => one_ne h c, fun q c => one_eq h c q⟩
  refine lv_aload_n hx hb d_M_isSign_0 rfl (lv_at hl 0 rfl) ?_
  refine lv_iload_n hx hb d_M_isSign_1 rfl (lv_at hl 1 rfl) ?_
  refine my_ci (wr := [((g 0), Sum.inl (cI, 8, Sum.inl vMany))]) (va_runV (As := [Value.int p1]) (rest := []) ⟨hx, hb, hml, hown, hts⟩ (c_M_isModel l dC dI cI cM cO H.size o g fForm fShift fModels fItems fEnded fLow fRange fCache fPend fGoes fOuts fIns fReads fBad fIR fAsk fBAsk fCode fRL fRR fX fWrites fThrown p1) (cwV 1 hts (my_gV k1073 k1075 ks26 k12 k1076) rfl rfl rfl (by decide +kernel) ⟨by rw [hR]; exact Nat.le_of_ble_eq_true rfl, by rw [hR]; exact Nat.le_of_ble_eq_true rfl⟩) (my_preV hK hN (hP.sub [0] rfl) (hD.sub [0] (by decide +kernel) rfl) 0 rfl rfl) rfl rfl hl.1 rfl (lv_room (Nat.le_of_ble_eq_true rfl)) d_M_isSign_2 ⟨by rw [hR]; exact Nat.le_of_ble_eq_true rfl, by rw [hR]; exact Nat.le_of_ble_eq_true rfl⟩) hP hD hS hA [0] [1] rfl rfl (by decide +kernel) (by decide +kernel) (fun r_2 u9 H locs hw_2 hP hD hS => ?_)
  have hw_2 : r_2 = if 0 ≤ p1 ∧ p1 ≤ fModels - 1 then 1 else 0 := hw_2
  have hPD : my_PD (dC, dI) vwCl A [((g 0), Sum.inl (cI, 8, Sum.inl vMany)), (o, Sum.inr (9, mO g fForm fShift fModels fItems fEnded fLow fRange fCache fPend fGoes fOuts fIns fReads fBad fIR fAsk fBAsk fCode fRL fRR fX fWrites fThrown))] H := ⟨hP, hD⟩
  have hP := hPD.1
  have hD := hPD.2
  refine lv_if_eq (tgt := 28) hx hb d_M_isSign_5 (by decide) (fun c_1 => ?_) (fun c_1 => ?_)
  · refine lv_iconst (v := 0) hx hb d_M_isSign_28 (by decide) ?_
    exact my_iret (v := 0) hx hb hr (rfl) hlocks hQ hK hS (Nat.le_refl _) (Nat.le_refl _) () (by rw [if_neg (fun h => absurd ((hm9 _ hw_2).mpr h.1) (fun q => q c_1))]) (hP.sub [1, 0] rfl) (hD.sub [1, 0] (by decide +kernel) rfl) d_M_isSign_29
  · have hi1 := (hm9 _ hw_2).mp c_1
    obtain ⟨j1, hj1, ej1⟩ := (isN_iff (by omega)).mp hi1
    refine lv_iload_n hx hb d_M_isSign_8 rfl (lv_at hl 2 rfl) ?_
    refine lv_iconst (v := 0) hx hb d_M_isSign_9 (by decide) ?_
    refine lv_aload_n hx hb d_M_isSign_10 rfl (lv_at hl 0 rfl) ?_
    refine va_get (D := (dC, dI)) (ci := 9) (v := .ref (g 0)) (C := "RangeCodersModel") (T := T_M) (N := 35) hx hb hg in_M hown hK hP 1 rfl rfl 3 (by decide) (hg _ k955) (fun _ h9 => h9) rfl d_M_isSign_11 ?_
    refine lv_iload_n hx hb d_M_isSign_14 rfl (lv_at hl 1 rfl) ?_
    refine va_iald hx hb hK hP 0 0 rfl rfl (by rw [ej1]; exact vp_in_nI (by omega) (by decide)) d_M_isSign_15 ?_
    refine lv_topi (fun v_2 ev_2 => ?_)
    refine lv_iconst (v := 1) hx hb d_M_isSign_16 (by decide) ?_
    refine lv_isub hx hb d_M_isSign_17 ?_
    refine lv_topi (fun v_3 ev_3 => ?_)
    have e18 : v_3 = vMany p1.toNatClampNeg - 1 := by subst_vars; rfl
    refine my_ci (wr := [((g 0), Sum.inl (cI, 8, Sum.inl vMany)), (o, Sum.inr (9, mO g fForm fShift fModels fItems fEnded fLow fRange fCache fPend fGoes fOuts fIns fReads fBad fIR fAsk fBAsk fCode fRL fRR fX fWrites fThrown))]) (va_runS (As := [Value.int p2, Value.int 0, Value.int v_3]) (rest := []) ⟨hx, hb, hml, hown, hts⟩ (c_M_in l dC dI cI cM cO H.size p2 0 v_3) (cwS 3 hts (my_gS k1062 k1063 k12 k1064) rfl rfl rfl (by decide +kernel) ⟨by rw [hR]; exact Nat.le_of_ble_eq_true rfl, by rw [hR]; exact Nat.le_of_ble_eq_true rfl⟩) (my_pre hK hN (hP.sub [] rfl) (hD.sub [] (by decide +kernel) rfl)) rfl rfl hl.1 rfl (lv_room (Nat.le_of_ble_eq_true rfl)) d_M_isSign_18 ⟨by rw [hR]; exact Nat.le_of_ble_eq_true rfl, by rw [hR]; exact Nat.le_of_ble_eq_true rfl⟩) hP hD hS hA [] [0, 1] rfl rfl (by decide +kernel) (by decide +kernel) (fun r_18 u9 H locs hw_18 hP hD hS => ?_)
    have hw_18 : r_18 = if 0 ≤ p2 ∧ p2 ≤ v_3 then 1 else 0 := hw_18
    have hPD : my_PD (dC, dI) vwCl A [((g 0), Sum.inl (cI, 8, Sum.inl vMany)), (o, Sum.inr (9, mO g fForm fShift fModels fItems fEnded fLow fRange fCache fPend fGoes fOuts fIns fReads fBad fIR fAsk fBAsk fCode fRL fRR fX fWrites fThrown))] H := ⟨hP, hD⟩
    have hP := hPD.1
    have hD := hPD.2
    rw [e18] at hw_18
    refine lv_if_eq (tgt := 28) hx hb d_M_isSign_21 (by decide) (fun c_4 => ?_) (fun c_4 => ?_)
    · refine lv_iconst (v := 0) hx hb d_M_isSign_28 (by decide) ?_
      exact my_iret (v := 0) hx hb hr (rfl) hlocks hQ hK hS (Nat.le_refl _) (Nat.le_refl _) () (by rw [if_neg (fun h => one_eq hw_18 c_4 h.2)]) (hP.sub [1, 0] rfl) (hD.sub [1, 0] (by decide +kernel) rfl) d_M_isSign_29
    · refine lv_iconst (v := 1) hx hb d_M_isSign_24 (by decide) ?_
      refine lv_goto (tgt := 29) hx hb d_M_isSign_25 (by decide) ?_
      exact my_iret (v := 1) hx hb hr (rfl) hlocks hQ hK hS (Nat.le_refl _) (Nat.le_refl _) () (by rw [if_pos ⟨hi1, one_ne hw_18 c_4⟩]) (hP.sub [1, 0] rfl) (hD.sub [1, 0] (by decide +kernel) rfl) d_M_isSign_29
set_option maxHeartbeats 1000000 in
set_option maxRecDepth 100000 in
/-- levels -/
theorem c_M_levels (l : Launch) (dC : Nat → ClassId) (dI : Nat → Nat → Nat) (cI cM cO : ClassId) (sz : Nat) (o : Nat) (g : Nat → Nat) (fForm : Int32) (fShift : Int32) (fModels : Int32) (fItems : Int32) (fEnded : Int32) (fLow : Int64) (fRange : Int64) (fCache : Int32) (fPend : Int32) (fGoes : Int32) (fOuts : Int32) (fIns : Int32) (fReads : Int32) (fBad : Int32) (fIR : Int32) (fAsk : Int32) (fBAsk : Int32) (fCode : Int64) (fRL : Int64) (fRR : Int64) (fX : Int64) (fWrites : Int32) (fThrown : Int32) (vMany : Nat → Int32) (mm : Nat) (n : Nat) (hmm : mm < 8) (hn : vMany mm = nI n) (hn2 : n ≤ 64) : MetI l y_M_levels (Cond.code y_M_levels prog_14_method_6_code 3 (some .int) :: gw) ({ frames := 0, cells := 0, slots := 0, locals := 0 } : Room) (dC, dI) vwCl (kT cI cM cO) [Value.ref o, Value.int (nI mm)] [(o, Sum.inr (9, mO g fForm fShift fModels fItems fEnded fLow fRange fCache fPend fGoes fOuts fIns fReads fBad fIR fAsk fBAsk fCode fRL fRR fX fWrites fThrown)), ((g 0), Sum.inl (cI, 8, Sum.inl vMany))] sz (fun (r : Int32) (u : Unit) => r = nI (lev n)) (fun (u : Unit) => [(o, Sum.inr (9, mO g fForm fShift fModels fItems fEnded fLow fRange fCache fPend fGoes fOuts fIns fReads fBad fIR fAsk fBAsk fCode fRL fRR fX fWrites fThrown)), ((g 0), Sum.inl (cI, 8, Sum.inl vMany))]) 0 0 := by
  refine my_ofI (cc := prog_14_method_6_code) (n := 3) (ret := (some .int)) (by decide) rfl (Nat.le_of_ble_eq_true rfl) ?_
  intro p e s m args below meth c R Q A ls H locs hx hb hr hts hown hlocks hml hnm hR hQ hA hl hP hK hN hD hS
  have hg : ∀ w ∈ gw, w.before args s = true := fun w h => hts w (List.mem_cons_of_mem _ h)
  have hown : s.vm.findClass "RangeCodersModel" = some m.cls := hown
  have hl : lv_has ls 3 [(0, Value.ref o), (1, Value.int (nI mm))] := hl
  refine lv_iconst (v := 0) hx hb d_M_levels_0 (by decide) ?_
  refine lv_istore_n (lv' := [(2, Value.int 0), (0, Value.ref o), (1, Value.int (nI mm))]) hx hb d_M_levels_1 rfl hl (by decide) rfl (fun ls hl => ?_)
  have J_2 : ∀ (n9_2 : Nat) (i9 : Int32) (j : Nat) (hn9_2 : 6 - j = n9_2) (hi : i9 = nI j) (hj : j ≤ 6) (hq : 0 < j → 2 ^ (j - 1) < n) (H : Heap) (locs : List Loc) (ls : Array Slot), va_P (dC, dI) vwCl [(o, Sum.inr (9, mO g fForm fShift fModels fItems fEnded fLow fRange fCache fPend fGoes fOuts fIns fReads fBad fIR fAsk fBAsk fCode fRL fRR fX fWrites fThrown)), ((g 0), Sum.inl (cI, 8, Sum.inl vMany))] H → va_D A [(o, Sum.inr (9, mO g fForm fShift fModels fItems fEnded fLow fRange fCache fPend fGoes fOuts fIns fReads fBad fIR fAsk fBAsk fCode fRL fRR fX fWrites fThrown)), ((g 0), Sum.inl (cI, 8, Sum.inl vMany))] → va_S A s.heap H locs → lv_has ls 3 [(2, Value.int i9), (0, Value.ref o), (1, Value.int (nI mm))] → W p l e R s m args below meth c H locs 0 0 Q (F0 m 2 ls []) := by
    intro n9_2
    induction n9_2 using Nat.strongRecOn with
    | ind n9_2 ih9_2 =>
      intro i9 j hn9_2 hi hj hq H locs ls hP hD hS hl
      refine lv_iconst (v := 1) hx hb d_M_levels_2 (by decide) ?_
      refine lv_iload_n hx hb d_M_levels_3 rfl (lv_at hl 0 rfl) ?_
      refine lv_ishl hx hb d_M_levels_4 ?_
      refine lv_topi (fun v_1 ev_1 => ?_)
      refine lv_aload_n hx hb d_M_levels_5 rfl (lv_at hl 1 rfl) ?_
      refine va_get (D := (dC, dI)) (ci := 9) (v := .ref (g 0)) (C := "RangeCodersModel") (T := T_M) (N := 35) hx hb hg in_M hown hK hP 0 rfl rfl 3 (by decide) (hg _ k955) (fun _ h9 => h9) rfl d_M_levels_6 ?_
      refine lv_iload_n hx hb d_M_levels_9 rfl (lv_at hl 2 rfl) ?_
      refine va_iald hx hb hK hP 1 0 rfl rfl (vp_in_nI hmm (by decide)) d_M_levels_10 ?_
      refine lv_topi (fun v_2 ev_2 => ?_)
      have hv9 : v_2 = nI n := by subst_vars; rw [nI_clamp (by omega)]; exact hn
      have hv8 : v_1 = nI (2 ^ j) := by subst_vars; exact shl1 j (by omega)
      have hp9 : 2 ^ j ≤ 2 ^ 6 := Nat.pow_le_pow_right (by decide) hj
      refine lv_icmp_ge (tgt := 20) hx hb d_M_levels_11 (by decide) (fun c_3 => ?_) (fun c_3 => ?_)
      · have hge : n ≤ 2 ^ j := by
          rw [hv9, hv8] at c_3
          exact (nI_cmp (by omega) (by omega)).mp c_3
        refine lv_iload_n hx hb d_M_levels_20 rfl (lv_at hl 0 rfl) ?_
        exact my_iret (v := i9) hx hb hr (rfl) hlocks hQ hK hS (Nat.le_refl _) (Nat.le_refl _) () (by rw [hi, lev_of hj hge hq]) (hP.sub [0, 1] rfl) (hD.sub [0, 1] (by decide +kernel) rfl) d_M_levels_21
      · have hlt : 2 ^ j < n := by
          rcases Nat.lt_or_ge (2 ^ j) n with q | q
          · exact q
          · exact absurd (by rw [hv9, hv8]; exact nI_le q (by omega)) c_3
        have hj6 : j < 6 := by
          rcases Nat.lt_or_ge j 6 with q | q
          · exact q
          · have e : j = 6 := by omega
            subst e; omega
        obtain ⟨v_4, ev_4⟩ : ∃ y : Int32, y = i9 + (1) := ⟨_, rfl⟩
        refine lv_iinc (v := v_4) (lv' := [(2, Value.int v_4), (0, Value.ref o), (1, Value.int (nI mm))]) hx hb d_M_levels_14 hl (k := 0) rfl (by rw [ev_4]; rfl) (by decide) rfl (fun ls hl => ?_)
        refine lv_goto (tgt := 2) hx hb d_M_levels_17 (by decide) ?_
        exact ih9_2 _ (by first | omega | (omega)) v_4 (j + 1) rfl (by subst_vars; exact nI_1 j) (by omega) (fun _ => hlt) H locs ls (hP.sub [0, 1] rfl) (hD.sub [0, 1] (by decide +kernel) rfl) hS (lv_sub hl [0, 1, 2] rfl)
  exact J_2 _ 0 0 rfl (rfl) (by decide) (fun h => absurd h (by decide)) H locs ls (hP.sub [0, 1] rfl) (hD.sub [0, 1] (by decide +kernel) rfl) hS (lv_sub hl [0, 1, 2] rfl)
set_option maxHeartbeats 1000000 in
set_option maxRecDepth 100000 in
/-- learn -/
theorem c_M_learn (l : Launch) (dC : Nat → ClassId) (dI : Nat → Nat → Nat) (cI cM cO : ClassId) (sz : Nat) (o : Nat) (g : Nat → Nat) (fForm : Int32) (fShift : Int32) (fModels : Int32) (fItems : Int32) (fEnded : Int32) (fLow : Int64) (fRange : Int64) (fCache : Int32) (fPend : Int32) (fGoes : Int32) (fOuts : Int32) (fIns : Int32) (fReads : Int32) (fBad : Int32) (fIR : Int32) (fAsk : Int32) (fBAsk : Int32) (fCode : Int64) (fRL : Int64) (fRR : Int64) (fX : Int64) (fWrites : Int32) (fThrown : Int32) (vMany : Nat → Int32) (a : Nat) (f : Nat → Int32) (mm : Nat) (n : Nat) (t : Nat) (F : Nat → Nat) (hmm : mm < 8) (hn : vMany mm = nI n) (hn2 : n ≤ 64) (ht : t < n) (hf : sgI f (64 * mm) n F) (hB : bd F n 100000) : MetV l y_M_learn (Cond.code y_M_learn prog_14_method_23_code 4 none :: gw) ({ frames := 1, cells := 0, slots := 0, locals := 24 } : Room) (dC, dI) vwCl (kT cI cM cO) [Value.ref o, Value.ref a, Value.int (nI mm), Value.int (nI t)] [(o, Sum.inr (9, mO g fForm fShift fModels fItems fEnded fLow fRange fCache fPend fGoes fOuts fIns fReads fBad fIR fAsk fBAsk fCode fRL fRR fX fWrites fThrown)), ((g 0), Sum.inl (cI, 8, Sum.inl vMany)), (a, Sum.inl (cI, 512, Sum.inl f))] sz (fun (u : (Nat → Int32)) => sgI u (64 * mm) n (lrn n t F) ∧ sgO u f (64 * mm) n) (fun (u : (Nat → Int32)) => [(o, Sum.inr (9, mO g fForm fShift fModels fItems fEnded fLow fRange fCache fPend fGoes fOuts fIns fReads fBad fIR fAsk fBAsk fCode fRL fRR fX fWrites fThrown)), ((g 0), Sum.inl (cI, 8, Sum.inl vMany)), (a, Sum.inl (cI, 512, Sum.inl u))]) 0 0 := by
  refine my_ofV (cc := prog_14_method_23_code) (n := 4) (ret := none) (by decide) rfl (Nat.le_of_ble_eq_true rfl) ?_
  intro p e s m args below meth c R Q A ls H locs hx hb hr hts hown hlocks hml hnm hR hQ hA hl hP hK hN hD hS
  have hg : ∀ w ∈ gw, w.before args s = true := fun w h => hts w (List.mem_cons_of_mem _ h)
  have hown : s.vm.findClass "RangeCodersModel" = some m.cls := hown
  have hl : lv_has ls 4 [(0, Value.ref o), (1, Value.ref a), (2, Value.int (nI mm)), (3, Value.int (nI t))] := hl
  refine lv_aload_n hx hb d_M_learn_0 rfl (lv_at hl 1 rfl) ?_
  refine lv_bipush (v := 64) hx hb d_M_learn_1 (by decide) ?_
  refine lv_iload_n hx hb d_M_learn_3 rfl (lv_at hl 2 rfl) ?_
  refine lv_imul hx hb d_M_learn_4 ?_
  refine lv_topi (fun v_1 ev_1 => ?_)
  refine lv_iload_n hx hb d_M_learn_5 rfl (lv_at hl 3 rfl) ?_
  refine lv_iadd hx hb d_M_learn_6 ?_
  refine lv_topi (fun v_2 ev_2 => ?_)
  have hix : v_2 = nI (64 * mm + t) := by subst_vars; exact ix64
  refine lv_aload_n hx hb d_M_learn_7 rfl (lv_at hl 1 rfl) ?_
  refine lv_bipush (v := 64) hx hb d_M_learn_8 (by decide) ?_
  refine lv_iload_n hx hb d_M_learn_10 rfl (lv_at hl 2 rfl) ?_
  refine lv_imul hx hb d_M_learn_11 ?_
  refine lv_topi (fun v_3 ev_3 => ?_)
  refine lv_iload_n hx hb d_M_learn_12 rfl (lv_at hl 3 rfl) ?_
  refine lv_iadd hx hb d_M_learn_13 ?_
  refine lv_topi (fun v_4 ev_4 => ?_)
  have hix2 : v_4 = nI (64 * mm + t) := by subst_vars; exact ix64
  refine va_iald hx hb hK hP 2 0 rfl rfl (by rw [hix2]; exact vp_in_nI (by omega) (by decide)) d_M_learn_14 ?_
  refine lv_topi (fun v_5 ev_5 => ?_)
  refine lv_bipush (v := 32) hx hb d_M_learn_15 (by decide) ?_
  refine lv_iadd hx hb d_M_learn_17 ?_
  refine lv_topi (fun v_6 ev_6 => ?_)
  have hval : v_6 = nI (F t + 32) := by
    subst_vars
    rw [nI_clamp (by omega), hf t ht]
    exact nI_add (F t) 32
  refine va_iast hx hb hK hP hD hS 2 0 rfl rfl (by rw [hix]; exact vp_in_nI (by omega) (by decide)) d_M_learn_18 (fun H locs hP hD hS => ?_)
  have hPD : my_PD (dC, dI) vwCl A [(o, Sum.inr (9, mO g fForm fShift fModels fItems fEnded fLow fRange fCache fPend fGoes fOuts fIns fReads fBad fIR fAsk fBAsk fCode fRL fRR fX fWrites fThrown)), ((g 0), Sum.inl (cI, 8, Sum.inl vMany)), (a, Sum.inl (cI, 512, Sum.inl (upd f v_2.toNatClampNeg v_6)))] H := ⟨hP, hD⟩
  have hP := hPD.1
  have hD := hPD.2
  have hU := sg_up hf ht (show (v_2).toNatClampNeg = 64 * mm + t by rw [hix]; exact nI_clamp (by omega)) hval
  have hb9 : bd (upN F t (F t + 32)) n 1000000 := fun k hk => by
    have h1 := hB k hk
    by_cases e : k = t
    · subst e; rw [upN_s]; omega
    · rw [upN_n _ e]; omega
  have hs9 := ns_le64 hn2 hb9
  refine lv_aload_n hx hb d_M_learn_19 rfl (lv_at hl 0 rfl) ?_
  refine lv_aload_n hx hb d_M_learn_20 rfl (lv_at hl 1 rfl) ?_
  refine lv_iload_n hx hb d_M_learn_21 rfl (lv_at hl 2 rfl) ?_
  refine my_ci (wr := []) (va_runV (As := [Value.ref a, Value.int (nI mm)]) (rest := []) ⟨hx, hb, hml, hown, hts⟩ (c_M_sum l dC dI cI cM cO H.size o g fForm fShift fModels fItems fEnded fLow fRange fCache fPend fGoes fOuts fIns fReads fBad fIR fAsk fBAsk fCode fRL fRR fX fWrites fThrown vMany a (upd f v_2.toNatClampNeg v_6) mm n (upN F t (F t + 32)) (by assumption) (by assumption) (by assumption) (hU.1)) (cwV 2 hts (my_gV k936 k938 ks21 k12 k939) rfl rfl rfl (by decide +kernel) ⟨by rw [hR]; exact Nat.le_of_ble_eq_true rfl, by rw [hR]; exact Nat.le_of_ble_eq_true rfl⟩) (my_preV hK hN (hP.sub [0, 1, 2] rfl) (hD.sub [0, 1, 2] (by decide +kernel) rfl) 0 rfl rfl) rfl rfl hl.1 rfl (lv_room (Nat.le_of_ble_eq_true rfl)) d_M_learn_22 ⟨by rw [hR]; exact Nat.le_of_ble_eq_true rfl, by rw [hR]; exact Nat.le_of_ble_eq_true rfl⟩) hP hD hS hA [0, 1, 2] [] rfl rfl (by decide +kernel) (by decide +kernel) (fun r_22 u9 H locs hw_22 hP hD hS => ?_)
  have hw_22 : r_22 = nI (ns (upN F t (F t + 32)) n) := hw_22
  have hPD : my_PD (dC, dI) vwCl A [(o, Sum.inr (9, mO g fForm fShift fModels fItems fEnded fLow fRange fCache fPend fGoes fOuts fIns fReads fBad fIR fAsk fBAsk fCode fRL fRR fX fWrites fThrown)), ((g 0), Sum.inl (cI, 8, Sum.inl vMany)), (a, Sum.inl (cI, 512, Sum.inl (upd f v_2.toNatClampNeg v_6)))] H := ⟨hP, hD⟩
  have hP := hPD.1
  have hD := hPD.2
  refine lv_sipush (v := 8192) hx hb d_M_learn_25 (by decide) ?_
  refine lv_icmp_le (tgt := 37) hx hb d_M_learn_28 (by decide) (fun c_7 => ?_) (fun c_7 => ?_)
  · exact my_vret hx hb hr hlocks hQ hK hS (Nat.le_refl _) (Nat.le_refl _) (upd f v_2.toNatClampNeg v_6) (by unfold lrn; rw [if_pos (by rw [hw_22] at c_7; exact (nI_cmp (b := 8192) (by omega) (by decide)).mp c_7)]; exact hU) (hP.sub [0, 1, 2] rfl) (hD.sub [0, 1, 2] (by decide +kernel) rfl) d_M_learn_37
  · have hgt : ¬ ns (upN F t (F t + 32)) n ≤ 8192 := fun q => absurd (show r_22 ≤ 8192 by rw [hw_22]; exact nI_le (b := 8192) q (by decide)) c_7
    refine lv_aload_n hx hb d_M_learn_31 rfl (lv_at hl 0 rfl) ?_
    refine lv_aload_n hx hb d_M_learn_32 rfl (lv_at hl 1 rfl) ?_
    refine lv_iload_n hx hb d_M_learn_33 rfl (lv_at hl 2 rfl) ?_
    refine my_cv (wr := []) (va_runV (As := [Value.ref a, Value.int (nI mm)]) (rest := []) ⟨hx, hb, hml, hown, hts⟩ (c_M_halve l dC dI cI cM cO H.size o g fForm fShift fModels fItems fEnded fLow fRange fCache fPend fGoes fOuts fIns fReads fBad fIR fAsk fBAsk fCode fRL fRR fX fWrites fThrown vMany a (upd f v_2.toNatClampNeg v_6) mm n (upN F t (F t + 32)) (by assumption) (by assumption) (by assumption) (hU.1) (hb9)) (cwV 2 hts (my_gV k940 k942 ks22 k12 k943) rfl rfl rfl (by decide +kernel) ⟨by rw [hR]; exact Nat.le_of_ble_eq_true rfl, by rw [hR]; exact Nat.le_of_ble_eq_true rfl⟩) (my_preV hK hN (hP.sub [0, 1, 2] rfl) (hD.sub [0, 1, 2] (by decide +kernel) rfl) 0 rfl rfl) rfl rfl hl.1 rfl (lv_room (Nat.le_of_ble_eq_true rfl)) d_M_learn_34 ⟨by rw [hR]; exact Nat.le_of_ble_eq_true rfl, by rw [hR]; exact Nat.le_of_ble_eq_true rfl⟩) hP hD hS hA [0, 1, 2] [] rfl rfl (by decide +kernel) (by decide +kernel) (fun u9 H locs hw_34 hP hD hS => ?_)
    obtain ⟨f2_34, rfl⟩ : ∃ z, z = u9 := ⟨_, rfl⟩
    have hw_34 : sgI f2_34 (64 * mm) n (hv (upN F t (F t + 32))) ∧ sgO f2_34 (upd f v_2.toNatClampNeg v_6) (64 * mm) n := hw_34
    have hPD : my_PD (dC, dI) vwCl A [(o, Sum.inr (9, mO g fForm fShift fModels fItems fEnded fLow fRange fCache fPend fGoes fOuts fIns fReads fBad fIR fAsk fBAsk fCode fRL fRR fX fWrites fThrown)), ((g 0), Sum.inl (cI, 8, Sum.inl vMany)), (a, Sum.inl (cI, 512, Sum.inl f2_34))] H := ⟨hP, hD⟩
    have hP := hPD.1
    have hD := hPD.2
    exact my_vret hx hb hr hlocks hQ hK hS (Nat.le_refl _) (Nat.le_refl _) f2_34 (by unfold lrn; rw [if_neg hgt]; exact ⟨hw_34.1, sgO_tr hw_34.2 hU.2⟩) (hP.sub [0, 1, 2] rfl) (hD.sub [0, 1, 2] (by decide +kernel) rfl) d_M_learn_37
end
section
set_option maxHeartbeats 1000000 in
set_option maxRecDepth 100000 in
/-- scale -/
theorem c_M_scale (l : Launch) (dC : Nat → ClassId) (dI : Nat → Nat → Nat) (cI cM cO : ClassId) (sz : Nat) (o : Nat) (g : Nat → Nat) (fForm : Int32) (fShift : Int32) (fModels : Int32) (fItems : Int32) (fEnded : Int32) (fLow : Int64) (fRange : Int64) (fCache : Int32) (fPend : Int32) (fGoes : Int32) (fOuts : Int32) (fIns : Int32) (fReads : Int32) (fBad : Int32) (fIR : Int32) (fAsk : Int32) (fBAsk : Int32) (fCode : Int64) (fRL : Int64) (fRR : Int64) (fX : Int64) (fWrites : Int32) (fThrown : Int32) (vMany : Nat → Int32) (a : Nat) (f : Nat → Int32) (mm : Nat) (n : Nat) (M : Nat) (F : Nat → Nat) (hmm : mm < 8) (hn : vMany mm = nI n) (hn2 : n ≤ 64) (hn1 : 0 < n) (hM : 1 ≤ M) (hM2 : M ≤ 4096) (hf : sgI f (64 * mm) n F) (hB : bd F n 4095) : MetV l y_M_scale (Cond.code y_M_scale prog_14_method_12_code 8 none :: gw) ({ frames := 1, cells := 0, slots := 0, locals := 24 } : Room) (dC, dI) vwCl (kT cI cM cO) [Value.ref o, Value.ref a, Value.int (nI mm), Value.int (nI M)] [(o, Sum.inr (9, mO g fForm fShift fModels fItems fEnded fLow fRange fCache fPend fGoes fOuts fIns fReads fBad fIR fAsk fBAsk fCode fRL fRR fX fWrites fThrown)), ((g 0), Sum.inl (cI, 8, Sum.inl vMany)), (a, Sum.inl (cI, 512, Sum.inl f))] sz (fun (u : (Nat → Int32)) => sgI u (64 * mm) n (sc n M F) ∧ sgO u f (64 * mm) n) (fun (u : (Nat → Int32)) => [(o, Sum.inr (9, mO g fForm fShift fModels fItems fEnded fLow fRange fCache fPend fGoes fOuts fIns fReads fBad fIR fAsk fBAsk fCode fRL fRR fX fWrites fThrown)), ((g 0), Sum.inl (cI, 8, Sum.inl vMany)), (a, Sum.inl (cI, 512, Sum.inl u))]) 0 0 := by
  refine my_ofV (cc := prog_14_method_12_code) (n := 8) (ret := none) (by decide) rfl (Nat.le_of_ble_eq_true rfl) ?_
  intro p e s m args below meth c R Q A ls H locs hx hb hr hts hown hlocks hml hnm hR hQ hA hl hP hK hN hD hS
  have hg : ∀ w ∈ gw, w.before args s = true := fun w h => hts w (List.mem_cons_of_mem _ h)
  have hown : s.vm.findClass "RangeCodersModel" = some m.cls := hown
  have hl : lv_has ls 8 [(0, Value.ref o), (1, Value.ref a), (2, Value.int (nI mm)), (3, Value.int (nI M))] := hl
  have hs9 := ns_le64 hn2 hB
  refine lv_aload_n hx hb d_M_scale_0 rfl (lv_at hl 0 rfl) ?_
  refine lv_aload_n hx hb d_M_scale_1 rfl (lv_at hl 1 rfl) ?_
  refine lv_iload_n hx hb d_M_scale_2 rfl (lv_at hl 2 rfl) ?_
  refine my_ci (wr := []) (va_runV (As := [Value.ref a, Value.int (nI mm)]) (rest := []) ⟨hx, hb, hml, hown, hts⟩ (c_M_sum l dC dI cI cM cO H.size o g fForm fShift fModels fItems fEnded fLow fRange fCache fPend fGoes fOuts fIns fReads fBad fIR fAsk fBAsk fCode fRL fRR fX fWrites fThrown vMany a f mm n F (by assumption) (by assumption) (by assumption) (by assumption)) (cwV 2 hts (my_gV k936 k938 ks21 k12 k939) rfl rfl rfl (by decide +kernel) ⟨by rw [hR]; exact Nat.le_of_ble_eq_true rfl, by rw [hR]; exact Nat.le_of_ble_eq_true rfl⟩) (my_preV hK hN (hP.sub [0, 1, 2] rfl) (hD.sub [0, 1, 2] (by decide +kernel) rfl) 0 rfl rfl) rfl rfl hl.1 rfl (lv_room (Nat.le_of_ble_eq_true rfl)) d_M_scale_3 ⟨by rw [hR]; exact Nat.le_of_ble_eq_true rfl, by rw [hR]; exact Nat.le_of_ble_eq_true rfl⟩) hP hD hS hA [0, 1, 2] [] rfl rfl (by decide +kernel) (by decide +kernel) (fun r_3 u9 H locs hw_3 hP hD hS => ?_)
  have hw_3 : r_3 = nI (ns F n) := hw_3
  have hPD : my_PD (dC, dI) vwCl A [(o, Sum.inr (9, mO g fForm fShift fModels fItems fEnded fLow fRange fCache fPend fGoes fOuts fIns fReads fBad fIR fAsk fBAsk fCode fRL fRR fX fWrites fThrown)), ((g 0), Sum.inl (cI, 8, Sum.inl vMany)), (a, Sum.inl (cI, 512, Sum.inl f))] H := ⟨hP, hD⟩
  have hP := hPD.1
  have hD := hPD.2
  refine lv_istore (lv' := [(4, Value.int r_3), (0, Value.ref o), (1, Value.ref a), (2, Value.int (nI mm)), (3, Value.int (nI M))]) hx hb d_M_scale_6 hl (by decide) rfl (fun ls hl => ?_)
  refine lv_iload hx hb d_M_scale_8 (lv_at hl 0 rfl) ?_
  refine lv_if_ne (tgt := 14) hx hb d_M_scale_10 (by decide) (fun c_1 => ?_) (fun c_1 => ?_)
  · have hpos : 0 < ns F n := by
      rcases Nat.eq_zero_or_pos (ns F n) with q | q
      · exact absurd (by rw [hw_3, q]; rfl) c_1
      · exact q
    refine lv_iconst (v := 0) hx hb d_M_scale_14 (by decide) ?_
    refine lv_istore (lv' := [(5, Value.int 0), (4, Value.int r_3), (0, Value.ref o), (1, Value.ref a), (2, Value.int (nI mm)), (3, Value.int (nI M))]) hx hb d_M_scale_15 hl (by decide) rfl (fun ls hl => ?_)
    have J_17 : ∀ (n9_17 : Nat) (fL : Nat → Int32) (i9 : Int32) (j : Nat) (hn9_17 : n - j = n9_17) (hL : sgL fL f (64 * mm) n j (scG n M F) F) (hi : i9 = nI j) (hj : j ≤ n) (H : Heap) (locs : List Loc) (ls : Array Slot), va_P (dC, dI) vwCl [(o, Sum.inr (9, mO g fForm fShift fModels fItems fEnded fLow fRange fCache fPend fGoes fOuts fIns fReads fBad fIR fAsk fBAsk fCode fRL fRR fX fWrites fThrown)), ((g 0), Sum.inl (cI, 8, Sum.inl vMany)), (a, Sum.inl (cI, 512, Sum.inl fL))] H → va_D A [(o, Sum.inr (9, mO g fForm fShift fModels fItems fEnded fLow fRange fCache fPend fGoes fOuts fIns fReads fBad fIR fAsk fBAsk fCode fRL fRR fX fWrites fThrown)), ((g 0), Sum.inl (cI, 8, Sum.inl vMany)), (a, Sum.inl (cI, 512, Sum.inl fL))] → va_S A s.heap H locs → lv_has ls 8 [(5, Value.int i9), (4, Value.int r_3), (0, Value.ref o), (1, Value.ref a), (2, Value.int (nI mm)), (3, Value.int (nI M))] → W p l e R s m args below meth c H locs 0 0 Q (F0 m 17 ls []) := by
      intro n9_17
      induction n9_17 using Nat.strongRecOn with
      | ind n9_17 ih9_17 =>
        intro fL i9 j hn9_17 hL hi hj H locs ls hP hD hS hl
        refine lv_iload hx hb d_M_scale_17 (lv_at hl 0 rfl) ?_
        refine lv_aload_n hx hb d_M_scale_19 rfl (lv_at hl 2 rfl) ?_
        refine va_get (D := (dC, dI)) (ci := 9) (v := .ref (g 0)) (C := "RangeCodersModel") (T := T_M) (N := 35) hx hb hg in_M hown hK hP 0 rfl rfl 3 (by decide) (hg _ k955) (fun _ h9 => h9) rfl d_M_scale_20 ?_
        refine lv_iload_n hx hb d_M_scale_23 rfl (lv_at hl 4 rfl) ?_
        refine va_iald hx hb hK hP 1 0 rfl rfl (vp_in_nI hmm (by decide)) d_M_scale_24 ?_
        refine lv_topi (fun v_2 ev_2 => ?_)
        have hv9 : v_2 = nI n := by subst_vars; rw [nI_clamp (by omega)]; exact hn
        refine lv_icmp_ge (tgt := 84) hx hb d_M_scale_25 (by decide) (fun c_3 => ?_) (fun c_3 => ?_)
        · have J_84 : ∀ (n9_84 : Nat) (fK : Nat → Int32) (G9 : Nat → Nat) (hn9_84 : ns G9 n - M = n9_84) (hI2 : sgI fK (64 * mm) n G9) (hO2 : sgO fK f (64 * mm) n) (hE2 : dec n (ns (scG n M F) n - M) (scG n M F) = dec n (ns G9 n - M) G9) (hB2 : bd G9 n 4096) (H : Heap) (locs : List Loc) (ls : Array Slot), va_P (dC, dI) vwCl [(o, Sum.inr (9, mO g fForm fShift fModels fItems fEnded fLow fRange fCache fPend fGoes fOuts fIns fReads fBad fIR fAsk fBAsk fCode fRL fRR fX fWrites fThrown)), ((g 0), Sum.inl (cI, 8, Sum.inl vMany)), (a, Sum.inl (cI, 512, Sum.inl fK))] H → va_D A [(o, Sum.inr (9, mO g fForm fShift fModels fItems fEnded fLow fRange fCache fPend fGoes fOuts fIns fReads fBad fIR fAsk fBAsk fCode fRL fRR fX fWrites fThrown)), ((g 0), Sum.inl (cI, 8, Sum.inl vMany)), (a, Sum.inl (cI, 512, Sum.inl fK))] → va_S A s.heap H locs → lv_has ls 8 [(4, Value.int r_3), (0, Value.ref o), (1, Value.ref a), (2, Value.int (nI mm)), (3, Value.int (nI M))] → W p l e R s m args below meth c H locs 0 0 Q (F0 m 84 ls []) := by
            intro n9_84
            induction n9_84 using Nat.strongRecOn with
            | ind n9_84 ih9_84 =>
              intro fK G9 hn9_84 hI2 hO2 hE2 hB2 H locs ls hP hD hS hl
              have hs8 := ns_le64 hn2 hB2
              have hB3 : bd G9 n 1000000 := fun k hk => Nat.le_trans (hB2 k hk) (by decide)
              have hg9 := gr_lt G9 hn1
              have hbg := hB2 _ hg9
              refine lv_aload_n hx hb d_M_scale_84 rfl (lv_at hl 1 rfl) ?_
              refine lv_aload_n hx hb d_M_scale_85 rfl (lv_at hl 2 rfl) ?_
              refine lv_iload_n hx hb d_M_scale_86 rfl (lv_at hl 3 rfl) ?_
              refine my_ci (wr := []) (va_runV (As := [Value.ref a, Value.int (nI mm)]) (rest := []) ⟨hx, hb, hml, hown, hts⟩ (c_M_sum l dC dI cI cM cO H.size o g fForm fShift fModels fItems fEnded fLow fRange fCache fPend fGoes fOuts fIns fReads fBad fIR fAsk fBAsk fCode fRL fRR fX fWrites fThrown vMany a fK mm n G9 (by assumption) (by assumption) (by assumption) (hI2)) (cwV 2 hts (my_gV k936 k938 ks21 k12 k939) rfl rfl rfl (by decide +kernel) ⟨by rw [hR]; exact Nat.le_of_ble_eq_true rfl, by rw [hR]; exact Nat.le_of_ble_eq_true rfl⟩) (my_preV hK hN (hP.sub [0, 1, 2] rfl) (hD.sub [0, 1, 2] (by decide +kernel) rfl) 0 rfl rfl) rfl rfl hl.1 rfl (lv_room (Nat.le_of_ble_eq_true rfl)) d_M_scale_87 ⟨by rw [hR]; exact Nat.le_of_ble_eq_true rfl, by rw [hR]; exact Nat.le_of_ble_eq_true rfl⟩) hP hD hS hA [0, 1, 2] [] rfl rfl (by decide +kernel) (by decide +kernel) (fun r_87 u9 H locs hw_87 hP hD hS => ?_)
              have hw_87 : r_87 = nI (ns G9 n) := hw_87
              have hPD : my_PD (dC, dI) vwCl A [(o, Sum.inr (9, mO g fForm fShift fModels fItems fEnded fLow fRange fCache fPend fGoes fOuts fIns fReads fBad fIR fAsk fBAsk fCode fRL fRR fX fWrites fThrown)), ((g 0), Sum.inl (cI, 8, Sum.inl vMany)), (a, Sum.inl (cI, 512, Sum.inl fK))] H := ⟨hP, hD⟩
              have hP := hPD.1
              have hD := hPD.2
              refine lv_iload_n hx hb d_M_scale_90 rfl (lv_at hl 4 rfl) ?_
              refine lv_icmp_le (tgt := 115) hx hb d_M_scale_91 (by decide) (fun c_4 => ?_) (fun c_4 => ?_)
              · have hle : ns G9 n ≤ M := by
                  rw [hw_87] at c_4
                  exact (nI_cmp (by omega) (by omega)).mp c_4
                refine lv_iload_n hx hb d_M_scale_115 rfl (lv_at hl 4 rfl) ?_
                refine lv_aload_n hx hb d_M_scale_116 rfl (lv_at hl 1 rfl) ?_
                refine lv_aload_n hx hb d_M_scale_117 rfl (lv_at hl 2 rfl) ?_
                refine lv_iload_n hx hb d_M_scale_118 rfl (lv_at hl 3 rfl) ?_
                refine my_ci (wr := []) (va_runV (As := [Value.ref a, Value.int (nI mm)]) (rest := [Value.int (nI M)]) ⟨hx, hb, hml, hown, hts⟩ (c_M_sum l dC dI cI cM cO H.size o g fForm fShift fModels fItems fEnded fLow fRange fCache fPend fGoes fOuts fIns fReads fBad fIR fAsk fBAsk fCode fRL fRR fX fWrites fThrown vMany a fK mm n G9 (by assumption) (by assumption) (by assumption) (hI2)) (cwV 2 hts (my_gV k936 k938 ks21 k12 k939) rfl rfl rfl (by decide +kernel) ⟨by rw [hR]; exact Nat.le_of_ble_eq_true rfl, by rw [hR]; exact Nat.le_of_ble_eq_true rfl⟩) (my_preV hK hN (hP.sub [0, 1, 2] rfl) (hD.sub [0, 1, 2] (by decide +kernel) rfl) 0 rfl rfl) rfl rfl hl.1 rfl (lv_room (Nat.le_of_ble_eq_true rfl)) d_M_scale_119 ⟨by rw [hR]; exact Nat.le_of_ble_eq_true rfl, by rw [hR]; exact Nat.le_of_ble_eq_true rfl⟩) hP hD hS hA [0, 1, 2] [] rfl rfl (by decide +kernel) (by decide +kernel) (fun r_119 u9 H locs hw_119 hP hD hS => ?_)
                have hw_119 : r_119 = nI (ns G9 n) := hw_119
                have hPD : my_PD (dC, dI) vwCl A [(o, Sum.inr (9, mO g fForm fShift fModels fItems fEnded fLow fRange fCache fPend fGoes fOuts fIns fReads fBad fIR fAsk fBAsk fCode fRL fRR fX fWrites fThrown)), ((g 0), Sum.inl (cI, 8, Sum.inl vMany)), (a, Sum.inl (cI, 512, Sum.inl fK))] H := ⟨hP, hD⟩
                have hP := hPD.1
                have hD := hPD.2
                refine lv_isub hx hb d_M_scale_122 ?_
                refine lv_topi (fun v_5 ev_5 => ?_)
                refine lv_istore (lv' := [(5, Value.int v_5), (4, Value.int r_3), (0, Value.ref o), (1, Value.ref a), (2, Value.int (nI mm)), (3, Value.int (nI M))]) hx hb d_M_scale_123 hl (by decide) rfl (fun ls hl => ?_)
                refine lv_aload_n hx hb d_M_scale_125 rfl (lv_at hl 2 rfl) ?_
                refine lv_aload_n hx hb d_M_scale_126 rfl (lv_at hl 3 rfl) ?_
                refine lv_iload_n hx hb d_M_scale_127 rfl (lv_at hl 4 rfl) ?_
                refine my_ci (wr := []) (va_runV (As := [Value.ref a, Value.int (nI mm)]) (rest := []) ⟨hx, hb, hml, hown, hts⟩ (c_M_greatest l dC dI cI cM cO H.size o g fForm fShift fModels fItems fEnded fLow fRange fCache fPend fGoes fOuts fIns fReads fBad fIR fAsk fBAsk fCode fRL fRR fX fWrites fThrown vMany a fK mm n G9 (by assumption) (by assumption) (by assumption) (by assumption) (hI2) (hB3)) (cwV 2 hts (my_gV k948 k950 ks24 k12 k951) rfl rfl rfl (by decide +kernel) ⟨by rw [hR]; exact Nat.le_of_ble_eq_true rfl, by rw [hR]; exact Nat.le_of_ble_eq_true rfl⟩) (my_preV hK hN (hP.sub [0, 1, 2] rfl) (hD.sub [0, 1, 2] (by decide +kernel) rfl) 0 rfl rfl) rfl rfl hl.1 rfl (lv_room (Nat.le_of_ble_eq_true rfl)) d_M_scale_128 ⟨by rw [hR]; exact Nat.le_of_ble_eq_true rfl, by rw [hR]; exact Nat.le_of_ble_eq_true rfl⟩) hP hD hS hA [0, 1, 2] [] rfl rfl (by decide +kernel) (by decide +kernel) (fun r_128 u9 H locs hw_128 hP hD hS => ?_)
                have hw_128 : r_128 = nI (64 * mm + gr G9 n) := hw_128
                have hPD : my_PD (dC, dI) vwCl A [(o, Sum.inr (9, mO g fForm fShift fModels fItems fEnded fLow fRange fCache fPend fGoes fOuts fIns fReads fBad fIR fAsk fBAsk fCode fRL fRR fX fWrites fThrown)), ((g 0), Sum.inl (cI, 8, Sum.inl vMany)), (a, Sum.inl (cI, 512, Sum.inl fK))] H := ⟨hP, hD⟩
                have hP := hPD.1
                have hD := hPD.2
                refine lv_istore (lv' := [(6, Value.int r_128), (5, Value.int v_5), (4, Value.int r_3), (0, Value.ref o), (1, Value.ref a), (2, Value.int (nI mm)), (3, Value.int (nI M))]) hx hb d_M_scale_131 hl (by decide) rfl (fun ls hl => ?_)
                refine lv_aload_n hx hb d_M_scale_133 rfl (lv_at hl 4 rfl) ?_
                refine lv_iload hx hb d_M_scale_134 (lv_at hl 0 rfl) ?_
                refine lv_aload_n hx hb d_M_scale_136 rfl (lv_at hl 4 rfl) ?_
                refine lv_iload hx hb d_M_scale_137 (lv_at hl 0 rfl) ?_
                refine va_iald hx hb hK hP 2 0 rfl rfl (by rw [hw_128]; exact vp_in_nI (by omega) (by decide)) d_M_scale_139 ?_
                refine lv_topi (fun v_6 ev_6 => ?_)
                refine lv_iload hx hb d_M_scale_140 (lv_at hl 1 rfl) ?_
                refine lv_iadd hx hb d_M_scale_142 ?_
                refine lv_topi (fun v_7 ev_7 => ?_)
                have hval : v_7 = nI (G9 (gr G9 n) + (M - ns G9 n)) := by
                  subst_vars
                  rw [nI_clamp (by omega), hI2 _ hg9, pk_sub hle, nI_add]
                refine va_iast hx hb hK hP hD hS 2 0 rfl rfl (by rw [hw_128]; exact vp_in_nI (by omega) (by decide)) d_M_scale_143 (fun H locs hP hD hS => ?_)
                have hPD : my_PD (dC, dI) vwCl A [(o, Sum.inr (9, mO g fForm fShift fModels fItems fEnded fLow fRange fCache fPend fGoes fOuts fIns fReads fBad fIR fAsk fBAsk fCode fRL fRR fX fWrites fThrown)), ((g 0), Sum.inl (cI, 8, Sum.inl vMany)), (a, Sum.inl (cI, 512, Sum.inl (upd fK r_128.toNatClampNeg v_7)))] H := ⟨hP, hD⟩
                have hP := hPD.1
                have hD := hPD.2
                have hU := sg_up hI2 hg9 (show r_128.toNatClampNeg = 64 * mm + gr G9 n by rw [hw_128]; exact nI_clamp (by omega)) hval
                exact my_vret hx hb hr hlocks hQ hK hS (Nat.le_refl _) (Nat.le_refl _) (upd fK r_128.toNatClampNeg v_7) (by unfold sc scE; rw [if_neg (by omega), hE2, dec_0 hle]; exact ⟨hU.1, sgO_tr hU.2 hO2⟩) (hP.sub [0, 1, 2] rfl) (hD.sub [0, 1, 2] (by decide +kernel) rfl) d_M_scale_144
              · have hgt : M < ns G9 n := by
                  rcases Nat.lt_or_ge M (ns G9 n) with q | q
                  · exact q
                  · exact absurd (by rw [hw_87]; exact nI_le q (by omega)) c_4
                have hp9 := gr_pos (F := G9) (n := n) (by omega)
                refine lv_aload_n hx hb d_M_scale_94 rfl (lv_at hl 1 rfl) ?_
                refine lv_aload_n hx hb d_M_scale_95 rfl (lv_at hl 2 rfl) ?_
                refine lv_iload_n hx hb d_M_scale_96 rfl (lv_at hl 3 rfl) ?_
                refine my_ci (wr := []) (va_runV (As := [Value.ref a, Value.int (nI mm)]) (rest := []) ⟨hx, hb, hml, hown, hts⟩ (c_M_greatest l dC dI cI cM cO H.size o g fForm fShift fModels fItems fEnded fLow fRange fCache fPend fGoes fOuts fIns fReads fBad fIR fAsk fBAsk fCode fRL fRR fX fWrites fThrown vMany a fK mm n G9 (by assumption) (by assumption) (by assumption) (by assumption) (hI2) (hB3)) (cwV 2 hts (my_gV k948 k950 ks24 k12 k951) rfl rfl rfl (by decide +kernel) ⟨by rw [hR]; exact Nat.le_of_ble_eq_true rfl, by rw [hR]; exact Nat.le_of_ble_eq_true rfl⟩) (my_preV hK hN (hP.sub [0, 1, 2] rfl) (hD.sub [0, 1, 2] (by decide +kernel) rfl) 0 rfl rfl) rfl rfl hl.1 rfl (lv_room (Nat.le_of_ble_eq_true rfl)) d_M_scale_97 ⟨by rw [hR]; exact Nat.le_of_ble_eq_true rfl, by rw [hR]; exact Nat.le_of_ble_eq_true rfl⟩) hP hD hS hA [0, 1, 2] [] rfl rfl (by decide +kernel) (by decide +kernel) (fun r_97 u9 H locs hw_97 hP hD hS => ?_)
                have hw_97 : r_97 = nI (64 * mm + gr G9 n) := hw_97
                have hPD : my_PD (dC, dI) vwCl A [(o, Sum.inr (9, mO g fForm fShift fModels fItems fEnded fLow fRange fCache fPend fGoes fOuts fIns fReads fBad fIR fAsk fBAsk fCode fRL fRR fX fWrites fThrown)), ((g 0), Sum.inl (cI, 8, Sum.inl vMany)), (a, Sum.inl (cI, 512, Sum.inl fK))] H := ⟨hP, hD⟩
                have hP := hPD.1
                have hD := hPD.2
                refine lv_istore (lv' := [(5, Value.int r_97), (4, Value.int r_3), (0, Value.ref o), (1, Value.ref a), (2, Value.int (nI mm)), (3, Value.int (nI M))]) hx hb d_M_scale_100 hl (by decide) rfl (fun ls hl => ?_)
                refine lv_aload_n hx hb d_M_scale_102 rfl (lv_at hl 3 rfl) ?_
                refine lv_iload hx hb d_M_scale_103 (lv_at hl 0 rfl) ?_
                refine lv_aload_n hx hb d_M_scale_105 rfl (lv_at hl 3 rfl) ?_
                refine lv_iload hx hb d_M_scale_106 (lv_at hl 0 rfl) ?_
                refine va_iald hx hb hK hP 2 0 rfl rfl (by rw [hw_97]; exact vp_in_nI (by omega) (by decide)) d_M_scale_108 ?_
                refine lv_topi (fun v_8 ev_8 => ?_)
                refine lv_iconst (v := 1) hx hb d_M_scale_109 (by decide) ?_
                refine lv_isub hx hb d_M_scale_110 ?_
                refine lv_topi (fun v_9 ev_9 => ?_)
                have hval : v_9 = nI (G9 (gr G9 n) - 1) := by
                  subst_vars
                  rw [nI_clamp (by omega), hI2 _ hg9]
                  exact pk_sub (b := 1) hp9
                refine va_iast hx hb hK hP hD hS 2 0 rfl rfl (by rw [hw_97]; exact vp_in_nI (by omega) (by decide)) d_M_scale_111 (fun H locs hP hD hS => ?_)
                have hPD : my_PD (dC, dI) vwCl A [(o, Sum.inr (9, mO g fForm fShift fModels fItems fEnded fLow fRange fCache fPend fGoes fOuts fIns fReads fBad fIR fAsk fBAsk fCode fRL fRR fX fWrites fThrown)), ((g 0), Sum.inl (cI, 8, Sum.inl vMany)), (a, Sum.inl (cI, 512, Sum.inl (upd fK r_97.toNatClampNeg v_9)))] H := ⟨hP, hD⟩
                have hP := hPD.1
                have hD := hPD.2
                have hU := sg_up hI2 hg9 (show r_97.toNatClampNeg = 64 * mm + gr G9 n by rw [hw_97]; exact nI_clamp (by omega)) hval
                refine lv_goto (tgt := 84) hx hb d_M_scale_112 (by decide) ?_
                exact ih9_84 _ (by first | omega | (rw [dec_ns hn1 (by omega)]; omega)) (upd fK r_97.toNatClampNeg v_9) (upN G9 (gr G9 n) (G9 (gr G9 n) - 1)) rfl (hU.1) (sgO_tr hU.2 hO2) (by rw [hE2]; exact dec_st hn1 hgt) (dec_bd hB2) H locs ls (hP.sub [0, 1, 2] rfl) (hD.sub [0, 1, 2] (by decide +kernel) rfl) hS (lv_sub hl [1, 2, 3, 4, 5] rfl)
          have hj3 : j = n := by
            rcases Nat.lt_or_ge j n with q | q
            · exact absurd c_3 (by rw [hv9, hi]; exact nI_ge q (by omega))
            · omega
          exact J_84 _ fL (scG n M F) rfl ((sgL_e (hj3 ▸ hL)).1) ((sgL_e (hj3 ▸ hL)).2) (rfl) (fun k hk => Nat.le_trans (scG_le hM k hk) hM2) H locs ls (hP.sub [0, 1, 2] rfl) (hD.sub [0, 1, 2] (by decide +kernel) rfl) hS (lv_sub hl [1, 2, 3, 4, 5] rfl)
        · have hj2 : j < n := by
            rcases Nat.lt_or_ge j n with q | q
            · exact q
            · exact absurd (by rw [hv9, hi]; exact nI_le q (by omega)) c_3
          have hb9 := hB j hj2
          have hmul : F j * M ≤ 4095 * 4096 := Nat.mul_le_mul hb9 hM2
          refine lv_aload_n hx hb d_M_scale_28 rfl (lv_at hl 3 rfl) ?_
          refine lv_bipush (v := 64) hx hb d_M_scale_29 (by decide) ?_
          refine lv_iload_n hx hb d_M_scale_31 rfl (lv_at hl 4 rfl) ?_
          refine lv_imul hx hb d_M_scale_32 ?_
          refine lv_topi (fun v_10 ev_10 => ?_)
          refine lv_iload hx hb d_M_scale_33 (lv_at hl 0 rfl) ?_
          refine lv_iadd hx hb d_M_scale_35 ?_
          refine lv_topi (fun v_11 ev_11 => ?_)
          have hix : v_11 = nI (64 * mm + j) := by subst_vars; exact ix64
          refine va_iald hx hb hK hP 2 0 rfl rfl (by rw [hix]; exact vp_in_nI (by omega) (by decide)) d_M_scale_36 ?_
          refine lv_topi (fun v_12 ev_12 => ?_)
          have hld : v_12 = nI (F j) := by rw [ev_12, hix, nI_clamp (by omega)]; exact sgL_rd hL hj2
          refine lv_istore (lv' := [(6, Value.int v_12), (5, Value.int i9), (4, Value.int r_3), (0, Value.ref o), (1, Value.ref a), (2, Value.int (nI mm)), (3, Value.int (nI M))]) hx hb d_M_scale_37 hl (by decide) rfl (fun ls hl => ?_)
          refine lv_iload hx hb d_M_scale_39 (lv_at hl 0 rfl) ?_
          refine lv_iload_n hx hb d_M_scale_41 rfl (lv_at hl 6 rfl) ?_
          refine lv_imul hx hb d_M_scale_42 ?_
          refine lv_topi (fun v_13 ev_13 => ?_)
          refine lv_iload hx hb d_M_scale_43 (lv_at hl 2 rfl) ?_
          refine lv_idiv hx hb d_M_scale_45 (by rw [hw_3]; exact nI_ne0 hpos (by omega)) ?_
          refine lv_topi (fun v_14 ev_14 => ?_)
          have hdv : v_14 = nI (F j * M / ns F n) := by
            subst_vars
            rw [pk_mul]
            exact pk_div (by omega) hpos (by omega)
          have hdl : F j * M / ns F n ≤ F j * M := Nat.div_le_self _ _
          refine lv_istore (lv' := [(7, Value.int v_14), (6, Value.int v_12), (5, Value.int i9), (4, Value.int r_3), (0, Value.ref o), (1, Value.ref a), (2, Value.int (nI mm)), (3, Value.int (nI M))]) hx hb d_M_scale_46 hl (by decide) rfl (fun ls hl => ?_)
          refine lv_aload_n hx hb d_M_scale_48 rfl (lv_at hl 5 rfl) ?_
          refine lv_bipush (v := 64) hx hb d_M_scale_49 (by decide) ?_
          refine lv_iload_n hx hb d_M_scale_51 rfl (lv_at hl 6 rfl) ?_
          refine lv_imul hx hb d_M_scale_52 ?_
          refine lv_topi (fun v_15 ev_15 => ?_)
          refine lv_iload hx hb d_M_scale_53 (lv_at hl 2 rfl) ?_
          refine lv_iadd hx hb d_M_scale_55 ?_
          refine lv_topi (fun v_16 ev_16 => ?_)
          have hix2 : v_16 = nI (64 * mm + j) := by subst_vars; exact ix64
          refine lv_iload hx hb d_M_scale_56 (lv_at hl 1 rfl) ?_
          refine lv_if_ne (tgt := 65) hx hb d_M_scale_58 (by decide) (fun c_17 => ?_) (fun c_17 => ?_)
          · refine lv_iload hx hb d_M_scale_65 (lv_at hl 0 rfl) ?_
            refine lv_iconst (v := 1) hx hb d_M_scale_67 (by decide) ?_
            refine lv_icmp_ge (tgt := 75) hx hb d_M_scale_68 (by decide) (fun c_18 => ?_) (fun c_18 => ?_)
            · refine lv_iload hx hb d_M_scale_75 (lv_at hl 0 rfl) ?_
              have hval : v_14 = nI (scG n M F j) := by
                unfold scG
                rw [if_neg (fun q => c_17 (by rw [hld, q]; rfl)), if_neg (fun q => by
                  rw [hdv] at c_18
                  have := (nI_cmp (a := 1) (by decide) (by omega)).mp c_18
                  omega)]
                exact hdv
              refine va_iast hx hb hK hP hD hS 2 0 rfl rfl (by rw [hix2]; exact vp_in_nI (by omega) (by decide)) d_M_scale_77 (fun H locs hP hD hS => ?_)
              have hPD : my_PD (dC, dI) vwCl A [(o, Sum.inr (9, mO g fForm fShift fModels fItems fEnded fLow fRange fCache fPend fGoes fOuts fIns fReads fBad fIR fAsk fBAsk fCode fRL fRR fX fWrites fThrown)), ((g 0), Sum.inl (cI, 8, Sum.inl vMany)), (a, Sum.inl (cI, 512, Sum.inl (upd fL v_16.toNatClampNeg v_14)))] H := ⟨hP, hD⟩
              have hP := hPD.1
              have hD := hPD.2
              obtain ⟨v_19, ev_19⟩ : ∃ y : Int32, y = i9 + (1) := ⟨_, rfl⟩
              refine lv_iinc (v := v_19) (lv' := [(5, Value.int v_19), (7, Value.int v_14), (6, Value.int v_12), (4, Value.int r_3), (0, Value.ref o), (1, Value.ref a), (2, Value.int (nI mm)), (3, Value.int (nI M))]) hx hb d_M_scale_78 hl (k := 2) rfl (by rw [ev_19]; rfl) (by decide) rfl (fun ls hl => ?_)
              refine lv_goto (tgt := 17) hx hb d_M_scale_81 (by decide) ?_
              exact ih9_17 _ (by first | omega | (omega)) (upd fL v_16.toNatClampNeg v_14) v_19 (j + 1) rfl (sgL_st hL hj2 (by rw [hix2]; exact nI_clamp (by omega)) hval) (by subst_vars; exact nI_1 j) (by omega) H locs ls (hP.sub [0, 1, 2] rfl) (hD.sub [0, 1, 2] (by decide +kernel) rfl) hS (lv_sub hl [0, 3, 4, 5, 6, 7] rfl)
            · refine lv_iconst (v := 1) hx hb d_M_scale_71 (by decide) ?_
              refine lv_goto (tgt := 77) hx hb d_M_scale_72 (by decide) ?_
              have hval : (1 : Int32) = nI (scG n M F j) := by
                unfold scG
                rw [if_neg (fun q => c_17 (by rw [hld, q]; rfl)), if_pos (by
                  rcases Nat.lt_or_ge (F j * M / ns F n) 1 with q | q
                  · exact q
                  · exact absurd (by rw [hdv]; exact nI_le (a := 1) q (by omega)) c_18)]
                rfl
              refine va_iast hx hb hK hP hD hS 2 0 rfl rfl (by rw [hix2]; exact vp_in_nI (by omega) (by decide)) d_M_scale_77 (fun H locs hP hD hS => ?_)
              have hPD : my_PD (dC, dI) vwCl A [(o, Sum.inr (9, mO g fForm fShift fModels fItems fEnded fLow fRange fCache fPend fGoes fOuts fIns fReads fBad fIR fAsk fBAsk fCode fRL fRR fX fWrites fThrown)), ((g 0), Sum.inl (cI, 8, Sum.inl vMany)), (a, Sum.inl (cI, 512, Sum.inl (upd fL v_16.toNatClampNeg 1)))] H := ⟨hP, hD⟩
              have hP := hPD.1
              have hD := hPD.2
              obtain ⟨v_20, ev_20⟩ : ∃ y : Int32, y = i9 + (1) := ⟨_, rfl⟩
              refine lv_iinc (v := v_20) (lv' := [(5, Value.int v_20), (7, Value.int v_14), (6, Value.int v_12), (4, Value.int r_3), (0, Value.ref o), (1, Value.ref a), (2, Value.int (nI mm)), (3, Value.int (nI M))]) hx hb d_M_scale_78 hl (k := 2) rfl (by rw [ev_20]; rfl) (by decide) rfl (fun ls hl => ?_)
              refine lv_goto (tgt := 17) hx hb d_M_scale_81 (by decide) ?_
              exact ih9_17 _ (by first | omega | (omega)) (upd fL v_16.toNatClampNeg 1) v_20 (j + 1) rfl (sgL_st hL hj2 (by rw [hix2]; exact nI_clamp (by omega)) hval) (by subst_vars; exact nI_1 j) (by omega) H locs ls (hP.sub [0, 1, 2] rfl) (hD.sub [0, 1, 2] (by decide +kernel) rfl) hS (lv_sub hl [0, 3, 4, 5, 6, 7] rfl)
          · refine lv_iconst (v := 0) hx hb d_M_scale_61 (by decide) ?_
            refine lv_goto (tgt := 77) hx hb d_M_scale_62 (by decide) ?_
            have hval : (0 : Int32) = nI (scG n M F j) := by
              unfold scG
              rw [if_pos (by
                rcases Nat.eq_zero_or_pos (F j) with q | q
                · exact q
                · exact absurd (by rw [← hld]; exact c_17) (nI_ne0 q (by omega)))]
              rfl
            refine va_iast hx hb hK hP hD hS 2 0 rfl rfl (by rw [hix2]; exact vp_in_nI (by omega) (by decide)) d_M_scale_77 (fun H locs hP hD hS => ?_)
            have hPD : my_PD (dC, dI) vwCl A [(o, Sum.inr (9, mO g fForm fShift fModels fItems fEnded fLow fRange fCache fPend fGoes fOuts fIns fReads fBad fIR fAsk fBAsk fCode fRL fRR fX fWrites fThrown)), ((g 0), Sum.inl (cI, 8, Sum.inl vMany)), (a, Sum.inl (cI, 512, Sum.inl (upd fL v_16.toNatClampNeg 0)))] H := ⟨hP, hD⟩
            have hP := hPD.1
            have hD := hPD.2
            obtain ⟨v_21, ev_21⟩ : ∃ y : Int32, y = i9 + (1) := ⟨_, rfl⟩
            refine lv_iinc (v := v_21) (lv' := [(5, Value.int v_21), (7, Value.int v_14), (6, Value.int v_12), (4, Value.int r_3), (0, Value.ref o), (1, Value.ref a), (2, Value.int (nI mm)), (3, Value.int (nI M))]) hx hb d_M_scale_78 hl (k := 2) rfl (by rw [ev_21]; rfl) (by decide) rfl (fun ls hl => ?_)
            refine lv_goto (tgt := 17) hx hb d_M_scale_81 (by decide) ?_
            exact ih9_17 _ (by first | omega | (omega)) (upd fL v_16.toNatClampNeg 0) v_21 (j + 1) rfl (sgL_st hL hj2 (by rw [hix2]; exact nI_clamp (by omega)) hval) (by subst_vars; exact nI_1 j) (by omega) H locs ls (hP.sub [0, 1, 2] rfl) (hD.sub [0, 1, 2] (by decide +kernel) rfl) hS (lv_sub hl [0, 3, 4, 5, 6, 7] rfl)
    exact J_17 _ f 0 0 rfl (sgL_0 hf) (rfl) (Nat.zero_le _) H locs ls (hP.sub [0, 1, 2] rfl) (hD.sub [0, 1, 2] (by decide +kernel) rfl) hS (lv_sub hl [0, 1, 2, 3, 4, 5] rfl)
  · have hz : ns F n = 0 := by
      rcases Nat.eq_zero_or_pos (ns F n) with q | q
      · exact q
      · exact absurd (by rw [← hw_3]; exact c_1) (nI_ne0 q (by omega))
    exact my_vret hx hb hr hlocks hQ hK hS (Nat.le_refl _) (Nat.le_refl _) f (by unfold sc; rw [if_pos hz]; exact ⟨hf, sgO_rf _ _ _⟩) (hP.sub [0, 1, 2] rfl) (hD.sub [0, 1, 2] (by decide +kernel) rfl) d_M_scale_13
end
section
/-- a model's numbers as a message or a reading begins -/
def pf (fm n : Nat) (C : Nat → Nat) : Nat → Nat := if fm = 2 then (fun _ => 1024) else if fm < 2 then les n C else sc n (if fm = 3 then 4096 else 512) C
abbrev pfN (fm n : Nat) : Nat := if fm = 2 then 64 else n
set_option maxHeartbeats 1000000 in
set_option maxRecDepth 100000 in
/-- prepare -/
theorem c_M_prepare (l : Launch) (dC : Nat → ClassId) (dI : Nat → Nat → Nat) (cI cM cO : ClassId) (sz : Nat) (o : Nat) (g : Nat → Nat) (fForm : Int32) (fShift : Int32) (fModels : Int32) (fItems : Int32) (fEnded : Int32) (fLow : Int64) (fRange : Int64) (fCache : Int32) (fPend : Int32) (fGoes : Int32) (fOuts : Int32) (fIns : Int32) (fReads : Int32) (fBad : Int32) (fIR : Int32) (fAsk : Int32) (fBAsk : Int32) (fCode : Int64) (fRL : Int64) (fRR : Int64) (fX : Int64) (fWrites : Int32) (fThrown : Int32) (vMany : Nat → Int32) (vCounts : Nat → Int32) (a : Nat) (f : Nat → Int32) (mm : Nat) (n : Nat) (fm : Nat) (C : Nat → Nat) (hmm : mm < 8) (hn : vMany mm = nI n) (hn2 : n ≤ 64) (hn1 : 0 < n) (hfm : fm ≤ 4) (hform : fForm = nI fm) (hc : sgI vCounts (64 * mm) n C) (hB : bd C n 4095) : MetV l y_M_prepare (Cond.code y_M_prepare prog_14_method_7_code 5 none :: gw) ({ frames := 2, cells := 0, slots := 0, locals := 51 } : Room) (dC, dI) vwCl (kT cI cM cO) [Value.ref o, Value.ref a, Value.int (nI mm)] [(o, Sum.inr (9, mO g fForm fShift fModels fItems fEnded fLow fRange fCache fPend fGoes fOuts fIns fReads fBad fIR fAsk fBAsk fCode fRL fRR fX fWrites fThrown)), ((g 0), Sum.inl (cI, 8, Sum.inl vMany)), ((g 1), Sum.inl (cI, 512, Sum.inl vCounts)), (a, Sum.inl (cI, 512, Sum.inl f))] sz (fun (u : (Nat → Int32)) => sgI u (64 * mm) (pfN fm n) (pf fm n C) ∧ sgO u f (64 * mm) 64) (fun (u : (Nat → Int32)) => [(o, Sum.inr (9, mO g fForm fShift fModels fItems fEnded fLow fRange fCache fPend fGoes fOuts fIns fReads fBad fIR fAsk fBAsk fCode fRL fRR fX fWrites fThrown)), ((g 0), Sum.inl (cI, 8, Sum.inl vMany)), ((g 1), Sum.inl (cI, 512, Sum.inl vCounts)), (a, Sum.inl (cI, 512, Sum.inl u))]) 0 0 := by
  refine my_ofV (cc := prog_14_method_7_code) (n := 5) (ret := none) (by decide) rfl (Nat.le_of_ble_eq_true rfl) ?_
  intro p e s m args below meth c R Q A ls H locs hx hb hr hts hown hlocks hml hnm hR hQ hA hl hP hK hN hD hS
  have hg : ∀ w ∈ gw, w.before args s = true := fun w h => hts w (List.mem_cons_of_mem _ h)
  have hown : s.vm.findClass "RangeCodersModel" = some m.cls := hown
  have hl : lv_has ls 5 [(0, Value.ref o), (1, Value.ref a), (2, Value.int (nI mm))] := hl
  refine lv_bipush (v := 64) hx hb d_M_prepare_0 (by decide) ?_
  refine lv_iload_n hx hb d_M_prepare_2 rfl (lv_at hl 2 rfl) ?_
  refine lv_imul hx hb d_M_prepare_3 ?_
  refine lv_topi (fun v_1 ev_1 => ?_)
  refine lv_istore_n (lv' := [(3, Value.int v_1), (0, Value.ref o), (1, Value.ref a), (2, Value.int (nI mm))]) hx hb d_M_prepare_4 rfl hl (by decide) rfl (fun ls hl => ?_)
  refine lv_aload_n hx hb d_M_prepare_5 rfl (lv_at hl 1 rfl) ?_
  refine va_get (D := (dC, dI)) (ci := 9) (v := .int fForm) (C := "RangeCodersModel") (T := T_M) (N := 35) hx hb hg in_M hown hK hP 0 rfl rfl 0 (by decide) (hg _ k952) (fun _ h9 => h9) rfl d_M_prepare_6 ?_
  refine lv_iconst (v := 2) hx hb d_M_prepare_9 (by decide) ?_
  refine lv_icmp_ne (tgt := 39) hx hb d_M_prepare_10 (by decide) (fun c_2 => ?_) (fun c_2 => ?_)
  · have hf2 : ¬ fm = 2 := fun q => c_2 (by rw [hform, q]; rfl)
    refine lv_iconst (v := 0) hx hb d_M_prepare_39 (by decide) ?_
    refine lv_istore (lv' := [(4, Value.int 0), (3, Value.int v_1), (0, Value.ref o), (1, Value.ref a), (2, Value.int (nI mm))]) hx hb d_M_prepare_40 hl (by decide) rfl (fun ls hl => ?_)
    have J_42 : ∀ (n9_42 : Nat) (fL : Nat → Int32) (i9 : Int32) (j : Nat) (hn9_42 : n - j = n9_42) (hL : sgM fL f (64 * mm) n j C) (hi : i9 = nI j) (hj : j ≤ n) (H : Heap) (locs : List Loc) (ls : Array Slot), va_P (dC, dI) vwCl [(o, Sum.inr (9, mO g fForm fShift fModels fItems fEnded fLow fRange fCache fPend fGoes fOuts fIns fReads fBad fIR fAsk fBAsk fCode fRL fRR fX fWrites fThrown)), ((g 0), Sum.inl (cI, 8, Sum.inl vMany)), ((g 1), Sum.inl (cI, 512, Sum.inl vCounts)), (a, Sum.inl (cI, 512, Sum.inl fL))] H → va_D A [(o, Sum.inr (9, mO g fForm fShift fModels fItems fEnded fLow fRange fCache fPend fGoes fOuts fIns fReads fBad fIR fAsk fBAsk fCode fRL fRR fX fWrites fThrown)), ((g 0), Sum.inl (cI, 8, Sum.inl vMany)), ((g 1), Sum.inl (cI, 512, Sum.inl vCounts)), (a, Sum.inl (cI, 512, Sum.inl fL))] → va_S A s.heap H locs → lv_has ls 5 [(4, Value.int i9), (3, Value.int v_1), (0, Value.ref o), (1, Value.ref a), (2, Value.int (nI mm))] → W p l e R s m args below meth c H locs 0 0 Q (F0 m 42 ls []) := by
      intro n9_42
      induction n9_42 using Nat.strongRecOn with
      | ind n9_42 ih9_42 =>
        intro fL i9 j hn9_42 hL hi hj H locs ls hP hD hS hl
        refine lv_iload hx hb d_M_prepare_42 (lv_at hl 0 rfl) ?_
        refine lv_aload_n hx hb d_M_prepare_44 rfl (lv_at hl 2 rfl) ?_
        refine va_get (D := (dC, dI)) (ci := 9) (v := .ref (g 0)) (C := "RangeCodersModel") (T := T_M) (N := 35) hx hb hg in_M hown hK hP 0 rfl rfl 3 (by decide) (hg _ k955) (fun _ h9 => h9) rfl d_M_prepare_45 ?_
        refine lv_iload_n hx hb d_M_prepare_48 rfl (lv_at hl 4 rfl) ?_
        refine va_iald hx hb hK hP 1 0 rfl rfl (vp_in_nI hmm (by decide)) d_M_prepare_49 ?_
        refine lv_topi (fun v_3 ev_3 => ?_)
        have hv9 : v_3 = nI n := by subst_vars; rw [nI_clamp (by omega)]; exact hn
        refine lv_icmp_ge (tgt := 74) hx hb d_M_prepare_50 (by decide) (fun c_4 => ?_) (fun c_4 => ?_)
        · have hj3 : j = n := by
            rcases Nat.lt_or_ge j n with q | q
            · exact absurd c_4 (by rw [hv9, hi]; exact nI_ge q (by omega))
            · omega
          rw [hj3] at hL
          refine lv_aload_n hx hb d_M_prepare_74 rfl (lv_at hl 2 rfl) ?_
          refine va_get (D := (dC, dI)) (ci := 9) (v := .int fForm) (C := "RangeCodersModel") (T := T_M) (N := 35) hx hb hg in_M hown hK hP 0 rfl rfl 0 (by decide) (hg _ k952) (fun _ h9 => h9) rfl d_M_prepare_75 ?_
          refine lv_iconst (v := 2) hx hb d_M_prepare_78 (by decide) ?_
          refine lv_icmp_ge (tgt := 91) hx hb d_M_prepare_79 (by decide) (fun c_5 => ?_) (fun c_5 => ?_)
          · have hlt : ¬ fm < 2 := by
              rw [hform] at c_5
              have := (nI_cmp (a := 2) (by decide) (by omega)).mp c_5
              omega
            refine lv_aload_n hx hb d_M_prepare_91 rfl (lv_at hl 2 rfl) ?_
            refine lv_aload_n hx hb d_M_prepare_92 rfl (lv_at hl 3 rfl) ?_
            refine lv_iload_n hx hb d_M_prepare_93 rfl (lv_at hl 4 rfl) ?_
            refine lv_aload_n hx hb d_M_prepare_94 rfl (lv_at hl 2 rfl) ?_
            refine va_get (D := (dC, dI)) (ci := 9) (v := .int fForm) (C := "RangeCodersModel") (T := T_M) (N := 35) hx hb hg in_M hown hK hP 0 rfl rfl 0 (by decide) (hg _ k952) (fun _ h9 => h9) rfl d_M_prepare_95 ?_
            refine lv_iconst (v := 3) hx hb d_M_prepare_98 (by decide) ?_
            refine lv_icmp_ne (tgt := 108) hx hb d_M_prepare_99 (by decide) (fun c_6 => ?_) (fun c_6 => ?_)
            · have h3 : ¬ fm = 3 := fun q => c_6 (by rw [hform, q]; rfl)
              refine lv_sipush (v := 512) hx hb d_M_prepare_108 (by decide) ?_
              refine W.eq (g2 := F0 m 111 ls [Value.int (nI 512), Value.int (nI mm), Value.ref a, Value.ref o]) rfl ?_
              refine my_cv (wr := [((g 1), Sum.inl (cI, 512, Sum.inl vCounts))]) (va_runV (As := [Value.ref a, Value.int (nI mm), Value.int (nI 512)]) (rest := []) ⟨hx, hb, hml, hown, hts⟩ (c_M_scale l dC dI cI cM cO H.size o g fForm fShift fModels fItems fEnded fLow fRange fCache fPend fGoes fOuts fIns fReads fBad fIR fAsk fBAsk fCode fRL fRR fX fWrites fThrown vMany a fL mm n 512 C (by assumption) (by assumption) (by assumption) (by assumption) (by decide) (by decide) (hL.1) (hB)) (cwV 3 hts (my_gV k944 k946 ks23 k12 k947) rfl rfl rfl (by decide +kernel) ⟨by rw [hR]; exact Nat.le_of_ble_eq_true rfl, by rw [hR]; exact Nat.le_of_ble_eq_true rfl⟩) (my_preV hK hN (hP.sub [0, 1, 3] rfl) (hD.sub [0, 1, 3] (by decide +kernel) rfl) 0 rfl rfl) rfl rfl hl.1 rfl (lv_room (Nat.le_of_ble_eq_true rfl)) d_M_prepare_111 ⟨by rw [hR]; exact Nat.le_of_ble_eq_true rfl, by rw [hR]; exact Nat.le_of_ble_eq_true rfl⟩) hP hD hS hA [0, 1, 3] [2] rfl rfl (by decide +kernel) (by decide +kernel) (fun u9 H locs hw_111 hP hD hS => ?_)
              obtain ⟨f2_111, rfl⟩ : ∃ z, z = u9 := ⟨_, rfl⟩
              have hw_111 : sgI f2_111 (64 * mm) n (sc n 512 C) ∧ sgO f2_111 fL (64 * mm) n := hw_111
              have hPD : my_PD (dC, dI) vwCl A [((g 1), Sum.inl (cI, 512, Sum.inl vCounts)), (o, Sum.inr (9, mO g fForm fShift fModels fItems fEnded fLow fRange fCache fPend fGoes fOuts fIns fReads fBad fIR fAsk fBAsk fCode fRL fRR fX fWrites fThrown)), ((g 0), Sum.inl (cI, 8, Sum.inl vMany)), (a, Sum.inl (cI, 512, Sum.inl f2_111))] H := ⟨hP, hD⟩
              have hP := hPD.1
              have hD := hPD.2
              exact my_vret hx hb hr hlocks hQ hK hS (Nat.le_refl _) (Nat.le_refl _) f2_111 (by unfold pfN pf; rw [if_neg hf2, if_neg hf2, if_neg hlt, if_neg h3]; exact ⟨hw_111.1, sgO_w (sgO_tr hw_111.2 hL.2) hn2⟩) (hP.sub [1, 2, 0, 3] rfl) (hD.sub [1, 2, 0, 3] (by decide +kernel) rfl) d_M_prepare_114
            · have h3 : fm = 3 := (nI_eq (a := fm) (b := 3) (by omega) (by decide)).mp (by rw [← hform]; exact c_6)
              refine lv_sipush (v := 4096) hx hb d_M_prepare_102 (by decide) ?_
              refine lv_goto (tgt := 111) hx hb d_M_prepare_105 (by decide) ?_
              refine W.eq (g2 := F0 m 111 ls [Value.int (nI 4096), Value.int (nI mm), Value.ref a, Value.ref o]) rfl ?_
              refine my_cv (wr := [((g 1), Sum.inl (cI, 512, Sum.inl vCounts))]) (va_runV (As := [Value.ref a, Value.int (nI mm), Value.int (nI 4096)]) (rest := []) ⟨hx, hb, hml, hown, hts⟩ (c_M_scale l dC dI cI cM cO H.size o g fForm fShift fModels fItems fEnded fLow fRange fCache fPend fGoes fOuts fIns fReads fBad fIR fAsk fBAsk fCode fRL fRR fX fWrites fThrown vMany a fL mm n 4096 C (by assumption) (by assumption) (by assumption) (by assumption) (by decide) (by decide) (hL.1) (hB)) (cwV 3 hts (my_gV k944 k946 ks23 k12 k947) rfl rfl rfl (by decide +kernel) ⟨by rw [hR]; exact Nat.le_of_ble_eq_true rfl, by rw [hR]; exact Nat.le_of_ble_eq_true rfl⟩) (my_preV hK hN (hP.sub [0, 1, 3] rfl) (hD.sub [0, 1, 3] (by decide +kernel) rfl) 0 rfl rfl) rfl rfl hl.1 rfl (lv_room (Nat.le_of_ble_eq_true rfl)) d_M_prepare_111 ⟨by rw [hR]; exact Nat.le_of_ble_eq_true rfl, by rw [hR]; exact Nat.le_of_ble_eq_true rfl⟩) hP hD hS hA [0, 1, 3] [2] rfl rfl (by decide +kernel) (by decide +kernel) (fun u9 H locs hw_111 hP hD hS => ?_)
              obtain ⟨f2_111, rfl⟩ : ∃ z, z = u9 := ⟨_, rfl⟩
              have hw_111 : sgI f2_111 (64 * mm) n (sc n 4096 C) ∧ sgO f2_111 fL (64 * mm) n := hw_111
              have hPD : my_PD (dC, dI) vwCl A [((g 1), Sum.inl (cI, 512, Sum.inl vCounts)), (o, Sum.inr (9, mO g fForm fShift fModels fItems fEnded fLow fRange fCache fPend fGoes fOuts fIns fReads fBad fIR fAsk fBAsk fCode fRL fRR fX fWrites fThrown)), ((g 0), Sum.inl (cI, 8, Sum.inl vMany)), (a, Sum.inl (cI, 512, Sum.inl f2_111))] H := ⟨hP, hD⟩
              have hP := hPD.1
              have hD := hPD.2
              exact my_vret hx hb hr hlocks hQ hK hS (Nat.le_refl _) (Nat.le_refl _) f2_111 (by unfold pfN pf; rw [if_neg hf2, if_neg hf2, if_neg hlt, if_pos h3]; exact ⟨hw_111.1, sgO_w (sgO_tr hw_111.2 hL.2) hn2⟩) (hP.sub [1, 2, 0, 3] rfl) (hD.sub [1, 2, 0, 3] (by decide +kernel) rfl) d_M_prepare_114
          · have hlt : fm < 2 := by
              rcases Nat.lt_or_ge fm 2 with q | q
              · exact q
              · exact absurd (by rw [hform]; exact nI_le (a := 2) q (by omega)) c_5
            refine lv_aload_n hx hb d_M_prepare_82 rfl (lv_at hl 2 rfl) ?_
            refine lv_aload_n hx hb d_M_prepare_83 rfl (lv_at hl 3 rfl) ?_
            refine lv_iload_n hx hb d_M_prepare_84 rfl (lv_at hl 4 rfl) ?_
            refine my_cv (wr := [((g 1), Sum.inl (cI, 512, Sum.inl vCounts))]) (va_runV (As := [Value.ref a, Value.int (nI mm)]) (rest := []) ⟨hx, hb, hml, hown, hts⟩ (c_M_lessen l dC dI cI cM cO H.size o g fForm fShift fModels fItems fEnded fLow fRange fCache fPend fGoes fOuts fIns fReads fBad fIR fAsk fBAsk fCode fRL fRR fX fWrites fThrown vMany a fL mm n C (by assumption) (by assumption) (by assumption) (hL.1) (hB)) (cwV 2 hts (my_gV k932 k934 ks20 k12 k935) rfl rfl rfl (by decide +kernel) ⟨by rw [hR]; exact Nat.le_of_ble_eq_true rfl, by rw [hR]; exact Nat.le_of_ble_eq_true rfl⟩) (my_preV hK hN (hP.sub [0, 1, 3] rfl) (hD.sub [0, 1, 3] (by decide +kernel) rfl) 0 rfl rfl) rfl rfl hl.1 rfl (lv_room (Nat.le_of_ble_eq_true rfl)) d_M_prepare_85 ⟨by rw [hR]; exact Nat.le_of_ble_eq_true rfl, by rw [hR]; exact Nat.le_of_ble_eq_true rfl⟩) hP hD hS hA [0, 1, 3] [2] rfl rfl (by decide +kernel) (by decide +kernel) (fun u9 H locs hw_85 hP hD hS => ?_)
            obtain ⟨f2_85, rfl⟩ : ∃ z, z = u9 := ⟨_, rfl⟩
            have hw_85 : sgI f2_85 (64 * mm) n (les n C) ∧ sgO f2_85 fL (64 * mm) n := hw_85
            have hPD : my_PD (dC, dI) vwCl A [((g 1), Sum.inl (cI, 512, Sum.inl vCounts)), (o, Sum.inr (9, mO g fForm fShift fModels fItems fEnded fLow fRange fCache fPend fGoes fOuts fIns fReads fBad fIR fAsk fBAsk fCode fRL fRR fX fWrites fThrown)), ((g 0), Sum.inl (cI, 8, Sum.inl vMany)), (a, Sum.inl (cI, 512, Sum.inl f2_85))] H := ⟨hP, hD⟩
            have hP := hPD.1
            have hD := hPD.2
            refine lv_goto (tgt := 114) hx hb d_M_prepare_88 (by decide) ?_
            exact my_vret hx hb hr hlocks hQ hK hS (Nat.le_refl _) (Nat.le_refl _) f2_85 (by unfold pfN pf; rw [if_neg hf2, if_neg hf2, if_pos hlt]; exact ⟨hw_85.1, sgO_w (sgO_tr hw_85.2 hL.2) hn2⟩) (hP.sub [1, 2, 0, 3] rfl) (hD.sub [1, 2, 0, 3] (by decide +kernel) rfl) d_M_prepare_114
        · have hj2 : j < n := by
            rcases Nat.lt_or_ge j n with q | q
            · exact q
            · exact absurd (by rw [hv9, hi]; exact nI_le q (by omega)) c_4
          refine lv_aload_n hx hb d_M_prepare_53 rfl (lv_at hl 3 rfl) ?_
          refine lv_iload_n hx hb d_M_prepare_54 rfl (lv_at hl 1 rfl) ?_
          refine lv_iload hx hb d_M_prepare_55 (lv_at hl 0 rfl) ?_
          refine lv_iadd hx hb d_M_prepare_57 ?_
          refine lv_topi (fun v_7 ev_7 => ?_)
          have hix : v_7 = nI (64 * mm + j) := by subst_vars; exact ix64
          refine lv_aload_n hx hb d_M_prepare_58 rfl (lv_at hl 2 rfl) ?_
          refine va_get (D := (dC, dI)) (ci := 9) (v := .ref (g 1)) (C := "RangeCodersModel") (T := T_M) (N := 35) hx hb hg in_M hown hK hP 0 rfl rfl 4 (by decide) (hg _ k956) (fun _ h9 => h9) rfl d_M_prepare_59 ?_
          refine lv_iload_n hx hb d_M_prepare_62 rfl (lv_at hl 1 rfl) ?_
          refine lv_iload hx hb d_M_prepare_63 (lv_at hl 0 rfl) ?_
          refine lv_iadd hx hb d_M_prepare_65 ?_
          refine lv_topi (fun v_8 ev_8 => ?_)
          have hix2 : v_8 = nI (64 * mm + j) := by subst_vars; exact ix64
          refine va_iald hx hb hK hP 2 0 rfl rfl (by rw [hix2]; exact vp_in_nI (by omega) (by decide)) d_M_prepare_66 ?_
          refine lv_topi (fun v_9 ev_9 => ?_)
          have hval : v_9 = nI (C j) := by rw [ev_9, hix2, nI_clamp (by omega)]; exact hc j hj2
          refine va_iast hx hb hK hP hD hS 3 0 rfl rfl (by rw [hix]; exact vp_in_nI (by omega) (by decide)) d_M_prepare_67 (fun H locs hP hD hS => ?_)
          have hPD : my_PD (dC, dI) vwCl A [(o, Sum.inr (9, mO g fForm fShift fModels fItems fEnded fLow fRange fCache fPend fGoes fOuts fIns fReads fBad fIR fAsk fBAsk fCode fRL fRR fX fWrites fThrown)), ((g 0), Sum.inl (cI, 8, Sum.inl vMany)), ((g 1), Sum.inl (cI, 512, Sum.inl vCounts)), (a, Sum.inl (cI, 512, Sum.inl (upd fL v_7.toNatClampNeg v_9)))] H := ⟨hP, hD⟩
          have hP := hPD.1
          have hD := hPD.2
          obtain ⟨v_10, ev_10⟩ : ∃ y : Int32, y = i9 + (1) := ⟨_, rfl⟩
          refine lv_iinc (v := v_10) (lv' := [(4, Value.int v_10), (3, Value.int v_1), (0, Value.ref o), (1, Value.ref a), (2, Value.int (nI mm))]) hx hb d_M_prepare_68 hl (k := 0) rfl (by rw [ev_10]; rfl) (by decide) rfl (fun ls hl => ?_)
          refine lv_goto (tgt := 42) hx hb d_M_prepare_71 (by decide) ?_
          exact ih9_42 _ (by first | omega | (omega)) (upd fL v_7.toNatClampNeg v_9) v_10 (j + 1) rfl (sgM_st hL hj2 (by rw [hix]; exact nI_clamp (by omega)) hval) (by subst_vars; exact nI_1 j) (by omega) H locs ls (hP.sub [0, 1, 2, 3] rfl) (hD.sub [0, 1, 2, 3] (by decide +kernel) rfl) hS (lv_sub hl [0, 1, 2, 3, 4] rfl)
    exact J_42 _ f 0 0 rfl (sgM_0 _ _ _ _) (rfl) (Nat.zero_le _) H locs ls (hP.sub [0, 1, 2, 3] rfl) (hD.sub [0, 1, 2, 3] (by decide +kernel) rfl) hS (lv_sub hl [0, 1, 2, 3, 4] rfl)
  · have hf2 : fm = 2 := (nI_eq (a := fm) (b := 2) (by omega) (by decide)).mp (by rw [← hform]; exact c_2)
    refine lv_iconst (v := 0) hx hb d_M_prepare_13 (by decide) ?_
    refine lv_istore (lv' := [(4, Value.int 0), (3, Value.int v_1), (0, Value.ref o), (1, Value.ref a), (2, Value.int (nI mm))]) hx hb d_M_prepare_14 hl (by decide) rfl (fun ls hl => ?_)
    have J_16 : ∀ (n9_16 : Nat) (fL : Nat → Int32) (i9 : Int32) (j : Nat) (hn9_16 : 64 - j = n9_16) (hL : sgM fL f (64 * mm) 64 j (fun _ => 1024)) (hi : i9 = nI j) (hj : j ≤ 64) (H : Heap) (locs : List Loc) (ls : Array Slot), va_P (dC, dI) vwCl [(o, Sum.inr (9, mO g fForm fShift fModels fItems fEnded fLow fRange fCache fPend fGoes fOuts fIns fReads fBad fIR fAsk fBAsk fCode fRL fRR fX fWrites fThrown)), ((g 0), Sum.inl (cI, 8, Sum.inl vMany)), ((g 1), Sum.inl (cI, 512, Sum.inl vCounts)), (a, Sum.inl (cI, 512, Sum.inl fL))] H → va_D A [(o, Sum.inr (9, mO g fForm fShift fModels fItems fEnded fLow fRange fCache fPend fGoes fOuts fIns fReads fBad fIR fAsk fBAsk fCode fRL fRR fX fWrites fThrown)), ((g 0), Sum.inl (cI, 8, Sum.inl vMany)), ((g 1), Sum.inl (cI, 512, Sum.inl vCounts)), (a, Sum.inl (cI, 512, Sum.inl fL))] → va_S A s.heap H locs → lv_has ls 5 [(4, Value.int i9), (3, Value.int v_1), (0, Value.ref o), (1, Value.ref a), (2, Value.int (nI mm))] → W p l e R s m args below meth c H locs 0 0 Q (F0 m 16 ls []) := by
      intro n9_16
      induction n9_16 using Nat.strongRecOn with
      | ind n9_16 ih9_16 =>
        intro fL i9 j hn9_16 hL hi hj H locs ls hP hD hS hl
        refine lv_iload hx hb d_M_prepare_16 (lv_at hl 0 rfl) ?_
        refine lv_bipush (v := 64) hx hb d_M_prepare_18 (by decide) ?_
        refine lv_icmp_ge (tgt := 38) hx hb d_M_prepare_20 (by decide) (fun c_11 => ?_) (fun c_11 => ?_)
        · have hj3 : j = 64 := by
            rw [hi] at c_11
            have := (nI_cmp (a := 64) (by decide) (by omega)).mp c_11
            omega
          have hP4 : sgI fL (64 * mm) (pfN fm n) (pf fm n C) ∧ sgO fL f (64 * mm) 64 := by
            unfold pfN pf; rw [if_pos hf2, if_pos hf2]; rw [hj3] at hL; exact hL
          exact my_vret hx hb hr hlocks hQ hK hS (Nat.le_refl _) (Nat.le_refl _) fL (hP4) (hP.sub [0, 1, 2, 3] rfl) (hD.sub [0, 1, 2, 3] (by decide +kernel) rfl) d_M_prepare_38
        · have hj2 : j < 64 := by
            rcases Nat.lt_or_ge j 64 with q | q
            · exact q
            · exact absurd (by rw [hi]; exact nI_le (a := 64) q (by omega)) c_11
          refine lv_aload_n hx hb d_M_prepare_23 rfl (lv_at hl 3 rfl) ?_
          refine lv_iload_n hx hb d_M_prepare_24 rfl (lv_at hl 1 rfl) ?_
          refine lv_iload hx hb d_M_prepare_25 (lv_at hl 0 rfl) ?_
          refine lv_iadd hx hb d_M_prepare_27 ?_
          refine lv_topi (fun v_12 ev_12 => ?_)
          have hix : v_12 = nI (64 * mm + j) := by subst_vars; exact ix64
          refine lv_sipush (v := 1024) hx hb d_M_prepare_28 (by decide) ?_
          refine va_iast hx hb hK hP hD hS 3 0 rfl rfl (by rw [hix]; exact vp_in_nI (by omega) (by decide)) d_M_prepare_31 (fun H locs hP hD hS => ?_)
          have hPD : my_PD (dC, dI) vwCl A [(o, Sum.inr (9, mO g fForm fShift fModels fItems fEnded fLow fRange fCache fPend fGoes fOuts fIns fReads fBad fIR fAsk fBAsk fCode fRL fRR fX fWrites fThrown)), ((g 0), Sum.inl (cI, 8, Sum.inl vMany)), ((g 1), Sum.inl (cI, 512, Sum.inl vCounts)), (a, Sum.inl (cI, 512, Sum.inl (upd fL v_12.toNatClampNeg 1024)))] H := ⟨hP, hD⟩
          have hP := hPD.1
          have hD := hPD.2
          obtain ⟨v_13, ev_13⟩ : ∃ y : Int32, y = i9 + (1) := ⟨_, rfl⟩
          refine lv_iinc (v := v_13) (lv' := [(4, Value.int v_13), (3, Value.int v_1), (0, Value.ref o), (1, Value.ref a), (2, Value.int (nI mm))]) hx hb d_M_prepare_32 hl (k := 0) rfl (by rw [ev_13]; rfl) (by decide) rfl (fun ls hl => ?_)
          refine lv_goto (tgt := 16) hx hb d_M_prepare_35 (by decide) ?_
          exact ih9_16 _ (by first | omega | (omega)) (upd fL v_12.toNatClampNeg 1024) v_13 (j + 1) rfl (sgM_st hL hj2 (by rw [hix]; exact nI_clamp (by omega)) rfl) (by subst_vars; exact nI_1 j) (by omega) H locs ls (hP.sub [0, 1, 2, 3] rfl) (hD.sub [0, 1, 2, 3] (by decide +kernel) rfl) hS (lv_sub hl [0, 1, 2, 3, 4] rfl)
    exact J_16 _ f 0 0 rfl (sgM_0 _ _ _ _) (rfl) (Nat.zero_le _) H locs ls (hP.sub [0, 1, 2, 3] rfl) (hD.sub [0, 1, 2, 3] (by decide +kernel) rfl) hS (lv_sub hl [0, 1, 2, 3, 4] rfl)
end
section
set_option maxHeartbeats 1000000 in
set_option maxRecDepth 100000 in
/-- write -/
theorem c_M_write (l : Launch) (dC : Nat → ClassId) (dI : Nat → Nat → Nat) (cI cM cO : ClassId) (sz : Nat) (o : Nat) (g : Nat → Nat) (fForm : Int32) (fShift : Int32) (fModels : Int32) (fItems : Int32) (fEnded : Int32) (fLow : Int64) (fRange : Int64) (fCache : Int32) (fPend : Int32) (fOuts : Int32) (fIns : Int32) (fReads : Int32) (fBad : Int32) (fIR : Int32) (fAsk : Int32) (fBAsk : Int32) (fCode : Int64) (fRL : Int64) (fRR : Int64) (fX : Int64) (fWrites : Int32) (fThrown : Int32) (vGoing : Nat → Int32) (bs : List Nat) (v : Nat) (hG : gIs vGoing bs) (hl9 : bs.length < 9000) (hv : v < 2 ^ 31) : MetV l y_M_write (Cond.code y_M_write prog_14_method_17_code 2 none :: gw) ({ frames := 0, cells := 0, slots := 0, locals := 0 } : Room) (dC, dI) vwCl (kT cI cM cO) [Value.ref o, Value.int (nI v)] [(o, Sum.inr (9, mO g fForm fShift fModels fItems fEnded fLow fRange fCache fPend (nI bs.length) fOuts fIns fReads fBad fIR fAsk fBAsk fCode fRL fRR fX fWrites fThrown)), ((g 6), Sum.inl (cI, 9000, Sum.inl vGoing))] sz (fun (u : (Nat → Int32)) => gIs u (bs ++ [v % 256])) (fun (u : (Nat → Int32)) => [(o, Sum.inr (9, mO g fForm fShift fModels fItems fEnded fLow fRange fCache fPend (nI (bs ++ [v % 256]).length) fOuts fIns fReads fBad fIR fAsk fBAsk fCode fRL fRR fX fWrites fThrown)), ((g 6), Sum.inl (cI, 9000, Sum.inl u))]) 0 0 := by
  refine my_ofV (cc := prog_14_method_17_code) (n := 2) (ret := none) (by decide) rfl (Nat.le_of_ble_eq_true rfl) ?_
  intro p e s m args below meth c R Q A ls H locs hx hb hr hts hown hlocks hml hnm hR hQ hA hl hP hK hN hD hS
  have hg : ∀ w ∈ gw, w.before args s = true := fun w h => hts w (List.mem_cons_of_mem _ h)
  have hown : s.vm.findClass "RangeCodersModel" = some m.cls := hown
  have hl : lv_has ls 2 [(0, Value.ref o), (1, Value.int (nI v))] := hl
  refine lv_aload_n hx hb d_M_write_0 rfl (lv_at hl 0 rfl) ?_
  refine va_get (D := (dC, dI)) (ci := 9) (v := .ref (g 6)) (C := "RangeCodersModel") (T := T_M) (N := 35) hx hb hg in_M hown hK hP 0 rfl rfl 15 (by decide) (hg _ k967) (fun _ h9 => h9) rfl d_M_write_1 ?_
  refine lv_aload_n hx hb d_M_write_4 rfl (lv_at hl 0 rfl) ?_
  refine va_get (D := (dC, dI)) (ci := 9) (v := .int (nI bs.length)) (C := "RangeCodersModel") (T := T_M) (N := 35) hx hb hg in_M hown hK hP 0 rfl rfl 16 (by decide) (hg _ k968) (fun _ h9 => h9) rfl d_M_write_5 ?_
  refine lv_iload_n hx hb d_M_write_8 rfl (lv_at hl 1 rfl) ?_
  refine lv_sipush (v := 255) hx hb d_M_write_9 (by decide) ?_
  refine lv_iand hx hb d_M_write_12 ?_
  refine lv_topi (fun v_1 ev_1 => ?_)
  have hval : v_1 = nI (v % 256) := by subst_vars; exact pk_andN (by omega) 8 (by decide +kernel)
  refine va_iast hx hb hK hP hD hS 1 0 rfl rfl (vp_in_nI hl9 (by decide)) d_M_write_13 (fun H locs hP hD hS => ?_)
  have hPD : my_PD (dC, dI) vwCl A [(o, Sum.inr (9, mO g fForm fShift fModels fItems fEnded fLow fRange fCache fPend (nI bs.length) fOuts fIns fReads fBad fIR fAsk fBAsk fCode fRL fRR fX fWrites fThrown)), ((g 6), Sum.inl (cI, 9000, Sum.inl (upd vGoing (nI bs.length).toNatClampNeg v_1)))] H := ⟨hP, hD⟩
  have hP := hPD.1
  have hD := hPD.2
  refine lv_aload_n hx hb d_M_write_14 rfl (lv_at hl 0 rfl) ?_
  refine lv_dup hx hb d_M_write_15 rfl ?_
  refine va_get (D := (dC, dI)) (ci := 9) (v := .int (nI bs.length)) (C := "RangeCodersModel") (T := T_M) (N := 35) hx hb hg in_M hown hK hP 0 rfl rfl 16 (by decide) (hg _ k968) (fun _ h9 => h9) rfl d_M_write_16 ?_
  refine lv_iconst (v := 1) hx hb d_M_write_19 (by decide) ?_
  refine lv_iadd hx hb d_M_write_20 ?_
  refine lv_topi (fun v_2 ev_2 => ?_)
  have z9 : v_2 = nI (bs ++ [v % 256]).length := by subst_vars; rw [List.length_append]; exact nI_1 _
  subst z9
  refine va_put (D := (dC, dI)) (ci := 9) (v := .int (nI (bs ++ [v % 256]).length)) (ty := .int) (C := "RangeCodersModel") (T := T_M) (N := 35) hx hb hg in_M t_M o_M n_M hown hK hP hD hS 0 rfl rfl 16 (by decide) (hg _ k968) (fun _ h9 => h9) rfl (by decide +kernel) rfl rfl (Nat.le_of_ble_eq_true rfl) d_M_write_21 (fun H locs hP hD hS => ?_)
  have hPD : my_PD (dC, dI) vwCl A [(o, Sum.inr (9, mO g fForm fShift fModels fItems fEnded fLow fRange fCache fPend (nI (bs ++ [v % 256]).length) fOuts fIns fReads fBad fIR fAsk fBAsk fCode fRL fRR fX fWrites fThrown)), ((g 6), Sum.inl (cI, 9000, Sum.inl (upd vGoing (nI bs.length).toNatClampNeg v_1)))] H := ⟨hP, hD⟩
  have hP := hPD.1
  have hD := hPD.2
  exact my_vret hx hb hr hlocks hQ hK hS (Nat.le_refl _) (Nat.le_refl _) (upd vGoing (nI bs.length).toNatClampNeg v_1) (gIs_up hG (nI_clamp (by omega)) hval) (hP.sub [0, 1] rfl) (hD.sub [0, 1] (by decide +kernel) rfl) d_M_write_24
set_option maxHeartbeats 1000000 in
set_option maxRecDepth 100000 in
/-- shifted -/
theorem c_M_shifted (l : Launch) (dC : Nat → ClassId) (dI : Nat → Nat → Nat) (cI cM cO : ClassId) (sz : Nat) (o : Nat) (g : Nat → Nat) (fForm : Int32) (fShift : Int32) (fModels : Int32) (fItems : Int32) (fEnded : Int32) (fOuts : Int32) (fIns : Int32) (fReads : Int32) (fBad : Int32) (fIR : Int32) (fAsk : Int32) (fBAsk : Int32) (fCode : Int64) (fRL : Int64) (fRR : Int64) (fX : Int64) (fWrites : Int32) (fThrown : Int32) (vGoing : Nat → Int32) (Rg : Nat) (L : Nat) (ca : Option Nat) (Pn : Nat) (bs : List Nat) (hL : L < 8589934592) (hc : ∀ x, ca = some x → x < 256) (hG : gIs vGoing bs) (hN9 : bs.length + Pn + 1 ≤ 9000) : MetV l y_M_shifted (Cond.code y_M_shifted prog_14_method_18_code 2 none :: gw) ({ frames := 1, cells := 0, slots := 0, locals := 21 } : Room) (dC, dI) vwCl (kT cI cM cO) [Value.ref o] [(o, Sum.inr (9, mO g fForm fShift fModels fItems fEnded (lN L) (lN Rg) (caI ca) (nI Pn) (nI bs.length) fOuts fIns fReads fBad fIR fAsk fBAsk fCode fRL fRR fX fWrites fThrown)), ((g 6), Sum.inl (cI, 9000, Sum.inl vGoing))] sz (fun (u : (Nat → Int32)) => gIs u (shB L ca Pn bs)) (fun (u : (Nat → Int32)) => [(o, Sum.inr (9, mO g fForm fShift fModels fItems fEnded (lN (shL L)) (lN Rg) (caI (shC L ca)) (nI (shP L Pn)) (nI (shB L ca Pn bs).length) fOuts fIns fReads fBad fIR fAsk fBAsk fCode fRL fRR fX fWrites fThrown)), ((g 6), Sum.inl (cI, 9000, Sum.inl u))]) 0 0 := by
  refine my_ofV (cc := prog_14_method_18_code) (n := 2) (ret := none) (by decide) rfl (Nat.le_of_ble_eq_true rfl) ?_
  intro p e s m args below meth c R Q A ls H locs hx hb hr hts hown hlocks hml hnm hR hQ hA hl hP hK hN hD hS
  have hg : ∀ w ∈ gw, w.before args s = true := fun w h => hts w (List.mem_cons_of_mem _ h)
  have hown : s.vm.findClass "RangeCodersModel" = some m.cls := hown
  have hl : lv_has ls 2 [(0, Value.ref o)] := hl
  have J_107 : ∀ (cE : Int32) (pE : Int32) (bE : List Nat) (vE : Nat → Int32) (hcE : cE = caI (shC L ca)) (hpE : pE = nI (shP L Pn)) (hbE : bE = shB L ca Pn bs) (hgE : gIs vE bE) (H : Heap) (locs : List Loc) (ls : Array Slot), va_P (dC, dI) vwCl [(o, Sum.inr (9, mO g fForm fShift fModels fItems fEnded (lN L) (lN Rg) cE pE (nI bE.length) fOuts fIns fReads fBad fIR fAsk fBAsk fCode fRL fRR fX fWrites fThrown)), ((g 6), Sum.inl (cI, 9000, Sum.inl vE))] H → va_D A [(o, Sum.inr (9, mO g fForm fShift fModels fItems fEnded (lN L) (lN Rg) cE pE (nI bE.length) fOuts fIns fReads fBad fIR fAsk fBAsk fCode fRL fRR fX fWrites fThrown)), ((g 6), Sum.inl (cI, 9000, Sum.inl vE))] → va_S A s.heap H locs → lv_has ls 2 [(0, Value.ref o)] → W p l e R s m args below meth c H locs 0 0 Q (F0 m 107 ls []) := by
    intro cE pE bE vE hcE hpE hbE hgE H locs ls hP hD hS hl
    refine lv_aload_n hx hb d_M_shifted_107 rfl (lv_at hl 0 rfl) ?_
    refine lv_aload_n hx hb d_M_shifted_108 rfl (lv_at hl 0 rfl) ?_
    refine va_get (D := (dC, dI)) (ci := 9) (v := .long (lN L)) (C := "RangeCodersModel") (T := T_M) (N := 35) hx hb hg in_M hown hK hP 0 rfl rfl 11 (by decide) (hg _ k963) (fun _ h9 => h9) rfl d_M_shifted_109 ?_
    refine lv_ldc2 (v := 16777215) hx hb hown (hg _ k1112) d_M_shifted_112 ?_
    refine lv_land hx hb d_M_shifted_115 ?_
    refine lv_topl (fun v_1 ev_1 => ?_)
    refine lv_bipush (v := 8) hx hb d_M_shifted_116 (by decide) ?_
    refine lv_lshl hx hb d_M_shifted_118 rfl ?_
    refine lv_topl (fun v_2 ev_2 => ?_)
    have z9 : v_2 = lN (shL L) := by subst_vars; rw [L_and24 (by omega), L_shl8]; rfl
    subst z9
    refine va_put (D := (dC, dI)) (ci := 9) (v := .long (lN (shL L))) (ty := .long) (C := "RangeCodersModel") (T := T_M) (N := 35) hx hb hg in_M t_M o_M n_M hown hK hP hD hS 0 rfl rfl 11 (by decide) (hg _ k963) (fun _ h9 => h9) rfl (by decide +kernel) rfl rfl (Nat.le_of_ble_eq_true rfl) d_M_shifted_119 (fun H locs hP hD hS => ?_)
    have hPD : my_PD (dC, dI) vwCl A [(o, Sum.inr (9, mO g fForm fShift fModels fItems fEnded (lN (shL L)) (lN Rg) cE pE (nI bE.length) fOuts fIns fReads fBad fIR fAsk fBAsk fCode fRL fRR fX fWrites fThrown)), ((g 6), Sum.inl (cI, 9000, Sum.inl vE))] H := ⟨hP, hD⟩
    have hP := hPD.1
    have hD := hPD.2
    subst hcE
    subst hpE
    subst hbE
    exact my_vret hx hb hr hlocks hQ hK hS (Nat.le_refl _) (Nat.le_refl _) vE (hgE) (hP.sub [0, 1] rfl) (hD.sub [0, 1] (by decide +kernel) rfl) d_M_shifted_122
  have J_22 : ∀ (hO : shO L) (H : Heap) (locs : List Loc) (ls : Array Slot), va_P (dC, dI) vwCl [(o, Sum.inr (9, mO g fForm fShift fModels fItems fEnded (lN L) (lN Rg) (caI ca) (nI Pn) (nI bs.length) fOuts fIns fReads fBad fIR fAsk fBAsk fCode fRL fRR fX fWrites fThrown)), ((g 6), Sum.inl (cI, 9000, Sum.inl vGoing))] H → va_D A [(o, Sum.inr (9, mO g fForm fShift fModels fItems fEnded (lN L) (lN Rg) (caI ca) (nI Pn) (nI bs.length) fOuts fIns fReads fBad fIR fAsk fBAsk fCode fRL fRR fX fWrites fThrown)), ((g 6), Sum.inl (cI, 9000, Sum.inl vGoing))] → va_S A s.heap H locs → lv_has ls 2 [(0, Value.ref o)] → W p l e R s m args below meth c H locs 0 0 Q (F0 m 22 ls []) := by
    intro hO H locs ls hP hD hS hl
    refine lv_aload_n hx hb d_M_shifted_22 rfl (lv_at hl 0 rfl) ?_
    refine va_get (D := (dC, dI)) (ci := 9) (v := .long (lN L)) (C := "RangeCodersModel") (T := T_M) (N := 35) hx hb hg in_M hown hK hP 0 rfl rfl 11 (by decide) (hg _ k963) (fun _ h9 => h9) rfl d_M_shifted_23 ?_
    refine lv_bipush (v := 32) hx hb d_M_shifted_26 (by decide) ?_
    refine lv_lshr hx hb d_M_shifted_28 rfl ?_
    refine lv_topl (fun v_3 ev_3 => ?_)
    refine lv_l2i hx hb d_M_shifted_29 rfl ?_
    refine lv_topi (fun v_4 ev_4 => ?_)
    have z9 : v_4 = nI (L / 4294967296) := by subst_vars; rw [L_shr32 (by omega)]; exact lN_i _
    subst z9
    refine lv_istore_n (lv' := [(1, Value.int (nI (L / 4294967296))), (0, Value.ref o)]) hx hb d_M_shifted_30 rfl hl (by decide) rfl (fun ls hl => ?_)
    have J_49 : ∀ (n9_49 : Nat) (P9 : Nat) (b9 : List Nat) (vK : Nat → Int32) (hn9_49 : P9 = n9_49) (h9 : b9 ++ List.replicate P9 ((255 + L / 4294967296) % 256) = shB L ca Pn bs) (hg9 : gIs vK b9) (hl9 : b9.length + P9 ≤ 9000) (H : Heap) (locs : List Loc) (ls : Array Slot), va_P (dC, dI) vwCl [(o, Sum.inr (9, mO g fForm fShift fModels fItems fEnded (lN L) (lN Rg) (caI ca) (nI P9) (nI b9.length) fOuts fIns fReads fBad fIR fAsk fBAsk fCode fRL fRR fX fWrites fThrown)), ((g 6), Sum.inl (cI, 9000, Sum.inl vK))] H → va_D A [(o, Sum.inr (9, mO g fForm fShift fModels fItems fEnded (lN L) (lN Rg) (caI ca) (nI P9) (nI b9.length) fOuts fIns fReads fBad fIR fAsk fBAsk fCode fRL fRR fX fWrites fThrown)), ((g 6), Sum.inl (cI, 9000, Sum.inl vK))] → va_S A s.heap H locs → lv_has ls 2 [(1, Value.int (nI (L / 4294967296))), (0, Value.ref o)] → W p l e R s m args below meth c H locs 0 0 Q (F0 m 49 ls []) := by
      intro n9_49
      induction n9_49 using Nat.strongRecOn with
      | ind n9_49 ih9_49 =>
        intro P9 b9 vK hn9_49 h9 hg9 hl9 H locs ls hP hD hS hl
        refine lv_aload_n hx hb d_M_shifted_49 rfl (lv_at hl 1 rfl) ?_
        refine va_get (D := (dC, dI)) (ci := 9) (v := .int (nI P9)) (C := "RangeCodersModel") (T := T_M) (N := 35) hx hb hg in_M hown hK hP 0 rfl rfl 14 (by decide) (hg _ k966) (fun _ h9 => h9) rfl d_M_shifted_50 ?_
        refine lv_if_le (tgt := 78) hx hb d_M_shifted_53 (by decide) (fun c_5 => ?_) (fun c_5 => ?_)
        · have hP0 : P9 = 0 := by
            rcases Nat.eq_zero_or_pos P9 with q | q
            · exact q
            · exact absurd c_5 (nI_nle q (by omega))
          have hB0 : b9 = shB L ca Pn bs := by rw [← h9, hP0]; simp
          refine lv_aload_n hx hb d_M_shifted_78 rfl (lv_at hl 1 rfl) ?_
          refine lv_aload_n hx hb d_M_shifted_79 rfl (lv_at hl 1 rfl) ?_
          refine va_get (D := (dC, dI)) (ci := 9) (v := .long (lN L)) (C := "RangeCodersModel") (T := T_M) (N := 35) hx hb hg in_M hown hK hP 0 rfl rfl 11 (by decide) (hg _ k963) (fun _ h9 => h9) rfl d_M_shifted_80 ?_
          refine lv_bipush (v := 24) hx hb d_M_shifted_83 (by decide) ?_
          refine lv_lshr hx hb d_M_shifted_85 rfl ?_
          refine lv_topl (fun v_6 ev_6 => ?_)
          refine lv_ldc2 (v := 255) hx hb hown (hg _ k1111) d_M_shifted_86 ?_
          refine lv_land hx hb d_M_shifted_89 ?_
          refine lv_topl (fun v_7 ev_7 => ?_)
          refine lv_l2i hx hb d_M_shifted_90 rfl ?_
          refine lv_topi (fun v_8 ev_8 => ?_)
          have hcv : v_8 = nI (L / 16777216 % 256) := by subst_vars; rw [L_shr24 (by omega), L_and8 (by omega)]; exact lN_i _
          refine va_put (D := (dC, dI)) (ci := 9) (v := .int v_8) (ty := .int) (C := "RangeCodersModel") (T := T_M) (N := 35) hx hb hg in_M t_M o_M n_M hown hK hP hD hS 0 rfl rfl 13 (by decide) (hg _ k965) (fun _ h9 => h9) rfl (by decide +kernel) rfl rfl (Nat.le_of_ble_eq_true rfl) d_M_shifted_91 (fun H locs hP hD hS => ?_)
          have hPD : my_PD (dC, dI) vwCl A [(o, Sum.inr (9, mO g fForm fShift fModels fItems fEnded (lN L) (lN Rg) v_8 (nI P9) (nI b9.length) fOuts fIns fReads fBad fIR fAsk fBAsk fCode fRL fRR fX fWrites fThrown)), ((g 6), Sum.inl (cI, 9000, Sum.inl vK))] H := ⟨hP, hD⟩
          have hP := hPD.1
          have hD := hPD.2
          refine lv_goto (tgt := 107) hx hb d_M_shifted_94 (by decide) ?_
          exact J_107 v_8 (nI P9) b9 vK (by unfold shC; rw [if_pos hO]; exact hcv) (by unfold shP; rw [if_pos hO, hP0]) (hB0) (hg9) H locs ls (hP.sub [0, 1] rfl) (hD.sub [0, 1] (by decide +kernel) rfl) hS (lv_sub hl [1] rfl)
        · have hp1 : 0 < P9 := by
            rcases Nat.eq_zero_or_pos P9 with q | q
            · exact absurd (by rw [q]; exact Int32.le_refl _) c_5
            · exact q
          refine lv_aload_n hx hb d_M_shifted_56 rfl (lv_at hl 1 rfl) ?_
          refine lv_sipush (v := 255) hx hb d_M_shifted_57 (by decide) ?_
          refine lv_iload_n hx hb d_M_shifted_60 rfl (lv_at hl 0 rfl) ?_
          refine lv_iadd hx hb d_M_shifted_61 ?_
          refine lv_topi (fun v_9 ev_9 => ?_)
          have z9 : v_9 = nI (255 + L / 4294967296) := by subst_vars; exact nI_add 255 _
          subst z9
          refine my_cv (wr := []) (va_runV (As := [Value.int (nI (255 + L / 4294967296))]) (rest := []) ⟨hx, hb, hml, hown, hts⟩ (c_M_write l dC dI cI cM cO H.size o g fForm fShift fModels fItems fEnded (lN L) (lN Rg) (caI ca) (nI P9) fOuts fIns fReads fBad fIR fAsk fBAsk fCode fRL fRR fX fWrites fThrown vK b9 (255 + L / 4294967296) (hg9) (by omega) (by omega)) (cwV 1 hts (my_gV k1107 k1109 ks32 k12 k1110) rfl rfl rfl (by decide +kernel) ⟨by rw [hR]; exact Nat.le_of_ble_eq_true rfl, by rw [hR]; exact Nat.le_of_ble_eq_true rfl⟩) (my_preV hK hN (hP.sub [0, 1] rfl) (hD.sub [0, 1] (by decide +kernel) rfl) 0 rfl rfl) rfl rfl hl.1 rfl (lv_room (Nat.le_of_ble_eq_true rfl)) d_M_shifted_62 ⟨by rw [hR]; exact Nat.le_of_ble_eq_true rfl, by rw [hR]; exact Nat.le_of_ble_eq_true rfl⟩) hP hD hS hA [0, 1] [] rfl rfl (by decide +kernel) (by decide +kernel) (fun u9 H locs hw_62 hP hD hS => ?_)
          obtain ⟨v2_62, rfl⟩ : ∃ z, z = u9 := ⟨_, rfl⟩
          have hw_62 : gIs v2_62 (b9 ++ [(255 + L / 4294967296) % 256]) := hw_62
          have hPD : my_PD (dC, dI) vwCl A [(o, Sum.inr (9, mO g fForm fShift fModels fItems fEnded (lN L) (lN Rg) (caI ca) (nI P9) (nI (b9 ++ [(255 + L / 4294967296) % 256]).length) fOuts fIns fReads fBad fIR fAsk fBAsk fCode fRL fRR fX fWrites fThrown)), ((g 6), Sum.inl (cI, 9000, Sum.inl v2_62))] H := ⟨hP, hD⟩
          have hP := hPD.1
          have hD := hPD.2
          refine lv_aload_n hx hb d_M_shifted_65 rfl (lv_at hl 1 rfl) ?_
          refine lv_dup hx hb d_M_shifted_66 rfl ?_
          refine va_get (D := (dC, dI)) (ci := 9) (v := .int (nI P9)) (C := "RangeCodersModel") (T := T_M) (N := 35) hx hb hg in_M hown hK hP 0 rfl rfl 14 (by decide) (hg _ k966) (fun _ h9 => h9) rfl d_M_shifted_67 ?_
          refine lv_iconst (v := 1) hx hb d_M_shifted_70 (by decide) ?_
          refine lv_isub hx hb d_M_shifted_71 ?_
          refine lv_topi (fun v_10 ev_10 => ?_)
          have z9 : v_10 = nI (P9 - 1) := by subst_vars; exact pk_sub (b := 1) hp1
          subst z9
          refine va_put (D := (dC, dI)) (ci := 9) (v := .int (nI (P9 - 1))) (ty := .int) (C := "RangeCodersModel") (T := T_M) (N := 35) hx hb hg in_M t_M o_M n_M hown hK hP hD hS 0 rfl rfl 14 (by decide) (hg _ k966) (fun _ h9 => h9) rfl (by decide +kernel) rfl rfl (Nat.le_of_ble_eq_true rfl) d_M_shifted_72 (fun H locs hP hD hS => ?_)
          have hPD : my_PD (dC, dI) vwCl A [(o, Sum.inr (9, mO g fForm fShift fModels fItems fEnded (lN L) (lN Rg) (caI ca) (nI (P9 - 1)) (nI (b9 ++ [(255 + L / 4294967296) % 256]).length) fOuts fIns fReads fBad fIR fAsk fBAsk fCode fRL fRR fX fWrites fThrown)), ((g 6), Sum.inl (cI, 9000, Sum.inl v2_62))] H := ⟨hP, hD⟩
          have hP := hPD.1
          have hD := hPD.2
          refine lv_goto (tgt := 49) hx hb d_M_shifted_75 (by decide) ?_
          exact ih9_49 _ (by first | omega | (omega)) (P9 - 1) (b9 ++ [(255 + L / 4294967296) % 256]) v2_62 rfl (by rw [← h9]; rw [List.append_assoc]; congr 1; obtain ⟨q, hq⟩ : ∃ q, P9 = q + 1 := ⟨P9 - 1, by omega⟩; subst hq; simp [List.replicate_succ]) (hw_62) (by rw [List.length_append, List.length_singleton]; omega) H locs ls (hP.sub [0, 1] rfl) (hD.sub [0, 1] (by decide +kernel) rfl) hS (lv_sub hl [0, 1] rfl)
    refine lv_aload_n hx hb d_M_shifted_31 rfl (lv_at hl 1 rfl) ?_
    refine va_get (D := (dC, dI)) (ci := 9) (v := .int (caI ca)) (C := "RangeCodersModel") (T := T_M) (N := 35) hx hb hg in_M hown hK hP 0 rfl rfl 13 (by decide) (hg _ k965) (fun _ h9 => h9) rfl d_M_shifted_32 ?_
    refine lv_iconst (v := (-1)) hx hb d_M_shifted_35 (by decide) ?_
    refine lv_icmp_eq (tgt := 49) hx hb d_M_shifted_36 (by decide) (fun c_11 => ?_) (fun c_11 => ?_)
    · have hcn : ca = none := (caI_ne hc).mp c_11
      exact J_49 _ Pn bs vGoing rfl (by unfold shB; rw [if_pos hO, hcn]; simp [caB]) (hG) (by omega) H locs ls (hP.sub [0, 1] rfl) (hD.sub [0, 1] (by decide +kernel) rfl) hS (lv_sub hl [0, 1] rfl)
    · obtain ⟨c0, hc0⟩ : ∃ x, ca = some x := by
        cases hca : ca with
        | none => exact absurd ((caI_ne hc).mpr hca) c_11
        | some x => exact ⟨x, rfl⟩
      have hc256 := hc c0 hc0
      have hcI : caI ca = nI c0 := by rw [hc0]; rfl
      refine lv_aload_n hx hb d_M_shifted_39 rfl (lv_at hl 1 rfl) ?_
      refine lv_aload_n hx hb d_M_shifted_40 rfl (lv_at hl 1 rfl) ?_
      refine va_get (D := (dC, dI)) (ci := 9) (v := .int (caI ca)) (C := "RangeCodersModel") (T := T_M) (N := 35) hx hb hg in_M hown hK hP 0 rfl rfl 13 (by decide) (hg _ k965) (fun _ h9 => h9) rfl d_M_shifted_41 ?_
      refine lv_iload_n hx hb d_M_shifted_44 rfl (lv_at hl 0 rfl) ?_
      refine lv_iadd hx hb d_M_shifted_45 ?_
      refine lv_topi (fun v_12 ev_12 => ?_)
      have z9 : v_12 = nI (c0 + L / 4294967296) := by subst_vars; rw [hcI]; exact nI_add _ _
      subst z9
      refine my_cv (wr := []) (va_runV (As := [Value.int (nI (c0 + L / 4294967296))]) (rest := []) ⟨hx, hb, hml, hown, hts⟩ (c_M_write l dC dI cI cM cO H.size o g fForm fShift fModels fItems fEnded (lN L) (lN Rg) (caI ca) (nI Pn) fOuts fIns fReads fBad fIR fAsk fBAsk fCode fRL fRR fX fWrites fThrown vGoing bs (c0 + L / 4294967296) (hG) (by omega) (by omega)) (cwV 1 hts (my_gV k1107 k1109 ks32 k12 k1110) rfl rfl rfl (by decide +kernel) ⟨by rw [hR]; exact Nat.le_of_ble_eq_true rfl, by rw [hR]; exact Nat.le_of_ble_eq_true rfl⟩) (my_preV hK hN (hP.sub [0, 1] rfl) (hD.sub [0, 1] (by decide +kernel) rfl) 0 rfl rfl) rfl rfl hl.1 rfl (lv_room (Nat.le_of_ble_eq_true rfl)) d_M_shifted_46 ⟨by rw [hR]; exact Nat.le_of_ble_eq_true rfl, by rw [hR]; exact Nat.le_of_ble_eq_true rfl⟩) hP hD hS hA [0, 1] [] rfl rfl (by decide +kernel) (by decide +kernel) (fun u9 H locs hw_46 hP hD hS => ?_)
      obtain ⟨v2_46, rfl⟩ : ∃ z, z = u9 := ⟨_, rfl⟩
      have hw_46 : gIs v2_46 (bs ++ [(c0 + L / 4294967296) % 256]) := hw_46
      have hPD : my_PD (dC, dI) vwCl A [(o, Sum.inr (9, mO g fForm fShift fModels fItems fEnded (lN L) (lN Rg) (caI ca) (nI Pn) (nI (bs ++ [(c0 + L / 4294967296) % 256]).length) fOuts fIns fReads fBad fIR fAsk fBAsk fCode fRL fRR fX fWrites fThrown)), ((g 6), Sum.inl (cI, 9000, Sum.inl v2_46))] H := ⟨hP, hD⟩
      have hP := hPD.1
      have hD := hPD.2
      exact J_49 _ Pn (bs ++ [(c0 + L / 4294967296) % 256]) v2_46 rfl (by unfold shB; rw [if_pos hO, hc0]; simp [caB]) (hw_46) (by rw [List.length_append, List.length_singleton]; omega) H locs ls (hP.sub [0, 1] rfl) (hD.sub [0, 1] (by decide +kernel) rfl) hS (lv_sub hl [0, 1] rfl)
  refine lv_aload_n hx hb d_M_shifted_0 rfl (lv_at hl 0 rfl) ?_
  refine va_get (D := (dC, dI)) (ci := 9) (v := .long (lN L)) (C := "RangeCodersModel") (T := T_M) (N := 35) hx hb hg in_M hown hK hP 0 rfl rfl 11 (by decide) (hg _ k963) (fun _ h9 => h9) rfl d_M_shifted_1 ?_
  refine lv_ldc2 (v := 4278190080) hx hb hown (hg _ k1106) d_M_shifted_4 ?_
  refine W.lcmp hx hb d_M_shifted_7 ?_
  refine lv_if_lt (tgt := 22) hx hb d_M_shifted_8 (by decide) (fun c_13 => ?_) (fun c_13 => ?_)
  · rw [lg_cmp_lt] at c_13
    exact J_22  (Or.inl ((L_lt (b := 4278190080) (by omega) (by decide)).mp c_13)) H locs ls (hP.sub [0, 1] rfl) (hD.sub [0, 1] (by decide +kernel) rfl) hS (lv_sub hl [0] rfl)
  · rw [lg_cmp_lt] at c_13
    refine lv_aload_n hx hb d_M_shifted_11 rfl (lv_at hl 0 rfl) ?_
    refine va_get (D := (dC, dI)) (ci := 9) (v := .long (lN L)) (C := "RangeCodersModel") (T := T_M) (N := 35) hx hb hg in_M hown hK hP 0 rfl rfl 11 (by decide) (hg _ k963) (fun _ h9 => h9) rfl d_M_shifted_12 ?_
    refine lv_ldc2 (v := 4294967295) hx hb hown (hg _ k927) d_M_shifted_15 ?_
    refine W.lcmp hx hb d_M_shifted_18 ?_
    refine lv_if_le (tgt := 97) hx hb d_M_shifted_19 (by decide) (fun c_14 => ?_) (fun c_14 => ?_)
    · rw [lg_cmp_le] at c_14
      have hO : ¬ shO L := fun q => q.elim (fun q => absurd ((L_lt (b := 4278190080) (by omega) (by decide)).mpr q) c_13) (fun q => absurd ((L_le (b := 4294967295) (by omega) (by decide)).mp c_14) (by omega))
      refine lv_aload_n hx hb d_M_shifted_97 rfl (lv_at hl 0 rfl) ?_
      refine lv_dup hx hb d_M_shifted_98 rfl ?_
      refine va_get (D := (dC, dI)) (ci := 9) (v := .int (nI Pn)) (C := "RangeCodersModel") (T := T_M) (N := 35) hx hb hg in_M hown hK hP 0 rfl rfl 14 (by decide) (hg _ k966) (fun _ h9 => h9) rfl d_M_shifted_99 ?_
      refine lv_iconst (v := 1) hx hb d_M_shifted_102 (by decide) ?_
      refine lv_iadd hx hb d_M_shifted_103 ?_
      refine lv_topi (fun v_15 ev_15 => ?_)
      refine va_put (D := (dC, dI)) (ci := 9) (v := .int v_15) (ty := .int) (C := "RangeCodersModel") (T := T_M) (N := 35) hx hb hg in_M t_M o_M n_M hown hK hP hD hS 0 rfl rfl 14 (by decide) (hg _ k966) (fun _ h9 => h9) rfl (by decide +kernel) rfl rfl (Nat.le_of_ble_eq_true rfl) d_M_shifted_104 (fun H locs hP hD hS => ?_)
      have hPD : my_PD (dC, dI) vwCl A [(o, Sum.inr (9, mO g fForm fShift fModels fItems fEnded (lN L) (lN Rg) (caI ca) v_15 (nI bs.length) fOuts fIns fReads fBad fIR fAsk fBAsk fCode fRL fRR fX fWrites fThrown)), ((g 6), Sum.inl (cI, 9000, Sum.inl vGoing))] H := ⟨hP, hD⟩
      have hP := hPD.1
      have hD := hPD.2
      exact J_107 (caI ca) v_15 bs vGoing (by unfold shC; rw [if_neg hO]) (by unfold shP; rw [if_neg hO]; subst_vars; exact nI_1 _) (by unfold shB; rw [if_neg hO]) (hG) H locs ls (hP.sub [0, 1] rfl) (hD.sub [0, 1] (by decide +kernel) rfl) hS (lv_sub hl [0] rfl)
    · rw [lg_cmp_le] at c_14
      exact J_22  (Or.inr ((Nat.lt_or_ge L 4294967296).elim (fun q => absurd ((L_le (b := 4294967295) (by omega) (by decide)).mpr (by omega)) c_14) id)) H locs ls (hP.sub [0, 1] rfl) (hD.sub [0, 1] (by decide +kernel) rfl) hS (lv_sub hl [0] rfl)
end
section
set_option maxHeartbeats 1000000 in
set_option maxRecDepth 100000 in
/-- widen -/
theorem c_M_widen (l : Launch) (dC : Nat → ClassId) (dI : Nat → Nat → Nat) (cI cM cO : ClassId) (sz : Nat) (o : Nat) (g : Nat → Nat) (fForm : Int32) (fShift : Int32) (fModels : Int32) (fItems : Int32) (fEnded : Int32) (fOuts : Int32) (fIns : Int32) (fReads : Int32) (fBad : Int32) (fIR : Int32) (fAsk : Int32) (fBAsk : Int32) (fCode : Int64) (fRL : Int64) (fRR : Int64) (fX : Int64) (fWrites : Int32) (fThrown : Int32) (vGoing : Nat → Int32) (Rg : Nat) (L : Nat) (ca : Option Nat) (Pn : Nat) (bs : List Nat) (hR0 : 0 < Rg) (hR1 : Rg < 4294967296) (hL : L < 8589934592) (hc : ∀ x, ca = some x → x < 256) (hG : gIs vGoing bs) (hN9 : bs.length + Pn + 4 ≤ 9000) : MetV l y_M_widen (Cond.code y_M_widen prog_14_method_19_code 1 none :: gw) ({ frames := 2, cells := 0, slots := 0, locals := 42 } : Room) (dC, dI) vwCl (kT cI cM cO) [Value.ref o] [(o, Sum.inr (9, mO g fForm fShift fModels fItems fEnded (lN L) (lN Rg) (caI ca) (nI Pn) (nI bs.length) fOuts fIns fReads fBad fIR fAsk fBAsk fCode fRL fRR fX fWrites fThrown)), ((g 6), Sum.inl (cI, 9000, Sum.inl vGoing))] sz (fun (u : (Nat → Int32)) => gIs u (eB (wdS (Rg, L, ca, Pn, bs)))) (fun (u : (Nat → Int32)) => [(o, Sum.inr (9, mO g fForm fShift fModels fItems fEnded (lN (eL (wdS (Rg, L, ca, Pn, bs)))) (lN (eR (wdS (Rg, L, ca, Pn, bs)))) (caI (eC (wdS (Rg, L, ca, Pn, bs)))) (nI (eP (wdS (Rg, L, ca, Pn, bs)))) (nI (eB (wdS (Rg, L, ca, Pn, bs))).length) fOuts fIns fReads fBad fIR fAsk fBAsk fCode fRL fRR fX fWrites fThrown)), ((g 6), Sum.inl (cI, 9000, Sum.inl u))]) 0 0 := by
  refine my_ofV (cc := prog_14_method_19_code) (n := 1) (ret := none) (by decide) rfl (Nat.le_of_ble_eq_true rfl) ?_
  intro p e s m args below meth c R Q A ls H locs hx hb hr hts hown hlocks hml hnm hR hQ hA hl hP hK hN hD hS
  have hg : ∀ w ∈ gw, w.before args s = true := fun w h => hts w (List.mem_cons_of_mem _ h)
  have hown : s.vm.findClass "RangeCodersModel" = some m.cls := hown
  have hl : lv_has ls 1 [(0, Value.ref o)] := hl
  have J_0 : ∀ (n9_0 : Nat) (e9 : ES) (vK : Nat → Int32) (k9 : Nat) (hn9_0 : k9 = n9_0) (hE9 : wdS (Rg, L, ca, Pn, bs) = wdN k9 e9) (hk5 : 5 ≤ k9) (hk8 : k9 ≤ 8) (hR9 : wb8 k9 ≤ eR e9) (hR32 : eR e9 < 4294967296) (hO9 : eOk e9) (hg9 : gIs vK (eB e9)) (hM9 : (eB e9).length + eP e9 + k9 ≤ 9004) (H : Heap) (locs : List Loc) (ls : Array Slot), va_P (dC, dI) vwCl [(o, Sum.inr (9, mO g fForm fShift fModels fItems fEnded (lN (eL e9)) (lN (eR e9)) (caI (eC e9)) (nI (eP e9)) (nI (eB e9).length) fOuts fIns fReads fBad fIR fAsk fBAsk fCode fRL fRR fX fWrites fThrown)), ((g 6), Sum.inl (cI, 9000, Sum.inl vK))] H → va_D A [(o, Sum.inr (9, mO g fForm fShift fModels fItems fEnded (lN (eL e9)) (lN (eR e9)) (caI (eC e9)) (nI (eP e9)) (nI (eB e9).length) fOuts fIns fReads fBad fIR fAsk fBAsk fCode fRL fRR fX fWrites fThrown)), ((g 6), Sum.inl (cI, 9000, Sum.inl vK))] → va_S A s.heap H locs → lv_has ls 1 [(0, Value.ref o)] → W p l e R s m args below meth c H locs 0 0 Q (F0 m 0 ls []) := by
    intro n9_0
    induction n9_0 using Nat.strongRecOn with
    | ind n9_0 ih9_0 =>
      intro e9 vK k9 hn9_0 hE9 hk5 hk8 hR9 hR32 hO9 hg9 hM9 H locs ls hP hD hS hl
      refine lv_aload_n hx hb d_M_widen_0 rfl (lv_at hl 0 rfl) ?_
      refine va_get (D := (dC, dI)) (ci := 9) (v := .long (lN (eR e9))) (C := "RangeCodersModel") (T := T_M) (N := 35) hx hb hg in_M hown hK hP 0 rfl rfl 12 (by decide) (hg _ k964) (fun _ h9 => h9) rfl d_M_widen_1 ?_
      refine lv_ldc2 (v := 16777216) hx hb hown (hg _ k1101) d_M_widen_4 ?_
      refine W.lcmp hx hb d_M_widen_7 ?_
      refine lv_if_ge (tgt := 29) hx hb d_M_widen_8 (by decide) (fun c_1 => ?_) (fun c_1 => ?_)
      · rw [lg_cmp_ge] at c_1
        have hge : ¬ eR e9 < 16777216 := by have q := (L_le (a := 16777216) (by decide) (by omega)).mp c_1; omega
        have z9 : e9 = wdS (Rg, L, ca, Pn, bs) := by rw [hE9, wdN_e hge]
        subst z9
        exact my_vret hx hb hr hlocks hQ hK hS (Nat.le_refl _) (Nat.le_refl _) vK (hg9) (hP.sub [0, 1] rfl) (hD.sub [0, 1] (by decide +kernel) rfl) d_M_widen_29
      · rw [lg_cmp_ge] at c_1
        have hlt : eR e9 < 16777216 := by
          rcases Nat.lt_or_ge (eR e9) 16777216 with q | q
          · exact q
          · exact absurd ((L_le (a := 16777216) (by decide) (by omega)).mpr q) c_1
        have hk6 := wb8_k hk5 hR9 hlt
        refine lv_aload_n hx hb d_M_widen_11 rfl (lv_at hl 0 rfl) ?_
        refine lv_aload_n hx hb d_M_widen_12 rfl (lv_at hl 0 rfl) ?_
        refine va_get (D := (dC, dI)) (ci := 9) (v := .long (lN (eR e9))) (C := "RangeCodersModel") (T := T_M) (N := 35) hx hb hg in_M hown hK hP 0 rfl rfl 12 (by decide) (hg _ k964) (fun _ h9 => h9) rfl d_M_widen_13 ?_
        refine lv_bipush (v := 8) hx hb d_M_widen_16 (by decide) ?_
        refine lv_lshl hx hb d_M_widen_18 rfl ?_
        refine lv_topl (fun v_2 ev_2 => ?_)
        have z9 : v_2 = lN (eR e9 * 256) := by subst_vars; exact L_shl8 _
        subst z9
        refine va_put (D := (dC, dI)) (ci := 9) (v := .long (lN (eR e9 * 256))) (ty := .long) (C := "RangeCodersModel") (T := T_M) (N := 35) hx hb hg in_M t_M o_M n_M hown hK hP hD hS 0 rfl rfl 12 (by decide) (hg _ k964) (fun _ h9 => h9) rfl (by decide +kernel) rfl rfl (Nat.le_of_ble_eq_true rfl) d_M_widen_19 (fun H locs hP hD hS => ?_)
        have hPD : my_PD (dC, dI) vwCl A [(o, Sum.inr (9, mO g fForm fShift fModels fItems fEnded (lN (eL e9)) (lN (eR e9 * 256)) (caI (eC e9)) (nI (eP e9)) (nI (eB e9).length) fOuts fIns fReads fBad fIR fAsk fBAsk fCode fRL fRR fX fWrites fThrown)), ((g 6), Sum.inl (cI, 9000, Sum.inl vK))] H := ⟨hP, hD⟩
        have hP := hPD.1
        have hD := hPD.2
        refine lv_aload_n hx hb d_M_widen_22 rfl (lv_at hl 0 rfl) ?_
        refine my_cv (wr := []) (va_runV (As := []) (rest := []) ⟨hx, hb, hml, hown, hts⟩ (c_M_shifted l dC dI cI cM cO H.size o g fForm fShift fModels fItems fEnded fOuts fIns fReads fBad fIR fAsk fBAsk fCode fRL fRR fX fWrites fThrown vK (eR e9 * 256) (eL e9) (eC e9) (eP e9) (eB e9) (hO9.1) (hO9.2) (hg9) (by omega)) (cwV 0 hts (my_gV k1102 k1104 ks31 k12 k1105) rfl rfl rfl (by decide +kernel) ⟨by rw [hR]; exact Nat.le_of_ble_eq_true rfl, by rw [hR]; exact Nat.le_of_ble_eq_true rfl⟩) (my_preV hK hN (hP.sub [0, 1] rfl) (hD.sub [0, 1] (by decide +kernel) rfl) 0 rfl rfl) rfl rfl hl.1 rfl (lv_room (Nat.le_of_ble_eq_true rfl)) d_M_widen_23 ⟨by rw [hR]; exact Nat.le_of_ble_eq_true rfl, by rw [hR]; exact Nat.le_of_ble_eq_true rfl⟩) hP hD hS hA [0, 1] [] rfl rfl (by decide +kernel) (by decide +kernel) (fun u9 H locs hw_23 hP hD hS => ?_)
        obtain ⟨v2_23, rfl⟩ : ∃ z, z = u9 := ⟨_, rfl⟩
        have hw_23 : gIs v2_23 (shB (eL e9) (eC e9) (eP e9) (eB e9)) := hw_23
        have hPD : my_PD (dC, dI) vwCl A [(o, Sum.inr (9, mO g fForm fShift fModels fItems fEnded (lN (shL (eL e9))) (lN (eR e9 * 256)) (caI (shC (eL e9) (eC e9))) (nI (shP (eL e9) (eP e9))) (nI (shB (eL e9) (eC e9) (eP e9) (eB e9)).length) fOuts fIns fReads fBad fIR fAsk fBAsk fCode fRL fRR fX fWrites fThrown)), ((g 6), Sum.inl (cI, 9000, Sum.inl v2_23))] H := ⟨hP, hD⟩
        have hP := hPD.1
        have hD := hPD.2
        refine lv_goto (tgt := 0) hx hb d_M_widen_26 (by decide) ?_
        exact ih9_0 _ (by first | omega | (omega)) (shS (eR e9 * 256, e9.2)) v2_23 (k9 - 1) rfl (by rw [hE9, wdN_s (by omega) hlt]) (by omega) (by omega) (wb8_s hk6 hk8 hR9) (by show eR e9 * 256 < _; omega) (eOk_sh (e := (eR e9 * 256, e9.2)) hO9) (hw_23) (by have q := eN_sh (eR e9 * 256, e9.2); simp only [eN, eB, eP] at q hM9 ⊢; omega) H locs ls (hP.sub [0, 1] rfl) (hD.sub [0, 1] (by decide +kernel) rfl) hS (lv_sub hl [0] rfl)
  exact J_0 _ (Rg, L, ca, Pn, bs) vGoing 8 rfl (rfl) (by decide) (by decide) (hR0) (hR1) (⟨hL, hc⟩) (hG) (by show bs.length + Pn + 8 ≤ _; omega) H locs ls (hP.sub [0, 1] rfl) (hD.sub [0, 1] (by decide +kernel) rfl) hS (lv_sub hl [0] rfl)
set_option maxHeartbeats 1000000 in
set_option maxRecDepth 100000 in
/-- moveChance -/
theorem c_M_moveChance (l : Launch) (dC : Nat → ClassId) (dI : Nat → Nat → Nat) (cI cM cO : ClassId) (sz : Nat) (o : Nat) (g : Nat → Nat) (fForm : Int32) (fShift : Int32) (fModels : Int32) (fItems : Int32) (fEnded : Int32) (fLow : Int64) (fRange : Int64) (fCache : Int32) (fPend : Int32) (fGoes : Int32) (fOuts : Int32) (fIns : Int32) (fReads : Int32) (fBad : Int32) (fIR : Int32) (fAsk : Int32) (fBAsk : Int32) (fCode : Int64) (fRL : Int64) (fRR : Int64) (fX : Int64) (fWrites : Int32) (fThrown : Int32) (a : Nat) (f : Nat → Int32) (i : Nat) (pp : Nat) (bt : Nat) (sh : Nat) (hi : i < 512) (hp : f i = nI pp) (hp2 : pp ≤ 2048) (hsh : sh ≤ 10) (hS9 : fShift = nI sh) (hbt : bt < 2) : MetV l y_M_moveChance (Cond.code y_M_moveChance prog_14_method_26_code 5 none :: gw) ({ frames := 0, cells := 0, slots := 0, locals := 0 } : Room) (dC, dI) vwCl (kT cI cM cO) [Value.ref o, Value.ref a, Value.int (nI i), Value.int (nI bt)] [(o, Sum.inr (9, mO g fForm fShift fModels fItems fEnded fLow fRange fCache fPend fGoes fOuts fIns fReads fBad fIR fAsk fBAsk fCode fRL fRR fX fWrites fThrown)), (a, Sum.inl (cI, 512, Sum.inl f))] sz (fun (u : (Nat → Int32)) => u = upd f i (nI (mvC sh bt pp))) (fun (u : (Nat → Int32)) => [(o, Sum.inr (9, mO g fForm fShift fModels fItems fEnded fLow fRange fCache fPend fGoes fOuts fIns fReads fBad fIR fAsk fBAsk fCode fRL fRR fX fWrites fThrown)), (a, Sum.inl (cI, 512, Sum.inl u))]) 0 0 := by
  refine my_ofV (cc := prog_14_method_26_code) (n := 5) (ret := none) (by decide) rfl (Nat.le_of_ble_eq_true rfl) ?_
  intro p e s m args below meth c R Q A ls H locs hx hb hr hts hown hlocks hml hnm hR hQ hA hl hP hK hN hD hS
  have hg : ∀ w ∈ gw, w.before args s = true := fun w h => hts w (List.mem_cons_of_mem _ h)
  have hown : s.vm.findClass "RangeCodersModel" = some m.cls := hown
  have hl : lv_has ls 5 [(0, Value.ref o), (1, Value.ref a), (2, Value.int (nI i)), (3, Value.int (nI bt))] := hl
  refine lv_aload_n hx hb d_M_moveChance_0 rfl (lv_at hl 1 rfl) ?_
  refine lv_iload_n hx hb d_M_moveChance_1 rfl (lv_at hl 2 rfl) ?_
  refine va_iald hx hb hK hP 1 0 rfl rfl (vp_in_nI hi (by decide)) d_M_moveChance_2 ?_
  refine lv_topi (fun v_1 ev_1 => ?_)
  have z9 : v_1 = nI pp := by subst_vars; rw [nI_clamp (by omega)]; exact hp
  subst z9
  have hpl : pp / 2 ^ sh ≤ pp := Nat.div_le_self _ _
  refine lv_istore (lv' := [(4, Value.int (nI pp)), (0, Value.ref o), (1, Value.ref a), (2, Value.int (nI i)), (3, Value.int (nI bt))]) hx hb d_M_moveChance_3 hl (by decide) rfl (fun ls hl => ?_)
  refine lv_aload_n hx hb d_M_moveChance_5 rfl (lv_at hl 2 rfl) ?_
  refine lv_iload_n hx hb d_M_moveChance_6 rfl (lv_at hl 3 rfl) ?_
  refine lv_iload_n hx hb d_M_moveChance_7 rfl (lv_at hl 4 rfl) ?_
  refine lv_if_ne (tgt := 28) hx hb d_M_moveChance_8 (by decide) (fun c_2 => ?_) (fun c_2 => ?_)
  · refine lv_iload hx hb d_M_moveChance_28 (lv_at hl 0 rfl) ?_
    refine lv_iload hx hb d_M_moveChance_30 (lv_at hl 0 rfl) ?_
    refine lv_aload_n hx hb d_M_moveChance_32 rfl (lv_at hl 1 rfl) ?_
    refine va_get (D := (dC, dI)) (ci := 9) (v := .int fShift) (C := "RangeCodersModel") (T := T_M) (N := 35) hx hb hg in_M hown hK hP 0 rfl rfl 1 (by decide) (hg _ k953) (fun _ h9 => h9) rfl d_M_moveChance_33 ?_
    refine lv_ishr hx hb d_M_moveChance_36 ?_
    refine lv_topi (fun v_3 ev_3 => ?_)
    refine lv_isub hx hb d_M_moveChance_37 ?_
    refine lv_topi (fun v_4 ev_4 => ?_)
    have hval : v_4 = nI (mvC sh bt pp) := by
      unfold mvC
      rw [if_neg (fun q => c_2 (by rw [q]; rfl))]
      subst_vars
      rw [I_shr (by omega) (by omega)]
      exact pk_sub hpl
    refine va_iast hx hb hK hP hD hS 1 0 rfl rfl (vp_in_nI hi (by decide)) d_M_moveChance_38 (fun H locs hP hD hS => ?_)
    have hPD : my_PD (dC, dI) vwCl A [(o, Sum.inr (9, mO g fForm fShift fModels fItems fEnded fLow fRange fCache fPend fGoes fOuts fIns fReads fBad fIR fAsk fBAsk fCode fRL fRR fX fWrites fThrown)), (a, Sum.inl (cI, 512, Sum.inl (upd f (nI i).toNatClampNeg v_4)))] H := ⟨hP, hD⟩
    have hP := hPD.1
    have hD := hPD.2
    exact my_vret hx hb hr hlocks hQ hK hS (Nat.le_refl _) (Nat.le_refl _) (upd f (nI i).toNatClampNeg v_4) (by rw [hval, nI_clamp (by omega)]) (hP.sub [0, 1] rfl) (hD.sub [0, 1] (by decide +kernel) rfl) d_M_moveChance_39
  · refine lv_iload hx hb d_M_moveChance_11 (lv_at hl 0 rfl) ?_
    refine lv_sipush (v := 2048) hx hb d_M_moveChance_13 (by decide) ?_
    refine lv_iload hx hb d_M_moveChance_16 (lv_at hl 0 rfl) ?_
    refine lv_isub hx hb d_M_moveChance_18 ?_
    refine lv_topi (fun v_5 ev_5 => ?_)
    refine lv_aload_n hx hb d_M_moveChance_19 rfl (lv_at hl 1 rfl) ?_
    refine va_get (D := (dC, dI)) (ci := 9) (v := .int fShift) (C := "RangeCodersModel") (T := T_M) (N := 35) hx hb hg in_M hown hK hP 0 rfl rfl 1 (by decide) (hg _ k953) (fun _ h9 => h9) rfl d_M_moveChance_20 ?_
    refine lv_ishr hx hb d_M_moveChance_23 ?_
    refine lv_topi (fun v_6 ev_6 => ?_)
    refine lv_iadd hx hb d_M_moveChance_24 ?_
    refine lv_topi (fun v_7 ev_7 => ?_)
    refine lv_goto (tgt := 38) hx hb d_M_moveChance_25 (by decide) ?_
    have hval : v_7 = nI (mvC sh bt pp) := by
      unfold mvC
      rw [if_pos ((nI_eq (b := 0) (by omega) (by decide)).mp c_2)]
      subst_vars
      rw [show (2048 : Int32) - nI pp = nI (2048 - pp) from pk_sub (a := 2048) hp2, I_shr (by omega) (by omega)]
      exact nI_add _ _
    refine va_iast hx hb hK hP hD hS 1 0 rfl rfl (vp_in_nI hi (by decide)) d_M_moveChance_38 (fun H locs hP hD hS => ?_)
    have hPD : my_PD (dC, dI) vwCl A [(o, Sum.inr (9, mO g fForm fShift fModels fItems fEnded fLow fRange fCache fPend fGoes fOuts fIns fReads fBad fIR fAsk fBAsk fCode fRL fRR fX fWrites fThrown)), (a, Sum.inl (cI, 512, Sum.inl (upd f (nI i).toNatClampNeg v_7)))] H := ⟨hP, hD⟩
    have hP := hPD.1
    have hD := hPD.2
    exact my_vret hx hb hr hlocks hQ hK hS (Nat.le_refl _) (Nat.le_refl _) (upd f (nI i).toNatClampNeg v_7) (by rw [hval, nI_clamp (by omega)]) (hP.sub [0, 1] rfl) (hD.sub [0, 1] (by decide +kernel) rfl) d_M_moveChance_39
end
section
set_option maxHeartbeats 1000000 in
set_option maxRecDepth 100000 in
/-- putBit -/
theorem c_M_putBit (l : Launch) (dC : Nat → ClassId) (dI : Nat → Nat → Nat) (cI cM cO : ClassId) (sz : Nat) (o : Nat) (g : Nat → Nat) (fForm : Int32) (fShift : Int32) (fModels : Int32) (fItems : Int32) (fEnded : Int32) (fOuts : Int32) (fIns : Int32) (fReads : Int32) (fBad : Int32) (fIR : Int32) (fAsk : Int32) (fBAsk : Int32) (fCode : Int64) (fRL : Int64) (fRR : Int64) (fX : Int64) (fWrites : Int32) (fThrown : Int32) (vNow : Nat → Int32) (vGoing : Nat → Int32) (i : Nat) (pp : Nat) (bt : Nat) (sh : Nat) (Rg : Nat) (L : Nat) (ca : Option Nat) (Pn : Nat) (bs : List Nat) (hi : i < 512) (hp : vNow i = nI pp) (hp1 : 1 ≤ pp) (hp2 : pp ≤ 2047) (hsh : sh ≤ 10) (hS9 : fShift = nI sh) (hbt : bt < 2) (hR0 : 16777216 ≤ Rg) (hR1 : Rg < 4294967296) (hL : L + Rg ≤ 8589934592) (hc : ∀ x, ca = some x → x < 256) (hG : gIs vGoing bs) (hN9 : bs.length + Pn + 4 ≤ 9000) : MetV l y_M_putBit (Cond.code y_M_putBit prog_14_method_25_code 5 none :: gw) ({ frames := 3, cells := 0, slots := 0, locals := 62 } : Room) (dC, dI) vwCl (kT cI cM cO) [Value.ref o, Value.int (nI i), Value.int (nI bt)] [(o, Sum.inr (9, mO g fForm fShift fModels fItems fEnded (lN L) (lN Rg) (caI ca) (nI Pn) (nI bs.length) fOuts fIns fReads fBad fIR fAsk fBAsk fCode fRL fRR fX fWrites fThrown)), ((g 2), Sum.inl (cI, 512, Sum.inl vNow)), ((g 6), Sum.inl (cI, 9000, Sum.inl vGoing))] sz (fun (u : (Nat → Int32) × (Nat → Int32)) => u.1 = upd vNow i (nI (mvC sh bt pp)) ∧ gIs u.2 (eB (wdS (btS pp bt Rg L ca Pn bs)))) (fun (u : (Nat → Int32) × (Nat → Int32)) => [(o, Sum.inr (9, mO g fForm fShift fModels fItems fEnded (lN (eL (wdS (btS pp bt Rg L ca Pn bs)))) (lN (eR (wdS (btS pp bt Rg L ca Pn bs)))) (caI (eC (wdS (btS pp bt Rg L ca Pn bs)))) (nI (eP (wdS (btS pp bt Rg L ca Pn bs)))) (nI (eB (wdS (btS pp bt Rg L ca Pn bs))).length) fOuts fIns fReads fBad fIR fAsk fBAsk fCode fRL fRR fX fWrites fThrown)), ((g 2), Sum.inl (cI, 512, Sum.inl u.1)), ((g 6), Sum.inl (cI, 9000, Sum.inl u.2))]) 0 0 := by
  refine my_ofV (cc := prog_14_method_25_code) (n := 5) (ret := none) (by decide) rfl (Nat.le_of_ble_eq_true rfl) ?_
  intro p e s m args below meth c R Q A ls H locs hx hb hr hts hown hlocks hml hnm hR hQ hA hl hP hK hN hD hS
  have hg : ∀ w ∈ gw, w.before args s = true := fun w h => hts w (List.mem_cons_of_mem _ h)
  have hown : s.vm.findClass "RangeCodersModel" = some m.cls := hown
  have hl : lv_has ls 5 [(0, Value.ref o), (1, Value.int (nI i)), (2, Value.int (nI bt))] := hl
  have hq1 : 8192 ≤ Rg / 2048 := by omega
  have hq2 : Rg / 2048 * pp ≤ Rg / 2048 * 2047 := Nat.mul_le_mul_left _ hp2
  have hq3 : Rg / 2048 * 1 ≤ Rg / 2048 * pp := Nat.mul_le_mul_left _ hp1
  generalize hb9 : Rg / 2048 * pp = bb at hq2 hq3
  refine lv_aload_n hx hb d_M_putBit_0 rfl (lv_at hl 0 rfl) ?_
  refine va_get (D := (dC, dI)) (ci := 9) (v := .long (lN Rg)) (C := "RangeCodersModel") (T := T_M) (N := 35) hx hb hg in_M hown hK hP 0 rfl rfl 12 (by decide) (hg _ k964) (fun _ h9 => h9) rfl d_M_putBit_1 ?_
  refine lv_bipush (v := 11) hx hb d_M_putBit_4 (by decide) ?_
  refine lv_lshr hx hb d_M_putBit_6 rfl ?_
  refine lv_topl (fun v_1 ev_1 => ?_)
  refine lv_aload_n hx hb d_M_putBit_7 rfl (lv_at hl 0 rfl) ?_
  refine va_get (D := (dC, dI)) (ci := 9) (v := .ref (g 2)) (C := "RangeCodersModel") (T := T_M) (N := 35) hx hb hg in_M hown hK hP 0 rfl rfl 5 (by decide) (hg _ k957) (fun _ h9 => h9) rfl d_M_putBit_8 ?_
  refine lv_iload_n hx hb d_M_putBit_11 rfl (lv_at hl 1 rfl) ?_
  refine va_iald hx hb hK hP 1 0 rfl rfl (vp_in_nI hi (by decide)) d_M_putBit_12 ?_
  refine lv_topi (fun v_2 ev_2 => ?_)
  refine lv_i2l hx hb d_M_putBit_13 rfl ?_
  refine lv_topl (fun v_3 ev_3 => ?_)
  refine lv_lmul hx hb d_M_putBit_14 ?_
  refine lv_topl (fun v_4 ev_4 => ?_)
  have z9 : v_4 = lN bb := by subst_vars; rw [L_shr11 (by omega), nI_clamp (by omega), hp, nI_l (by omega), lN_mul]
  subst z9
  refine lv_lstore_n (lv' := [(3, Value.long (lN bb)), (0, Value.ref o), (1, Value.int (nI i)), (2, Value.int (nI bt))]) hx hb d_M_putBit_15 rfl hl (by decide) rfl (fun ls hl => ?_)
  refine lv_iload_n hx hb d_M_putBit_16 rfl (lv_at hl 3 rfl) ?_
  refine lv_if_ne (tgt := 28) hx hb d_M_putBit_17 (by decide) (fun c_5 => ?_) (fun c_5 => ?_)
  · refine lv_aload_n hx hb d_M_putBit_28 rfl (lv_at hl 1 rfl) ?_
    refine lv_aload_n hx hb d_M_putBit_29 rfl (lv_at hl 1 rfl) ?_
    refine va_get (D := (dC, dI)) (ci := 9) (v := .long (lN L)) (C := "RangeCodersModel") (T := T_M) (N := 35) hx hb hg in_M hown hK hP 0 rfl rfl 11 (by decide) (hg _ k963) (fun _ h9 => h9) rfl d_M_putBit_30 ?_
    refine lv_lload_n hx hb d_M_putBit_33 rfl (lv_at hl 0 rfl) ?_
    refine lv_ladd hx hb d_M_putBit_34 ?_
    refine lv_topl (fun v_6 ev_6 => ?_)
    have z9 : v_6 = lN (L + bb) := by subst_vars; exact lN_add _ _
    subst z9
    refine va_put (D := (dC, dI)) (ci := 9) (v := .long (lN (L + bb))) (ty := .long) (C := "RangeCodersModel") (T := T_M) (N := 35) hx hb hg in_M t_M o_M n_M hown hK hP hD hS 0 rfl rfl 11 (by decide) (hg _ k963) (fun _ h9 => h9) rfl (by decide +kernel) rfl rfl (Nat.le_of_ble_eq_true rfl) d_M_putBit_35 (fun H locs hP hD hS => ?_)
    have hPD : my_PD (dC, dI) vwCl A [(o, Sum.inr (9, mO g fForm fShift fModels fItems fEnded (lN (L + bb)) (lN Rg) (caI ca) (nI Pn) (nI bs.length) fOuts fIns fReads fBad fIR fAsk fBAsk fCode fRL fRR fX fWrites fThrown)), ((g 2), Sum.inl (cI, 512, Sum.inl vNow)), ((g 6), Sum.inl (cI, 9000, Sum.inl vGoing))] H := ⟨hP, hD⟩
    have hP := hPD.1
    have hD := hPD.2
    refine lv_aload_n hx hb d_M_putBit_38 rfl (lv_at hl 1 rfl) ?_
    refine lv_aload_n hx hb d_M_putBit_39 rfl (lv_at hl 1 rfl) ?_
    refine va_get (D := (dC, dI)) (ci := 9) (v := .long (lN Rg)) (C := "RangeCodersModel") (T := T_M) (N := 35) hx hb hg in_M hown hK hP 0 rfl rfl 12 (by decide) (hg _ k964) (fun _ h9 => h9) rfl d_M_putBit_40 ?_
    refine lv_lload_n hx hb d_M_putBit_43 rfl (lv_at hl 0 rfl) ?_
    refine lv_lsub hx hb d_M_putBit_44 ?_
    refine lv_topl (fun v_7 ev_7 => ?_)
    have z9 : v_7 = lN (Rg - bb) := by subst_vars; exact lN_sub (by omega)
    subst z9
    refine va_put (D := (dC, dI)) (ci := 9) (v := .long (lN (Rg - bb))) (ty := .long) (C := "RangeCodersModel") (T := T_M) (N := 35) hx hb hg in_M t_M o_M n_M hown hK hP hD hS 0 rfl rfl 12 (by decide) (hg _ k964) (fun _ h9 => h9) rfl (by decide +kernel) rfl rfl (Nat.le_of_ble_eq_true rfl) d_M_putBit_45 (fun H locs hP hD hS => ?_)
    have hPD : my_PD (dC, dI) vwCl A [(o, Sum.inr (9, mO g fForm fShift fModels fItems fEnded (lN (L + bb)) (lN (Rg - bb)) (caI ca) (nI Pn) (nI bs.length) fOuts fIns fReads fBad fIR fAsk fBAsk fCode fRL fRR fX fWrites fThrown)), ((g 2), Sum.inl (cI, 512, Sum.inl vNow)), ((g 6), Sum.inl (cI, 9000, Sum.inl vGoing))] H := ⟨hP, hD⟩
    have hP := hPD.1
    have hD := hPD.2
    refine lv_aload_n hx hb d_M_putBit_48 rfl (lv_at hl 1 rfl) ?_
    refine lv_aload_n hx hb d_M_putBit_49 rfl (lv_at hl 1 rfl) ?_
    refine va_get (D := (dC, dI)) (ci := 9) (v := .ref (g 2)) (C := "RangeCodersModel") (T := T_M) (N := 35) hx hb hg in_M hown hK hP 0 rfl rfl 5 (by decide) (hg _ k957) (fun _ h9 => h9) rfl d_M_putBit_50 ?_
    refine lv_iload_n hx hb d_M_putBit_53 rfl (lv_at hl 2 rfl) ?_
    refine lv_iload_n hx hb d_M_putBit_54 rfl (lv_at hl 3 rfl) ?_
    refine my_cv (wr := [((g 6), Sum.inl (cI, 9000, Sum.inl vGoing))]) (va_runV (As := [Value.ref (g 2), Value.int (nI i), Value.int (nI bt)]) (rest := []) ⟨hx, hb, hml, hown, hts⟩ (c_M_moveChance l dC dI cI cM cO H.size o g fForm fShift fModels fItems fEnded (lN (L + bb)) (lN (Rg - bb)) (caI ca) (nI Pn) (nI bs.length) fOuts fIns fReads fBad fIR fAsk fBAsk fCode fRL fRR fX fWrites fThrown (g 2) vNow i pp bt sh (by assumption) (by assumption) (by omega) (by assumption) (by assumption) (by assumption)) (cwV 3 hts (my_gV k1131 k1133 ks37 k12 k1134) rfl rfl rfl (by decide +kernel) ⟨by rw [hR]; exact Nat.le_of_ble_eq_true rfl, by rw [hR]; exact Nat.le_of_ble_eq_true rfl⟩) (my_preV hK hN (hP.sub [0, 1] rfl) (hD.sub [0, 1] (by decide +kernel) rfl) 0 rfl rfl) rfl rfl hl.1 rfl (lv_room (Nat.le_of_ble_eq_true rfl)) d_M_putBit_55 ⟨by rw [hR]; exact Nat.le_of_ble_eq_true rfl, by rw [hR]; exact Nat.le_of_ble_eq_true rfl⟩) hP hD hS hA [0, 1] [2] rfl rfl (by decide +kernel) (by decide +kernel) (fun u9 H locs hw_55 hP hD hS => ?_)
    obtain ⟨f2_55, rfl⟩ : ∃ z, z = u9 := ⟨_, rfl⟩
    have hw_55 : f2_55 = upd vNow i (nI (mvC sh bt pp)) := hw_55
    have hPD : my_PD (dC, dI) vwCl A [((g 6), Sum.inl (cI, 9000, Sum.inl vGoing)), (o, Sum.inr (9, mO g fForm fShift fModels fItems fEnded (lN (L + bb)) (lN (Rg - bb)) (caI ca) (nI Pn) (nI bs.length) fOuts fIns fReads fBad fIR fAsk fBAsk fCode fRL fRR fX fWrites fThrown)), ((g 2), Sum.inl (cI, 512, Sum.inl f2_55))] H := ⟨hP, hD⟩
    have hP := hPD.1
    have hD := hPD.2
    refine lv_aload_n hx hb d_M_putBit_58 rfl (lv_at hl 1 rfl) ?_
    refine my_cv (wr := [((g 2), Sum.inl (cI, 512, Sum.inl f2_55))]) (va_runV (As := []) (rest := []) ⟨hx, hb, hml, hown, hts⟩ (c_M_widen l dC dI cI cM cO H.size o g fForm fShift fModels fItems fEnded fOuts fIns fReads fBad fIR fAsk fBAsk fCode fRL fRR fX fWrites fThrown vGoing (Rg - bb) (L + bb) ca Pn bs (by omega) (by omega) (by omega) (hc) (hG) (hN9)) (cwV 0 hts (my_gV k1097 k1099 ks30 k12 k1100) rfl rfl rfl (by decide +kernel) ⟨by rw [hR]; exact Nat.le_of_ble_eq_true rfl, by rw [hR]; exact Nat.le_of_ble_eq_true rfl⟩) (my_preV hK hN (hP.sub [1, 0] rfl) (hD.sub [1, 0] (by decide +kernel) rfl) 0 rfl rfl) rfl rfl hl.1 rfl (lv_room (Nat.le_of_ble_eq_true rfl)) d_M_putBit_59 ⟨by rw [hR]; exact Nat.le_of_ble_eq_true rfl, by rw [hR]; exact Nat.le_of_ble_eq_true rfl⟩) hP hD hS hA [1, 0] [2] rfl rfl (by decide +kernel) (by decide +kernel) (fun u9 H locs hw_59 hP hD hS => ?_)
    obtain ⟨v2_59, rfl⟩ : ∃ z, z = u9 := ⟨_, rfl⟩
    have hw_59 : gIs v2_59 (eB (wdS ((Rg - bb), (L + bb), ca, Pn, bs))) := hw_59
    have hPD : my_PD (dC, dI) vwCl A [((g 2), Sum.inl (cI, 512, Sum.inl f2_55)), (o, Sum.inr (9, mO g fForm fShift fModels fItems fEnded (lN (eL (wdS ((Rg - bb), (L + bb), ca, Pn, bs)))) (lN (eR (wdS ((Rg - bb), (L + bb), ca, Pn, bs)))) (caI (eC (wdS ((Rg - bb), (L + bb), ca, Pn, bs)))) (nI (eP (wdS ((Rg - bb), (L + bb), ca, Pn, bs)))) (nI (eB (wdS ((Rg - bb), (L + bb), ca, Pn, bs))).length) fOuts fIns fReads fBad fIR fAsk fBAsk fCode fRL fRR fX fWrites fThrown)), ((g 6), Sum.inl (cI, 9000, Sum.inl v2_59))] H := ⟨hP, hD⟩
    have hP := hPD.1
    have hD := hPD.2
    rw [show ((Rg - bb), (L + bb), ca, Pn, bs) = btS pp bt Rg L ca Pn bs by unfold btS; rw [if_neg (fun q => c_5 (by rw [q]; rfl)), hb9]] at hP hD hw_59
    exact my_vret hx hb hr hlocks hQ hK hS (Nat.le_refl _) (Nat.le_refl _) (f2_55, v2_59) (⟨hw_55, hw_59⟩) (hP.sub [1, 0, 2] rfl) (hD.sub [1, 0, 2] (by decide +kernel) rfl) d_M_putBit_62
  · refine lv_aload_n hx hb d_M_putBit_20 rfl (lv_at hl 1 rfl) ?_
    refine lv_lload_n hx hb d_M_putBit_21 rfl (lv_at hl 0 rfl) ?_
    refine va_put (D := (dC, dI)) (ci := 9) (v := .long (lN bb)) (ty := .long) (C := "RangeCodersModel") (T := T_M) (N := 35) hx hb hg in_M t_M o_M n_M hown hK hP hD hS 0 rfl rfl 12 (by decide) (hg _ k964) (fun _ h9 => h9) rfl (by decide +kernel) rfl rfl (Nat.le_of_ble_eq_true rfl) d_M_putBit_22 (fun H locs hP hD hS => ?_)
    have hPD : my_PD (dC, dI) vwCl A [(o, Sum.inr (9, mO g fForm fShift fModels fItems fEnded (lN L) (lN bb) (caI ca) (nI Pn) (nI bs.length) fOuts fIns fReads fBad fIR fAsk fBAsk fCode fRL fRR fX fWrites fThrown)), ((g 2), Sum.inl (cI, 512, Sum.inl vNow)), ((g 6), Sum.inl (cI, 9000, Sum.inl vGoing))] H := ⟨hP, hD⟩
    have hP := hPD.1
    have hD := hPD.2
    refine lv_goto (tgt := 48) hx hb d_M_putBit_25 (by decide) ?_
    refine lv_aload_n hx hb d_M_putBit_48 rfl (lv_at hl 1 rfl) ?_
    refine lv_aload_n hx hb d_M_putBit_49 rfl (lv_at hl 1 rfl) ?_
    refine va_get (D := (dC, dI)) (ci := 9) (v := .ref (g 2)) (C := "RangeCodersModel") (T := T_M) (N := 35) hx hb hg in_M hown hK hP 0 rfl rfl 5 (by decide) (hg _ k957) (fun _ h9 => h9) rfl d_M_putBit_50 ?_
    refine lv_iload_n hx hb d_M_putBit_53 rfl (lv_at hl 2 rfl) ?_
    refine lv_iload_n hx hb d_M_putBit_54 rfl (lv_at hl 3 rfl) ?_
    refine my_cv (wr := [((g 6), Sum.inl (cI, 9000, Sum.inl vGoing))]) (va_runV (As := [Value.ref (g 2), Value.int (nI i), Value.int (nI bt)]) (rest := []) ⟨hx, hb, hml, hown, hts⟩ (c_M_moveChance l dC dI cI cM cO H.size o g fForm fShift fModels fItems fEnded (lN L) (lN bb) (caI ca) (nI Pn) (nI bs.length) fOuts fIns fReads fBad fIR fAsk fBAsk fCode fRL fRR fX fWrites fThrown (g 2) vNow i pp bt sh (by assumption) (by assumption) (by omega) (by assumption) (by assumption) (by assumption)) (cwV 3 hts (my_gV k1131 k1133 ks37 k12 k1134) rfl rfl rfl (by decide +kernel) ⟨by rw [hR]; exact Nat.le_of_ble_eq_true rfl, by rw [hR]; exact Nat.le_of_ble_eq_true rfl⟩) (my_preV hK hN (hP.sub [0, 1] rfl) (hD.sub [0, 1] (by decide +kernel) rfl) 0 rfl rfl) rfl rfl hl.1 rfl (lv_room (Nat.le_of_ble_eq_true rfl)) d_M_putBit_55 ⟨by rw [hR]; exact Nat.le_of_ble_eq_true rfl, by rw [hR]; exact Nat.le_of_ble_eq_true rfl⟩) hP hD hS hA [0, 1] [2] rfl rfl (by decide +kernel) (by decide +kernel) (fun u9 H locs hw_55 hP hD hS => ?_)
    obtain ⟨f2_55, rfl⟩ : ∃ z, z = u9 := ⟨_, rfl⟩
    have hw_55 : f2_55 = upd vNow i (nI (mvC sh bt pp)) := hw_55
    have hPD : my_PD (dC, dI) vwCl A [((g 6), Sum.inl (cI, 9000, Sum.inl vGoing)), (o, Sum.inr (9, mO g fForm fShift fModels fItems fEnded (lN L) (lN bb) (caI ca) (nI Pn) (nI bs.length) fOuts fIns fReads fBad fIR fAsk fBAsk fCode fRL fRR fX fWrites fThrown)), ((g 2), Sum.inl (cI, 512, Sum.inl f2_55))] H := ⟨hP, hD⟩
    have hP := hPD.1
    have hD := hPD.2
    refine lv_aload_n hx hb d_M_putBit_58 rfl (lv_at hl 1 rfl) ?_
    refine my_cv (wr := [((g 2), Sum.inl (cI, 512, Sum.inl f2_55))]) (va_runV (As := []) (rest := []) ⟨hx, hb, hml, hown, hts⟩ (c_M_widen l dC dI cI cM cO H.size o g fForm fShift fModels fItems fEnded fOuts fIns fReads fBad fIR fAsk fBAsk fCode fRL fRR fX fWrites fThrown vGoing bb L ca Pn bs (by omega) (by omega) (by omega) (hc) (hG) (hN9)) (cwV 0 hts (my_gV k1097 k1099 ks30 k12 k1100) rfl rfl rfl (by decide +kernel) ⟨by rw [hR]; exact Nat.le_of_ble_eq_true rfl, by rw [hR]; exact Nat.le_of_ble_eq_true rfl⟩) (my_preV hK hN (hP.sub [1, 0] rfl) (hD.sub [1, 0] (by decide +kernel) rfl) 0 rfl rfl) rfl rfl hl.1 rfl (lv_room (Nat.le_of_ble_eq_true rfl)) d_M_putBit_59 ⟨by rw [hR]; exact Nat.le_of_ble_eq_true rfl, by rw [hR]; exact Nat.le_of_ble_eq_true rfl⟩) hP hD hS hA [1, 0] [2] rfl rfl (by decide +kernel) (by decide +kernel) (fun u9 H locs hw_59 hP hD hS => ?_)
    obtain ⟨v2_59, rfl⟩ : ∃ z, z = u9 := ⟨_, rfl⟩
    have hw_59 : gIs v2_59 (eB (wdS (bb, L, ca, Pn, bs))) := hw_59
    have hPD : my_PD (dC, dI) vwCl A [((g 2), Sum.inl (cI, 512, Sum.inl f2_55)), (o, Sum.inr (9, mO g fForm fShift fModels fItems fEnded (lN (eL (wdS (bb, L, ca, Pn, bs)))) (lN (eR (wdS (bb, L, ca, Pn, bs)))) (caI (eC (wdS (bb, L, ca, Pn, bs)))) (nI (eP (wdS (bb, L, ca, Pn, bs)))) (nI (eB (wdS (bb, L, ca, Pn, bs))).length) fOuts fIns fReads fBad fIR fAsk fBAsk fCode fRL fRR fX fWrites fThrown)), ((g 6), Sum.inl (cI, 9000, Sum.inl v2_59))] H := ⟨hP, hD⟩
    have hP := hPD.1
    have hD := hPD.2
    rw [show (bb, L, ca, Pn, bs) = btS pp bt Rg L ca Pn bs by unfold btS; rw [if_pos ((nI_eq (b := 0) (by omega) (by decide)).mp c_5), hb9]] at hP hD hw_59
    exact my_vret hx hb hr hlocks hQ hK hS (Nat.le_refl _) (Nat.le_refl _) (f2_55, v2_59) (⟨hw_55, hw_59⟩) (hP.sub [1, 0, 2] rfl) (hD.sub [1, 0, 2] (by decide +kernel) rfl) d_M_putBit_62
set_option maxHeartbeats 1000000 in
set_option maxRecDepth 100000 in
/-- addItem -/
theorem c_M_addItem (l : Launch) (dC : Nat → ClassId) (dI : Nat → Nat → Nat) (cI cM cO : ClassId) (sz : Nat) (o : Nat) (g : Nat → Nat) (fForm : Int32) (fShift : Int32) (fModels : Int32) (fEnded : Int32) (fLow : Int64) (fRange : Int64) (fCache : Int32) (fPend : Int32) (fGoes : Int32) (fOuts : Int32) (fIns : Int32) (fReads : Int32) (fBad : Int32) (fIR : Int32) (fAsk : Int32) (fBAsk : Int32) (fCode : Int64) (fRL : Int64) (fRR : Int64) (fX : Int64) (fWrites : Int32) (fThrown : Int32) (vIM : Nat → Int32) (vIW : Nat → Int32) (k : Nat) (p1 : Int32) (p2 : Int32) (hk : k < 600) : MetI l y_M_addItem (Cond.code y_M_addItem prog_14_method_28_code 3 (some .int) :: gw) ({ frames := 0, cells := 0, slots := 0, locals := 0 } : Room) (dC, dI) vwCl (kT cI cM cO) [Value.ref o, Value.int p1, Value.int p2] [(o, Sum.inr (9, mO g fForm fShift fModels (nI k) fEnded fLow fRange fCache fPend fGoes fOuts fIns fReads fBad fIR fAsk fBAsk fCode fRL fRR fX fWrites fThrown)), ((g 4), Sum.inl (cI, 600, Sum.inl vIM)), ((g 5), Sum.inl (cI, 600, Sum.inl vIW))] sz (fun (r : Int32) (u : (Nat → Int32) × (Nat → Int32)) => r = nI (k + 1) ∧ u.1 = upd vIM k p1 ∧ u.2 = upd vIW k p2) (fun (u : (Nat → Int32) × (Nat → Int32)) => [(o, Sum.inr (9, mO g fForm fShift fModels (nI (k + 1)) fEnded fLow fRange fCache fPend fGoes fOuts fIns fReads fBad fIR fAsk fBAsk fCode fRL fRR fX fWrites fThrown)), ((g 4), Sum.inl (cI, 600, Sum.inl u.1)), ((g 5), Sum.inl (cI, 600, Sum.inl u.2))]) 0 0 := by
  refine my_ofI (cc := prog_14_method_28_code) (n := 3) (ret := (some .int)) (by decide) rfl (Nat.le_of_ble_eq_true rfl) ?_
  intro p e s m args below meth c R Q A ls H locs hx hb hr hts hown hlocks hml hnm hR hQ hA hl hP hK hN hD hS
  have hg : ∀ w ∈ gw, w.before args s = true := fun w h => hts w (List.mem_cons_of_mem _ h)
  have hown : s.vm.findClass "RangeCodersModel" = some m.cls := hown
  have hl : lv_has ls 3 [(0, Value.ref o), (1, Value.int p1), (2, Value.int p2)] := hl
  refine lv_aload_n hx hb d_M_addItem_0 rfl (lv_at hl 0 rfl) ?_
  refine va_get (D := (dC, dI)) (ci := 9) (v := .ref (g 4)) (C := "RangeCodersModel") (T := T_M) (N := 35) hx hb hg in_M hown hK hP 0 rfl rfl 8 (by decide) (hg _ k960) (fun _ h9 => h9) rfl d_M_addItem_1 ?_
  refine lv_aload_n hx hb d_M_addItem_4 rfl (lv_at hl 0 rfl) ?_
  refine va_get (D := (dC, dI)) (ci := 9) (v := .int (nI k)) (C := "RangeCodersModel") (T := T_M) (N := 35) hx hb hg in_M hown hK hP 0 rfl rfl 7 (by decide) (hg _ k959) (fun _ h9 => h9) rfl d_M_addItem_5 ?_
  refine lv_iload_n hx hb d_M_addItem_8 rfl (lv_at hl 1 rfl) ?_
  refine va_iast hx hb hK hP hD hS 1 0 rfl rfl (vp_in_nI hk (by decide)) d_M_addItem_9 (fun H locs hP hD hS => ?_)
  have hPD : my_PD (dC, dI) vwCl A [(o, Sum.inr (9, mO g fForm fShift fModels (nI k) fEnded fLow fRange fCache fPend fGoes fOuts fIns fReads fBad fIR fAsk fBAsk fCode fRL fRR fX fWrites fThrown)), ((g 4), Sum.inl (cI, 600, Sum.inl (upd vIM (nI k).toNatClampNeg p1))), ((g 5), Sum.inl (cI, 600, Sum.inl vIW))] H := ⟨hP, hD⟩
  have hP := hPD.1
  have hD := hPD.2
  refine lv_aload_n hx hb d_M_addItem_10 rfl (lv_at hl 0 rfl) ?_
  refine va_get (D := (dC, dI)) (ci := 9) (v := .ref (g 5)) (C := "RangeCodersModel") (T := T_M) (N := 35) hx hb hg in_M hown hK hP 0 rfl rfl 9 (by decide) (hg _ k961) (fun _ h9 => h9) rfl d_M_addItem_11 ?_
  refine lv_aload_n hx hb d_M_addItem_14 rfl (lv_at hl 0 rfl) ?_
  refine va_get (D := (dC, dI)) (ci := 9) (v := .int (nI k)) (C := "RangeCodersModel") (T := T_M) (N := 35) hx hb hg in_M hown hK hP 0 rfl rfl 7 (by decide) (hg _ k959) (fun _ h9 => h9) rfl d_M_addItem_15 ?_
  refine lv_iload_n hx hb d_M_addItem_18 rfl (lv_at hl 2 rfl) ?_
  refine va_iast hx hb hK hP hD hS 2 0 rfl rfl (vp_in_nI hk (by decide)) d_M_addItem_19 (fun H locs hP hD hS => ?_)
  have hPD : my_PD (dC, dI) vwCl A [(o, Sum.inr (9, mO g fForm fShift fModels (nI k) fEnded fLow fRange fCache fPend fGoes fOuts fIns fReads fBad fIR fAsk fBAsk fCode fRL fRR fX fWrites fThrown)), ((g 4), Sum.inl (cI, 600, Sum.inl (upd vIM (nI k).toNatClampNeg p1))), ((g 5), Sum.inl (cI, 600, Sum.inl (upd vIW (nI k).toNatClampNeg p2)))] H := ⟨hP, hD⟩
  have hP := hPD.1
  have hD := hPD.2
  refine lv_aload_n hx hb d_M_addItem_20 rfl (lv_at hl 0 rfl) ?_
  refine lv_dup hx hb d_M_addItem_21 rfl ?_
  refine va_get (D := (dC, dI)) (ci := 9) (v := .int (nI k)) (C := "RangeCodersModel") (T := T_M) (N := 35) hx hb hg in_M hown hK hP 0 rfl rfl 7 (by decide) (hg _ k959) (fun _ h9 => h9) rfl d_M_addItem_22 ?_
  refine lv_iconst (v := 1) hx hb d_M_addItem_25 (by decide) ?_
  refine lv_iadd hx hb d_M_addItem_26 ?_
  refine lv_topi (fun v_1 ev_1 => ?_)
  have z9 : v_1 = nI (k + 1) := by subst_vars; exact nI_1 _
  subst z9
  refine va_put (D := (dC, dI)) (ci := 9) (v := .int (nI (k + 1))) (ty := .int) (C := "RangeCodersModel") (T := T_M) (N := 35) hx hb hg in_M t_M o_M n_M hown hK hP hD hS 0 rfl rfl 7 (by decide) (hg _ k959) (fun _ h9 => h9) rfl (by decide +kernel) rfl rfl (Nat.le_of_ble_eq_true rfl) d_M_addItem_27 (fun H locs hP hD hS => ?_)
  have hPD : my_PD (dC, dI) vwCl A [(o, Sum.inr (9, mO g fForm fShift fModels (nI (k + 1)) fEnded fLow fRange fCache fPend fGoes fOuts fIns fReads fBad fIR fAsk fBAsk fCode fRL fRR fX fWrites fThrown)), ((g 4), Sum.inl (cI, 600, Sum.inl (upd vIM (nI k).toNatClampNeg p1))), ((g 5), Sum.inl (cI, 600, Sum.inl (upd vIW (nI k).toNatClampNeg p2)))] H := ⟨hP, hD⟩
  have hP := hPD.1
  have hD := hPD.2
  refine lv_aload_n hx hb d_M_addItem_30 rfl (lv_at hl 0 rfl) ?_
  refine va_get (D := (dC, dI)) (ci := 9) (v := .int (nI (k + 1))) (C := "RangeCodersModel") (T := T_M) (N := 35) hx hb hg in_M hown hK hP 0 rfl rfl 7 (by decide) (hg _ k959) (fun _ h9 => h9) rfl d_M_addItem_31 ?_
  exact my_iret (v := (nI (k + 1))) hx hb hr (rfl) hlocks hQ hK hS (Nat.le_refl _) (Nat.le_refl _) (upd vIM (nI k).toNatClampNeg p1, upd vIW (nI k).toNatClampNeg p2) (⟨rfl, by rw [nI_clamp (by omega)], by rw [nI_clamp (by omega)]⟩) (hP.sub [0, 1, 2] rfl) (hD.sub [0, 1, 2] (by decide +kernel) rfl) d_M_addItem_34
end
