section
theorem itM_neg {vNow : Nat → Int32} {N : Nat → Nat} {Fn : Nat → Nat → Nat} {it : It} (h : it3 vNow N Fn it) : ¬ 0 ≤ itM it ↔ it.1 = 0 := by
  unfold itM
  rcases h with ⟨h0, h1, h2, h3⟩ | ⟨h0, h1, h2, h3, h4, h5, h6⟩
  · rw [if_pos h0]
    refine ⟨fun _ => h0, fun _ => ?_⟩
    have hb : it.2.1 = 1 ∨ it.2.1 = 2 ∨ it.2.1 = 3 ∨ it.2.1 = 4 ∨ it.2.1 = 5 ∨ it.2.1 = 6 ∨ it.2.1 = 7 ∨ it.2.1 = 8 ∨ it.2.1 = 9 ∨ it.2.1 = 10 ∨ it.2.1 = 11 ∨ it.2.1 = 12 := by omega
    rcases hb with e | e | e | e | e | e | e | e | e | e | e | e <;> rw [e] <;> decide
  · rw [if_neg h0]
    exact ⟨fun z => absurd (nI_pos' (by omega)) z, fun z => absurd z h0⟩
theorem itM_ng {it : It} (h : it.1 = 0) : -itM it = nI it.2.1 := by
  unfold itM
  rw [if_pos h]
  exact Int32.neg_neg
theorem xb_k {k x f : Nat} (h6 : 6 ≤ k) (hk : k ≤ 8) (hf : 0 < f) (h : x < xb k) (h2 : f * 524288 ≤ x) : 6 < k := by
  rcases Nat.lt_or_ge 6 k with z | z
  · exact z
  · have e : k = 6 := by omega
    subst e
    have : xb 6 = 32768 := by decide
    omega
theorem xb_s {k x : Nat} (h6 : 6 < k) (hk : k ≤ 8) (h : x < xb k) : x / 256 < xb (k - 1) := by
  have e : k = 7 ∨ k = 8 := by omega
  rcases e with e | e <;> subst e
  · have a : xb 7 = 8388608 := by decide
    have b : xb (7 - 1) = 32768 := by decide
    omega
  · have a : xb 8 = 2147483648 := by decide
    have b : xb (8 - 1) = 8388608 := by decide
    omega
theorem xb_le {k : Nat} : xb k ≤ 2147483648 := by unfold xb; repeat (first | omega | split)
theorem rv_st {W b9 B : List Nat} {k : Nat} (hk : 0 < k) (hk2 : k ≤ W.length) (h : b9 ++ ((W.take k).reverse.map (· % 256)) = B) : b9 ++ [W.getD (k - 1) 0 % 256] ++ ((W.take (k - 1)).reverse.map (· % 256)) = B := by
  rw [← h]
  obtain ⟨q, rfl⟩ : ∃ q, k = q + 1 := ⟨k - 1, by omega⟩
  have hq : q < W.length := by omega
  have e : W.take (q + 1) = W.take q ++ [W[q]'hq] := by rw [List.take_add_one, List.getElem?_eq_getElem hq]; rfl
  have e2 : W.getD q 0 = W[q]'hq := by rw [List.getD_eq_getElem?_getD, List.getElem?_eq_getElem hq]; rfl
  rw [Nat.add_sub_cancel, e, e2, List.reverse_append, List.map_append, List.append_assoc]
  rfl
theorem oct_nil : oct [] := fun i => by simp
theorem oct_add {xs : List Nat} {x : Nat} (h : oct xs) (hx : x < 256) : oct (xs ++ [x]) := by
  intro i
  unfold byA
  rcases Nat.lt_or_ge i xs.length with q | q
  · have := h i
    unfold byA at this
    rw [List.getD_eq_getElem?_getD, List.getElem?_append_left q, ← List.getD_eq_getElem?_getD]; exact this
  · rcases Nat.eq_or_lt_of_le q with e | e
    · rw [← e]; simp [List.getD_eq_getElem?_getD]; exact hx
    · rw [List.getD_eq_getElem?_getD, List.getElem?_eq_none (by rw [List.length_append, List.length_singleton]; omega)]; decide
set_option maxHeartbeats 20000000 in
set_option maxRecDepth 100000 in
/-- endStack -/
theorem c_M_endStack (l : Launch) (dC : Nat → ClassId) (dI : Nat → Nat → Nat) (cI cM cO : ClassId) (sz : Nat) (o : Nat) (g : Nat → Nat) (fForm : Int32) (fShift : Int32) (fModels : Int32) (fEnded : Int32) (fLow : Int64) (fRange : Int64) (fCache : Int32) (fPend : Int32) (fOuts : Int32) (fIns : Int32) (fReads : Int32) (fBad : Int32) (fIR : Int32) (fAsk : Int32) (fBAsk : Int32) (fCode : Int64) (fRL : Int64) (fRR : Int64) (fX : Int64) (fWrites : Int32) (fThrown : Int32) (vNow : Nat → Int32) (vIM : Nat → Int32) (vIW : Nat → Int32) (vGoing : Nat → Int32) (vWr : Nat → Int32) (its : List It) (bs : List Nat) (N : Nat → Nat) (Fn : Nat → Nat → Nat) (hit : itIs vIM vIW its) (hok : ∀ i, i < its.length → it3 vNow N Fn (itA its i)) (hlen : its.length ≤ 600) (hG : gIs vGoing bs) (hbs : bs.length ≤ 5000) : MetV l y_M_endStack (Cond.code y_M_endStack prog_14_method_32_code 10 none :: gw) ({ frames := 1, cells := 0, slots := 0, locals := 25 } : Room) (dC, dI) vwCl (kT cI cM cO) [Value.ref o] [(o, Sum.inr (9, mO g fForm fShift fModels (nI its.length) fEnded fLow fRange fCache fPend (nI bs.length) fOuts fIns fReads fBad fIR fAsk fBAsk fCode fRL fRR fX fWrites fThrown)), ((g 2), Sum.inl (cI, 512, Sum.inl vNow)), ((g 4), Sum.inl (cI, 600, Sum.inl vIM)), ((g 5), Sum.inl (cI, 600, Sum.inl vIW)), ((g 6), Sum.inl (cI, 9000, Sum.inl vGoing)), ((g 11), Sum.inl (cI, 20000, Sum.inl vWr))] sz (fun (u : (Nat → Int32) × (Nat → Int32)) => gIs u.1 (bs ++ (e3S Fn its).reverse.map (· % 256))) (fun (u : (Nat → Int32) × (Nat → Int32)) => [(o, Sum.inr (9, mO g fForm fShift fModels (nI its.length) fEnded fLow fRange fCache fPend (nI (bs ++ (e3S Fn its).reverse.map (· % 256)).length) fOuts fIns fReads fBad fIR fAsk fBAsk fCode fRL fRR fX (nI (e3S Fn its).length) fThrown)), ((g 2), Sum.inl (cI, 512, Sum.inl vNow)), ((g 4), Sum.inl (cI, 600, Sum.inl vIM)), ((g 5), Sum.inl (cI, 600, Sum.inl vIW)), ((g 6), Sum.inl (cI, 9000, Sum.inl u.1)), ((g 11), Sum.inl (cI, 20000, Sum.inl u.2))]) 0 0 := by
  refine my_ofV (cc := prog_14_method_32_code) (n := 10) (ret := none) (by decide) rfl (Nat.le_of_ble_eq_true rfl) ?_
  intro p e s m args below meth c R Q A ls H locs hx hb hr hts hown hlocks hml hnm hR hQ hA hl hP hK hN hD hS
  have hg : ∀ w ∈ gw, w.before args s = true := fun w h => hts w (List.mem_cons_of_mem _ h)
  have hown : s.vm.findClass "RangeCodersModel" = some m.cls := hown
  replace hl : lv_has ls 10 [(0, Value.ref o)] := hl
  refine lv_aload_n hx hb d_M_endStack_0 rfl (lv_at hl 0 rfl) ?_
  refine lv_iconst (v := 0) hx hb d_M_endStack_1 (by decide) ?_
  refine W.eq (g2 := F0 m 2 ls [Value.int (nI ([] : List Nat).length), Value.ref o]) rfl ?_
  refine va_put (D := (dC, dI)) (ci := 9) (v := .int (nI ([] : List Nat).length)) (ty := .int) (C := "RangeCodersModel") (T := T_M) (N := 35) hx hb hg in_M t_M o_M n_M hown hK hP hD hS 0 rfl rfl 33 (by decide) (hg _ k985) (fun _ h9 => h9) rfl (by decide +kernel) rfl rfl (Nat.le_of_ble_eq_true rfl) d_M_endStack_2 (fun _ _ _ _ _ => ?_)
  clear hP hD hS
  rename_i H locs hP hD hS
  have hPD : my_PD (dC, dI) vwCl A [(o, Sum.inr (9, mO g fForm fShift fModels (nI its.length) fEnded fLow fRange fCache fPend (nI bs.length) fOuts fIns fReads fBad fIR fAsk fBAsk fCode fRL fRR fX (nI ([] : List Nat).length) fThrown)), ((g 2), Sum.inl (cI, 512, Sum.inl vNow)), ((g 4), Sum.inl (cI, 600, Sum.inl vIM)), ((g 5), Sum.inl (cI, 600, Sum.inl vIW)), ((g 6), Sum.inl (cI, 9000, Sum.inl vGoing)), ((g 11), Sum.inl (cI, 20000, Sum.inl vWr))] H := ⟨hP, hD⟩
  clear hP hD
  have hP := hPD.1
  have hD := hPD.2
  clear hPD
  refine lv_ldc2 (v := 8388608) hx hb hown (hg _ k1155) d_M_endStack_5 ?_
  refine W.eq (g2 := F0 m 8 ls [Value.long (lN 8388608)]) rfl ?_
  refine lv_lstore_n (lv' := [(1, Value.long (lN 8388608)), (0, Value.ref o)]) hx hb d_M_endStack_8 rfl hl (by decide) rfl (fun _ _ => ?_)
  clear hl
  rename_i ls hl
  refine lv_aload_n hx hb d_M_endStack_9 rfl (lv_at hl 1 rfl) ?_
  refine va_get (D := (dC, dI)) (ci := 9) (v := .int (nI its.length)) (C := "RangeCodersModel") (T := T_M) (N := 35) hx hb hg in_M hown hK hP 0 rfl rfl 7 (by decide) (hg _ k959) (fun _ h9 => h9) rfl d_M_endStack_10 ?_
  refine lv_iconst (v := 1) hx hb d_M_endStack_13 (by decide) ?_
  refine lv_isub hx hb d_M_endStack_14 ?_
  refine lv_topi (fun v_1 ev_1 => ?_)
  refine lv_istore_n (lv' := [(3, Value.int v_1), (1, Value.long (lN 8388608)), (0, Value.ref o)]) hx hb d_M_endStack_15 rfl hl (by decide) rfl (fun _ _ => ?_)
  clear hl
  rename_i ls hl
  have J_16 : ∀ (n9_16 : Nat) (i9 : Int32) (k : Nat) (r9 : Nat × List Nat) (vK : Nat → Int32) (hn9_16 : k = n9_16) (hi : i9 + 1 = nI k) (hk : k ≤ its.length) (hE9 : e3N Fn its its.length (8388608, []) = e3N Fn its k r9) (hX1 : 8388608 ≤ r9.1) (hX2 : r9.1 < 2147483648) (hgw : gIs vK r9.2) (hlw : r9.2.length + 2 * k ≤ 2 * its.length) (hob : oct r9.2) (H : Heap) (locs : List Loc) (ls : Array Slot), va_P (dC, dI) vwCl [(o, Sum.inr (9, mO g fForm fShift fModels (nI its.length) fEnded fLow fRange fCache fPend (nI bs.length) fOuts fIns fReads fBad fIR fAsk fBAsk fCode fRL fRR fX (nI r9.2.length) fThrown)), ((g 2), Sum.inl (cI, 512, Sum.inl vNow)), ((g 4), Sum.inl (cI, 600, Sum.inl vIM)), ((g 5), Sum.inl (cI, 600, Sum.inl vIW)), ((g 6), Sum.inl (cI, 9000, Sum.inl vGoing)), ((g 11), Sum.inl (cI, 20000, Sum.inl vK))] H → va_D A [(o, Sum.inr (9, mO g fForm fShift fModels (nI its.length) fEnded fLow fRange fCache fPend (nI bs.length) fOuts fIns fReads fBad fIR fAsk fBAsk fCode fRL fRR fX (nI r9.2.length) fThrown)), ((g 2), Sum.inl (cI, 512, Sum.inl vNow)), ((g 4), Sum.inl (cI, 600, Sum.inl vIM)), ((g 5), Sum.inl (cI, 600, Sum.inl vIW)), ((g 6), Sum.inl (cI, 9000, Sum.inl vGoing)), ((g 11), Sum.inl (cI, 20000, Sum.inl vK))] → va_S A s.heap H locs → lv_has ls 10 [(3, Value.int i9), (1, Value.long (lN r9.1)), (0, Value.ref o)] → W p l e R s m args below meth c H locs 0 0 Q (F0 m 16 ls []) := by
    intro n9_16
    induction n9_16 using Nat.strongRecOn with
    | ind n9_16 ih9_16 =>
      intro i9 k r9 vK hn9_16 hi hk hE9 hX1 hX2 hgw hlw hob H locs ls hP hD hS hl
      refine lv_iload_n hx hb d_M_endStack_16 rfl (lv_at hl 0 rfl) ?_
      refine lv_if_lt (tgt := 162) hx hb d_M_endStack_17 (by decide) (fun c_2 => ?_) (fun c_2 => ?_)
      · have hk0 : k = 0 := by
          rcases Nat.eq_zero_or_pos k with z | z
          · exact z
          · exact absurd (show i9 < 0 from c_2) (by rw [show i9 = nI (k - 1) from by rw [← Int32.add_sub_cancel (a := i9) (b := 1), hi]; exact pk_sub (b := 1) z]; exact nI_pos (by omega))
        refine lv_iconst (v := 0) hx hb d_M_endStack_162 (by decide) ?_
        refine lv_istore_n (lv' := [(3, Value.int 0), (1, Value.long (lN r9.1)), (0, Value.ref o)]) hx hb d_M_endStack_163 rfl hl (by decide) rfl (fun _ _ => ?_)
        clear hl
        rename_i ls hl
        have J_164 : ∀ (n9_164 : Nat) (i9 : Int32) (jj : Nat) (x4 : Nat) (w4 : List Nat) (vJ : Nat → Int32) (hn9_164 : 4 - jj = n9_164) (hi : i9 = nI jj) (hjj : jj ≤ 4) (hE4 : e3S Fn its = w4 ++ b4 x4 (4 - jj)) (hx4 : x4 < 2147483648) (hg4 : gIs vJ w4) (hl4 : w4.length ≤ 1200 + jj) (hob4 : oct w4) (H : Heap) (locs : List Loc) (ls : Array Slot), va_P (dC, dI) vwCl [(o, Sum.inr (9, mO g fForm fShift fModels (nI its.length) fEnded fLow fRange fCache fPend (nI bs.length) fOuts fIns fReads fBad fIR fAsk fBAsk fCode fRL fRR fX (nI w4.length) fThrown)), ((g 2), Sum.inl (cI, 512, Sum.inl vNow)), ((g 4), Sum.inl (cI, 600, Sum.inl vIM)), ((g 5), Sum.inl (cI, 600, Sum.inl vIW)), ((g 6), Sum.inl (cI, 9000, Sum.inl vGoing)), ((g 11), Sum.inl (cI, 20000, Sum.inl vJ))] H → va_D A [(o, Sum.inr (9, mO g fForm fShift fModels (nI its.length) fEnded fLow fRange fCache fPend (nI bs.length) fOuts fIns fReads fBad fIR fAsk fBAsk fCode fRL fRR fX (nI w4.length) fThrown)), ((g 2), Sum.inl (cI, 512, Sum.inl vNow)), ((g 4), Sum.inl (cI, 600, Sum.inl vIM)), ((g 5), Sum.inl (cI, 600, Sum.inl vIW)), ((g 6), Sum.inl (cI, 9000, Sum.inl vGoing)), ((g 11), Sum.inl (cI, 20000, Sum.inl vJ))] → va_S A s.heap H locs → lv_has ls 10 [(3, Value.int i9), (1, Value.long (lN x4)), (0, Value.ref o)] → W p l e R s m args below meth c H locs 0 0 Q (F0 m 164 ls []) := by
          intro n9_164
          induction n9_164 using Nat.strongRecOn with
          | ind n9_164 ih9_164 =>
            intro i9 jj x4 w4 vJ hn9_164 hi hjj hE4 hx4 hg4 hl4 hob4 H locs ls hP hD hS hl
            refine lv_iload_n hx hb d_M_endStack_164 rfl (lv_at hl 0 rfl) ?_
            refine lv_iconst (v := 4) hx hb d_M_endStack_165 (by decide) ?_
            refine lv_icmp_ge (tgt := 205) hx hb d_M_endStack_166 (by decide) (fun c_3 => ?_) (fun c_3 => ?_)
            · have hj4 : jj = 4 := by rw [hi] at c_3; have := (nI_cmp (a := 4) (by decide) (by omega)).mp c_3; omega
              have hW : e3S Fn its = w4 := by rw [hE4, hj4]; simp [b4]
              refine lv_aload_n hx hb d_M_endStack_205 rfl (lv_at hl 2 rfl) ?_
              refine va_get (D := (dC, dI)) (ci := 9) (v := .int (nI w4.length)) (C := "RangeCodersModel") (T := T_M) (N := 35) hx hb hg in_M hown hK hP 0 rfl rfl 33 (by decide) (hg _ k985) (fun _ h9 => h9) rfl d_M_endStack_206 ?_
              refine lv_iconst (v := 1) hx hb d_M_endStack_209 (by decide) ?_
              refine lv_isub hx hb d_M_endStack_210 ?_
              refine lv_topi (fun v_4 ev_4 => ?_)
              refine lv_istore_n (lv' := [(3, Value.int v_4), (1, Value.long (lN x4)), (0, Value.ref o)]) hx hb d_M_endStack_211 rfl hl (by decide) rfl (fun _ _ => ?_)
              clear hl
              rename_i ls hl
              have J_212 : ∀ (n9_212 : Nat) (i9 : Int32) (kk : Nat) (b9 : List Nat) (vG : Nat → Int32) (hn9_212 : kk = n9_212) (hi : i9 + 1 = nI kk) (hkk : kk ≤ w4.length) (hE2 : b9 ++ ((e3S Fn its).take kk).reverse.map (· % 256) = bs ++ (e3S Fn its).reverse.map (· % 256)) (hg2 : gIs vG b9) (hl2 : b9.length + kk ≤ 5000 + w4.length) (H : Heap) (locs : List Loc) (ls : Array Slot), va_P (dC, dI) vwCl [(o, Sum.inr (9, mO g fForm fShift fModels (nI its.length) fEnded fLow fRange fCache fPend (nI b9.length) fOuts fIns fReads fBad fIR fAsk fBAsk fCode fRL fRR fX (nI w4.length) fThrown)), ((g 2), Sum.inl (cI, 512, Sum.inl vNow)), ((g 4), Sum.inl (cI, 600, Sum.inl vIM)), ((g 5), Sum.inl (cI, 600, Sum.inl vIW)), ((g 6), Sum.inl (cI, 9000, Sum.inl vG)), ((g 11), Sum.inl (cI, 20000, Sum.inl vJ))] H → va_D A [(o, Sum.inr (9, mO g fForm fShift fModels (nI its.length) fEnded fLow fRange fCache fPend (nI b9.length) fOuts fIns fReads fBad fIR fAsk fBAsk fCode fRL fRR fX (nI w4.length) fThrown)), ((g 2), Sum.inl (cI, 512, Sum.inl vNow)), ((g 4), Sum.inl (cI, 600, Sum.inl vIM)), ((g 5), Sum.inl (cI, 600, Sum.inl vIW)), ((g 6), Sum.inl (cI, 9000, Sum.inl vG)), ((g 11), Sum.inl (cI, 20000, Sum.inl vJ))] → va_S A s.heap H locs → lv_has ls 10 [(3, Value.int i9), (0, Value.ref o)] → W p l e R s m args below meth c H locs 0 0 Q (F0 m 212 ls []) := by
                intro n9_212
                induction n9_212 using Nat.strongRecOn with
                | ind n9_212 ih9_212 =>
                  intro i9 kk b9 vG hn9_212 hi hkk hE2 hg2 hl2 H locs ls hP hD hS hl
                  refine lv_iload_n hx hb d_M_endStack_212 rfl (lv_at hl 0 rfl) ?_
                  refine lv_if_lt (tgt := 232) hx hb d_M_endStack_213 (by decide) (fun c_5 => ?_) (fun c_5 => ?_)
                  · have hk00 : kk = 0 := by
                      rcases Nat.eq_zero_or_pos kk with z | z
                      · exact z
                      · exact absurd (show i9 < 0 from c_5) (by rw [show i9 = nI (kk - 1) from by rw [← Int32.add_sub_cancel (a := i9) (b := 1), hi]; exact pk_sub (b := 1) z]; exact nI_pos (by omega))
                    have z9 : b9 = bs ++ (e3S Fn its).reverse.map (· % 256) := by rw [← hE2, hk00]; simp
                    subst z9
                    have z9 : w4 = e3S Fn its := hW.symm
                    subst z9
                    exact my_vret hx hb hr hlocks hQ hK hS (Nat.le_refl _) (Nat.le_refl _) (vG, vJ) (hg2) (hP.sub [0, 1, 2, 3, 4, 5] rfl) (hD.sub [0, 1, 2, 3, 4, 5] (by decide +kernel) rfl) d_M_endStack_232
                  · have hkp : 0 < kk := by
                      rcases Nat.eq_zero_or_pos kk with z | z
                      · subst z; exact absurd (show i9 < 0 by rw [show i9 = -1 from by rw [← Int32.add_sub_cancel (a := i9) (b := 1), hi]; rfl]; decide) c_5
                      · exact z
                    have hi9 : i9 = nI (kk - 1) := by rw [← Int32.add_sub_cancel (a := i9) (b := 1), hi]; exact pk_sub (b := 1) hkp
                    refine lv_aload_n hx hb d_M_endStack_216 rfl (lv_at hl 1 rfl) ?_
                    refine lv_aload_n hx hb d_M_endStack_217 rfl (lv_at hl 1 rfl) ?_
                    refine va_get (D := (dC, dI)) (ci := 9) (v := .ref (g 11)) (C := "RangeCodersModel") (T := T_M) (N := 35) hx hb hg in_M hown hK hP 0 rfl rfl 32 (by decide) (hg _ k984) (fun _ h9 => h9) rfl d_M_endStack_218 ?_
                    refine lv_iload_n hx hb d_M_endStack_221 rfl (lv_at hl 0 rfl) ?_
                    refine va_iald hx hb hK hP 5 0 rfl rfl (by rw [hi9]; exact vp_in_nI (by omega) (by decide)) d_M_endStack_222 ?_
                    refine lv_topi (fun v_6 ev_6 => ?_)
                    have z9 : v_6 = nI (byA w4 (kk - 1)) := by rw [ev_6, hi9, nI_clamp (by omega)]; exact hg4 _ (by omega)
                    subst z9
                    refine my_cv (wr := [((g 2), Sum.inl (cI, 512, Sum.inl vNow)), ((g 4), Sum.inl (cI, 600, Sum.inl vIM)), ((g 5), Sum.inl (cI, 600, Sum.inl vIW)), ((g 11), Sum.inl (cI, 20000, Sum.inl vJ))]) (va_runV (As := [Value.int (nI (byA w4 (kk - 1)))]) (rest := []) ⟨hx, hb, hml, hown, hts⟩ (c_M_write l dC dI cI cM cO H.size o g fForm fShift fModels (nI its.length) fEnded fLow fRange fCache fPend fOuts fIns fReads fBad fIR fAsk fBAsk fCode fRL fRR fX (nI w4.length) fThrown vG b9 (byA w4 (kk - 1)) (hg2) (by omega) (by have := hob4 (kk - 1); omega)) (cwV 1 hts (my_gV k1107 k1109 ks32 k12 k1110) rfl rfl rfl (by decide +kernel) ⟨by rw [hR]; exact Nat.le_of_ble_eq_true rfl, by rw [hR]; exact Nat.le_of_ble_eq_true rfl⟩) (my_preV hK hN (hP.sub [0, 4] rfl) (hD.sub [0, 4] (by decide +kernel) rfl) 0 rfl rfl) rfl rfl hl.1 rfl (lv_room (Nat.le_of_ble_eq_true rfl)) d_M_endStack_223 ⟨by rw [hR]; exact Nat.le_of_ble_eq_true rfl, by rw [hR]; exact Nat.le_of_ble_eq_true rfl⟩) hP hD hS hA [0, 4] [1, 2, 3, 5] rfl rfl (by decide +kernel) (by decide +kernel) (fun u9 _ _ hw_223 _ _ _ => ?_)
                    clear hP hD hS
                    rename_i H locs hP hD hS
                    obtain ⟨v2_223, rfl⟩ : ∃ z, z = u9 := ⟨_, rfl⟩
                    have hw_223 : gIs v2_223 (b9 ++ [(byA w4 (kk - 1)) % 256]) := hw_223
                    have hPD : my_PD (dC, dI) vwCl A [((g 2), Sum.inl (cI, 512, Sum.inl vNow)), ((g 4), Sum.inl (cI, 600, Sum.inl vIM)), ((g 5), Sum.inl (cI, 600, Sum.inl vIW)), ((g 11), Sum.inl (cI, 20000, Sum.inl vJ)), (o, Sum.inr (9, mO g fForm fShift fModels (nI its.length) fEnded fLow fRange fCache fPend (nI (b9 ++ [(byA w4 (kk - 1)) % 256]).length) fOuts fIns fReads fBad fIR fAsk fBAsk fCode fRL fRR fX (nI w4.length) fThrown)), ((g 6), Sum.inl (cI, 9000, Sum.inl v2_223))] H := ⟨hP, hD⟩
                    clear hP hD
                    have hP := hPD.1
                    have hD := hPD.2
                    clear hPD
                    obtain ⟨v_7, ev_7⟩ : ∃ y : Int32, y = i9 + (-1) := ⟨_, rfl⟩
                    refine lv_iinc (v := v_7) (lv' := [(3, Value.int v_7), (0, Value.ref o)]) hx hb d_M_endStack_226 hl (k := 0) rfl (by rw [ev_7]; rfl) (by decide) rfl (fun _ _ => ?_)
                    clear hl
                    rename_i ls hl
                    refine lv_goto (tgt := 212) hx hb d_M_endStack_229 (by decide) ?_
                    exact ih9_212 _ (by first | omega | (omega)) v_7 (kk - 1) (b9 ++ [(byA w4 (kk - 1)) % 256]) v2_223 rfl (by rw [ev_7, Int32.add_assoc, show (-1 : Int32) + 1 = 0 from by decide, Int32.add_zero]; exact hi9) (by omega) (by have z := rv_st hkp (by rw [hW]; exact hkk) hE2; rw [hW] at z ⊢; exact z) (hw_223) (by rw [List.length_append, List.length_singleton]; omega) H locs ls (hP.sub [4, 0, 1, 2, 5, 3] rfl) (hD.sub [4, 0, 1, 2, 5, 3] (by decide +kernel) rfl) hS (lv_sub hl [0, 1] rfl)
              exact J_212 _ v_4 w4.length bs vGoing rfl (by rw [ev_4, Int32.sub_add_cancel]) (Nat.le_refl _) (by rw [hW, List.take_length]) (hG) (by omega) H locs ls (hP.sub [0, 1, 2, 3, 4, 5] rfl) (hD.sub [0, 1, 2, 3, 4, 5] (by decide +kernel) rfl) hS (lv_sub hl [0, 2] rfl)
            · have hj4 : jj < 4 := by
                rcases Nat.lt_or_ge jj 4 with z | z
                · exact z
                · exact absurd (by rw [hi]; exact nI_le (a := 4) z (by omega)) c_3
              refine lv_aload_n hx hb d_M_endStack_169 rfl (lv_at hl 2 rfl) ?_
              refine va_get (D := (dC, dI)) (ci := 9) (v := .ref (g 11)) (C := "RangeCodersModel") (T := T_M) (N := 35) hx hb hg in_M hown hK hP 0 rfl rfl 32 (by decide) (hg _ k984) (fun _ h9 => h9) rfl d_M_endStack_170 ?_
              refine lv_aload_n hx hb d_M_endStack_173 rfl (lv_at hl 2 rfl) ?_
              refine va_get (D := (dC, dI)) (ci := 9) (v := .int (nI w4.length)) (C := "RangeCodersModel") (T := T_M) (N := 35) hx hb hg in_M hown hK hP 0 rfl rfl 33 (by decide) (hg _ k985) (fun _ h9 => h9) rfl d_M_endStack_174 ?_
              refine lv_lload_n hx hb d_M_endStack_177 rfl (lv_at hl 1 rfl) ?_
              refine lv_ldc2 (v := 255) hx hb hown (hg _ k1111) d_M_endStack_178 ?_
              refine lv_land hx hb d_M_endStack_181 ?_
              refine lv_topl (fun v_8 ev_8 => ?_)
              refine lv_l2i hx hb d_M_endStack_182 rfl ?_
              refine lv_topi (fun v_9 ev_9 => ?_)
              have hval : v_9 = nI (x4 % 256) := by rw [ev_9, ev_8, L_and8 (by omega)]; exact lN_i _
              refine va_iast hx hb hK hP hD hS 5 0 rfl rfl (vp_in_nI (by omega) (by decide)) d_M_endStack_183 (fun _ _ _ _ _ => ?_)
              clear hP hD hS
              rename_i H locs hP hD hS
              have hPD : my_PD (dC, dI) vwCl A [(o, Sum.inr (9, mO g fForm fShift fModels (nI its.length) fEnded fLow fRange fCache fPend (nI bs.length) fOuts fIns fReads fBad fIR fAsk fBAsk fCode fRL fRR fX (nI w4.length) fThrown)), ((g 2), Sum.inl (cI, 512, Sum.inl vNow)), ((g 4), Sum.inl (cI, 600, Sum.inl vIM)), ((g 5), Sum.inl (cI, 600, Sum.inl vIW)), ((g 6), Sum.inl (cI, 9000, Sum.inl vGoing)), ((g 11), Sum.inl (cI, 20000, Sum.inl (upd vJ (nI w4.length).toNatClampNeg v_9)))] H := ⟨hP, hD⟩
              clear hP hD
              have hP := hPD.1
              have hD := hPD.2
              clear hPD
              refine lv_aload_n hx hb d_M_endStack_184 rfl (lv_at hl 2 rfl) ?_
              refine lv_dup hx hb d_M_endStack_185 rfl ?_
              refine va_get (D := (dC, dI)) (ci := 9) (v := .int (nI w4.length)) (C := "RangeCodersModel") (T := T_M) (N := 35) hx hb hg in_M hown hK hP 0 rfl rfl 33 (by decide) (hg _ k985) (fun _ h9 => h9) rfl d_M_endStack_186 ?_
              refine lv_iconst (v := 1) hx hb d_M_endStack_189 (by decide) ?_
              refine lv_iadd hx hb d_M_endStack_190 ?_
              refine lv_topi (fun v_10 ev_10 => ?_)
              have z9 : v_10 = nI (w4 ++ [x4 % 256]).length := by rw [ev_10, List.length_append]; exact nI_1 _
              subst z9
              refine va_put (D := (dC, dI)) (ci := 9) (v := .int (nI (w4 ++ [x4 % 256]).length)) (ty := .int) (C := "RangeCodersModel") (T := T_M) (N := 35) hx hb hg in_M t_M o_M n_M hown hK hP hD hS 0 rfl rfl 33 (by decide) (hg _ k985) (fun _ h9 => h9) rfl (by decide +kernel) rfl rfl (Nat.le_of_ble_eq_true rfl) d_M_endStack_191 (fun _ _ _ _ _ => ?_)
              clear hP hD hS
              rename_i H locs hP hD hS
              have hPD : my_PD (dC, dI) vwCl A [(o, Sum.inr (9, mO g fForm fShift fModels (nI its.length) fEnded fLow fRange fCache fPend (nI bs.length) fOuts fIns fReads fBad fIR fAsk fBAsk fCode fRL fRR fX (nI (w4 ++ [x4 % 256]).length) fThrown)), ((g 2), Sum.inl (cI, 512, Sum.inl vNow)), ((g 4), Sum.inl (cI, 600, Sum.inl vIM)), ((g 5), Sum.inl (cI, 600, Sum.inl vIW)), ((g 6), Sum.inl (cI, 9000, Sum.inl vGoing)), ((g 11), Sum.inl (cI, 20000, Sum.inl (upd vJ (nI w4.length).toNatClampNeg v_9)))] H := ⟨hP, hD⟩
              clear hP hD
              have hP := hPD.1
              have hD := hPD.2
              clear hPD
              refine lv_lload_n hx hb d_M_endStack_194 rfl (lv_at hl 1 rfl) ?_
              refine lv_bipush (v := 8) hx hb d_M_endStack_195 (by decide) ?_
              refine lv_lshr hx hb d_M_endStack_197 rfl ?_
              refine lv_topl (fun v_11 ev_11 => ?_)
              have z9 : v_11 = lN (x4 / 256) := by rw [ev_11]; exact L_shr8 (by omega)
              subst z9
              refine lv_lstore_n (lv' := [(1, Value.long (lN (x4 / 256))), (3, Value.int i9), (0, Value.ref o)]) hx hb d_M_endStack_198 rfl hl (by decide) rfl (fun _ _ => ?_)
              clear hl
              rename_i ls hl
              obtain ⟨v_12, ev_12⟩ : ∃ y : Int32, y = i9 + (1) := ⟨_, rfl⟩
              refine lv_iinc (v := v_12) (lv' := [(3, Value.int v_12), (1, Value.long (lN (x4 / 256))), (0, Value.ref o)]) hx hb d_M_endStack_199 hl (k := 1) rfl (by rw [ev_12]; rfl) (by decide) rfl (fun _ _ => ?_)
              clear hl
              rename_i ls hl
              refine lv_goto (tgt := 164) hx hb d_M_endStack_202 (by decide) ?_
              exact ih9_164 _ (by first | omega | (omega)) v_12 (jj + 1) (x4 / 256) (w4 ++ [x4 % 256]) (upd vJ (nI w4.length).toNatClampNeg v_9) rfl (by rw [ev_12, hi]; exact nI_1 _) (by omega) (by rw [hE4, show 4 - jj = (4 - (jj + 1)) + 1 by omega, b4, List.append_assoc]; rfl) (by omega) (gIs_up hg4 (nI_clamp (by omega)) hval) (by rw [List.length_append, List.length_singleton]; omega) (oct_add hob4 (Nat.mod_lt _ (by decide))) H locs ls (hP.sub [0, 1, 2, 3, 4, 5] rfl) (hD.sub [0, 1, 2, 3, 4, 5] (by decide +kernel) rfl) hS (lv_sub hl [0, 1, 2] rfl)
        exact J_164 _ 0 0 r9.1 r9.2 vK rfl (rfl) (Nat.zero_le _) (by unfold e3S; rw [hE9, hk0]; rfl) (hX2) (hgw) (by omega) (hob) H locs ls (hP.sub [0, 1, 2, 3, 4, 5] rfl) (hD.sub [0, 1, 2, 3, 4, 5] (by decide +kernel) rfl) hS (lv_sub hl [0, 1, 2] rfl)
      · have hk0 : 1 ≤ k := by
          rcases Nat.eq_zero_or_pos k with z | z
          · subst z; exact absurd (show i9 < 0 by rw [show i9 = -1 from by rw [← Int32.add_sub_cancel (a := i9) (b := 1), hi]; rfl]; decide) c_2
          · exact z
        have hi9 : i9 = nI (k - 1) := by rw [← Int32.add_sub_cancel (a := i9) (b := 1), hi]; exact pk_sub (b := 1) hk0
        have hitk := hit (k - 1) (by omega)
        have hokk := hok (k - 1) (by omega)
        have hb3 := it3_b hokk
        obtain ⟨ff, hff⟩ : ∃ z, z = itF 4096 Fn (itA its (k - 1)) := ⟨_, rfl⟩
        obtain ⟨cc, hcc⟩ : ∃ z, z = itC 4096 Fn (itA its (k - 1)) := ⟨_, rfl⟩
        rw [← hff, ← hcc] at hb3
        obtain ⟨hf0, hcf⟩ := hb3
        refine lv_aload_n hx hb d_M_endStack_20 rfl (lv_at hl 2 rfl) ?_
        refine va_get (D := (dC, dI)) (ci := 9) (v := .ref (g 4)) (C := "RangeCodersModel") (T := T_M) (N := 35) hx hb hg in_M hown hK hP 0 rfl rfl 8 (by decide) (hg _ k960) (fun _ h9 => h9) rfl d_M_endStack_21 ?_
        refine lv_iload_n hx hb d_M_endStack_24 rfl (lv_at hl 0 rfl) ?_
        refine va_iald hx hb hK hP 2 0 rfl rfl (by rw [hi9]; exact vp_in_nI (by omega) (by decide)) d_M_endStack_25 ?_
        refine lv_topi (fun v_13 ev_13 => ?_)
        have z9 : v_13 = itM (itA its (k - 1)) := by rw [ev_13, hi9, nI_clamp (by omega)]; exact hitk.1
        subst z9
        refine lv_istore (lv' := [(4, Value.int (itM (itA its (k - 1)))), (3, Value.int i9), (1, Value.long (lN r9.1)), (0, Value.ref o)]) hx hb d_M_endStack_26 hl (by decide) rfl (fun _ _ => ?_)
        clear hl
        rename_i ls hl
        refine lv_aload_n hx hb d_M_endStack_28 rfl (lv_at hl 3 rfl) ?_
        refine va_get (D := (dC, dI)) (ci := 9) (v := .ref (g 5)) (C := "RangeCodersModel") (T := T_M) (N := 35) hx hb hg in_M hown hK hP 0 rfl rfl 9 (by decide) (hg _ k961) (fun _ h9 => h9) rfl d_M_endStack_29 ?_
        refine lv_iload_n hx hb d_M_endStack_32 rfl (lv_at hl 1 rfl) ?_
        refine va_iald hx hb hK hP 3 0 rfl rfl (by rw [hi9]; exact vp_in_nI (by omega) (by decide)) d_M_endStack_33 ?_
        refine lv_topi (fun v_14 ev_14 => ?_)
        have z9 : v_14 = nI (itA its (k - 1)).2.2 := by rw [ev_14, hi9, nI_clamp (by omega)]; exact hitk.2
        subst z9
        refine lv_istore (lv' := [(5, Value.int (nI (itA its (k - 1)).2.2)), (4, Value.int (itM (itA its (k - 1)))), (3, Value.int i9), (1, Value.long (lN r9.1)), (0, Value.ref o)]) hx hb d_M_endStack_34 hl (by decide) rfl (fun _ _ => ?_)
        clear hl
        rename_i ls hl
        have J_97 : ∀ (n9_97 : Nat) (r8 : Nat × List Nat) (vJ : Nat → Int32) (k8 : Nat) (hn9_97 : k8 = n9_97) (hE8 : s3N ff 8 r9 = s3N ff k8 r8) (hk6 : 6 ≤ k8) (hk8 : k8 ≤ 8) (hx8 : r8.1 < xb k8) (hlow : ff * 2048 ≤ r8.1) (hgw8 : gIs vJ r8.2) (hlw8 : r8.2.length + k8 ≤ r9.2.length + 8) (hob8 : oct r8.2) (H : Heap) (locs : List Loc) (ls : Array Slot), va_P (dC, dI) vwCl [(o, Sum.inr (9, mO g fForm fShift fModels (nI its.length) fEnded fLow fRange fCache fPend (nI bs.length) fOuts fIns fReads fBad fIR fAsk fBAsk fCode fRL fRR fX (nI r8.2.length) fThrown)), ((g 2), Sum.inl (cI, 512, Sum.inl vNow)), ((g 4), Sum.inl (cI, 600, Sum.inl vIM)), ((g 5), Sum.inl (cI, 600, Sum.inl vIW)), ((g 6), Sum.inl (cI, 9000, Sum.inl vGoing)), ((g 11), Sum.inl (cI, 20000, Sum.inl vJ))] H → va_D A [(o, Sum.inr (9, mO g fForm fShift fModels (nI its.length) fEnded fLow fRange fCache fPend (nI bs.length) fOuts fIns fReads fBad fIR fAsk fBAsk fCode fRL fRR fX (nI r8.2.length) fThrown)), ((g 2), Sum.inl (cI, 512, Sum.inl vNow)), ((g 4), Sum.inl (cI, 600, Sum.inl vIM)), ((g 5), Sum.inl (cI, 600, Sum.inl vIW)), ((g 6), Sum.inl (cI, 9000, Sum.inl vGoing)), ((g 11), Sum.inl (cI, 20000, Sum.inl vJ))] → va_S A s.heap H locs → lv_has ls 10 [(8, Value.long (lN cc)), (6, Value.long (lN ff)), (1, Value.long (lN r8.1)), (3, Value.int i9), (0, Value.ref o)] → W p l e R s m args below meth c H locs 0 0 Q (F0 m 97 ls []) := by
          intro n9_97
          induction n9_97 using Nat.strongRecOn with
          | ind n9_97 ih9_97 =>
            intro r8 vJ k8 hn9_97 hE8 hk6 hk8 hx8 hlow hgw8 hlw8 hob8 H locs ls hP hD hS hl
            have hxl := xb_le (k := k8)
            refine lv_lload_n hx hb d_M_endStack_97 rfl (lv_at hl 2 rfl) ?_
            refine lv_lload hx hb d_M_endStack_98 (lv_at hl 1 rfl) ?_
            refine lv_bipush (v := 19) hx hb d_M_endStack_100 (by decide) ?_
            refine lv_lshl hx hb d_M_endStack_102 rfl ?_
            refine lv_topl (fun v_15 ev_15 => ?_)
            have hshl : v_15 = lN (ff * 524288) := by rw [ev_15]; exact L_shl19 _
            refine W.lcmp hx hb d_M_endStack_103 ?_
            refine lv_if_lt (tgt := 140) hx hb d_M_endStack_104 (by decide) (fun c_16 => ?_) (fun c_16 => ?_)
            · rw [lg_cmp_lt] at c_16
              have hge : ¬ ff * 524288 ≤ r8.1 := by
                intro z
                have hc9 := c_16
                rw [hshl] at hc9
                have := (L_lt (by omega) (by omega)).mp hc9
                omega
              have hdl : r8.1 / ff ≤ r8.1 := Nat.div_le_self _ _
              have hml := Nat.mod_lt r8.1 hf0
              have hr62 : r8.1 < 2 ^ 63 := by omega
              have hf62 : ff < 2 ^ 63 := by omega
              refine lv_lload_n hx hb d_M_endStack_140 rfl (lv_at hl 2 rfl) ?_
              refine lv_lload hx hb d_M_endStack_141 (lv_at hl 1 rfl) ?_
              refine lv_ldiv hx hb d_M_endStack_143 (fun z => absurd ((pk_lEQ (b := 0) (by omega) (by decide)).mp z) (by omega)) ?_
              refine lv_topl (fun v_17 ev_17 => ?_)
              have z9 : v_17 = lN (r8.1 / ff) := by rw [ev_17]; exact pk_lDiv hr62 hf0 hf62
              subst z9
              refine lv_bipush (v := 12) hx hb d_M_endStack_144 (by decide) ?_
              refine lv_lshl hx hb d_M_endStack_146 rfl ?_
              refine lv_topl (fun v_18 ev_18 => ?_)
              have z9 : v_18 = lN (r8.1 / ff * 4096) := by rw [ev_18]; exact L_shl12 _
              subst z9
              refine lv_lload_n hx hb d_M_endStack_147 rfl (lv_at hl 2 rfl) ?_
              refine lv_lload hx hb d_M_endStack_148 (lv_at hl 1 rfl) ?_
              refine lv_lrem hx hb d_M_endStack_150 (fun z => absurd ((pk_lEQ (b := 0) (by omega) (by decide)).mp z) (by omega)) ?_
              refine lv_topl (fun v_19 ev_19 => ?_)
              have z9 : v_19 = lN (r8.1 % ff) := by rw [ev_19]; exact pk_lRem hr62 hf0 hf62
              subst z9
              refine lv_ladd hx hb d_M_endStack_151 ?_
              refine lv_topl (fun v_20 ev_20 => ?_)
              have z9 : v_20 = lN (r8.1 / ff * 4096 + r8.1 % ff) := by rw [ev_20]; exact lN_add _ _
              subst z9
              refine lv_lload hx hb d_M_endStack_152 (lv_at hl 0 rfl) ?_
              refine lv_ladd hx hb d_M_endStack_154 ?_
              refine lv_topl (fun v_21 ev_21 => ?_)
              have z9 : v_21 = lN (r8.1 / ff * 4096 + r8.1 % ff + cc) := by rw [ev_21]; exact lN_add _ _
              subst z9
              refine lv_lstore_n (lv' := [(1, Value.long (lN (r8.1 / ff * 4096 + r8.1 % ff + cc))), (8, Value.long (lN cc)), (6, Value.long (lN ff)), (3, Value.int i9), (0, Value.ref o)]) hx hb d_M_endStack_155 rfl hl (by decide) rfl (fun _ _ => ?_)
              clear hl
              rename_i ls hl
              obtain ⟨v_22, ev_22⟩ : ∃ y : Int32, y = i9 + (-1) := ⟨_, rfl⟩
              refine lv_iinc (v := v_22) (lv' := [(3, Value.int v_22), (1, Value.long (lN (r8.1 / ff * 4096 + r8.1 % ff + cc))), (8, Value.long (lN cc)), (6, Value.long (lN ff)), (0, Value.ref o)]) hx hb d_M_endStack_156 hl (k := 3) rfl (by rw [ev_22]; rfl) (by decide) rfl (fun _ _ => ?_)
              clear hl
              rename_i ls hl
              refine lv_goto (tgt := 16) hx hb d_M_endStack_159 (by decide) ?_
              exact ih9_16 _ (by first | omega | (omega)) v_22 (k - 1) (r8.1 / ff * 4096 + r8.1 % ff + cc, r8.2) vJ rfl (by rw [ev_22, Int32.add_assoc, show (-1 : Int32) + 1 = 0 from by decide, Int32.add_zero]; exact hi9) (by omega) (by rw [hE9, show e3N Fn its k r9 = e3N Fn its (k - 1 + 1) r9 by rw [Nat.sub_add_cancel hk0], e3N]; unfold s3I; rw [← hff, ← hcc, hE8, s3N_e hge]) ((s3_fin hf0 hlow (by omega) hcf).1) ((s3_fin hf0 hlow (by omega) hcf).2) (hgw8) (by show r8.2.length + _ ≤ _; omega) (hob8) H locs ls (hP.sub [0, 1, 2, 3, 4, 5] rfl) (hD.sub [0, 1, 2, 3, 4, 5] (by decide +kernel) rfl) hS (lv_sub hl [0, 1, 4] rfl)
            · rw [lg_cmp_lt] at c_16
              have hge2 : ff * 524288 ≤ r8.1 := by
                rcases Nat.lt_or_ge r8.1 (ff * 524288) with z | z
                · exact absurd (by rw [hshl]; exact (L_lt (by omega) (by omega)).mpr z) c_16
                · exact z
              have hk7 := xb_k hk6 hk8 hf0 hx8 hge2
              refine lv_aload_n hx hb d_M_endStack_107 rfl (lv_at hl 4 rfl) ?_
              refine va_get (D := (dC, dI)) (ci := 9) (v := .ref (g 11)) (C := "RangeCodersModel") (T := T_M) (N := 35) hx hb hg in_M hown hK hP 0 rfl rfl 32 (by decide) (hg _ k984) (fun _ h9 => h9) rfl d_M_endStack_108 ?_
              refine lv_aload_n hx hb d_M_endStack_111 rfl (lv_at hl 4 rfl) ?_
              refine va_get (D := (dC, dI)) (ci := 9) (v := .int (nI r8.2.length)) (C := "RangeCodersModel") (T := T_M) (N := 35) hx hb hg in_M hown hK hP 0 rfl rfl 33 (by decide) (hg _ k985) (fun _ h9 => h9) rfl d_M_endStack_112 ?_
              refine lv_lload_n hx hb d_M_endStack_115 rfl (lv_at hl 2 rfl) ?_
              refine lv_ldc2 (v := 255) hx hb hown (hg _ k1111) d_M_endStack_116 ?_
              refine lv_land hx hb d_M_endStack_119 ?_
              refine lv_topl (fun v_23 ev_23 => ?_)
              refine lv_l2i hx hb d_M_endStack_120 rfl ?_
              refine lv_topi (fun v_24 ev_24 => ?_)
              have hval : v_24 = nI (r8.1 % 256) := by rw [ev_24, ev_23, L_and8 (by omega)]; exact lN_i _
              refine va_iast hx hb hK hP hD hS 5 0 rfl rfl (vp_in_nI (by omega) (by decide)) d_M_endStack_121 (fun _ _ _ _ _ => ?_)
              clear hP hD hS
              rename_i H locs hP hD hS
              have hPD : my_PD (dC, dI) vwCl A [(o, Sum.inr (9, mO g fForm fShift fModels (nI its.length) fEnded fLow fRange fCache fPend (nI bs.length) fOuts fIns fReads fBad fIR fAsk fBAsk fCode fRL fRR fX (nI r8.2.length) fThrown)), ((g 2), Sum.inl (cI, 512, Sum.inl vNow)), ((g 4), Sum.inl (cI, 600, Sum.inl vIM)), ((g 5), Sum.inl (cI, 600, Sum.inl vIW)), ((g 6), Sum.inl (cI, 9000, Sum.inl vGoing)), ((g 11), Sum.inl (cI, 20000, Sum.inl (upd vJ (nI r8.2.length).toNatClampNeg v_24)))] H := ⟨hP, hD⟩
              clear hP hD
              have hP := hPD.1
              have hD := hPD.2
              clear hPD
              refine lv_aload_n hx hb d_M_endStack_122 rfl (lv_at hl 4 rfl) ?_
              refine lv_dup hx hb d_M_endStack_123 rfl ?_
              refine va_get (D := (dC, dI)) (ci := 9) (v := .int (nI r8.2.length)) (C := "RangeCodersModel") (T := T_M) (N := 35) hx hb hg in_M hown hK hP 0 rfl rfl 33 (by decide) (hg _ k985) (fun _ h9 => h9) rfl d_M_endStack_124 ?_
              refine lv_iconst (v := 1) hx hb d_M_endStack_127 (by decide) ?_
              refine lv_iadd hx hb d_M_endStack_128 ?_
              refine lv_topi (fun v_25 ev_25 => ?_)
              have z9 : v_25 = nI (r8.2 ++ [r8.1 % 256]).length := by rw [ev_25, List.length_append]; exact nI_1 _
              subst z9
              refine va_put (D := (dC, dI)) (ci := 9) (v := .int (nI (r8.2 ++ [r8.1 % 256]).length)) (ty := .int) (C := "RangeCodersModel") (T := T_M) (N := 35) hx hb hg in_M t_M o_M n_M hown hK hP hD hS 0 rfl rfl 33 (by decide) (hg _ k985) (fun _ h9 => h9) rfl (by decide +kernel) rfl rfl (Nat.le_of_ble_eq_true rfl) d_M_endStack_129 (fun _ _ _ _ _ => ?_)
              clear hP hD hS
              rename_i H locs hP hD hS
              have hPD : my_PD (dC, dI) vwCl A [(o, Sum.inr (9, mO g fForm fShift fModels (nI its.length) fEnded fLow fRange fCache fPend (nI bs.length) fOuts fIns fReads fBad fIR fAsk fBAsk fCode fRL fRR fX (nI (r8.2 ++ [r8.1 % 256]).length) fThrown)), ((g 2), Sum.inl (cI, 512, Sum.inl vNow)), ((g 4), Sum.inl (cI, 600, Sum.inl vIM)), ((g 5), Sum.inl (cI, 600, Sum.inl vIW)), ((g 6), Sum.inl (cI, 9000, Sum.inl vGoing)), ((g 11), Sum.inl (cI, 20000, Sum.inl (upd vJ (nI r8.2.length).toNatClampNeg v_24)))] H := ⟨hP, hD⟩
              clear hP hD
              have hP := hPD.1
              have hD := hPD.2
              clear hPD
              refine lv_lload_n hx hb d_M_endStack_132 rfl (lv_at hl 2 rfl) ?_
              refine lv_bipush (v := 8) hx hb d_M_endStack_133 (by decide) ?_
              refine lv_lshr hx hb d_M_endStack_135 rfl ?_
              refine lv_topl (fun v_26 ev_26 => ?_)
              have z9 : v_26 = lN (r8.1 / 256) := by rw [ev_26]; exact L_shr8 (by omega)
              subst z9
              refine lv_lstore_n (lv' := [(1, Value.long (lN (r8.1 / 256))), (8, Value.long (lN cc)), (6, Value.long (lN ff)), (3, Value.int i9), (0, Value.ref o)]) hx hb d_M_endStack_136 rfl hl (by decide) rfl (fun _ _ => ?_)
              clear hl
              rename_i ls hl
              refine lv_goto (tgt := 97) hx hb d_M_endStack_137 (by decide) ?_
              exact ih9_97 _ (by first | omega | (omega)) (r8.1 / 256, r8.2 ++ [r8.1 % 256]) (upd vJ (nI r8.2.length).toNatClampNeg v_24) (k8 - 1) rfl (by rw [hE8, s3N_s (by omega) hge2]) (by omega) (by omega) (xb_s hk7 hk8 hx8) (by show ff * 2048 ≤ r8.1 / 256; omega) (gIs_up hgw8 (nI_clamp (by omega)) hval) (by show (r8.2 ++ [r8.1 % 256]).length + _ ≤ _; rw [List.length_append, List.length_singleton]; omega) (oct_add hob8 (Nat.mod_lt _ (by decide))) H locs ls (hP.sub [0, 1, 2, 3, 4, 5] rfl) (hD.sub [0, 1, 2, 3, 4, 5] (by decide +kernel) rfl) hS (lv_sub hl [1, 2, 0, 3, 4] rfl)
        refine lv_iload hx hb d_M_endStack_36 (lv_at hl 1 rfl) ?_
        refine lv_if_ge (tgt := 52) hx hb d_M_endStack_38 (by decide) (fun c_27 => ?_) (fun c_27 => ?_)
        · have hkd : ¬ (itA its (k - 1)).1 = 0 := fun z => absurd c_27 ((itM_neg hokk).mpr z)
          obtain ⟨hd1, hd2, hd3, hd4, hd5, hd6⟩ : (itA its (k - 1)).2.1 < 8 ∧ N (itA its (k - 1)).2.1 ≤ 64 ∧ (itA its (k - 1)).2.2 < N (itA its (k - 1)).2.1 ∧ 0 < Fn (itA its (k - 1)).2.1 (itA its (k - 1)).2.2 ∧ ns (Fn (itA its (k - 1)).2.1) (N (itA its (k - 1)).2.1) = 4096 ∧ sgI vNow (64 * (itA its (k - 1)).2.1) (N (itA its (k - 1)).2.1) (Fn (itA its (k - 1)).2.1) := hokk.elim (fun z => absurd z.1 hkd) (fun z => z.2)
          have hmI : itM (itA its (k - 1)) = nI (itA its (k - 1)).2.1 := by unfold itM; rw [if_neg hkd]
          have hns := ns_m (Fn (itA its (k - 1)).2.1) (Nat.le_of_lt hd3)
          have hng := ns_ge (F := Fn (itA its (k - 1)).2.1) hd3
          rw [hmI] at hl
          refine lv_aload_n hx hb d_M_endStack_52 rfl (lv_at hl 4 rfl) ?_
          refine va_get (D := (dC, dI)) (ci := 9) (v := .ref (g 2)) (C := "RangeCodersModel") (T := T_M) (N := 35) hx hb hg in_M hown hK hP 0 rfl rfl 5 (by decide) (hg _ k957) (fun _ h9 => h9) rfl d_M_endStack_53 ?_
          refine lv_bipush (v := 64) hx hb d_M_endStack_56 (by decide) ?_
          refine lv_iload hx hb d_M_endStack_58 (lv_at hl 1 rfl) ?_
          refine lv_imul hx hb d_M_endStack_60 ?_
          refine lv_topi (fun v_28 ev_28 => ?_)
          refine lv_iload hx hb d_M_endStack_61 (lv_at hl 0 rfl) ?_
          refine lv_iadd hx hb d_M_endStack_63 ?_
          refine lv_topi (fun v_29 ev_29 => ?_)
          have hix : v_29 = nI (64 * (itA its (k - 1)).2.1 + (itA its (k - 1)).2.2) := by rw [ev_29, ev_28]; exact ix64
          refine va_iald hx hb hK hP 1 0 rfl rfl (by rw [hix]; exact vp_in_nI (by omega) (by decide)) d_M_endStack_64 ?_
          refine lv_topi (fun v_30 ev_30 => ?_)
          refine lv_i2l hx hb d_M_endStack_65 rfl ?_
          refine lv_topl (fun v_31 ev_31 => ?_)
          have z9 : v_31 = lN ff := by rw [hff]; unfold itF; rw [if_neg hkd, ev_31, ev_30, hix, nI_clamp (by omega), hd6 _ hd3]; exact nI_l (by omega)
          subst z9
          refine lv_lstore (lv' := [(6, Value.long (lN ff)), (5, Value.int (nI (itA its (k - 1)).2.2)), (4, Value.int (nI (itA its (k - 1)).2.1)), (3, Value.int i9), (1, Value.long (lN r9.1)), (0, Value.ref o)]) hx hb d_M_endStack_66 hl (by decide) rfl (fun _ _ => ?_)
          clear hl
          rename_i ls hl
          refine lv_iload hx hb d_M_endStack_68 (lv_at hl 2 rfl) ?_
          refine lv_if_ge (tgt := 82) hx hb d_M_endStack_70 (by decide) (fun c_32 => ?_) (fun c_32 => ?_)
          · refine lv_aload_n hx hb d_M_endStack_82 rfl (lv_at hl 5 rfl) ?_
            refine lv_aload_n hx hb d_M_endStack_83 rfl (lv_at hl 5 rfl) ?_
            refine va_get (D := (dC, dI)) (ci := 9) (v := .ref (g 2)) (C := "RangeCodersModel") (T := T_M) (N := 35) hx hb hg in_M hown hK hP 0 rfl rfl 5 (by decide) (hg _ k957) (fun _ h9 => h9) rfl d_M_endStack_84 ?_
            refine lv_iload hx hb d_M_endStack_87 (lv_at hl 2 rfl) ?_
            refine lv_iload hx hb d_M_endStack_89 (lv_at hl 1 rfl) ?_
            refine my_ci (wr := [((g 4), Sum.inl (cI, 600, Sum.inl vIM)), ((g 5), Sum.inl (cI, 600, Sum.inl vIW)), ((g 6), Sum.inl (cI, 9000, Sum.inl vGoing)), ((g 11), Sum.inl (cI, 20000, Sum.inl vK))]) (va_runV (As := [Value.ref (g 2), Value.int (nI (itA its (k - 1)).2.1), Value.int (nI (itA its (k - 1)).2.2)]) (rest := []) ⟨hx, hb, hml, hown, hts⟩ (c_M_before l dC dI cI cM cO H.size o g fForm fShift fModels (nI its.length) fEnded fLow fRange fCache fPend (nI bs.length) fOuts fIns fReads fBad fIR fAsk fBAsk fCode fRL fRR fX (nI r9.2.length) fThrown (g 2) vNow ((itA its (k - 1)).2.1) ((itA its (k - 1)).2.2) (Fn (itA its (k - 1)).2.1) (hd1) (by omega) (sgI_w hd6 (Nat.le_of_lt hd3))) (cwV 3 hts (my_gV k1089 k1091 ks28 k12 k1092) rfl rfl rfl (by decide +kernel) ⟨by rw [hR]; exact Nat.le_of_ble_eq_true rfl, by rw [hR]; exact Nat.le_of_ble_eq_true rfl⟩) (my_preV hK hN (hP.sub [0, 1] rfl) (hD.sub [0, 1] (by decide +kernel) rfl) 0 rfl rfl) rfl rfl hl.1 rfl (lv_room (Nat.le_of_ble_eq_true rfl)) d_M_endStack_91 ⟨by rw [hR]; exact Nat.le_of_ble_eq_true rfl, by rw [hR]; exact Nat.le_of_ble_eq_true rfl⟩) hP hD hS hA [0, 1] [2, 3, 4, 5] rfl rfl (by decide +kernel) (by decide +kernel) (fun r_91 u9 _ _ hw_91 _ _ _ => ?_)
            clear hP hD hS
            rename_i H locs hP hD hS
            have hw_91 : r_91 = nI (ns (Fn (itA its (k - 1)).2.1) ((itA its (k - 1)).2.2)) := hw_91
            have hPD : my_PD (dC, dI) vwCl A [((g 4), Sum.inl (cI, 600, Sum.inl vIM)), ((g 5), Sum.inl (cI, 600, Sum.inl vIW)), ((g 6), Sum.inl (cI, 9000, Sum.inl vGoing)), ((g 11), Sum.inl (cI, 20000, Sum.inl vK)), (o, Sum.inr (9, mO g fForm fShift fModels (nI its.length) fEnded fLow fRange fCache fPend (nI bs.length) fOuts fIns fReads fBad fIR fAsk fBAsk fCode fRL fRR fX (nI r9.2.length) fThrown)), ((g 2), Sum.inl (cI, 512, Sum.inl vNow))] H := ⟨hP, hD⟩
            clear hP hD
            have hP := hPD.1
            have hD := hPD.2
            clear hPD
            refine lv_i2l hx hb d_M_endStack_94 rfl ?_
            refine lv_topl (fun v_33 ev_33 => ?_)
            have z9 : v_33 = lN cc := by rw [hcc]; unfold itC; rw [if_neg hkd, ev_33, hw_91]; exact nI_l (by omega)
            subst z9
            refine lv_lstore (lv' := [(8, Value.long (lN cc)), (6, Value.long (lN ff)), (5, Value.int (nI (itA its (k - 1)).2.2)), (4, Value.int (nI (itA its (k - 1)).2.1)), (3, Value.int i9), (1, Value.long (lN r9.1)), (0, Value.ref o)]) hx hb d_M_endStack_95 hl (by decide) rfl (fun _ _ => ?_)
            clear hl
            rename_i ls hl
            exact J_97 _ r9 vK 8 rfl (rfl) (by decide) (by decide) (by show r9.1 < xb 8; exact hX2) (by omega) (hgw) (by omega) (hob) H locs ls (hP.sub [4, 5, 0, 1, 2, 3] rfl) (hD.sub [4, 5, 0, 1, 2, 3] (by decide +kernel) rfl) hS (lv_sub hl [0, 1, 5, 4, 6] rfl)
          · exact absurd (nI_pos' (by omega)) c_32
        · have hkd : (itA its (k - 1)).1 = 0 := (itM_neg hokk).mp c_27
          refine lv_sipush (v := 4096) hx hb d_M_endStack_41 (by decide) ?_
          refine lv_iload hx hb d_M_endStack_44 (lv_at hl 1 rfl) ?_
          refine lv_ineg hx hb d_M_endStack_46 ?_
          refine lv_topi (fun v_34 ev_34 => ?_)
          refine lv_ishr hx hb d_M_endStack_47 ?_
          refine lv_topi (fun v_35 ev_35 => ?_)
          refine lv_i2l hx hb d_M_endStack_48 rfl ?_
          refine lv_topl (fun v_36 ev_36 => ?_)
          refine lv_goto (tgt := 66) hx hb d_M_endStack_49 (by decide) ?_
          have z9 : v_36 = lN ff := by rw [hff]; unfold itF; rw [if_pos hkd, ev_36, ev_35, ev_34, itM_ng hkd, show (4096 : Int32) = nI 4096 from rfl, I_shr (by decide) (by rcases hokk with z | z; exact (by have := z.2.2.1; omega); exact absurd hkd z.1)]; exact nI_l (Nat.lt_of_le_of_lt (Nat.div_le_self _ _) (by decide))
          subst z9
          refine lv_lstore (lv' := [(6, Value.long (lN ff)), (5, Value.int (nI (itA its (k - 1)).2.2)), (4, Value.int (itM (itA its (k - 1)))), (3, Value.int i9), (1, Value.long (lN r9.1)), (0, Value.ref o)]) hx hb d_M_endStack_66 hl (by decide) rfl (fun _ _ => ?_)
          clear hl
          rename_i ls hl
          refine lv_iload hx hb d_M_endStack_68 (lv_at hl 2 rfl) ?_
          refine lv_if_ge (tgt := 82) hx hb d_M_endStack_70 (by decide) (fun c_37 => ?_) (fun c_37 => ?_)
          · exact absurd c_37 ((itM_neg hokk).mpr hkd)
          · refine lv_lload hx hb d_M_endStack_73 (lv_at hl 0 rfl) ?_
            refine lv_iload hx hb d_M_endStack_75 (lv_at hl 1 rfl) ?_
            refine lv_i2l hx hb d_M_endStack_77 rfl ?_
            refine lv_topl (fun v_38 ev_38 => ?_)
            refine lv_lmul hx hb d_M_endStack_78 ?_
            refine lv_topl (fun v_39 ev_39 => ?_)
            refine lv_goto (tgt := 95) hx hb d_M_endStack_79 (by decide) ?_
            have z9 : v_39 = lN cc := by rw [hcc]; unfold itC; rw [if_pos hkd, ev_39, ev_38, nI_l (by rcases hokk with z | z; exact Nat.lt_trans z.2.2.2 (Nat.lt_of_le_of_lt (Nat.pow_le_pow_right (n := 2) (by decide) z.2.2.1) (by decide)); exact absurd hkd z.1), lN_mul, hff]; unfold itF; rw [if_pos hkd]
            subst z9
            refine lv_lstore (lv' := [(8, Value.long (lN cc)), (6, Value.long (lN ff)), (5, Value.int (nI (itA its (k - 1)).2.2)), (4, Value.int (itM (itA its (k - 1)))), (3, Value.int i9), (1, Value.long (lN r9.1)), (0, Value.ref o)]) hx hb d_M_endStack_95 hl (by decide) rfl (fun _ _ => ?_)
            clear hl
            rename_i ls hl
            exact J_97 _ r9 vK 8 rfl (rfl) (by decide) (by decide) (by show r9.1 < xb 8; exact hX2) (by omega) (hgw) (by omega) (hob) H locs ls (hP.sub [0, 1, 2, 3, 4, 5] rfl) (hD.sub [0, 1, 2, 3, 4, 5] (by decide +kernel) rfl) hS (lv_sub hl [0, 1, 5, 4, 6] rfl)
  exact J_16 _ v_1 its.length (8388608, []) vWr rfl (by rw [ev_1, Int32.sub_add_cancel]) (Nat.le_refl _) (rfl) (by decide) (by decide) (fun _ z => absurd z (Nat.not_lt_zero _)) (by show 0 + _ ≤ _; omega) (oct_nil) H locs ls (hP.sub [0, 1, 2, 3, 4, 5] rfl) (hD.sub [0, 1, 2, 3, 4, 5] (by decide +kernel) rfl) hS (lv_sub hl [0, 1, 2] rfl)
end
section
/-! GROWTH: how much a call has made, told by the heap behind it -/
/-- all slots of a heap -/
def hSl (H : Heap) : Nat := H.foldl (fun n c => n + c.slots.size) 0
section GR1
variable {p : Program} {l : Launch} {e : Env} {R : Room} {s : State} {m : MethodId} {args : Array Value} {below : List Frame} {meth : Method} {c : Code} {H : Heap} {locs : List Loc} {cells slots : Nat} {Q : State → Prop}
theorem gr_sl {T : State} (X : Stand p l e R s m args below meth c T locs cells slots) : hSl T.heap = hSl s.heap + ((T.heap.toList.drop s.heap.size).map (·.slots.size)).sum := by
  have h0 : s.slotsTrue = true := by
    have h := X.room
    simp only [State.hasRoom, Bool.and_eq_true] at h
    exact h.2
  have h1 := X.book
  have e0 : s.slotsUsed = hSl s.heap := eq_of_beq h0
  have e1 : T.slotsUsed = hSl T.heap := eq_of_beq h1
  have h2 : T.slotsUsed = s.slotsUsed + ((T.heap.toList.drop s.heap.size).map (·.slots.size)).sum := X.same.2.2.2.1
  rw [← e0, ← e1]
  exact h2
/-- what the count says of the heap -/
theorem W.know {g : JFrame} (k : H.size ≤ s.heap.size + cells → hSl H ≤ hSl s.heap + slots → W p l e R s m args below meth c H locs cells slots Q g) : W p l e R s m args below meth c H locs cells slots Q g := by
  intro T hT X
  have h1 : H.size ≤ s.heap.size + cells := by rw [← hT]; exact X.same.2.2.1
  have h2 : hSl H ≤ hSl s.heap + slots := by
    have h3 := gr_sl X
    have h4 : ((T.heap.toList.drop s.heap.size).map (·.slots.size)).sum ≤ slots := X.same.2.2.2.2.1
    rw [← hT, h3]
    omega
  exact k h1 h2 T hT X
/-- a smaller count, where the heap says so -/
theorem W.tight {g : JFrame} {cells' slots' : Nat} (h1 : H.size ≤ s.heap.size + cells') (h2 : hSl H ≤ hSl s.heap + slots') (k : W p l e R s m args below meth c H locs cells' slots' Q g) : W p l e R s m args below meth c H locs cells slots Q g := by
  intro T hT X
  have h3 := gr_sl X
  refine k T hT { X with same := ⟨X.same.1, X.same.2.1, by subst hT; exact h1, X.same.2.2.2.1, ?_, X.same.2.2.2.2.2⟩ }
  show ((T.heap.toList.drop s.heap.size).map (·.slots.size)).sum ≤ slots'
  rw [hT] at h3
  rw [hT]
  omega
end GR1
def my_Pg (D : va_G) (cl : List vw_C) (tys : List (ClassId × FieldType)) (wc : va_W) (sz sl : Nat) (U : State) : Prop := my_P D cl tys wc sz U ∧ hSl U.heap = sl
def my_Bg {S : Type} (D : va_G) (cl : List vw_C) (tys : List (ClassId × FieldType)) (w1 : S → va_W) (A : Nat → Prop) (sz sl f0 : Nat) (ph : S → Nat) (u : S) (t : State) : Prop := my_B D cl tys w1 A u t ∧ t.heap.size + ph u ≤ sz + f0 ∧ hSl t.heap + ph u ≤ sl + f0
abbrev MetIg {S : Type} (l : Launch) (y : MethodName) (ws : List Cond) (rm : Room) (D : va_G) (cl : List vw_C) (tys : List (ClassId × FieldType)) (av : List Value) (wc : va_W) (sz sl : Nat) (post : Int32 → S → Prop) (w1 : S → va_W) (f0 : Nat) (ph : S → Nat) : Prop :=
  Met l y ws rm (va_Pc av (my_Pg D cl tys wc sz sl)) (va_Qi post (my_Bg D cl tys w1 (va_A wc sz) sz sl f0 ph) (va_A wc sz)) f0 f0 (va_A wc sz)
abbrev MetVg {S : Type} (l : Launch) (y : MethodName) (ws : List Cond) (rm : Room) (D : va_G) (cl : List vw_C) (tys : List (ClassId × FieldType)) (av : List Value) (wc : va_W) (sz sl : Nat) (post : S → Prop) (w1 : S → va_W) (f0 : Nat) (ph : S → Nat) : Prop :=
  Met l y ws rm (va_Pc av (my_Pg D cl tys wc sz sl)) (va_Qv post (my_Bg D cl tys w1 (va_A wc sz) sz sl f0 ph) (va_A wc sz)) f0 f0 (va_A wc sz)
abbrev MetQg {S : Type} (l : Launch) (y : MethodName) (ws : List Cond) (rm : Room) (D : va_G) (cl : List vw_C) (tys : List (ClassId × FieldType)) (av : List Value) (wc : va_W) (sz sl : Nat) (post : Option Nat → S → Prop) (w1 : S → va_W) (f0 : Nat) (ph : S → Nat) : Prop :=
  Met l y ws rm (va_Pc av (my_Pg D cl tys wc sz sl)) (va_Qq post (my_Bg D cl tys w1 (va_A wc sz) sz sl f0 ph) (va_A wc sz)) f0 f0 (va_A wc sz)
theorem my_ofg {l : Launch} {y : MethodName} {ws ws' : List Cond} {rm : Room} {D : va_G} {cl : List vw_C} {tys : List (ClassId × FieldType)} {av : List Value} {wc : va_W} {sz sl mc ms n : Nat} {cc : ByteArray} {ret : Option FieldType} {QF : (Nat → Prop) → Nat → Nat → Array Value → State → Outcome → State → Prop}
    (hy : plainName y.cls = true) (hw : ws = Cond.code y cc n ret :: ws') (hn : (lg_sl av).length ≤ n)
    (body : ∀ (p : Program) (e : Env) (s : State) (m : MethodId) (args : Array Value) (below : List Frame) (meth : Method) (c : Code) (R : Room) (Q : State → Prop) (A : Nat → Prop) (ls : Array Slot) (H : Heap) (locs : List Loc), p.tables.exec = Jvm.exec → c.code = cc → meth.sig.returnType = ret → (∀ w ∈ ws, w.before args s = true) → s.vm.findClass y.cls = some m.cls → meth.locks = false → c.maxLocals = n → meth.name = y.name → R = rm → Q = MQ below (QF A s.heap.size (hSl s.heap)) args s mc ms A → (∀ q : Nat, s.heap.size ≤ q → A q) → lv_has ls n (lv_args 0 av) → va_P D cl wc H → va_K D cl tys s → nw s → va_D A wc → va_S A s.heap H locs → W p l e R s m args below meth c H locs 0 0 Q (F0 m 0 ls [])) :
    Met l y ws rm (va_Pc av (my_Pg D cl tys wc sz sl)) (QF (va_A wc sz) sz sl) mc ms (va_A wc sz) := by
  refine Met.ofW (cc := cc) (maxL := n) (ret := ret) hy hw ?_
  intro p e s m args below meth c s₁ B hml hv
  obtain ⟨ha, ⟨hsz, hP, ⟨hK, hN⟩, hD0⟩, hsl⟩ := hv
  subst hsz
  subst hsl
  refine W.eq (g2 := F0 m 0 ((lg_sl av ++ List.replicate (n - (lg_sl av).length) Slot.unset).toArray) []) (by rw [ha]; exact lg_entry_eq m av n) ?_
  exact body p e s m args below meth c _ _ (va_A wc s.heap.size) _ _ _ B.exec B.bytes B.returns (atoms_spec (ws := ws) B.pre) (findClass_of_methodNamed B.named) B.notSynchronized hml (name_of_methodNamed B.named B.method).1 rfl rfl (fun q h => Or.inr h) (lv_entry av hn) hP hK hN hD0.self va_S.rf
theorem my_ofIg {S : Type} {l : Launch} {y : MethodName} {ws ws' : List Cond} {rm : Room} {D : va_G} {cl : List vw_C} {tys : List (ClassId × FieldType)} {av : List Value} {wc : va_W} {sz sl f0 n : Nat} {cc : ByteArray} {ret : Option FieldType} {post : Int32 → S → Prop} {w1 : S → va_W} {ph : S → Nat}
    (hy : plainName y.cls = true) (hw : ws = Cond.code y cc n ret :: ws') (hn : (lg_sl av).length ≤ n)
    (body : ∀ (p : Program) (e : Env) (s : State) (m : MethodId) (args : Array Value) (below : List Frame) (meth : Method) (c : Code) (R : Room) (Q : State → Prop) (A : Nat → Prop) (ls : Array Slot) (H : Heap) (locs : List Loc), p.tables.exec = Jvm.exec → c.code = cc → meth.sig.returnType = ret → (∀ w ∈ ws, w.before args s = true) → s.vm.findClass y.cls = some m.cls → meth.locks = false → c.maxLocals = n → meth.name = y.name → R = rm → Q = MQ below (va_Qi post (my_Bg D cl tys w1 A s.heap.size (hSl s.heap) f0 ph) A) args s f0 f0 A → (∀ q : Nat, s.heap.size ≤ q → A q) → lv_has ls n (lv_args 0 av) → va_P D cl wc H → va_K D cl tys s → nw s → va_D A wc → va_S A s.heap H locs → W p l e R s m args below meth c H locs 0 0 Q (F0 m 0 ls [])) :
    MetIg l y ws rm D cl tys av wc sz sl post w1 f0 ph := my_ofg (QF := fun A sz sl => va_Qi post (my_Bg D cl tys w1 A sz sl f0 ph) A) hy hw hn body
theorem my_ofVg {S : Type} {l : Launch} {y : MethodName} {ws ws' : List Cond} {rm : Room} {D : va_G} {cl : List vw_C} {tys : List (ClassId × FieldType)} {av : List Value} {wc : va_W} {sz sl f0 n : Nat} {cc : ByteArray} {ret : Option FieldType} {post : S → Prop} {w1 : S → va_W} {ph : S → Nat}
    (hy : plainName y.cls = true) (hw : ws = Cond.code y cc n ret :: ws') (hn : (lg_sl av).length ≤ n)
    (body : ∀ (p : Program) (e : Env) (s : State) (m : MethodId) (args : Array Value) (below : List Frame) (meth : Method) (c : Code) (R : Room) (Q : State → Prop) (A : Nat → Prop) (ls : Array Slot) (H : Heap) (locs : List Loc), p.tables.exec = Jvm.exec → c.code = cc → meth.sig.returnType = ret → (∀ w ∈ ws, w.before args s = true) → s.vm.findClass y.cls = some m.cls → meth.locks = false → c.maxLocals = n → meth.name = y.name → R = rm → Q = MQ below (va_Qv post (my_Bg D cl tys w1 A s.heap.size (hSl s.heap) f0 ph) A) args s f0 f0 A → (∀ q : Nat, s.heap.size ≤ q → A q) → lv_has ls n (lv_args 0 av) → va_P D cl wc H → va_K D cl tys s → nw s → va_D A wc → va_S A s.heap H locs → W p l e R s m args below meth c H locs 0 0 Q (F0 m 0 ls [])) :
    MetVg l y ws rm D cl tys av wc sz sl post w1 f0 ph := my_ofg (QF := fun A sz sl => va_Qv post (my_Bg D cl tys w1 A sz sl f0 ph) A) hy hw hn body
theorem my_ofQg {S : Type} {l : Launch} {y : MethodName} {ws ws' : List Cond} {rm : Room} {D : va_G} {cl : List vw_C} {tys : List (ClassId × FieldType)} {av : List Value} {wc : va_W} {sz sl f0 n : Nat} {cc : ByteArray} {ret : Option FieldType} {post : Option Nat → S → Prop} {w1 : S → va_W} {ph : S → Nat}
    (hy : plainName y.cls = true) (hw : ws = Cond.code y cc n ret :: ws') (hn : (lg_sl av).length ≤ n)
    (body : ∀ (p : Program) (e : Env) (s : State) (m : MethodId) (args : Array Value) (below : List Frame) (meth : Method) (c : Code) (R : Room) (Q : State → Prop) (A : Nat → Prop) (ls : Array Slot) (H : Heap) (locs : List Loc), p.tables.exec = Jvm.exec → c.code = cc → meth.sig.returnType = ret → (∀ w ∈ ws, w.before args s = true) → s.vm.findClass y.cls = some m.cls → meth.locks = false → c.maxLocals = n → meth.name = y.name → R = rm → Q = MQ below (va_Qq post (my_Bg D cl tys w1 A s.heap.size (hSl s.heap) f0 ph) A) args s f0 f0 A → (∀ q : Nat, s.heap.size ≤ q → A q) → lv_has ls n (lv_args 0 av) → va_P D cl wc H → va_K D cl tys s → nw s → va_D A wc → va_S A s.heap H locs → W p l e R s m args below meth c H locs 0 0 Q (F0 m 0 ls [])) :
    MetQg l y ws rm D cl tys av wc sz sl post w1 f0 ph := my_ofg (QF := fun A sz sl => va_Qq post (my_Bg D cl tys w1 A sz sl f0 ph) A) hy hw hn body
section MYG
variable {p : Program} {l : Launch} {e : Env} {R : Room} {s : State} {m : MethodId} {args : Array Value} {below : List Frame} {meth : Method} {c : Code} {H : Heap} {locs : List Loc} {cells slots : Nat} {Q : State → Prop}
variable {cc : ByteArray} {pc : Nat} {ls : Array Slot} {rest st0 : List Value} {D : va_G} {cl : List vw_C} {tys : List (ClassId × FieldType)} {A : Nat → Prop} {f0 : Nat} {a : Array Value}
theorem my_iretg {S : Type} {post : Int32 → S → Prop} {w1 : S → va_W} {ph : S → Nat} {v : Int32} {rt : FieldType} (hx : p.tables.exec = Jvm.exec) (hb : c.code = cc) (hr : meth.sig.returnType = some rt) (hn : narrow rt (.int v) = .int v) (hlocks : meth.locks = false) (hQ : Q = MQ below (va_Qi post (my_Bg D cl tys w1 A s.heap.size (hSl s.heap) f0 ph) A) args s f0 f0 A) (hK : va_K D cl tys s) (hS : va_S A s.heap H locs) (u : S) (hc : cells + ph u ≤ f0) (hsl : slots + ph u ≤ f0) (hp : post v u) (hP : va_P D cl (w1 u) H) (hD : va_D A (w1 u)) (hdg : decode cc pc = .ok (.ireturn, 1)) : W p l e R s m args below meth c H locs cells slots Q (F0 m pc ls [Value.int v]) := by
  subst hQ
  refine W.know (fun k1 k2 => ?_)
  refine W.widen (show cells ≤ f0 by omega) (show slots ≤ f0 by omega) ?_
  exact W.zret (v := v) hx hb hr hn (fun t ht hW => ⟨⟨v, u, rfl, hp, ⟨by rw [ht]; exact hP, va_K.moved hW.alike hK, hD⟩, by rw [ht]; omega, by rw [ht]; omega⟩, hS.F ht⟩) hS.2.2 hdg hlocks
theorem my_vretg {S : Type} {post : S → Prop} {w1 : S → va_W} {ph : S → Nat} (hx : p.tables.exec = Jvm.exec) (hb : c.code = cc) (hr : meth.sig.returnType = none) (hlocks : meth.locks = false) (hQ : Q = MQ below (va_Qv post (my_Bg D cl tys w1 A s.heap.size (hSl s.heap) f0 ph) A) args s f0 f0 A) (hK : va_K D cl tys s) (hS : va_S A s.heap H locs) (u : S) (hc : cells + ph u ≤ f0) (hsl : slots + ph u ≤ f0) (hp : post u) (hP : va_P D cl (w1 u) H) (hD : va_D A (w1 u)) (hdg : decode cc pc = .ok (.return_, 1)) : W p l e R s m args below meth c H locs cells slots Q (F0 m pc ls []) := by
  subst hQ
  refine W.know (fun k1 k2 => ?_)
  refine W.widen (show cells ≤ f0 by omega) (show slots ≤ f0 by omega) ?_
  exact W.vret hx hb hr (fun t ht hW => ⟨⟨u, rfl, hp, ⟨by rw [ht]; exact hP, va_K.moved hW.alike hK, hD⟩, by rw [ht]; omega, by rw [ht]; omega⟩, hS.F ht⟩) hS.2.2 hdg hlocks
theorem my_qretg {S : Type} {post : Option Nat → S → Prop} {w1 : S → va_W} {ph : S → Nat} {v : Option Nat} {rt : FieldType} (hx : p.tables.exec = Jvm.exec) (hb : c.code = cc) (hr : meth.sig.returnType = some rt) (hrt : (∃ n, rt = .object n) ∨ ∃ t, rt = .array t) (hlocks : meth.locks = false) (hQ : Q = MQ below (va_Qq post (my_Bg D cl tys w1 A s.heap.size (hSl s.heap) f0 ph) A) args s f0 f0 A) (hK : va_K D cl tys s) (hS : va_S A s.heap H locs) (u : S) (hc : cells + ph u ≤ f0) (hsl : slots + ph u ≤ f0) (hp : post v u) (hP : va_P D cl (w1 u) H) (hD : va_D A (w1 u)) (hdg : decode cc pc = .ok (.areturn, 1)) : W p l e R s m args below meth c H locs cells slots Q (F0 m pc ls [va_rf v]) := by
  subst hQ
  refine W.know (fun k1 k2 => ?_)
  refine W.widen (show cells ≤ f0 by omega) (show slots ≤ f0 by omega) ?_
  exact W.aret (v := va_rf v) hx hb hr hrt (va_rf_or v) (fun t ht hW => ⟨⟨v, u, rfl, hp, ⟨by rw [ht]; exact hP, va_K.moved hW.alike hK, hD⟩, by rw [ht]; omega, by rw [ht]; omega⟩, hS.F ht⟩) hS.2.2 hdg hlocks
theorem my_preg {wc : va_W} {As : List Value} (hK : va_K D cl tys s) (hN : nw s) (hPc : va_P D cl wc H) (hDc : va_D A wc) : FrameBlind (va_Pc As (my_Pg D cl tys wc H.size (hSl H))) ∧ ∀ U : State, U.heap = H → s.WarmedH U.vm → va_Pc As (my_Pg D cl tys wc H.size (hSl H)) As.toArray U :=
  ⟨fun a U g mk q => ⟨q.1, ⟨q.2.1.1, q.2.1.2.1, ⟨va_K.moved (u := U) (U := U.calling g mk a) (Vm.Alike.refl U.vm) q.2.1.2.2.1.1, nw.same (s := U) (U := U.calling g mk a) rfl q.2.1.2.2.1.2⟩, q.2.1.2.2.2⟩, q.2.2⟩, fun U hU hW => ⟨rfl, ⟨by rw [hU], by rw [hU]; exact hPc, ⟨va_K.moved hW.alike hK, nw.warm hW hN⟩, hDc.weaken (fun _ _ _ _ => trivial)⟩, by rw [hU]⟩⟩
theorem my_preVg {wc : va_W} {As : List Value} {b : Nat} {ci : Nat} {fs : List Value} {C9 : String} {T9 : u_T} {N9 : Nat} (hK : va_K D cl tys s) (hN : nw s) (hPc : va_P D cl wc H) (hDc : va_D A wc) (q0 : Nat) (h0 : wc[q0]? = some (b, Sum.inr (ci, fs))) (hc : cl[ci]? = some (C9, T9, N9)) : PreV s H C9 b (va_Pc (.ref b :: As) (my_Pg D cl tys wc H.size (hSl H))) As :=
  ⟨(my_preg (As := .ref b :: As) hK hN hPc hDc).1, va_recv hK hPc (ci := ci) (q0 := q0) hc h0, (my_preg (As := .ref b :: As) hK hN hPc hDc).2⟩
theorem my_freeT {X wc pl : va_W} (hD : va_D A (X ++ pl)) (hS : va_S A s.heap H locs) (hA : ∀ q : Nat, s.heap.size ≤ q → A q) (isC : List Nat) (hC : isC.map (fun i => X[i]?) = wc.map some) : ∀ q, va_A wc H.size q → A q := by
  intro q h
  rcases h with ⟨k, e, h⟩ | h
  · have h2 := va_part (pl := pl) isC hC k (q, e) (by rw [List.getElem?_append_left (by exact (List.getElem?_eq_some_iff.mp h).1)]; exact h)
    exact hD.2 _ (q, e) h2
  · exact hA q (Nat.le_trans hS.1 h)
theorem my_cigt {S : Type} {post : Int32 → S → Prop} {w1 : S → va_W} {ph : S → Nat} {X wc wr pl : va_W} (hr : va_Run p l e R s m args below meth c H locs cells slots f0 f0 (F0 m pc ls st0) rest (va_Qi post (my_Bg D cl tys w1 (va_A wc H.size) H.size (hSl H) f0 ph) (va_A wc H.size) a) (va_A wc H.size)) (hP : va_P D cl (X ++ pl) H) (hD : va_D A (X ++ pl)) (hS : va_S A s.heap H locs) (hA : ∀ q : Nat, s.heap.size ≤ q → A q) (isC isR : List Nat) (hC : isC.map (fun i => X[i]?) = wc.map some) (hR : isR.map (fun i => X[i]?) = wr.map some) (hn : va_nd isR = true) (hdis : ∀ i ∈ isR, i ∉ isC)
    (kk : ∀ (r : Int32) (u : S) (d : Nat) (H1 : Heap) (locs1 : List Loc), d + ph u ≤ f0 → post r u → va_P D cl ((wr ++ w1 u) ++ pl) H1 → va_D A ((wr ++ w1 u) ++ pl) → va_S A s.heap H1 locs1 → W p l e R s m args below meth c H1 locs1 (cells + d) (slots + d) Q (F0 m (pc + 3) ls (.int r :: rest))) : W p l e R s m args below meth c H locs cells slots Q (F0 m pc ls st0) := by
  refine W.know (fun k1 k2 => ?_)
  have hFc : ∀ q, va_A wc H.size q → A q := my_freeT hD hS hA isC hC
  refine va_calli hr hS (fun q _ h => hFc q h) hFc (fun r u t H1 locs1 ht hvm hw hB hz1 hk1 hS1 => ?_)
  obtain ⟨⟨hP1, hK1, hD1⟩, g1, g2⟩ := hB
  rw [ht] at hP1 g1 g2
  obtain ⟨hP2, hD2⟩ := va_joinQ hP hD isC isR hC hR hn hdis hk1 hFc hP1 hD1
  refine W.tight (cells' := cells + (f0 - ph u)) (slots' := slots + (f0 - ph u)) (by omega) (by omega) ?_
  exact kk r u (f0 - ph u) H1 locs1 (by omega) hw hP2 hD2 hS1
theorem my_cit {S : Type} {post : Int32 → S → Prop} {w1 : S → va_W} {mc ms : Nat} {X wc wr pl : va_W} (hr : va_Run p l e R s m args below meth c H locs cells slots mc ms (F0 m pc ls st0) rest (va_Qi post (my_B D cl tys w1 (va_A wc H.size)) (va_A wc H.size) a) (va_A wc H.size)) (hP : va_P D cl (X ++ pl) H) (hD : va_D A (X ++ pl)) (hS : va_S A s.heap H locs) (hA : ∀ q : Nat, s.heap.size ≤ q → A q) (isC isR : List Nat) (hC : isC.map (fun i => X[i]?) = wc.map some) (hR : isR.map (fun i => X[i]?) = wr.map some) (hn : va_nd isR = true) (hdis : ∀ i ∈ isR, i ∉ isC)
    (kk : ∀ (r : Int32) (u : S) (H1 : Heap) (locs1 : List Loc), post r u → va_P D cl ((wr ++ w1 u) ++ pl) H1 → va_D A ((wr ++ w1 u) ++ pl) → va_S A s.heap H1 locs1 → W p l e R s m args below meth c H1 locs1 (cells + mc) (slots + ms) Q (F0 m (pc + 3) ls (.int r :: rest))) : W p l e R s m args below meth c H locs cells slots Q (F0 m pc ls st0) := by
  have hFc : ∀ q, va_A wc H.size q → A q := my_freeT hD hS hA isC hC
  refine va_calli hr hS (fun q _ h => hFc q h) hFc (fun r u t H1 locs1 ht hvm hw hB hz1 hk1 hS1 => ?_)
  obtain ⟨hP1, hK1, hD1⟩ := hB
  rw [ht] at hP1
  obtain ⟨hP2, hD2⟩ := va_joinQ hP hD isC isR hC hR hn hdis hk1 hFc hP1 hD1
  exact kk r u H1 locs1 hw hP2 hD2 hS1
theorem my_clt {S : Type} {post : Int64 → S → Prop} {w1 : S → va_W} {mc ms : Nat} {X wc wr pl : va_W} (hr : va_Run p l e R s m args below meth c H locs cells slots mc ms (F0 m pc ls st0) rest (va_Ql post (my_B D cl tys w1 (va_A wc H.size)) (va_A wc H.size) a) (va_A wc H.size)) (hP : va_P D cl (X ++ pl) H) (hD : va_D A (X ++ pl)) (hS : va_S A s.heap H locs) (hA : ∀ q : Nat, s.heap.size ≤ q → A q) (isC isR : List Nat) (hC : isC.map (fun i => X[i]?) = wc.map some) (hR : isR.map (fun i => X[i]?) = wr.map some) (hn : va_nd isR = true) (hdis : ∀ i ∈ isR, i ∉ isC)
    (kk : ∀ (r : Int64) (u : S) (H1 : Heap) (locs1 : List Loc), post r u → va_P D cl ((wr ++ w1 u) ++ pl) H1 → va_D A ((wr ++ w1 u) ++ pl) → va_S A s.heap H1 locs1 → W p l e R s m args below meth c H1 locs1 (cells + mc) (slots + ms) Q (F0 m (pc + 3) ls (.long r :: rest))) : W p l e R s m args below meth c H locs cells slots Q (F0 m pc ls st0) := by
  have hFc : ∀ q, va_A wc H.size q → A q := my_freeT hD hS hA isC hC
  refine va_calll hr hS (fun q _ h => hFc q h) hFc (fun r u t H1 locs1 ht hvm hw hB hz1 hk1 hS1 => ?_)
  obtain ⟨hP1, hK1, hD1⟩ := hB
  rw [ht] at hP1
  obtain ⟨hP2, hD2⟩ := va_joinQ hP hD isC isR hC hR hn hdis hk1 hFc hP1 hD1
  exact kk r u H1 locs1 hw hP2 hD2 hS1
theorem my_cvg {S : Type} {post : S → Prop} {w1 : S → va_W} {ph : S → Nat} {ws wc wr : va_W} (hr : va_Run p l e R s m args below meth c H locs cells slots f0 f0 (F0 m pc ls st0) rest (va_Qv post (my_Bg D cl tys w1 (va_A wc H.size) H.size (hSl H) f0 ph) (va_A wc H.size) a) (va_A wc H.size)) (hP : va_P D cl ws H) (hD : va_D A ws) (hS : va_S A s.heap H locs) (hA : ∀ q : Nat, s.heap.size ≤ q → A q) (isC isR : List Nat) (hC : isC.map (fun i => ws[i]?) = wc.map some) (hR : isR.map (fun i => ws[i]?) = wr.map some) (hn : va_nd isR = true) (hdis : ∀ i ∈ isR, i ∉ isC)
    (kk : ∀ (u : S) (d : Nat) (H1 : Heap) (locs1 : List Loc), d + ph u ≤ f0 → post u → va_P D cl (wr ++ w1 u) H1 → va_D A (wr ++ w1 u) → va_S A s.heap H1 locs1 → W p l e R s m args below meth c H1 locs1 (cells + d) (slots + d) Q (F0 m (pc + 3) ls rest)) : W p l e R s m args below meth c H locs cells slots Q (F0 m pc ls st0) := by
  refine W.know (fun k1 k2 => ?_)
  have hFc : ∀ q, va_A wc H.size q → A q := va_free (wc := wc) hD hS hA isC hC
  refine va_callv hr hS (fun q _ h => hFc q h) hFc (fun u t H1 locs1 ht hvm hw hB hz1 hk1 hS1 => ?_)
  obtain ⟨⟨hP1, hK1, hD1⟩, g1, g2⟩ := hB
  rw [ht] at hP1 g1 g2
  obtain ⟨hP2, hD2⟩ := va_join hP hD isC isR hC hR hn hdis hk1 hFc hP1 hD1
  refine W.tight (cells' := cells + (f0 - ph u)) (slots' := slots + (f0 - ph u)) (by omega) (by omega) ?_
  exact kk u (f0 - ph u) H1 locs1 (by omega) hw hP2 hD2 hS1
theorem my_cvgt {S : Type} {post : S → Prop} {w1 : S → va_W} {ph : S → Nat} {X wc wr pl : va_W} (hr : va_Run p l e R s m args below meth c H locs cells slots f0 f0 (F0 m pc ls st0) rest (va_Qv post (my_Bg D cl tys w1 (va_A wc H.size) H.size (hSl H) f0 ph) (va_A wc H.size) a) (va_A wc H.size)) (hP : va_P D cl (X ++ pl) H) (hD : va_D A (X ++ pl)) (hS : va_S A s.heap H locs) (hA : ∀ q : Nat, s.heap.size ≤ q → A q) (isC isR : List Nat) (hC : isC.map (fun i => X[i]?) = wc.map some) (hR : isR.map (fun i => X[i]?) = wr.map some) (hn : va_nd isR = true) (hdis : ∀ i ∈ isR, i ∉ isC)
    (kk : ∀ (u : S) (d : Nat) (H1 : Heap) (locs1 : List Loc), d + ph u ≤ f0 → post u → va_P D cl ((wr ++ w1 u) ++ pl) H1 → va_D A ((wr ++ w1 u) ++ pl) → va_S A s.heap H1 locs1 → W p l e R s m args below meth c H1 locs1 (cells + d) (slots + d) Q (F0 m (pc + 3) ls rest)) : W p l e R s m args below meth c H locs cells slots Q (F0 m pc ls st0) := by
  refine W.know (fun k1 k2 => ?_)
  have hFc : ∀ q, va_A wc H.size q → A q := my_freeT hD hS hA isC hC
  refine va_callv hr hS (fun q _ h => hFc q h) hFc (fun u t H1 locs1 ht hvm hw hB hz1 hk1 hS1 => ?_)
  obtain ⟨⟨hP1, hK1, hD1⟩, g1, g2⟩ := hB
  rw [ht] at hP1 g1 g2
  obtain ⟨hP2, hD2⟩ := va_joinQ hP hD isC isR hC hR hn hdis hk1 hFc hP1 hD1
  refine W.tight (cells' := cells + (f0 - ph u)) (slots' := slots + (f0 - ph u)) (by omega) (by omega) ?_
  exact kk u (f0 - ph u) H1 locs1 (by omega) hw hP2 hD2 hS1
theorem my_cvt {S : Type} {post : S → Prop} {w1 : S → va_W} {mc ms : Nat} {X wc wr pl : va_W} (hr : va_Run p l e R s m args below meth c H locs cells slots mc ms (F0 m pc ls st0) rest (va_Qv post (my_B D cl tys w1 (va_A wc H.size)) (va_A wc H.size) a) (va_A wc H.size)) (hP : va_P D cl (X ++ pl) H) (hD : va_D A (X ++ pl)) (hS : va_S A s.heap H locs) (hA : ∀ q : Nat, s.heap.size ≤ q → A q) (isC isR : List Nat) (hC : isC.map (fun i => X[i]?) = wc.map some) (hR : isR.map (fun i => X[i]?) = wr.map some) (hn : va_nd isR = true) (hdis : ∀ i ∈ isR, i ∉ isC)
    (kk : ∀ (u : S) (H1 : Heap) (locs1 : List Loc), post u → va_P D cl ((wr ++ w1 u) ++ pl) H1 → va_D A ((wr ++ w1 u) ++ pl) → va_S A s.heap H1 locs1 → W p l e R s m args below meth c H1 locs1 (cells + mc) (slots + ms) Q (F0 m (pc + 3) ls rest)) : W p l e R s m args below meth c H locs cells slots Q (F0 m pc ls st0) := by
  have hFc : ∀ q, va_A wc H.size q → A q := my_freeT hD hS hA isC hC
  refine va_callv hr hS (fun q _ h => hFc q h) hFc (fun u t H1 locs1 ht hvm hw hB hz1 hk1 hS1 => ?_)
  obtain ⟨hP1, hK1, hD1⟩ := hB
  rw [ht] at hP1
  obtain ⟨hP2, hD2⟩ := va_joinQ hP hD isC isR hC hR hn hdis hk1 hFc hP1 hD1
  exact kk u H1 locs1 hw hP2 hD2 hS1
theorem my_cqg {S : Type} {post : Option Nat → S → Prop} {w1 : S → va_W} {ph : S → Nat} {ws wc wr : va_W} (hr : va_Run p l e R s m args below meth c H locs cells slots f0 f0 (F0 m pc ls st0) rest (va_Qq post (my_Bg D cl tys w1 (va_A wc H.size) H.size (hSl H) f0 ph) (va_A wc H.size) a) (va_A wc H.size)) (hP : va_P D cl ws H) (hD : va_D A ws) (hS : va_S A s.heap H locs) (hA : ∀ q : Nat, s.heap.size ≤ q → A q) (isC isR : List Nat) (hC : isC.map (fun i => ws[i]?) = wc.map some) (hR : isR.map (fun i => ws[i]?) = wr.map some) (hn : va_nd isR = true) (hdis : ∀ i ∈ isR, i ∉ isC)
    (kk : ∀ (r : Option Nat) (u : S) (d : Nat) (H1 : Heap) (locs1 : List Loc), d + ph u ≤ f0 → post r u → va_P D cl (wr ++ w1 u) H1 → va_D A (wr ++ w1 u) → va_S A s.heap H1 locs1 → W p l e R s m args below meth c H1 locs1 (cells + d) (slots + d) Q (F0 m (pc + 3) ls (va_rf r :: rest))) : W p l e R s m args below meth c H locs cells slots Q (F0 m pc ls st0) := by
  refine W.know (fun k1 k2 => ?_)
  have hFc : ∀ q, va_A wc H.size q → A q := va_free (wc := wc) hD hS hA isC hC
  refine va_callq hr hS (fun q _ h => hFc q h) hFc (fun r u t H1 locs1 ht hvm hw hB hz1 hk1 hS1 => ?_)
  obtain ⟨⟨hP1, hK1, hD1⟩, g1, g2⟩ := hB
  rw [ht] at hP1 g1 g2
  obtain ⟨hP2, hD2⟩ := va_join hP hD isC isR hC hR hn hdis hk1 hFc hP1 hD1
  refine W.tight (cells' := cells + (f0 - ph u)) (slots' := slots + (f0 - ph u)) (by omega) (by omega) ?_
  exact kk r u (f0 - ph u) H1 locs1 (by omega) hw hP2 hD2 hS1
end MYG
theorem my_gU {y0 y : MethodName} {b0 b : ByteArray} {n0 n : Nat} {r0 r : Option FieldType} {x : MethodName} {own C owner : String} {idx : Nat} (h0 : Cond.methodLink own idx x ∈ gw) (h1 : Cond.sameMethod x.cls owner x.name x.desc ∈ gw) (h2 : Cond.selects C x y ∈ gw) (h3 : Cond.instanceMethod y ∈ gw) (h4 : Cond.initialized y.cls ∈ gw) (h5 : Cond.code y b n r ∈ gw) : GoodIn (Cond.code y0 b0 n0 r0 :: gw) (va_wsU own idx C owner x y (Cond.code y b n r :: gw)) := by
  intro w hw
  have hw' : w ∈ gw := by
    unfold va_wsU at hw
    simp only [List.cons_append, List.nil_append, List.mem_cons] at hw
    rcases hw with rfl | rfl | rfl | rfl | rfl | rfl | h
    · exact h0
    · exact h1
    · exact h2
    · exact h3
    · exact h4
    · exact h5
    · exact h
  exact ⟨List.mem_cons_of_mem _ hw', (gw_good w hw').2⟩
theorem my_gO {y0 y : MethodName} {b0 b : ByteArray} {n0 n : Nat} {r0 r : Option FieldType} {x : MethodName} {own C owner : String} {idx : Nat} (h0 : Cond.methodLink own idx x ∈ gw) (h1 : Cond.sameMethod x.cls owner x.name x.desc ∈ gw) (h2 : Cond.instanceMethod ⟨owner, x.name, x.desc⟩ ∈ gw) (h3 : Cond.selects C x y ∈ gw) (h4 : Cond.instanceMethod y ∈ gw) (h5 : Cond.initialized y.cls ∈ gw) (h6 : Cond.code y b n r ∈ gw) : GoodIn (Cond.code y0 b0 n0 r0 :: gw) (va_wsO own idx C owner x y (Cond.code y b n r :: gw)) := by
  intro w hw
  have hw' : w ∈ gw := by
    unfold va_wsO at hw
    simp only [List.cons_append, List.nil_append, List.mem_cons] at hw
    rcases hw with rfl | rfl | rfl | rfl | rfl | rfl | rfl | h
    · exact h0
    · exact h1
    · exact h2
    · exact h3
    · exact h4
    · exact h5
    · exact h6
    · exact h
  exact ⟨List.mem_cons_of_mem _ hw', (gw_good w hw').2⟩
theorem my_gSU {y0 y : MethodName} {b0 b : ByteArray} {n0 n : Nat} {r0 r : Option FieldType} {own : String} {idx : Nat} (h0 : Cond.methodLink own idx y ∈ gw) (h1 : Cond.sameMethod y.cls y.cls y.name y.desc ∈ gw) (h2 : Cond.superclass own y.cls ∈ gw) (h3 : Cond.instanceMethod y ∈ gw) (h4 : Cond.initialized y.cls ∈ gw) (h5 : Cond.code y b n r ∈ gw) : GoodIn (Cond.code y0 b0 n0 r0 :: gw) (va_wsSU own idx y (Cond.code y b n r :: gw)) := by
  intro w hw
  have hw' : w ∈ gw := by
    unfold va_wsSU at hw
    simp only [List.cons_append, List.nil_append, List.mem_cons] at hw
    rcases hw with rfl | rfl | rfl | rfl | rfl | rfl | h
    · exact h0
    · exact h1
    · exact h2
    · exact h3
    · exact h4
    · exact h5
    · exact h
  exact ⟨List.mem_cons_of_mem _ hw', (gw_good w hw').2⟩
/-! numbers -/
theorem I_up {i j v : Int32} (h : ¬ j ≤ i) (ev : v = i + 1) : v.toInt = i.toInt + 1 ∧ i.toInt < j.toInt := by
  subst ev
  rw [Int32.le_iff_toInt_le] at h
  have := Int32.toInt_lt j
  have := Int32.le_toInt i
  rw [Int32.toInt_add]
  have e1 : (1 : Int32).toInt = 1 := rfl
  rw [e1]
  have e2 : (i.toInt + 1).bmod (2 ^ 32) = i.toInt + 1 := by
    apply Int.bmod_eq_of_le <;> omega
  rw [e2]
  omega
theorem I_dn {i v : Int32} (h : ¬ i < 0) (ev : v = i + (-1)) : v.toInt = i.toInt - 1 ∧ 0 ≤ i.toInt := by
  subst ev
  rw [Int32.lt_iff_toInt_lt] at h
  have e0 : (0 : Int32).toInt = 0 := rfl
  rw [e0] at h
  have := Int32.toInt_lt i
  rw [Int32.toInt_add]
  have e1 : (-1 : Int32).toInt = -1 := rfl
  rw [e1]
  have e2 : (i.toInt + -1).bmod (2 ^ 32) = i.toInt + -1 := by
    apply Int.bmod_eq_of_le <;> omega
  rw [e2]
  omega
theorem I_dnp {i v : Int32} (h : ¬ i ≤ 0) (ev : v = i + (-1)) : v.toInt = i.toInt - 1 ∧ 0 < i.toInt := by
  rw [Int32.le_iff_toInt_le] at h
  have e0 : (0 : Int32).toInt = 0 := rfl
  rw [e0] at h
  have z := I_dn (i := i) (v := v) (by rw [Int32.lt_iff_toInt_lt, e0]; omega) ev
  omega
theorem I_in {i : Int32} {n : Nat} (hn : n < 2 ^ 31) (h0 : 0 ≤ i.toInt) (h1 : ¬ nI n ≤ i) : vp_in i n := by
  refine in_of' hn ?_ h1
  rw [Int32.le_iff_toInt_le]
  exact h0
theorem I_in' {i : Int32} {n : Nat} (hn : n < 2 ^ 31) (h0 : ¬ i < 0) (h1 : ¬ nI n ≤ i) : vp_in i n := by
  refine I_in hn ?_ h1
  rw [Int32.lt_iff_toInt_lt] at h0
  have e0 : (0 : Int32).toInt = 0 := rfl
  rw [e0] at h0
  omega
theorem I_nz {t : Int32} (h : ¬ t ≤ 0) : t ≠ 0 := fun e => h (by rw [e]; decide)
theorem L_nz {t : Int64} (h : ¬ t ≤ 0) : t ≠ 0 := fun e => h (by rw [e]; decide)
theorem L_nzi {t : Int32} (h : ¬ t ≤ 0) : t.toInt64 ≠ 0 := by
  intro h1
  have h2 : t.toInt64.toInt = (0 : Int64).toInt := by rw [h1]
  rw [Int32.toInt_toInt64] at h2
  have e0 : (0 : Int64).toInt = 0 := rfl
  rw [e0] at h2
  apply h
  rw [Int32.le_iff_toInt_le]
  have e1 : (0 : Int32).toInt = 0 := rfl
  rw [e1]
  omega
/-- a row: so many of so much room -/
def rOk (n : Int32) (cap : Nat) : Prop := 0 ≤ n.toInt ∧ n.toInt ≤ cap ∧ 1 ≤ cap ∧ cap ≤ 16384
/-- what a row may still make -/
def rPh (cap : Nat) : Nat := 32768 - 2 * cap
theorem rOk_0 {n : Int32} {cap : Nat} (h : rOk n cap) : rOk 0 cap := ⟨by decide, by have := h.2.2.1; have e : (0 : Int32).toInt = 0 := rfl; omega, h.2.2⟩
theorem rPh_2 {cap : Nat} (h1 : 1 ≤ cap) (h : cap < 8192) : 1 + rPh (2 * cap) ≤ rPh cap ∧ 2 * cap + rPh (2 * cap) ≤ rPh cap := by
  unfold rPh
  omega
theorem I_nzp {t : Int32} (h : 0 < t) : ¬ t = 0 := fun e => by rw [e] at h; exact absurd h (by decide)
theorem I_up9 {i v : Int32} (h : ¬ (9 : Int32) < i) (ev : v = i + 1) : v.toInt = i.toInt + 1 ∧ i.toInt < 10 := by
  have e9 : (9 : Int32).toInt = 9 := rfl
  have e10 : (10 : Int32).toInt = 10 := rfl
  rw [Int32.lt_iff_toInt_lt, e9] at h
  have z := I_up (i := i) (j := 10) (v := v) (by rw [Int32.le_iff_toInt_le, e10]; omega) ev
  rw [e10] at z
  exact z
theorem I_dn8 {i v : Int32} (h : ¬ i < 0) (ev : v = i + (-8)) : v.toInt = i.toInt - 8 ∧ 0 ≤ i.toInt := by
  subst ev
  rw [Int32.lt_iff_toInt_lt] at h
  have e0 : (0 : Int32).toInt = 0 := rfl
  rw [e0] at h
  have := Int32.toInt_lt i
  rw [Int32.toInt_add]
  have e1 : (-8 : Int32).toInt = -8 := rfl
  rw [e1]
  have e2 : (i.toInt + -8).bmod (2 ^ 32) = i.toInt + -8 := by
    apply Int.bmod_eq_of_le <;> omega
  rw [e2]
  omega
theorem I_lenz {i : Int32} {n : Nat} (hn : n < 2 ^ 31) (h0 : ¬ i < 0) (h1 : ¬ nI n ≤ i) : ¬ nI n = 0 := by
  intro h2
  rw [h2] at h1
  rw [Int32.lt_iff_toInt_lt] at h0
  rw [Int32.le_iff_toInt_le] at h1
  omega
theorem rw_dbl (k : Nat) : nI k * 2 = nI (2 * k) := by
  rw [show (2 : Int32) = nI 2 from rfl, Nat.mul_comm 2 k]
  exact pk_mul k 2
theorem nI_inj {a b : Nat} (ha : a < 2 ^ 31) (hb : b < 2 ^ 31) (h : nI a = nI b) : a = b := by
  have h1 : (nI a).toInt = (nI b).toInt := by rw [h]
  rw [nI_toInt ha, nI_toInt hb] at h1
  omega
theorem rOk_2 {n : Int32} {cap : Nat} (h : rOk n cap) (h1 : cap < 8192) : rOk n (2 * cap) := by
  obtain ⟨a, b, c, d⟩ := h
  exact ⟨a, by omega, by omega, by omega⟩
theorem rOk_lt {n : Int32} {cap : Nat} (h : rOk n cap) : cap ≤ 16384 ∧ 1 ≤ cap := ⟨h.2.2.2, h.2.2.1⟩
theorem rw_lt {cap : Nat} (hc : cap ≤ 16384) (h : ¬ (8192 : Int32) ≤ nI cap) : cap < 8192 := by
  rw [Int32.le_iff_toInt_le, nI_toInt (by omega)] at h
  have e : (8192 : Int32).toInt = 8192 := rfl
  rw [e] at h
  omega
section TLS
variable {D : va_G} {cl : List vw_C} {X cx pl : va_W} {H : Heap} {A : Nat → Prop}
theorem my_dubT (h : va_D A (X ++ pl)) (is : List Nat) (hn : va_nd is = true) (hs : is.map (fun i => X[i]?) = cx.map some) : va_D A cx := by
  have h2 := h.part is hn hs
  refine ⟨fun i j p q hi hj e => h2.1 i j p q ?_ ?_ e, fun k q hk => h2.2 k q ?_⟩
  · rw [List.getElem?_append_left (List.getElem?_eq_some_iff.mp hi).1]; exact hi
  · rw [List.getElem?_append_left (List.getElem?_eq_some_iff.mp hj).1]; exact hj
  · rw [List.getElem?_append_left (List.getElem?_eq_some_iff.mp hk).1]; exact hk
end TLS
theorem my_cwS2 {R : Room} {s : State} {args : Array Value} {own : String} {index maxL mc ms : Nat} {y : MethodName} {bytes : ByteArray} {ret : Option FieldType} {Ts ws ws' : List Cond} {rm : Room} (n : Nat) (ht : ∀ w ∈ Ts, w.before args s = true) (hG : GoodIn Ts ws) (hw : ws = Cond.code y bytes maxL ret :: ws') (hrc : rm.cells = mc) (hrs : rm.slots = ms) (hini : (Cond.initialized y.cls).before args s = true) (hl : (Cond.methodLink own index y).before args s = true) (hst : (Cond.static y).before args s = true)
    (hd : y.cls ≠ "java/lang/invoke/MethodHandle" ∧ y.cls ≠ "java/lang/invoke/VarHandle" ∧ (parseMethodDescriptor y.desc).map (fun d => d.parameters.length) = some n) (hR : rm.frames + 1 ≤ R.frames ∧ 8 + (maxL + 11) + rm.locals ≤ R.locals) :
    CallB R s args own index y bytes maxL ret ws rm mc ms n ∧ (Cond.static y).before args s = true := ⟨callB_of n ht hG hw hrc hrs hini hl hd hR, hst⟩
end
