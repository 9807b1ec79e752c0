set_option maxHeartbeats 1000000 in
set_option maxRecDepth 100000 in
/-- next -/
theorem c_M_next (l : Launch) (dC : Nat → ClassId) (dI : Nat → Nat → Nat) (cI cM cO : ClassId) (sz : Nat) (o : Nat) (g : Nat → Nat) (fForm : Int32) (fShift : Int32) (fModels : Int32) (fItems : Int32) (fEnded : Int32) (fLow : Int64) (fRange : Int64) (fCache : Int32) (fPend : Int32) (fGoes : Int32) (fOuts : Int32) (fReads : Int32) (fBad : Int32) (fIR : Int32) (fBAsk : Int32) (fCode : Int64) (fRL : Int64) (fRR : Int64) (fX : Int64) (fWrites : Int32) (fThrown : Int32) (vIn : Nat → Int32) (is : List Nat) (q : Nat) (hI : gIs vIn is) (hlen : is.length ≤ 6000) (hoct : oct is) (hq : q < 1000000) : MetI l y_M_next (Cond.code y_M_next prog_14_method_40_code 2 (some .int) :: gw) ({ frames := 0, cells := 0, slots := 0, locals := 0 } : Room) (dC, dI) vwCl (kT cI cM cO) [Value.ref o] [(o, Sum.inr (9, mO g fForm fShift fModels fItems fEnded fLow fRange fCache fPend fGoes fOuts (nI is.length) fReads fBad fIR (nI q) fBAsk fCode fRL fRR fX fWrites fThrown)), ((g 8), Sum.inl (cI, 6000, Sum.inl vIn))] sz (fun (r : Int32) (u : Unit) => r = nI (byA is q)) (fun (u : Unit) => [(o, Sum.inr (9, mO g fForm fShift fModels fItems fEnded fLow fRange fCache fPend fGoes fOuts (nI is.length) fReads fBad fIR (nI (q + 1)) fBAsk fCode fRL fRR fX fWrites fThrown)), ((g 8), Sum.inl (cI, 6000, Sum.inl vIn))]) 0 0 := by
  refine my_ofI (cc := prog_14_method_40_code) (n := 2) (ret := (some .int)) (by decide) rfl (Nat.le_of_ble_eq_true rfl) ?_
  intro p e s m args below meth c R Q A ls H locs hx hb hr hts hown hlocks hml hnm hR hQ hA hl hP hK hN hD hS
  have hg : ∀ w ∈ gw, w.before args s = true := fun w h => hts w (List.mem_cons_of_mem _ h)
  have hown : s.vm.findClass "RangeCodersModel" = some m.cls := hown
  have hl : lv_has ls 2 [(0, Value.ref o)] := hl
  refine lv_aload_n hx hb d_M_next_0 rfl (lv_at hl 0 rfl) ?_
  refine va_get (D := (dC, dI)) (ci := 9) (v := .int (nI q)) (C := "RangeCodersModel") (T := T_M) (N := 35) hx hb hg in_M hown hK hP 0 rfl rfl 24 (by decide) (hg _ k976) (fun _ h9 => h9) rfl d_M_next_1 ?_
  refine lv_aload_n hx hb d_M_next_4 rfl (lv_at hl 0 rfl) ?_
  refine va_get (D := (dC, dI)) (ci := 9) (v := .int (nI is.length)) (C := "RangeCodersModel") (T := T_M) (N := 35) hx hb hg in_M hown hK hP 0 rfl rfl 20 (by decide) (hg _ k972) (fun _ h9 => h9) rfl d_M_next_5 ?_
  refine lv_icmp_ge (tgt := 23) hx hb d_M_next_8 (by decide) (fun c_1 => ?_) (fun c_1 => ?_)
  · have hge : is.length ≤ q := (nI_cmp (by omega) (by omega)).mp c_1
    refine lv_iconst (v := 0) hx hb d_M_next_23 (by decide) ?_
    refine W.eq (g2 := F0 m 24 ls [Value.int (nI (byA is q))]) (by rw [show byA is q = 0 by unfold byA; rw [List.getD_eq_getElem?_getD, List.getElem?_eq_none hge]; rfl]; rfl) ?_
    refine lv_istore_n (lv' := [(1, Value.int (nI (byA is q))), (0, Value.ref o)]) hx hb d_M_next_24 rfl hl (by decide) rfl (fun ls hl => ?_)
    refine lv_aload_n hx hb d_M_next_25 rfl (lv_at hl 1 rfl) ?_
    refine lv_dup hx hb d_M_next_26 rfl ?_
    refine va_get (D := (dC, dI)) (ci := 9) (v := .int (nI q)) (C := "RangeCodersModel") (T := T_M) (N := 35) hx hb hg in_M hown hK hP 0 rfl rfl 24 (by decide) (hg _ k976) (fun _ h9 => h9) rfl d_M_next_27 ?_
    refine lv_iconst (v := 1) hx hb d_M_next_30 (by decide) ?_
    refine lv_iadd hx hb d_M_next_31 ?_
    refine lv_topi (fun v_2 ev_2 => ?_)
    have z9 : v_2 = nI (q + 1) := by subst_vars; exact nI_1 _
    subst z9
    refine va_put (D := (dC, dI)) (ci := 9) (v := .int (nI (q + 1))) (ty := .int) (C := "RangeCodersModel") (T := T_M) (N := 35) hx hb hg in_M t_M o_M n_M hown hK hP hD hS 0 rfl rfl 24 (by decide) (hg _ k976) (fun _ h9 => h9) rfl (by decide +kernel) rfl rfl (Nat.le_of_ble_eq_true rfl) d_M_next_32 (fun H locs hP hD hS => ?_)
    have hP : va_P (dC, dI) vwCl [(o, Sum.inr (9, mO g fForm fShift fModels fItems fEnded fLow fRange fCache fPend fGoes fOuts (nI is.length) fReads fBad fIR (nI (q + 1)) fBAsk fCode fRL fRR fX fWrites fThrown)), ((g 8), Sum.inl (cI, 6000, Sum.inl vIn))] H := hP
    have hD : va_D A [(o, Sum.inr (9, mO g fForm fShift fModels fItems fEnded fLow fRange fCache fPend fGoes fOuts (nI is.length) fReads fBad fIR (nI (q + 1)) fBAsk fCode fRL fRR fX fWrites fThrown)), ((g 8), Sum.inl (cI, 6000, Sum.inl vIn))] := hD
    refine lv_iload_n hx hb d_M_next_35 rfl (lv_at hl 0 rfl) ?_
    exact my_iret (v := nI (byA is q)) hx hb hr (rfl) hlocks hQ hK hS (Nat.le_refl _) (Nat.le_refl _) () (rfl) (hP.sub [0, 1] rfl) (hD.sub [0, 1] (by decide +kernel) rfl) d_M_next_36
  · have hlt : q < is.length := by
      rcases Nat.lt_or_ge q is.length with z | z
      · exact z
      · exact absurd (nI_le z (by omega)) c_1
    refine lv_aload_n hx hb d_M_next_11 rfl (lv_at hl 0 rfl) ?_
    refine va_get (D := (dC, dI)) (ci := 9) (v := .ref (g 8)) (C := "RangeCodersModel") (T := T_M) (N := 35) hx hb hg in_M hown hK hP 0 rfl rfl 19 (by decide) (hg _ k971) (fun _ h9 => h9) rfl d_M_next_12 ?_
    refine lv_aload_n hx hb d_M_next_15 rfl (lv_at hl 0 rfl) ?_
    refine va_get (D := (dC, dI)) (ci := 9) (v := .int (nI q)) (C := "RangeCodersModel") (T := T_M) (N := 35) hx hb hg in_M hown hK hP 0 rfl rfl 24 (by decide) (hg _ k976) (fun _ h9 => h9) rfl d_M_next_16 ?_
    refine va_iald hx hb hK hP 1 0 rfl rfl (vp_in_nI (by omega) (by decide)) d_M_next_19 ?_
    refine lv_topi (fun v_3 ev_3 => ?_)
    refine lv_goto (tgt := 24) hx hb d_M_next_20 (by decide) ?_
    have z9 : v_3 = nI (byA is q) := by subst_vars; rw [nI_clamp (by omega)]; exact hI q hlt
    subst z9
    refine lv_istore_n (lv' := [(1, Value.int (nI (byA is q))), (0, Value.ref o)]) hx hb d_M_next_24 rfl hl (by decide) rfl (fun ls hl => ?_)
    refine lv_aload_n hx hb d_M_next_25 rfl (lv_at hl 1 rfl) ?_
    refine lv_dup hx hb d_M_next_26 rfl ?_
    refine va_get (D := (dC, dI)) (ci := 9) (v := .int (nI q)) (C := "RangeCodersModel") (T := T_M) (N := 35) hx hb hg in_M hown hK hP 0 rfl rfl 24 (by decide) (hg _ k976) (fun _ h9 => h9) rfl d_M_next_27 ?_
    refine lv_iconst (v := 1) hx hb d_M_next_30 (by decide) ?_
    refine lv_iadd hx hb d_M_next_31 ?_
    refine lv_topi (fun v_4 ev_4 => ?_)
    have z9 : v_4 = nI (q + 1) := by subst_vars; exact nI_1 _
    subst z9
    refine va_put (D := (dC, dI)) (ci := 9) (v := .int (nI (q + 1))) (ty := .int) (C := "RangeCodersModel") (T := T_M) (N := 35) hx hb hg in_M t_M o_M n_M hown hK hP hD hS 0 rfl rfl 24 (by decide) (hg _ k976) (fun _ h9 => h9) rfl (by decide +kernel) rfl rfl (Nat.le_of_ble_eq_true rfl) d_M_next_32 (fun H locs hP hD hS => ?_)
    have hP : va_P (dC, dI) vwCl [(o, Sum.inr (9, mO g fForm fShift fModels fItems fEnded fLow fRange fCache fPend fGoes fOuts (nI is.length) fReads fBad fIR (nI (q + 1)) fBAsk fCode fRL fRR fX fWrites fThrown)), ((g 8), Sum.inl (cI, 6000, Sum.inl vIn))] H := hP
    have hD : va_D A [(o, Sum.inr (9, mO g fForm fShift fModels fItems fEnded fLow fRange fCache fPend fGoes fOuts (nI is.length) fReads fBad fIR (nI (q + 1)) fBAsk fCode fRL fRR fX fWrites fThrown)), ((g 8), Sum.inl (cI, 6000, Sum.inl vIn))] := hD
    refine lv_iload_n hx hb d_M_next_35 rfl (lv_at hl 0 rfl) ?_
    exact my_iret (v := (nI (byA is q))) hx hb hr (rfl) hlocks hQ hK hS (Nat.le_refl _) (Nat.le_refl _) () (rfl) (hP.sub [0, 1] rfl) (hD.sub [0, 1] (by decide +kernel) rfl) d_M_next_36
set_option maxHeartbeats 1000000 in
set_option maxRecDepth 100000 in
/-- four -/
theorem c_M_four (l : Launch) (dC : Nat → ClassId) (dI : Nat → Nat → Nat) (cI cM cO : ClassId) (sz : Nat) (o : Nat) (g : Nat → Nat) (fForm : Int32) (fShift : Int32) (fModels : Int32) (fItems : Int32) (fEnded : Int32) (fLow : Int64) (fRange : Int64) (fCache : Int32) (fPend : Int32) (fGoes : Int32) (fOuts : Int32) (fReads : Int32) (fBad : Int32) (fIR : Int32) (fBAsk : Int32) (fCode : Int64) (fRL : Int64) (fRR : Int64) (fX : Int64) (fWrites : Int32) (fThrown : Int32) (vIn : Nat → Int32) (is : List Nat) (q : Nat) (hI : gIs vIn is) (hlen : is.length ≤ 6000) (hoct : oct is) (hq : q < 900000) : MetL l y_M_four (Cond.code y_M_four prog_14_method_42_code 4 (some .long) :: gw) ({ frames := 1, cells := 0, slots := 0, locals := 21 } : Room) (dC, dI) vwCl (kT cI cM cO) [Value.ref o] [(o, Sum.inr (9, mO g fForm fShift fModels fItems fEnded fLow fRange fCache fPend fGoes fOuts (nI is.length) fReads fBad fIR (nI q) fBAsk fCode fRL fRR fX fWrites fThrown)), ((g 8), Sum.inl (cI, 6000, Sum.inl vIn))] sz (fun (r : Int64) (u : Unit) => r = lN (frN is q 4)) (fun (u : Unit) => [(o, Sum.inr (9, mO g fForm fShift fModels fItems fEnded fLow fRange fCache fPend fGoes fOuts (nI is.length) fReads fBad fIR (nI (q + 4)) fBAsk fCode fRL fRR fX fWrites fThrown)), ((g 8), Sum.inl (cI, 6000, Sum.inl vIn))]) 0 0 := by
  refine my_ofL (cc := prog_14_method_42_code) (n := 4) (ret := (some .long)) (by decide) rfl (Nat.le_of_ble_eq_true rfl) ?_
  intro p e s m args below meth c R Q A ls H locs hx hb hr hts hown hlocks hml hnm hR hQ hA hl hP hK hN hD hS
  have hg : ∀ w ∈ gw, w.before args s = true := fun w h => hts w (List.mem_cons_of_mem _ h)
  have hown : s.vm.findClass "RangeCodersModel" = some m.cls := hown
  have hl : lv_has ls 4 [(0, Value.ref o)] := hl
  refine lv_lconst (v := 0) hx hb d_M_four_0 (by decide) ?_
  refine lv_lstore_n (lv' := [(1, Value.long 0), (0, Value.ref o)]) hx hb d_M_four_1 rfl hl (by decide) rfl (fun ls hl => ?_)
  refine lv_iconst (v := 0) hx hb d_M_four_2 (by decide) ?_
  refine lv_istore_n (lv' := [(3, Value.int 0), (1, Value.long 0), (0, Value.ref o)]) hx hb d_M_four_3 rfl hl (by decide) rfl (fun ls hl => ?_)
  have J_4 : ∀ (n9_4 : Nat) (v9 : Int64) (i9 : Int32) (j : Nat) (hn9_4 : 4 - j = n9_4) (hv9 : v9 = lN (frN is q j)) (hi : i9 = nI j) (hj : j ≤ 4) (H : Heap) (locs : List Loc) (ls : Array Slot), va_P (dC, dI) vwCl [(o, Sum.inr (9, mO g fForm fShift fModels fItems fEnded fLow fRange fCache fPend fGoes fOuts (nI is.length) fReads fBad fIR (nI (q + j)) fBAsk fCode fRL fRR fX fWrites fThrown)), ((g 8), Sum.inl (cI, 6000, Sum.inl vIn))] H → va_D A [(o, Sum.inr (9, mO g fForm fShift fModels fItems fEnded fLow fRange fCache fPend fGoes fOuts (nI is.length) fReads fBad fIR (nI (q + j)) fBAsk fCode fRL fRR fX fWrites fThrown)), ((g 8), Sum.inl (cI, 6000, Sum.inl vIn))] → va_S A s.heap H locs → lv_has ls 4 [(3, Value.int i9), (1, Value.long v9), (0, Value.ref o)] → W p l e R s m args below meth c H locs 0 0 Q (F0 m 4 ls []) := by
    intro n9_4
    induction n9_4 using Nat.strongRecOn with
    | ind n9_4 ih9_4 =>
      intro v9 i9 j hn9_4 hv9 hi hj H locs ls hP hD hS hl
      have hfr := frN_lt hoct q j
      have hp9 : 256 ^ j ≤ 256 ^ 4 := Nat.pow_le_pow_right (by decide) hj
      refine lv_iload_n hx hb d_M_four_4 rfl (lv_at hl 0 rfl) ?_
      refine lv_iconst (v := 4) hx hb d_M_four_5 (by decide) ?_
      refine lv_icmp_ge (tgt := 26) hx hb d_M_four_6 (by decide) (fun c_1 => ?_) (fun c_1 => ?_)
      · have hj3 : j = 4 := by rw [hi] at c_1; have := (nI_cmp (a := 4) (by decide) (by omega)).mp c_1; omega
        have z9 : j = 4 := hj3
        subst z9
        refine lv_lload_n hx hb d_M_four_26 rfl (lv_at hl 1 rfl) ?_
        exact my_lret (v := v9) hx hb hr hlocks hQ hK hS (Nat.le_refl _) (Nat.le_refl _) () (hv9) (hP.sub [0, 1] rfl) (hD.sub [0, 1] (by decide +kernel) rfl) d_M_four_27
      · have hj2 : j < 4 := by
          rcases Nat.lt_or_ge j 4 with z | z
          · exact z
          · exact absurd (by rw [hi]; exact nI_le (a := 4) z (by omega)) c_1
        refine lv_lload_n hx hb d_M_four_9 rfl (lv_at hl 1 rfl) ?_
        refine lv_bipush (v := 8) hx hb d_M_four_10 (by decide) ?_
        refine lv_lshl hx hb d_M_four_12 rfl ?_
        refine lv_topl (fun v_2 ev_2 => ?_)
        refine lv_aload_n hx hb d_M_four_13 rfl (lv_at hl 2 rfl) ?_
        refine my_ci (wr := []) (va_runV (As := []) (rest := [Value.long v_2]) ⟨hx, hb, hml, hown, hts⟩ (c_M_next l dC dI cI cM cO H.size o g fForm fShift fModels fItems fEnded fLow fRange fCache fPend fGoes fOuts fReads fBad fIR fBAsk fCode fRL fRR fX fWrites fThrown vIn is (q + j) (by assumption) (by assumption) (by assumption) (by omega)) (cwV 0 hts (my_gV k1194 k1196 ks45 k12 k1197) rfl rfl rfl (by decide +kernel) ⟨by rw [hR]; exact Nat.le_of_ble_eq_true rfl, by rw [hR]; exact Nat.le_of_ble_eq_true rfl⟩) (my_preV hK hN (hP.sub [0, 1] rfl) (hD.sub [0, 1] (by decide +kernel) rfl) 0 rfl rfl) rfl rfl hl.1 rfl (lv_room (Nat.le_of_ble_eq_true rfl)) d_M_four_14 ⟨by rw [hR]; exact Nat.le_of_ble_eq_true rfl, by rw [hR]; exact Nat.le_of_ble_eq_true rfl⟩) hP hD hS hA [0, 1] [] rfl rfl (by decide +kernel) (by decide +kernel) (fun r_14 u9 H locs hw_14 hP hD hS => ?_)
        have hw_14 : r_14 = nI (byA is (q + j)) := hw_14
        have hP : va_P (dC, dI) vwCl [(o, Sum.inr (9, mO g fForm fShift fModels fItems fEnded fLow fRange fCache fPend fGoes fOuts (nI is.length) fReads fBad fIR (nI ((q + j) + 1)) fBAsk fCode fRL fRR fX fWrites fThrown)), ((g 8), Sum.inl (cI, 6000, Sum.inl vIn))] H := hP
        have hD : va_D A [(o, Sum.inr (9, mO g fForm fShift fModels fItems fEnded fLow fRange fCache fPend fGoes fOuts (nI is.length) fReads fBad fIR (nI ((q + j) + 1)) fBAsk fCode fRL fRR fX fWrites fThrown)), ((g 8), Sum.inl (cI, 6000, Sum.inl vIn))] := hD
        refine lv_i2l hx hb d_M_four_17 rfl ?_
        refine lv_topl (fun v_3 ev_3 => ?_)
        refine lv_lor hx hb d_M_four_18 ?_
        refine lv_topl (fun v_4 ev_4 => ?_)
        refine lv_lstore_n (lv' := [(1, Value.long v_4), (3, Value.int i9), (0, Value.ref o)]) hx hb d_M_four_19 rfl hl (by decide) rfl (fun ls hl => ?_)
        obtain ⟨v_5, ev_5⟩ : ∃ y : Int32, y = i9 + (1) := ⟨_, rfl⟩
        refine lv_iinc (v := v_5) (lv' := [(3, Value.int v_5), (1, Value.long v_4), (0, Value.ref o)]) hx hb d_M_four_20 hl (k := 1) rfl (by rw [ev_5]; rfl) (by decide) rfl (fun ls hl => ?_)
        refine lv_goto (tgt := 4) hx hb d_M_four_23 (by decide) ?_
        exact ih9_4 _ (by first | omega | (omega)) v_4 v_5 (j + 1) rfl (by subst_vars; rw [L_shl8, nI_l (by have := hoct (q + j); omega), L_or8 (hoct _) (by have := hoct (q + j); omega)]; rfl) (by subst_vars; exact nI_1 j) (by omega) H locs ls (hP.sub [0, 1] rfl) (hD.sub [0, 1] (by decide +kernel) rfl) hS (lv_sub hl [0, 1, 2] rfl)
  exact J_4 _ 0 0 0 rfl (rfl) (rfl) (Nat.zero_le _) H locs ls (hP.sub [0, 1] rfl) (hD.sub [0, 1] (by decide +kernel) rfl) hS (lv_sub hl [0, 1, 2] rfl)
set_option maxHeartbeats 1000000 in
set_option maxRecDepth 100000 in
/-- nextBit -/
theorem c_M_nextBit (l : Launch) (dC : Nat → ClassId) (dI : Nat → Nat → Nat) (cI cM cO : ClassId) (sz : Nat) (o : Nat) (g : Nat → Nat) (fForm : Int32) (fShift : Int32) (fModels : Int32) (fItems : Int32) (fEnded : Int32) (fLow : Int64) (fRange : Int64) (fCache : Int32) (fPend : Int32) (fGoes : Int32) (fOuts : Int32) (fReads : Int32) (fBad : Int32) (fIR : Int32) (fCode : Int64) (fRL : Int64) (fRR : Int64) (fX : Int64) (fWrites : Int32) (fThrown : Int32) (vIn : Nat → Int32) (is : List Nat) (t : Nat) (fAsk : Int32) (hI : gIs vIn is) (hlen : is.length ≤ 6000) (hoct : oct is) (ht : t < 1000000) : MetI l y_M_nextBit (Cond.code y_M_nextBit prog_14_method_41_code 3 (some .int) :: gw) ({ frames := 0, cells := 0, slots := 0, locals := 0 } : Room) (dC, dI) vwCl (kT cI cM cO) [Value.ref o] [(o, Sum.inr (9, mO g fForm fShift fModels fItems fEnded fLow fRange fCache fPend fGoes fOuts (nI is.length) fReads fBad fIR fAsk (nI t) fCode fRL fRR fX fWrites fThrown)), ((g 8), Sum.inl (cI, 6000, Sum.inl vIn))] sz (fun (r : Int32) (u : Unit) => r = nI (biA is t)) (fun (u : Unit) => [(o, Sum.inr (9, mO g fForm fShift fModels fItems fEnded fLow fRange fCache fPend fGoes fOuts (nI is.length) fReads fBad fIR (nI ((t + 8) / 8)) (nI (t + 1)) fCode fRL fRR fX fWrites fThrown)), ((g 8), Sum.inl (cI, 6000, Sum.inl vIn))]) 0 0 := by
  refine my_ofI (cc := prog_14_method_41_code) (n := 3) (ret := (some .int)) (by decide) rfl (Nat.le_of_ble_eq_true rfl) ?_
  intro p e s m args below meth c R Q A ls H locs hx hb hr hts hown hlocks hml hnm hR hQ hA hl hP hK hN hD hS
  have hg : ∀ w ∈ gw, w.before args s = true := fun w h => hts w (List.mem_cons_of_mem _ h)
  have hown : s.vm.findClass "RangeCodersModel" = some m.cls := hown
  have hl : lv_has ls 3 [(0, Value.ref o)] := hl
  refine lv_aload_n hx hb d_M_nextBit_0 rfl (lv_at hl 0 rfl) ?_
  refine va_get (D := (dC, dI)) (ci := 9) (v := .int (nI t)) (C := "RangeCodersModel") (T := T_M) (N := 35) hx hb hg in_M hown hK hP 0 rfl rfl 25 (by decide) (hg _ k977) (fun _ h9 => h9) rfl d_M_nextBit_1 ?_
  refine lv_bipush (v := 8) hx hb d_M_nextBit_4 (by decide) ?_
  refine lv_idiv hx hb d_M_nextBit_6 (by decide) ?_
  refine lv_topi (fun v_1 ev_1 => ?_)
  have z9 : v_1 = nI (t / 8) := by subst_vars; exact pk_div (d := 8) (by omega) (by decide) (by decide)
  subst z9
  refine lv_istore_n (lv' := [(1, Value.int (nI (t / 8))), (0, Value.ref o)]) hx hb d_M_nextBit_7 rfl hl (by decide) rfl (fun ls hl => ?_)
  refine lv_iload_n hx hb d_M_nextBit_8 rfl (lv_at hl 0 rfl) ?_
  refine lv_aload_n hx hb d_M_nextBit_9 rfl (lv_at hl 1 rfl) ?_
  refine va_get (D := (dC, dI)) (ci := 9) (v := .int (nI is.length)) (C := "RangeCodersModel") (T := T_M) (N := 35) hx hb hg in_M hown hK hP 0 rfl rfl 20 (by decide) (hg _ k972) (fun _ h9 => h9) rfl d_M_nextBit_10 ?_
  refine lv_icmp_ge (tgt := 38) hx hb d_M_nextBit_13 (by decide) (fun c_2 => ?_) (fun c_2 => ?_)
  · have hge : is.length ≤ t / 8 := (nI_cmp (by omega) (by omega)).mp c_2
    refine lv_iconst (v := 0) hx hb d_M_nextBit_38 (by decide) ?_
    refine W.eq (g2 := F0 m 39 ls [Value.int (nI (biA is t))]) (by rw [show biA is t = 0 by unfold biA byA; rw [List.getD_eq_getElem?_getD, List.getElem?_eq_none hge]; simp]; rfl) ?_
    refine lv_istore_n (lv' := [(2, Value.int (nI (biA is t))), (1, Value.int (nI (t / 8))), (0, Value.ref o)]) hx hb d_M_nextBit_39 rfl hl (by decide) rfl (fun ls hl => ?_)
    refine lv_aload_n hx hb d_M_nextBit_40 rfl (lv_at hl 2 rfl) ?_
    refine lv_dup hx hb d_M_nextBit_41 rfl ?_
    refine va_get (D := (dC, dI)) (ci := 9) (v := .int (nI t)) (C := "RangeCodersModel") (T := T_M) (N := 35) hx hb hg in_M hown hK hP 0 rfl rfl 25 (by decide) (hg _ k977) (fun _ h9 => h9) rfl d_M_nextBit_42 ?_
    refine lv_iconst (v := 1) hx hb d_M_nextBit_45 (by decide) ?_
    refine lv_iadd hx hb d_M_nextBit_46 ?_
    refine lv_topi (fun v_3 ev_3 => ?_)
    have z9 : v_3 = nI (t + 1) := by subst_vars; exact nI_1 _
    subst z9
    refine va_put (D := (dC, dI)) (ci := 9) (v := .int (nI (t + 1))) (ty := .int) (C := "RangeCodersModel") (T := T_M) (N := 35) hx hb hg in_M t_M o_M n_M hown hK hP hD hS 0 rfl rfl 25 (by decide) (hg _ k977) (fun _ h9 => h9) rfl (by decide +kernel) rfl rfl (Nat.le_of_ble_eq_true rfl) d_M_nextBit_47 (fun H locs hP hD hS => ?_)
    have hP : va_P (dC, dI) vwCl [(o, Sum.inr (9, mO g fForm fShift fModels fItems fEnded fLow fRange fCache fPend fGoes fOuts (nI is.length) fReads fBad fIR fAsk (nI (t + 1)) fCode fRL fRR fX fWrites fThrown)), ((g 8), Sum.inl (cI, 6000, Sum.inl vIn))] H := hP
    have hD : va_D A [(o, Sum.inr (9, mO g fForm fShift fModels fItems fEnded fLow fRange fCache fPend fGoes fOuts (nI is.length) fReads fBad fIR fAsk (nI (t + 1)) fCode fRL fRR fX fWrites fThrown)), ((g 8), Sum.inl (cI, 6000, Sum.inl vIn))] := hD
    refine lv_aload_n hx hb d_M_nextBit_50 rfl (lv_at hl 2 rfl) ?_
    refine lv_aload_n hx hb d_M_nextBit_51 rfl (lv_at hl 2 rfl) ?_
    refine va_get (D := (dC, dI)) (ci := 9) (v := .int (nI (t + 1))) (C := "RangeCodersModel") (T := T_M) (N := 35) hx hb hg in_M hown hK hP 0 rfl rfl 25 (by decide) (hg _ k977) (fun _ h9 => h9) rfl d_M_nextBit_52 ?_
    refine lv_bipush (v := 7) hx hb d_M_nextBit_55 (by decide) ?_
    refine lv_iadd hx hb d_M_nextBit_57 ?_
    refine lv_topi (fun v_4 ev_4 => ?_)
    refine lv_bipush (v := 8) hx hb d_M_nextBit_58 (by decide) ?_
    refine lv_idiv hx hb d_M_nextBit_60 (by decide) ?_
    refine lv_topi (fun v_5 ev_5 => ?_)
    have z9 : v_5 = nI ((t + 8) / 8) := by subst_vars; rw [show nI (t + 1) + 7 = nI (t + 8) from nI_add (t + 1) 7]; exact pk_div (d := 8) (by omega) (by decide) (by decide)
    subst z9
    refine va_put (D := (dC, dI)) (ci := 9) (v := .int (nI ((t + 8) / 8))) (ty := .int) (C := "RangeCodersModel") (T := T_M) (N := 35) hx hb hg in_M t_M o_M n_M hown hK hP hD hS 0 rfl rfl 24 (by decide) (hg _ k976) (fun _ h9 => h9) rfl (by decide +kernel) rfl rfl (Nat.le_of_ble_eq_true rfl) d_M_nextBit_61 (fun H locs hP hD hS => ?_)
    have hP : va_P (dC, dI) vwCl [(o, Sum.inr (9, mO g fForm fShift fModels fItems fEnded fLow fRange fCache fPend fGoes fOuts (nI is.length) fReads fBad fIR (nI ((t + 8) / 8)) (nI (t + 1)) fCode fRL fRR fX fWrites fThrown)), ((g 8), Sum.inl (cI, 6000, Sum.inl vIn))] H := hP
    have hD : va_D A [(o, Sum.inr (9, mO g fForm fShift fModels fItems fEnded fLow fRange fCache fPend fGoes fOuts (nI is.length) fReads fBad fIR (nI ((t + 8) / 8)) (nI (t + 1)) fCode fRL fRR fX fWrites fThrown)), ((g 8), Sum.inl (cI, 6000, Sum.inl vIn))] := hD
    refine lv_iload_n hx hb d_M_nextBit_64 rfl (lv_at hl 0 rfl) ?_
    exact my_iret (v := nI (biA is t)) hx hb hr (rfl) hlocks hQ hK hS (Nat.le_refl _) (Nat.le_refl _) () (rfl) (hP.sub [0, 1] rfl) (hD.sub [0, 1] (by decide +kernel) rfl) d_M_nextBit_65
  · have hlt : t / 8 < is.length := by
      rcases Nat.lt_or_ge (t / 8) is.length with z | z
      · exact z
      · exact absurd (nI_le z (by omega)) c_2
    have ho : is.getD (t / 8) 0 < 256 := hoct (t / 8)
    have h8 := Nat.mod_lt t (show 0 < 8 by decide)
    refine lv_aload_n hx hb d_M_nextBit_16 rfl (lv_at hl 1 rfl) ?_
    refine va_get (D := (dC, dI)) (ci := 9) (v := .ref (g 8)) (C := "RangeCodersModel") (T := T_M) (N := 35) hx hb hg in_M hown hK hP 0 rfl rfl 19 (by decide) (hg _ k971) (fun _ h9 => h9) rfl d_M_nextBit_17 ?_
    refine lv_iload_n hx hb d_M_nextBit_20 rfl (lv_at hl 0 rfl) ?_
    refine va_iald hx hb hK hP 1 0 rfl rfl (vp_in_nI (by omega) (by decide)) d_M_nextBit_21 ?_
    refine lv_topi (fun v_6 ev_6 => ?_)
    refine lv_bipush (v := 7) hx hb d_M_nextBit_22 (by decide) ?_
    refine lv_aload_n hx hb d_M_nextBit_24 rfl (lv_at hl 1 rfl) ?_
    refine va_get (D := (dC, dI)) (ci := 9) (v := .int (nI t)) (C := "RangeCodersModel") (T := T_M) (N := 35) hx hb hg in_M hown hK hP 0 rfl rfl 25 (by decide) (hg _ k977) (fun _ h9 => h9) rfl d_M_nextBit_25 ?_
    refine lv_bipush (v := 8) hx hb d_M_nextBit_28 (by decide) ?_
    refine lv_irem hx hb d_M_nextBit_30 (by decide) ?_
    refine lv_topi (fun v_7 ev_7 => ?_)
    refine lv_isub hx hb d_M_nextBit_31 ?_
    refine lv_topi (fun v_8 ev_8 => ?_)
    refine lv_ishr hx hb d_M_nextBit_32 ?_
    refine lv_topi (fun v_9 ev_9 => ?_)
    refine lv_iconst (v := 1) hx hb d_M_nextBit_33 (by decide) ?_
    refine lv_iand hx hb d_M_nextBit_34 ?_
    refine lv_topi (fun v_10 ev_10 => ?_)
    refine lv_goto (tgt := 39) hx hb d_M_nextBit_35 (by decide) ?_
    have z9 : v_10 = nI (biA is t) := by subst_vars; rw [nI_clamp (by omega), hI _ hlt, I_shrA (x := 7 - t % 8) (by omega) (by rw [show (nI t - nI t / 8 * 8) = nI (t % 8) from pk_rem (d := 8) (by omega) (by decide) (by decide)]; exact pk_sub (a := 7) (by omega)) (by omega), I_and1 (Nat.lt_of_le_of_lt (Nat.div_le_self _ _) (by omega))]; rfl
    subst z9
    refine lv_istore_n (lv' := [(2, Value.int (nI (biA is t))), (1, Value.int (nI (t / 8))), (0, Value.ref o)]) hx hb d_M_nextBit_39 rfl hl (by decide) rfl (fun ls hl => ?_)
    refine lv_aload_n hx hb d_M_nextBit_40 rfl (lv_at hl 2 rfl) ?_
    refine lv_dup hx hb d_M_nextBit_41 rfl ?_
    refine va_get (D := (dC, dI)) (ci := 9) (v := .int (nI t)) (C := "RangeCodersModel") (T := T_M) (N := 35) hx hb hg in_M hown hK hP 0 rfl rfl 25 (by decide) (hg _ k977) (fun _ h9 => h9) rfl d_M_nextBit_42 ?_
    refine lv_iconst (v := 1) hx hb d_M_nextBit_45 (by decide) ?_
    refine lv_iadd hx hb d_M_nextBit_46 ?_
    refine lv_topi (fun v_11 ev_11 => ?_)
    have z9 : v_11 = nI (t + 1) := by subst_vars; exact nI_1 _
    subst z9
    refine va_put (D := (dC, dI)) (ci := 9) (v := .int (nI (t + 1))) (ty := .int) (C := "RangeCodersModel") (T := T_M) (N := 35) hx hb hg in_M t_M o_M n_M hown hK hP hD hS 0 rfl rfl 25 (by decide) (hg _ k977) (fun _ h9 => h9) rfl (by decide +kernel) rfl rfl (Nat.le_of_ble_eq_true rfl) d_M_nextBit_47 (fun H locs hP hD hS => ?_)
    have hP : va_P (dC, dI) vwCl [(o, Sum.inr (9, mO g fForm fShift fModels fItems fEnded fLow fRange fCache fPend fGoes fOuts (nI is.length) fReads fBad fIR fAsk (nI (t + 1)) fCode fRL fRR fX fWrites fThrown)), ((g 8), Sum.inl (cI, 6000, Sum.inl vIn))] H := hP
    have hD : va_D A [(o, Sum.inr (9, mO g fForm fShift fModels fItems fEnded fLow fRange fCache fPend fGoes fOuts (nI is.length) fReads fBad fIR fAsk (nI (t + 1)) fCode fRL fRR fX fWrites fThrown)), ((g 8), Sum.inl (cI, 6000, Sum.inl vIn))] := hD
    refine lv_aload_n hx hb d_M_nextBit_50 rfl (lv_at hl 2 rfl) ?_
    refine lv_aload_n hx hb d_M_nextBit_51 rfl (lv_at hl 2 rfl) ?_
    refine va_get (D := (dC, dI)) (ci := 9) (v := .int (nI (t + 1))) (C := "RangeCodersModel") (T := T_M) (N := 35) hx hb hg in_M hown hK hP 0 rfl rfl 25 (by decide) (hg _ k977) (fun _ h9 => h9) rfl d_M_nextBit_52 ?_
    refine lv_bipush (v := 7) hx hb d_M_nextBit_55 (by decide) ?_
    refine lv_iadd hx hb d_M_nextBit_57 ?_
    refine lv_topi (fun v_12 ev_12 => ?_)
    refine lv_bipush (v := 8) hx hb d_M_nextBit_58 (by decide) ?_
    refine lv_idiv hx hb d_M_nextBit_60 (by decide) ?_
    refine lv_topi (fun v_13 ev_13 => ?_)
    have z9 : v_13 = nI ((t + 8) / 8) := by subst_vars; rw [show nI (t + 1) + 7 = nI (t + 8) from nI_add (t + 1) 7]; exact pk_div (d := 8) (by omega) (by decide) (by decide)
    subst z9
    refine va_put (D := (dC, dI)) (ci := 9) (v := .int (nI ((t + 8) / 8))) (ty := .int) (C := "RangeCodersModel") (T := T_M) (N := 35) hx hb hg in_M t_M o_M n_M hown hK hP hD hS 0 rfl rfl 24 (by decide) (hg _ k976) (fun _ h9 => h9) rfl (by decide +kernel) rfl rfl (Nat.le_of_ble_eq_true rfl) d_M_nextBit_61 (fun H locs hP hD hS => ?_)
    have hP : va_P (dC, dI) vwCl [(o, Sum.inr (9, mO g fForm fShift fModels fItems fEnded fLow fRange fCache fPend fGoes fOuts (nI is.length) fReads fBad fIR (nI ((t + 8) / 8)) (nI (t + 1)) fCode fRL fRR fX fWrites fThrown)), ((g 8), Sum.inl (cI, 6000, Sum.inl vIn))] H := hP
    have hD : va_D A [(o, Sum.inr (9, mO g fForm fShift fModels fItems fEnded fLow fRange fCache fPend fGoes fOuts (nI is.length) fReads fBad fIR (nI ((t + 8) / 8)) (nI (t + 1)) fCode fRL fRR fX fWrites fThrown)), ((g 8), Sum.inl (cI, 6000, Sum.inl vIn))] := hD
    refine lv_iload_n hx hb d_M_nextBit_64 rfl (lv_at hl 0 rfl) ?_
    exact my_iret (v := (nI (biA is t))) hx hb hr (rfl) hlocks hQ hK hS (Nat.le_refl _) (Nat.le_refl _) () (rfl) (hP.sub [0, 1] rfl) (hD.sub [0, 1] (by decide +kernel) rfl) d_M_nextBit_65
set_option maxHeartbeats 1000000 in
set_option maxRecDepth 100000 in
/-- widenRead -/
theorem c_M_widenRead (l : Launch) (dC : Nat → ClassId) (dI : Nat → Nat → Nat) (cI cM cO : ClassId) (sz : Nat) (o : Nat) (g : Nat → Nat) (fForm : Int32) (fShift : Int32) (fModels : Int32) (fItems : Int32) (fEnded : Int32) (fLow : Int64) (fRange : Int64) (fCache : Int32) (fPend : Int32) (fGoes : Int32) (fOuts : Int32) (fReads : Int32) (fBad : Int32) (fIR : Int32) (fBAsk : Int32) (fRL : Int64) (fX : Int64) (fWrites : Int32) (fThrown : Int32) (vIn : Nat → Int32) (RR : Nat) (CD : Nat) (is : List Nat) (q : Nat) (hI : gIs vIn is) (hlen : is.length ≤ 6000) (hoct : oct is) (hq : q < 900000) (hR0 : 0 < RR) (hR1 : RR < 4294967296) (hC : CD < 4294967296) : MetV l y_M_widenRead (Cond.code y_M_widenRead prog_14_method_45_code 1 none :: gw) ({ frames := 1, cells := 0, slots := 0, locals := 21 } : Room) (dC, dI) vwCl (kT cI cM cO) [Value.ref o] [(o, Sum.inr (9, mO g fForm fShift fModels fItems fEnded fLow fRange fCache fPend fGoes fOuts (nI is.length) fReads fBad fIR (nI q) fBAsk (lN CD) fRL (lN RR) fX fWrites fThrown)), ((g 8), Sum.inl (cI, 6000, Sum.inl vIn))] sz (fun (u : Unit) => True) (fun (u : Unit) => [(o, Sum.inr (9, mO g fForm fShift fModels fItems fEnded fLow fRange fCache fPend fGoes fOuts (nI is.length) fReads fBad fIR (nI (wrS is (RR, CD, q)).2.2) fBAsk (lN (wrS is (RR, CD, q)).2.1) fRL (lN (wrS is (RR, CD, q)).1) fX fWrites fThrown)), ((g 8), Sum.inl (cI, 6000, Sum.inl vIn))]) 0 0 := by
  refine my_ofV (cc := prog_14_method_45_code) (n := 1) (ret := none) (by decide) rfl (Nat.le_of_ble_eq_true rfl) ?_
  intro p e s m args below meth c R Q A ls H locs hx hb hr hts hown hlocks hml hnm hR hQ hA hl hP hK hN hD hS
  have hg : ∀ w ∈ gw, w.before args s = true := fun w h => hts w (List.mem_cons_of_mem _ h)
  have hown : s.vm.findClass "RangeCodersModel" = some m.cls := hown
  have hl : lv_has ls 1 [(0, Value.ref o)] := hl
  have J_0 : ∀ (n9_0 : Nat) (r9 : RS) (k9 : Nat) (hn9_0 : k9 = n9_0) (hE9 : wrS is (RR, CD, q) = wrN is k9 r9) (hk5 : 5 ≤ k9) (hk8 : k9 ≤ 8) (hR9 : wb8 k9 ≤ r9.1) (hR32 : r9.1 < 4294967296) (hC9 : r9.2.1 < 4294967296) (hq9 : r9.2.2 + k9 ≤ 900008) (H : Heap) (locs : List Loc) (ls : Array Slot), va_P (dC, dI) vwCl [(o, Sum.inr (9, mO g fForm fShift fModels fItems fEnded fLow fRange fCache fPend fGoes fOuts (nI is.length) fReads fBad fIR (nI r9.2.2) fBAsk (lN r9.2.1) fRL (lN r9.1) fX fWrites fThrown)), ((g 8), Sum.inl (cI, 6000, Sum.inl vIn))] H → va_D A [(o, Sum.inr (9, mO g fForm fShift fModels fItems fEnded fLow fRange fCache fPend fGoes fOuts (nI is.length) fReads fBad fIR (nI r9.2.2) fBAsk (lN r9.2.1) fRL (lN r9.1) fX fWrites fThrown)), ((g 8), Sum.inl (cI, 6000, Sum.inl vIn))] → va_S A s.heap H locs → lv_has ls 1 [(0, Value.ref o)] → W p l e R s m args below meth c H locs 0 0 Q (F0 m 0 ls []) := by
    intro n9_0
    induction n9_0 using Nat.strongRecOn with
    | ind n9_0 ih9_0 =>
      intro r9 k9 hn9_0 hE9 hk5 hk8 hR9 hR32 hC9 hq9 H locs ls hP hD hS hl
      refine lv_aload_n hx hb d_M_widenRead_0 rfl (lv_at hl 0 rfl) ?_
      refine va_get (D := (dC, dI)) (ci := 9) (v := .long (lN r9.1)) (C := "RangeCodersModel") (T := T_M) (N := 35) hx hb hg in_M hown hK hP 0 rfl rfl 28 (by decide) (hg _ k980) (fun _ h9 => h9) rfl d_M_widenRead_1 ?_
      refine lv_ldc2 (v := 16777216) hx hb hown (hg _ k1101) d_M_widenRead_4 ?_
      refine W.lcmp hx hb d_M_widenRead_7 ?_
      refine lv_if_ge (tgt := 46) hx hb d_M_widenRead_8 (by decide) (fun c_1 => ?_) (fun c_1 => ?_)
      · rw [lg_cmp_ge] at c_1
        have hge : ¬ r9.1 < 16777216 := by have z := (L_le (a := 16777216) (by decide) (by omega)).mp c_1; omega
        have z9 : r9 = wrS is (RR, CD, q) := by rw [hE9, wrN_e hge]
        subst z9
        exact my_vret hx hb hr hlocks hQ hK hS (Nat.le_refl _) (Nat.le_refl _) () (trivial) (hP.sub [0, 1] rfl) (hD.sub [0, 1] (by decide +kernel) rfl) d_M_widenRead_46
      · rw [lg_cmp_ge] at c_1
        have hlt : r9.1 < 16777216 := by
          rcases Nat.lt_or_ge r9.1 16777216 with z | z
          · exact z
          · exact absurd ((L_le (a := 16777216) (by decide) (by omega)).mpr z) c_1
        have hk6 := wb8_k hk5 hR9 hlt
        have ho := hoct r9.2.2
        refine lv_aload_n hx hb d_M_widenRead_11 rfl (lv_at hl 0 rfl) ?_
        refine lv_aload_n hx hb d_M_widenRead_12 rfl (lv_at hl 0 rfl) ?_
        refine va_get (D := (dC, dI)) (ci := 9) (v := .long (lN r9.1)) (C := "RangeCodersModel") (T := T_M) (N := 35) hx hb hg in_M hown hK hP 0 rfl rfl 28 (by decide) (hg _ k980) (fun _ h9 => h9) rfl d_M_widenRead_13 ?_
        refine lv_bipush (v := 8) hx hb d_M_widenRead_16 (by decide) ?_
        refine lv_lshl hx hb d_M_widenRead_18 rfl ?_
        refine lv_topl (fun v_2 ev_2 => ?_)
        have z9 : v_2 = lN (r9.1 * 256) := by subst_vars; exact L_shl8 _
        subst z9
        refine va_put (D := (dC, dI)) (ci := 9) (v := .long (lN (r9.1 * 256))) (ty := .long) (C := "RangeCodersModel") (T := T_M) (N := 35) hx hb hg in_M t_M o_M n_M hown hK hP hD hS 0 rfl rfl 28 (by decide) (hg _ k980) (fun _ h9 => h9) rfl (by decide +kernel) rfl rfl (Nat.le_of_ble_eq_true rfl) d_M_widenRead_19 (fun H locs hP hD hS => ?_)
        have hP : va_P (dC, dI) vwCl [(o, Sum.inr (9, mO g fForm fShift fModels fItems fEnded fLow fRange fCache fPend fGoes fOuts (nI is.length) fReads fBad fIR (nI r9.2.2) fBAsk (lN r9.2.1) fRL (lN (r9.1 * 256)) fX fWrites fThrown)), ((g 8), Sum.inl (cI, 6000, Sum.inl vIn))] H := hP
        have hD : va_D A [(o, Sum.inr (9, mO g fForm fShift fModels fItems fEnded fLow fRange fCache fPend fGoes fOuts (nI is.length) fReads fBad fIR (nI r9.2.2) fBAsk (lN r9.2.1) fRL (lN (r9.1 * 256)) fX fWrites fThrown)), ((g 8), Sum.inl (cI, 6000, Sum.inl vIn))] := hD
        refine lv_aload_n hx hb d_M_widenRead_22 rfl (lv_at hl 0 rfl) ?_
        refine lv_aload_n hx hb d_M_widenRead_23 rfl (lv_at hl 0 rfl) ?_
        refine va_get (D := (dC, dI)) (ci := 9) (v := .long (lN r9.2.1)) (C := "RangeCodersModel") (T := T_M) (N := 35) hx hb hg in_M hown hK hP 0 rfl rfl 26 (by decide) (hg _ k978) (fun _ h9 => h9) rfl d_M_widenRead_24 ?_
        refine lv_bipush (v := 8) hx hb d_M_widenRead_27 (by decide) ?_
        refine lv_lshl hx hb d_M_widenRead_29 rfl ?_
        refine lv_topl (fun v_3 ev_3 => ?_)
        refine lv_ldc2 (v := 4294967295) hx hb hown (hg _ k927) d_M_widenRead_30 ?_
        refine lv_land hx hb d_M_widenRead_33 ?_
        refine lv_topl (fun v_4 ev_4 => ?_)
        refine lv_aload_n hx hb d_M_widenRead_34 rfl (lv_at hl 0 rfl) ?_
        refine my_ci (wr := []) (va_runV (As := []) (rest := [Value.long v_4, Value.ref o]) ⟨hx, hb, hml, hown, hts⟩ (c_M_next l dC dI cI cM cO H.size o g fForm fShift fModels fItems fEnded fLow fRange fCache fPend fGoes fOuts fReads fBad fIR fBAsk (lN r9.2.1) fRL (lN (r9.1 * 256)) fX fWrites fThrown vIn is r9.2.2 (by assumption) (by assumption) (by assumption) (by omega)) (cwV 0 hts (my_gV k1194 k1196 ks45 k12 k1197) rfl rfl rfl (by decide +kernel) ⟨by rw [hR]; exact Nat.le_of_ble_eq_true rfl, by rw [hR]; exact Nat.le_of_ble_eq_true rfl⟩) (my_preV hK hN (hP.sub [0, 1] rfl) (hD.sub [0, 1] (by decide +kernel) rfl) 0 rfl rfl) rfl rfl hl.1 rfl (lv_room (Nat.le_of_ble_eq_true rfl)) d_M_widenRead_35 ⟨by rw [hR]; exact Nat.le_of_ble_eq_true rfl, by rw [hR]; exact Nat.le_of_ble_eq_true rfl⟩) hP hD hS hA [0, 1] [] rfl rfl (by decide +kernel) (by decide +kernel) (fun r_35 u9 H locs hw_35 hP hD hS => ?_)
        have hw_35 : r_35 = nI (byA is r9.2.2) := hw_35
        have hP : va_P (dC, dI) vwCl [(o, Sum.inr (9, mO g fForm fShift fModels fItems fEnded fLow fRange fCache fPend fGoes fOuts (nI is.length) fReads fBad fIR (nI (r9.2.2 + 1)) fBAsk (lN r9.2.1) fRL (lN (r9.1 * 256)) fX fWrites fThrown)), ((g 8), Sum.inl (cI, 6000, Sum.inl vIn))] H := hP
        have hD : va_D A [(o, Sum.inr (9, mO g fForm fShift fModels fItems fEnded fLow fRange fCache fPend fGoes fOuts (nI is.length) fReads fBad fIR (nI (r9.2.2 + 1)) fBAsk (lN r9.2.1) fRL (lN (r9.1 * 256)) fX fWrites fThrown)), ((g 8), Sum.inl (cI, 6000, Sum.inl vIn))] := hD
        refine lv_i2l hx hb d_M_widenRead_38 rfl ?_
        refine lv_topl (fun v_5 ev_5 => ?_)
        refine lv_ladd hx hb d_M_widenRead_39 ?_
        refine lv_topl (fun v_6 ev_6 => ?_)
        have z9 : v_6 = lN (r9.2.1 * 256 % 4294967296 + byA is r9.2.2) := by subst_vars; rw [L_shl8, L_and32 (by omega), nI_l (by omega), lN_add]
        subst z9
        refine va_put (D := (dC, dI)) (ci := 9) (v := .long (lN (r9.2.1 * 256 % 4294967296 + byA is r9.2.2))) (ty := .long) (C := "RangeCodersModel") (T := T_M) (N := 35) hx hb hg in_M t_M o_M n_M hown hK hP hD hS 0 rfl rfl 26 (by decide) (hg _ k978) (fun _ h9 => h9) rfl (by decide +kernel) rfl rfl (Nat.le_of_ble_eq_true rfl) d_M_widenRead_40 (fun H locs hP hD hS => ?_)
        have hP : va_P (dC, dI) vwCl [(o, Sum.inr (9, mO g fForm fShift fModels fItems fEnded fLow fRange fCache fPend fGoes fOuts (nI is.length) fReads fBad fIR (nI (r9.2.2 + 1)) fBAsk (lN (r9.2.1 * 256 % 4294967296 + byA is r9.2.2)) fRL (lN (r9.1 * 256)) fX fWrites fThrown)), ((g 8), Sum.inl (cI, 6000, Sum.inl vIn))] H := hP
        have hD : va_D A [(o, Sum.inr (9, mO g fForm fShift fModels fItems fEnded fLow fRange fCache fPend fGoes fOuts (nI is.length) fReads fBad fIR (nI (r9.2.2 + 1)) fBAsk (lN (r9.2.1 * 256 % 4294967296 + byA is r9.2.2)) fRL (lN (r9.1 * 256)) fX fWrites fThrown)), ((g 8), Sum.inl (cI, 6000, Sum.inl vIn))] := hD
        refine lv_goto (tgt := 0) hx hb d_M_widenRead_43 (by decide) ?_
        exact ih9_0 _ (by first | omega | (omega)) (r9.1 * 256, r9.2.1 * 256 % 4294967296 + byA is r9.2.2, r9.2.2 + 1) (k9 - 1) rfl (by rw [hE9, wrN_s (by omega) hlt]) (by omega) (by omega) (wb8_s hk6 hk8 hR9) (by show r9.1 * 256 < _; omega) (by show r9.2.1 * 256 % 4294967296 + byA is r9.2.2 < _; have := hoct r9.2.2; omega) (by show r9.2.2 + 1 + _ ≤ _; omega) H locs ls (hP.sub [0, 1] rfl) (hD.sub [0, 1] (by decide +kernel) rfl) hS (lv_sub hl [0] rfl)
  exact J_0 _ (RR, CD, q) 8 rfl (rfl) (by decide) (by decide) (hR0) (hR1) (hC) (by show q + 8 ≤ _; omega) H locs ls (hP.sub [0, 1] rfl) (hD.sub [0, 1] (by decide +kernel) rfl) hS (lv_sub hl [0] rfl)
set_option maxHeartbeats 1000000 in
set_option maxRecDepth 100000 in
/-- refill -/
theorem c_M_refill (l : Launch) (dC : Nat → ClassId) (dI : Nat → Nat → Nat) (cI cM cO : ClassId) (sz : Nat) (o : Nat) (g : Nat → Nat) (fForm : Int32) (fShift : Int32) (fModels : Int32) (fItems : Int32) (fEnded : Int32) (fLow : Int64) (fRange : Int64) (fCache : Int32) (fPend : Int32) (fGoes : Int32) (fOuts : Int32) (fReads : Int32) (fBad : Int32) (fIR : Int32) (fBAsk : Int32) (fCode : Int64) (fRL : Int64) (fRR : Int64) (fWrites : Int32) (fThrown : Int32) (vIn : Nat → Int32) (X : Nat) (is : List Nat) (q : Nat) (hI : gIs vIn is) (hlen : is.length ≤ 6000) (hoct : oct is) (hq : q < 900000) (hX0 : 0 < X) (hX1 : X < 2 ^ 40) : MetV l y_M_refill (Cond.code y_M_refill prog_14_method_54_code 1 none :: gw) ({ frames := 1, cells := 0, slots := 0, locals := 21 } : Room) (dC, dI) vwCl (kT cI cM cO) [Value.ref o] [(o, Sum.inr (9, mO g fForm fShift fModels fItems fEnded fLow fRange fCache fPend fGoes fOuts (nI is.length) fReads fBad fIR (nI q) fBAsk fCode fRL fRR (lN X) fWrites fThrown)), ((g 8), Sum.inl (cI, 6000, Sum.inl vIn))] sz (fun (u : Unit) => True) (fun (u : Unit) => [(o, Sum.inr (9, mO g fForm fShift fModels fItems fEnded fLow fRange fCache fPend fGoes fOuts (nI is.length) fReads fBad fIR (nI (rfS is (X, q)).2) fBAsk fCode fRL fRR (lN (rfS is (X, q)).1) fWrites fThrown)), ((g 8), Sum.inl (cI, 6000, Sum.inl vIn))]) 0 0 := by
  refine my_ofV (cc := prog_14_method_54_code) (n := 1) (ret := none) (by decide) rfl (Nat.le_of_ble_eq_true rfl) ?_
  intro p e s m args below meth c R Q A ls H locs hx hb hr hts hown hlocks hml hnm hR hQ hA hl hP hK hN hD hS
  have hg : ∀ w ∈ gw, w.before args s = true := fun w h => hts w (List.mem_cons_of_mem _ h)
  have hown : s.vm.findClass "RangeCodersModel" = some m.cls := hown
  have hl : lv_has ls 1 [(0, Value.ref o)] := hl
  have J_0 : ∀ (n9_0 : Nat) (r9 : Nat × Nat) (k9 : Nat) (hn9_0 : k9 = n9_0) (hE9 : rfS is (X, q) = rfN is k9 r9) (hk5 : 5 ≤ k9) (hk8 : k9 ≤ 8) (hR9 : wb8 k9 ≤ r9.1) (hR40 : r9.1 < 2 ^ 40) (hq9 : r9.2 + k9 ≤ 900008) (H : Heap) (locs : List Loc) (ls : Array Slot), va_P (dC, dI) vwCl [(o, Sum.inr (9, mO g fForm fShift fModels fItems fEnded fLow fRange fCache fPend fGoes fOuts (nI is.length) fReads fBad fIR (nI r9.2) fBAsk fCode fRL fRR (lN r9.1) fWrites fThrown)), ((g 8), Sum.inl (cI, 6000, Sum.inl vIn))] H → va_D A [(o, Sum.inr (9, mO g fForm fShift fModels fItems fEnded fLow fRange fCache fPend fGoes fOuts (nI is.length) fReads fBad fIR (nI r9.2) fBAsk fCode fRL fRR (lN r9.1) fWrites fThrown)), ((g 8), Sum.inl (cI, 6000, Sum.inl vIn))] → va_S A s.heap H locs → lv_has ls 1 [(0, Value.ref o)] → W p l e R s m args below meth c H locs 0 0 Q (F0 m 0 ls []) := by
    intro n9_0
    induction n9_0 using Nat.strongRecOn with
    | ind n9_0 ih9_0 =>
      intro r9 k9 hn9_0 hE9 hk5 hk8 hR9 hR40 hq9 H locs ls hP hD hS hl
      refine lv_aload_n hx hb d_M_refill_0 rfl (lv_at hl 0 rfl) ?_
      refine va_get (D := (dC, dI)) (ci := 9) (v := .long (lN r9.1)) (C := "RangeCodersModel") (T := T_M) (N := 35) hx hb hg in_M hown hK hP 0 rfl rfl 29 (by decide) (hg _ k981) (fun _ h9 => h9) rfl d_M_refill_1 ?_
      refine lv_ldc2 (v := 8388608) hx hb hown (hg _ k1155) d_M_refill_4 ?_
      refine W.lcmp hx hb d_M_refill_7 ?_
      refine lv_if_ge (tgt := 31) hx hb d_M_refill_8 (by decide) (fun c_1 => ?_) (fun c_1 => ?_)
      · rw [lg_cmp_ge] at c_1
        have hge : ¬ r9.1 < 8388608 := by have z := (L_le (a := 8388608) (by decide) (by omega)).mp c_1; omega
        have z9 : r9 = rfS is (X, q) := by rw [hE9, rfN_e hge]
        subst z9
        exact my_vret hx hb hr hlocks hQ hK hS (Nat.le_refl _) (Nat.le_refl _) () (trivial) (hP.sub [0, 1] rfl) (hD.sub [0, 1] (by decide +kernel) rfl) d_M_refill_31
      · rw [lg_cmp_ge] at c_1
        have hlt : r9.1 < 8388608 := by
          rcases Nat.lt_or_ge r9.1 8388608 with z | z
          · exact z
          · exact absurd ((L_le (a := 8388608) (by decide) (by omega)).mpr z) c_1
        have hk6 := wb8_k hk5 hR9 (by omega)
        have ho := hoct r9.2
        refine lv_aload_n hx hb d_M_refill_11 rfl (lv_at hl 0 rfl) ?_
        refine lv_aload_n hx hb d_M_refill_12 rfl (lv_at hl 0 rfl) ?_
        refine va_get (D := (dC, dI)) (ci := 9) (v := .long (lN r9.1)) (C := "RangeCodersModel") (T := T_M) (N := 35) hx hb hg in_M hown hK hP 0 rfl rfl 29 (by decide) (hg _ k981) (fun _ h9 => h9) rfl d_M_refill_13 ?_
        refine lv_bipush (v := 8) hx hb d_M_refill_16 (by decide) ?_
        refine lv_lshl hx hb d_M_refill_18 rfl ?_
        refine lv_topl (fun v_2 ev_2 => ?_)
        refine lv_aload_n hx hb d_M_refill_19 rfl (lv_at hl 0 rfl) ?_
        refine my_ci (wr := []) (va_runV (As := []) (rest := [Value.long v_2, Value.ref o]) ⟨hx, hb, hml, hown, hts⟩ (c_M_next l dC dI cI cM cO H.size o g fForm fShift fModels fItems fEnded fLow fRange fCache fPend fGoes fOuts fReads fBad fIR fBAsk fCode fRL fRR (lN r9.1) fWrites fThrown vIn is r9.2 (by assumption) (by assumption) (by assumption) (by omega)) (cwV 0 hts (my_gV k1194 k1196 ks45 k12 k1197) rfl rfl rfl (by decide +kernel) ⟨by rw [hR]; exact Nat.le_of_ble_eq_true rfl, by rw [hR]; exact Nat.le_of_ble_eq_true rfl⟩) (my_preV hK hN (hP.sub [0, 1] rfl) (hD.sub [0, 1] (by decide +kernel) rfl) 0 rfl rfl) rfl rfl hl.1 rfl (lv_room (Nat.le_of_ble_eq_true rfl)) d_M_refill_20 ⟨by rw [hR]; exact Nat.le_of_ble_eq_true rfl, by rw [hR]; exact Nat.le_of_ble_eq_true rfl⟩) hP hD hS hA [0, 1] [] rfl rfl (by decide +kernel) (by decide +kernel) (fun r_20 u9 H locs hw_20 hP hD hS => ?_)
        have hw_20 : r_20 = nI (byA is r9.2) := hw_20
        have hP : va_P (dC, dI) vwCl [(o, Sum.inr (9, mO g fForm fShift fModels fItems fEnded fLow fRange fCache fPend fGoes fOuts (nI is.length) fReads fBad fIR (nI (r9.2 + 1)) fBAsk fCode fRL fRR (lN r9.1) fWrites fThrown)), ((g 8), Sum.inl (cI, 6000, Sum.inl vIn))] H := hP
        have hD : va_D A [(o, Sum.inr (9, mO g fForm fShift fModels fItems fEnded fLow fRange fCache fPend fGoes fOuts (nI is.length) fReads fBad fIR (nI (r9.2 + 1)) fBAsk fCode fRL fRR (lN r9.1) fWrites fThrown)), ((g 8), Sum.inl (cI, 6000, Sum.inl vIn))] := hD
        refine lv_i2l hx hb d_M_refill_23 rfl ?_
        refine lv_topl (fun v_3 ev_3 => ?_)
        refine lv_lor hx hb d_M_refill_24 ?_
        refine lv_topl (fun v_4 ev_4 => ?_)
        have z9 : v_4 = lN (r9.1 * 256 + byA is r9.2) := by subst_vars; rw [L_shl8, nI_l (by omega), L_or8 ho (by omega)]
        subst z9
        refine va_put (D := (dC, dI)) (ci := 9) (v := .long (lN (r9.1 * 256 + byA is r9.2))) (ty := .long) (C := "RangeCodersModel") (T := T_M) (N := 35) hx hb hg in_M t_M o_M n_M hown hK hP hD hS 0 rfl rfl 29 (by decide) (hg _ k981) (fun _ h9 => h9) rfl (by decide +kernel) rfl rfl (Nat.le_of_ble_eq_true rfl) d_M_refill_25 (fun H locs hP hD hS => ?_)
        have hP : va_P (dC, dI) vwCl [(o, Sum.inr (9, mO g fForm fShift fModels fItems fEnded fLow fRange fCache fPend fGoes fOuts (nI is.length) fReads fBad fIR (nI (r9.2 + 1)) fBAsk fCode fRL fRR (lN (r9.1 * 256 + byA is r9.2)) fWrites fThrown)), ((g 8), Sum.inl (cI, 6000, Sum.inl vIn))] H := hP
        have hD : va_D A [(o, Sum.inr (9, mO g fForm fShift fModels fItems fEnded fLow fRange fCache fPend fGoes fOuts (nI is.length) fReads fBad fIR (nI (r9.2 + 1)) fBAsk fCode fRL fRR (lN (r9.1 * 256 + byA is r9.2)) fWrites fThrown)), ((g 8), Sum.inl (cI, 6000, Sum.inl vIn))] := hD
        refine lv_goto (tgt := 0) hx hb d_M_refill_28 (by decide) ?_
        exact ih9_0 _ (by first | omega | (omega)) (r9.1 * 256 + byA is r9.2, r9.2 + 1) (k9 - 1) rfl (by rw [hE9, rfN_s (by omega) hlt]) (by omega) (by omega) (Nat.le_trans (wb8_s hk6 hk8 hR9) (Nat.le_add_right _ _)) (by show r9.1 * 256 + byA is r9.2 < _; omega) (by show r9.2 + 1 + _ ≤ _; omega) H locs ls (hP.sub [0, 1] rfl) (hD.sub [0, 1] (by decide +kernel) rfl) hS (lv_sub hl [0] rfl)
  exact J_0 _ (X, q) 8 rfl (rfl) (by decide) (by decide) (hX0) (hX1) (by show q + 8 ≤ _; omega) H locs ls (hP.sub [0, 1] rfl) (hD.sub [0, 1] (by decide +kernel) rfl) hS (lv_sub hl [0] rfl)

