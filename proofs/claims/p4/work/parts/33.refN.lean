set_option maxHeartbeats 1000000 in
set_option maxRecDepth 100000 in
/-- narrow, form 0 -/
theorem c_M_narrow0 (l : Launch) (dC : Nat → ClassId) (dI : Nat → Nat → Nat) (cI cM cO : ClassId) (sz : Nat) (o : Nat) (g : Nat → Nat) (fShift : Int32) (fModels : Int32) (fItems : Int32) (fEnded : Int32) (fOuts : Int32) (fIns : Int32) (fReads : Int32) (fBad : Int32) (fIR : Int32) (fAsk : Int32) (fBAsk : Int32) (fCode : Int64) (fRL : Int64) (fRR : Int64) (fX : Int64) (fWrites : Int32) (fThrown : Int32) (vGoing : Nat → Int32) (cc : Nat) (ff : Nat) (tt : Nat) (Rg : Nat) (L : Nat) (ca : Option Nat) (Pn : Nat) (bs : List Nat) (ht0 : 0 < tt) (ht1 : tt < 2 ^ 31) (hcf : cc + ff ≤ tt) (hff : 0 < ff) (hRt : tt ≤ Rg) (hR1 : Rg < 4294967296) (hL : L + Rg ≤ 8589934592) (hc : ∀ x, ca = some x → x < 256) (hG : gIs vGoing bs) (hN9 : bs.length + Pn + 4 ≤ 9000) : MetV l y_M_narrow (Cond.code y_M_narrow prog_14_method_21_code 6 none :: gw) ({ frames := 3, cells := 0, slots := 0, locals := 62 } : Room) (dC, dI) vwCl (kT cI cM cO) [Value.ref o, Value.int (nI cc), Value.int (nI ff), Value.int (nI tt)] [(o, Sum.inr (9, mO g 0 fShift fModels fItems fEnded (lN L) (lN Rg) (caI ca) (nI Pn) (nI bs.length) fOuts fIns fReads fBad fIR fAsk fBAsk fCode fRL fRR fX fWrites fThrown)), ((g 6), Sum.inl (cI, 9000, Sum.inl vGoing))] sz (fun (u : (Nat → Int32)) => gIs u (eB (wdS (Rg / tt * ff, L + Rg / tt * cc, ca, Pn, bs)))) (fun (u : (Nat → Int32)) => [(o, Sum.inr (9, mO g 0 fShift fModels fItems fEnded (lN (eL (wdS (Rg / tt * ff, L + Rg / tt * cc, ca, Pn, bs)))) (lN (eR (wdS (Rg / tt * ff, L + Rg / tt * cc, ca, Pn, bs)))) (caI (eC (wdS (Rg / tt * ff, L + Rg / tt * cc, ca, Pn, bs)))) (nI (eP (wdS (Rg / tt * ff, L + Rg / tt * cc, ca, Pn, bs)))) (nI (eB (wdS (Rg / tt * ff, L + Rg / tt * cc, ca, Pn, bs))).length) fOuts fIns fReads fBad fIR fAsk fBAsk fCode fRL fRR fX fWrites fThrown)), ((g 6), Sum.inl (cI, 9000, Sum.inl u))]) 0 0 := by
  refine my_ofV (cc := prog_14_method_21_code) (n := 6) (ret := none) (by decide) rfl (Nat.le_of_ble_eq_true rfl) ?_
  intro p e s m args below meth c R Q A ls H locs hx hb hr hts hown hlocks hml hnm hR hQ hA hl hP hK hN hD hS
  have hg : ∀ w ∈ gw, w.before args s = true := fun w h => hts w (List.mem_cons_of_mem _ h)
  have hown : s.vm.findClass "RangeCodersModel" = some m.cls := hown
  have hl : lv_has ls 6 [(0, Value.ref o), (1, Value.int (nI cc)), (2, Value.int (nI ff)), (3, Value.int (nI tt))] := hl
  have hd1 : Rg / tt * tt ≤ Rg := Nat.div_mul_le_self _ _
  have hd2 : Rg / tt * cc + Rg / tt * ff ≤ Rg / tt * tt := by rw [← Nat.mul_add]; exact Nat.mul_le_mul_left _ hcf
  have hd3 : 0 < Rg / tt := Nat.div_pos hRt ht0
  have hd4 : 0 < Rg / tt * ff := Nat.mul_pos hd3 hff
  have hd5 : Rg / tt ≤ Rg := Nat.div_le_self _ _
  generalize hrc : Rg / tt * cc = rc at hd2
  generalize hrf : Rg / tt * ff = rf at hd2 hd4
  refine lv_aload_n hx hb d_M_narrow_0 rfl (lv_at hl 0 rfl) ?_
  refine va_get (D := (dC, dI)) (ci := 9) (v := .long (lN Rg)) (C := "RangeCodersModel") (T := T_M) (N := 35) hx hb hg in_M hown hK hP 0 rfl rfl 12 (by decide) (hg _ k964) (fun _ h9 => h9) rfl d_M_narrow_1 ?_
  refine lv_iload_n hx hb d_M_narrow_4 rfl (lv_at hl 3 rfl) ?_
  refine lv_i2l hx hb d_M_narrow_5 rfl ?_
  refine lv_topl (fun v_1 ev_1 => ?_)
  refine lv_ldiv hx hb d_M_narrow_6 (by subst_vars; rw [nI_l (by omega)]; intro z; have := (pk_lEQ (b := 0) (by omega) (by decide)).mp z; omega) ?_
  refine lv_topl (fun v_2 ev_2 => ?_)
  have z9 : v_2 = lN (Rg / tt) := by subst_vars; rw [nI_l (by omega)]; exact pk_lDiv (by omega) ht0 (by omega)
  subst z9
  refine lv_lstore (lv' := [(4, Value.long (lN (Rg / tt))), (0, Value.ref o), (1, Value.int (nI cc)), (2, Value.int (nI ff)), (3, Value.int (nI tt))]) hx hb d_M_narrow_7 hl (by decide) rfl (fun ls hl => ?_)
  refine lv_aload_n hx hb d_M_narrow_9 rfl (lv_at hl 1 rfl) ?_
  refine lv_aload_n hx hb d_M_narrow_10 rfl (lv_at hl 1 rfl) ?_
  refine va_get (D := (dC, dI)) (ci := 9) (v := .long (lN L)) (C := "RangeCodersModel") (T := T_M) (N := 35) hx hb hg in_M hown hK hP 0 rfl rfl 11 (by decide) (hg _ k963) (fun _ h9 => h9) rfl d_M_narrow_11 ?_
  refine lv_lload hx hb d_M_narrow_14 (lv_at hl 0 rfl) ?_
  refine lv_iload_n hx hb d_M_narrow_16 rfl (lv_at hl 2 rfl) ?_
  refine lv_i2l hx hb d_M_narrow_17 rfl ?_
  refine lv_topl (fun v_3 ev_3 => ?_)
  refine lv_lmul hx hb d_M_narrow_18 ?_
  refine lv_topl (fun v_4 ev_4 => ?_)
  refine lv_ladd hx hb d_M_narrow_19 ?_
  refine lv_topl (fun v_5 ev_5 => ?_)
  have z9 : v_5 = lN (L + rc) := by subst_vars; rw [nI_l (by omega), lN_mul, lN_add]
  subst z9
  refine va_put (D := (dC, dI)) (ci := 9) (v := .long (lN (L + rc))) (ty := .long) (C := "RangeCodersModel") (T := T_M) (N := 35) hx hb hg in_M t_M o_M n_M hown hK hP hD hS 0 rfl rfl 11 (by decide) (hg _ k963) (fun _ h9 => h9) rfl (by decide +kernel) rfl rfl (Nat.le_of_ble_eq_true rfl) d_M_narrow_20 (fun H locs hP hD hS => ?_)
  have hP : va_P (dC, dI) vwCl [(o, Sum.inr (9, mO g 0 fShift fModels fItems fEnded (lN (L + rc)) (lN Rg) (caI ca) (nI Pn) (nI bs.length) fOuts fIns fReads fBad fIR fAsk fBAsk fCode fRL fRR fX fWrites fThrown)), ((g 6), Sum.inl (cI, 9000, Sum.inl vGoing))] H := hP
  have hD : va_D A [(o, Sum.inr (9, mO g 0 fShift fModels fItems fEnded (lN (L + rc)) (lN Rg) (caI ca) (nI Pn) (nI bs.length) fOuts fIns fReads fBad fIR fAsk fBAsk fCode fRL fRR fX fWrites fThrown)), ((g 6), Sum.inl (cI, 9000, Sum.inl vGoing))] := hD
  refine lv_aload_n hx hb d_M_narrow_23 rfl (lv_at hl 1 rfl) ?_
  refine lv_lload hx hb d_M_narrow_24 (lv_at hl 0 rfl) ?_
  refine lv_iload_n hx hb d_M_narrow_26 rfl (lv_at hl 3 rfl) ?_
  refine lv_i2l hx hb d_M_narrow_27 rfl ?_
  refine lv_topl (fun v_6 ev_6 => ?_)
  refine lv_lmul hx hb d_M_narrow_28 ?_
  refine lv_topl (fun v_7 ev_7 => ?_)
  have z9 : v_7 = lN rf := by subst_vars; rw [nI_l (by omega), lN_mul]
  subst z9
  refine va_put (D := (dC, dI)) (ci := 9) (v := .long (lN rf)) (ty := .long) (C := "RangeCodersModel") (T := T_M) (N := 35) hx hb hg in_M t_M o_M n_M hown hK hP hD hS 0 rfl rfl 12 (by decide) (hg _ k964) (fun _ h9 => h9) rfl (by decide +kernel) rfl rfl (Nat.le_of_ble_eq_true rfl) d_M_narrow_29 (fun H locs hP hD hS => ?_)
  have hP : va_P (dC, dI) vwCl [(o, Sum.inr (9, mO g 0 fShift fModels fItems fEnded (lN (L + rc)) (lN rf) (caI ca) (nI Pn) (nI bs.length) fOuts fIns fReads fBad fIR fAsk fBAsk fCode fRL fRR fX fWrites fThrown)), ((g 6), Sum.inl (cI, 9000, Sum.inl vGoing))] H := hP
  have hD : va_D A [(o, Sum.inr (9, mO g 0 fShift fModels fItems fEnded (lN (L + rc)) (lN rf) (caI ca) (nI Pn) (nI bs.length) fOuts fIns fReads fBad fIR fAsk fBAsk fCode fRL fRR fX fWrites fThrown)), ((g 6), Sum.inl (cI, 9000, Sum.inl vGoing))] := hD
  refine lv_aload_n hx hb d_M_narrow_32 rfl (lv_at hl 1 rfl) ?_
  refine va_get (D := (dC, dI)) (ci := 9) (v := .int 0) (C := "RangeCodersModel") (T := T_M) (N := 35) hx hb hg in_M hown hK hP 0 rfl rfl 0 (by decide) (hg _ k952) (fun _ h9 => h9) rfl d_M_narrow_33 ?_
  refine lv_if_ne (tgt := 46) hx hb d_M_narrow_36 (by decide) (fun c_8 => ?_) (fun c_8 => ?_)
  · exact absurd rfl c_8
  · refine lv_aload_n hx hb d_M_narrow_39 rfl (lv_at hl 1 rfl) ?_
    refine my_cv (wr := []) (va_runV (As := []) (rest := []) ⟨hx, hb, hml, hown, hts⟩ (c_M_widen l dC dI cI cM cO H.size o g 0 fShift fModels fItems fEnded fOuts fIns fReads fBad fIR fAsk fBAsk fCode fRL fRR fX fWrites fThrown vGoing rf (L + rc) ca Pn bs (hd4) (by omega) (by omega) (by assumption) (by assumption) (by assumption)) (cwV 0 hts (my_gV k1097 k1099 ks30 k12 k1100) rfl rfl rfl (by decide +kernel) ⟨by rw [hR]; exact Nat.le_of_ble_eq_true rfl, by rw [hR]; exact Nat.le_of_ble_eq_true rfl⟩) (my_preV hK hN (hP.sub [0, 1] rfl) (hD.sub [0, 1] (by decide +kernel) rfl) 0 rfl rfl) rfl rfl hl.1 rfl (lv_room (Nat.le_of_ble_eq_true rfl)) d_M_narrow_40 ⟨by rw [hR]; exact Nat.le_of_ble_eq_true rfl, by rw [hR]; exact Nat.le_of_ble_eq_true rfl⟩) hP hD hS hA [0, 1] [] rfl rfl (by decide +kernel) (by decide +kernel) (fun u9 H locs hw_40 hP hD hS => ?_)
    obtain ⟨v2_40, rfl⟩ : ∃ z, z = u9 := ⟨_, rfl⟩
    have hw_40 : gIs v2_40 (eB (wdS (rf, (L + rc), ca, Pn, bs))) := hw_40
    have hP : va_P (dC, dI) vwCl [(o, Sum.inr (9, mO g 0 fShift fModels fItems fEnded (lN (eL (wdS (rf, (L + rc), ca, Pn, bs)))) (lN (eR (wdS (rf, (L + rc), ca, Pn, bs)))) (caI (eC (wdS (rf, (L + rc), ca, Pn, bs)))) (nI (eP (wdS (rf, (L + rc), ca, Pn, bs)))) (nI (eB (wdS (rf, (L + rc), ca, Pn, bs))).length) fOuts fIns fReads fBad fIR fAsk fBAsk fCode fRL fRR fX fWrites fThrown)), ((g 6), Sum.inl (cI, 9000, Sum.inl v2_40))] H := hP
    have hD : va_D A [(o, Sum.inr (9, mO g 0 fShift fModels fItems fEnded (lN (eL (wdS (rf, (L + rc), ca, Pn, bs)))) (lN (eR (wdS (rf, (L + rc), ca, Pn, bs)))) (caI (eC (wdS (rf, (L + rc), ca, Pn, bs)))) (nI (eP (wdS (rf, (L + rc), ca, Pn, bs)))) (nI (eB (wdS (rf, (L + rc), ca, Pn, bs))).length) fOuts fIns fReads fBad fIR fAsk fBAsk fCode fRL fRR fX fWrites fThrown)), ((g 6), Sum.inl (cI, 9000, Sum.inl v2_40))] := hD
    refine lv_goto (tgt := 62) hx hb d_M_narrow_43 (by decide) ?_
    subst hrc
    subst hrf
    
    
    exact my_vret hx hb hr hlocks hQ hK hS (Nat.le_refl _) (Nat.le_refl _) v2_40 (hw_40) (hP.sub [0, 1] rfl) (hD.sub [0, 1] (by decide +kernel) rfl) d_M_narrow_62
set_option maxHeartbeats 1000000 in
set_option maxRecDepth 100000 in
/-- narrow, form 1 -/
theorem c_M_narrow1 (l : Launch) (dC : Nat → ClassId) (dI : Nat → Nat → Nat) (cI cM cO : ClassId) (sz : Nat) (o : Nat) (g : Nat → Nat) (fShift : Int32) (fModels : Int32) (fItems : Int32) (fEnded : Int32) (fCache : Int32) (fPend : Int32) (fOuts : Int32) (fIns : Int32) (fReads : Int32) (fBad : Int32) (fIR : Int32) (fAsk : Int32) (fBAsk : Int32) (fCode : Int64) (fRL : Int64) (fRR : Int64) (fX : Int64) (fWrites : Int32) (fThrown : Int32) (vGoing : Nat → Int32) (cc : Nat) (ff : Nat) (tt : Nat) (Rg : Nat) (L : Nat) (bs : List Nat) (ht0 : 0 < tt) (ht1 : tt < 2 ^ 31) (hcf : cc + ff ≤ tt) (hff : 0 < ff) (hRt : tt ≤ Rg) (hp : pOk Rg L) (hG : gIs vGoing bs) (hN9 : bs.length + 5 ≤ 9000) : MetV l y_M_narrow (Cond.code y_M_narrow prog_14_method_21_code 6 none :: gw) ({ frames := 2, cells := 0, slots := 0, locals := 43 } : Room) (dC, dI) vwCl (kT cI cM cO) [Value.ref o, Value.int (nI cc), Value.int (nI ff), Value.int (nI tt)] [(o, Sum.inr (9, mO g 1 fShift fModels fItems fEnded (lN L) (lN Rg) fCache fPend (nI bs.length) fOuts fIns fReads fBad fIR fAsk fBAsk fCode fRL fRR fX fWrites fThrown)), ((g 6), Sum.inl (cI, 9000, Sum.inl vGoing))] sz (fun (u : (Nat → Int32)) => gIs u (plS (Rg / tt * ff, L + Rg / tt * cc, bs)).2.2) (fun (u : (Nat → Int32)) => [(o, Sum.inr (9, mO g 1 fShift fModels fItems fEnded (lN (plS (Rg / tt * ff, L + Rg / tt * cc, bs)).2.1) (lN (plS (Rg / tt * ff, L + Rg / tt * cc, bs)).1) fCache fPend (nI (plS (Rg / tt * ff, L + Rg / tt * cc, bs)).2.2.length) fOuts fIns fReads fBad fIR fAsk fBAsk fCode fRL fRR fX fWrites fThrown)), ((g 6), Sum.inl (cI, 9000, Sum.inl u))]) 0 0 := by
  refine my_ofV (cc := prog_14_method_21_code) (n := 6) (ret := none) (by decide) rfl (Nat.le_of_ble_eq_true rfl) ?_
  intro p e s m args below meth c R Q A ls H locs hx hb hr hts hown hlocks hml hnm hR hQ hA hl hP hK hN hD hS
  have hg : ∀ w ∈ gw, w.before args s = true := fun w h => hts w (List.mem_cons_of_mem _ h)
  have hown : s.vm.findClass "RangeCodersModel" = some m.cls := hown
  have hl : lv_has ls 6 [(0, Value.ref o), (1, Value.int (nI cc)), (2, Value.int (nI ff)), (3, Value.int (nI tt))] := hl
  obtain ⟨hp1, hp2, hp3, hp4⟩ := hp
  have hd1 : Rg / tt * tt ≤ Rg := Nat.div_mul_le_self _ _
  have hd2 : Rg / tt * cc + Rg / tt * ff ≤ Rg / tt * tt := by rw [← Nat.mul_add]; exact Nat.mul_le_mul_left _ hcf
  have hd3 : 0 < Rg / tt := Nat.div_pos hRt ht0
  have hd4 : 0 < Rg / tt * ff := Nat.mul_pos hd3 hff
  have hd5 : Rg / tt ≤ Rg := Nat.div_le_self _ _
  generalize hrc : Rg / tt * cc = rc at hd2
  generalize hrf : Rg / tt * ff = rf at hd2 hd4
  refine lv_aload_n hx hb d_M_narrow_0 rfl (lv_at hl 0 rfl) ?_
  refine va_get (D := (dC, dI)) (ci := 9) (v := .long (lN Rg)) (C := "RangeCodersModel") (T := T_M) (N := 35) hx hb hg in_M hown hK hP 0 rfl rfl 12 (by decide) (hg _ k964) (fun _ h9 => h9) rfl d_M_narrow_1 ?_
  refine lv_iload_n hx hb d_M_narrow_4 rfl (lv_at hl 3 rfl) ?_
  refine lv_i2l hx hb d_M_narrow_5 rfl ?_
  refine lv_topl (fun v_1 ev_1 => ?_)
  refine lv_ldiv hx hb d_M_narrow_6 (by subst_vars; rw [nI_l (by omega)]; intro z; have := (pk_lEQ (b := 0) (by omega) (by decide)).mp z; omega) ?_
  refine lv_topl (fun v_2 ev_2 => ?_)
  have z9 : v_2 = lN (Rg / tt) := by subst_vars; rw [nI_l (by omega)]; exact pk_lDiv (by omega) ht0 (by omega)
  subst z9
  refine lv_lstore (lv' := [(4, Value.long (lN (Rg / tt))), (0, Value.ref o), (1, Value.int (nI cc)), (2, Value.int (nI ff)), (3, Value.int (nI tt))]) hx hb d_M_narrow_7 hl (by decide) rfl (fun ls hl => ?_)
  refine lv_aload_n hx hb d_M_narrow_9 rfl (lv_at hl 1 rfl) ?_
  refine lv_aload_n hx hb d_M_narrow_10 rfl (lv_at hl 1 rfl) ?_
  refine va_get (D := (dC, dI)) (ci := 9) (v := .long (lN L)) (C := "RangeCodersModel") (T := T_M) (N := 35) hx hb hg in_M hown hK hP 0 rfl rfl 11 (by decide) (hg _ k963) (fun _ h9 => h9) rfl d_M_narrow_11 ?_
  refine lv_lload hx hb d_M_narrow_14 (lv_at hl 0 rfl) ?_
  refine lv_iload_n hx hb d_M_narrow_16 rfl (lv_at hl 2 rfl) ?_
  refine lv_i2l hx hb d_M_narrow_17 rfl ?_
  refine lv_topl (fun v_3 ev_3 => ?_)
  refine lv_lmul hx hb d_M_narrow_18 ?_
  refine lv_topl (fun v_4 ev_4 => ?_)
  refine lv_ladd hx hb d_M_narrow_19 ?_
  refine lv_topl (fun v_5 ev_5 => ?_)
  have z9 : v_5 = lN (L + rc) := by subst_vars; rw [nI_l (by omega), lN_mul, lN_add]
  subst z9
  refine va_put (D := (dC, dI)) (ci := 9) (v := .long (lN (L + rc))) (ty := .long) (C := "RangeCodersModel") (T := T_M) (N := 35) hx hb hg in_M t_M o_M n_M hown hK hP hD hS 0 rfl rfl 11 (by decide) (hg _ k963) (fun _ h9 => h9) rfl (by decide +kernel) rfl rfl (Nat.le_of_ble_eq_true rfl) d_M_narrow_20 (fun H locs hP hD hS => ?_)
  have hP : va_P (dC, dI) vwCl [(o, Sum.inr (9, mO g 1 fShift fModels fItems fEnded (lN (L + rc)) (lN Rg) fCache fPend (nI bs.length) fOuts fIns fReads fBad fIR fAsk fBAsk fCode fRL fRR fX fWrites fThrown)), ((g 6), Sum.inl (cI, 9000, Sum.inl vGoing))] H := hP
  have hD : va_D A [(o, Sum.inr (9, mO g 1 fShift fModels fItems fEnded (lN (L + rc)) (lN Rg) fCache fPend (nI bs.length) fOuts fIns fReads fBad fIR fAsk fBAsk fCode fRL fRR fX fWrites fThrown)), ((g 6), Sum.inl (cI, 9000, Sum.inl vGoing))] := hD
  refine lv_aload_n hx hb d_M_narrow_23 rfl (lv_at hl 1 rfl) ?_
  refine lv_lload hx hb d_M_narrow_24 (lv_at hl 0 rfl) ?_
  refine lv_iload_n hx hb d_M_narrow_26 rfl (lv_at hl 3 rfl) ?_
  refine lv_i2l hx hb d_M_narrow_27 rfl ?_
  refine lv_topl (fun v_6 ev_6 => ?_)
  refine lv_lmul hx hb d_M_narrow_28 ?_
  refine lv_topl (fun v_7 ev_7 => ?_)
  have z9 : v_7 = lN rf := by subst_vars; rw [nI_l (by omega), lN_mul]
  subst z9
  refine va_put (D := (dC, dI)) (ci := 9) (v := .long (lN rf)) (ty := .long) (C := "RangeCodersModel") (T := T_M) (N := 35) hx hb hg in_M t_M o_M n_M hown hK hP hD hS 0 rfl rfl 12 (by decide) (hg _ k964) (fun _ h9 => h9) rfl (by decide +kernel) rfl rfl (Nat.le_of_ble_eq_true rfl) d_M_narrow_29 (fun H locs hP hD hS => ?_)
  have hP : va_P (dC, dI) vwCl [(o, Sum.inr (9, mO g 1 fShift fModels fItems fEnded (lN (L + rc)) (lN rf) fCache fPend (nI bs.length) fOuts fIns fReads fBad fIR fAsk fBAsk fCode fRL fRR fX fWrites fThrown)), ((g 6), Sum.inl (cI, 9000, Sum.inl vGoing))] H := hP
  have hD : va_D A [(o, Sum.inr (9, mO g 1 fShift fModels fItems fEnded (lN (L + rc)) (lN rf) fCache fPend (nI bs.length) fOuts fIns fReads fBad fIR fAsk fBAsk fCode fRL fRR fX fWrites fThrown)), ((g 6), Sum.inl (cI, 9000, Sum.inl vGoing))] := hD
  refine lv_aload_n hx hb d_M_narrow_32 rfl (lv_at hl 1 rfl) ?_
  refine va_get (D := (dC, dI)) (ci := 9) (v := .int 1) (C := "RangeCodersModel") (T := T_M) (N := 35) hx hb hg in_M hown hK hP 0 rfl rfl 0 (by decide) (hg _ k952) (fun _ h9 => h9) rfl d_M_narrow_33 ?_
  refine lv_if_ne (tgt := 46) hx hb d_M_narrow_36 (by decide) (fun c_8 => ?_) (fun c_8 => ?_)
  · refine lv_aload_n hx hb d_M_narrow_46 rfl (lv_at hl 1 rfl) ?_
    refine lv_aload_n hx hb d_M_narrow_47 rfl (lv_at hl 1 rfl) ?_
    refine va_get (D := (dC, dI)) (ci := 9) (v := .long (lN (L + rc))) (C := "RangeCodersModel") (T := T_M) (N := 35) hx hb hg in_M hown hK hP 0 rfl rfl 11 (by decide) (hg _ k963) (fun _ h9 => h9) rfl d_M_narrow_48 ?_
    refine lv_ldc2 (v := 4294967295) hx hb hown (hg _ k927) d_M_narrow_51 ?_
    refine lv_land hx hb d_M_narrow_54 ?_
    refine lv_topl (fun v_9 ev_9 => ?_)
    have z9 : v_9 = lN (L + rc) := by subst_vars; rw [L_and32 (by omega), Nat.mod_eq_of_lt (by omega)]
    subst z9
    refine va_put (D := (dC, dI)) (ci := 9) (v := .long (lN (L + rc))) (ty := .long) (C := "RangeCodersModel") (T := T_M) (N := 35) hx hb hg in_M t_M o_M n_M hown hK hP hD hS 0 rfl rfl 11 (by decide) (hg _ k963) (fun _ h9 => h9) rfl (by decide +kernel) rfl rfl (Nat.le_of_ble_eq_true rfl) d_M_narrow_55 (fun H locs hP hD hS => ?_)
    have hP : va_P (dC, dI) vwCl [(o, Sum.inr (9, mO g 1 fShift fModels fItems fEnded (lN (L + rc)) (lN rf) fCache fPend (nI bs.length) fOuts fIns fReads fBad fIR fAsk fBAsk fCode fRL fRR fX fWrites fThrown)), ((g 6), Sum.inl (cI, 9000, Sum.inl vGoing))] H := hP
    have hD : va_D A [(o, Sum.inr (9, mO g 1 fShift fModels fItems fEnded (lN (L + rc)) (lN rf) fCache fPend (nI bs.length) fOuts fIns fReads fBad fIR fAsk fBAsk fCode fRL fRR fX fWrites fThrown)), ((g 6), Sum.inl (cI, 9000, Sum.inl vGoing))] := hD
    refine lv_aload_n hx hb d_M_narrow_58 rfl (lv_at hl 1 rfl) ?_
    refine my_cv (wr := []) (va_runV (As := []) (rest := []) ⟨hx, hb, hml, hown, hts⟩ (c_M_widenPlain l dC dI cI cM cO H.size o g 1 fShift fModels fItems fEnded fCache fPend fOuts fIns fReads fBad fIR fAsk fBAsk fCode fRL fRR fX fWrites fThrown vGoing rf (L + rc) bs (⟨by omega, by omega, by omega, fun z => by have := hp4 (by omega); omega⟩) (by assumption) (by assumption)) (cwV 0 hts (my_gV k1113 k1115 ks33 k12 k1116) rfl rfl rfl (by decide +kernel) ⟨by rw [hR]; exact Nat.le_of_ble_eq_true rfl, by rw [hR]; exact Nat.le_of_ble_eq_true rfl⟩) (my_preV hK hN (hP.sub [0, 1] rfl) (hD.sub [0, 1] (by decide +kernel) rfl) 0 rfl rfl) rfl rfl hl.1 rfl (lv_room (Nat.le_of_ble_eq_true rfl)) d_M_narrow_59 ⟨by rw [hR]; exact Nat.le_of_ble_eq_true rfl, by rw [hR]; exact Nat.le_of_ble_eq_true rfl⟩) hP hD hS hA [0, 1] [] rfl rfl (by decide +kernel) (by decide +kernel) (fun u9 H locs hw_59 hP hD hS => ?_)
    obtain ⟨v2_59, rfl⟩ : ∃ z, z = u9 := ⟨_, rfl⟩
    have hw_59 : gIs v2_59 (plS (rf, (L + rc), bs)).2.2 := hw_59
    have hP : va_P (dC, dI) vwCl [(o, Sum.inr (9, mO g 1 fShift fModels fItems fEnded (lN (plS (rf, (L + rc), bs)).2.1) (lN (plS (rf, (L + rc), bs)).1) fCache fPend (nI (plS (rf, (L + rc), bs)).2.2.length) fOuts fIns fReads fBad fIR fAsk fBAsk fCode fRL fRR fX fWrites fThrown)), ((g 6), Sum.inl (cI, 9000, Sum.inl v2_59))] H := hP
    have hD : va_D A [(o, Sum.inr (9, mO g 1 fShift fModels fItems fEnded (lN (plS (rf, (L + rc), bs)).2.1) (lN (plS (rf, (L + rc), bs)).1) fCache fPend (nI (plS (rf, (L + rc), bs)).2.2.length) fOuts fIns fReads fBad fIR fAsk fBAsk fCode fRL fRR fX fWrites fThrown)), ((g 6), Sum.inl (cI, 9000, Sum.inl v2_59))] := hD
    subst hrc
    subst hrf
    
    
    exact my_vret hx hb hr hlocks hQ hK hS (Nat.le_refl _) (Nat.le_refl _) v2_59 (hw_59) (hP.sub [0, 1] rfl) (hD.sub [0, 1] (by decide +kernel) rfl) d_M_narrow_62
  · exact absurd c_8 (by decide)

