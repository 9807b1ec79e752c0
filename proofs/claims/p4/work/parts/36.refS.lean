set_option maxHeartbeats 1000000 in
set_option maxRecDepth 100000 in
/-- putSign, form 0 -/
theorem c_M_putSign0 (l : Launch) (dC : Nat → ClassId) (dI : Nat → Nat → Nat) (cI cM cO : ClassId) (sz : Nat) (o : Nat) (g : Nat → Nat) (fShift : Int32) (fModels : Int32) (fItems : Int32) (fEnded : Int32) (fOuts : Int32) (fIns : Int32) (fReads : Int32) (fBad : Int32) (fIR : Int32) (fAsk : Int32) (fBAsk : Int32) (fCode : Int64) (fRL : Int64) (fRR : Int64) (fX : Int64) (fWrites : Int32) (fThrown : Int32) (vMany : Nat → Int32) (vNow : Nat → Int32) (vGoing : Nat → Int32) (mm : Nat) (n : Nat) (t : Nat) (F : Nat → Nat) (Rg : Nat) (L : Nat) (ca : Option Nat) (Pn : Nat) (bs : List Nat) (hmm : mm < 8) (hn : vMany mm = nI n) (hn2 : n ≤ 64) (ht : t < n) (hf : sgI vNow (64 * mm) n F) (hFt : 0 < F t) (hsum : ns F n ≤ 8192) (hE : eInv (Rg, L, ca, Pn, bs)) (hG : gIs vGoing bs) (hN9 : bs.length + Pn + 20 ≤ 9000) : MetV l y_M_putSign (Cond.code y_M_putSign prog_14_method_24_code 6 none :: gw) ({ frames := 4, cells := 0, slots := 0, locals := 87 } : Room) (dC, dI) vwCl (kT cI cM cO) [Value.ref o, Value.int (nI mm), Value.int (nI t)] [(o, Sum.inr (9, mO g 0 fShift fModels fItems fEnded (lN L) (lN Rg) (caI ca) (nI Pn) (nI bs.length) fOuts fIns fReads fBad fIR fAsk fBAsk fCode fRL fRR fX fWrites fThrown)), ((g 0), Sum.inl (cI, 8, Sum.inl vMany)), ((g 2), Sum.inl (cI, 512, Sum.inl vNow)), ((g 6), Sum.inl (cI, 9000, Sum.inl vGoing))] sz (fun (u : (Nat → Int32) × (Nat → Int32)) => sgI u.1 (64 * mm) n (lrn n t F) ∧ sgO u.1 vNow (64 * mm) n ∧ gIs u.2 (eB (wdS (Rg / ns F n * F t, L + Rg / ns F n * ns F t, ca, Pn, bs)))) (fun (u : (Nat → Int32) × (Nat → Int32)) => [(o, Sum.inr (9, mO g 0 fShift fModels fItems fEnded (lN (eL (wdS (Rg / ns F n * F t, L + Rg / ns F n * ns F t, ca, Pn, bs)))) (lN (eR (wdS (Rg / ns F n * F t, L + Rg / ns F n * ns F t, ca, Pn, bs)))) (caI (eC (wdS (Rg / ns F n * F t, L + Rg / ns F n * ns F t, ca, Pn, bs)))) (nI (eP (wdS (Rg / ns F n * F t, L + Rg / ns F n * ns F t, ca, Pn, bs)))) (nI (eB (wdS (Rg / ns F n * F t, L + Rg / ns F n * ns F t, ca, Pn, bs))).length) fOuts fIns fReads fBad fIR fAsk fBAsk fCode fRL fRR fX fWrites fThrown)), ((g 0), Sum.inl (cI, 8, Sum.inl vMany)), ((g 2), Sum.inl (cI, 512, Sum.inl u.1)), ((g 6), Sum.inl (cI, 9000, Sum.inl u.2))]) 0 0 := by
  refine my_ofV (cc := prog_14_method_24_code) (n := 6) (ret := none) (by decide) rfl (Nat.le_of_ble_eq_true rfl) ?_
  intro p e s m args below meth c R Q A ls H locs hx hb hr hts hown hlocks hml hnm hR hQ hA hl hP hK hN hD hS
  have hg : ∀ w ∈ gw, w.before args s = true := fun w h => hts w (List.mem_cons_of_mem _ h)
  have hown : s.vm.findClass "RangeCodersModel" = some m.cls := hown
  have hl : lv_has ls 6 [(0, Value.ref o), (1, Value.int (nI mm)), (2, Value.int (nI t))] := hl
  obtain ⟨hI1, hI2, hI3, hI4⟩ := id hE
  simp only [eR, eL, eC] at hI1 hI2 hI3 hI4
  have hm1 := ns_m1 F ht
  have hbd : bd F n 100000 := fun k hk => by have := ns_ge (F := F) hk; omega
  refine lv_aload_n hx hb d_M_putSign_0 rfl (lv_at hl 0 rfl) ?_
  refine va_get (D := (dC, dI)) (ci := 9) (v := .int 0) (C := "RangeCodersModel") (T := T_M) (N := 35) hx hb hg in_M hown hK hP 0 rfl rfl 0 (by decide) (hg _ k952) (fun _ h9 => h9) rfl d_M_putSign_1 ?_
  refine lv_iconst (v := 2) hx hb d_M_putSign_4 (by decide) ?_
  refine lv_icmp_ge (tgt := 55) hx hb d_M_putSign_5 (by decide) (fun c_1 => ?_) (fun c_1 => ?_)
  · exact absurd c_1 (by decide)
  · refine lv_aload_n hx hb d_M_putSign_8 rfl (lv_at hl 0 rfl) ?_
    refine lv_aload_n hx hb d_M_putSign_9 rfl (lv_at hl 0 rfl) ?_
    refine lv_aload_n hx hb d_M_putSign_10 rfl (lv_at hl 0 rfl) ?_
    refine va_get (D := (dC, dI)) (ci := 9) (v := .ref (g 2)) (C := "RangeCodersModel") (T := T_M) (N := 35) hx hb hg in_M hown hK hP 0 rfl rfl 5 (by decide) (hg _ k957) (fun _ h9 => h9) rfl d_M_putSign_11 ?_
    refine lv_iload_n hx hb d_M_putSign_14 rfl (lv_at hl 1 rfl) ?_
    refine lv_iload_n hx hb d_M_putSign_15 rfl (lv_at hl 2 rfl) ?_
    refine my_ci (wr := [((g 0), Sum.inl (cI, 8, Sum.inl vMany)), ((g 6), Sum.inl (cI, 9000, Sum.inl vGoing))]) (va_runV (As := [Value.ref (g 2), Value.int (nI mm), Value.int (nI t)]) (rest := [Value.ref o]) ⟨hx, hb, hml, hown, hts⟩ (c_M_before l dC dI cI cM cO H.size o g 0 fShift fModels fItems fEnded (lN L) (lN Rg) (caI ca) (nI Pn) (nI bs.length) fOuts fIns fReads fBad fIR fAsk fBAsk fCode fRL fRR fX fWrites fThrown (g 2) vNow mm t F (by assumption) (by omega) (sgI_w hf (by omega))) (cwV 3 hts (my_gV k1089 k1091 ks28 k12 k1092) rfl rfl rfl (by decide +kernel) ⟨by rw [hR]; exact Nat.le_of_ble_eq_true rfl, by rw [hR]; exact Nat.le_of_ble_eq_true rfl⟩) (my_preV hK hN (hP.sub [0, 2] rfl) (hD.sub [0, 2] (by decide +kernel) rfl) 0 rfl rfl) rfl rfl hl.1 rfl (lv_room (Nat.le_of_ble_eq_true rfl)) d_M_putSign_16 ⟨by rw [hR]; exact Nat.le_of_ble_eq_true rfl, by rw [hR]; exact Nat.le_of_ble_eq_true rfl⟩) hP hD hS hA [0, 2] [1, 3] rfl rfl (by decide +kernel) (by decide +kernel) (fun r_16 u9 H locs hw_16 hP hD hS => ?_)
    have hw_16 : r_16 = nI (ns F t) := hw_16
    have hP : va_P (dC, dI) vwCl [((g 0), Sum.inl (cI, 8, Sum.inl vMany)), ((g 6), Sum.inl (cI, 9000, Sum.inl vGoing)), (o, Sum.inr (9, mO g 0 fShift fModels fItems fEnded (lN L) (lN Rg) (caI ca) (nI Pn) (nI bs.length) fOuts fIns fReads fBad fIR fAsk fBAsk fCode fRL fRR fX fWrites fThrown)), ((g 2), Sum.inl (cI, 512, Sum.inl vNow))] H := hP
    have hD : va_D A [((g 0), Sum.inl (cI, 8, Sum.inl vMany)), ((g 6), Sum.inl (cI, 9000, Sum.inl vGoing)), (o, Sum.inr (9, mO g 0 fShift fModels fItems fEnded (lN L) (lN Rg) (caI ca) (nI Pn) (nI bs.length) fOuts fIns fReads fBad fIR fAsk fBAsk fCode fRL fRR fX fWrites fThrown)), ((g 2), Sum.inl (cI, 512, Sum.inl vNow))] := hD
    refine lv_aload_n hx hb d_M_putSign_19 rfl (lv_at hl 0 rfl) ?_
    refine va_get (D := (dC, dI)) (ci := 9) (v := .ref (g 2)) (C := "RangeCodersModel") (T := T_M) (N := 35) hx hb hg in_M hown hK hP 2 rfl rfl 5 (by decide) (hg _ k957) (fun _ h9 => h9) rfl d_M_putSign_20 ?_
    refine lv_bipush (v := 64) hx hb d_M_putSign_23 (by decide) ?_
    refine lv_iload_n hx hb d_M_putSign_25 rfl (lv_at hl 1 rfl) ?_
    refine lv_imul hx hb d_M_putSign_26 ?_
    refine lv_topi (fun v_2 ev_2 => ?_)
    refine lv_iload_n hx hb d_M_putSign_27 rfl (lv_at hl 2 rfl) ?_
    refine lv_iadd hx hb d_M_putSign_28 ?_
    refine lv_topi (fun v_3 ev_3 => ?_)
    have hix : v_3 = nI (64 * mm + t) := by subst_vars; exact ix64
    refine va_iald hx hb hK hP 3 0 rfl rfl (by rw [hix]; exact vp_in_nI (by omega) (by decide)) d_M_putSign_29 ?_
    refine lv_topi (fun v_4 ev_4 => ?_)
    have z9 : v_4 = nI (F t) := by subst_vars; rw [nI_clamp (by omega)]; exact hf t ht
    subst z9
    refine lv_aload_n hx hb d_M_putSign_30 rfl (lv_at hl 0 rfl) ?_
    refine lv_aload_n hx hb d_M_putSign_31 rfl (lv_at hl 0 rfl) ?_
    refine va_get (D := (dC, dI)) (ci := 9) (v := .ref (g 2)) (C := "RangeCodersModel") (T := T_M) (N := 35) hx hb hg in_M hown hK hP 2 rfl rfl 5 (by decide) (hg _ k957) (fun _ h9 => h9) rfl d_M_putSign_32 ?_
    refine lv_iload_n hx hb d_M_putSign_35 rfl (lv_at hl 1 rfl) ?_
    refine my_ci (wr := [((g 6), Sum.inl (cI, 9000, Sum.inl vGoing))]) (va_runV (As := [Value.ref (g 2), Value.int (nI mm)]) (rest := [Value.int (nI (F t)), Value.int r_16, Value.ref o]) ⟨hx, hb, hml, hown, hts⟩ (c_M_sum l dC dI cI cM cO H.size o g 0 fShift fModels fItems fEnded (lN L) (lN Rg) (caI ca) (nI Pn) (nI bs.length) fOuts fIns fReads fBad fIR fAsk fBAsk fCode fRL fRR fX fWrites fThrown vMany (g 2) vNow mm n F (by assumption) (by assumption) (by assumption) (by assumption)) (cwV 2 hts (my_gV k936 k938 ks21 k12 k939) rfl rfl rfl (by decide +kernel) ⟨by rw [hR]; exact Nat.le_of_ble_eq_true rfl, by rw [hR]; exact Nat.le_of_ble_eq_true rfl⟩) (my_preV hK hN (hP.sub [2, 0, 3] rfl) (hD.sub [2, 0, 3] (by decide +kernel) rfl) 0 rfl rfl) rfl rfl hl.1 rfl (lv_room (Nat.le_of_ble_eq_true rfl)) d_M_putSign_36 ⟨by rw [hR]; exact Nat.le_of_ble_eq_true rfl, by rw [hR]; exact Nat.le_of_ble_eq_true rfl⟩) hP hD hS hA [2, 0, 3] [1] rfl rfl (by decide +kernel) (by decide +kernel) (fun r_36 u9 H locs hw_36 hP hD hS => ?_)
    have hw_36 : r_36 = nI (ns F n) := hw_36
    have hP : va_P (dC, dI) vwCl [((g 6), Sum.inl (cI, 9000, Sum.inl vGoing)), (o, Sum.inr (9, mO g 0 fShift fModels fItems fEnded (lN L) (lN Rg) (caI ca) (nI Pn) (nI bs.length) fOuts fIns fReads fBad fIR fAsk fBAsk fCode fRL fRR fX fWrites fThrown)), ((g 0), Sum.inl (cI, 8, Sum.inl vMany)), ((g 2), Sum.inl (cI, 512, Sum.inl vNow))] H := hP
    have hD : va_D A [((g 6), Sum.inl (cI, 9000, Sum.inl vGoing)), (o, Sum.inr (9, mO g 0 fShift fModels fItems fEnded (lN L) (lN Rg) (caI ca) (nI Pn) (nI bs.length) fOuts fIns fReads fBad fIR fAsk fBAsk fCode fRL fRR fX fWrites fThrown)), ((g 0), Sum.inl (cI, 8, Sum.inl vMany)), ((g 2), Sum.inl (cI, 512, Sum.inl vNow))] := hD
    have z9 : r_36 = nI (ns F n) := hw_36
    subst z9
    have z9 : r_16 = nI (ns F t) := hw_16
    subst z9
    refine my_cv (wr := [((g 0), Sum.inl (cI, 8, Sum.inl vMany)), ((g 2), Sum.inl (cI, 512, Sum.inl vNow))]) (va_runV (As := [Value.int (nI (ns F t)), Value.int (nI (F t)), Value.int (nI (ns F n))]) (rest := []) ⟨hx, hb, hml, hown, hts⟩ (c_M_narrow0 l dC dI cI cM cO H.size o g fShift fModels fItems fEnded fOuts fIns fReads fBad fIR fAsk fBAsk fCode fRL fRR fX fWrites fThrown vGoing (ns F t) (F t) (ns F n) Rg L ca Pn bs (by omega) (by omega) (hm1) (hFt) (by omega) (hI2) (hI3) (hI4) (by assumption) (by omega)) (cwV 3 hts (my_gV k1093 k1095 ks29 k12 k1096) rfl rfl rfl (by decide +kernel) ⟨by rw [hR]; exact Nat.le_of_ble_eq_true rfl, by rw [hR]; exact Nat.le_of_ble_eq_true rfl⟩) (my_preV hK hN (hP.sub [1, 0] rfl) (hD.sub [1, 0] (by decide +kernel) rfl) 0 rfl rfl) rfl rfl hl.1 rfl (lv_room (Nat.le_of_ble_eq_true rfl)) d_M_putSign_39 ⟨by rw [hR]; exact Nat.le_of_ble_eq_true rfl, by rw [hR]; exact Nat.le_of_ble_eq_true rfl⟩) hP hD hS hA [1, 0] [2, 3] rfl rfl (by decide +kernel) (by decide +kernel) (fun u9 H locs hw_39 hP hD hS => ?_)
    obtain ⟨v2_39, rfl⟩ : ∃ z, z = u9 := ⟨_, rfl⟩
    have hw_39 : gIs v2_39 (eB (wdS (Rg / (ns F n) * (F t), L + Rg / (ns F n) * (ns F t), ca, Pn, bs))) := hw_39
    have hP : va_P (dC, dI) vwCl [((g 0), Sum.inl (cI, 8, Sum.inl vMany)), ((g 2), Sum.inl (cI, 512, Sum.inl vNow)), (o, Sum.inr (9, mO g 0 fShift fModels fItems fEnded (lN (eL (wdS (Rg / (ns F n) * (F t), L + Rg / (ns F n) * (ns F t), ca, Pn, bs)))) (lN (eR (wdS (Rg / (ns F n) * (F t), L + Rg / (ns F n) * (ns F t), ca, Pn, bs)))) (caI (eC (wdS (Rg / (ns F n) * (F t), L + Rg / (ns F n) * (ns F t), ca, Pn, bs)))) (nI (eP (wdS (Rg / (ns F n) * (F t), L + Rg / (ns F n) * (ns F t), ca, Pn, bs)))) (nI (eB (wdS (Rg / (ns F n) * (F t), L + Rg / (ns F n) * (ns F t), ca, Pn, bs))).length) fOuts fIns fReads fBad fIR fAsk fBAsk fCode fRL fRR fX fWrites fThrown)), ((g 6), Sum.inl (cI, 9000, Sum.inl v2_39))] H := hP
    have hD : va_D A [((g 0), Sum.inl (cI, 8, Sum.inl vMany)), ((g 2), Sum.inl (cI, 512, Sum.inl vNow)), (o, Sum.inr (9, mO g 0 fShift fModels fItems fEnded (lN (eL (wdS (Rg / (ns F n) * (F t), L + Rg / (ns F n) * (ns F t), ca, Pn, bs)))) (lN (eR (wdS (Rg / (ns F n) * (F t), L + Rg / (ns F n) * (ns F t), ca, Pn, bs)))) (caI (eC (wdS (Rg / (ns F n) * (F t), L + Rg / (ns F n) * (ns F t), ca, Pn, bs)))) (nI (eP (wdS (Rg / (ns F n) * (F t), L + Rg / (ns F n) * (ns F t), ca, Pn, bs)))) (nI (eB (wdS (Rg / (ns F n) * (F t), L + Rg / (ns F n) * (ns F t), ca, Pn, bs))).length) fOuts fIns fReads fBad fIR fAsk fBAsk fCode fRL fRR fX fWrites fThrown)), ((g 6), Sum.inl (cI, 9000, Sum.inl v2_39))] := hD
    refine lv_aload_n hx hb d_M_putSign_42 rfl (lv_at hl 0 rfl) ?_
    refine lv_aload_n hx hb d_M_putSign_43 rfl (lv_at hl 0 rfl) ?_
    refine va_get (D := (dC, dI)) (ci := 9) (v := .ref (g 2)) (C := "RangeCodersModel") (T := T_M) (N := 35) hx hb hg in_M hown hK hP 2 rfl rfl 5 (by decide) (hg _ k957) (fun _ h9 => h9) rfl d_M_putSign_44 ?_
    refine lv_iload_n hx hb d_M_putSign_47 rfl (lv_at hl 1 rfl) ?_
    refine lv_iload_n hx hb d_M_putSign_48 rfl (lv_at hl 2 rfl) ?_
    refine my_cv (wr := [((g 6), Sum.inl (cI, 9000, Sum.inl v2_39))]) (va_runV (As := [Value.ref (g 2), Value.int (nI mm), Value.int (nI t)]) (rest := []) ⟨hx, hb, hml, hown, hts⟩ (c_M_learn l dC dI cI cM cO H.size o g 0 fShift fModels fItems fEnded (lN (eL (wdS (Rg / (ns F n) * (F t), L + Rg / (ns F n) * (ns F t), ca, Pn, bs)))) (lN (eR (wdS (Rg / (ns F n) * (F t), L + Rg / (ns F n) * (ns F t), ca, Pn, bs)))) (caI (eC (wdS (Rg / (ns F n) * (F t), L + Rg / (ns F n) * (ns F t), ca, Pn, bs)))) (nI (eP (wdS (Rg / (ns F n) * (F t), L + Rg / (ns F n) * (ns F t), ca, Pn, bs)))) (nI (eB (wdS (Rg / (ns F n) * (F t), L + Rg / (ns F n) * (ns F t), ca, Pn, bs))).length) fOuts fIns fReads fBad fIR fAsk fBAsk fCode fRL fRR fX fWrites fThrown vMany (g 2) vNow mm n t F (by assumption) (by assumption) (by assumption) (by assumption) (by assumption) (hbd)) (cwV 3 hts (my_gV k1119 k1121 ks34 k12 k1122) rfl rfl rfl (by decide +kernel) ⟨by rw [hR]; exact Nat.le_of_ble_eq_true rfl, by rw [hR]; exact Nat.le_of_ble_eq_true rfl⟩) (my_preV hK hN (hP.sub [2, 0, 1] rfl) (hD.sub [2, 0, 1] (by decide +kernel) rfl) 0 rfl rfl) rfl rfl hl.1 rfl (lv_room (Nat.le_of_ble_eq_true rfl)) d_M_putSign_49 ⟨by rw [hR]; exact Nat.le_of_ble_eq_true rfl, by rw [hR]; exact Nat.le_of_ble_eq_true rfl⟩) hP hD hS hA [2, 0, 1] [3] rfl rfl (by decide +kernel) (by decide +kernel) (fun u9 H locs hw_49 hP hD hS => ?_)
    obtain ⟨f2_49, rfl⟩ : ∃ z, z = u9 := ⟨_, rfl⟩
    have hw_49 : sgI f2_49 (64 * mm) n (lrn n t F) ∧ sgO f2_49 vNow (64 * mm) n := hw_49
    have hP : va_P (dC, dI) vwCl [((g 6), Sum.inl (cI, 9000, Sum.inl v2_39)), (o, Sum.inr (9, mO g 0 fShift fModels fItems fEnded (lN (eL (wdS (Rg / (ns F n) * (F t), L + Rg / (ns F n) * (ns F t), ca, Pn, bs)))) (lN (eR (wdS (Rg / (ns F n) * (F t), L + Rg / (ns F n) * (ns F t), ca, Pn, bs)))) (caI (eC (wdS (Rg / (ns F n) * (F t), L + Rg / (ns F n) * (ns F t), ca, Pn, bs)))) (nI (eP (wdS (Rg / (ns F n) * (F t), L + Rg / (ns F n) * (ns F t), ca, Pn, bs)))) (nI (eB (wdS (Rg / (ns F n) * (F t), L + Rg / (ns F n) * (ns F t), ca, Pn, bs))).length) fOuts fIns fReads fBad fIR fAsk fBAsk fCode fRL fRR fX fWrites fThrown)), ((g 0), Sum.inl (cI, 8, Sum.inl vMany)), ((g 2), Sum.inl (cI, 512, Sum.inl f2_49))] H := hP
    have hD : va_D A [((g 6), Sum.inl (cI, 9000, Sum.inl v2_39)), (o, Sum.inr (9, mO g 0 fShift fModels fItems fEnded (lN (eL (wdS (Rg / (ns F n) * (F t), L + Rg / (ns F n) * (ns F t), ca, Pn, bs)))) (lN (eR (wdS (Rg / (ns F n) * (F t), L + Rg / (ns F n) * (ns F t), ca, Pn, bs)))) (caI (eC (wdS (Rg / (ns F n) * (F t), L + Rg / (ns F n) * (ns F t), ca, Pn, bs)))) (nI (eP (wdS (Rg / (ns F n) * (F t), L + Rg / (ns F n) * (ns F t), ca, Pn, bs)))) (nI (eB (wdS (Rg / (ns F n) * (F t), L + Rg / (ns F n) * (ns F t), ca, Pn, bs))).length) fOuts fIns fReads fBad fIR fAsk fBAsk fCode fRL fRR fX fWrites fThrown)), ((g 0), Sum.inl (cI, 8, Sum.inl vMany)), ((g 2), Sum.inl (cI, 512, Sum.inl f2_49))] := hD
    refine lv_goto (tgt := 112) hx hb d_M_putSign_52 (by decide) ?_
    exact my_vret hx hb hr hlocks hQ hK hS (Nat.le_refl _) (Nat.le_refl _) (f2_49, v2_39) (⟨hw_49.1, hw_49.2, hw_39⟩) (hP.sub [1, 2, 3, 0] rfl) (hD.sub [1, 2, 3, 0] (by decide +kernel) rfl) d_M_putSign_112
set_option maxHeartbeats 1000000 in
set_option maxRecDepth 100000 in
/-- putSign, form 1 -/
theorem c_M_putSign1 (l : Launch) (dC : Nat → ClassId) (dI : Nat → Nat → Nat) (cI cM cO : ClassId) (sz : Nat) (o : Nat) (g : Nat → Nat) (fShift : Int32) (fModels : Int32) (fItems : Int32) (fEnded : Int32) (fCache : Int32) (fPend : Int32) (fOuts : Int32) (fIns : Int32) (fReads : Int32) (fBad : Int32) (fIR : Int32) (fAsk : Int32) (fBAsk : Int32) (fCode : Int64) (fRL : Int64) (fRR : Int64) (fX : Int64) (fWrites : Int32) (fThrown : Int32) (vMany : Nat → Int32) (vNow : Nat → Int32) (vGoing : Nat → Int32) (mm : Nat) (n : Nat) (t : Nat) (F : Nat → Nat) (Rg : Nat) (L : Nat) (bs : List Nat) (hmm : mm < 8) (hn : vMany mm = nI n) (hn2 : n ≤ 64) (ht : t < n) (hf : sgI vNow (64 * mm) n F) (hFt : 0 < F t) (hsum : ns F n ≤ 8192) (hp : pOk Rg L) (hR6 : 65536 ≤ Rg) (hG : gIs vGoing bs) (hN9 : bs.length + 5 ≤ 9000) : MetV l y_M_putSign (Cond.code y_M_putSign prog_14_method_24_code 6 none :: gw) ({ frames := 3, cells := 0, slots := 0, locals := 68 } : Room) (dC, dI) vwCl (kT cI cM cO) [Value.ref o, Value.int (nI mm), Value.int (nI t)] [(o, Sum.inr (9, mO g 1 fShift fModels fItems fEnded (lN L) (lN Rg) fCache fPend (nI bs.length) fOuts fIns fReads fBad fIR fAsk fBAsk fCode fRL fRR fX fWrites fThrown)), ((g 0), Sum.inl (cI, 8, Sum.inl vMany)), ((g 2), Sum.inl (cI, 512, Sum.inl vNow)), ((g 6), Sum.inl (cI, 9000, Sum.inl vGoing))] sz (fun (u : (Nat → Int32) × (Nat → Int32)) => sgI u.1 (64 * mm) n (lrn n t F) ∧ sgO u.1 vNow (64 * mm) n ∧ gIs u.2 (plS (Rg / ns F n * F t, L + Rg / ns F n * ns F t, bs)).2.2) (fun (u : (Nat → Int32) × (Nat → Int32)) => [(o, Sum.inr (9, mO g 1 fShift fModels fItems fEnded (lN (plS (Rg / ns F n * F t, L + Rg / ns F n * ns F t, bs)).2.1) (lN (plS (Rg / ns F n * F t, L + Rg / ns F n * ns F t, bs)).1) fCache fPend (nI (plS (Rg / ns F n * F t, L + Rg / ns F n * ns F t, bs)).2.2.length) fOuts fIns fReads fBad fIR fAsk fBAsk fCode fRL fRR fX fWrites fThrown)), ((g 0), Sum.inl (cI, 8, Sum.inl vMany)), ((g 2), Sum.inl (cI, 512, Sum.inl u.1)), ((g 6), Sum.inl (cI, 9000, Sum.inl u.2))]) 0 0 := by
  refine my_ofV (cc := prog_14_method_24_code) (n := 6) (ret := none) (by decide) rfl (Nat.le_of_ble_eq_true rfl) ?_
  intro p e s m args below meth c R Q A ls H locs hx hb hr hts hown hlocks hml hnm hR hQ hA hl hP hK hN hD hS
  have hg : ∀ w ∈ gw, w.before args s = true := fun w h => hts w (List.mem_cons_of_mem _ h)
  have hown : s.vm.findClass "RangeCodersModel" = some m.cls := hown
  have hl : lv_has ls 6 [(0, Value.ref o), (1, Value.int (nI mm)), (2, Value.int (nI t))] := hl
  have hm1 := ns_m1 F ht
  have hbd : bd F n 100000 := fun k hk => by have := ns_ge (F := F) hk; omega
  refine lv_aload_n hx hb d_M_putSign_0 rfl (lv_at hl 0 rfl) ?_
  refine va_get (D := (dC, dI)) (ci := 9) (v := .int 1) (C := "RangeCodersModel") (T := T_M) (N := 35) hx hb hg in_M hown hK hP 0 rfl rfl 0 (by decide) (hg _ k952) (fun _ h9 => h9) rfl d_M_putSign_1 ?_
  refine lv_iconst (v := 2) hx hb d_M_putSign_4 (by decide) ?_
  refine lv_icmp_ge (tgt := 55) hx hb d_M_putSign_5 (by decide) (fun c_1 => ?_) (fun c_1 => ?_)
  · exact absurd c_1 (by decide)
  · refine lv_aload_n hx hb d_M_putSign_8 rfl (lv_at hl 0 rfl) ?_
    refine lv_aload_n hx hb d_M_putSign_9 rfl (lv_at hl 0 rfl) ?_
    refine lv_aload_n hx hb d_M_putSign_10 rfl (lv_at hl 0 rfl) ?_
    refine va_get (D := (dC, dI)) (ci := 9) (v := .ref (g 2)) (C := "RangeCodersModel") (T := T_M) (N := 35) hx hb hg in_M hown hK hP 0 rfl rfl 5 (by decide) (hg _ k957) (fun _ h9 => h9) rfl d_M_putSign_11 ?_
    refine lv_iload_n hx hb d_M_putSign_14 rfl (lv_at hl 1 rfl) ?_
    refine lv_iload_n hx hb d_M_putSign_15 rfl (lv_at hl 2 rfl) ?_
    refine my_ci (wr := [((g 0), Sum.inl (cI, 8, Sum.inl vMany)), ((g 6), Sum.inl (cI, 9000, Sum.inl vGoing))]) (va_runV (As := [Value.ref (g 2), Value.int (nI mm), Value.int (nI t)]) (rest := [Value.ref o]) ⟨hx, hb, hml, hown, hts⟩ (c_M_before l dC dI cI cM cO H.size o g 1 fShift fModels fItems fEnded (lN L) (lN Rg) fCache fPend (nI bs.length) fOuts fIns fReads fBad fIR fAsk fBAsk fCode fRL fRR fX fWrites fThrown (g 2) vNow mm t F (by assumption) (by omega) (sgI_w hf (by omega))) (cwV 3 hts (my_gV k1089 k1091 ks28 k12 k1092) rfl rfl rfl (by decide +kernel) ⟨by rw [hR]; exact Nat.le_of_ble_eq_true rfl, by rw [hR]; exact Nat.le_of_ble_eq_true rfl⟩) (my_preV hK hN (hP.sub [0, 2] rfl) (hD.sub [0, 2] (by decide +kernel) rfl) 0 rfl rfl) rfl rfl hl.1 rfl (lv_room (Nat.le_of_ble_eq_true rfl)) d_M_putSign_16 ⟨by rw [hR]; exact Nat.le_of_ble_eq_true rfl, by rw [hR]; exact Nat.le_of_ble_eq_true rfl⟩) hP hD hS hA [0, 2] [1, 3] rfl rfl (by decide +kernel) (by decide +kernel) (fun r_16 u9 H locs hw_16 hP hD hS => ?_)
    have hw_16 : r_16 = nI (ns F t) := hw_16
    have hP : va_P (dC, dI) vwCl [((g 0), Sum.inl (cI, 8, Sum.inl vMany)), ((g 6), Sum.inl (cI, 9000, Sum.inl vGoing)), (o, Sum.inr (9, mO g 1 fShift fModels fItems fEnded (lN L) (lN Rg) fCache fPend (nI bs.length) fOuts fIns fReads fBad fIR fAsk fBAsk fCode fRL fRR fX fWrites fThrown)), ((g 2), Sum.inl (cI, 512, Sum.inl vNow))] H := hP
    have hD : va_D A [((g 0), Sum.inl (cI, 8, Sum.inl vMany)), ((g 6), Sum.inl (cI, 9000, Sum.inl vGoing)), (o, Sum.inr (9, mO g 1 fShift fModels fItems fEnded (lN L) (lN Rg) fCache fPend (nI bs.length) fOuts fIns fReads fBad fIR fAsk fBAsk fCode fRL fRR fX fWrites fThrown)), ((g 2), Sum.inl (cI, 512, Sum.inl vNow))] := hD
    refine lv_aload_n hx hb d_M_putSign_19 rfl (lv_at hl 0 rfl) ?_
    refine va_get (D := (dC, dI)) (ci := 9) (v := .ref (g 2)) (C := "RangeCodersModel") (T := T_M) (N := 35) hx hb hg in_M hown hK hP 2 rfl rfl 5 (by decide) (hg _ k957) (fun _ h9 => h9) rfl d_M_putSign_20 ?_
    refine lv_bipush (v := 64) hx hb d_M_putSign_23 (by decide) ?_
    refine lv_iload_n hx hb d_M_putSign_25 rfl (lv_at hl 1 rfl) ?_
    refine lv_imul hx hb d_M_putSign_26 ?_
    refine lv_topi (fun v_2 ev_2 => ?_)
    refine lv_iload_n hx hb d_M_putSign_27 rfl (lv_at hl 2 rfl) ?_
    refine lv_iadd hx hb d_M_putSign_28 ?_
    refine lv_topi (fun v_3 ev_3 => ?_)
    have hix : v_3 = nI (64 * mm + t) := by subst_vars; exact ix64
    refine va_iald hx hb hK hP 3 0 rfl rfl (by rw [hix]; exact vp_in_nI (by omega) (by decide)) d_M_putSign_29 ?_
    refine lv_topi (fun v_4 ev_4 => ?_)
    have z9 : v_4 = nI (F t) := by subst_vars; rw [nI_clamp (by omega)]; exact hf t ht
    subst z9
    refine lv_aload_n hx hb d_M_putSign_30 rfl (lv_at hl 0 rfl) ?_
    refine lv_aload_n hx hb d_M_putSign_31 rfl (lv_at hl 0 rfl) ?_
    refine va_get (D := (dC, dI)) (ci := 9) (v := .ref (g 2)) (C := "RangeCodersModel") (T := T_M) (N := 35) hx hb hg in_M hown hK hP 2 rfl rfl 5 (by decide) (hg _ k957) (fun _ h9 => h9) rfl d_M_putSign_32 ?_
    refine lv_iload_n hx hb d_M_putSign_35 rfl (lv_at hl 1 rfl) ?_
    refine my_ci (wr := [((g 6), Sum.inl (cI, 9000, Sum.inl vGoing))]) (va_runV (As := [Value.ref (g 2), Value.int (nI mm)]) (rest := [Value.int (nI (F t)), Value.int r_16, Value.ref o]) ⟨hx, hb, hml, hown, hts⟩ (c_M_sum l dC dI cI cM cO H.size o g 1 fShift fModels fItems fEnded (lN L) (lN Rg) fCache fPend (nI bs.length) fOuts fIns fReads fBad fIR fAsk fBAsk fCode fRL fRR fX fWrites fThrown vMany (g 2) vNow mm n F (by assumption) (by assumption) (by assumption) (by assumption)) (cwV 2 hts (my_gV k936 k938 ks21 k12 k939) rfl rfl rfl (by decide +kernel) ⟨by rw [hR]; exact Nat.le_of_ble_eq_true rfl, by rw [hR]; exact Nat.le_of_ble_eq_true rfl⟩) (my_preV hK hN (hP.sub [2, 0, 3] rfl) (hD.sub [2, 0, 3] (by decide +kernel) rfl) 0 rfl rfl) rfl rfl hl.1 rfl (lv_room (Nat.le_of_ble_eq_true rfl)) d_M_putSign_36 ⟨by rw [hR]; exact Nat.le_of_ble_eq_true rfl, by rw [hR]; exact Nat.le_of_ble_eq_true rfl⟩) hP hD hS hA [2, 0, 3] [1] rfl rfl (by decide +kernel) (by decide +kernel) (fun r_36 u9 H locs hw_36 hP hD hS => ?_)
    have hw_36 : r_36 = nI (ns F n) := hw_36
    have hP : va_P (dC, dI) vwCl [((g 6), Sum.inl (cI, 9000, Sum.inl vGoing)), (o, Sum.inr (9, mO g 1 fShift fModels fItems fEnded (lN L) (lN Rg) fCache fPend (nI bs.length) fOuts fIns fReads fBad fIR fAsk fBAsk fCode fRL fRR fX fWrites fThrown)), ((g 0), Sum.inl (cI, 8, Sum.inl vMany)), ((g 2), Sum.inl (cI, 512, Sum.inl vNow))] H := hP
    have hD : va_D A [((g 6), Sum.inl (cI, 9000, Sum.inl vGoing)), (o, Sum.inr (9, mO g 1 fShift fModels fItems fEnded (lN L) (lN Rg) fCache fPend (nI bs.length) fOuts fIns fReads fBad fIR fAsk fBAsk fCode fRL fRR fX fWrites fThrown)), ((g 0), Sum.inl (cI, 8, Sum.inl vMany)), ((g 2), Sum.inl (cI, 512, Sum.inl vNow))] := hD
    have z9 : r_36 = nI (ns F n) := hw_36
    subst z9
    have z9 : r_16 = nI (ns F t) := hw_16
    subst z9
    refine my_cv (wr := [((g 0), Sum.inl (cI, 8, Sum.inl vMany)), ((g 2), Sum.inl (cI, 512, Sum.inl vNow))]) (va_runV (As := [Value.int (nI (ns F t)), Value.int (nI (F t)), Value.int (nI (ns F n))]) (rest := []) ⟨hx, hb, hml, hown, hts⟩ (c_M_narrow1 l dC dI cI cM cO H.size o g fShift fModels fItems fEnded fCache fPend fOuts fIns fReads fBad fIR fAsk fBAsk fCode fRL fRR fX fWrites fThrown vGoing (ns F t) (F t) (ns F n) Rg L bs (by omega) (by omega) (hm1) (hFt) (by omega) (hp) (by assumption) (by omega)) (cwV 3 hts (my_gV k1093 k1095 ks29 k12 k1096) rfl rfl rfl (by decide +kernel) ⟨by rw [hR]; exact Nat.le_of_ble_eq_true rfl, by rw [hR]; exact Nat.le_of_ble_eq_true rfl⟩) (my_preV hK hN (hP.sub [1, 0] rfl) (hD.sub [1, 0] (by decide +kernel) rfl) 0 rfl rfl) rfl rfl hl.1 rfl (lv_room (Nat.le_of_ble_eq_true rfl)) d_M_putSign_39 ⟨by rw [hR]; exact Nat.le_of_ble_eq_true rfl, by rw [hR]; exact Nat.le_of_ble_eq_true rfl⟩) hP hD hS hA [1, 0] [2, 3] rfl rfl (by decide +kernel) (by decide +kernel) (fun u9 H locs hw_39 hP hD hS => ?_)
    obtain ⟨v2_39, rfl⟩ : ∃ z, z = u9 := ⟨_, rfl⟩
    have hw_39 : gIs v2_39 (plS (Rg / (ns F n) * (F t), L + Rg / (ns F n) * (ns F t), bs)).2.2 := hw_39
    have hP : va_P (dC, dI) vwCl [((g 0), Sum.inl (cI, 8, Sum.inl vMany)), ((g 2), Sum.inl (cI, 512, Sum.inl vNow)), (o, Sum.inr (9, mO g 1 fShift fModels fItems fEnded (lN (plS (Rg / (ns F n) * (F t), L + Rg / (ns F n) * (ns F t), bs)).2.1) (lN (plS (Rg / (ns F n) * (F t), L + Rg / (ns F n) * (ns F t), bs)).1) fCache fPend (nI (plS (Rg / (ns F n) * (F t), L + Rg / (ns F n) * (ns F t), bs)).2.2.length) fOuts fIns fReads fBad fIR fAsk fBAsk fCode fRL fRR fX fWrites fThrown)), ((g 6), Sum.inl (cI, 9000, Sum.inl v2_39))] H := hP
    have hD : va_D A [((g 0), Sum.inl (cI, 8, Sum.inl vMany)), ((g 2), Sum.inl (cI, 512, Sum.inl vNow)), (o, Sum.inr (9, mO g 1 fShift fModels fItems fEnded (lN (plS (Rg / (ns F n) * (F t), L + Rg / (ns F n) * (ns F t), bs)).2.1) (lN (plS (Rg / (ns F n) * (F t), L + Rg / (ns F n) * (ns F t), bs)).1) fCache fPend (nI (plS (Rg / (ns F n) * (F t), L + Rg / (ns F n) * (ns F t), bs)).2.2.length) fOuts fIns fReads fBad fIR fAsk fBAsk fCode fRL fRR fX fWrites fThrown)), ((g 6), Sum.inl (cI, 9000, Sum.inl v2_39))] := hD
    refine lv_aload_n hx hb d_M_putSign_42 rfl (lv_at hl 0 rfl) ?_
    refine lv_aload_n hx hb d_M_putSign_43 rfl (lv_at hl 0 rfl) ?_
    refine va_get (D := (dC, dI)) (ci := 9) (v := .ref (g 2)) (C := "RangeCodersModel") (T := T_M) (N := 35) hx hb hg in_M hown hK hP 2 rfl rfl 5 (by decide) (hg _ k957) (fun _ h9 => h9) rfl d_M_putSign_44 ?_
    refine lv_iload_n hx hb d_M_putSign_47 rfl (lv_at hl 1 rfl) ?_
    refine lv_iload_n hx hb d_M_putSign_48 rfl (lv_at hl 2 rfl) ?_
    refine my_cv (wr := [((g 6), Sum.inl (cI, 9000, Sum.inl v2_39))]) (va_runV (As := [Value.ref (g 2), Value.int (nI mm), Value.int (nI t)]) (rest := []) ⟨hx, hb, hml, hown, hts⟩ (c_M_learn l dC dI cI cM cO H.size o g 1 fShift fModels fItems fEnded (lN (plS (Rg / (ns F n) * (F t), L + Rg / (ns F n) * (ns F t), bs)).2.1) (lN (plS (Rg / (ns F n) * (F t), L + Rg / (ns F n) * (ns F t), bs)).1) fCache fPend (nI (plS (Rg / (ns F n) * (F t), L + Rg / (ns F n) * (ns F t), bs)).2.2.length) fOuts fIns fReads fBad fIR fAsk fBAsk fCode fRL fRR fX fWrites fThrown vMany (g 2) vNow mm n t F (by assumption) (by assumption) (by assumption) (by assumption) (by assumption) (hbd)) (cwV 3 hts (my_gV k1119 k1121 ks34 k12 k1122) rfl rfl rfl (by decide +kernel) ⟨by rw [hR]; exact Nat.le_of_ble_eq_true rfl, by rw [hR]; exact Nat.le_of_ble_eq_true rfl⟩) (my_preV hK hN (hP.sub [2, 0, 1] rfl) (hD.sub [2, 0, 1] (by decide +kernel) rfl) 0 rfl rfl) rfl rfl hl.1 rfl (lv_room (Nat.le_of_ble_eq_true rfl)) d_M_putSign_49 ⟨by rw [hR]; exact Nat.le_of_ble_eq_true rfl, by rw [hR]; exact Nat.le_of_ble_eq_true rfl⟩) hP hD hS hA [2, 0, 1] [3] rfl rfl (by decide +kernel) (by decide +kernel) (fun u9 H locs hw_49 hP hD hS => ?_)
    obtain ⟨f2_49, rfl⟩ : ∃ z, z = u9 := ⟨_, rfl⟩
    have hw_49 : sgI f2_49 (64 * mm) n (lrn n t F) ∧ sgO f2_49 vNow (64 * mm) n := hw_49
    have hP : va_P (dC, dI) vwCl [((g 6), Sum.inl (cI, 9000, Sum.inl v2_39)), (o, Sum.inr (9, mO g 1 fShift fModels fItems fEnded (lN (plS (Rg / (ns F n) * (F t), L + Rg / (ns F n) * (ns F t), bs)).2.1) (lN (plS (Rg / (ns F n) * (F t), L + Rg / (ns F n) * (ns F t), bs)).1) fCache fPend (nI (plS (Rg / (ns F n) * (F t), L + Rg / (ns F n) * (ns F t), bs)).2.2.length) fOuts fIns fReads fBad fIR fAsk fBAsk fCode fRL fRR fX fWrites fThrown)), ((g 0), Sum.inl (cI, 8, Sum.inl vMany)), ((g 2), Sum.inl (cI, 512, Sum.inl f2_49))] H := hP
    have hD : va_D A [((g 6), Sum.inl (cI, 9000, Sum.inl v2_39)), (o, Sum.inr (9, mO g 1 fShift fModels fItems fEnded (lN (plS (Rg / (ns F n) * (F t), L + Rg / (ns F n) * (ns F t), bs)).2.1) (lN (plS (Rg / (ns F n) * (F t), L + Rg / (ns F n) * (ns F t), bs)).1) fCache fPend (nI (plS (Rg / (ns F n) * (F t), L + Rg / (ns F n) * (ns F t), bs)).2.2.length) fOuts fIns fReads fBad fIR fAsk fBAsk fCode fRL fRR fX fWrites fThrown)), ((g 0), Sum.inl (cI, 8, Sum.inl vMany)), ((g 2), Sum.inl (cI, 512, Sum.inl f2_49))] := hD
    refine lv_goto (tgt := 112) hx hb d_M_putSign_52 (by decide) ?_
    exact my_vret hx hb hr hlocks hQ hK hS (Nat.le_refl _) (Nat.le_refl _) (f2_49, v2_39) (⟨hw_49.1, hw_49.2, hw_39⟩) (hP.sub [1, 2, 3, 0] rfl) (hD.sub [1, 2, 3, 0] (by decide +kernel) rfl) d_M_putSign_112
set_option maxHeartbeats 1000000 in
set_option maxRecDepth 100000 in
/-- putSign, form 2 -/
theorem c_M_putSign2 (l : Launch) (dC : Nat → ClassId) (dI : Nat → Nat → Nat) (cI cM cO : ClassId) (sz : Nat) (o : Nat) (g : Nat → Nat) (fModels : Int32) (fItems : Int32) (fEnded : Int32) (fOuts : Int32) (fIns : Int32) (fReads : Int32) (fBad : Int32) (fIR : Int32) (fAsk : Int32) (fBAsk : Int32) (fCode : Int64) (fRL : Int64) (fRR : Int64) (fX : Int64) (fWrites : Int32) (fThrown : Int32) (vMany : Nat → Int32) (vNow : Nat → Int32) (vGoing : Nat → Int32) (mm : Nat) (n : Nat) (t : Nat) (C : Nat → Nat) (sh : Nat) (Rg : Nat) (L : Nat) (ca : Option Nat) (Pn : Nat) (bs : List Nat) (hmm : mm < 8) (hn : vMany mm = nI n) (hn2 : n ≤ 64) (hn1 : 2 ≤ n) (ht : t < n) (hf : sgI vNow (64 * mm) 64 C) (hC : ∀ k, k < 64 → 1 ≤ C k ∧ C k ≤ 2047) (hs1 : 1 ≤ sh) (hs2 : sh ≤ 10) (hE : eInv (Rg, L, ca, Pn, bs)) (hG : gIs vGoing bs) (hN9 : bs.length + Pn + 20 ≤ 9000) : MetV l y_M_putSign (Cond.code y_M_putSign prog_14_method_24_code 6 none :: gw) ({ frames := 4, cells := 0, slots := 0, locals := 86 } : Room) (dC, dI) vwCl (kT cI cM cO) [Value.ref o, Value.int (nI mm), Value.int (nI t)] [(o, Sum.inr (9, mO g 2 (nI sh) fModels fItems fEnded (lN L) (lN Rg) (caI ca) (nI Pn) (nI bs.length) fOuts fIns fReads fBad fIR fAsk fBAsk fCode fRL fRR fX fWrites fThrown)), ((g 0), Sum.inl (cI, 8, Sum.inl vMany)), ((g 2), Sum.inl (cI, 512, Sum.inl vNow)), ((g 6), Sum.inl (cI, 9000, Sum.inl vGoing))] sz (fun (u : (Nat → Int32) × (Nat → Int32)) => sgI u.1 (64 * mm) 64 (spN sh t (lev n) 1 (Rg, L, ca, Pn, bs) C).2 ∧ sgO u.1 vNow (64 * mm) 64 ∧ gIs u.2 (eB (spN sh t (lev n) 1 (Rg, L, ca, Pn, bs) C).1)) (fun (u : (Nat → Int32) × (Nat → Int32)) => [(o, Sum.inr (9, mO g 2 (nI sh) fModels fItems fEnded (lN (eL ((spN sh t (lev n) 1 (Rg, L, ca, Pn, bs) C).1))) (lN (eR ((spN sh t (lev n) 1 (Rg, L, ca, Pn, bs) C).1))) (caI (eC ((spN sh t (lev n) 1 (Rg, L, ca, Pn, bs) C).1))) (nI (eP ((spN sh t (lev n) 1 (Rg, L, ca, Pn, bs) C).1))) (nI (eB ((spN sh t (lev n) 1 (Rg, L, ca, Pn, bs) C).1)).length) fOuts fIns fReads fBad fIR fAsk fBAsk fCode fRL fRR fX fWrites fThrown)), ((g 0), Sum.inl (cI, 8, Sum.inl vMany)), ((g 2), Sum.inl (cI, 512, Sum.inl u.1)), ((g 6), Sum.inl (cI, 9000, Sum.inl u.2))]) 0 0 := by
  refine my_ofV (cc := prog_14_method_24_code) (n := 6) (ret := none) (by decide) rfl (Nat.le_of_ble_eq_true rfl) ?_
  intro p e s m args below meth c R Q A ls H locs hx hb hr hts hown hlocks hml hnm hR hQ hA hl hP hK hN hD hS
  have hg : ∀ w ∈ gw, w.before args s = true := fun w h => hts w (List.mem_cons_of_mem _ h)
  have hown : s.vm.findClass "RangeCodersModel" = some m.cls := hown
  have hl : lv_has ls 6 [(0, Value.ref o), (1, Value.int (nI mm)), (2, Value.int (nI t))] := hl
  have hlv : lev n ≤ 6 := by unfold lev; repeat (first | omega | split)
  refine lv_aload_n hx hb d_M_putSign_0 rfl (lv_at hl 0 rfl) ?_
  refine va_get (D := (dC, dI)) (ci := 9) (v := .int 2) (C := "RangeCodersModel") (T := T_M) (N := 35) hx hb hg in_M hown hK hP 0 rfl rfl 0 (by decide) (hg _ k952) (fun _ h9 => h9) rfl d_M_putSign_1 ?_
  refine lv_iconst (v := 2) hx hb d_M_putSign_4 (by decide) ?_
  refine lv_icmp_ge (tgt := 55) hx hb d_M_putSign_5 (by decide) (fun c_1 => ?_) (fun c_1 => ?_)
  · refine lv_aload_n hx hb d_M_putSign_55 rfl (lv_at hl 0 rfl) ?_
    refine va_get (D := (dC, dI)) (ci := 9) (v := .int 2) (C := "RangeCodersModel") (T := T_M) (N := 35) hx hb hg in_M hown hK hP 0 rfl rfl 0 (by decide) (hg _ k952) (fun _ h9 => h9) rfl d_M_putSign_56 ?_
    refine lv_iconst (v := 2) hx hb d_M_putSign_59 (by decide) ?_
    refine lv_icmp_ne (tgt := 112) hx hb d_M_putSign_60 (by decide) (fun c_2 => ?_) (fun c_2 => ?_)
    · exact absurd rfl c_2
    · refine lv_iconst (v := 1) hx hb d_M_putSign_63 (by decide) ?_
      refine lv_istore_n (lv' := [(3, Value.int 1), (0, Value.ref o), (1, Value.int (nI mm)), (2, Value.int (nI t))]) hx hb d_M_putSign_64 rfl hl (by decide) rfl (fun ls hl => ?_)
      refine lv_aload_n hx hb d_M_putSign_65 rfl (lv_at hl 1 rfl) ?_
      refine lv_iload_n hx hb d_M_putSign_66 rfl (lv_at hl 2 rfl) ?_
      refine my_ci (wr := [((g 2), Sum.inl (cI, 512, Sum.inl vNow)), ((g 6), Sum.inl (cI, 9000, Sum.inl vGoing))]) (va_runV (As := [Value.int (nI mm)]) (rest := []) ⟨hx, hb, hml, hown, hts⟩ (c_M_levels l dC dI cI cM cO H.size o g 2 (nI sh) fModels fItems fEnded (lN L) (lN Rg) (caI ca) (nI Pn) (nI bs.length) fOuts fIns fReads fBad fIR fAsk fBAsk fCode fRL fRR fX fWrites fThrown vMany mm n (by assumption) (by assumption) (by assumption)) (cwV 1 hts (my_gV k1123 k1125 ks35 k12 k1126) rfl rfl rfl (by decide +kernel) ⟨by rw [hR]; exact Nat.le_of_ble_eq_true rfl, by rw [hR]; exact Nat.le_of_ble_eq_true rfl⟩) (my_preV hK hN (hP.sub [0, 1] rfl) (hD.sub [0, 1] (by decide +kernel) rfl) 0 rfl rfl) rfl rfl hl.1 rfl (lv_room (Nat.le_of_ble_eq_true rfl)) d_M_putSign_67 ⟨by rw [hR]; exact Nat.le_of_ble_eq_true rfl, by rw [hR]; exact Nat.le_of_ble_eq_true rfl⟩) hP hD hS hA [0, 1] [2, 3] rfl rfl (by decide +kernel) (by decide +kernel) (fun r_67 u9 H locs hw_67 hP hD hS => ?_)
      have hw_67 : r_67 = nI (lev n) := hw_67
      have hP : va_P (dC, dI) vwCl [((g 2), Sum.inl (cI, 512, Sum.inl vNow)), ((g 6), Sum.inl (cI, 9000, Sum.inl vGoing)), (o, Sum.inr (9, mO g 2 (nI sh) fModels fItems fEnded (lN L) (lN Rg) (caI ca) (nI Pn) (nI bs.length) fOuts fIns fReads fBad fIR fAsk fBAsk fCode fRL fRR fX fWrites fThrown)), ((g 0), Sum.inl (cI, 8, Sum.inl vMany))] H := hP
      have hD : va_D A [((g 2), Sum.inl (cI, 512, Sum.inl vNow)), ((g 6), Sum.inl (cI, 9000, Sum.inl vGoing)), (o, Sum.inr (9, mO g 2 (nI sh) fModels fItems fEnded (lN L) (lN Rg) (caI ca) (nI Pn) (nI bs.length) fOuts fIns fReads fBad fIR fAsk fBAsk fCode fRL fRR fX fWrites fThrown)), ((g 0), Sum.inl (cI, 8, Sum.inl vMany))] := hD
      refine lv_iconst (v := 1) hx hb d_M_putSign_70 (by decide) ?_
      refine lv_isub hx hb d_M_putSign_71 ?_
      refine lv_topi (fun v_3 ev_3 => ?_)
      have hlv2 := hw_67
      refine lv_istore (lv' := [(4, Value.int v_3), (3, Value.int 1), (0, Value.ref o), (1, Value.int (nI mm)), (2, Value.int (nI t))]) hx hb d_M_putSign_72 hl (by decide) rfl (fun ls hl => ?_)
      have J_74 : ∀ (n9_74 : Nat) (i9 : Int32) (n9v : Int32) (j : Nat) (nd : Nat) (e9 : ES) (D : Nat → Nat) (fK : Nat → Int32) (vK : Nat → Int32) (hn9_74 : j = n9_74) (hi : i9 + 1 = nI j) (hnv : n9v = nI nd) (hj : j ≤ lev n) (hE9 : spN sh t (lev n) 1 (Rg, L, ca, Pn, bs) C = spN sh t j nd e9 D) (hI9 : eInv e9) (hg9 : gIs vK (eB e9)) (hM9 : eN e9 + 2 * j ≤ 8981 + 2 * lev n) (hnd : 0 < nd ∧ nd < 2 ^ (lev n - j + 1)) (hfK : sgI fK (64 * mm) 64 D) (hoK : sgO fK vNow (64 * mm) 64) (hD9 : ∀ k, k < 64 → 1 ≤ D k ∧ D k ≤ 2047) (H : Heap) (locs : List Loc) (ls : Array Slot), va_P (dC, dI) vwCl [((g 2), Sum.inl (cI, 512, Sum.inl fK)), ((g 6), Sum.inl (cI, 9000, Sum.inl vK)), (o, Sum.inr (9, mO g 2 (nI sh) fModels fItems fEnded (lN (eL e9)) (lN (eR e9)) (caI (eC e9)) (nI (eP e9)) (nI (eB e9).length) fOuts fIns fReads fBad fIR fAsk fBAsk fCode fRL fRR fX fWrites fThrown)), ((g 0), Sum.inl (cI, 8, Sum.inl vMany))] H → va_D A [((g 2), Sum.inl (cI, 512, Sum.inl fK)), ((g 6), Sum.inl (cI, 9000, Sum.inl vK)), (o, Sum.inr (9, mO g 2 (nI sh) fModels fItems fEnded (lN (eL e9)) (lN (eR e9)) (caI (eC e9)) (nI (eP e9)) (nI (eB e9).length) fOuts fIns fReads fBad fIR fAsk fBAsk fCode fRL fRR fX fWrites fThrown)), ((g 0), Sum.inl (cI, 8, Sum.inl vMany))] → va_S A s.heap H locs → lv_has ls 6 [(4, Value.int i9), (3, Value.int n9v), (0, Value.ref o), (1, Value.int (nI mm)), (2, Value.int (nI t))] → W p l e R s m args below meth c H locs 0 0 Q (F0 m 74 ls []) := by
        intro n9_74
        induction n9_74 using Nat.strongRecOn with
        | ind n9_74 ih9_74 =>
          intro i9 n9v j nd e9 D fK vK hn9_74 hi hnv hj hE9 hI9 hg9 hM9 hnd hfK hoK hD9 H locs ls hP hD hS hl
          refine lv_iload hx hb d_M_putSign_74 (lv_at hl 0 rfl) ?_
          refine lv_if_lt (tgt := 112) hx hb d_M_putSign_76 (by decide) (fun c_4 => ?_) (fun c_4 => ?_)
          · have hj0 : j = 0 := by
              rcases Nat.eq_zero_or_pos j with z | z
              · exact z
              · exact absurd (show i9 < 0 from c_4) (by rw [show i9 = nI (j - 1) from by rw [← Int32.add_sub_cancel (a := i9) (b := 1), hi]; exact pk_sub (b := 1) z]; exact nI_pos (by omega))
            have hx9 : spN sh t (lev n) 1 (Rg, L, ca, Pn, bs) C = (e9, D) := by rw [hE9, hj0]; rfl
            have z9 : e9 = (spN sh t (lev n) 1 (Rg, L, ca, Pn, bs) C).1 := by rw [hx9]
            subst z9
            exact my_vret hx hb hr hlocks hQ hK hS (Nat.le_refl _) (Nat.le_refl _) (fK, vK) (⟨by rw [hx9]; exact hfK, hoK, hg9⟩) (hP.sub [2, 3, 0, 1] rfl) (hD.sub [2, 3, 0, 1] (by decide +kernel) rfl) d_M_putSign_112
          · have hj0 : 1 ≤ j := by
              rcases Nat.eq_zero_or_pos j with z | z
              · subst z; exact absurd (show i9 < 0 by rw [show i9 = -1 from by rw [← Int32.add_sub_cancel (a := i9) (b := 1), hi]; rfl]; decide) c_4
              · exact z
            have hi9 : i9 = nI (j - 1) := by rw [← Int32.add_sub_cancel (a := i9) (b := 1), hi]; exact pk_sub (b := 1) hj0
            obtain ⟨hI1, hI2, hI3, hI4⟩ := id hI9
            have hvl : t / 2 ^ (j - 1) ≤ t := Nat.div_le_self _ _
            have hnd64 : nd < 64 := Nat.lt_of_lt_of_le hnd.2 (Nat.pow_le_pow_right (n := 2) (by decide) (show lev n - j + 1 ≤ 6 by omega))
            have hb2 := Nat.mod_lt (t / 2 ^ (j - 1)) (show 0 < 2 by decide)
            refine lv_iload_n hx hb d_M_putSign_79 rfl (lv_at hl 4 rfl) ?_
            refine lv_iload hx hb d_M_putSign_80 (lv_at hl 0 rfl) ?_
            refine lv_ishr hx hb d_M_putSign_82 ?_
            refine lv_topi (fun v_5 ev_5 => ?_)
            refine lv_iconst (v := 1) hx hb d_M_putSign_83 (by decide) ?_
            refine lv_iand hx hb d_M_putSign_84 ?_
            refine lv_topi (fun v_6 ev_6 => ?_)
            have z9 : v_6 = nI (t / 2 ^ (j - 1) % 2) := by subst_vars; rw [I_shr (by omega) (by omega)]; exact I_and1 (by omega)
            subst z9
            refine lv_istore (lv' := [(5, Value.int (nI (t / 2 ^ (j - 1) % 2))), (4, Value.int i9), (3, Value.int n9v), (0, Value.ref o), (1, Value.int (nI mm)), (2, Value.int (nI t))]) hx hb d_M_putSign_85 hl (by decide) rfl (fun ls hl => ?_)
            refine lv_aload_n hx hb d_M_putSign_87 rfl (lv_at hl 3 rfl) ?_
            refine lv_bipush (v := 64) hx hb d_M_putSign_88 (by decide) ?_
            refine lv_iload_n hx hb d_M_putSign_90 rfl (lv_at hl 4 rfl) ?_
            refine lv_imul hx hb d_M_putSign_91 ?_
            refine lv_topi (fun v_7 ev_7 => ?_)
            refine lv_iload_n hx hb d_M_putSign_92 rfl (lv_at hl 2 rfl) ?_
            refine lv_iadd hx hb d_M_putSign_93 ?_
            refine lv_topi (fun v_8 ev_8 => ?_)
            have z9 : v_8 = nI (64 * mm + nd) := by subst_vars; exact ix64
            subst z9
            refine lv_iload hx hb d_M_putSign_94 (lv_at hl 0 rfl) ?_
            refine my_cv (wr := [((g 0), Sum.inl (cI, 8, Sum.inl vMany))]) (va_runV (As := [Value.int (nI (64 * mm + nd)), Value.int (nI (t / 2 ^ (j - 1) % 2))]) (rest := []) ⟨hx, hb, hml, hown, hts⟩ (c_M_putBit l dC dI cI cM cO H.size o g 2 (nI sh) fModels fItems fEnded fOuts fIns fReads fBad fIR fAsk fBAsk fCode fRL fRR fX fWrites fThrown fK vK (64 * mm + nd) (D nd) (t / 2 ^ (j - 1) % 2) sh (eR e9) (eL e9) (eC e9) (eP e9) (eB e9) (by omega) (hfK nd hnd64) ((hD9 nd hnd64).1) ((hD9 nd hnd64).2) (hs2) (rfl) (hb2) (hI1) (hI2) (hI3) (hI4) (hg9) (by have z : eN e9 = (eB e9).length + eP e9 + 1 := rfl; omega)) (cwV 2 hts (my_gV k1127 k1129 ks36 k12 k1130) rfl rfl rfl (by decide +kernel) ⟨by rw [hR]; exact Nat.le_of_ble_eq_true rfl, by rw [hR]; exact Nat.le_of_ble_eq_true rfl⟩) (my_preV hK hN (hP.sub [2, 0, 1] rfl) (hD.sub [2, 0, 1] (by decide +kernel) rfl) 0 rfl rfl) rfl rfl hl.1 rfl (lv_room (Nat.le_of_ble_eq_true rfl)) d_M_putSign_96 ⟨by rw [hR]; exact Nat.le_of_ble_eq_true rfl, by rw [hR]; exact Nat.le_of_ble_eq_true rfl⟩) hP hD hS hA [2, 0, 1] [3] rfl rfl (by decide +kernel) (by decide +kernel) (fun u9 H locs hw_96 hP hD hS => ?_)
            obtain ⟨f2_96, v2_96⟩ := u9
            have hw_96 : f2_96 = upd fK (64 * mm + nd) (nI (mvC sh (t / 2 ^ (j - 1) % 2) (D nd))) ∧ gIs v2_96 (eB (wdS (btS (D nd) (t / 2 ^ (j - 1) % 2) (eR e9) (eL e9) (eC e9) (eP e9) (eB e9)))) := hw_96
            have hP : va_P (dC, dI) vwCl [((g 0), Sum.inl (cI, 8, Sum.inl vMany)), (o, Sum.inr (9, mO g 2 (nI sh) fModels fItems fEnded (lN (eL (wdS (btS (D nd) (t / 2 ^ (j - 1) % 2) (eR e9) (eL e9) (eC e9) (eP e9) (eB e9))))) (lN (eR (wdS (btS (D nd) (t / 2 ^ (j - 1) % 2) (eR e9) (eL e9) (eC e9) (eP e9) (eB e9))))) (caI (eC (wdS (btS (D nd) (t / 2 ^ (j - 1) % 2) (eR e9) (eL e9) (eC e9) (eP e9) (eB e9))))) (nI (eP (wdS (btS (D nd) (t / 2 ^ (j - 1) % 2) (eR e9) (eL e9) (eC e9) (eP e9) (eB e9))))) (nI (eB (wdS (btS (D nd) (t / 2 ^ (j - 1) % 2) (eR e9) (eL e9) (eC e9) (eP e9) (eB e9)))).length) fOuts fIns fReads fBad fIR fAsk fBAsk fCode fRL fRR fX fWrites fThrown)), ((g 2), Sum.inl (cI, 512, Sum.inl f2_96)), ((g 6), Sum.inl (cI, 9000, Sum.inl v2_96))] H := hP
            have hD : va_D A [((g 0), Sum.inl (cI, 8, Sum.inl vMany)), (o, Sum.inr (9, mO g 2 (nI sh) fModels fItems fEnded (lN (eL (wdS (btS (D nd) (t / 2 ^ (j - 1) % 2) (eR e9) (eL e9) (eC e9) (eP e9) (eB e9))))) (lN (eR (wdS (btS (D nd) (t / 2 ^ (j - 1) % 2) (eR e9) (eL e9) (eC e9) (eP e9) (eB e9))))) (caI (eC (wdS (btS (D nd) (t / 2 ^ (j - 1) % 2) (eR e9) (eL e9) (eC e9) (eP e9) (eB e9))))) (nI (eP (wdS (btS (D nd) (t / 2 ^ (j - 1) % 2) (eR e9) (eL e9) (eC e9) (eP e9) (eB e9))))) (nI (eB (wdS (btS (D nd) (t / 2 ^ (j - 1) % 2) (eR e9) (eL e9) (eC e9) (eP e9) (eB e9)))).length) fOuts fIns fReads fBad fIR fAsk fBAsk fCode fRL fRR fX fWrites fThrown)), ((g 2), Sum.inl (cI, 512, Sum.inl f2_96)), ((g 6), Sum.inl (cI, 9000, Sum.inl v2_96))] := hD
            refine lv_iconst (v := 2) hx hb d_M_putSign_99 (by decide) ?_
            refine lv_iload_n hx hb d_M_putSign_100 rfl (lv_at hl 2 rfl) ?_
            refine lv_imul hx hb d_M_putSign_101 ?_
            refine lv_topi (fun v_9 ev_9 => ?_)
            refine lv_iload hx hb d_M_putSign_102 (lv_at hl 0 rfl) ?_
            refine lv_iadd hx hb d_M_putSign_104 ?_
            refine lv_topi (fun v_10 ev_10 => ?_)
            refine lv_istore_n (lv' := [(3, Value.int v_10), (5, Value.int (nI (t / 2 ^ (j - 1) % 2))), (4, Value.int i9), (0, Value.ref o), (1, Value.int (nI mm)), (2, Value.int (nI t))]) hx hb d_M_putSign_105 rfl hl (by decide) rfl (fun ls hl => ?_)
            obtain ⟨v_11, ev_11⟩ : ∃ y : Int32, y = i9 + (-1) := ⟨_, rfl⟩
            refine lv_iinc (v := v_11) (lv' := [(4, Value.int v_11), (3, Value.int v_10), (5, Value.int (nI (t / 2 ^ (j - 1) % 2))), (0, Value.ref o), (1, Value.int (nI mm)), (2, Value.int (nI t))]) hx hb d_M_putSign_106 hl (k := 2) rfl (by rw [ev_11]; rfl) (by decide) rfl (fun ls hl => ?_)
            refine lv_goto (tgt := 74) hx hb d_M_putSign_109 (by decide) ?_
            exact ih9_74 _ (by first | omega | (omega)) v_11 v_10 (j - 1) (2 * nd + t / 2 ^ (j - 1) % 2) (wdS (btS (D nd) (t / 2 ^ (j - 1) % 2) (eR e9) (eL e9) (eC e9) (eP e9) (eB e9))) (upN D nd (mvC sh (t / 2 ^ (j - 1) % 2) (D nd))) f2_96 v2_96 rfl (by subst_vars; rw [Int32.add_assoc, show (-1 : Int32) + 1 = 0 from by decide, Int32.add_zero]) (by subst_vars; rw [show (2 : Int32) * nI nd = nI (2 * nd) from pk_mul 2 nd]; exact nI_add _ _) (by omega) (by rw [hE9, show spN sh t j nd e9 D = spN sh t (j - 1 + 1) nd e9 D by rw [Nat.sub_add_cancel hj0]]; rfl) ((bt_inv hI9 (hD9 nd hnd64).1 (hD9 nd hnd64).2).1) (hw_96.2) (by have z := (bt_inv (bt := t / 2 ^ (j - 1) % 2) hI9 (hD9 nd hnd64).1 (hD9 nd hnd64).2).2; omega) (nd_st hj0 hj hnd hb2) (by rw [hw_96.1]; exact (sg_up hfK hnd64 rfl rfl).1) (by rw [hw_96.1]; exact sgO_tr (sg_up hfK hnd64 rfl rfl).2 hoK) (ch_up hs1 hD9) H locs ls (hP.sub [2, 3, 1, 0] rfl) (hD.sub [2, 3, 1, 0] (by decide +kernel) rfl) hS (lv_sub hl [0, 1, 3, 4, 5] rfl)
      exact J_74 _ v_3 1 (lev n) 1 (Rg, L, ca, Pn, bs) C vNow vGoing rfl (by subst_vars; rw [Int32.sub_add_cancel]) (rfl) (Nat.le_refl _) (rfl) (hE) (hG) (by show bs.length + Pn + 1 + 2 * lev n ≤ _; omega) (⟨by decide, by rw [Nat.sub_self]; decide⟩) (hf) (sgO_rf _ _ _) (hC) H locs ls (hP.sub [0, 1, 2, 3] rfl) (hD.sub [0, 1, 2, 3] (by decide +kernel) rfl) hS (lv_sub hl [0, 1, 2, 3, 4] rfl)
  · exact absurd (by decide) c_1

