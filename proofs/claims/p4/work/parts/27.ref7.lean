set_option maxHeartbeats 1000000 in
set_option maxRecDepth 100000 in
/-- putBit -/
theorem c_M_putBit (l : Launch) (dC : Nat → ClassId) (dI : Nat → Nat → Nat) (cI cM cO : ClassId) (sz : Nat) (o : Nat) (g : Nat → Nat) (fForm : Int32) (fShift : Int32) (fModels : Int32) (fItems : Int32) (fEnded : Int32) (fOuts : Int32) (fIns : Int32) (fReads : Int32) (fBad : Int32) (fIR : Int32) (fAsk : Int32) (fBAsk : Int32) (fCode : Int64) (fRL : Int64) (fRR : Int64) (fX : Int64) (fWrites : Int32) (fThrown : Int32) (vNow : Nat → Int32) (vGoing : Nat → Int32) (i : Nat) (pp : Nat) (bt : Nat) (sh : Nat) (Rg : Nat) (L : Nat) (ca : Option Nat) (Pn : Nat) (bs : List Nat) (hi : i < 512) (hp : vNow i = nI pp) (hp1 : 1 ≤ pp) (hp2 : pp ≤ 2047) (hsh : sh ≤ 10) (hS9 : fShift = nI sh) (hbt : bt < 2) (hR0 : 16777216 ≤ Rg) (hR1 : Rg < 4294967296) (hL : L + Rg ≤ 8589934592) (hc : ∀ x, ca = some x → x < 256) (hG : gIs vGoing bs) (hN9 : bs.length + Pn + 4 ≤ 9000) : MetV l y_M_putBit (Cond.code y_M_putBit prog_14_method_25_code 5 none :: gw) ({ frames := 3, cells := 0, slots := 0, locals := 62 } : Room) (dC, dI) vwCl (kT cI cM cO) [Value.ref o, Value.int (nI i), Value.int (nI bt)] [(o, Sum.inr (9, mO g fForm fShift fModels fItems fEnded (lN L) (lN Rg) (caI ca) (nI Pn) (nI bs.length) fOuts fIns fReads fBad fIR fAsk fBAsk fCode fRL fRR fX fWrites fThrown)), ((g 2), Sum.inl (cI, 512, Sum.inl vNow)), ((g 6), Sum.inl (cI, 9000, Sum.inl vGoing))] sz (fun (u : (Nat → Int32) × (Nat → Int32)) => u.1 = upd vNow i (nI (mvC sh bt pp)) ∧ gIs u.2 (eB (wdS (btS pp bt Rg L ca Pn bs)))) (fun (u : (Nat → Int32) × (Nat → Int32)) => [(o, Sum.inr (9, mO g fForm fShift fModels fItems fEnded (lN (eL (wdS (btS pp bt Rg L ca Pn bs)))) (lN (eR (wdS (btS pp bt Rg L ca Pn bs)))) (caI (eC (wdS (btS pp bt Rg L ca Pn bs)))) (nI (eP (wdS (btS pp bt Rg L ca Pn bs)))) (nI (eB (wdS (btS pp bt Rg L ca Pn bs))).length) fOuts fIns fReads fBad fIR fAsk fBAsk fCode fRL fRR fX fWrites fThrown)), ((g 2), Sum.inl (cI, 512, Sum.inl u.1)), ((g 6), Sum.inl (cI, 9000, Sum.inl u.2))]) 0 0 := by
  refine my_ofV (cc := prog_14_method_25_code) (n := 5) (ret := none) (by decide) rfl (Nat.le_of_ble_eq_true rfl) ?_
  intro p e s m args below meth c R Q A ls H locs hx hb hr hts hown hlocks hml hnm hR hQ hA hl hP hK hN hD hS
  have hg : ∀ w ∈ gw, w.before args s = true := fun w h => hts w (List.mem_cons_of_mem _ h)
  have hown : s.vm.findClass "RangeCodersModel" = some m.cls := hown
  have hl : lv_has ls 5 [(0, Value.ref o), (1, Value.int (nI i)), (2, Value.int (nI bt))] := hl
  have hq1 : 8192 ≤ Rg / 2048 := by omega
  have hq2 : Rg / 2048 * pp ≤ Rg / 2048 * 2047 := Nat.mul_le_mul_left _ hp2
  have hq3 : Rg / 2048 * 1 ≤ Rg / 2048 * pp := Nat.mul_le_mul_left _ hp1
  generalize hb9 : Rg / 2048 * pp = bb at hq2 hq3
  refine lv_aload_n hx hb d_M_putBit_0 rfl (lv_at hl 0 rfl) ?_
  refine va_get (D := (dC, dI)) (ci := 9) (v := .long (lN Rg)) (C := "RangeCodersModel") (T := T_M) (N := 35) hx hb hg in_M hown hK hP 0 rfl rfl 12 (by decide) (hg _ k964) (fun _ h9 => h9) rfl d_M_putBit_1 ?_
  refine lv_bipush (v := 11) hx hb d_M_putBit_4 (by decide) ?_
  refine lv_lshr hx hb d_M_putBit_6 rfl ?_
  refine lv_topl (fun v_1 ev_1 => ?_)
  refine lv_aload_n hx hb d_M_putBit_7 rfl (lv_at hl 0 rfl) ?_
  refine va_get (D := (dC, dI)) (ci := 9) (v := .ref (g 2)) (C := "RangeCodersModel") (T := T_M) (N := 35) hx hb hg in_M hown hK hP 0 rfl rfl 5 (by decide) (hg _ k957) (fun _ h9 => h9) rfl d_M_putBit_8 ?_
  refine lv_iload_n hx hb d_M_putBit_11 rfl (lv_at hl 1 rfl) ?_
  refine va_iald hx hb hK hP 1 0 rfl rfl (vp_in_nI hi (by decide)) d_M_putBit_12 ?_
  refine lv_topi (fun v_2 ev_2 => ?_)
  refine lv_i2l hx hb d_M_putBit_13 rfl ?_
  refine lv_topl (fun v_3 ev_3 => ?_)
  refine lv_lmul hx hb d_M_putBit_14 ?_
  refine lv_topl (fun v_4 ev_4 => ?_)
  have z9 : v_4 = lN bb := by subst_vars; rw [L_shr11 (by omega), nI_clamp (by omega), hp, nI_l (by omega), lN_mul]
  subst z9
  refine lv_lstore_n (lv' := [(3, Value.long (lN bb)), (0, Value.ref o), (1, Value.int (nI i)), (2, Value.int (nI bt))]) hx hb d_M_putBit_15 rfl hl (by decide) rfl (fun ls hl => ?_)
  refine lv_iload_n hx hb d_M_putBit_16 rfl (lv_at hl 3 rfl) ?_
  refine lv_if_ne (tgt := 28) hx hb d_M_putBit_17 (by decide) (fun c_5 => ?_) (fun c_5 => ?_)
  · refine lv_aload_n hx hb d_M_putBit_28 rfl (lv_at hl 1 rfl) ?_
    refine lv_aload_n hx hb d_M_putBit_29 rfl (lv_at hl 1 rfl) ?_
    refine va_get (D := (dC, dI)) (ci := 9) (v := .long (lN L)) (C := "RangeCodersModel") (T := T_M) (N := 35) hx hb hg in_M hown hK hP 0 rfl rfl 11 (by decide) (hg _ k963) (fun _ h9 => h9) rfl d_M_putBit_30 ?_
    refine lv_lload_n hx hb d_M_putBit_33 rfl (lv_at hl 0 rfl) ?_
    refine lv_ladd hx hb d_M_putBit_34 ?_
    refine lv_topl (fun v_6 ev_6 => ?_)
    have z9 : v_6 = lN (L + bb) := by subst_vars; exact lN_add _ _
    subst z9
    refine va_put (D := (dC, dI)) (ci := 9) (v := .long (lN (L + bb))) (ty := .long) (C := "RangeCodersModel") (T := T_M) (N := 35) hx hb hg in_M t_M o_M n_M hown hK hP hD hS 0 rfl rfl 11 (by decide) (hg _ k963) (fun _ h9 => h9) rfl (by decide +kernel) rfl rfl (Nat.le_of_ble_eq_true rfl) d_M_putBit_35 (fun H locs hP hD hS => ?_)
    have hP : va_P (dC, dI) vwCl [(o, Sum.inr (9, mO g fForm fShift fModels fItems fEnded (lN (L + bb)) (lN Rg) (caI ca) (nI Pn) (nI bs.length) fOuts fIns fReads fBad fIR fAsk fBAsk fCode fRL fRR fX fWrites fThrown)), ((g 2), Sum.inl (cI, 512, Sum.inl vNow)), ((g 6), Sum.inl (cI, 9000, Sum.inl vGoing))] H := hP
    have hD : va_D A [(o, Sum.inr (9, mO g fForm fShift fModels fItems fEnded (lN (L + bb)) (lN Rg) (caI ca) (nI Pn) (nI bs.length) fOuts fIns fReads fBad fIR fAsk fBAsk fCode fRL fRR fX fWrites fThrown)), ((g 2), Sum.inl (cI, 512, Sum.inl vNow)), ((g 6), Sum.inl (cI, 9000, Sum.inl vGoing))] := hD
    refine lv_aload_n hx hb d_M_putBit_38 rfl (lv_at hl 1 rfl) ?_
    refine lv_aload_n hx hb d_M_putBit_39 rfl (lv_at hl 1 rfl) ?_
    refine va_get (D := (dC, dI)) (ci := 9) (v := .long (lN Rg)) (C := "RangeCodersModel") (T := T_M) (N := 35) hx hb hg in_M hown hK hP 0 rfl rfl 12 (by decide) (hg _ k964) (fun _ h9 => h9) rfl d_M_putBit_40 ?_
    refine lv_lload_n hx hb d_M_putBit_43 rfl (lv_at hl 0 rfl) ?_
    refine lv_lsub hx hb d_M_putBit_44 ?_
    refine lv_topl (fun v_7 ev_7 => ?_)
    have z9 : v_7 = lN (Rg - bb) := by subst_vars; exact lN_sub (by omega)
    subst z9
    refine va_put (D := (dC, dI)) (ci := 9) (v := .long (lN (Rg - bb))) (ty := .long) (C := "RangeCodersModel") (T := T_M) (N := 35) hx hb hg in_M t_M o_M n_M hown hK hP hD hS 0 rfl rfl 12 (by decide) (hg _ k964) (fun _ h9 => h9) rfl (by decide +kernel) rfl rfl (Nat.le_of_ble_eq_true rfl) d_M_putBit_45 (fun H locs hP hD hS => ?_)
    have hP : va_P (dC, dI) vwCl [(o, Sum.inr (9, mO g fForm fShift fModels fItems fEnded (lN (L + bb)) (lN (Rg - bb)) (caI ca) (nI Pn) (nI bs.length) fOuts fIns fReads fBad fIR fAsk fBAsk fCode fRL fRR fX fWrites fThrown)), ((g 2), Sum.inl (cI, 512, Sum.inl vNow)), ((g 6), Sum.inl (cI, 9000, Sum.inl vGoing))] H := hP
    have hD : va_D A [(o, Sum.inr (9, mO g fForm fShift fModels fItems fEnded (lN (L + bb)) (lN (Rg - bb)) (caI ca) (nI Pn) (nI bs.length) fOuts fIns fReads fBad fIR fAsk fBAsk fCode fRL fRR fX fWrites fThrown)), ((g 2), Sum.inl (cI, 512, Sum.inl vNow)), ((g 6), Sum.inl (cI, 9000, Sum.inl vGoing))] := hD
    refine lv_aload_n hx hb d_M_putBit_48 rfl (lv_at hl 1 rfl) ?_
    refine lv_aload_n hx hb d_M_putBit_49 rfl (lv_at hl 1 rfl) ?_
    refine va_get (D := (dC, dI)) (ci := 9) (v := .ref (g 2)) (C := "RangeCodersModel") (T := T_M) (N := 35) hx hb hg in_M hown hK hP 0 rfl rfl 5 (by decide) (hg _ k957) (fun _ h9 => h9) rfl d_M_putBit_50 ?_
    refine lv_iload_n hx hb d_M_putBit_53 rfl (lv_at hl 2 rfl) ?_
    refine lv_iload_n hx hb d_M_putBit_54 rfl (lv_at hl 3 rfl) ?_
    refine my_cv (wr := [((g 6), Sum.inl (cI, 9000, Sum.inl vGoing))]) (va_runV (As := [Value.ref (g 2), Value.int (nI i), Value.int (nI bt)]) (rest := []) ⟨hx, hb, hml, hown, hts⟩ (c_M_moveChance l dC dI cI cM cO H.size o g fForm fShift fModels fItems fEnded (lN (L + bb)) (lN (Rg - bb)) (caI ca) (nI Pn) (nI bs.length) fOuts fIns fReads fBad fIR fAsk fBAsk fCode fRL fRR fX fWrites fThrown (g 2) vNow i pp bt sh (by assumption) (by assumption) (by omega) (by assumption) (by assumption) (by assumption)) (cwV 3 hts (my_gV k1131 k1133 ks37 k12 k1134) rfl rfl rfl (by decide +kernel) ⟨by rw [hR]; exact Nat.le_of_ble_eq_true rfl, by rw [hR]; exact Nat.le_of_ble_eq_true rfl⟩) (my_preV hK hN (hP.sub [0, 1] rfl) (hD.sub [0, 1] (by decide +kernel) rfl) 0 rfl rfl) rfl rfl hl.1 rfl (lv_room (Nat.le_of_ble_eq_true rfl)) d_M_putBit_55 ⟨by rw [hR]; exact Nat.le_of_ble_eq_true rfl, by rw [hR]; exact Nat.le_of_ble_eq_true rfl⟩) hP hD hS hA [0, 1] [2] rfl rfl (by decide +kernel) (by decide +kernel) (fun u9 H locs hw_55 hP hD hS => ?_)
    obtain ⟨f2_55, rfl⟩ : ∃ z, z = u9 := ⟨_, rfl⟩
    have hw_55 : f2_55 = upd vNow i (nI (mvC sh bt pp)) := hw_55
    have hP : va_P (dC, dI) vwCl [((g 6), Sum.inl (cI, 9000, Sum.inl vGoing)), (o, Sum.inr (9, mO g fForm fShift fModels fItems fEnded (lN (L + bb)) (lN (Rg - bb)) (caI ca) (nI Pn) (nI bs.length) fOuts fIns fReads fBad fIR fAsk fBAsk fCode fRL fRR fX fWrites fThrown)), ((g 2), Sum.inl (cI, 512, Sum.inl f2_55))] H := hP
    have hD : va_D A [((g 6), Sum.inl (cI, 9000, Sum.inl vGoing)), (o, Sum.inr (9, mO g fForm fShift fModels fItems fEnded (lN (L + bb)) (lN (Rg - bb)) (caI ca) (nI Pn) (nI bs.length) fOuts fIns fReads fBad fIR fAsk fBAsk fCode fRL fRR fX fWrites fThrown)), ((g 2), Sum.inl (cI, 512, Sum.inl f2_55))] := hD
    refine lv_aload_n hx hb d_M_putBit_58 rfl (lv_at hl 1 rfl) ?_
    refine my_cv (wr := [((g 2), Sum.inl (cI, 512, Sum.inl f2_55))]) (va_runV (As := []) (rest := []) ⟨hx, hb, hml, hown, hts⟩ (c_M_widen l dC dI cI cM cO H.size o g fForm fShift fModels fItems fEnded fOuts fIns fReads fBad fIR fAsk fBAsk fCode fRL fRR fX fWrites fThrown vGoing (Rg - bb) (L + bb) ca Pn bs (by omega) (by omega) (by omega) (hc) (hG) (hN9)) (cwV 0 hts (my_gV k1097 k1099 ks30 k12 k1100) rfl rfl rfl (by decide +kernel) ⟨by rw [hR]; exact Nat.le_of_ble_eq_true rfl, by rw [hR]; exact Nat.le_of_ble_eq_true rfl⟩) (my_preV hK hN (hP.sub [1, 0] rfl) (hD.sub [1, 0] (by decide +kernel) rfl) 0 rfl rfl) rfl rfl hl.1 rfl (lv_room (Nat.le_of_ble_eq_true rfl)) d_M_putBit_59 ⟨by rw [hR]; exact Nat.le_of_ble_eq_true rfl, by rw [hR]; exact Nat.le_of_ble_eq_true rfl⟩) hP hD hS hA [1, 0] [2] rfl rfl (by decide +kernel) (by decide +kernel) (fun u9 H locs hw_59 hP hD hS => ?_)
    obtain ⟨v2_59, rfl⟩ : ∃ z, z = u9 := ⟨_, rfl⟩
    have hw_59 : gIs v2_59 (eB (wdS ((Rg - bb), (L + bb), ca, Pn, bs))) := hw_59
    have hP : va_P (dC, dI) vwCl [((g 2), Sum.inl (cI, 512, Sum.inl f2_55)), (o, Sum.inr (9, mO g fForm fShift fModels fItems fEnded (lN (eL (wdS ((Rg - bb), (L + bb), ca, Pn, bs)))) (lN (eR (wdS ((Rg - bb), (L + bb), ca, Pn, bs)))) (caI (eC (wdS ((Rg - bb), (L + bb), ca, Pn, bs)))) (nI (eP (wdS ((Rg - bb), (L + bb), ca, Pn, bs)))) (nI (eB (wdS ((Rg - bb), (L + bb), ca, Pn, bs))).length) fOuts fIns fReads fBad fIR fAsk fBAsk fCode fRL fRR fX fWrites fThrown)), ((g 6), Sum.inl (cI, 9000, Sum.inl v2_59))] H := hP
    have hD : va_D A [((g 2), Sum.inl (cI, 512, Sum.inl f2_55)), (o, Sum.inr (9, mO g fForm fShift fModels fItems fEnded (lN (eL (wdS ((Rg - bb), (L + bb), ca, Pn, bs)))) (lN (eR (wdS ((Rg - bb), (L + bb), ca, Pn, bs)))) (caI (eC (wdS ((Rg - bb), (L + bb), ca, Pn, bs)))) (nI (eP (wdS ((Rg - bb), (L + bb), ca, Pn, bs)))) (nI (eB (wdS ((Rg - bb), (L + bb), ca, Pn, bs))).length) fOuts fIns fReads fBad fIR fAsk fBAsk fCode fRL fRR fX fWrites fThrown)), ((g 6), Sum.inl (cI, 9000, Sum.inl v2_59))] := hD
    rw [show ((Rg - bb), (L + bb), ca, Pn, bs) = btS pp bt Rg L ca Pn bs by unfold btS; rw [if_neg (fun q => c_5 (by rw [q]; rfl)), hb9]] at hP hD hw_59
    exact my_vret hx hb hr hlocks hQ hK hS (Nat.le_refl _) (Nat.le_refl _) (f2_55, v2_59) (⟨hw_55, hw_59⟩) (hP.sub [1, 0, 2] rfl) (hD.sub [1, 0, 2] (by decide +kernel) rfl) d_M_putBit_62
  · refine lv_aload_n hx hb d_M_putBit_20 rfl (lv_at hl 1 rfl) ?_
    refine lv_lload_n hx hb d_M_putBit_21 rfl (lv_at hl 0 rfl) ?_
    refine va_put (D := (dC, dI)) (ci := 9) (v := .long (lN bb)) (ty := .long) (C := "RangeCodersModel") (T := T_M) (N := 35) hx hb hg in_M t_M o_M n_M hown hK hP hD hS 0 rfl rfl 12 (by decide) (hg _ k964) (fun _ h9 => h9) rfl (by decide +kernel) rfl rfl (Nat.le_of_ble_eq_true rfl) d_M_putBit_22 (fun H locs hP hD hS => ?_)
    have hP : va_P (dC, dI) vwCl [(o, Sum.inr (9, mO g fForm fShift fModels fItems fEnded (lN L) (lN bb) (caI ca) (nI Pn) (nI bs.length) fOuts fIns fReads fBad fIR fAsk fBAsk fCode fRL fRR fX fWrites fThrown)), ((g 2), Sum.inl (cI, 512, Sum.inl vNow)), ((g 6), Sum.inl (cI, 9000, Sum.inl vGoing))] H := hP
    have hD : va_D A [(o, Sum.inr (9, mO g fForm fShift fModels fItems fEnded (lN L) (lN bb) (caI ca) (nI Pn) (nI bs.length) fOuts fIns fReads fBad fIR fAsk fBAsk fCode fRL fRR fX fWrites fThrown)), ((g 2), Sum.inl (cI, 512, Sum.inl vNow)), ((g 6), Sum.inl (cI, 9000, Sum.inl vGoing))] := hD
    refine lv_goto (tgt := 48) hx hb d_M_putBit_25 (by decide) ?_
    refine lv_aload_n hx hb d_M_putBit_48 rfl (lv_at hl 1 rfl) ?_
    refine lv_aload_n hx hb d_M_putBit_49 rfl (lv_at hl 1 rfl) ?_
    refine va_get (D := (dC, dI)) (ci := 9) (v := .ref (g 2)) (C := "RangeCodersModel") (T := T_M) (N := 35) hx hb hg in_M hown hK hP 0 rfl rfl 5 (by decide) (hg _ k957) (fun _ h9 => h9) rfl d_M_putBit_50 ?_
    refine lv_iload_n hx hb d_M_putBit_53 rfl (lv_at hl 2 rfl) ?_
    refine lv_iload_n hx hb d_M_putBit_54 rfl (lv_at hl 3 rfl) ?_
    refine my_cv (wr := [((g 6), Sum.inl (cI, 9000, Sum.inl vGoing))]) (va_runV (As := [Value.ref (g 2), Value.int (nI i), Value.int (nI bt)]) (rest := []) ⟨hx, hb, hml, hown, hts⟩ (c_M_moveChance l dC dI cI cM cO H.size o g fForm fShift fModels fItems fEnded (lN L) (lN bb) (caI ca) (nI Pn) (nI bs.length) fOuts fIns fReads fBad fIR fAsk fBAsk fCode fRL fRR fX fWrites fThrown (g 2) vNow i pp bt sh (by assumption) (by assumption) (by omega) (by assumption) (by assumption) (by assumption)) (cwV 3 hts (my_gV k1131 k1133 ks37 k12 k1134) rfl rfl rfl (by decide +kernel) ⟨by rw [hR]; exact Nat.le_of_ble_eq_true rfl, by rw [hR]; exact Nat.le_of_ble_eq_true rfl⟩) (my_preV hK hN (hP.sub [0, 1] rfl) (hD.sub [0, 1] (by decide +kernel) rfl) 0 rfl rfl) rfl rfl hl.1 rfl (lv_room (Nat.le_of_ble_eq_true rfl)) d_M_putBit_55 ⟨by rw [hR]; exact Nat.le_of_ble_eq_true rfl, by rw [hR]; exact Nat.le_of_ble_eq_true rfl⟩) hP hD hS hA [0, 1] [2] rfl rfl (by decide +kernel) (by decide +kernel) (fun u9 H locs hw_55 hP hD hS => ?_)
    obtain ⟨f2_55, rfl⟩ : ∃ z, z = u9 := ⟨_, rfl⟩
    have hw_55 : f2_55 = upd vNow i (nI (mvC sh bt pp)) := hw_55
    have hP : va_P (dC, dI) vwCl [((g 6), Sum.inl (cI, 9000, Sum.inl vGoing)), (o, Sum.inr (9, mO g fForm fShift fModels fItems fEnded (lN L) (lN bb) (caI ca) (nI Pn) (nI bs.length) fOuts fIns fReads fBad fIR fAsk fBAsk fCode fRL fRR fX fWrites fThrown)), ((g 2), Sum.inl (cI, 512, Sum.inl f2_55))] H := hP
    have hD : va_D A [((g 6), Sum.inl (cI, 9000, Sum.inl vGoing)), (o, Sum.inr (9, mO g fForm fShift fModels fItems fEnded (lN L) (lN bb) (caI ca) (nI Pn) (nI bs.length) fOuts fIns fReads fBad fIR fAsk fBAsk fCode fRL fRR fX fWrites fThrown)), ((g 2), Sum.inl (cI, 512, Sum.inl f2_55))] := hD
    refine lv_aload_n hx hb d_M_putBit_58 rfl (lv_at hl 1 rfl) ?_
    refine my_cv (wr := [((g 2), Sum.inl (cI, 512, Sum.inl f2_55))]) (va_runV (As := []) (rest := []) ⟨hx, hb, hml, hown, hts⟩ (c_M_widen l dC dI cI cM cO H.size o g fForm fShift fModels fItems fEnded fOuts fIns fReads fBad fIR fAsk fBAsk fCode fRL fRR fX fWrites fThrown vGoing bb L ca Pn bs (by omega) (by omega) (by omega) (hc) (hG) (hN9)) (cwV 0 hts (my_gV k1097 k1099 ks30 k12 k1100) rfl rfl rfl (by decide +kernel) ⟨by rw [hR]; exact Nat.le_of_ble_eq_true rfl, by rw [hR]; exact Nat.le_of_ble_eq_true rfl⟩) (my_preV hK hN (hP.sub [1, 0] rfl) (hD.sub [1, 0] (by decide +kernel) rfl) 0 rfl rfl) rfl rfl hl.1 rfl (lv_room (Nat.le_of_ble_eq_true rfl)) d_M_putBit_59 ⟨by rw [hR]; exact Nat.le_of_ble_eq_true rfl, by rw [hR]; exact Nat.le_of_ble_eq_true rfl⟩) hP hD hS hA [1, 0] [2] rfl rfl (by decide +kernel) (by decide +kernel) (fun u9 H locs hw_59 hP hD hS => ?_)
    obtain ⟨v2_59, rfl⟩ : ∃ z, z = u9 := ⟨_, rfl⟩
    have hw_59 : gIs v2_59 (eB (wdS (bb, L, ca, Pn, bs))) := hw_59
    have hP : va_P (dC, dI) vwCl [((g 2), Sum.inl (cI, 512, Sum.inl f2_55)), (o, Sum.inr (9, mO g fForm fShift fModels fItems fEnded (lN (eL (wdS (bb, L, ca, Pn, bs)))) (lN (eR (wdS (bb, L, ca, Pn, bs)))) (caI (eC (wdS (bb, L, ca, Pn, bs)))) (nI (eP (wdS (bb, L, ca, Pn, bs)))) (nI (eB (wdS (bb, L, ca, Pn, bs))).length) fOuts fIns fReads fBad fIR fAsk fBAsk fCode fRL fRR fX fWrites fThrown)), ((g 6), Sum.inl (cI, 9000, Sum.inl v2_59))] H := hP
    have hD : va_D A [((g 2), Sum.inl (cI, 512, Sum.inl f2_55)), (o, Sum.inr (9, mO g fForm fShift fModels fItems fEnded (lN (eL (wdS (bb, L, ca, Pn, bs)))) (lN (eR (wdS (bb, L, ca, Pn, bs)))) (caI (eC (wdS (bb, L, ca, Pn, bs)))) (nI (eP (wdS (bb, L, ca, Pn, bs)))) (nI (eB (wdS (bb, L, ca, Pn, bs))).length) fOuts fIns fReads fBad fIR fAsk fBAsk fCode fRL fRR fX fWrites fThrown)), ((g 6), Sum.inl (cI, 9000, Sum.inl v2_59))] := hD
    rw [show (bb, L, ca, Pn, bs) = btS pp bt Rg L ca Pn bs by unfold btS; rw [if_pos ((nI_eq (b := 0) (by omega) (by decide)).mp c_5), hb9]] at hP hD hw_59
    exact my_vret hx hb hr hlocks hQ hK hS (Nat.le_refl _) (Nat.le_refl _) (f2_55, v2_59) (⟨hw_55, hw_59⟩) (hP.sub [1, 0, 2] rfl) (hD.sub [1, 0, 2] (by decide +kernel) rfl) d_M_putBit_62
set_option maxHeartbeats 1000000 in
set_option maxRecDepth 100000 in
/-- addItem -/
theorem c_M_addItem (l : Launch) (dC : Nat → ClassId) (dI : Nat → Nat → Nat) (cI cM cO : ClassId) (sz : Nat) (o : Nat) (g : Nat → Nat) (fForm : Int32) (fShift : Int32) (fModels : Int32) (fEnded : Int32) (fLow : Int64) (fRange : Int64) (fCache : Int32) (fPend : Int32) (fGoes : Int32) (fOuts : Int32) (fIns : Int32) (fReads : Int32) (fBad : Int32) (fIR : Int32) (fAsk : Int32) (fBAsk : Int32) (fCode : Int64) (fRL : Int64) (fRR : Int64) (fX : Int64) (fWrites : Int32) (fThrown : Int32) (vIM : Nat → Int32) (vIW : Nat → Int32) (k : Nat) (p1 : Int32) (p2 : Int32) (hk : k < 600) : MetI l y_M_addItem (Cond.code y_M_addItem prog_14_method_28_code 3 (some .int) :: gw) ({ frames := 0, cells := 0, slots := 0, locals := 0 } : Room) (dC, dI) vwCl (kT cI cM cO) [Value.ref o, Value.int p1, Value.int p2] [(o, Sum.inr (9, mO g fForm fShift fModels (nI k) fEnded fLow fRange fCache fPend fGoes fOuts fIns fReads fBad fIR fAsk fBAsk fCode fRL fRR fX fWrites fThrown)), ((g 4), Sum.inl (cI, 600, Sum.inl vIM)), ((g 5), Sum.inl (cI, 600, Sum.inl vIW))] sz (fun (r : Int32) (u : (Nat → Int32) × (Nat → Int32)) => r = nI (k + 1) ∧ u.1 = upd vIM k p1 ∧ u.2 = upd vIW k p2) (fun (u : (Nat → Int32) × (Nat → Int32)) => [(o, Sum.inr (9, mO g fForm fShift fModels (nI (k + 1)) fEnded fLow fRange fCache fPend fGoes fOuts fIns fReads fBad fIR fAsk fBAsk fCode fRL fRR fX fWrites fThrown)), ((g 4), Sum.inl (cI, 600, Sum.inl u.1)), ((g 5), Sum.inl (cI, 600, Sum.inl u.2))]) 0 0 := by
  refine my_ofI (cc := prog_14_method_28_code) (n := 3) (ret := (some .int)) (by decide) rfl (Nat.le_of_ble_eq_true rfl) ?_
  intro p e s m args below meth c R Q A ls H locs hx hb hr hts hown hlocks hml hnm hR hQ hA hl hP hK hN hD hS
  have hg : ∀ w ∈ gw, w.before args s = true := fun w h => hts w (List.mem_cons_of_mem _ h)
  have hown : s.vm.findClass "RangeCodersModel" = some m.cls := hown
  have hl : lv_has ls 3 [(0, Value.ref o), (1, Value.int p1), (2, Value.int p2)] := hl
  refine lv_aload_n hx hb d_M_addItem_0 rfl (lv_at hl 0 rfl) ?_
  refine va_get (D := (dC, dI)) (ci := 9) (v := .ref (g 4)) (C := "RangeCodersModel") (T := T_M) (N := 35) hx hb hg in_M hown hK hP 0 rfl rfl 8 (by decide) (hg _ k960) (fun _ h9 => h9) rfl d_M_addItem_1 ?_
  refine lv_aload_n hx hb d_M_addItem_4 rfl (lv_at hl 0 rfl) ?_
  refine va_get (D := (dC, dI)) (ci := 9) (v := .int (nI k)) (C := "RangeCodersModel") (T := T_M) (N := 35) hx hb hg in_M hown hK hP 0 rfl rfl 7 (by decide) (hg _ k959) (fun _ h9 => h9) rfl d_M_addItem_5 ?_
  refine lv_iload_n hx hb d_M_addItem_8 rfl (lv_at hl 1 rfl) ?_
  refine va_iast hx hb hK hP hD hS 1 0 rfl rfl (vp_in_nI hk (by decide)) d_M_addItem_9 (fun H locs hP hD hS => ?_)
  have hP : va_P (dC, dI) vwCl [(o, Sum.inr (9, mO g fForm fShift fModels (nI k) fEnded fLow fRange fCache fPend fGoes fOuts fIns fReads fBad fIR fAsk fBAsk fCode fRL fRR fX fWrites fThrown)), ((g 4), Sum.inl (cI, 600, Sum.inl (upd vIM (nI k).toNatClampNeg p1))), ((g 5), Sum.inl (cI, 600, Sum.inl vIW))] H := hP
  have hD : va_D A [(o, Sum.inr (9, mO g fForm fShift fModels (nI k) fEnded fLow fRange fCache fPend fGoes fOuts fIns fReads fBad fIR fAsk fBAsk fCode fRL fRR fX fWrites fThrown)), ((g 4), Sum.inl (cI, 600, Sum.inl (upd vIM (nI k).toNatClampNeg p1))), ((g 5), Sum.inl (cI, 600, Sum.inl vIW))] := hD
  refine lv_aload_n hx hb d_M_addItem_10 rfl (lv_at hl 0 rfl) ?_
  refine va_get (D := (dC, dI)) (ci := 9) (v := .ref (g 5)) (C := "RangeCodersModel") (T := T_M) (N := 35) hx hb hg in_M hown hK hP 0 rfl rfl 9 (by decide) (hg _ k961) (fun _ h9 => h9) rfl d_M_addItem_11 ?_
  refine lv_aload_n hx hb d_M_addItem_14 rfl (lv_at hl 0 rfl) ?_
  refine va_get (D := (dC, dI)) (ci := 9) (v := .int (nI k)) (C := "RangeCodersModel") (T := T_M) (N := 35) hx hb hg in_M hown hK hP 0 rfl rfl 7 (by decide) (hg _ k959) (fun _ h9 => h9) rfl d_M_addItem_15 ?_
  refine lv_iload_n hx hb d_M_addItem_18 rfl (lv_at hl 2 rfl) ?_
  refine va_iast hx hb hK hP hD hS 2 0 rfl rfl (vp_in_nI hk (by decide)) d_M_addItem_19 (fun H locs hP hD hS => ?_)
  have hP : va_P (dC, dI) vwCl [(o, Sum.inr (9, mO g fForm fShift fModels (nI k) fEnded fLow fRange fCache fPend fGoes fOuts fIns fReads fBad fIR fAsk fBAsk fCode fRL fRR fX fWrites fThrown)), ((g 4), Sum.inl (cI, 600, Sum.inl (upd vIM (nI k).toNatClampNeg p1))), ((g 5), Sum.inl (cI, 600, Sum.inl (upd vIW (nI k).toNatClampNeg p2)))] H := hP
  have hD : va_D A [(o, Sum.inr (9, mO g fForm fShift fModels (nI k) fEnded fLow fRange fCache fPend fGoes fOuts fIns fReads fBad fIR fAsk fBAsk fCode fRL fRR fX fWrites fThrown)), ((g 4), Sum.inl (cI, 600, Sum.inl (upd vIM (nI k).toNatClampNeg p1))), ((g 5), Sum.inl (cI, 600, Sum.inl (upd vIW (nI k).toNatClampNeg p2)))] := hD
  refine lv_aload_n hx hb d_M_addItem_20 rfl (lv_at hl 0 rfl) ?_
  refine lv_dup hx hb d_M_addItem_21 rfl ?_
  refine va_get (D := (dC, dI)) (ci := 9) (v := .int (nI k)) (C := "RangeCodersModel") (T := T_M) (N := 35) hx hb hg in_M hown hK hP 0 rfl rfl 7 (by decide) (hg _ k959) (fun _ h9 => h9) rfl d_M_addItem_22 ?_
  refine lv_iconst (v := 1) hx hb d_M_addItem_25 (by decide) ?_
  refine lv_iadd hx hb d_M_addItem_26 ?_
  refine lv_topi (fun v_1 ev_1 => ?_)
  have z9 : v_1 = nI (k + 1) := by subst_vars; exact nI_1 _
  subst z9
  refine va_put (D := (dC, dI)) (ci := 9) (v := .int (nI (k + 1))) (ty := .int) (C := "RangeCodersModel") (T := T_M) (N := 35) hx hb hg in_M t_M o_M n_M hown hK hP hD hS 0 rfl rfl 7 (by decide) (hg _ k959) (fun _ h9 => h9) rfl (by decide +kernel) rfl rfl (Nat.le_of_ble_eq_true rfl) d_M_addItem_27 (fun H locs hP hD hS => ?_)
  have hP : va_P (dC, dI) vwCl [(o, Sum.inr (9, mO g fForm fShift fModels (nI (k + 1)) fEnded fLow fRange fCache fPend fGoes fOuts fIns fReads fBad fIR fAsk fBAsk fCode fRL fRR fX fWrites fThrown)), ((g 4), Sum.inl (cI, 600, Sum.inl (upd vIM (nI k).toNatClampNeg p1))), ((g 5), Sum.inl (cI, 600, Sum.inl (upd vIW (nI k).toNatClampNeg p2)))] H := hP
  have hD : va_D A [(o, Sum.inr (9, mO g fForm fShift fModels (nI (k + 1)) fEnded fLow fRange fCache fPend fGoes fOuts fIns fReads fBad fIR fAsk fBAsk fCode fRL fRR fX fWrites fThrown)), ((g 4), Sum.inl (cI, 600, Sum.inl (upd vIM (nI k).toNatClampNeg p1))), ((g 5), Sum.inl (cI, 600, Sum.inl (upd vIW (nI k).toNatClampNeg p2)))] := hD
  refine lv_aload_n hx hb d_M_addItem_30 rfl (lv_at hl 0 rfl) ?_
  refine va_get (D := (dC, dI)) (ci := 9) (v := .int (nI (k + 1))) (C := "RangeCodersModel") (T := T_M) (N := 35) hx hb hg in_M hown hK hP 0 rfl rfl 7 (by decide) (hg _ k959) (fun _ h9 => h9) rfl d_M_addItem_31 ?_
  exact my_iret (v := (nI (k + 1))) hx hb hr (rfl) hlocks hQ hK hS (Nat.le_refl _) (Nat.le_refl _) (upd vIM (nI k).toNatClampNeg p1, upd vIW (nI k).toNatClampNeg p2) (⟨rfl, by rw [nI_clamp (by omega)], by rw [nI_clamp (by omega)]⟩) (hP.sub [0, 1, 2] rfl) (hD.sub [0, 1, 2] (by decide +kernel) rfl) d_M_addItem_34

