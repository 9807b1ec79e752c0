set_option maxHeartbeats 2000000 in
set_option maxRecDepth 100000 in
theorem c_M_modelA (l : Launch) (dC : Nat → ClassId) (dI : Nat → Nat → Nat) (cI cM cO : ClassId) (sz : Nat) (o : Nat) (g : Nat → Nat) (fForm : Int32) (fShift : Int32) (fModels : Int32) (fItems : Int32) (fEnded : Int32) (fLow : Int64) (fRange : Int64) (fCache : Int32) (fPend : Int32) (fGoes : Int32) (fOuts : Int32) (fIns : Int32) (fReads : Int32) (fBad : Int32) (fIR : Int32) (fAsk : Int32) (fBAsk : Int32) (fCode : Int64) (fRL : Int64) (fRR : Int64) (fX : Int64) (fWrites : Int32) (fThrown : Int32) (vMany : Nat → Int32) (vCounts : Nat → Int32) (fm : Nat) (km : Nat) (N : Nat → Nat) (p1 : Int32) (hmod : fModels = nI km) (hMD : MD km N vMany vCounts) (hrf : p1 < 2 ∨ 64 < p1) : MetI l y_M_model (Cond.code y_M_model prog_14_method_13_code 4 (some .int) :: gw) ({ frames := 1, cells := 0, slots := 0, locals := 22 } : Room) (dC, dI) vwCl (kT cI cM cO) [.ref o, .int p1] [(o, .inr (9, mO g fForm fShift fModels fItems fEnded fLow fRange fCache fPend fGoes fOuts fIns fReads fBad fIR fAsk fBAsk fCode fRL fRR fX fWrites fThrown)), ((g 0), .inl (cI, 8, .inl vMany)), ((g 1), .inl (cI, 512, .inl vCounts))] sz (fun (r : Int32) (u : Int32) => r = -2) (fun (u : Int32) => [(o, .inr (9, mO g fForm fShift fModels fItems fEnded fLow fRange fCache fPend fGoes fOuts fIns fReads fBad fIR fAsk fBAsk fCode fRL fRR fX fWrites u)), ((g 0), .inl (cI, 8, .inl vMany)), ((g 1), .inl (cI, 512, .inl vCounts))]) 0 0 := by
  refine my_ofI (cc := prog_14_method_13_code) (n := 4) (ret := (some .int)) (by decide) rfl (Nat.le_of_ble_eq_true rfl) ?_
  intro p e s m args below meth c R Q A ls H locs hx hb hr hts hown hlocks hml hnm hR hQ hA hl hP hK hN hD hS
  have hg : ∀ w ∈ gw, w.before args s = true := fun w h => hts w (List.mem_cons_of_mem _ h)
  have hown : s.vm.findClass "RangeCodersModel" = some m.cls := hown
  have hl : lv_has ls 4 [(0, .ref o), (1, .int p1)] := hl
  refine lv_aload_n hx hb d_M_model_0 rfl (lv_at hl 0 rfl) ?_
  refine lv_iconst (v := 0) hx hb d_M_model_1 (by decide) ?_
  refine va_put (D := (dC, dI)) (ci := 9) (v := .int 0) (ty := .int) (C := "RangeCodersModel") (T := T_M) (N := 35) hx hb hg in_M t_M o_M n_M hown hK hP hD hS 0 rfl rfl 34 (by decide) (hg _ k986) (fun _ h9 => h9) rfl (by decide +kernel) rfl rfl (Nat.le_of_ble_eq_true rfl) d_M_model_2 (fun H locs hP hD hS => ?_)
  have hP : va_P (dC, dI) vwCl [(o, .inr (9, mO g fForm fShift fModels fItems fEnded fLow fRange fCache fPend fGoes fOuts fIns fReads fBad fIR fAsk fBAsk fCode fRL fRR fX fWrites 0)), ((g 0), .inl (cI, 8, .inl vMany)), ((g 1), .inl (cI, 512, .inl vCounts))] H := hP
  have hD : va_D A [(o, .inr (9, mO g fForm fShift fModels fItems fEnded fLow fRange fCache fPend fGoes fOuts fIns fReads fBad fIR fAsk fBAsk fCode fRL fRR fX fWrites 0)), ((g 0), .inl (cI, 8, .inl vMany)), ((g 1), .inl (cI, 512, .inl vCounts))] := hD
  refine lv_iload_n hx hb d_M_model_5 rfl (lv_at hl 1 rfl) ?_
  refine lv_iconst (v := 2) hx hb d_M_model_6 (by decide) ?_
  refine lv_bipush (v := 64) hx hb d_M_model_7 (by decide) ?_
  refine my_ci (wr := [(o, .inr (9, mO g fForm fShift fModels fItems fEnded fLow fRange fCache fPend fGoes fOuts fIns fReads fBad fIR fAsk fBAsk fCode fRL fRR fX fWrites 0)), ((g 0), .inl (cI, 8, .inl vMany)), ((g 1), .inl (cI, 512, .inl vCounts))]) (va_runS (As := [.int p1, .int 2, .int 64]) (rest := []) ⟨hx, hb, hml, hown, hts⟩ (c_M_in l dC dI cI cM cO H.size p1 2 64) (cwS 3 hts (my_gS k1062 k1063 k12 k1064) rfl rfl rfl (by decide +kernel) ⟨by rw [hR]; exact Nat.le_of_ble_eq_true rfl, by rw [hR]; exact Nat.le_of_ble_eq_true rfl⟩) (my_pre hK hN (hP.sub [] rfl) (hD.sub [] (by decide) rfl)) rfl rfl hl.1 rfl (lv_room (Nat.le_of_ble_eq_true rfl)) d_M_model_9 ⟨by rw [hR]; exact Nat.le_of_ble_eq_true rfl, by rw [hR]; exact Nat.le_of_ble_eq_true rfl⟩) hP hD hS hA [] [0, 1, 2] rfl rfl (by decide) (by decide) (fun r_9 u9 H locs hw_9 hP hD hS => ?_)
  have hw_9 : r_9 = if 2 ≤ p1 ∧ p1 ≤ 64 then 1 else 0 := hw_9
  have hP : va_P (dC, dI) vwCl [(o, .inr (9, mO g fForm fShift fModels fItems fEnded fLow fRange fCache fPend fGoes fOuts fIns fReads fBad fIR fAsk fBAsk fCode fRL fRR fX fWrites 0)), ((g 0), .inl (cI, 8, .inl vMany)), ((g 1), .inl (cI, 512, .inl vCounts))] H := hP
  have hD : va_D A [(o, .inr (9, mO g fForm fShift fModels fItems fEnded fLow fRange fCache fPend fGoes fOuts fIns fReads fBad fIR fAsk fBAsk fCode fRL fRR fX fWrites 0)), ((g 0), .inl (cI, 8, .inl vMany)), ((g 1), .inl (cI, 512, .inl vCounts))] := hD
  refine lv_if_ne (tgt := 18) hx hb d_M_model_12 (by decide) (fun c_1 => ?_) (fun c_1 => ?_)
  · exact absurd hrf (fun h9 => h9.elim (fun q9 => absurd (one_ne hw_9 c_1).1 (Int32.not_le.mpr q9)) (fun q9 => absurd (one_ne hw_9 c_1).2 (Int32.not_le.mpr q9)))
  · refine lv_bipush (v := (-2)) hx hb d_M_model_15 (by decide) ?_
    exact my_iret (v := (-2)) hx hb hr (rfl) hlocks hQ hK hS (Nat.le_refl _) (Nat.le_refl _) ((0 : Int32)) (rfl) (hP.sub [0, 1, 2] rfl) (hD.sub [0, 1, 2] (by decide) rfl) d_M_model_17
set_option maxHeartbeats 2000000 in
set_option maxRecDepth 100000 in
theorem c_M_modelF (l : Launch) (dC : Nat → ClassId) (dI : Nat → Nat → Nat) (cI cM cO : ClassId) (sz : Nat) (o : Nat) (g : Nat → Nat) (fForm : Int32) (fShift : Int32) (fModels : Int32) (fItems : Int32) (fEnded : Int32) (fLow : Int64) (fRange : Int64) (fCache : Int32) (fPend : Int32) (fGoes : Int32) (fOuts : Int32) (fIns : Int32) (fReads : Int32) (fBad : Int32) (fIR : Int32) (fAsk : Int32) (fBAsk : Int32) (fCode : Int64) (fRL : Int64) (fRR : Int64) (fX : Int64) (fWrites : Int32) (fThrown : Int32) (vMany : Nat → Int32) (vCounts : Nat → Int32) (fm : Nat) (km : Nat) (N : Nat → Nat) (ns : Nat) (hmod : fModels = nI km) (hMD : MD km N vMany vCounts) (hns2 : 2 ≤ ns) (hns : ns ≤ 64) (hk : km = 8) : MetI l y_M_model (Cond.code y_M_model prog_14_method_13_code 4 (some .int) :: gw) ({ frames := 1, cells := 0, slots := 0, locals := 22 } : Room) (dC, dI) vwCl (kT cI cM cO) [.ref o, .int (nI ns)] [(o, .inr (9, mO g fForm fShift fModels fItems fEnded fLow fRange fCache fPend fGoes fOuts fIns fReads fBad fIR fAsk fBAsk fCode fRL fRR fX fWrites fThrown)), ((g 0), .inl (cI, 8, .inl vMany)), ((g 1), .inl (cI, 512, .inl vCounts))] sz (fun (r : Int32) (u : Int32) => r = -4) (fun (u : Int32) => [(o, .inr (9, mO g fForm fShift fModels fItems fEnded fLow fRange fCache fPend fGoes fOuts fIns fReads fBad fIR fAsk fBAsk fCode fRL fRR fX fWrites u)), ((g 0), .inl (cI, 8, .inl vMany)), ((g 1), .inl (cI, 512, .inl vCounts))]) 0 0 := by
  refine my_ofI (cc := prog_14_method_13_code) (n := 4) (ret := (some .int)) (by decide) rfl (Nat.le_of_ble_eq_true rfl) ?_
  intro p e s m args below meth c R Q A ls H locs hx hb hr hts hown hlocks hml hnm hR hQ hA hl hP hK hN hD hS
  have hg : ∀ w ∈ gw, w.before args s = true := fun w h => hts w (List.mem_cons_of_mem _ h)
  have hown : s.vm.findClass "RangeCodersModel" = some m.cls := hown
  have hl : lv_has ls 4 [(0, .ref o), (1, .int (nI ns))] := hl
  refine lv_aload_n hx hb d_M_model_0 rfl (lv_at hl 0 rfl) ?_
  refine lv_iconst (v := 0) hx hb d_M_model_1 (by decide) ?_
  refine va_put (D := (dC, dI)) (ci := 9) (v := .int 0) (ty := .int) (C := "RangeCodersModel") (T := T_M) (N := 35) hx hb hg in_M t_M o_M n_M hown hK hP hD hS 0 rfl rfl 34 (by decide) (hg _ k986) (fun _ h9 => h9) rfl (by decide +kernel) rfl rfl (Nat.le_of_ble_eq_true rfl) d_M_model_2 (fun H locs hP hD hS => ?_)
  have hP : va_P (dC, dI) vwCl [(o, .inr (9, mO g fForm fShift fModels fItems fEnded fLow fRange fCache fPend fGoes fOuts fIns fReads fBad fIR fAsk fBAsk fCode fRL fRR fX fWrites 0)), ((g 0), .inl (cI, 8, .inl vMany)), ((g 1), .inl (cI, 512, .inl vCounts))] H := hP
  have hD : va_D A [(o, .inr (9, mO g fForm fShift fModels fItems fEnded fLow fRange fCache fPend fGoes fOuts fIns fReads fBad fIR fAsk fBAsk fCode fRL fRR fX fWrites 0)), ((g 0), .inl (cI, 8, .inl vMany)), ((g 1), .inl (cI, 512, .inl vCounts))] := hD
  refine lv_iload_n hx hb d_M_model_5 rfl (lv_at hl 1 rfl) ?_
  refine lv_iconst (v := 2) hx hb d_M_model_6 (by decide) ?_
  refine lv_bipush (v := 64) hx hb d_M_model_7 (by decide) ?_
  refine my_ci (wr := [(o, .inr (9, mO g fForm fShift fModels fItems fEnded fLow fRange fCache fPend fGoes fOuts fIns fReads fBad fIR fAsk fBAsk fCode fRL fRR fX fWrites 0)), ((g 0), .inl (cI, 8, .inl vMany)), ((g 1), .inl (cI, 512, .inl vCounts))]) (va_runS (As := [.int (nI ns), .int 2, .int 64]) (rest := []) ⟨hx, hb, hml, hown, hts⟩ (c_M_in l dC dI cI cM cO H.size (nI ns) 2 64) (cwS 3 hts (my_gS k1062 k1063 k12 k1064) rfl rfl rfl (by decide +kernel) ⟨by rw [hR]; exact Nat.le_of_ble_eq_true rfl, by rw [hR]; exact Nat.le_of_ble_eq_true rfl⟩) (my_pre hK hN (hP.sub [] rfl) (hD.sub [] (by decide) rfl)) rfl rfl hl.1 rfl (lv_room (Nat.le_of_ble_eq_true rfl)) d_M_model_9 ⟨by rw [hR]; exact Nat.le_of_ble_eq_true rfl, by rw [hR]; exact Nat.le_of_ble_eq_true rfl⟩) hP hD hS hA [] [0, 1, 2] rfl rfl (by decide) (by decide) (fun r_9 u9 H locs hw_9 hP hD hS => ?_)
  have hw_9 : r_9 = if 2 ≤ (nI ns) ∧ (nI ns) ≤ 64 then 1 else 0 := hw_9
  have hP : va_P (dC, dI) vwCl [(o, .inr (9, mO g fForm fShift fModels fItems fEnded fLow fRange fCache fPend fGoes fOuts fIns fReads fBad fIR fAsk fBAsk fCode fRL fRR fX fWrites 0)), ((g 0), .inl (cI, 8, .inl vMany)), ((g 1), .inl (cI, 512, .inl vCounts))] H := hP
  have hD : va_D A [(o, .inr (9, mO g fForm fShift fModels fItems fEnded fLow fRange fCache fPend fGoes fOuts fIns fReads fBad fIR fAsk fBAsk fCode fRL fRR fX fWrites 0)), ((g 0), .inl (cI, 8, .inl vMany)), ((g 1), .inl (cI, 512, .inl vCounts))] := hD
  refine lv_if_ne (tgt := 18) hx hb d_M_model_12 (by decide) (fun c_1 => ?_) (fun c_1 => ?_)
  · refine lv_aload_n hx hb d_M_model_18 rfl (lv_at hl 0 rfl) ?_
    refine va_get (D := (dC, dI)) (ci := 9) (v := .int fModels) (C := "RangeCodersModel") (T := T_M) (N := 35) hx hb hg in_M hown hK hP 0 rfl rfl 2 (by decide) (hg _ k954) (fun _ h9 => h9) rfl d_M_model_19 ?_
    refine lv_bipush (v := 8) hx hb d_M_model_22 (by decide) ?_
    refine lv_icmp_ne (tgt := 30) hx hb d_M_model_24 (by decide) (fun c_2 => ?_) (fun c_2 => ?_)
    · exact absurd (by rw [hmod, hk]; rfl) c_2
    · refine lv_bipush (v := (-4)) hx hb d_M_model_27 (by decide) ?_
      exact my_iret (v := (-4)) hx hb hr (rfl) hlocks hQ hK hS (Nat.le_refl _) (Nat.le_refl _) ((0 : Int32)) (rfl) (hP.sub [0, 1, 2] rfl) (hD.sub [0, 1, 2] (by decide) rfl) d_M_model_29
  · exact absurd ⟨nI_le (a := 2) hns2 (by omega), nI_le (b := 64) hns (by omega)⟩ (one_eq hw_9 c_1)
set_option maxHeartbeats 2000000 in
set_option maxRecDepth 100000 in
theorem c_M_modelB (l : Launch) (dC : Nat → ClassId) (dI : Nat → Nat → Nat) (cI cM cO : ClassId) (sz : Nat) (o : Nat) (g : Nat → Nat) (fForm : Int32) (fShift : Int32) (fModels : Int32) (fItems : Int32) (fEnded : Int32) (fLow : Int64) (fRange : Int64) (fCache : Int32) (fPend : Int32) (fGoes : Int32) (fOuts : Int32) (fIns : Int32) (fReads : Int32) (fBad : Int32) (fIR : Int32) (fAsk : Int32) (fBAsk : Int32) (fCode : Int64) (fRL : Int64) (fRR : Int64) (fX : Int64) (fWrites : Int32) (fThrown : Int32) (vMany : Nat → Int32) (vCounts : Nat → Int32) (vNow : Nat → Int32) (vThen : Nat → Int32) (fm : Nat) (km : Nat) (N : Nat → Nat) (ns : Nat) (hfm : fm ≤ 4) (hform : fForm = nI fm) (hmod : fModels = nI km) (hMD : MD km N vMany vCounts) (hns2 : 2 ≤ ns) (hns : ns ≤ 64) (hk : km < 8) (hT : TB fm km N vNow) (hU : TB fm km N vThen) : MetI l y_M_model (Cond.code y_M_model prog_14_method_13_code 4 (some .int) :: gw) ({ frames := 3, cells := 0, slots := 0, locals := 75 } : Room) (dC, dI) vwCl (kT cI cM cO) [.ref o, .int (nI ns)] [(o, .inr (9, mO g fForm fShift fModels fItems fEnded fLow fRange fCache fPend fGoes fOuts fIns fReads fBad fIR fAsk fBAsk fCode fRL fRR fX fWrites fThrown)), ((g 0), .inl (cI, 8, .inl vMany)), ((g 1), .inl (cI, 512, .inl vCounts)), ((g 2), .inl (cI, 512, .inl vNow)), ((g 3), .inl (cI, 512, .inl vThen))] sz (fun (r : Int32) (u : Int32 × Int32 × (Nat → Int32) × (Nat → Int32) × (Nat → Int32) × (Nat → Int32)) => r = nI km ∧ MD (km + 1) (upN N km ns) u.2.2.1 u.2.2.2.1 ∧ TB fm (km + 1) (upN N km ns) u.2.2.2.2.1 ∧ TB fm (km + 1) (upN N km ns) u.2.2.2.2.2 ∧ u.1 = nI (km + 1) ∧ sgO u.2.2.2.2.1 vNow (64 * km) 64) (fun (u : Int32 × Int32 × (Nat → Int32) × (Nat → Int32) × (Nat → Int32) × (Nat → Int32)) => [(o, .inr (9, mO g fForm fShift u.1 fItems fEnded fLow fRange fCache fPend fGoes fOuts fIns fReads fBad fIR fAsk fBAsk fCode fRL fRR fX fWrites u.2.1)), ((g 0), .inl (cI, 8, .inl u.2.2.1)), ((g 1), .inl (cI, 512, .inl u.2.2.2.1)), ((g 2), .inl (cI, 512, .inl u.2.2.2.2.1)), ((g 3), .inl (cI, 512, .inl u.2.2.2.2.2))]) 0 0 := by
  refine my_ofI (cc := prog_14_method_13_code) (n := 4) (ret := (some .int)) (by decide) rfl (Nat.le_of_ble_eq_true rfl) ?_
  intro p e s m args below meth c R Q A ls H locs hx hb hr hts hown hlocks hml hnm hR hQ hA hl hP hK hN hD hS
  have hg : ∀ w ∈ gw, w.before args s = true := fun w h => hts w (List.mem_cons_of_mem _ h)
  have hown : s.vm.findClass "RangeCodersModel" = some m.cls := hown
  have hl : lv_has ls 4 [(0, .ref o), (1, .int (nI ns))] := hl
  subst hmod
  have hP : va_P (dC, dI) vwCl [(o, .inr (9, mO g fForm fShift (nI km) fItems fEnded fLow fRange fCache fPend fGoes fOuts fIns fReads fBad fIR fAsk fBAsk fCode fRL fRR fX fWrites fThrown)), ((g 0), .inl (cI, 8, .inl vMany)), ((g 1), .inl (cI, 512, .inl vCounts)), ((g 2), .inl (cI, 512, .inl vNow)), ((g 3), .inl (cI, 512, .inl vThen))] H := hP
  have hD : va_D A [(o, .inr (9, mO g fForm fShift (nI km) fItems fEnded fLow fRange fCache fPend fGoes fOuts fIns fReads fBad fIR fAsk fBAsk fCode fRL fRR fX fWrites fThrown)), ((g 0), .inl (cI, 8, .inl vMany)), ((g 1), .inl (cI, 512, .inl vCounts)), ((g 2), .inl (cI, 512, .inl vNow)), ((g 3), .inl (cI, 512, .inl vThen))] := hD
  have hl : lv_has ls 4 [(0, .ref o), (1, .int (nI ns))] := hl
  refine lv_aload_n hx hb d_M_model_0 rfl (lv_at hl 0 rfl) ?_
  refine lv_iconst (v := 0) hx hb d_M_model_1 (by decide) ?_
  refine va_put (D := (dC, dI)) (ci := 9) (v := .int 0) (ty := .int) (C := "RangeCodersModel") (T := T_M) (N := 35) hx hb hg in_M t_M o_M n_M hown hK hP hD hS 0 rfl rfl 34 (by decide) (hg _ k986) (fun _ h9 => h9) rfl (by decide +kernel) rfl rfl (Nat.le_of_ble_eq_true rfl) d_M_model_2 (fun H locs hP hD hS => ?_)
  have hP : va_P (dC, dI) vwCl [(o, .inr (9, mO g fForm fShift (nI km) fItems fEnded fLow fRange fCache fPend fGoes fOuts fIns fReads fBad fIR fAsk fBAsk fCode fRL fRR fX fWrites 0)), ((g 0), .inl (cI, 8, .inl vMany)), ((g 1), .inl (cI, 512, .inl vCounts)), ((g 2), .inl (cI, 512, .inl vNow)), ((g 3), .inl (cI, 512, .inl vThen))] H := hP
  have hD : va_D A [(o, .inr (9, mO g fForm fShift (nI km) fItems fEnded fLow fRange fCache fPend fGoes fOuts fIns fReads fBad fIR fAsk fBAsk fCode fRL fRR fX fWrites 0)), ((g 0), .inl (cI, 8, .inl vMany)), ((g 1), .inl (cI, 512, .inl vCounts)), ((g 2), .inl (cI, 512, .inl vNow)), ((g 3), .inl (cI, 512, .inl vThen))] := hD
  refine lv_iload_n hx hb d_M_model_5 rfl (lv_at hl 1 rfl) ?_
  refine lv_iconst (v := 2) hx hb d_M_model_6 (by decide) ?_
  refine lv_bipush (v := 64) hx hb d_M_model_7 (by decide) ?_
  refine my_ci (wr := [(o, .inr (9, mO g fForm fShift (nI km) fItems fEnded fLow fRange fCache fPend fGoes fOuts fIns fReads fBad fIR fAsk fBAsk fCode fRL fRR fX fWrites 0)), ((g 0), .inl (cI, 8, .inl vMany)), ((g 1), .inl (cI, 512, .inl vCounts)), ((g 2), .inl (cI, 512, .inl vNow)), ((g 3), .inl (cI, 512, .inl vThen))]) (va_runS (As := [.int (nI ns), .int 2, .int 64]) (rest := []) ⟨hx, hb, hml, hown, hts⟩ (c_M_in l dC dI cI cM cO H.size (nI ns) 2 64) (cwS 3 hts (my_gS k1062 k1063 k12 k1064) rfl rfl rfl (by decide +kernel) ⟨by rw [hR]; exact Nat.le_of_ble_eq_true rfl, by rw [hR]; exact Nat.le_of_ble_eq_true rfl⟩) (my_pre hK hN (hP.sub [] rfl) (hD.sub [] (by decide) rfl)) rfl rfl hl.1 rfl (lv_room (Nat.le_of_ble_eq_true rfl)) d_M_model_9 ⟨by rw [hR]; exact Nat.le_of_ble_eq_true rfl, by rw [hR]; exact Nat.le_of_ble_eq_true rfl⟩) hP hD hS hA [] [0, 1, 2, 3, 4] rfl rfl (by decide) (by decide) (fun r_9 u9 H locs hw_9 hP hD hS => ?_)
  have hw_9 : r_9 = if 2 ≤ (nI ns) ∧ (nI ns) ≤ 64 then 1 else 0 := hw_9
  have hP : va_P (dC, dI) vwCl [(o, .inr (9, mO g fForm fShift (nI km) fItems fEnded fLow fRange fCache fPend fGoes fOuts fIns fReads fBad fIR fAsk fBAsk fCode fRL fRR fX fWrites 0)), ((g 0), .inl (cI, 8, .inl vMany)), ((g 1), .inl (cI, 512, .inl vCounts)), ((g 2), .inl (cI, 512, .inl vNow)), ((g 3), .inl (cI, 512, .inl vThen))] H := hP
  have hD : va_D A [(o, .inr (9, mO g fForm fShift (nI km) fItems fEnded fLow fRange fCache fPend fGoes fOuts fIns fReads fBad fIR fAsk fBAsk fCode fRL fRR fX fWrites 0)), ((g 0), .inl (cI, 8, .inl vMany)), ((g 1), .inl (cI, 512, .inl vCounts)), ((g 2), .inl (cI, 512, .inl vNow)), ((g 3), .inl (cI, 512, .inl vThen))] := hD
  refine lv_if_ne (tgt := 18) hx hb d_M_model_12 (by decide) (fun c_1 => ?_) (fun c_1 => ?_)
  · refine lv_aload_n hx hb d_M_model_18 rfl (lv_at hl 0 rfl) ?_
    refine va_get (D := (dC, dI)) (ci := 9) (v := .int (nI km)) (C := "RangeCodersModel") (T := T_M) (N := 35) hx hb hg in_M hown hK hP 0 rfl rfl 2 (by decide) (hg _ k954) (fun _ h9 => h9) rfl d_M_model_19 ?_
    refine lv_bipush (v := 8) hx hb d_M_model_22 (by decide) ?_
    refine lv_icmp_ne (tgt := 30) hx hb d_M_model_24 (by decide) (fun c_2 => ?_) (fun c_2 => ?_)
    · refine lv_aload_n hx hb d_M_model_30 rfl (lv_at hl 0 rfl) ?_
      refine va_get (D := (dC, dI)) (ci := 9) (v := .int (nI km)) (C := "RangeCodersModel") (T := T_M) (N := 35) hx hb hg in_M hown hK hP 0 rfl rfl 2 (by decide) (hg _ k954) (fun _ h9 => h9) rfl d_M_model_31 ?_
      refine lv_istore_n (lv' := [(2, .int (nI km)), (0, .ref o), (1, .int (nI ns))]) hx hb d_M_model_34 rfl hl (by decide) rfl (fun ls hl => ?_)
      refine lv_aload_n hx hb d_M_model_35 rfl (lv_at hl 1 rfl) ?_
      refine lv_dup hx hb d_M_model_36 rfl ?_
      refine va_get (D := (dC, dI)) (ci := 9) (v := .int (nI km)) (C := "RangeCodersModel") (T := T_M) (N := 35) hx hb hg in_M hown hK hP 0 rfl rfl 2 (by decide) (hg _ k954) (fun _ h9 => h9) rfl d_M_model_37 ?_
      refine lv_iconst (v := 1) hx hb d_M_model_40 (by decide) ?_
      refine lv_iadd hx hb d_M_model_41 ?_
      refine lv_topi (fun v_3 ev_3 => ?_)
      have z9 : v_3 = nI (km + 1) := by rw [ev_3]; exact nI_1 _
      subst z9
      refine va_put (D := (dC, dI)) (ci := 9) (v := .int (nI (km + 1))) (ty := .int) (C := "RangeCodersModel") (T := T_M) (N := 35) hx hb hg in_M t_M o_M n_M hown hK hP hD hS 0 rfl rfl 2 (by decide) (hg _ k954) (fun _ h9 => h9) rfl (by decide +kernel) rfl rfl (Nat.le_of_ble_eq_true rfl) d_M_model_42 (fun H locs hP hD hS => ?_)
      have hP : va_P (dC, dI) vwCl [(o, .inr (9, mO g fForm fShift (nI (km + 1)) fItems fEnded fLow fRange fCache fPend fGoes fOuts fIns fReads fBad fIR fAsk fBAsk fCode fRL fRR fX fWrites 0)), ((g 0), .inl (cI, 8, .inl vMany)), ((g 1), .inl (cI, 512, .inl vCounts)), ((g 2), .inl (cI, 512, .inl vNow)), ((g 3), .inl (cI, 512, .inl vThen))] H := hP
      have hD : va_D A [(o, .inr (9, mO g fForm fShift (nI (km + 1)) fItems fEnded fLow fRange fCache fPend fGoes fOuts fIns fReads fBad fIR fAsk fBAsk fCode fRL fRR fX fWrites 0)), ((g 0), .inl (cI, 8, .inl vMany)), ((g 1), .inl (cI, 512, .inl vCounts)), ((g 2), .inl (cI, 512, .inl vNow)), ((g 3), .inl (cI, 512, .inl vThen))] := hD
      refine lv_aload_n hx hb d_M_model_45 rfl (lv_at hl 1 rfl) ?_
      refine va_get (D := (dC, dI)) (ci := 9) (v := .ref (g 0)) (C := "RangeCodersModel") (T := T_M) (N := 35) hx hb hg in_M hown hK hP 0 rfl rfl 3 (by decide) (hg _ k955) (fun _ h9 => h9) rfl d_M_model_46 ?_
      refine lv_iload_n hx hb d_M_model_49 rfl (lv_at hl 0 rfl) ?_
      refine lv_iload_n hx hb d_M_model_50 rfl (lv_at hl 2 rfl) ?_
      refine va_iast hx hb hK hP hD hS 1 0 rfl rfl (vp_in_nI hk (by decide)) d_M_model_51 (fun H locs hP hD hS => ?_)
      have hP : va_P (dC, dI) vwCl [(o, .inr (9, mO g fForm fShift (nI (km + 1)) fItems fEnded fLow fRange fCache fPend fGoes fOuts fIns fReads fBad fIR fAsk fBAsk fCode fRL fRR fX fWrites 0)), ((g 0), .inl (cI, 8, .inl (upd vMany (nI km).toNatClampNeg (nI ns)))), ((g 1), .inl (cI, 512, .inl vCounts)), ((g 2), .inl (cI, 512, .inl vNow)), ((g 3), .inl (cI, 512, .inl vThen))] H := hP
      have hD : va_D A [(o, .inr (9, mO g fForm fShift (nI (km + 1)) fItems fEnded fLow fRange fCache fPend fGoes fOuts fIns fReads fBad fIR fAsk fBAsk fCode fRL fRR fX fWrites 0)), ((g 0), .inl (cI, 8, .inl (upd vMany (nI km).toNatClampNeg (nI ns)))), ((g 1), .inl (cI, 512, .inl vCounts)), ((g 2), .inl (cI, 512, .inl vNow)), ((g 3), .inl (cI, 512, .inl vThen))] := hD
      rw [nI_clamp (show km < 2 ^ 31 by omega)] at hP hD
      refine lv_iconst (v := 0) hx hb d_M_model_52 (by decide) ?_
      refine lv_istore_n (lv' := [(3, .int 0), (2, .int (nI km)), (0, .ref o), (1, .int (nI ns))]) hx hb d_M_model_53 rfl hl (by decide) rfl (fun ls hl => ?_)
      have J_54 : ∀ (n9_54 : Nat) (kk : Nat) (fC : Nat → Int32) (hn9_54 : ns - kk = n9_54) (hkk : kk ≤ ns) (hM9 : sgM fC vCounts (64 * km) 64 kk (fun _ => 1)) (H : Heap) (locs : List Loc) (ls : Array Slot), va_P (dC, dI) vwCl [(o, .inr (9, mO g fForm fShift (nI (km + 1)) fItems fEnded fLow fRange fCache fPend fGoes fOuts fIns fReads fBad fIR fAsk fBAsk fCode fRL fRR fX fWrites 0)), ((g 0), .inl (cI, 8, .inl (upd vMany km (nI ns)))), ((g 1), .inl (cI, 512, .inl fC)), ((g 2), .inl (cI, 512, .inl vNow)), ((g 3), .inl (cI, 512, .inl vThen))] H → va_D A [(o, .inr (9, mO g fForm fShift (nI (km + 1)) fItems fEnded fLow fRange fCache fPend fGoes fOuts fIns fReads fBad fIR fAsk fBAsk fCode fRL fRR fX fWrites 0)), ((g 0), .inl (cI, 8, .inl (upd vMany km (nI ns)))), ((g 1), .inl (cI, 512, .inl fC)), ((g 2), .inl (cI, 512, .inl vNow)), ((g 3), .inl (cI, 512, .inl vThen))] → va_S A s.heap H locs → lv_has ls 4 [(3, .int (nI kk)), (2, .int (nI km)), (0, .ref o), (1, .int (nI ns))] → W p l e R s m args below meth c H locs 0 0 Q (F0 m 54 ls []) := by
        intro n9_54
        induction n9_54 using Nat.strongRecOn with
        | ind n9_54 ih9_54 =>
          intro kk fC hn9_54 hkk hM9 H locs ls hP hD hS hl
          refine lv_iload_n hx hb d_M_model_54 rfl (lv_at hl 0 rfl) ?_
          refine lv_iload_n hx hb d_M_model_55 rfl (lv_at hl 3 rfl) ?_
          refine lv_icmp_ge (tgt := 77) hx hb d_M_model_56 (by decide) (fun c_4 => ?_) (fun c_4 => ?_)
          · have hkn : kk = ns := by have := (nI_cmp (a := ns) (b := kk) (by omega) (by omega)).mp c_4; omega
            subst hkn
            have hmn : upd vMany km (nI kk) km = nI kk := pk_us
            have hb1 : bd (fun _ => 1) kk 4095 := fun _ _ => (by decide : 1 ≤ 4095)
            refine lv_aload_n hx hb d_M_model_77 rfl (lv_at hl 2 rfl) ?_
            refine lv_aload_n hx hb d_M_model_78 rfl (lv_at hl 2 rfl) ?_
            refine va_get (D := (dC, dI)) (ci := 9) (v := .ref (g 2)) (C := "RangeCodersModel") (T := T_M) (N := 35) hx hb hg in_M hown hK hP 0 rfl rfl 5 (by decide) (hg _ k957) (fun _ h9 => h9) rfl d_M_model_79 ?_
            refine lv_iload_n hx hb d_M_model_82 rfl (lv_at hl 1 rfl) ?_
            refine my_cv (wr := [((g 3), .inl (cI, 512, .inl vThen))]) (va_runV (As := [.ref (g 2), .int (nI km)]) (rest := []) ⟨hx, hb, hml, hown, hts⟩ (c_M_prepare l dC dI cI cM cO H.size o g fForm fShift (nI (km + 1)) fItems fEnded fLow fRange fCache fPend fGoes fOuts fIns fReads fBad fIR fAsk fBAsk fCode fRL fRR fX fWrites 0 (upd vMany km (nI kk)) fC (g 2) vNow km kk fm (fun _ => 1) (by omega) (hmn) (by omega) (by omega) (hfm) (hform) (hM9.1) (hb1)) (cwV 2 hts (my_gV k928 k930 ks19 k12 k931) rfl rfl rfl (by decide +kernel) ⟨by rw [hR]; exact Nat.le_of_ble_eq_true rfl, by rw [hR]; exact Nat.le_of_ble_eq_true rfl⟩) (my_preV hK hN (hP.sub [0, 1, 2, 3] rfl) (hD.sub [0, 1, 2, 3] (by decide) rfl) 0 rfl rfl) rfl rfl hl.1 rfl (lv_room (Nat.le_of_ble_eq_true rfl)) d_M_model_83 ⟨by rw [hR]; exact Nat.le_of_ble_eq_true rfl, by rw [hR]; exact Nat.le_of_ble_eq_true rfl⟩) hP hD hS hA [0, 1, 2, 3] [4] rfl rfl (by decide) (by decide) (fun u9 H locs hw_83 hP hD hS => ?_)
            obtain ⟨f2_83, rfl⟩ : ∃ z, z = u9 := ⟨_, rfl⟩
            have hw_83 : sgI f2_83 (64 * km) (pfN fm kk) (pf fm kk (fun _ => 1)) ∧ sgO f2_83 vNow (64 * km) 64 := hw_83
            have hP : va_P (dC, dI) vwCl [((g 3), .inl (cI, 512, .inl vThen)), (o, .inr (9, mO g fForm fShift (nI (km + 1)) fItems fEnded fLow fRange fCache fPend fGoes fOuts fIns fReads fBad fIR fAsk fBAsk fCode fRL fRR fX fWrites 0)), ((g 0), .inl (cI, 8, .inl (upd vMany km (nI kk)))), ((g 1), .inl (cI, 512, .inl fC)), ((g 2), .inl (cI, 512, .inl f2_83))] H := hP
            have hD : va_D A [((g 3), .inl (cI, 512, .inl vThen)), (o, .inr (9, mO g fForm fShift (nI (km + 1)) fItems fEnded fLow fRange fCache fPend fGoes fOuts fIns fReads fBad fIR fAsk fBAsk fCode fRL fRR fX fWrites 0)), ((g 0), .inl (cI, 8, .inl (upd vMany km (nI kk)))), ((g 1), .inl (cI, 512, .inl fC)), ((g 2), .inl (cI, 512, .inl f2_83))] := hD
            refine lv_aload_n hx hb d_M_model_86 rfl (lv_at hl 2 rfl) ?_
            refine lv_aload_n hx hb d_M_model_87 rfl (lv_at hl 2 rfl) ?_
            refine va_get (D := (dC, dI)) (ci := 9) (v := .ref (g 3)) (C := "RangeCodersModel") (T := T_M) (N := 35) hx hb hg in_M hown hK hP 1 rfl rfl 6 (by decide) (hg _ k958) (fun _ h9 => h9) rfl d_M_model_88 ?_
            refine lv_iload_n hx hb d_M_model_91 rfl (lv_at hl 1 rfl) ?_
            refine my_cv (wr := [((g 2), .inl (cI, 512, .inl f2_83))]) (va_runV (As := [.ref (g 3), .int (nI km)]) (rest := []) ⟨hx, hb, hml, hown, hts⟩ (c_M_prepare l dC dI cI cM cO H.size o g fForm fShift (nI (km + 1)) fItems fEnded fLow fRange fCache fPend fGoes fOuts fIns fReads fBad fIR fAsk fBAsk fCode fRL fRR fX fWrites 0 (upd vMany km (nI kk)) fC (g 3) vThen km kk fm (fun _ => 1) (by omega) (hmn) (by omega) (by omega) (hfm) (hform) (hM9.1) (hb1)) (cwV 2 hts (my_gV k928 k930 ks19 k12 k931) rfl rfl rfl (by decide +kernel) ⟨by rw [hR]; exact Nat.le_of_ble_eq_true rfl, by rw [hR]; exact Nat.le_of_ble_eq_true rfl⟩) (my_preV hK hN (hP.sub [1, 2, 3, 0] rfl) (hD.sub [1, 2, 3, 0] (by decide) rfl) 0 rfl rfl) rfl rfl hl.1 rfl (lv_room (Nat.le_of_ble_eq_true rfl)) d_M_model_92 ⟨by rw [hR]; exact Nat.le_of_ble_eq_true rfl, by rw [hR]; exact Nat.le_of_ble_eq_true rfl⟩) hP hD hS hA [1, 2, 3, 0] [4] rfl rfl (by decide) (by decide) (fun u9 H locs hw_92 hP hD hS => ?_)
            obtain ⟨f2_92, rfl⟩ : ∃ z, z = u9 := ⟨_, rfl⟩
            have hw_92 : sgI f2_92 (64 * km) (pfN fm kk) (pf fm kk (fun _ => 1)) ∧ sgO f2_92 vThen (64 * km) 64 := hw_92
            have hP : va_P (dC, dI) vwCl [((g 2), .inl (cI, 512, .inl f2_83)), (o, .inr (9, mO g fForm fShift (nI (km + 1)) fItems fEnded fLow fRange fCache fPend fGoes fOuts fIns fReads fBad fIR fAsk fBAsk fCode fRL fRR fX fWrites 0)), ((g 0), .inl (cI, 8, .inl (upd vMany km (nI kk)))), ((g 1), .inl (cI, 512, .inl fC)), ((g 3), .inl (cI, 512, .inl f2_92))] H := hP
            have hD : va_D A [((g 2), .inl (cI, 512, .inl f2_83)), (o, .inr (9, mO g fForm fShift (nI (km + 1)) fItems fEnded fLow fRange fCache fPend fGoes fOuts fIns fReads fBad fIR fAsk fBAsk fCode fRL fRR fX fWrites 0)), ((g 0), .inl (cI, 8, .inl (upd vMany km (nI kk)))), ((g 1), .inl (cI, 512, .inl fC)), ((g 3), .inl (cI, 512, .inl f2_92))] := hD
            refine lv_iload_n hx hb d_M_model_95 rfl (lv_at hl 1 rfl) ?_
            exact my_iret (v := (nI km)) hx hb hr (rfl) hlocks hQ hK hS (Nat.le_refl _) (Nat.le_refl _) ((nI (km + 1)), (0 : Int32), (upd vMany km (nI kk)), fC, f2_83, f2_92) (⟨rfl, MD_new hMD hk (by omega) (by omega) hM9.2 hM9.1 hb1, TB_new hT (MD_N hMD) hw_83.2 (tab_pf hfm (by omega) (by omega) hb1 hw_83.1), TB_new hU (MD_N hMD) hw_92.2 (tab_pf hfm (by omega) (by omega) hb1 hw_92.1), rfl, hw_83.2⟩) (hP.sub [1, 2, 3, 0, 4] rfl) (hD.sub [1, 2, 3, 0, 4] (by decide) rfl) d_M_model_96
          · have hkl : kk < ns := by
              rcases Nat.lt_or_ge kk ns with z | z
              · exact z
              · exact absurd (nI_le z (by omega)) c_4
            refine lv_aload_n hx hb d_M_model_59 rfl (lv_at hl 2 rfl) ?_
            refine va_get (D := (dC, dI)) (ci := 9) (v := .ref (g 1)) (C := "RangeCodersModel") (T := T_M) (N := 35) hx hb hg in_M hown hK hP 0 rfl rfl 4 (by decide) (hg _ k956) (fun _ h9 => h9) rfl d_M_model_60 ?_
            refine lv_bipush (v := 64) hx hb d_M_model_63 (by decide) ?_
            refine lv_iload_n hx hb d_M_model_65 rfl (lv_at hl 1 rfl) ?_
            refine lv_imul hx hb d_M_model_66 ?_
            refine lv_topi (fun v_5 ev_5 => ?_)
            refine lv_iload_n hx hb d_M_model_67 rfl (lv_at hl 0 rfl) ?_
            refine lv_iadd hx hb d_M_model_68 ?_
            refine lv_topi (fun v_6 ev_6 => ?_)
            have hix : v_6 = nI (64 * km + kk) := by rw [ev_6, ev_5]; exact ix64
            refine lv_iconst (v := 1) hx hb d_M_model_69 (by decide) ?_
            refine va_iast hx hb hK hP hD hS 2 0 rfl rfl (by rw [hix]; exact vp_in_nI (by omega) (by decide)) d_M_model_70 (fun H locs hP hD hS => ?_)
            have hP : va_P (dC, dI) vwCl [(o, .inr (9, mO g fForm fShift (nI (km + 1)) fItems fEnded fLow fRange fCache fPend fGoes fOuts fIns fReads fBad fIR fAsk fBAsk fCode fRL fRR fX fWrites 0)), ((g 0), .inl (cI, 8, .inl (upd vMany km (nI ns)))), ((g 1), .inl (cI, 512, .inl (upd fC v_6.toNatClampNeg 1))), ((g 2), .inl (cI, 512, .inl vNow)), ((g 3), .inl (cI, 512, .inl vThen))] H := hP
            have hD : va_D A [(o, .inr (9, mO g fForm fShift (nI (km + 1)) fItems fEnded fLow fRange fCache fPend fGoes fOuts fIns fReads fBad fIR fAsk fBAsk fCode fRL fRR fX fWrites 0)), ((g 0), .inl (cI, 8, .inl (upd vMany km (nI ns)))), ((g 1), .inl (cI, 512, .inl (upd fC v_6.toNatClampNeg 1))), ((g 2), .inl (cI, 512, .inl vNow)), ((g 3), .inl (cI, 512, .inl vThen))] := hD
            have hM8 : sgM (upd fC v_6.toNatClampNeg 1) vCounts (64 * km) 64 (kk + 1) (fun _ => 1) := sgM_st hM9 (by omega) (by rw [hix]; exact nI_clamp (by omega)) rfl
            obtain ⟨v_7, ev_7⟩ : ∃ y : Int32, y = (nI kk) + (1) := ⟨_, rfl⟩
            refine lv_iinc (v := v_7) (lv' := [(3, .int v_7), (2, .int (nI km)), (0, .ref o), (1, .int (nI ns))]) hx hb d_M_model_71 hl (k := 0) rfl (by rw [ev_7]; rfl) (by decide) rfl (fun ls hl => ?_)
            have z9 : v_7 = nI (kk + 1) := by rw [ev_7]; exact nI_1 _
            subst z9
            refine lv_goto (tgt := 54) hx hb d_M_model_74 (by decide) ?_
            exact ih9_54 _ (by first | omega | (omega)) (kk + 1) (upd fC v_6.toNatClampNeg 1) rfl (by omega) (hM8) H locs ls (hP.sub [0, 1, 2, 3, 4] rfl) (hD.sub [0, 1, 2, 3, 4] (by decide) rfl) hS (lv_sub hl [0, 1, 2, 3] rfl)
      exact J_54 _ (0 : Nat) vCounts rfl (Nat.zero_le _) (sgM_0 _ _ _ _) H locs ls (hP.sub [0, 1, 2, 3, 4] rfl) (hD.sub [0, 1, 2, 3, 4] (by decide) rfl) hS (lv_sub hl [0, 1, 2, 3] rfl)
    · exact absurd (nI_inj (a := km) (b := 8) (by omega) (by decide) c_2) (by omega)
  · exact absurd ⟨nI_le (a := 2) hns2 (by omega), nI_le (b := 64) hns (by omega)⟩ (one_eq hw_9 c_1)
