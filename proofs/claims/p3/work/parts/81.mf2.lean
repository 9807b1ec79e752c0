set_option maxHeartbeats 2000000 in
set_option maxRecDepth 100000 in
theorem c_M_modelA (l : Launch) (dC : Nat → ClassId) (dI : Nat → Nat → Nat) (cI cM cO : ClassId) (sz : Nat) (o : Nat) (g : Nat → Nat) (fForm : Int32) (fShift : Int32) (fModels : Int32) (fItems : Int32) (fEnded : Int32) (fLow : Int64) (fRange : Int64) (fCache : Int32) (fPend : Int32) (fGoes : Int32) (fOuts : Int32) (fIns : Int32) (fReads : Int32) (fBad : Int32) (fIR : Int32) (fAsk : Int32) (fBAsk : Int32) (fCode : Int64) (fRL : Int64) (fRR : Int64) (fX : Int64) (fWrites : Int32) (fThrown : Int32) (vMany : Nat → Int32) (vCounts : Nat → Int32) (fm : Nat) (km : Nat) (N : Nat → Nat) (p1 : Int32) (hmod : fModels = nI km) (hMD : MD km N vMany vCounts) (hrf : p1 < 2 ∨ 64 < p1) : MetI l y_M_model (Cond.code y_M_model prog_14_method_13_code 4 (some .int) :: gw) ({ frames := 1, cells := 0, slots := 0, locals := 22 } : Room) (dC, dI) vwCl (kT cI cM cO) [.ref o, .int p1] [(o, .inr (9, mO g fForm fShift fModels fItems fEnded fLow fRange fCache fPend fGoes fOuts fIns fReads fBad fIR fAsk fBAsk fCode fRL fRR fX fWrites fThrown)), ((g 0), .inl (cI, 8, .inl vMany)), ((g 1), .inl (cI, 512, .inl vCounts))] sz (fun (r : Int32) (u : Int32) => r = -2) (fun (u : Int32) => [(o, .inr (9, mO g fForm fShift fModels fItems fEnded fLow fRange fCache fPend fGoes fOuts fIns fReads fBad fIR fAsk fBAsk fCode fRL fRR fX fWrites u)), ((g 0), .inl (cI, 8, .inl vMany)), ((g 1), .inl (cI, 512, .inl vCounts))]) 0 0 := by
  refine my_ofI (cc := prog_14_method_13_code) (n := 4) (ret := (some .int)) (by decide) rfl (Nat.le_of_ble_eq_true rfl) ?_
  intro p e s m args below meth c R Q A ls H locs hx hb hr hts hown hlocks hml hnm hR hQ hA hl hP hK hN hD hS
  have hg : ∀ w ∈ gw, w.before args s = true := fun w h => hts w (List.mem_cons_of_mem _ h)
  have hown : s.vm.findClass "RangeCodersModel" = some m.cls := hown
  have hl : lv_has ls 4 [(0, .ref o), (1, .int p1)] := hl
  refine lv_aload_n hx hb d_M_model_0 rfl (lv_at hl 0 rfl) ?_
  refine lv_iconst (v := 0) hx hb d_M_model_1 (by decide) ?_
  refine va_put (D := (dC, dI)) (ci := 9) (v := .int 0) (ty := .int) (C := "RangeCodersModel") (T := T_M) (N := 35) hx hb hg in_M t_M o_M n_M hown hK hP hD hS 0 rfl rfl 34 (by decide) (hg _ k986) (fun _ h9 => h9) rfl (by decide +kernel) rfl rfl (Nat.le_of_ble_eq_true rfl) d_M_model_2 (fun H locs hP hD hS => ?_)
  have hP : va_P (dC, dI) vwCl [(o, .inr (9, mO g fForm fShift fModels fItems fEnded fLow fRange fCache fPend fGoes fOuts fIns fReads fBad fIR fAsk fBAsk fCode fRL fRR fX fWrites 0)), ((g 0), .inl (cI, 8, .inl vMany)), ((g 1), .inl (cI, 512, .inl vCounts))] H := hP
  have hD : va_D A [(o, .inr (9, mO g fForm fShift fModels fItems fEnded fLow fRange fCache fPend fGoes fOuts fIns fReads fBad fIR fAsk fBAsk fCode fRL fRR fX fWrites 0)), ((g 0), .inl (cI, 8, .inl vMany)), ((g 1), .inl (cI, 512, .inl vCounts))] := hD
  refine lv_iload_n hx hb d_M_model_5 rfl (lv_at hl 1 rfl) ?_
  refine lv_iconst (v := 2) hx hb d_M_model_6 (by decide) ?_
  refine lv_bipush (v := 64) hx hb d_M_model_7 (by decide) ?_
  refine my_ci (wr := [(o, .inr (9, mO g fForm fShift fModels fItems fEnded fLow fRange fCache fPend fGoes fOuts fIns fReads fBad fIR fAsk fBAsk fCode fRL fRR fX fWrites 0)), ((g 0), .inl (cI, 8, .inl vMany)), ((g 1), .inl (cI, 512, .inl vCounts))]) (va_runS (As := [.int p1, .int 2, .int 64]) (rest := []) ⟨hx, hb, hml, hown, hts⟩ (c_M_in l dC dI cI cM cO H.size p1 2 64) (cwS 3 hts (my_gS k1062 k1063 k12 k1064) rfl rfl rfl (by decide +kernel) ⟨by rw [hR]; exact Nat.le_of_ble_eq_true rfl, by rw [hR]; exact Nat.le_of_ble_eq_true rfl⟩) (my_pre hK hN (hP.sub [] rfl) (hD.sub [] (by decide) rfl)) rfl rfl hl.1 rfl (lv_room (Nat.le_of_ble_eq_true rfl)) d_M_model_9 ⟨by rw [hR]; exact Nat.le_of_ble_eq_true rfl, by rw [hR]; exact Nat.le_of_ble_eq_true rfl⟩) hP hD hS hA [] [0, 1, 2] rfl rfl (by decide) (by decide) (fun r_9 u9 H locs hw_9 hP hD hS => ?_)
  have hw_9 : r_9 = if 2 ≤ p1 ∧ p1 ≤ 64 then 1 else 0 := hw_9
  have hP : va_P (dC, dI) vwCl [(o, .inr (9, mO g fForm fShift fModels fItems fEnded fLow fRange fCache fPend fGoes fOuts fIns fReads fBad fIR fAsk fBAsk fCode fRL fRR fX fWrites 0)), ((g 0), .inl (cI, 8, .inl vMany)), ((g 1), .inl (cI, 512, .inl vCounts))] H := hP
  have hD : va_D A [(o, .inr (9, mO g fForm fShift fModels fItems fEnded fLow fRange fCache fPend fGoes fOuts fIns fReads fBad fIR fAsk fBAsk fCode fRL fRR fX fWrites 0)), ((g 0), .inl (cI, 8, .inl vMany)), ((g 1), .inl (cI, 512, .inl vCounts))] := hD
  refine lv_if_ne (tgt := 18) hx hb d_M_model_12 (by decide) (fun c_1 => ?_) (fun c_1 => ?_)
  · exact absurd hrf (fun h9 => h9.elim (fun q9 => absurd (one_ne hw_9 c_1).1 (Int32.not_le.mpr q9)) (fun q9 => absurd (one_ne hw_9 c_1).2 (Int32.not_le.mpr q9)))
  · refine lv_bipush (v := (-2)) hx hb d_M_model_15 (by decide) ?_
    exact my_iret (v := (-2)) hx hb hr (rfl) hlocks hQ hK hS (Nat.le_refl _) (Nat.le_refl _) ((0 : Int32)) (rfl) (hP.sub [0, 1, 2] rfl) (hD.sub [0, 1, 2] (by decide) rfl) d_M_model_17
set_option maxHeartbeats 2000000 in
set_option maxRecDepth 100000 in
theorem c_M_modelF (l : Launch) (dC : Nat → ClassId) (dI : Nat → Nat → Nat) (cI cM cO : ClassId) (sz : Nat) (o : Nat) (g : Nat → Nat) (fForm : Int32) (fShift : Int32) (fModels : Int32) (fItems : Int32) (fEnded : Int32) (fLow : Int64) (fRange : Int64) (fCache : Int32) (fPend : Int32) (fGoes : Int32) (fOuts : Int32) (fIns : Int32) (fReads : Int32) (fBad : Int32) (fIR : Int32) (fAsk : Int32) (fBAsk : Int32) (fCode : Int64) (fRL : Int64) (fRR : Int64) (fX : Int64) (fWrites : Int32) (fThrown : Int32) (vMany : Nat → Int32) (vCounts : Nat → Int32) (fm : Nat) (km : Nat) (N : Nat → Nat) (ns : Nat) (hmod : fModels = nI km) (hMD : MD km N vMany vCounts) (hns2 : 2 ≤ ns) (hns : ns ≤ 64) (hk : km = 8) : MetI l y_M_model (Cond.code y_M_model prog_14_method_13_code 4 (some .int) :: gw) ({ frames := 1, cells := 0, slots := 0, locals := 22 } : Room) (dC, dI) vwCl (kT cI cM cO) [.ref o, .int (nI ns)] [(o, .inr (9, mO g fForm fShift fModels fItems fEnded fLow fRange fCache fPend fGoes fOuts fIns fReads fBad fIR fAsk fBAsk fCode fRL fRR fX fWrites fThrown)), ((g 0), .inl (cI, 8, .inl vMany)), ((g 1), .inl (cI, 512, .inl vCounts))] sz (fun (r : Int32) (u : Int32) => r = -4) (fun (u : Int32) => [(o, .inr (9, mO g fForm fShift fModels fItems fEnded fLow fRange fCache fPend fGoes fOuts fIns fReads fBad fIR fAsk fBAsk fCode fRL fRR fX fWrites u)), ((g 0), .inl (cI, 8, .inl vMany)), ((g 1), .inl (cI, 512, .inl vCounts))]) 0 0 := by
  refine my_ofI (cc := prog_14_method_13_code) (n := 4) (ret := (some .int)) (by decide) rfl (Nat.le_of_ble_eq_true rfl) ?_
  intro p e s m args below meth c R Q A ls H locs hx hb hr hts hown hlocks hml hnm hR hQ hA hl hP hK hN hD hS
  have hg : ∀ w ∈ gw, w.before args s = true := fun w h => hts w (List.mem_cons_of_mem _ h)
  have hown : s.vm.findClass "RangeCodersModel" = some m.cls := hown
  have hl : lv_has ls 4 [(0, .ref o), (1, .int (nI ns))] := hl
  refine lv_aload_n hx hb d_M_model_0 rfl (lv_at hl 0 rfl) ?_
  refine lv_iconst (v := 0) hx hb d_M_model_1 (by decide) ?_
  refine va_put (D := (dC, dI)) (ci := 9) (v := .int 0) (ty := .int) (C := "RangeCodersModel") (T := T_M) (N := 35) hx hb hg in_M t_M o_M n_M hown hK hP hD hS 0 rfl rfl 34 (by decide) (hg _ k986) (fun _ h9 => h9) rfl (by decide +kernel) rfl rfl (Nat.le_of_ble_eq_true rfl) d_M_model_2 (fun H locs hP hD hS => ?_)
  have hP : va_P (dC, dI) vwCl [(o, .inr (9, mO g fForm fShift fModels fItems fEnded fLow fRange fCache fPend fGoes fOuts fIns fReads fBad fIR fAsk fBAsk fCode fRL fRR fX fWrites 0)), ((g 0), .inl (cI, 8, .inl vMany)), ((g 1), .inl (cI, 512, .inl vCounts))] H := hP
  have hD : va_D A [(o, .inr (9, mO g fForm fShift fModels fItems fEnded fLow fRange fCache fPend fGoes fOuts fIns fReads fBad fIR fAsk fBAsk fCode fRL fRR fX fWrites 0)), ((g 0), .inl (cI, 8, .inl vMany)), ((g 1), .inl (cI, 512, .inl vCounts))] := hD
  refine lv_iload_n hx hb d_M_model_5 rfl (lv_at hl 1 rfl) ?_
  refine lv_iconst (v := 2) hx hb d_M_model_6 (by decide) ?_
  refine lv_bipush (v := 64) hx hb d_M_model_7 (by decide) ?_
  refine my_ci (wr := [(o, .inr (9, mO g fForm fShift fModels fItems fEnded fLow fRange fCache fPend fGoes fOuts fIns fReads fBad fIR fAsk fBAsk fCode fRL fRR fX fWrites 0)), ((g 0), .inl (cI, 8, .inl vMany)), ((g 1), .inl (cI, 512, .inl vCounts))]) (va_runS (As := [.int (nI ns), .int 2, .int 64]) (rest := []) ⟨hx, hb, hml, hown, hts⟩ (c_M_in l dC dI cI cM cO H.size (nI ns) 2 64) (cwS 3 hts (my_gS k1062 k1063 k12 k1064) rfl rfl rfl (by decide +kernel) ⟨by rw [hR]; exact Nat.le_of_ble_eq_true rfl, by rw [hR]; exact Nat.le_of_ble_eq_true rfl⟩) (my_pre hK hN (hP.sub [] rfl) (hD.sub [] (by decide) rfl)) rfl rfl hl.1 rfl (lv_room (Nat.le_of_ble_eq_true rfl)) d_M_model_9 ⟨by rw [hR]; exact Nat.le_of_ble_eq_true rfl, by rw [hR]; exact Nat.le_of_ble_eq_true rfl⟩) hP hD hS hA [] [0, 1, 2] rfl rfl (by decide) (by decide) (fun r_9 u9 H locs hw_9 hP hD hS => ?_)
  have hw_9 : r_9 = if 2 ≤ (nI ns) ∧ (nI ns) ≤ 64 then 1 else 0 := hw_9
  have hP : va_P (dC, dI) vwCl [(o, .inr (9, mO g fForm fShift fModels fItems fEnded fLow fRange fCache fPend fGoes fOuts fIns fReads fBad fIR fAsk fBAsk fCode fRL fRR fX fWrites 0)), ((g 0), .inl (cI, 8, .inl vMany)), ((g 1), .inl (cI, 512, .inl vCounts))] H := hP
  have hD : va_D A [(o, .inr (9, mO g fForm fShift fModels fItems fEnded fLow fRange fCache fPend fGoes fOuts fIns fReads fBad fIR fAsk fBAsk fCode fRL fRR fX fWrites 0)), ((g 0), .inl (cI, 8, .inl vMany)), ((g 1), .inl (cI, 512, .inl vCounts))] := hD
  refine lv_if_ne (tgt := 18) hx hb d_M_model_12 (by decide) (fun c_1 => ?_) (fun c_1 => ?_)
  · refine lv_aload_n hx hb d_M_model_18 rfl (lv_at hl 0 rfl) ?_
    refine va_get (D := (dC, dI)) (ci := 9) (v := .int fModels) (C := "RangeCodersModel") (T := T_M) (N := 35) hx hb hg in_M hown hK hP 0 rfl rfl 2 (by decide) (hg _ k954) (fun _ h9 => h9) rfl d_M_model_19 ?_
    refine lv_bipush (v := 8) hx hb d_M_model_22 (by decide) ?_
    refine lv_icmp_ne (tgt := 30) hx hb d_M_model_24 (by decide) (fun c_2 => ?_) (fun c_2 => ?_)
    · exact absurd (by rw [hmod, hk]; rfl) c_2
    · refine lv_bipush (v := (-4)) hx hb d_M_model_27 (by decide) ?_
      exact my_iret (v := (-4)) hx hb hr (rfl) hlocks hQ hK hS (Nat.le_refl _) (Nat.le_refl _) ((0 : Int32)) (rfl) (hP.sub [0, 1, 2] rfl) (hD.sub [0, 1, 2] (by decide) rfl) d_M_model_29
  · exact absurd ⟨nI_le (a := 2) hns2 (by omega), nI_le (b := 64) hns (by omega)⟩ (one_eq hw_9 c_1)
