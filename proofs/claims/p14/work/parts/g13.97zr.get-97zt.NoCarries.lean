section
set_option maxHeartbeats 2000000 in
set_option maxRecDepth 100000 in
theorem m_getA (l : Launch) (dC : Nat → ClassId) (dI : Nat → Nat → Nat) (cI cM cO : ClassId) (sz : Nat) (o : Nat) (g : Nat → Nat) (fForm : Int32) (fShift : Int32) (fModels : Int32) (fItems : Int32) (fEnded : Int32) (fLow : Int64) (fRange : Int64) (fCache : Int32) (fPend : Int32) (fGoes : Int32) (fOuts : Int32) (fIns : Int32) (fReads : Int32) (fBad : Int32) (fIR : Int32) (fAsk : Int32) (fBAsk : Int32) (fCode : Int64) (fRL : Int64) (fRR : Int64) (fX : Int64) (fWrites : Int32) (fThrown : Int32) (vMany : Nat → Int32) (vCounts : Nat → Int32) (km : Nat) (N : Nat → Nat) (p1 : Int32) (hmod : fModels = nI km) (hMD : MD km N vMany vCounts) (hno : p1 < 0 ∨ nI km ≤ p1) : MetI l y_M_get (Cond.code y_M_get prog_14_method_56_code 3 (some .int) :: gw) ({ frames := 2, cells := 0, slots := 0, locals := 43 } : Room) (dC, dI) vwCl (kT cI cM cO) [Value.ref o, Value.int p1] [(o, Sum.inr (9, mO g fForm fShift fModels fItems fEnded fLow fRange fCache fPend fGoes fOuts fIns fReads fBad fIR fAsk fBAsk fCode fRL fRR fX fWrites fThrown)), ((g 0), Sum.inl (cI, 8, Sum.inl vMany)), ((g 1), Sum.inl (cI, 512, Sum.inl vCounts))] sz (fun (r : Int32) (u : Unit) => r = -1) (fun (u : Unit) => [(o, Sum.inr (9, mO g fForm fShift fModels fItems fEnded fLow fRange fCache fPend fGoes fOuts fIns fReads fBad fIR fAsk fBAsk fCode fRL fRR fX fWrites 0)), ((g 0), Sum.inl (cI, 8, Sum.inl vMany)), ((g 1), Sum.inl (cI, 512, Sum.inl vCounts))]) 0 0 := by
  refine my_ofI (cc := prog_14_method_56_code) (n := 3) (ret := (some .int)) (by decide) rfl (Nat.le_of_ble_eq_true rfl) ?_
  intro p e s m args below meth c R Q A ls H locs hx hb hr hts hown hlocks hml hnm hR hQ hA hl hP hK hN hD hS
  have hg : ∀ w ∈ gw, w.before args s = true := fun w h => hts w (List.mem_cons_of_mem _ h)
  have hown : s.vm.findClass "RangeCodersModel" = some m.cls := hown
  have hl : lv_has ls 3 [(0, Value.ref o), (1, Value.int p1)] := hl
  refine lv_aload_n hx hb d_M_get_0 rfl (lv_at hl 0 rfl) ?_
  refine lv_iconst (v := 0) hx hb d_M_get_1 (by decide) ?_
  refine va_put (D := (dC, dI)) (ci := 9) (v := .int 0) (ty := .int) (C := "RangeCodersModel") (T := T_M) (N := 35) hx hb hg in_M t_M o_M n_M hown hK hP hD hS 0 rfl rfl 34 (by decide) (hg _ k986) (fun _ h9 => h9) rfl (o_M 34 (by decide)) rfl rfl (Nat.le_of_ble_eq_true rfl) d_M_get_2 (fun H locs hP hD hS => ?_)
  have hPD : my_PD (dC, dI) vwCl A [(o, Sum.inr (9, mO g fForm fShift fModels fItems fEnded fLow fRange fCache fPend fGoes fOuts fIns fReads fBad fIR fAsk fBAsk fCode fRL fRR fX fWrites 0)), ((g 0), Sum.inl (cI, 8, Sum.inl vMany)), ((g 1), Sum.inl (cI, 512, Sum.inl vCounts))] H := ⟨hP, hD⟩
  have hP := hPD.1
  have hD := hPD.2
  refine lv_aload_n hx hb d_M_get_5 rfl (lv_at hl 0 rfl) ?_
  refine lv_iload_n hx hb d_M_get_6 rfl (lv_at hl 1 rfl) ?_
  refine my_ci (wr := [((g 0), Sum.inl (cI, 8, Sum.inl vMany)), ((g 1), Sum.inl (cI, 512, Sum.inl vCounts))]) (va_runV (As := [Value.int p1]) (rest := []) ⟨hx, hb, hml, hown, hts⟩ (c_M_isModel l dC dI cI cM cO H.size o g fForm fShift fModels fItems fEnded fLow fRange fCache fPend fGoes fOuts fIns fReads fBad fIR fAsk fBAsk fCode fRL fRR fX fWrites 0 p1) (cwV 1 hts (my_gV k1073 k1075 ks26 k12 k1076) rfl rfl rfl cu_M_isModel_1 ⟨by rw [hR]; exact Nat.le_of_ble_eq_true rfl, by rw [hR]; exact Nat.le_of_ble_eq_true rfl⟩) (my_preV hK hN (hP.sub [0] rfl) (hD.sub [0] (by decide +kernel) rfl) 0 rfl rfl) rfl rfl hl.1 rfl (lv_room (Nat.le_of_ble_eq_true rfl)) d_M_get_7 ⟨by rw [hR]; exact Nat.le_of_ble_eq_true rfl, by rw [hR]; exact Nat.le_of_ble_eq_true rfl⟩) hP hD hS hA [0] [1, 2] rfl rfl (by decide +kernel) (by decide +kernel) (fun r_7 u9 H locs hw_7 hP hD hS => ?_)
  have hw_7 : r_7 = if 0 ≤ p1 ∧ p1 ≤ fModels - 1 then 1 else 0 := hw_7
  have hPD : my_PD (dC, dI) vwCl A [((g 0), Sum.inl (cI, 8, Sum.inl vMany)), ((g 1), Sum.inl (cI, 512, Sum.inl vCounts)), (o, Sum.inr (9, mO g fForm fShift fModels fItems fEnded fLow fRange fCache fPend fGoes fOuts fIns fReads fBad fIR fAsk fBAsk fCode fRL fRR fX fWrites 0))] H := ⟨hP, hD⟩
  have hP := hPD.1
  have hD := hPD.2
  refine lv_if_ne (tgt := 15) hx hb d_M_get_10 (by decide) (fun c_1 => ?_) (fun c_1 => ?_)
  · exact absurd (by rw [hmod] at hw_7; exact one_ne hw_7 c_1) (md_no hMD.1 hno)
  · refine lv_iconst (v := (-1)) hx hb d_M_get_13 (by decide) ?_
    exact my_iret (v := (-1)) hx hb hr (rfl) hlocks hQ hK hS (Nat.le_refl _) (Nat.le_refl _) () (rfl) (hP.sub [2, 0, 1] rfl) (hD.sub [2, 0, 1] (by decide +kernel) rfl) d_M_get_14
set_option maxHeartbeats 2000000 in
set_option maxRecDepth 100000 in
theorem m_getN (l : Launch) (dC : Nat → ClassId) (dI : Nat → Nat → Nat) (cI cM cO : ClassId) (sz : Nat) (o : Nat) (g : Nat → Nat) (fForm : Int32) (fShift : Int32) (fModels : Int32) (fItems : Int32) (fEnded : Int32) (fLow : Int64) (fRange : Int64) (fCache : Int32) (fPend : Int32) (fGoes : Int32) (fOuts : Int32) (fIns : Int32) (fReads : Int32) (fBad : Int32) (fIR : Int32) (fAsk : Int32) (fBAsk : Int32) (fCode : Int64) (fRL : Int64) (fRR : Int64) (fX : Int64) (fWrites : Int32) (fThrown : Int32) (vMany : Nat → Int32) (vCounts : Nat → Int32) (km : Nat) (N : Nat → Nat) (jj : Nat) (hmod : fModels = nI km) (hMD : MD km N vMany vCounts) (hj : jj < km) (hrd : fReads = 0) : MetI l y_M_get (Cond.code y_M_get prog_14_method_56_code 3 (some .int) :: gw) ({ frames := 2, cells := 0, slots := 0, locals := 43 } : Room) (dC, dI) vwCl (kT cI cM cO) [Value.ref o, Value.int (nI jj)] [(o, Sum.inr (9, mO g fForm fShift fModels fItems fEnded fLow fRange fCache fPend fGoes fOuts fIns fReads fBad fIR fAsk fBAsk fCode fRL fRR fX fWrites fThrown)), ((g 0), Sum.inl (cI, 8, Sum.inl vMany)), ((g 1), Sum.inl (cI, 512, Sum.inl vCounts))] sz (fun (r : Int32) (u : Unit) => r = -3) (fun (u : Unit) => [(o, Sum.inr (9, mO g fForm fShift fModels fItems fEnded fLow fRange fCache fPend fGoes fOuts fIns fReads fBad fIR fAsk fBAsk fCode fRL fRR fX fWrites 0)), ((g 0), Sum.inl (cI, 8, Sum.inl vMany)), ((g 1), Sum.inl (cI, 512, Sum.inl vCounts))]) 0 0 := by
  refine my_ofI (cc := prog_14_method_56_code) (n := 3) (ret := (some .int)) (by decide) rfl (Nat.le_of_ble_eq_true rfl) ?_
  intro p e s m args below meth c R Q A ls H locs hx hb hr hts hown hlocks hml hnm hR hQ hA hl hP hK hN hD hS
  have hg : ∀ w ∈ gw, w.before args s = true := fun w h => hts w (List.mem_cons_of_mem _ h)
  have hown : s.vm.findClass "RangeCodersModel" = some m.cls := hown
  have hl : lv_has ls 3 [(0, Value.ref o), (1, Value.int (nI jj))] := hl
  refine lv_aload_n hx hb d_M_get_0 rfl (lv_at hl 0 rfl) ?_
  refine lv_iconst (v := 0) hx hb d_M_get_1 (by decide) ?_
  refine va_put (D := (dC, dI)) (ci := 9) (v := .int 0) (ty := .int) (C := "RangeCodersModel") (T := T_M) (N := 35) hx hb hg in_M t_M o_M n_M hown hK hP hD hS 0 rfl rfl 34 (by decide) (hg _ k986) (fun _ h9 => h9) rfl (o_M 34 (by decide)) rfl rfl (Nat.le_of_ble_eq_true rfl) d_M_get_2 (fun H locs hP hD hS => ?_)
  have hPD : my_PD (dC, dI) vwCl A [(o, Sum.inr (9, mO g fForm fShift fModels fItems fEnded fLow fRange fCache fPend fGoes fOuts fIns fReads fBad fIR fAsk fBAsk fCode fRL fRR fX fWrites 0)), ((g 0), Sum.inl (cI, 8, Sum.inl vMany)), ((g 1), Sum.inl (cI, 512, Sum.inl vCounts))] H := ⟨hP, hD⟩
  have hP := hPD.1
  have hD := hPD.2
  refine lv_aload_n hx hb d_M_get_5 rfl (lv_at hl 0 rfl) ?_
  refine lv_iload_n hx hb d_M_get_6 rfl (lv_at hl 1 rfl) ?_
  refine my_ci (wr := [((g 0), Sum.inl (cI, 8, Sum.inl vMany)), ((g 1), Sum.inl (cI, 512, Sum.inl vCounts))]) (va_runV (As := [Value.int (nI jj)]) (rest := []) ⟨hx, hb, hml, hown, hts⟩ (c_M_isModel l dC dI cI cM cO H.size o g fForm fShift fModels fItems fEnded fLow fRange fCache fPend fGoes fOuts fIns fReads fBad fIR fAsk fBAsk fCode fRL fRR fX fWrites 0 (nI jj)) (cwV 1 hts (my_gV k1073 k1075 ks26 k12 k1076) rfl rfl rfl cu_M_isModel_1 ⟨by rw [hR]; exact Nat.le_of_ble_eq_true rfl, by rw [hR]; exact Nat.le_of_ble_eq_true rfl⟩) (my_preV hK hN (hP.sub [0] rfl) (hD.sub [0] (by decide +kernel) rfl) 0 rfl rfl) rfl rfl hl.1 rfl (lv_room (Nat.le_of_ble_eq_true rfl)) d_M_get_7 ⟨by rw [hR]; exact Nat.le_of_ble_eq_true rfl, by rw [hR]; exact Nat.le_of_ble_eq_true rfl⟩) hP hD hS hA [0] [1, 2] rfl rfl (by decide +kernel) (by decide +kernel) (fun r_7 u9 H locs hw_7 hP hD hS => ?_)
  have hw_7 : r_7 = if 0 ≤ (nI jj) ∧ (nI jj) ≤ fModels - 1 then 1 else 0 := hw_7
  have hPD : my_PD (dC, dI) vwCl A [((g 0), Sum.inl (cI, 8, Sum.inl vMany)), ((g 1), Sum.inl (cI, 512, Sum.inl vCounts)), (o, Sum.inr (9, mO g fForm fShift fModels fItems fEnded fLow fRange fCache fPend fGoes fOuts fIns fReads fBad fIR fAsk fBAsk fCode fRL fRR fX fWrites 0))] H := ⟨hP, hD⟩
  have hP := hPD.1
  have hD := hPD.2
  refine lv_if_ne (tgt := 15) hx hb d_M_get_10 (by decide) (fun c_1 => ?_) (fun c_1 => ?_)
  · refine lv_aload_n hx hb d_M_get_15 rfl (lv_at hl 0 rfl) ?_
    refine va_get (D := (dC, dI)) (ci := 9) (v := .int fReads) (C := "RangeCodersModel") (T := T_M) (N := 35) hx hb hg in_M hown hK hP 2 rfl rfl 21 (by decide) (hg _ k973) (fun _ h9 => h9) rfl d_M_get_16 ?_
    refine lv_if_ne (tgt := 25) hx hb d_M_get_19 (by decide) (fun c_2 => ?_) (fun c_2 => ?_)
    · exact absurd hrd c_2
    · refine lv_bipush (v := (-3)) hx hb d_M_get_22 (by decide) ?_
      exact my_iret (v := (-3)) hx hb hr (rfl) hlocks hQ hK hS (Nat.le_refl _) (Nat.le_refl _) () (rfl) (hP.sub [2, 0, 1] rfl) (hD.sub [2, 0, 1] (by decide +kernel) rfl) d_M_get_24
  · exact absurd (show 0 ≤ nI jj ∧ nI jj ≤ nI km - 1 from (isN_iff (k := km) (by have := hMD.1; omega)).mpr ⟨jj, hj, rfl⟩) (by rw [hmod] at hw_7; exact one_eq hw_7 c_1)
set_option maxHeartbeats 2000000 in
set_option maxRecDepth 100000 in
theorem m_getB (l : Launch) (dC : Nat → ClassId) (dI : Nat → Nat → Nat) (cI cM cO : ClassId) (sz : Nat) (o : Nat) (g : Nat → Nat) (fForm : Int32) (fShift : Int32) (fModels : Int32) (fItems : Int32) (fEnded : Int32) (fLow : Int64) (fRange : Int64) (fCache : Int32) (fPend : Int32) (fGoes : Int32) (fOuts : Int32) (fIns : Int32) (fReads : Int32) (fBad : Int32) (fIR : Int32) (fAsk : Int32) (fBAsk : Int32) (fCode : Int64) (fRL : Int64) (fRR : Int64) (fX : Int64) (fWrites : Int32) (fThrown : Int32) (vMany : Nat → Int32) (vCounts : Nat → Int32) (km : Nat) (N : Nat → Nat) (jj : Nat) (hmod : fModels = nI km) (hMD : MD km N vMany vCounts) (hj : jj < km) (hrd : ¬ fReads = 0) (hbd : ¬ fBad = 0) : MetI l y_M_get (Cond.code y_M_get prog_14_method_56_code 3 (some .int) :: gw) ({ frames := 2, cells := 0, slots := 0, locals := 43 } : Room) (dC, dI) vwCl (kT cI cM cO) [Value.ref o, Value.int (nI jj)] [(o, Sum.inr (9, mO g fForm fShift fModels fItems fEnded fLow fRange fCache fPend fGoes fOuts fIns fReads fBad fIR fAsk fBAsk fCode fRL fRR fX fWrites fThrown)), ((g 0), Sum.inl (cI, 8, Sum.inl vMany)), ((g 1), Sum.inl (cI, 512, Sum.inl vCounts))] sz (fun (r : Int32) (u : Unit) => r = -5) (fun (u : Unit) => [(o, Sum.inr (9, mO g fForm fShift fModels fItems fEnded fLow fRange fCache fPend fGoes fOuts fIns fReads fBad fIR fAsk fBAsk fCode fRL fRR fX fWrites 0)), ((g 0), Sum.inl (cI, 8, Sum.inl vMany)), ((g 1), Sum.inl (cI, 512, Sum.inl vCounts))]) 0 0 := by
  refine my_ofI (cc := prog_14_method_56_code) (n := 3) (ret := (some .int)) (by decide) rfl (Nat.le_of_ble_eq_true rfl) ?_
  intro p e s m args below meth c R Q A ls H locs hx hb hr hts hown hlocks hml hnm hR hQ hA hl hP hK hN hD hS
  have hg : ∀ w ∈ gw, w.before args s = true := fun w h => hts w (List.mem_cons_of_mem _ h)
  have hown : s.vm.findClass "RangeCodersModel" = some m.cls := hown
  have hl : lv_has ls 3 [(0, Value.ref o), (1, Value.int (nI jj))] := hl
  refine lv_aload_n hx hb d_M_get_0 rfl (lv_at hl 0 rfl) ?_
  refine lv_iconst (v := 0) hx hb d_M_get_1 (by decide) ?_
  refine va_put (D := (dC, dI)) (ci := 9) (v := .int 0) (ty := .int) (C := "RangeCodersModel") (T := T_M) (N := 35) hx hb hg in_M t_M o_M n_M hown hK hP hD hS 0 rfl rfl 34 (by decide) (hg _ k986) (fun _ h9 => h9) rfl (o_M 34 (by decide)) rfl rfl (Nat.le_of_ble_eq_true rfl) d_M_get_2 (fun H locs hP hD hS => ?_)
  have hPD : my_PD (dC, dI) vwCl A [(o, Sum.inr (9, mO g fForm fShift fModels fItems fEnded fLow fRange fCache fPend fGoes fOuts fIns fReads fBad fIR fAsk fBAsk fCode fRL fRR fX fWrites 0)), ((g 0), Sum.inl (cI, 8, Sum.inl vMany)), ((g 1), Sum.inl (cI, 512, Sum.inl vCounts))] H := ⟨hP, hD⟩
  have hP := hPD.1
  have hD := hPD.2
  refine lv_aload_n hx hb d_M_get_5 rfl (lv_at hl 0 rfl) ?_
  refine lv_iload_n hx hb d_M_get_6 rfl (lv_at hl 1 rfl) ?_
  refine my_ci (wr := [((g 0), Sum.inl (cI, 8, Sum.inl vMany)), ((g 1), Sum.inl (cI, 512, Sum.inl vCounts))]) (va_runV (As := [Value.int (nI jj)]) (rest := []) ⟨hx, hb, hml, hown, hts⟩ (c_M_isModel l dC dI cI cM cO H.size o g fForm fShift fModels fItems fEnded fLow fRange fCache fPend fGoes fOuts fIns fReads fBad fIR fAsk fBAsk fCode fRL fRR fX fWrites 0 (nI jj)) (cwV 1 hts (my_gV k1073 k1075 ks26 k12 k1076) rfl rfl rfl cu_M_isModel_1 ⟨by rw [hR]; exact Nat.le_of_ble_eq_true rfl, by rw [hR]; exact Nat.le_of_ble_eq_true rfl⟩) (my_preV hK hN (hP.sub [0] rfl) (hD.sub [0] (by decide +kernel) rfl) 0 rfl rfl) rfl rfl hl.1 rfl (lv_room (Nat.le_of_ble_eq_true rfl)) d_M_get_7 ⟨by rw [hR]; exact Nat.le_of_ble_eq_true rfl, by rw [hR]; exact Nat.le_of_ble_eq_true rfl⟩) hP hD hS hA [0] [1, 2] rfl rfl (by decide +kernel) (by decide +kernel) (fun r_7 u9 H locs hw_7 hP hD hS => ?_)
  have hw_7 : r_7 = if 0 ≤ (nI jj) ∧ (nI jj) ≤ fModels - 1 then 1 else 0 := hw_7
  have hPD : my_PD (dC, dI) vwCl A [((g 0), Sum.inl (cI, 8, Sum.inl vMany)), ((g 1), Sum.inl (cI, 512, Sum.inl vCounts)), (o, Sum.inr (9, mO g fForm fShift fModels fItems fEnded fLow fRange fCache fPend fGoes fOuts fIns fReads fBad fIR fAsk fBAsk fCode fRL fRR fX fWrites 0))] H := ⟨hP, hD⟩
  have hP := hPD.1
  have hD := hPD.2
  refine lv_if_ne (tgt := 15) hx hb d_M_get_10 (by decide) (fun c_1 => ?_) (fun c_1 => ?_)
  · refine lv_aload_n hx hb d_M_get_15 rfl (lv_at hl 0 rfl) ?_
    refine va_get (D := (dC, dI)) (ci := 9) (v := .int fReads) (C := "RangeCodersModel") (T := T_M) (N := 35) hx hb hg in_M hown hK hP 2 rfl rfl 21 (by decide) (hg _ k973) (fun _ h9 => h9) rfl d_M_get_16 ?_
    refine lv_if_ne (tgt := 25) hx hb d_M_get_19 (by decide) (fun c_2 => ?_) (fun c_2 => ?_)
    · refine lv_aload_n hx hb d_M_get_25 rfl (lv_at hl 0 rfl) ?_
      refine va_get (D := (dC, dI)) (ci := 9) (v := .int fBad) (C := "RangeCodersModel") (T := T_M) (N := 35) hx hb hg in_M hown hK hP 2 rfl rfl 22 (by decide) (hg _ k974) (fun _ h9 => h9) rfl d_M_get_26 ?_
      refine lv_if_eq (tgt := 35) hx hb d_M_get_29 (by decide) (fun c_3 => ?_) (fun c_3 => ?_)
      · exact absurd c_3 hbd
      · refine lv_bipush (v := (-5)) hx hb d_M_get_32 (by decide) ?_
        exact my_iret (v := (-5)) hx hb hr (rfl) hlocks hQ hK hS (Nat.le_refl _) (Nat.le_refl _) () (rfl) (hP.sub [2, 0, 1] rfl) (hD.sub [2, 0, 1] (by decide +kernel) rfl) d_M_get_34
    · exact absurd c_2 hrd
  · exact absurd (show 0 ≤ nI jj ∧ nI jj ≤ nI km - 1 from (isN_iff (k := km) (by have := hMD.1; omega)).mpr ⟨jj, hj, rfl⟩) (by rw [hmod] at hw_7; exact one_eq hw_7 c_1)
set_option maxHeartbeats 2000000 in
set_option maxRecDepth 100000 in
theorem m_get0L (l : Launch) (dC : Nat → ClassId) (dI : Nat → Nat → Nat) (cI cM cO : ClassId) (sz : Nat) (o : Nat) (g : Nat → Nat) (fShift : Int32) (fModels : Int32) (fItems : Int32) (fEnded : Int32) (fLow : Int64) (fRange : Int64) (fCache : Int32) (fPend : Int32) (fGoes : Int32) (fOuts : Int32) (fReads : Int32) (fIR : Int32) (fBAsk : Int32) (fRL : Int64) (fX : Int64) (fWrites : Int32) (fThrown : Int32) (vMany : Nat → Int32) (vCounts : Nat → Int32) (vThen : Nat → Int32) (vIn : Nat → Int32) (km : Nat) (N : Nat → Nat) (jj : Nat) (F : Nat → Nat) (RR : Nat) (CD : Nat) (is : List Nat) (q : Nat) (s9 : Nat) (hmod : fModels = nI km) (hMD : MD km N vMany vCounts) (hj : jj < km) (hrd : ¬ fReads = 0) (hR1 : RR < 4294967296) (hC : CD < 4294967296) (hIn : gIs vIn is) (hlen : is.length ≤ 6000) (hoct : oct is) (hq : q < 700000) (hF : sgI vThen (64 * jj) (N jj) F) (hs : ns F (N jj) ≤ 8192) (hG : (gr0 is (N jj) F (RR, CD, q)).1 = some s9) (hs9 : s9 < 2147483648) : MetI l y_M_get (Cond.code y_M_get prog_14_method_56_code 3 (some .int) :: gw) ({ frames := 4, cells := 0, slots := 0, locals := 91 } : Room) (dC, dI) vwCl (kT cI cM cO) [Value.ref o, Value.int (nI jj)] [(o, Sum.inr (9, mO g 0 fShift fModels fItems fEnded fLow fRange fCache fPend fGoes fOuts (nI is.length) fReads 0 fIR (nI q) fBAsk (lN CD) fRL (lN RR) fX fWrites fThrown)), ((g 0), Sum.inl (cI, 8, Sum.inl vMany)), ((g 1), Sum.inl (cI, 512, Sum.inl vCounts)), ((g 3), Sum.inl (cI, 512, Sum.inl vThen)), ((g 8), Sum.inl (cI, 6000, Sum.inl vIn))] sz (fun (r : Int32) (u : (Nat → Int32) × Int32) => r = nI s9 ∧ sgI u.1 (64 * jj) (N jj) (gr0 is (N jj) F (RR, CD, q)).2.2 ∧ sgO u.1 vThen (64 * jj) 64) (fun (u : (Nat → Int32) × Int32) => [(o, Sum.inr (9, mO g 0 fShift fModels fItems fEnded fLow fRange fCache fPend fGoes fOuts (nI is.length) fReads 0 u.2 (nI (gr0 is (N jj) F (RR, CD, q)).2.1.2.2) fBAsk (lN (gr0 is (N jj) F (RR, CD, q)).2.1.2.1) fRL (lN (gr0 is (N jj) F (RR, CD, q)).2.1.1) fX fWrites 0)), ((g 0), Sum.inl (cI, 8, Sum.inl vMany)), ((g 1), Sum.inl (cI, 512, Sum.inl vCounts)), ((g 3), Sum.inl (cI, 512, Sum.inl u.1)), ((g 8), Sum.inl (cI, 6000, Sum.inl vIn))]) 0 0 := by
  refine my_ofI (cc := prog_14_method_56_code) (n := 3) (ret := (some .int)) (by decide) rfl (Nat.le_of_ble_eq_true rfl) ?_
  intro p e s m args below meth c R Q A ls H locs hx hb hr hts hown hlocks hml hnm hR hQ hA hl hP hK hN hD hS
  have hg : ∀ w ∈ gw, w.before args s = true := fun w h => hts w (List.mem_cons_of_mem _ h)
  have hown : s.vm.findClass "RangeCodersModel" = some m.cls := hown
  have hl : lv_has ls 3 [(0, Value.ref o), (1, Value.int (nI jj))] := hl
  have hk8 := hMD.1
  obtain ⟨hn9, hn2, hn64, C9, hc9, hB9⟩ := hMD.2 jj hj
  refine lv_aload_n hx hb d_M_get_0 rfl (lv_at hl 0 rfl) ?_
  refine lv_iconst (v := 0) hx hb d_M_get_1 (by decide) ?_
  refine va_put (D := (dC, dI)) (ci := 9) (v := .int 0) (ty := .int) (C := "RangeCodersModel") (T := T_M) (N := 35) hx hb hg in_M t_M o_M n_M hown hK hP hD hS 0 rfl rfl 34 (by decide) (hg _ k986) (fun _ h9 => h9) rfl (o_M 34 (by decide)) rfl rfl (Nat.le_of_ble_eq_true rfl) d_M_get_2 (fun H locs hP hD hS => ?_)
  have hPD : my_PD (dC, dI) vwCl A [(o, Sum.inr (9, mO g 0 fShift fModels fItems fEnded fLow fRange fCache fPend fGoes fOuts (nI is.length) fReads 0 fIR (nI q) fBAsk (lN CD) fRL (lN RR) fX fWrites 0)), ((g 0), Sum.inl (cI, 8, Sum.inl vMany)), ((g 1), Sum.inl (cI, 512, Sum.inl vCounts)), ((g 3), Sum.inl (cI, 512, Sum.inl vThen)), ((g 8), Sum.inl (cI, 6000, Sum.inl vIn))] H := ⟨hP, hD⟩
  have hP := hPD.1
  have hD := hPD.2
  refine lv_aload_n hx hb d_M_get_5 rfl (lv_at hl 0 rfl) ?_
  refine lv_iload_n hx hb d_M_get_6 rfl (lv_at hl 1 rfl) ?_
  refine my_ci (wr := [((g 0), Sum.inl (cI, 8, Sum.inl vMany)), ((g 1), Sum.inl (cI, 512, Sum.inl vCounts)), ((g 3), Sum.inl (cI, 512, Sum.inl vThen)), ((g 8), Sum.inl (cI, 6000, Sum.inl vIn))]) (va_runV (As := [Value.int (nI jj)]) (rest := []) ⟨hx, hb, hml, hown, hts⟩ (c_M_isModel l dC dI cI cM cO H.size o g 0 fShift fModels fItems fEnded fLow fRange fCache fPend fGoes fOuts (nI is.length) fReads 0 fIR (nI q) fBAsk (lN CD) fRL (lN RR) fX fWrites 0 (nI jj)) (cwV 1 hts (my_gV k1073 k1075 ks26 k12 k1076) rfl rfl rfl cu_M_isModel_1 ⟨by rw [hR]; exact Nat.le_of_ble_eq_true rfl, by rw [hR]; exact Nat.le_of_ble_eq_true rfl⟩) (my_preV hK hN (hP.sub [0] rfl) (hD.sub [0] (by decide +kernel) rfl) 0 rfl rfl) rfl rfl hl.1 rfl (lv_room (Nat.le_of_ble_eq_true rfl)) d_M_get_7 ⟨by rw [hR]; exact Nat.le_of_ble_eq_true rfl, by rw [hR]; exact Nat.le_of_ble_eq_true rfl⟩) hP hD hS hA [0] [1, 2, 3, 4] rfl rfl (by decide +kernel) (by decide +kernel) (fun r_7 u9 H locs hw_7 hP hD hS => ?_)
  have hw_7 : r_7 = if 0 ≤ (nI jj) ∧ (nI jj) ≤ fModels - 1 then 1 else 0 := hw_7
  have hPD : my_PD (dC, dI) vwCl A [((g 0), Sum.inl (cI, 8, Sum.inl vMany)), ((g 1), Sum.inl (cI, 512, Sum.inl vCounts)), ((g 3), Sum.inl (cI, 512, Sum.inl vThen)), ((g 8), Sum.inl (cI, 6000, Sum.inl vIn)), (o, Sum.inr (9, mO g 0 fShift fModels fItems fEnded fLow fRange fCache fPend fGoes fOuts (nI is.length) fReads 0 fIR (nI q) fBAsk (lN CD) fRL (lN RR) fX fWrites 0))] H := ⟨hP, hD⟩
  have hP := hPD.1
  have hD := hPD.2
  refine lv_if_ne (tgt := 15) hx hb d_M_get_10 (by decide) (fun c_1 => ?_) (fun c_1 => ?_)
  · refine lv_aload_n hx hb d_M_get_15 rfl (lv_at hl 0 rfl) ?_
    refine va_get (D := (dC, dI)) (ci := 9) (v := .int fReads) (C := "RangeCodersModel") (T := T_M) (N := 35) hx hb hg in_M hown hK hP 4 rfl rfl 21 (by decide) (hg _ k973) (fun _ h9 => h9) rfl d_M_get_16 ?_
    refine lv_if_ne (tgt := 25) hx hb d_M_get_19 (by decide) (fun c_2 => ?_) (fun c_2 => ?_)
    · refine lv_aload_n hx hb d_M_get_25 rfl (lv_at hl 0 rfl) ?_
      refine va_get (D := (dC, dI)) (ci := 9) (v := .int 0) (C := "RangeCodersModel") (T := T_M) (N := 35) hx hb hg in_M hown hK hP 4 rfl rfl 22 (by decide) (hg _ k974) (fun _ h9 => h9) rfl d_M_get_26 ?_
      refine lv_if_eq (tgt := 35) hx hb d_M_get_29 (by decide) (fun c_3 => ?_) (fun c_3 => ?_)
      · refine lv_aload_n hx hb d_M_get_35 rfl (lv_at hl 0 rfl) ?_
        refine va_get (D := (dC, dI)) (ci := 9) (v := .int 0) (C := "RangeCodersModel") (T := T_M) (N := 35) hx hb hg in_M hown hK hP 4 rfl rfl 0 (by decide) (hg _ k952) (fun _ h9 => h9) rfl d_M_get_36 ?_
        refine lv_iconst (v := 2) hx hb d_M_get_39 (by decide) ?_
        refine lv_icmp_ge (tgt := 51) hx hb d_M_get_40 (by decide) (fun c_4 => ?_) (fun c_4 => ?_)
        · exact absurd c_4 (by decide)
        · refine lv_aload_n hx hb d_M_get_43 rfl (lv_at hl 0 rfl) ?_
          refine lv_iload_n hx hb d_M_get_44 rfl (lv_at hl 1 rfl) ?_
          refine my_ci (wr := [((g 1), Sum.inl (cI, 512, Sum.inl vCounts))]) (va_runV (As := [Value.int (nI jj)]) (rest := []) ⟨hx, hb, hml, hown, hts⟩ (c_M_getRanged0 l dC dI cI cM cO H.size o g fShift fModels fItems fEnded fLow fRange fCache fPend fGoes fOuts fReads 0 fIR fBAsk fRL fX fWrites 0 vMany vThen vIn jj (N jj) F RR CD is q (by omega) (hn9) (hn64) (by omega) (hIn) (hlen) (hoct) (by omega) (hF) (hs) (hR1) (hC)) (cwV 1 hts (my_gV k1206 k1208 ks47 k12 k1209) rfl rfl rfl cu_M_getRanged_1 ⟨by rw [hR]; exact Nat.le_of_ble_eq_true rfl, by rw [hR]; exact Nat.le_of_ble_eq_true rfl⟩) (my_preV hK hN (hP.sub [4, 0, 2, 3] rfl) (hD.sub [4, 0, 2, 3] (by decide +kernel) rfl) 0 rfl rfl) rfl rfl hl.1 rfl (lv_room (Nat.le_of_ble_eq_true rfl)) d_M_get_45 ⟨by rw [hR]; exact Nat.le_of_ble_eq_true rfl, by rw [hR]; exact Nat.le_of_ble_eq_true rfl⟩) hP hD hS hA [4, 0, 2, 3] [1] rfl rfl (by decide +kernel) (by decide +kernel) (fun r_45 u9 H locs hw_45 hP hD hS => ?_)
          obtain ⟨f2_45, rfl⟩ : ∃ z, z = u9 := ⟨_, rfl⟩
          have hw_45 : r_45 = oI (gr0 is (N jj) F (RR, CD, q)).1 ∧ sgI f2_45 (64 * jj) (N jj) (gr0 is (N jj) F (RR, CD, q)).2.2 ∧ sgO f2_45 vThen (64 * jj) (N jj) := hw_45
          have hPD : my_PD (dC, dI) vwCl A [((g 1), Sum.inl (cI, 512, Sum.inl vCounts)), (o, Sum.inr (9, mO g 0 fShift fModels fItems fEnded fLow fRange fCache fPend fGoes fOuts (nI is.length) fReads 0 fIR (nI (gr0 is (N jj) F (RR, CD, q)).2.1.2.2) fBAsk (lN (gr0 is (N jj) F (RR, CD, q)).2.1.2.1) fRL (lN (gr0 is (N jj) F (RR, CD, q)).2.1.1) fX fWrites 0)), ((g 0), Sum.inl (cI, 8, Sum.inl vMany)), ((g 3), Sum.inl (cI, 512, Sum.inl f2_45)), ((g 8), Sum.inl (cI, 6000, Sum.inl vIn))] H := ⟨hP, hD⟩
          have hP := hPD.1
          have hD := hPD.2
          refine lv_goto (tgt := 88) hx hb d_M_get_48 (by decide) ?_
          have hr8 : r_45 = nI s9 := by rw [hw_45.1, hG]; rfl
          refine lv_istore_n (lv' := [(2, Value.int r_45), (0, Value.ref o), (1, Value.int (nI jj))]) hx hb d_M_get_88 rfl hl (by decide) rfl (fun ls hl => ?_)
          refine lv_iload_n hx hb d_M_get_89 rfl (lv_at hl 0 rfl) ?_
          refine lv_if_ge (tgt := 98) hx hb d_M_get_90 (by decide) (fun c_5 => ?_) (fun c_5 => ?_)
          · refine lv_aload_n hx hb d_M_get_98 rfl (lv_at hl 1 rfl) ?_
            refine lv_dup hx hb d_M_get_99 rfl ?_
            refine va_get (D := (dC, dI)) (ci := 9) (v := .int fIR) (C := "RangeCodersModel") (T := T_M) (N := 35) hx hb hg in_M hown hK hP 1 rfl rfl 23 (by decide) (hg _ k975) (fun _ h9 => h9) rfl d_M_get_100 ?_
            refine lv_iconst (v := 1) hx hb d_M_get_103 (by decide) ?_
            refine lv_iadd hx hb d_M_get_104 ?_
            refine lv_topi (fun v_6 ev_6 => ?_)
            refine va_put (D := (dC, dI)) (ci := 9) (v := .int v_6) (ty := .int) (C := "RangeCodersModel") (T := T_M) (N := 35) hx hb hg in_M t_M o_M n_M hown hK hP hD hS 1 rfl rfl 23 (by decide) (hg _ k975) (fun _ h9 => h9) rfl (o_M 23 (by decide)) rfl rfl (Nat.le_of_ble_eq_true rfl) d_M_get_105 (fun H locs hP hD hS => ?_)
            have hPD : my_PD (dC, dI) vwCl A [((g 1), Sum.inl (cI, 512, Sum.inl vCounts)), (o, Sum.inr (9, mO g 0 fShift fModels fItems fEnded fLow fRange fCache fPend fGoes fOuts (nI is.length) fReads 0 v_6 (nI (gr0 is (N jj) F (RR, CD, q)).2.1.2.2) fBAsk (lN (gr0 is (N jj) F (RR, CD, q)).2.1.2.1) fRL (lN (gr0 is (N jj) F (RR, CD, q)).2.1.1) fX fWrites 0)), ((g 0), Sum.inl (cI, 8, Sum.inl vMany)), ((g 3), Sum.inl (cI, 512, Sum.inl f2_45)), ((g 8), Sum.inl (cI, 6000, Sum.inl vIn))] H := ⟨hP, hD⟩
            have hP := hPD.1
            have hD := hPD.2
            refine lv_iload_n hx hb d_M_get_108 rfl (lv_at hl 0 rfl) ?_
            exact my_iret (v := r_45) hx hb hr (rfl) hlocks hQ hK hS (Nat.le_refl _) (Nat.le_refl _) (f2_45, v_6) (⟨hr8, hw_45.2.1, sgO_w hw_45.2.2 hn64⟩) (hP.sub [1, 2, 0, 3, 4] rfl) (hD.sub [1, 2, 0, 3, 4] (by decide +kernel) rfl) d_M_get_109
          · exact absurd (by rw [hr8]; exact nI_pos' hs9) c_5
      · exact absurd (by decide) c_3
    · exact absurd c_2 hrd
  · exact absurd (show 0 ≤ nI jj ∧ nI jj ≤ nI km - 1 from (isN_iff (k := km) (by have := hMD.1; omega)).mpr ⟨jj, hj, rfl⟩) (by rw [hmod] at hw_7; exact one_eq hw_7 c_1)
set_option maxHeartbeats 2000000 in
set_option maxRecDepth 100000 in
theorem m_get0X (l : Launch) (dC : Nat → ClassId) (dI : Nat → Nat → Nat) (cI cM cO : ClassId) (sz : Nat) (o : Nat) (g : Nat → Nat) (fShift : Int32) (fModels : Int32) (fItems : Int32) (fEnded : Int32) (fLow : Int64) (fRange : Int64) (fCache : Int32) (fPend : Int32) (fGoes : Int32) (fOuts : Int32) (fReads : Int32) (fIR : Int32) (fBAsk : Int32) (fRL : Int64) (fX : Int64) (fWrites : Int32) (fThrown : Int32) (vMany : Nat → Int32) (vCounts : Nat → Int32) (vThen : Nat → Int32) (vIn : Nat → Int32) (km : Nat) (N : Nat → Nat) (jj : Nat) (F : Nat → Nat) (RR : Nat) (CD : Nat) (is : List Nat) (q : Nat) (hmod : fModels = nI km) (hMD : MD km N vMany vCounts) (hj : jj < km) (hrd : ¬ fReads = 0) (hR1 : RR < 4294967296) (hC : CD < 4294967296) (hIn : gIs vIn is) (hlen : is.length ≤ 6000) (hoct : oct is) (hq : q < 700000) (hF : sgI vThen (64 * jj) (N jj) F) (hs : ns F (N jj) ≤ 8192) (hG : (gr0 is (N jj) F (RR, CD, q)).1 = none) : MetI l y_M_get (Cond.code y_M_get prog_14_method_56_code 3 (some .int) :: gw) ({ frames := 4, cells := 0, slots := 0, locals := 91 } : Room) (dC, dI) vwCl (kT cI cM cO) [Value.ref o, Value.int (nI jj)] [(o, Sum.inr (9, mO g 0 fShift fModels fItems fEnded fLow fRange fCache fPend fGoes fOuts (nI is.length) fReads 0 fIR (nI q) fBAsk (lN CD) fRL (lN RR) fX fWrites fThrown)), ((g 0), Sum.inl (cI, 8, Sum.inl vMany)), ((g 1), Sum.inl (cI, 512, Sum.inl vCounts)), ((g 3), Sum.inl (cI, 512, Sum.inl vThen)), ((g 8), Sum.inl (cI, 6000, Sum.inl vIn))] sz (fun (r : Int32) (u : (Nat → Int32)) => r = -5 ∧ sgI u (64 * jj) (N jj) (gr0 is (N jj) F (RR, CD, q)).2.2 ∧ sgO u vThen (64 * jj) 64) (fun (u : (Nat → Int32)) => [(o, Sum.inr (9, mO g 0 fShift fModels fItems fEnded fLow fRange fCache fPend fGoes fOuts (nI is.length) fReads 1 fIR (nI (gr0 is (N jj) F (RR, CD, q)).2.1.2.2) fBAsk (lN (gr0 is (N jj) F (RR, CD, q)).2.1.2.1) fRL (lN (gr0 is (N jj) F (RR, CD, q)).2.1.1) fX fWrites 0)), ((g 0), Sum.inl (cI, 8, Sum.inl vMany)), ((g 1), Sum.inl (cI, 512, Sum.inl vCounts)), ((g 3), Sum.inl (cI, 512, Sum.inl u)), ((g 8), Sum.inl (cI, 6000, Sum.inl vIn))]) 0 0 := by
  refine my_ofI (cc := prog_14_method_56_code) (n := 3) (ret := (some .int)) (by decide) rfl (Nat.le_of_ble_eq_true rfl) ?_
  intro p e s m args below meth c R Q A ls H locs hx hb hr hts hown hlocks hml hnm hR hQ hA hl hP hK hN hD hS
  have hg : ∀ w ∈ gw, w.before args s = true := fun w h => hts w (List.mem_cons_of_mem _ h)
  have hown : s.vm.findClass "RangeCodersModel" = some m.cls := hown
  have hl : lv_has ls 3 [(0, Value.ref o), (1, Value.int (nI jj))] := hl
  have hk8 := hMD.1
  obtain ⟨hn9, hn2, hn64, C9, hc9, hB9⟩ := hMD.2 jj hj
  refine lv_aload_n hx hb d_M_get_0 rfl (lv_at hl 0 rfl) ?_
  refine lv_iconst (v := 0) hx hb d_M_get_1 (by decide) ?_
  refine va_put (D := (dC, dI)) (ci := 9) (v := .int 0) (ty := .int) (C := "RangeCodersModel") (T := T_M) (N := 35) hx hb hg in_M t_M o_M n_M hown hK hP hD hS 0 rfl rfl 34 (by decide) (hg _ k986) (fun _ h9 => h9) rfl (o_M 34 (by decide)) rfl rfl (Nat.le_of_ble_eq_true rfl) d_M_get_2 (fun H locs hP hD hS => ?_)
  have hPD : my_PD (dC, dI) vwCl A [(o, Sum.inr (9, mO g 0 fShift fModels fItems fEnded fLow fRange fCache fPend fGoes fOuts (nI is.length) fReads 0 fIR (nI q) fBAsk (lN CD) fRL (lN RR) fX fWrites 0)), ((g 0), Sum.inl (cI, 8, Sum.inl vMany)), ((g 1), Sum.inl (cI, 512, Sum.inl vCounts)), ((g 3), Sum.inl (cI, 512, Sum.inl vThen)), ((g 8), Sum.inl (cI, 6000, Sum.inl vIn))] H := ⟨hP, hD⟩
  have hP := hPD.1
  have hD := hPD.2
  refine lv_aload_n hx hb d_M_get_5 rfl (lv_at hl 0 rfl) ?_
  refine lv_iload_n hx hb d_M_get_6 rfl (lv_at hl 1 rfl) ?_
  refine my_ci (wr := [((g 0), Sum.inl (cI, 8, Sum.inl vMany)), ((g 1), Sum.inl (cI, 512, Sum.inl vCounts)), ((g 3), Sum.inl (cI, 512, Sum.inl vThen)), ((g 8), Sum.inl (cI, 6000, Sum.inl vIn))]) (va_runV (As := [Value.int (nI jj)]) (rest := []) ⟨hx, hb, hml, hown, hts⟩ (c_M_isModel l dC dI cI cM cO H.size o g 0 fShift fModels fItems fEnded fLow fRange fCache fPend fGoes fOuts (nI is.length) fReads 0 fIR (nI q) fBAsk (lN CD) fRL (lN RR) fX fWrites 0 (nI jj)) (cwV 1 hts (my_gV k1073 k1075 ks26 k12 k1076) rfl rfl rfl cu_M_isModel_1 ⟨by rw [hR]; exact Nat.le_of_ble_eq_true rfl, by rw [hR]; exact Nat.le_of_ble_eq_true rfl⟩) (my_preV hK hN (hP.sub [0] rfl) (hD.sub [0] (by decide +kernel) rfl) 0 rfl rfl) rfl rfl hl.1 rfl (lv_room (Nat.le_of_ble_eq_true rfl)) d_M_get_7 ⟨by rw [hR]; exact Nat.le_of_ble_eq_true rfl, by rw [hR]; exact Nat.le_of_ble_eq_true rfl⟩) hP hD hS hA [0] [1, 2, 3, 4] rfl rfl (by decide +kernel) (by decide +kernel) (fun r_7 u9 H locs hw_7 hP hD hS => ?_)
  have hw_7 : r_7 = if 0 ≤ (nI jj) ∧ (nI jj) ≤ fModels - 1 then 1 else 0 := hw_7
  have hPD : my_PD (dC, dI) vwCl A [((g 0), Sum.inl (cI, 8, Sum.inl vMany)), ((g 1), Sum.inl (cI, 512, Sum.inl vCounts)), ((g 3), Sum.inl (cI, 512, Sum.inl vThen)), ((g 8), Sum.inl (cI, 6000, Sum.inl vIn)), (o, Sum.inr (9, mO g 0 fShift fModels fItems fEnded fLow fRange fCache fPend fGoes fOuts (nI is.length) fReads 0 fIR (nI q) fBAsk (lN CD) fRL (lN RR) fX fWrites 0))] H := ⟨hP, hD⟩
  have hP := hPD.1
  have hD := hPD.2
  refine lv_if_ne (tgt := 15) hx hb d_M_get_10 (by decide) (fun c_1 => ?_) (fun c_1 => ?_)
  · refine lv_aload_n hx hb d_M_get_15 rfl (lv_at hl 0 rfl) ?_
    refine va_get (D := (dC, dI)) (ci := 9) (v := .int fReads) (C := "RangeCodersModel") (T := T_M) (N := 35) hx hb hg in_M hown hK hP 4 rfl rfl 21 (by decide) (hg _ k973) (fun _ h9 => h9) rfl d_M_get_16 ?_
    refine lv_if_ne (tgt := 25) hx hb d_M_get_19 (by decide) (fun c_2 => ?_) (fun c_2 => ?_)
    · refine lv_aload_n hx hb d_M_get_25 rfl (lv_at hl 0 rfl) ?_
      refine va_get (D := (dC, dI)) (ci := 9) (v := .int 0) (C := "RangeCodersModel") (T := T_M) (N := 35) hx hb hg in_M hown hK hP 4 rfl rfl 22 (by decide) (hg _ k974) (fun _ h9 => h9) rfl d_M_get_26 ?_
      refine lv_if_eq (tgt := 35) hx hb d_M_get_29 (by decide) (fun c_3 => ?_) (fun c_3 => ?_)
      · refine lv_aload_n hx hb d_M_get_35 rfl (lv_at hl 0 rfl) ?_
        refine va_get (D := (dC, dI)) (ci := 9) (v := .int 0) (C := "RangeCodersModel") (T := T_M) (N := 35) hx hb hg in_M hown hK hP 4 rfl rfl 0 (by decide) (hg _ k952) (fun _ h9 => h9) rfl d_M_get_36 ?_
        refine lv_iconst (v := 2) hx hb d_M_get_39 (by decide) ?_
        refine lv_icmp_ge (tgt := 51) hx hb d_M_get_40 (by decide) (fun c_4 => ?_) (fun c_4 => ?_)
        · exact absurd c_4 (by decide)
        · refine lv_aload_n hx hb d_M_get_43 rfl (lv_at hl 0 rfl) ?_
          refine lv_iload_n hx hb d_M_get_44 rfl (lv_at hl 1 rfl) ?_
          refine my_ci (wr := [((g 1), Sum.inl (cI, 512, Sum.inl vCounts))]) (va_runV (As := [Value.int (nI jj)]) (rest := []) ⟨hx, hb, hml, hown, hts⟩ (c_M_getRanged0 l dC dI cI cM cO H.size o g fShift fModels fItems fEnded fLow fRange fCache fPend fGoes fOuts fReads 0 fIR fBAsk fRL fX fWrites 0 vMany vThen vIn jj (N jj) F RR CD is q (by omega) (hn9) (hn64) (by omega) (hIn) (hlen) (hoct) (by omega) (hF) (hs) (hR1) (hC)) (cwV 1 hts (my_gV k1206 k1208 ks47 k12 k1209) rfl rfl rfl cu_M_getRanged_1 ⟨by rw [hR]; exact Nat.le_of_ble_eq_true rfl, by rw [hR]; exact Nat.le_of_ble_eq_true rfl⟩) (my_preV hK hN (hP.sub [4, 0, 2, 3] rfl) (hD.sub [4, 0, 2, 3] (by decide +kernel) rfl) 0 rfl rfl) rfl rfl hl.1 rfl (lv_room (Nat.le_of_ble_eq_true rfl)) d_M_get_45 ⟨by rw [hR]; exact Nat.le_of_ble_eq_true rfl, by rw [hR]; exact Nat.le_of_ble_eq_true rfl⟩) hP hD hS hA [4, 0, 2, 3] [1] rfl rfl (by decide +kernel) (by decide +kernel) (fun r_45 u9 H locs hw_45 hP hD hS => ?_)
          obtain ⟨f2_45, rfl⟩ : ∃ z, z = u9 := ⟨_, rfl⟩
          have hw_45 : r_45 = oI (gr0 is (N jj) F (RR, CD, q)).1 ∧ sgI f2_45 (64 * jj) (N jj) (gr0 is (N jj) F (RR, CD, q)).2.2 ∧ sgO f2_45 vThen (64 * jj) (N jj) := hw_45
          have hPD : my_PD (dC, dI) vwCl A [((g 1), Sum.inl (cI, 512, Sum.inl vCounts)), (o, Sum.inr (9, mO g 0 fShift fModels fItems fEnded fLow fRange fCache fPend fGoes fOuts (nI is.length) fReads 0 fIR (nI (gr0 is (N jj) F (RR, CD, q)).2.1.2.2) fBAsk (lN (gr0 is (N jj) F (RR, CD, q)).2.1.2.1) fRL (lN (gr0 is (N jj) F (RR, CD, q)).2.1.1) fX fWrites 0)), ((g 0), Sum.inl (cI, 8, Sum.inl vMany)), ((g 3), Sum.inl (cI, 512, Sum.inl f2_45)), ((g 8), Sum.inl (cI, 6000, Sum.inl vIn))] H := ⟨hP, hD⟩
          have hP := hPD.1
          have hD := hPD.2
          refine lv_goto (tgt := 88) hx hb d_M_get_48 (by decide) ?_
          have hr8 : r_45 = -1 := by rw [hw_45.1, hG]; rfl
          refine lv_istore_n (lv' := [(2, Value.int r_45), (0, Value.ref o), (1, Value.int (nI jj))]) hx hb d_M_get_88 rfl hl (by decide) rfl (fun ls hl => ?_)
          refine lv_iload_n hx hb d_M_get_89 rfl (lv_at hl 0 rfl) ?_
          refine lv_if_ge (tgt := 98) hx hb d_M_get_90 (by decide) (fun c_5 => ?_) (fun c_5 => ?_)
          · exact absurd c_5 (by rw [hr8]; decide)
          · refine lv_aload_n hx hb d_M_get_93 rfl (lv_at hl 1 rfl) ?_
            refine my_ci (wr := [((g 1), Sum.inl (cI, 512, Sum.inl vCounts)), ((g 0), Sum.inl (cI, 8, Sum.inl vMany)), ((g 3), Sum.inl (cI, 512, Sum.inl f2_45)), ((g 8), Sum.inl (cI, 6000, Sum.inl vIn))]) (va_runV (As := []) (rest := []) ⟨hx, hb, hml, hown, hts⟩ (c_M_spoiled l dC dI cI cM cO H.size o g 0 fShift fModels fItems fEnded fLow fRange fCache fPend fGoes fOuts (nI is.length) fReads 0 fIR (nI (gr0 is (N jj) F (RR, CD, q)).2.1.2.2) fBAsk (lN (gr0 is (N jj) F (RR, CD, q)).2.1.2.1) fRL (lN (gr0 is (N jj) F (RR, CD, q)).2.1.1) fX fWrites 0) (cwV 0 hts (my_gV k1252 k1254 ks58 k12 k1255) rfl rfl rfl cu_M_spoiled_0 ⟨by rw [hR]; exact Nat.le_of_ble_eq_true rfl, by rw [hR]; exact Nat.le_of_ble_eq_true rfl⟩) (my_preV hK hN (hP.sub [1] rfl) (hD.sub [1] (by decide +kernel) rfl) 0 rfl rfl) rfl rfl hl.1 rfl (lv_room (Nat.le_of_ble_eq_true rfl)) d_M_get_94 ⟨by rw [hR]; exact Nat.le_of_ble_eq_true rfl, by rw [hR]; exact Nat.le_of_ble_eq_true rfl⟩) hP hD hS hA [1] [0, 2, 3, 4] rfl rfl (by decide +kernel) (by decide +kernel) (fun r_94 u9 H locs hw_94 hP hD hS => ?_)
            have hw_94 : r_94 = -5 := hw_94
            have hPD : my_PD (dC, dI) vwCl A [((g 1), Sum.inl (cI, 512, Sum.inl vCounts)), ((g 0), Sum.inl (cI, 8, Sum.inl vMany)), ((g 3), Sum.inl (cI, 512, Sum.inl f2_45)), ((g 8), Sum.inl (cI, 6000, Sum.inl vIn)), (o, Sum.inr (9, mO g 0 fShift fModels fItems fEnded fLow fRange fCache fPend fGoes fOuts (nI is.length) fReads 1 fIR (nI (gr0 is (N jj) F (RR, CD, q)).2.1.2.2) fBAsk (lN (gr0 is (N jj) F (RR, CD, q)).2.1.2.1) fRL (lN (gr0 is (N jj) F (RR, CD, q)).2.1.1) fX fWrites 0))] H := ⟨hP, hD⟩
            have hP := hPD.1
            have hD := hPD.2
            exact my_iret (v := r_94) hx hb hr (rfl) hlocks hQ hK hS (Nat.le_refl _) (Nat.le_refl _) (f2_45) (⟨hw_94, hw_45.2.1, sgO_w hw_45.2.2 hn64⟩) (hP.sub [4, 1, 0, 2, 3] rfl) (hD.sub [4, 1, 0, 2, 3] (by decide +kernel) rfl) d_M_get_97
      · exact absurd (by decide) c_3
    · exact absurd c_2 hrd
  · exact absurd (show 0 ≤ nI jj ∧ nI jj ≤ nI km - 1 from (isN_iff (k := km) (by have := hMD.1; omega)).mpr ⟨jj, hj, rfl⟩) (by rw [hmod] at hw_7; exact one_eq hw_7 c_1)
set_option maxHeartbeats 2000000 in
set_option maxRecDepth 100000 in
theorem m_get1L (l : Launch) (dC : Nat → ClassId) (dI : Nat → Nat → Nat) (cI cM cO : ClassId) (sz : Nat) (o : Nat) (g : Nat → Nat) (fShift : Int32) (fModels : Int32) (fItems : Int32) (fEnded : Int32) (fLow : Int64) (fRange : Int64) (fCache : Int32) (fPend : Int32) (fGoes : Int32) (fOuts : Int32) (fReads : Int32) (fIR : Int32) (fBAsk : Int32) (fX : Int64) (fWrites : Int32) (fThrown : Int32) (vMany : Nat → Int32) (vCounts : Nat → Int32) (vThen : Nat → Int32) (vIn : Nat → Int32) (km : Nat) (N : Nat → Nat) (jj : Nat) (F : Nat → Nat) (RR : Nat) (L : Nat) (CD : Nat) (is : List Nat) (q : Nat) (s9 : Nat) (hmod : fModels = nI km) (hMD : MD km N vMany vCounts) (hj : jj < km) (hrd : ¬ fReads = 0) (hp : pOk RR L) (hC : CD < 4294967296) (hIn : gIs vIn is) (hlen : is.length ≤ 6000) (hoct : oct is) (hq : q < 700000) (hF : sgI vThen (64 * jj) (N jj) F) (hs : ns F (N jj) ≤ 8192) (hG : (gr1 is (N jj) F (RR, L, CD, q)).1 = some s9) (hs9 : s9 < 2147483648) : MetI l y_M_get (Cond.code y_M_get prog_14_method_56_code 3 (some .int) :: gw) ({ frames := 4, cells := 0, slots := 0, locals := 93 } : Room) (dC, dI) vwCl (kT cI cM cO) [Value.ref o, Value.int (nI jj)] [(o, Sum.inr (9, mO g 1 fShift fModels fItems fEnded fLow fRange fCache fPend fGoes fOuts (nI is.length) fReads 0 fIR (nI q) fBAsk (lN CD) (lN L) (lN RR) fX fWrites fThrown)), ((g 0), Sum.inl (cI, 8, Sum.inl vMany)), ((g 1), Sum.inl (cI, 512, Sum.inl vCounts)), ((g 3), Sum.inl (cI, 512, Sum.inl vThen)), ((g 8), Sum.inl (cI, 6000, Sum.inl vIn))] sz (fun (r : Int32) (u : (Nat → Int32) × Int32) => r = nI s9 ∧ sgI u.1 (64 * jj) (N jj) (gr1 is (N jj) F (RR, L, CD, q)).2.2 ∧ sgO u.1 vThen (64 * jj) 64) (fun (u : (Nat → Int32) × Int32) => [(o, Sum.inr (9, mO g 1 fShift fModels fItems fEnded fLow fRange fCache fPend fGoes fOuts (nI is.length) fReads 0 u.2 (nI (gr1 is (N jj) F (RR, L, CD, q)).2.1.2.2.2) fBAsk (lN (gr1 is (N jj) F (RR, L, CD, q)).2.1.2.2.1) (lN (gr1 is (N jj) F (RR, L, CD, q)).2.1.2.1) (lN (gr1 is (N jj) F (RR, L, CD, q)).2.1.1) fX fWrites 0)), ((g 0), Sum.inl (cI, 8, Sum.inl vMany)), ((g 1), Sum.inl (cI, 512, Sum.inl vCounts)), ((g 3), Sum.inl (cI, 512, Sum.inl u.1)), ((g 8), Sum.inl (cI, 6000, Sum.inl vIn))]) 0 0 := by
  refine my_ofI (cc := prog_14_method_56_code) (n := 3) (ret := (some .int)) (by decide) rfl (Nat.le_of_ble_eq_true rfl) ?_
  intro p e s m args below meth c R Q A ls H locs hx hb hr hts hown hlocks hml hnm hR hQ hA hl hP hK hN hD hS
  have hg : ∀ w ∈ gw, w.before args s = true := fun w h => hts w (List.mem_cons_of_mem _ h)
  have hown : s.vm.findClass "RangeCodersModel" = some m.cls := hown
  have hl : lv_has ls 3 [(0, Value.ref o), (1, Value.int (nI jj))] := hl
  have hk8 := hMD.1
  obtain ⟨hn9, hn2, hn64, C9, hc9, hB9⟩ := hMD.2 jj hj
  refine lv_aload_n hx hb d_M_get_0 rfl (lv_at hl 0 rfl) ?_
  refine lv_iconst (v := 0) hx hb d_M_get_1 (by decide) ?_
  refine va_put (D := (dC, dI)) (ci := 9) (v := .int 0) (ty := .int) (C := "RangeCodersModel") (T := T_M) (N := 35) hx hb hg in_M t_M o_M n_M hown hK hP hD hS 0 rfl rfl 34 (by decide) (hg _ k986) (fun _ h9 => h9) rfl (o_M 34 (by decide)) rfl rfl (Nat.le_of_ble_eq_true rfl) d_M_get_2 (fun H locs hP hD hS => ?_)
  have hPD : my_PD (dC, dI) vwCl A [(o, Sum.inr (9, mO g 1 fShift fModels fItems fEnded fLow fRange fCache fPend fGoes fOuts (nI is.length) fReads 0 fIR (nI q) fBAsk (lN CD) (lN L) (lN RR) fX fWrites 0)), ((g 0), Sum.inl (cI, 8, Sum.inl vMany)), ((g 1), Sum.inl (cI, 512, Sum.inl vCounts)), ((g 3), Sum.inl (cI, 512, Sum.inl vThen)), ((g 8), Sum.inl (cI, 6000, Sum.inl vIn))] H := ⟨hP, hD⟩
  have hP := hPD.1
  have hD := hPD.2
  refine lv_aload_n hx hb d_M_get_5 rfl (lv_at hl 0 rfl) ?_
  refine lv_iload_n hx hb d_M_get_6 rfl (lv_at hl 1 rfl) ?_
  refine my_ci (wr := [((g 0), Sum.inl (cI, 8, Sum.inl vMany)), ((g 1), Sum.inl (cI, 512, Sum.inl vCounts)), ((g 3), Sum.inl (cI, 512, Sum.inl vThen)), ((g 8), Sum.inl (cI, 6000, Sum.inl vIn))]) (va_runV (As := [Value.int (nI jj)]) (rest := []) ⟨hx, hb, hml, hown, hts⟩ (c_M_isModel l dC dI cI cM cO H.size o g 1 fShift fModels fItems fEnded fLow fRange fCache fPend fGoes fOuts (nI is.length) fReads 0 fIR (nI q) fBAsk (lN CD) (lN L) (lN RR) fX fWrites 0 (nI jj)) (cwV 1 hts (my_gV k1073 k1075 ks26 k12 k1076) rfl rfl rfl cu_M_isModel_1 ⟨by rw [hR]; exact Nat.le_of_ble_eq_true rfl, by rw [hR]; exact Nat.le_of_ble_eq_true rfl⟩) (my_preV hK hN (hP.sub [0] rfl) (hD.sub [0] (by decide +kernel) rfl) 0 rfl rfl) rfl rfl hl.1 rfl (lv_room (Nat.le_of_ble_eq_true rfl)) d_M_get_7 ⟨by rw [hR]; exact Nat.le_of_ble_eq_true rfl, by rw [hR]; exact Nat.le_of_ble_eq_true rfl⟩) hP hD hS hA [0] [1, 2, 3, 4] rfl rfl (by decide +kernel) (by decide +kernel) (fun r_7 u9 H locs hw_7 hP hD hS => ?_)
  have hw_7 : r_7 = if 0 ≤ (nI jj) ∧ (nI jj) ≤ fModels - 1 then 1 else 0 := hw_7
  have hPD : my_PD (dC, dI) vwCl A [((g 0), Sum.inl (cI, 8, Sum.inl vMany)), ((g 1), Sum.inl (cI, 512, Sum.inl vCounts)), ((g 3), Sum.inl (cI, 512, Sum.inl vThen)), ((g 8), Sum.inl (cI, 6000, Sum.inl vIn)), (o, Sum.inr (9, mO g 1 fShift fModels fItems fEnded fLow fRange fCache fPend fGoes fOuts (nI is.length) fReads 0 fIR (nI q) fBAsk (lN CD) (lN L) (lN RR) fX fWrites 0))] H := ⟨hP, hD⟩
  have hP := hPD.1
  have hD := hPD.2
  refine lv_if_ne (tgt := 15) hx hb d_M_get_10 (by decide) (fun c_1 => ?_) (fun c_1 => ?_)
  · refine lv_aload_n hx hb d_M_get_15 rfl (lv_at hl 0 rfl) ?_
    refine va_get (D := (dC, dI)) (ci := 9) (v := .int fReads) (C := "RangeCodersModel") (T := T_M) (N := 35) hx hb hg in_M hown hK hP 4 rfl rfl 21 (by decide) (hg _ k973) (fun _ h9 => h9) rfl d_M_get_16 ?_
    refine lv_if_ne (tgt := 25) hx hb d_M_get_19 (by decide) (fun c_2 => ?_) (fun c_2 => ?_)
    · refine lv_aload_n hx hb d_M_get_25 rfl (lv_at hl 0 rfl) ?_
      refine va_get (D := (dC, dI)) (ci := 9) (v := .int 0) (C := "RangeCodersModel") (T := T_M) (N := 35) hx hb hg in_M hown hK hP 4 rfl rfl 22 (by decide) (hg _ k974) (fun _ h9 => h9) rfl d_M_get_26 ?_
      refine lv_if_eq (tgt := 35) hx hb d_M_get_29 (by decide) (fun c_3 => ?_) (fun c_3 => ?_)
      · refine lv_aload_n hx hb d_M_get_35 rfl (lv_at hl 0 rfl) ?_
        refine va_get (D := (dC, dI)) (ci := 9) (v := .int 1) (C := "RangeCodersModel") (T := T_M) (N := 35) hx hb hg in_M hown hK hP 4 rfl rfl 0 (by decide) (hg _ k952) (fun _ h9 => h9) rfl d_M_get_36 ?_
        refine lv_iconst (v := 2) hx hb d_M_get_39 (by decide) ?_
        refine lv_icmp_ge (tgt := 51) hx hb d_M_get_40 (by decide) (fun c_4 => ?_) (fun c_4 => ?_)
        · exact absurd c_4 (by decide)
        · refine lv_aload_n hx hb d_M_get_43 rfl (lv_at hl 0 rfl) ?_
          refine lv_iload_n hx hb d_M_get_44 rfl (lv_at hl 1 rfl) ?_
          refine my_ci (wr := [((g 1), Sum.inl (cI, 512, Sum.inl vCounts))]) (va_runV (As := [Value.int (nI jj)]) (rest := []) ⟨hx, hb, hml, hown, hts⟩ (c_M_getRanged1 l dC dI cI cM cO H.size o g fShift fModels fItems fEnded fLow fRange fCache fPend fGoes fOuts fReads 0 fIR fBAsk fX fWrites 0 vMany vThen vIn jj (N jj) F RR L CD is q (by omega) (hn9) (hn64) (by omega) (hIn) (hlen) (hoct) (by omega) (hF) (hs) (hp) (hC)) (cwV 1 hts (my_gV k1206 k1208 ks47 k12 k1209) rfl rfl rfl cu_M_getRanged_1 ⟨by rw [hR]; exact Nat.le_of_ble_eq_true rfl, by rw [hR]; exact Nat.le_of_ble_eq_true rfl⟩) (my_preV hK hN (hP.sub [4, 0, 2, 3] rfl) (hD.sub [4, 0, 2, 3] (by decide +kernel) rfl) 0 rfl rfl) rfl rfl hl.1 rfl (lv_room (Nat.le_of_ble_eq_true rfl)) d_M_get_45 ⟨by rw [hR]; exact Nat.le_of_ble_eq_true rfl, by rw [hR]; exact Nat.le_of_ble_eq_true rfl⟩) hP hD hS hA [4, 0, 2, 3] [1] rfl rfl (by decide +kernel) (by decide +kernel) (fun r_45 u9 H locs hw_45 hP hD hS => ?_)
          obtain ⟨f2_45, rfl⟩ : ∃ z, z = u9 := ⟨_, rfl⟩
          have hw_45 : r_45 = oI (gr1 is (N jj) F (RR, L, CD, q)).1 ∧ sgI f2_45 (64 * jj) (N jj) (gr1 is (N jj) F (RR, L, CD, q)).2.2 ∧ sgO f2_45 vThen (64 * jj) (N jj) := hw_45
          have hPD : my_PD (dC, dI) vwCl A [((g 1), Sum.inl (cI, 512, Sum.inl vCounts)), (o, Sum.inr (9, mO g 1 fShift fModels fItems fEnded fLow fRange fCache fPend fGoes fOuts (nI is.length) fReads 0 fIR (nI (gr1 is (N jj) F (RR, L, CD, q)).2.1.2.2.2) fBAsk (lN (gr1 is (N jj) F (RR, L, CD, q)).2.1.2.2.1) (lN (gr1 is (N jj) F (RR, L, CD, q)).2.1.2.1) (lN (gr1 is (N jj) F (RR, L, CD, q)).2.1.1) fX fWrites 0)), ((g 0), Sum.inl (cI, 8, Sum.inl vMany)), ((g 3), Sum.inl (cI, 512, Sum.inl f2_45)), ((g 8), Sum.inl (cI, 6000, Sum.inl vIn))] H := ⟨hP, hD⟩
          have hP := hPD.1
          have hD := hPD.2
          refine lv_goto (tgt := 88) hx hb d_M_get_48 (by decide) ?_
          have hr8 : r_45 = nI s9 := by rw [hw_45.1, hG]; rfl
          refine lv_istore_n (lv' := [(2, Value.int r_45), (0, Value.ref o), (1, Value.int (nI jj))]) hx hb d_M_get_88 rfl hl (by decide) rfl (fun ls hl => ?_)
          refine lv_iload_n hx hb d_M_get_89 rfl (lv_at hl 0 rfl) ?_
          refine lv_if_ge (tgt := 98) hx hb d_M_get_90 (by decide) (fun c_5 => ?_) (fun c_5 => ?_)
          · refine lv_aload_n hx hb d_M_get_98 rfl (lv_at hl 1 rfl) ?_
            refine lv_dup hx hb d_M_get_99 rfl ?_
            refine va_get (D := (dC, dI)) (ci := 9) (v := .int fIR) (C := "RangeCodersModel") (T := T_M) (N := 35) hx hb hg in_M hown hK hP 1 rfl rfl 23 (by decide) (hg _ k975) (fun _ h9 => h9) rfl d_M_get_100 ?_
            refine lv_iconst (v := 1) hx hb d_M_get_103 (by decide) ?_
            refine lv_iadd hx hb d_M_get_104 ?_
            refine lv_topi (fun v_6 ev_6 => ?_)
            refine va_put (D := (dC, dI)) (ci := 9) (v := .int v_6) (ty := .int) (C := "RangeCodersModel") (T := T_M) (N := 35) hx hb hg in_M t_M o_M n_M hown hK hP hD hS 1 rfl rfl 23 (by decide) (hg _ k975) (fun _ h9 => h9) rfl (o_M 23 (by decide)) rfl rfl (Nat.le_of_ble_eq_true rfl) d_M_get_105 (fun H locs hP hD hS => ?_)
            have hPD : my_PD (dC, dI) vwCl A [((g 1), Sum.inl (cI, 512, Sum.inl vCounts)), (o, Sum.inr (9, mO g 1 fShift fModels fItems fEnded fLow fRange fCache fPend fGoes fOuts (nI is.length) fReads 0 v_6 (nI (gr1 is (N jj) F (RR, L, CD, q)).2.1.2.2.2) fBAsk (lN (gr1 is (N jj) F (RR, L, CD, q)).2.1.2.2.1) (lN (gr1 is (N jj) F (RR, L, CD, q)).2.1.2.1) (lN (gr1 is (N jj) F (RR, L, CD, q)).2.1.1) fX fWrites 0)), ((g 0), Sum.inl (cI, 8, Sum.inl vMany)), ((g 3), Sum.inl (cI, 512, Sum.inl f2_45)), ((g 8), Sum.inl (cI, 6000, Sum.inl vIn))] H := ⟨hP, hD⟩
            have hP := hPD.1
            have hD := hPD.2
            refine lv_iload_n hx hb d_M_get_108 rfl (lv_at hl 0 rfl) ?_
            exact my_iret (v := r_45) hx hb hr (rfl) hlocks hQ hK hS (Nat.le_refl _) (Nat.le_refl _) (f2_45, v_6) (⟨hr8, hw_45.2.1, sgO_w hw_45.2.2 hn64⟩) (hP.sub [1, 2, 0, 3, 4] rfl) (hD.sub [1, 2, 0, 3, 4] (by decide +kernel) rfl) d_M_get_109
          · exact absurd (by rw [hr8]; exact nI_pos' hs9) c_5
      · exact absurd (by decide) c_3
    · exact absurd c_2 hrd
  · exact absurd (show 0 ≤ nI jj ∧ nI jj ≤ nI km - 1 from (isN_iff (k := km) (by have := hMD.1; omega)).mpr ⟨jj, hj, rfl⟩) (by rw [hmod] at hw_7; exact one_eq hw_7 c_1)
set_option maxHeartbeats 2000000 in
set_option maxRecDepth 100000 in
theorem m_get1X (l : Launch) (dC : Nat → ClassId) (dI : Nat → Nat → Nat) (cI cM cO : ClassId) (sz : Nat) (o : Nat) (g : Nat → Nat) (fShift : Int32) (fModels : Int32) (fItems : Int32) (fEnded : Int32) (fLow : Int64) (fRange : Int64) (fCache : Int32) (fPend : Int32) (fGoes : Int32) (fOuts : Int32) (fReads : Int32) (fIR : Int32) (fBAsk : Int32) (fX : Int64) (fWrites : Int32) (fThrown : Int32) (vMany : Nat → Int32) (vCounts : Nat → Int32) (vThen : Nat → Int32) (vIn : Nat → Int32) (km : Nat) (N : Nat → Nat) (jj : Nat) (F : Nat → Nat) (RR : Nat) (L : Nat) (CD : Nat) (is : List Nat) (q : Nat) (hmod : fModels = nI km) (hMD : MD km N vMany vCounts) (hj : jj < km) (hrd : ¬ fReads = 0) (hp : pOk RR L) (hC : CD < 4294967296) (hIn : gIs vIn is) (hlen : is.length ≤ 6000) (hoct : oct is) (hq : q < 700000) (hF : sgI vThen (64 * jj) (N jj) F) (hs : ns F (N jj) ≤ 8192) (hG : (gr1 is (N jj) F (RR, L, CD, q)).1 = none) : MetI l y_M_get (Cond.code y_M_get prog_14_method_56_code 3 (some .int) :: gw) ({ frames := 4, cells := 0, slots := 0, locals := 93 } : Room) (dC, dI) vwCl (kT cI cM cO) [Value.ref o, Value.int (nI jj)] [(o, Sum.inr (9, mO g 1 fShift fModels fItems fEnded fLow fRange fCache fPend fGoes fOuts (nI is.length) fReads 0 fIR (nI q) fBAsk (lN CD) (lN L) (lN RR) fX fWrites fThrown)), ((g 0), Sum.inl (cI, 8, Sum.inl vMany)), ((g 1), Sum.inl (cI, 512, Sum.inl vCounts)), ((g 3), Sum.inl (cI, 512, Sum.inl vThen)), ((g 8), Sum.inl (cI, 6000, Sum.inl vIn))] sz (fun (r : Int32) (u : (Nat → Int32)) => r = -5 ∧ sgI u (64 * jj) (N jj) (gr1 is (N jj) F (RR, L, CD, q)).2.2 ∧ sgO u vThen (64 * jj) 64) (fun (u : (Nat → Int32)) => [(o, Sum.inr (9, mO g 1 fShift fModels fItems fEnded fLow fRange fCache fPend fGoes fOuts (nI is.length) fReads 1 fIR (nI (gr1 is (N jj) F (RR, L, CD, q)).2.1.2.2.2) fBAsk (lN (gr1 is (N jj) F (RR, L, CD, q)).2.1.2.2.1) (lN (gr1 is (N jj) F (RR, L, CD, q)).2.1.2.1) (lN (gr1 is (N jj) F (RR, L, CD, q)).2.1.1) fX fWrites 0)), ((g 0), Sum.inl (cI, 8, Sum.inl vMany)), ((g 1), Sum.inl (cI, 512, Sum.inl vCounts)), ((g 3), Sum.inl (cI, 512, Sum.inl u)), ((g 8), Sum.inl (cI, 6000, Sum.inl vIn))]) 0 0 := by
  refine my_ofI (cc := prog_14_method_56_code) (n := 3) (ret := (some .int)) (by decide) rfl (Nat.le_of_ble_eq_true rfl) ?_
  intro p e s m args below meth c R Q A ls H locs hx hb hr hts hown hlocks hml hnm hR hQ hA hl hP hK hN hD hS
  have hg : ∀ w ∈ gw, w.before args s = true := fun w h => hts w (List.mem_cons_of_mem _ h)
  have hown : s.vm.findClass "RangeCodersModel" = some m.cls := hown
  have hl : lv_has ls 3 [(0, Value.ref o), (1, Value.int (nI jj))] := hl
  have hk8 := hMD.1
  obtain ⟨hn9, hn2, hn64, C9, hc9, hB9⟩ := hMD.2 jj hj
  refine lv_aload_n hx hb d_M_get_0 rfl (lv_at hl 0 rfl) ?_
  refine lv_iconst (v := 0) hx hb d_M_get_1 (by decide) ?_
  refine va_put (D := (dC, dI)) (ci := 9) (v := .int 0) (ty := .int) (C := "RangeCodersModel") (T := T_M) (N := 35) hx hb hg in_M t_M o_M n_M hown hK hP hD hS 0 rfl rfl 34 (by decide) (hg _ k986) (fun _ h9 => h9) rfl (o_M 34 (by decide)) rfl rfl (Nat.le_of_ble_eq_true rfl) d_M_get_2 (fun H locs hP hD hS => ?_)
  have hPD : my_PD (dC, dI) vwCl A [(o, Sum.inr (9, mO g 1 fShift fModels fItems fEnded fLow fRange fCache fPend fGoes fOuts (nI is.length) fReads 0 fIR (nI q) fBAsk (lN CD) (lN L) (lN RR) fX fWrites 0)), ((g 0), Sum.inl (cI, 8, Sum.inl vMany)), ((g 1), Sum.inl (cI, 512, Sum.inl vCounts)), ((g 3), Sum.inl (cI, 512, Sum.inl vThen)), ((g 8), Sum.inl (cI, 6000, Sum.inl vIn))] H := ⟨hP, hD⟩
  have hP := hPD.1
  have hD := hPD.2
  refine lv_aload_n hx hb d_M_get_5 rfl (lv_at hl 0 rfl) ?_
  refine lv_iload_n hx hb d_M_get_6 rfl (lv_at hl 1 rfl) ?_
  refine my_ci (wr := [((g 0), Sum.inl (cI, 8, Sum.inl vMany)), ((g 1), Sum.inl (cI, 512, Sum.inl vCounts)), ((g 3), Sum.inl (cI, 512, Sum.inl vThen)), ((g 8), Sum.inl (cI, 6000, Sum.inl vIn))]) (va_runV (As := [Value.int (nI jj)]) (rest := []) ⟨hx, hb, hml, hown, hts⟩ (c_M_isModel l dC dI cI cM cO H.size o g 1 fShift fModels fItems fEnded fLow fRange fCache fPend fGoes fOuts (nI is.length) fReads 0 fIR (nI q) fBAsk (lN CD) (lN L) (lN RR) fX fWrites 0 (nI jj)) (cwV 1 hts (my_gV k1073 k1075 ks26 k12 k1076) rfl rfl rfl cu_M_isModel_1 ⟨by rw [hR]; exact Nat.le_of_ble_eq_true rfl, by rw [hR]; exact Nat.le_of_ble_eq_true rfl⟩) (my_preV hK hN (hP.sub [0] rfl) (hD.sub [0] (by decide +kernel) rfl) 0 rfl rfl) rfl rfl hl.1 rfl (lv_room (Nat.le_of_ble_eq_true rfl)) d_M_get_7 ⟨by rw [hR]; exact Nat.le_of_ble_eq_true rfl, by rw [hR]; exact Nat.le_of_ble_eq_true rfl⟩) hP hD hS hA [0] [1, 2, 3, 4] rfl rfl (by decide +kernel) (by decide +kernel) (fun r_7 u9 H locs hw_7 hP hD hS => ?_)
  have hw_7 : r_7 = if 0 ≤ (nI jj) ∧ (nI jj) ≤ fModels - 1 then 1 else 0 := hw_7
  have hPD : my_PD (dC, dI) vwCl A [((g 0), Sum.inl (cI, 8, Sum.inl vMany)), ((g 1), Sum.inl (cI, 512, Sum.inl vCounts)), ((g 3), Sum.inl (cI, 512, Sum.inl vThen)), ((g 8), Sum.inl (cI, 6000, Sum.inl vIn)), (o, Sum.inr (9, mO g 1 fShift fModels fItems fEnded fLow fRange fCache fPend fGoes fOuts (nI is.length) fReads 0 fIR (nI q) fBAsk (lN CD) (lN L) (lN RR) fX fWrites 0))] H := ⟨hP, hD⟩
  have hP := hPD.1
  have hD := hPD.2
  refine lv_if_ne (tgt := 15) hx hb d_M_get_10 (by decide) (fun c_1 => ?_) (fun c_1 => ?_)
  · refine lv_aload_n hx hb d_M_get_15 rfl (lv_at hl 0 rfl) ?_
    refine va_get (D := (dC, dI)) (ci := 9) (v := .int fReads) (C := "RangeCodersModel") (T := T_M) (N := 35) hx hb hg in_M hown hK hP 4 rfl rfl 21 (by decide) (hg _ k973) (fun _ h9 => h9) rfl d_M_get_16 ?_
    refine lv_if_ne (tgt := 25) hx hb d_M_get_19 (by decide) (fun c_2 => ?_) (fun c_2 => ?_)
    · refine lv_aload_n hx hb d_M_get_25 rfl (lv_at hl 0 rfl) ?_
      refine va_get (D := (dC, dI)) (ci := 9) (v := .int 0) (C := "RangeCodersModel") (T := T_M) (N := 35) hx hb hg in_M hown hK hP 4 rfl rfl 22 (by decide) (hg _ k974) (fun _ h9 => h9) rfl d_M_get_26 ?_
      refine lv_if_eq (tgt := 35) hx hb d_M_get_29 (by decide) (fun c_3 => ?_) (fun c_3 => ?_)
      · refine lv_aload_n hx hb d_M_get_35 rfl (lv_at hl 0 rfl) ?_
        refine va_get (D := (dC, dI)) (ci := 9) (v := .int 1) (C := "RangeCodersModel") (T := T_M) (N := 35) hx hb hg in_M hown hK hP 4 rfl rfl 0 (by decide) (hg _ k952) (fun _ h9 => h9) rfl d_M_get_36 ?_
        refine lv_iconst (v := 2) hx hb d_M_get_39 (by decide) ?_
        refine lv_icmp_ge (tgt := 51) hx hb d_M_get_40 (by decide) (fun c_4 => ?_) (fun c_4 => ?_)
        · exact absurd c_4 (by decide)
        · refine lv_aload_n hx hb d_M_get_43 rfl (lv_at hl 0 rfl) ?_
          refine lv_iload_n hx hb d_M_get_44 rfl (lv_at hl 1 rfl) ?_
          refine my_ci (wr := [((g 1), Sum.inl (cI, 512, Sum.inl vCounts))]) (va_runV (As := [Value.int (nI jj)]) (rest := []) ⟨hx, hb, hml, hown, hts⟩ (c_M_getRanged1 l dC dI cI cM cO H.size o g fShift fModels fItems fEnded fLow fRange fCache fPend fGoes fOuts fReads 0 fIR fBAsk fX fWrites 0 vMany vThen vIn jj (N jj) F RR L CD is q (by omega) (hn9) (hn64) (by omega) (hIn) (hlen) (hoct) (by omega) (hF) (hs) (hp) (hC)) (cwV 1 hts (my_gV k1206 k1208 ks47 k12 k1209) rfl rfl rfl cu_M_getRanged_1 ⟨by rw [hR]; exact Nat.le_of_ble_eq_true rfl, by rw [hR]; exact Nat.le_of_ble_eq_true rfl⟩) (my_preV hK hN (hP.sub [4, 0, 2, 3] rfl) (hD.sub [4, 0, 2, 3] (by decide +kernel) rfl) 0 rfl rfl) rfl rfl hl.1 rfl (lv_room (Nat.le_of_ble_eq_true rfl)) d_M_get_45 ⟨by rw [hR]; exact Nat.le_of_ble_eq_true rfl, by rw [hR]; exact Nat.le_of_ble_eq_true rfl⟩) hP hD hS hA [4, 0, 2, 3] [1] rfl rfl (by decide +kernel) (by decide +kernel) (fun r_45 u9 H locs hw_45 hP hD hS => ?_)
          obtain ⟨f2_45, rfl⟩ : ∃ z, z = u9 := ⟨_, rfl⟩
          have hw_45 : r_45 = oI (gr1 is (N jj) F (RR, L, CD, q)).1 ∧ sgI f2_45 (64 * jj) (N jj) (gr1 is (N jj) F (RR, L, CD, q)).2.2 ∧ sgO f2_45 vThen (64 * jj) (N jj) := hw_45
          have hPD : my_PD (dC, dI) vwCl A [((g 1), Sum.inl (cI, 512, Sum.inl vCounts)), (o, Sum.inr (9, mO g 1 fShift fModels fItems fEnded fLow fRange fCache fPend fGoes fOuts (nI is.length) fReads 0 fIR (nI (gr1 is (N jj) F (RR, L, CD, q)).2.1.2.2.2) fBAsk (lN (gr1 is (N jj) F (RR, L, CD, q)).2.1.2.2.1) (lN (gr1 is (N jj) F (RR, L, CD, q)).2.1.2.1) (lN (gr1 is (N jj) F (RR, L, CD, q)).2.1.1) fX fWrites 0)), ((g 0), Sum.inl (cI, 8, Sum.inl vMany)), ((g 3), Sum.inl (cI, 512, Sum.inl f2_45)), ((g 8), Sum.inl (cI, 6000, Sum.inl vIn))] H := ⟨hP, hD⟩
          have hP := hPD.1
          have hD := hPD.2
          refine lv_goto (tgt := 88) hx hb d_M_get_48 (by decide) ?_
          have hr8 : r_45 = -1 := by rw [hw_45.1, hG]; rfl
          refine lv_istore_n (lv' := [(2, Value.int r_45), (0, Value.ref o), (1, Value.int (nI jj))]) hx hb d_M_get_88 rfl hl (by decide) rfl (fun ls hl => ?_)
          refine lv_iload_n hx hb d_M_get_89 rfl (lv_at hl 0 rfl) ?_
          refine lv_if_ge (tgt := 98) hx hb d_M_get_90 (by decide) (fun c_5 => ?_) (fun c_5 => ?_)
          · exact absurd c_5 (by rw [hr8]; decide)
          · refine lv_aload_n hx hb d_M_get_93 rfl (lv_at hl 1 rfl) ?_
            refine my_ci (wr := [((g 1), Sum.inl (cI, 512, Sum.inl vCounts)), ((g 0), Sum.inl (cI, 8, Sum.inl vMany)), ((g 3), Sum.inl (cI, 512, Sum.inl f2_45)), ((g 8), Sum.inl (cI, 6000, Sum.inl vIn))]) (va_runV (As := []) (rest := []) ⟨hx, hb, hml, hown, hts⟩ (c_M_spoiled l dC dI cI cM cO H.size o g 1 fShift fModels fItems fEnded fLow fRange fCache fPend fGoes fOuts (nI is.length) fReads 0 fIR (nI (gr1 is (N jj) F (RR, L, CD, q)).2.1.2.2.2) fBAsk (lN (gr1 is (N jj) F (RR, L, CD, q)).2.1.2.2.1) (lN (gr1 is (N jj) F (RR, L, CD, q)).2.1.2.1) (lN (gr1 is (N jj) F (RR, L, CD, q)).2.1.1) fX fWrites 0) (cwV 0 hts (my_gV k1252 k1254 ks58 k12 k1255) rfl rfl rfl cu_M_spoiled_0 ⟨by rw [hR]; exact Nat.le_of_ble_eq_true rfl, by rw [hR]; exact Nat.le_of_ble_eq_true rfl⟩) (my_preV hK hN (hP.sub [1] rfl) (hD.sub [1] (by decide +kernel) rfl) 0 rfl rfl) rfl rfl hl.1 rfl (lv_room (Nat.le_of_ble_eq_true rfl)) d_M_get_94 ⟨by rw [hR]; exact Nat.le_of_ble_eq_true rfl, by rw [hR]; exact Nat.le_of_ble_eq_true rfl⟩) hP hD hS hA [1] [0, 2, 3, 4] rfl rfl (by decide +kernel) (by decide +kernel) (fun r_94 u9 H locs hw_94 hP hD hS => ?_)
            have hw_94 : r_94 = -5 := hw_94
            have hPD : my_PD (dC, dI) vwCl A [((g 1), Sum.inl (cI, 512, Sum.inl vCounts)), ((g 0), Sum.inl (cI, 8, Sum.inl vMany)), ((g 3), Sum.inl (cI, 512, Sum.inl f2_45)), ((g 8), Sum.inl (cI, 6000, Sum.inl vIn)), (o, Sum.inr (9, mO g 1 fShift fModels fItems fEnded fLow fRange fCache fPend fGoes fOuts (nI is.length) fReads 1 fIR (nI (gr1 is (N jj) F (RR, L, CD, q)).2.1.2.2.2) fBAsk (lN (gr1 is (N jj) F (RR, L, CD, q)).2.1.2.2.1) (lN (gr1 is (N jj) F (RR, L, CD, q)).2.1.2.1) (lN (gr1 is (N jj) F (RR, L, CD, q)).2.1.1) fX fWrites 0))] H := ⟨hP, hD⟩
            have hP := hPD.1
            have hD := hPD.2
            exact my_iret (v := r_94) hx hb hr (rfl) hlocks hQ hK hS (Nat.le_refl _) (Nat.le_refl _) (f2_45) (⟨hw_94, hw_45.2.1, sgO_w hw_45.2.2 hn64⟩) (hP.sub [4, 1, 0, 2, 3] rfl) (hD.sub [4, 1, 0, 2, 3] (by decide +kernel) rfl) d_M_get_97
      · exact absurd (by decide) c_3
    · exact absurd c_2 hrd
  · exact absurd (show 0 ≤ nI jj ∧ nI jj ≤ nI km - 1 from (isN_iff (k := km) (by have := hMD.1; omega)).mpr ⟨jj, hj, rfl⟩) (by rw [hmod] at hw_7; exact one_eq hw_7 c_1)
set_option maxHeartbeats 2000000 in
set_option maxRecDepth 100000 in
theorem m_get2L (l : Launch) (dC : Nat → ClassId) (dI : Nat → Nat → Nat) (cI cM cO : ClassId) (sz : Nat) (o : Nat) (g : Nat → Nat) (fModels : Int32) (fItems : Int32) (fEnded : Int32) (fLow : Int64) (fRange : Int64) (fCache : Int32) (fPend : Int32) (fGoes : Int32) (fOuts : Int32) (fReads : Int32) (fIR : Int32) (fBAsk : Int32) (fRL : Int64) (fX : Int64) (fWrites : Int32) (fThrown : Int32) (vMany : Nat → Int32) (vCounts : Nat → Int32) (vThen : Nat → Int32) (vIn : Nat → Int32) (km : Nat) (N : Nat → Nat) (jj : Nat) (F : Nat → Nat) (RR : Nat) (CD : Nat) (is : List Nat) (q : Nat) (sh : Nat) (s9 : Nat) (hmod : fModels = nI km) (hMD : MD km N vMany vCounts) (hj : jj < km) (hrd : ¬ fReads = 0) (hI : rInv (RR, CD, q)) (hs1 : 1 ≤ sh) (hs2 : sh ≤ 10) (hIn : gIs vIn is) (hlen : is.length ≤ 6000) (hoct : oct is) (hq : q < 700000) (hF : sgI vThen (64 * jj) 64 F) (hs : ∀ k, k < 64 → 1 ≤ F k ∧ F k ≤ 2047) (hG : (gnS is sh (N jj) (RR, CD, q) F).1 = some s9) (hs9 : s9 < 2147483648) : MetI l y_M_get (Cond.code y_M_get prog_14_method_56_code 3 (some .int) :: gw) ({ frames := 4, cells := 0, slots := 0, locals := 90 } : Room) (dC, dI) vwCl (kT cI cM cO) [Value.ref o, Value.int (nI jj)] [(o, Sum.inr (9, mO g 2 (nI sh) fModels fItems fEnded fLow fRange fCache fPend fGoes fOuts (nI is.length) fReads 0 fIR (nI q) fBAsk (lN CD) fRL (lN RR) fX fWrites fThrown)), ((g 0), Sum.inl (cI, 8, Sum.inl vMany)), ((g 1), Sum.inl (cI, 512, Sum.inl vCounts)), ((g 3), Sum.inl (cI, 512, Sum.inl vThen)), ((g 8), Sum.inl (cI, 6000, Sum.inl vIn))] sz (fun (r : Int32) (u : (Nat → Int32) × Int32) => r = nI s9 ∧ sgI u.1 (64 * jj) (64) (gnS is sh (N jj) (RR, CD, q) F).2.2 ∧ sgO u.1 vThen (64 * jj) 64) (fun (u : (Nat → Int32) × Int32) => [(o, Sum.inr (9, mO g 2 (nI sh) fModels fItems fEnded fLow fRange fCache fPend fGoes fOuts (nI is.length) fReads 0 u.2 (nI (gnS is sh (N jj) (RR, CD, q) F).2.1.2.2) fBAsk (lN (gnS is sh (N jj) (RR, CD, q) F).2.1.2.1) fRL (lN (gnS is sh (N jj) (RR, CD, q) F).2.1.1) fX fWrites 0)), ((g 0), Sum.inl (cI, 8, Sum.inl vMany)), ((g 1), Sum.inl (cI, 512, Sum.inl vCounts)), ((g 3), Sum.inl (cI, 512, Sum.inl u.1)), ((g 8), Sum.inl (cI, 6000, Sum.inl vIn))]) 0 0 := by
  refine my_ofI (cc := prog_14_method_56_code) (n := 3) (ret := (some .int)) (by decide) rfl (Nat.le_of_ble_eq_true rfl) ?_
  intro p e s m args below meth c R Q A ls H locs hx hb hr hts hown hlocks hml hnm hR hQ hA hl hP hK hN hD hS
  have hg : ∀ w ∈ gw, w.before args s = true := fun w h => hts w (List.mem_cons_of_mem _ h)
  have hown : s.vm.findClass "RangeCodersModel" = some m.cls := hown
  have hl : lv_has ls 3 [(0, Value.ref o), (1, Value.int (nI jj))] := hl
  have hk8 := hMD.1
  obtain ⟨hn9, hn2, hn64, C9, hc9, hB9⟩ := hMD.2 jj hj
  refine lv_aload_n hx hb d_M_get_0 rfl (lv_at hl 0 rfl) ?_
  refine lv_iconst (v := 0) hx hb d_M_get_1 (by decide) ?_
  refine va_put (D := (dC, dI)) (ci := 9) (v := .int 0) (ty := .int) (C := "RangeCodersModel") (T := T_M) (N := 35) hx hb hg in_M t_M o_M n_M hown hK hP hD hS 0 rfl rfl 34 (by decide) (hg _ k986) (fun _ h9 => h9) rfl (o_M 34 (by decide)) rfl rfl (Nat.le_of_ble_eq_true rfl) d_M_get_2 (fun H locs hP hD hS => ?_)
  have hPD : my_PD (dC, dI) vwCl A [(o, Sum.inr (9, mO g 2 (nI sh) fModels fItems fEnded fLow fRange fCache fPend fGoes fOuts (nI is.length) fReads 0 fIR (nI q) fBAsk (lN CD) fRL (lN RR) fX fWrites 0)), ((g 0), Sum.inl (cI, 8, Sum.inl vMany)), ((g 1), Sum.inl (cI, 512, Sum.inl vCounts)), ((g 3), Sum.inl (cI, 512, Sum.inl vThen)), ((g 8), Sum.inl (cI, 6000, Sum.inl vIn))] H := ⟨hP, hD⟩
  have hP := hPD.1
  have hD := hPD.2
  refine lv_aload_n hx hb d_M_get_5 rfl (lv_at hl 0 rfl) ?_
  refine lv_iload_n hx hb d_M_get_6 rfl (lv_at hl 1 rfl) ?_
  refine my_ci (wr := [((g 0), Sum.inl (cI, 8, Sum.inl vMany)), ((g 1), Sum.inl (cI, 512, Sum.inl vCounts)), ((g 3), Sum.inl (cI, 512, Sum.inl vThen)), ((g 8), Sum.inl (cI, 6000, Sum.inl vIn))]) (va_runV (As := [Value.int (nI jj)]) (rest := []) ⟨hx, hb, hml, hown, hts⟩ (c_M_isModel l dC dI cI cM cO H.size o g 2 (nI sh) fModels fItems fEnded fLow fRange fCache fPend fGoes fOuts (nI is.length) fReads 0 fIR (nI q) fBAsk (lN CD) fRL (lN RR) fX fWrites 0 (nI jj)) (cwV 1 hts (my_gV k1073 k1075 ks26 k12 k1076) rfl rfl rfl cu_M_isModel_1 ⟨by rw [hR]; exact Nat.le_of_ble_eq_true rfl, by rw [hR]; exact Nat.le_of_ble_eq_true rfl⟩) (my_preV hK hN (hP.sub [0] rfl) (hD.sub [0] (by decide +kernel) rfl) 0 rfl rfl) rfl rfl hl.1 rfl (lv_room (Nat.le_of_ble_eq_true rfl)) d_M_get_7 ⟨by rw [hR]; exact Nat.le_of_ble_eq_true rfl, by rw [hR]; exact Nat.le_of_ble_eq_true rfl⟩) hP hD hS hA [0] [1, 2, 3, 4] rfl rfl (by decide +kernel) (by decide +kernel) (fun r_7 u9 H locs hw_7 hP hD hS => ?_)
  have hw_7 : r_7 = if 0 ≤ (nI jj) ∧ (nI jj) ≤ fModels - 1 then 1 else 0 := hw_7
  have hPD : my_PD (dC, dI) vwCl A [((g 0), Sum.inl (cI, 8, Sum.inl vMany)), ((g 1), Sum.inl (cI, 512, Sum.inl vCounts)), ((g 3), Sum.inl (cI, 512, Sum.inl vThen)), ((g 8), Sum.inl (cI, 6000, Sum.inl vIn)), (o, Sum.inr (9, mO g 2 (nI sh) fModels fItems fEnded fLow fRange fCache fPend fGoes fOuts (nI is.length) fReads 0 fIR (nI q) fBAsk (lN CD) fRL (lN RR) fX fWrites 0))] H := ⟨hP, hD⟩
  have hP := hPD.1
  have hD := hPD.2
  refine lv_if_ne (tgt := 15) hx hb d_M_get_10 (by decide) (fun c_1 => ?_) (fun c_1 => ?_)
  · refine lv_aload_n hx hb d_M_get_15 rfl (lv_at hl 0 rfl) ?_
    refine va_get (D := (dC, dI)) (ci := 9) (v := .int fReads) (C := "RangeCodersModel") (T := T_M) (N := 35) hx hb hg in_M hown hK hP 4 rfl rfl 21 (by decide) (hg _ k973) (fun _ h9 => h9) rfl d_M_get_16 ?_
    refine lv_if_ne (tgt := 25) hx hb d_M_get_19 (by decide) (fun c_2 => ?_) (fun c_2 => ?_)
    · refine lv_aload_n hx hb d_M_get_25 rfl (lv_at hl 0 rfl) ?_
      refine va_get (D := (dC, dI)) (ci := 9) (v := .int 0) (C := "RangeCodersModel") (T := T_M) (N := 35) hx hb hg in_M hown hK hP 4 rfl rfl 22 (by decide) (hg _ k974) (fun _ h9 => h9) rfl d_M_get_26 ?_
      refine lv_if_eq (tgt := 35) hx hb d_M_get_29 (by decide) (fun c_3 => ?_) (fun c_3 => ?_)
      · refine lv_aload_n hx hb d_M_get_35 rfl (lv_at hl 0 rfl) ?_
        refine va_get (D := (dC, dI)) (ci := 9) (v := .int 2) (C := "RangeCodersModel") (T := T_M) (N := 35) hx hb hg in_M hown hK hP 4 rfl rfl 0 (by decide) (hg _ k952) (fun _ h9 => h9) rfl d_M_get_36 ?_
        refine lv_iconst (v := 2) hx hb d_M_get_39 (by decide) ?_
        refine lv_icmp_ge (tgt := 51) hx hb d_M_get_40 (by decide) (fun c_4 => ?_) (fun c_4 => ?_)
        · refine lv_aload_n hx hb d_M_get_51 rfl (lv_at hl 0 rfl) ?_
          refine va_get (D := (dC, dI)) (ci := 9) (v := .int 2) (C := "RangeCodersModel") (T := T_M) (N := 35) hx hb hg in_M hown hK hP 4 rfl rfl 0 (by decide) (hg _ k952) (fun _ h9 => h9) rfl d_M_get_52 ?_
          refine lv_iconst (v := 2) hx hb d_M_get_55 (by decide) ?_
          refine lv_icmp_ne (tgt := 67) hx hb d_M_get_56 (by decide) (fun c_5 => ?_) (fun c_5 => ?_)
          · exact absurd rfl c_5
          · refine lv_aload_n hx hb d_M_get_59 rfl (lv_at hl 0 rfl) ?_
            refine lv_iload_n hx hb d_M_get_60 rfl (lv_at hl 1 rfl) ?_
            refine my_ci (wr := [((g 1), Sum.inl (cI, 512, Sum.inl vCounts))]) (va_runV (As := [Value.int (nI jj)]) (rest := []) ⟨hx, hb, hml, hown, hts⟩ (c_M_getNode l dC dI cI cM cO H.size o g 2 fModels fItems fEnded fLow fRange fCache fPend fGoes fOuts fReads 0 fIR fBAsk fRL fX fWrites 0 vMany vThen vIn jj (N jj) sh F RR CD is q (by omega) (hn9) (hn64) (hn2) (hIn) (hlen) (hoct) (by omega) (hF) (hs) (hs1) (hs2) (hI)) (cwV 1 hts (my_gV k1231 k1233 ks53 k12 k1234) rfl rfl rfl cu_M_getNode_1 ⟨by rw [hR]; exact Nat.le_of_ble_eq_true rfl, by rw [hR]; exact Nat.le_of_ble_eq_true rfl⟩) (my_preV hK hN (hP.sub [4, 0, 2, 3] rfl) (hD.sub [4, 0, 2, 3] (by decide +kernel) rfl) 0 rfl rfl) rfl rfl hl.1 rfl (lv_room (Nat.le_of_ble_eq_true rfl)) d_M_get_61 ⟨by rw [hR]; exact Nat.le_of_ble_eq_true rfl, by rw [hR]; exact Nat.le_of_ble_eq_true rfl⟩) hP hD hS hA [4, 0, 2, 3] [1] rfl rfl (by decide +kernel) (by decide +kernel) (fun r_61 u9 H locs hw_61 hP hD hS => ?_)
            obtain ⟨f2_61, rfl⟩ : ∃ z, z = u9 := ⟨_, rfl⟩
            have hw_61 : r_61 = oI (gnS is sh (N jj) (RR, CD, q) F).1 ∧ sgI f2_61 (64 * jj) 64 (gnS is sh (N jj) (RR, CD, q) F).2.2 ∧ sgO f2_61 vThen (64 * jj) 64 := hw_61
            have hPD : my_PD (dC, dI) vwCl A [((g 1), Sum.inl (cI, 512, Sum.inl vCounts)), (o, Sum.inr (9, mO g 2 (nI sh) fModels fItems fEnded fLow fRange fCache fPend fGoes fOuts (nI is.length) fReads 0 fIR (nI (gnS is sh (N jj) (RR, CD, q) F).2.1.2.2) fBAsk (lN (gnS is sh (N jj) (RR, CD, q) F).2.1.2.1) fRL (lN (gnS is sh (N jj) (RR, CD, q) F).2.1.1) fX fWrites 0)), ((g 0), Sum.inl (cI, 8, Sum.inl vMany)), ((g 3), Sum.inl (cI, 512, Sum.inl f2_61)), ((g 8), Sum.inl (cI, 6000, Sum.inl vIn))] H := ⟨hP, hD⟩
            have hP := hPD.1
            have hD := hPD.2
            refine lv_goto (tgt := 88) hx hb d_M_get_64 (by decide) ?_
            have hr8 : r_61 = nI s9 := by rw [hw_61.1, hG]; rfl
            refine lv_istore_n (lv' := [(2, Value.int r_61), (0, Value.ref o), (1, Value.int (nI jj))]) hx hb d_M_get_88 rfl hl (by decide) rfl (fun ls hl => ?_)
            refine lv_iload_n hx hb d_M_get_89 rfl (lv_at hl 0 rfl) ?_
            refine lv_if_ge (tgt := 98) hx hb d_M_get_90 (by decide) (fun c_6 => ?_) (fun c_6 => ?_)
            · refine lv_aload_n hx hb d_M_get_98 rfl (lv_at hl 1 rfl) ?_
              refine lv_dup hx hb d_M_get_99 rfl ?_
              refine va_get (D := (dC, dI)) (ci := 9) (v := .int fIR) (C := "RangeCodersModel") (T := T_M) (N := 35) hx hb hg in_M hown hK hP 1 rfl rfl 23 (by decide) (hg _ k975) (fun _ h9 => h9) rfl d_M_get_100 ?_
              refine lv_iconst (v := 1) hx hb d_M_get_103 (by decide) ?_
              refine lv_iadd hx hb d_M_get_104 ?_
              refine lv_topi (fun v_7 ev_7 => ?_)
              refine va_put (D := (dC, dI)) (ci := 9) (v := .int v_7) (ty := .int) (C := "RangeCodersModel") (T := T_M) (N := 35) hx hb hg in_M t_M o_M n_M hown hK hP hD hS 1 rfl rfl 23 (by decide) (hg _ k975) (fun _ h9 => h9) rfl (o_M 23 (by decide)) rfl rfl (Nat.le_of_ble_eq_true rfl) d_M_get_105 (fun H locs hP hD hS => ?_)
              have hPD : my_PD (dC, dI) vwCl A [((g 1), Sum.inl (cI, 512, Sum.inl vCounts)), (o, Sum.inr (9, mO g 2 (nI sh) fModels fItems fEnded fLow fRange fCache fPend fGoes fOuts (nI is.length) fReads 0 v_7 (nI (gnS is sh (N jj) (RR, CD, q) F).2.1.2.2) fBAsk (lN (gnS is sh (N jj) (RR, CD, q) F).2.1.2.1) fRL (lN (gnS is sh (N jj) (RR, CD, q) F).2.1.1) fX fWrites 0)), ((g 0), Sum.inl (cI, 8, Sum.inl vMany)), ((g 3), Sum.inl (cI, 512, Sum.inl f2_61)), ((g 8), Sum.inl (cI, 6000, Sum.inl vIn))] H := ⟨hP, hD⟩
              have hP := hPD.1
              have hD := hPD.2
              refine lv_iload_n hx hb d_M_get_108 rfl (lv_at hl 0 rfl) ?_
              exact my_iret (v := r_61) hx hb hr (rfl) hlocks hQ hK hS (Nat.le_refl _) (Nat.le_refl _) (f2_61, v_7) (⟨hr8, hw_61.2.1, hw_61.2.2⟩) (hP.sub [1, 2, 0, 3, 4] rfl) (hD.sub [1, 2, 0, 3, 4] (by decide +kernel) rfl) d_M_get_109
            · exact absurd (by rw [hr8]; exact nI_pos' hs9) c_6
        · exact absurd (by decide) c_4
      · exact absurd (by decide) c_3
    · exact absurd c_2 hrd
  · exact absurd (show 0 ≤ nI jj ∧ nI jj ≤ nI km - 1 from (isN_iff (k := km) (by have := hMD.1; omega)).mpr ⟨jj, hj, rfl⟩) (by rw [hmod] at hw_7; exact one_eq hw_7 c_1)
set_option maxHeartbeats 2000000 in
set_option maxRecDepth 100000 in
theorem m_get2X (l : Launch) (dC : Nat → ClassId) (dI : Nat → Nat → Nat) (cI cM cO : ClassId) (sz : Nat) (o : Nat) (g : Nat → Nat) (fModels : Int32) (fItems : Int32) (fEnded : Int32) (fLow : Int64) (fRange : Int64) (fCache : Int32) (fPend : Int32) (fGoes : Int32) (fOuts : Int32) (fReads : Int32) (fIR : Int32) (fBAsk : Int32) (fRL : Int64) (fX : Int64) (fWrites : Int32) (fThrown : Int32) (vMany : Nat → Int32) (vCounts : Nat → Int32) (vThen : Nat → Int32) (vIn : Nat → Int32) (km : Nat) (N : Nat → Nat) (jj : Nat) (F : Nat → Nat) (RR : Nat) (CD : Nat) (is : List Nat) (q : Nat) (sh : Nat) (hmod : fModels = nI km) (hMD : MD km N vMany vCounts) (hj : jj < km) (hrd : ¬ fReads = 0) (hI : rInv (RR, CD, q)) (hs1 : 1 ≤ sh) (hs2 : sh ≤ 10) (hIn : gIs vIn is) (hlen : is.length ≤ 6000) (hoct : oct is) (hq : q < 700000) (hF : sgI vThen (64 * jj) 64 F) (hs : ∀ k, k < 64 → 1 ≤ F k ∧ F k ≤ 2047) (hG : (gnS is sh (N jj) (RR, CD, q) F).1 = none) : MetI l y_M_get (Cond.code y_M_get prog_14_method_56_code 3 (some .int) :: gw) ({ frames := 4, cells := 0, slots := 0, locals := 90 } : Room) (dC, dI) vwCl (kT cI cM cO) [Value.ref o, Value.int (nI jj)] [(o, Sum.inr (9, mO g 2 (nI sh) fModels fItems fEnded fLow fRange fCache fPend fGoes fOuts (nI is.length) fReads 0 fIR (nI q) fBAsk (lN CD) fRL (lN RR) fX fWrites fThrown)), ((g 0), Sum.inl (cI, 8, Sum.inl vMany)), ((g 1), Sum.inl (cI, 512, Sum.inl vCounts)), ((g 3), Sum.inl (cI, 512, Sum.inl vThen)), ((g 8), Sum.inl (cI, 6000, Sum.inl vIn))] sz (fun (r : Int32) (u : (Nat → Int32)) => r = -5 ∧ sgI u (64 * jj) (64) (gnS is sh (N jj) (RR, CD, q) F).2.2 ∧ sgO u vThen (64 * jj) 64) (fun (u : (Nat → Int32)) => [(o, Sum.inr (9, mO g 2 (nI sh) fModels fItems fEnded fLow fRange fCache fPend fGoes fOuts (nI is.length) fReads 1 fIR (nI (gnS is sh (N jj) (RR, CD, q) F).2.1.2.2) fBAsk (lN (gnS is sh (N jj) (RR, CD, q) F).2.1.2.1) fRL (lN (gnS is sh (N jj) (RR, CD, q) F).2.1.1) fX fWrites 0)), ((g 0), Sum.inl (cI, 8, Sum.inl vMany)), ((g 1), Sum.inl (cI, 512, Sum.inl vCounts)), ((g 3), Sum.inl (cI, 512, Sum.inl u)), ((g 8), Sum.inl (cI, 6000, Sum.inl vIn))]) 0 0 := by
  refine my_ofI (cc := prog_14_method_56_code) (n := 3) (ret := (some .int)) (by decide) rfl (Nat.le_of_ble_eq_true rfl) ?_
  intro p e s m args below meth c R Q A ls H locs hx hb hr hts hown hlocks hml hnm hR hQ hA hl hP hK hN hD hS
  have hg : ∀ w ∈ gw, w.before args s = true := fun w h => hts w (List.mem_cons_of_mem _ h)
  have hown : s.vm.findClass "RangeCodersModel" = some m.cls := hown
  have hl : lv_has ls 3 [(0, Value.ref o), (1, Value.int (nI jj))] := hl
  have hk8 := hMD.1
  obtain ⟨hn9, hn2, hn64, C9, hc9, hB9⟩ := hMD.2 jj hj
  refine lv_aload_n hx hb d_M_get_0 rfl (lv_at hl 0 rfl) ?_
  refine lv_iconst (v := 0) hx hb d_M_get_1 (by decide) ?_
  refine va_put (D := (dC, dI)) (ci := 9) (v := .int 0) (ty := .int) (C := "RangeCodersModel") (T := T_M) (N := 35) hx hb hg in_M t_M o_M n_M hown hK hP hD hS 0 rfl rfl 34 (by decide) (hg _ k986) (fun _ h9 => h9) rfl (o_M 34 (by decide)) rfl rfl (Nat.le_of_ble_eq_true rfl) d_M_get_2 (fun H locs hP hD hS => ?_)
  have hPD : my_PD (dC, dI) vwCl A [(o, Sum.inr (9, mO g 2 (nI sh) fModels fItems fEnded fLow fRange fCache fPend fGoes fOuts (nI is.length) fReads 0 fIR (nI q) fBAsk (lN CD) fRL (lN RR) fX fWrites 0)), ((g 0), Sum.inl (cI, 8, Sum.inl vMany)), ((g 1), Sum.inl (cI, 512, Sum.inl vCounts)), ((g 3), Sum.inl (cI, 512, Sum.inl vThen)), ((g 8), Sum.inl (cI, 6000, Sum.inl vIn))] H := ⟨hP, hD⟩
  have hP := hPD.1
  have hD := hPD.2
  refine lv_aload_n hx hb d_M_get_5 rfl (lv_at hl 0 rfl) ?_
  refine lv_iload_n hx hb d_M_get_6 rfl (lv_at hl 1 rfl) ?_
  refine my_ci (wr := [((g 0), Sum.inl (cI, 8, Sum.inl vMany)), ((g 1), Sum.inl (cI, 512, Sum.inl vCounts)), ((g 3), Sum.inl (cI, 512, Sum.inl vThen)), ((g 8), Sum.inl (cI, 6000, Sum.inl vIn))]) (va_runV (As := [Value.int (nI jj)]) (rest := []) ⟨hx, hb, hml, hown, hts⟩ (c_M_isModel l dC dI cI cM cO H.size o g 2 (nI sh) fModels fItems fEnded fLow fRange fCache fPend fGoes fOuts (nI is.length) fReads 0 fIR (nI q) fBAsk (lN CD) fRL (lN RR) fX fWrites 0 (nI jj)) (cwV 1 hts (my_gV k1073 k1075 ks26 k12 k1076) rfl rfl rfl cu_M_isModel_1 ⟨by rw [hR]; exact Nat.le_of_ble_eq_true rfl, by rw [hR]; exact Nat.le_of_ble_eq_true rfl⟩) (my_preV hK hN (hP.sub [0] rfl) (hD.sub [0] (by decide +kernel) rfl) 0 rfl rfl) rfl rfl hl.1 rfl (lv_room (Nat.le_of_ble_eq_true rfl)) d_M_get_7 ⟨by rw [hR]; exact Nat.le_of_ble_eq_true rfl, by rw [hR]; exact Nat.le_of_ble_eq_true rfl⟩) hP hD hS hA [0] [1, 2, 3, 4] rfl rfl (by decide +kernel) (by decide +kernel) (fun r_7 u9 H locs hw_7 hP hD hS => ?_)
  have hw_7 : r_7 = if 0 ≤ (nI jj) ∧ (nI jj) ≤ fModels - 1 then 1 else 0 := hw_7
  have hPD : my_PD (dC, dI) vwCl A [((g 0), Sum.inl (cI, 8, Sum.inl vMany)), ((g 1), Sum.inl (cI, 512, Sum.inl vCounts)), ((g 3), Sum.inl (cI, 512, Sum.inl vThen)), ((g 8), Sum.inl (cI, 6000, Sum.inl vIn)), (o, Sum.inr (9, mO g 2 (nI sh) fModels fItems fEnded fLow fRange fCache fPend fGoes fOuts (nI is.length) fReads 0 fIR (nI q) fBAsk (lN CD) fRL (lN RR) fX fWrites 0))] H := ⟨hP, hD⟩
  have hP := hPD.1
  have hD := hPD.2
  refine lv_if_ne (tgt := 15) hx hb d_M_get_10 (by decide) (fun c_1 => ?_) (fun c_1 => ?_)
  · refine lv_aload_n hx hb d_M_get_15 rfl (lv_at hl 0 rfl) ?_
    refine va_get (D := (dC, dI)) (ci := 9) (v := .int fReads) (C := "RangeCodersModel") (T := T_M) (N := 35) hx hb hg in_M hown hK hP 4 rfl rfl 21 (by decide) (hg _ k973) (fun _ h9 => h9) rfl d_M_get_16 ?_
    refine lv_if_ne (tgt := 25) hx hb d_M_get_19 (by decide) (fun c_2 => ?_) (fun c_2 => ?_)
    · refine lv_aload_n hx hb d_M_get_25 rfl (lv_at hl 0 rfl) ?_
      refine va_get (D := (dC, dI)) (ci := 9) (v := .int 0) (C := "RangeCodersModel") (T := T_M) (N := 35) hx hb hg in_M hown hK hP 4 rfl rfl 22 (by decide) (hg _ k974) (fun _ h9 => h9) rfl d_M_get_26 ?_
      refine lv_if_eq (tgt := 35) hx hb d_M_get_29 (by decide) (fun c_3 => ?_) (fun c_3 => ?_)
      · refine lv_aload_n hx hb d_M_get_35 rfl (lv_at hl 0 rfl) ?_
        refine va_get (D := (dC, dI)) (ci := 9) (v := .int 2) (C := "RangeCodersModel") (T := T_M) (N := 35) hx hb hg in_M hown hK hP 4 rfl rfl 0 (by decide) (hg _ k952) (fun _ h9 => h9) rfl d_M_get_36 ?_
        refine lv_iconst (v := 2) hx hb d_M_get_39 (by decide) ?_
        refine lv_icmp_ge (tgt := 51) hx hb d_M_get_40 (by decide) (fun c_4 => ?_) (fun c_4 => ?_)
        · refine lv_aload_n hx hb d_M_get_51 rfl (lv_at hl 0 rfl) ?_
          refine va_get (D := (dC, dI)) (ci := 9) (v := .int 2) (C := "RangeCodersModel") (T := T_M) (N := 35) hx hb hg in_M hown hK hP 4 rfl rfl 0 (by decide) (hg _ k952) (fun _ h9 => h9) rfl d_M_get_52 ?_
          refine lv_iconst (v := 2) hx hb d_M_get_55 (by decide) ?_
          refine lv_icmp_ne (tgt := 67) hx hb d_M_get_56 (by decide) (fun c_5 => ?_) (fun c_5 => ?_)
          · exact absurd rfl c_5
          · refine lv_aload_n hx hb d_M_get_59 rfl (lv_at hl 0 rfl) ?_
            refine lv_iload_n hx hb d_M_get_60 rfl (lv_at hl 1 rfl) ?_
            refine my_ci (wr := [((g 1), Sum.inl (cI, 512, Sum.inl vCounts))]) (va_runV (As := [Value.int (nI jj)]) (rest := []) ⟨hx, hb, hml, hown, hts⟩ (c_M_getNode l dC dI cI cM cO H.size o g 2 fModels fItems fEnded fLow fRange fCache fPend fGoes fOuts fReads 0 fIR fBAsk fRL fX fWrites 0 vMany vThen vIn jj (N jj) sh F RR CD is q (by omega) (hn9) (hn64) (hn2) (hIn) (hlen) (hoct) (by omega) (hF) (hs) (hs1) (hs2) (hI)) (cwV 1 hts (my_gV k1231 k1233 ks53 k12 k1234) rfl rfl rfl cu_M_getNode_1 ⟨by rw [hR]; exact Nat.le_of_ble_eq_true rfl, by rw [hR]; exact Nat.le_of_ble_eq_true rfl⟩) (my_preV hK hN (hP.sub [4, 0, 2, 3] rfl) (hD.sub [4, 0, 2, 3] (by decide +kernel) rfl) 0 rfl rfl) rfl rfl hl.1 rfl (lv_room (Nat.le_of_ble_eq_true rfl)) d_M_get_61 ⟨by rw [hR]; exact Nat.le_of_ble_eq_true rfl, by rw [hR]; exact Nat.le_of_ble_eq_true rfl⟩) hP hD hS hA [4, 0, 2, 3] [1] rfl rfl (by decide +kernel) (by decide +kernel) (fun r_61 u9 H locs hw_61 hP hD hS => ?_)
            obtain ⟨f2_61, rfl⟩ : ∃ z, z = u9 := ⟨_, rfl⟩
            have hw_61 : r_61 = oI (gnS is sh (N jj) (RR, CD, q) F).1 ∧ sgI f2_61 (64 * jj) 64 (gnS is sh (N jj) (RR, CD, q) F).2.2 ∧ sgO f2_61 vThen (64 * jj) 64 := hw_61
            have hPD : my_PD (dC, dI) vwCl A [((g 1), Sum.inl (cI, 512, Sum.inl vCounts)), (o, Sum.inr (9, mO g 2 (nI sh) fModels fItems fEnded fLow fRange fCache fPend fGoes fOuts (nI is.length) fReads 0 fIR (nI (gnS is sh (N jj) (RR, CD, q) F).2.1.2.2) fBAsk (lN (gnS is sh (N jj) (RR, CD, q) F).2.1.2.1) fRL (lN (gnS is sh (N jj) (RR, CD, q) F).2.1.1) fX fWrites 0)), ((g 0), Sum.inl (cI, 8, Sum.inl vMany)), ((g 3), Sum.inl (cI, 512, Sum.inl f2_61)), ((g 8), Sum.inl (cI, 6000, Sum.inl vIn))] H := ⟨hP, hD⟩
            have hP := hPD.1
            have hD := hPD.2
            refine lv_goto (tgt := 88) hx hb d_M_get_64 (by decide) ?_
            have hr8 : r_61 = -1 := by rw [hw_61.1, hG]; rfl
            refine lv_istore_n (lv' := [(2, Value.int r_61), (0, Value.ref o), (1, Value.int (nI jj))]) hx hb d_M_get_88 rfl hl (by decide) rfl (fun ls hl => ?_)
            refine lv_iload_n hx hb d_M_get_89 rfl (lv_at hl 0 rfl) ?_
            refine lv_if_ge (tgt := 98) hx hb d_M_get_90 (by decide) (fun c_6 => ?_) (fun c_6 => ?_)
            · exact absurd c_6 (by rw [hr8]; decide)
            · refine lv_aload_n hx hb d_M_get_93 rfl (lv_at hl 1 rfl) ?_
              refine my_ci (wr := [((g 1), Sum.inl (cI, 512, Sum.inl vCounts)), ((g 0), Sum.inl (cI, 8, Sum.inl vMany)), ((g 3), Sum.inl (cI, 512, Sum.inl f2_61)), ((g 8), Sum.inl (cI, 6000, Sum.inl vIn))]) (va_runV (As := []) (rest := []) ⟨hx, hb, hml, hown, hts⟩ (c_M_spoiled l dC dI cI cM cO H.size o g 2 (nI sh) fModels fItems fEnded fLow fRange fCache fPend fGoes fOuts (nI is.length) fReads 0 fIR (nI (gnS is sh (N jj) (RR, CD, q) F).2.1.2.2) fBAsk (lN (gnS is sh (N jj) (RR, CD, q) F).2.1.2.1) fRL (lN (gnS is sh (N jj) (RR, CD, q) F).2.1.1) fX fWrites 0) (cwV 0 hts (my_gV k1252 k1254 ks58 k12 k1255) rfl rfl rfl cu_M_spoiled_0 ⟨by rw [hR]; exact Nat.le_of_ble_eq_true rfl, by rw [hR]; exact Nat.le_of_ble_eq_true rfl⟩) (my_preV hK hN (hP.sub [1] rfl) (hD.sub [1] (by decide +kernel) rfl) 0 rfl rfl) rfl rfl hl.1 rfl (lv_room (Nat.le_of_ble_eq_true rfl)) d_M_get_94 ⟨by rw [hR]; exact Nat.le_of_ble_eq_true rfl, by rw [hR]; exact Nat.le_of_ble_eq_true rfl⟩) hP hD hS hA [1] [0, 2, 3, 4] rfl rfl (by decide +kernel) (by decide +kernel) (fun r_94 u9 H locs hw_94 hP hD hS => ?_)
              have hw_94 : r_94 = -5 := hw_94
              have hPD : my_PD (dC, dI) vwCl A [((g 1), Sum.inl (cI, 512, Sum.inl vCounts)), ((g 0), Sum.inl (cI, 8, Sum.inl vMany)), ((g 3), Sum.inl (cI, 512, Sum.inl f2_61)), ((g 8), Sum.inl (cI, 6000, Sum.inl vIn)), (o, Sum.inr (9, mO g 2 (nI sh) fModels fItems fEnded fLow fRange fCache fPend fGoes fOuts (nI is.length) fReads 1 fIR (nI (gnS is sh (N jj) (RR, CD, q) F).2.1.2.2) fBAsk (lN (gnS is sh (N jj) (RR, CD, q) F).2.1.2.1) fRL (lN (gnS is sh (N jj) (RR, CD, q) F).2.1.1) fX fWrites 0))] H := ⟨hP, hD⟩
              have hP := hPD.1
              have hD := hPD.2
              exact my_iret (v := r_94) hx hb hr (rfl) hlocks hQ hK hS (Nat.le_refl _) (Nat.le_refl _) (f2_61) (⟨hw_94, hw_61.2.1, hw_61.2.2⟩) (hP.sub [4, 1, 0, 2, 3] rfl) (hD.sub [4, 1, 0, 2, 3] (by decide +kernel) rfl) d_M_get_97
        · exact absurd (by decide) c_4
      · exact absurd (by decide) c_3
    · exact absurd c_2 hrd
  · exact absurd (show 0 ≤ nI jj ∧ nI jj ≤ nI km - 1 from (isN_iff (k := km) (by have := hMD.1; omega)).mpr ⟨jj, hj, rfl⟩) (by rw [hmod] at hw_7; exact one_eq hw_7 c_1)
set_option maxHeartbeats 2000000 in
set_option maxRecDepth 100000 in
theorem m_get3L (l : Launch) (dC : Nat → ClassId) (dI : Nat → Nat → Nat) (cI cM cO : ClassId) (sz : Nat) (o : Nat) (g : Nat → Nat) (fShift : Int32) (fModels : Int32) (fItems : Int32) (fEnded : Int32) (fLow : Int64) (fRange : Int64) (fCache : Int32) (fPend : Int32) (fGoes : Int32) (fOuts : Int32) (fReads : Int32) (fIR : Int32) (fBAsk : Int32) (fCode : Int64) (fRL : Int64) (fRR : Int64) (fWrites : Int32) (fThrown : Int32) (vMany : Nat → Int32) (vCounts : Nat → Int32) (vThen : Nat → Int32) (vIn : Nat → Int32) (km : Nat) (N : Nat → Nat) (jj : Nat) (F : Nat → Nat) (X : Nat) (is : List Nat) (q : Nat) (s9 : Nat) (hmod : fModels = nI km) (hMD : MD km N vMany vCounts) (hj : jj < km) (hrd : ¬ fReads = 0) (hX0 : 8388608 ≤ X) (hX1 : X < 4294967296) (hIn : gIs vIn is) (hlen : is.length ≤ 6000) (hoct : oct is) (hq : q < 700000) (hF : sgI vThen (64 * jj) (N jj) F) (hs : ns F (N jj) = 0 ∨ ns F (N jj) = 4096) (hG : (gs3 is (N jj) F X q).1 = some s9) (hs9 : s9 < 2147483648) : MetI l y_M_get (Cond.code y_M_get prog_14_method_56_code 3 (some .int) :: gw) ({ frames := 3, cells := 0, slots := 0, locals := 64 } : Room) (dC, dI) vwCl (kT cI cM cO) [Value.ref o, Value.int (nI jj)] [(o, Sum.inr (9, mO g 3 fShift fModels fItems fEnded fLow fRange fCache fPend fGoes fOuts (nI is.length) fReads 0 fIR (nI q) fBAsk fCode fRL fRR (lN X) fWrites fThrown)), ((g 0), Sum.inl (cI, 8, Sum.inl vMany)), ((g 1), Sum.inl (cI, 512, Sum.inl vCounts)), ((g 3), Sum.inl (cI, 512, Sum.inl vThen)), ((g 8), Sum.inl (cI, 6000, Sum.inl vIn))] sz (fun (r : Int32) (u : Int32) => r = nI s9) (fun (u : Int32) => [(o, Sum.inr (9, mO g 3 fShift fModels fItems fEnded fLow fRange fCache fPend fGoes fOuts (nI is.length) fReads 0 u (nI (gs3 is (N jj) F X q).2.2) fBAsk fCode fRL fRR (lN (gs3 is (N jj) F X q).2.1) fWrites 0)), ((g 0), Sum.inl (cI, 8, Sum.inl vMany)), ((g 1), Sum.inl (cI, 512, Sum.inl vCounts)), ((g 3), Sum.inl (cI, 512, Sum.inl vThen)), ((g 8), Sum.inl (cI, 6000, Sum.inl vIn))]) 0 0 := by
  refine my_ofI (cc := prog_14_method_56_code) (n := 3) (ret := (some .int)) (by decide) rfl (Nat.le_of_ble_eq_true rfl) ?_
  intro p e s m args below meth c R Q A ls H locs hx hb hr hts hown hlocks hml hnm hR hQ hA hl hP hK hN hD hS
  have hg : ∀ w ∈ gw, w.before args s = true := fun w h => hts w (List.mem_cons_of_mem _ h)
  have hown : s.vm.findClass "RangeCodersModel" = some m.cls := hown
  have hl : lv_has ls 3 [(0, Value.ref o), (1, Value.int (nI jj))] := hl
  have hk8 := hMD.1
  obtain ⟨hn9, hn2, hn64, C9, hc9, hB9⟩ := hMD.2 jj hj
  refine lv_aload_n hx hb d_M_get_0 rfl (lv_at hl 0 rfl) ?_
  refine lv_iconst (v := 0) hx hb d_M_get_1 (by decide) ?_
  refine va_put (D := (dC, dI)) (ci := 9) (v := .int 0) (ty := .int) (C := "RangeCodersModel") (T := T_M) (N := 35) hx hb hg in_M t_M o_M n_M hown hK hP hD hS 0 rfl rfl 34 (by decide) (hg _ k986) (fun _ h9 => h9) rfl (o_M 34 (by decide)) rfl rfl (Nat.le_of_ble_eq_true rfl) d_M_get_2 (fun H locs hP hD hS => ?_)
  have hPD : my_PD (dC, dI) vwCl A [(o, Sum.inr (9, mO g 3 fShift fModels fItems fEnded fLow fRange fCache fPend fGoes fOuts (nI is.length) fReads 0 fIR (nI q) fBAsk fCode fRL fRR (lN X) fWrites 0)), ((g 0), Sum.inl (cI, 8, Sum.inl vMany)), ((g 1), Sum.inl (cI, 512, Sum.inl vCounts)), ((g 3), Sum.inl (cI, 512, Sum.inl vThen)), ((g 8), Sum.inl (cI, 6000, Sum.inl vIn))] H := ⟨hP, hD⟩
  have hP := hPD.1
  have hD := hPD.2
  refine lv_aload_n hx hb d_M_get_5 rfl (lv_at hl 0 rfl) ?_
  refine lv_iload_n hx hb d_M_get_6 rfl (lv_at hl 1 rfl) ?_
  refine my_ci (wr := [((g 0), Sum.inl (cI, 8, Sum.inl vMany)), ((g 1), Sum.inl (cI, 512, Sum.inl vCounts)), ((g 3), Sum.inl (cI, 512, Sum.inl vThen)), ((g 8), Sum.inl (cI, 6000, Sum.inl vIn))]) (va_runV (As := [Value.int (nI jj)]) (rest := []) ⟨hx, hb, hml, hown, hts⟩ (c_M_isModel l dC dI cI cM cO H.size o g 3 fShift fModels fItems fEnded fLow fRange fCache fPend fGoes fOuts (nI is.length) fReads 0 fIR (nI q) fBAsk fCode fRL fRR (lN X) fWrites 0 (nI jj)) (cwV 1 hts (my_gV k1073 k1075 ks26 k12 k1076) rfl rfl rfl cu_M_isModel_1 ⟨by rw [hR]; exact Nat.le_of_ble_eq_true rfl, by rw [hR]; exact Nat.le_of_ble_eq_true rfl⟩) (my_preV hK hN (hP.sub [0] rfl) (hD.sub [0] (by decide +kernel) rfl) 0 rfl rfl) rfl rfl hl.1 rfl (lv_room (Nat.le_of_ble_eq_true rfl)) d_M_get_7 ⟨by rw [hR]; exact Nat.le_of_ble_eq_true rfl, by rw [hR]; exact Nat.le_of_ble_eq_true rfl⟩) hP hD hS hA [0] [1, 2, 3, 4] rfl rfl (by decide +kernel) (by decide +kernel) (fun r_7 u9 H locs hw_7 hP hD hS => ?_)
  have hw_7 : r_7 = if 0 ≤ (nI jj) ∧ (nI jj) ≤ fModels - 1 then 1 else 0 := hw_7
  have hPD : my_PD (dC, dI) vwCl A [((g 0), Sum.inl (cI, 8, Sum.inl vMany)), ((g 1), Sum.inl (cI, 512, Sum.inl vCounts)), ((g 3), Sum.inl (cI, 512, Sum.inl vThen)), ((g 8), Sum.inl (cI, 6000, Sum.inl vIn)), (o, Sum.inr (9, mO g 3 fShift fModels fItems fEnded fLow fRange fCache fPend fGoes fOuts (nI is.length) fReads 0 fIR (nI q) fBAsk fCode fRL fRR (lN X) fWrites 0))] H := ⟨hP, hD⟩
  have hP := hPD.1
  have hD := hPD.2
  refine lv_if_ne (tgt := 15) hx hb d_M_get_10 (by decide) (fun c_1 => ?_) (fun c_1 => ?_)
  · refine lv_aload_n hx hb d_M_get_15 rfl (lv_at hl 0 rfl) ?_
    refine va_get (D := (dC, dI)) (ci := 9) (v := .int fReads) (C := "RangeCodersModel") (T := T_M) (N := 35) hx hb hg in_M hown hK hP 4 rfl rfl 21 (by decide) (hg _ k973) (fun _ h9 => h9) rfl d_M_get_16 ?_
    refine lv_if_ne (tgt := 25) hx hb d_M_get_19 (by decide) (fun c_2 => ?_) (fun c_2 => ?_)
    · refine lv_aload_n hx hb d_M_get_25 rfl (lv_at hl 0 rfl) ?_
      refine va_get (D := (dC, dI)) (ci := 9) (v := .int 0) (C := "RangeCodersModel") (T := T_M) (N := 35) hx hb hg in_M hown hK hP 4 rfl rfl 22 (by decide) (hg _ k974) (fun _ h9 => h9) rfl d_M_get_26 ?_
      refine lv_if_eq (tgt := 35) hx hb d_M_get_29 (by decide) (fun c_3 => ?_) (fun c_3 => ?_)
      · refine lv_aload_n hx hb d_M_get_35 rfl (lv_at hl 0 rfl) ?_
        refine va_get (D := (dC, dI)) (ci := 9) (v := .int 3) (C := "RangeCodersModel") (T := T_M) (N := 35) hx hb hg in_M hown hK hP 4 rfl rfl 0 (by decide) (hg _ k952) (fun _ h9 => h9) rfl d_M_get_36 ?_
        refine lv_iconst (v := 2) hx hb d_M_get_39 (by decide) ?_
        refine lv_icmp_ge (tgt := 51) hx hb d_M_get_40 (by decide) (fun c_4 => ?_) (fun c_4 => ?_)
        · refine lv_aload_n hx hb d_M_get_51 rfl (lv_at hl 0 rfl) ?_
          refine va_get (D := (dC, dI)) (ci := 9) (v := .int 3) (C := "RangeCodersModel") (T := T_M) (N := 35) hx hb hg in_M hown hK hP 4 rfl rfl 0 (by decide) (hg _ k952) (fun _ h9 => h9) rfl d_M_get_52 ?_
          refine lv_iconst (v := 2) hx hb d_M_get_55 (by decide) ?_
          refine lv_icmp_ne (tgt := 67) hx hb d_M_get_56 (by decide) (fun c_5 => ?_) (fun c_5 => ?_)
          · refine lv_aload_n hx hb d_M_get_67 rfl (lv_at hl 0 rfl) ?_
            refine va_get (D := (dC, dI)) (ci := 9) (v := .int 3) (C := "RangeCodersModel") (T := T_M) (N := 35) hx hb hg in_M hown hK hP 4 rfl rfl 0 (by decide) (hg _ k952) (fun _ h9 => h9) rfl d_M_get_68 ?_
            refine lv_iconst (v := 3) hx hb d_M_get_71 (by decide) ?_
            refine lv_icmp_ne (tgt := 83) hx hb d_M_get_72 (by decide) (fun c_6 => ?_) (fun c_6 => ?_)
            · exact absurd rfl c_6
            · refine lv_aload_n hx hb d_M_get_75 rfl (lv_at hl 0 rfl) ?_
              refine lv_iload_n hx hb d_M_get_76 rfl (lv_at hl 1 rfl) ?_
              refine my_ci (wr := [((g 1), Sum.inl (cI, 512, Sum.inl vCounts))]) (va_runV (As := [Value.int (nI jj)]) (rest := []) ⟨hx, hb, hml, hown, hts⟩ (c_M_getStacked l dC dI cI cM cO H.size o g 3 fShift fModels fItems fEnded fLow fRange fCache fPend fGoes fOuts fReads 0 fIR fBAsk fCode fRL fRR fWrites 0 vMany vThen vIn jj (N jj) F X is q (by omega) (hn9) (hn64) (hIn) (hlen) (hoct) (by omega) (hF) (hs) (hX0) (hX1)) (cwV 1 hts (my_gV k1239 k1241 ks55 k12 k1242) rfl rfl rfl cu_M_getStacked_1 ⟨by rw [hR]; exact Nat.le_of_ble_eq_true rfl, by rw [hR]; exact Nat.le_of_ble_eq_true rfl⟩) (my_preV hK hN (hP.sub [4, 0, 2, 3] rfl) (hD.sub [4, 0, 2, 3] (by decide +kernel) rfl) 0 rfl rfl) rfl rfl hl.1 rfl (lv_room (Nat.le_of_ble_eq_true rfl)) d_M_get_77 ⟨by rw [hR]; exact Nat.le_of_ble_eq_true rfl, by rw [hR]; exact Nat.le_of_ble_eq_true rfl⟩) hP hD hS hA [4, 0, 2, 3] [1] rfl rfl (by decide +kernel) (by decide +kernel) (fun r_77 u9 H locs hw_77 hP hD hS => ?_)
              have hw_77 : r_77 = oI (gs3 is (N jj) F X q).1 := hw_77
              have hPD : my_PD (dC, dI) vwCl A [((g 1), Sum.inl (cI, 512, Sum.inl vCounts)), (o, Sum.inr (9, mO g 3 fShift fModels fItems fEnded fLow fRange fCache fPend fGoes fOuts (nI is.length) fReads 0 fIR (nI (gs3 is (N jj) F X q).2.2) fBAsk fCode fRL fRR (lN (gs3 is (N jj) F X q).2.1) fWrites 0)), ((g 0), Sum.inl (cI, 8, Sum.inl vMany)), ((g 3), Sum.inl (cI, 512, Sum.inl vThen)), ((g 8), Sum.inl (cI, 6000, Sum.inl vIn))] H := ⟨hP, hD⟩
              have hP := hPD.1
              have hD := hPD.2
              refine lv_goto (tgt := 88) hx hb d_M_get_80 (by decide) ?_
              have hr8 : r_77 = nI s9 := by rw [hw_77, hG]; rfl
              refine lv_istore_n (lv' := [(2, Value.int r_77), (0, Value.ref o), (1, Value.int (nI jj))]) hx hb d_M_get_88 rfl hl (by decide) rfl (fun ls hl => ?_)
              refine lv_iload_n hx hb d_M_get_89 rfl (lv_at hl 0 rfl) ?_
              refine lv_if_ge (tgt := 98) hx hb d_M_get_90 (by decide) (fun c_7 => ?_) (fun c_7 => ?_)
              · refine lv_aload_n hx hb d_M_get_98 rfl (lv_at hl 1 rfl) ?_
                refine lv_dup hx hb d_M_get_99 rfl ?_
                refine va_get (D := (dC, dI)) (ci := 9) (v := .int fIR) (C := "RangeCodersModel") (T := T_M) (N := 35) hx hb hg in_M hown hK hP 1 rfl rfl 23 (by decide) (hg _ k975) (fun _ h9 => h9) rfl d_M_get_100 ?_
                refine lv_iconst (v := 1) hx hb d_M_get_103 (by decide) ?_
                refine lv_iadd hx hb d_M_get_104 ?_
                refine lv_topi (fun v_8 ev_8 => ?_)
                refine va_put (D := (dC, dI)) (ci := 9) (v := .int v_8) (ty := .int) (C := "RangeCodersModel") (T := T_M) (N := 35) hx hb hg in_M t_M o_M n_M hown hK hP hD hS 1 rfl rfl 23 (by decide) (hg _ k975) (fun _ h9 => h9) rfl (o_M 23 (by decide)) rfl rfl (Nat.le_of_ble_eq_true rfl) d_M_get_105 (fun H locs hP hD hS => ?_)
                have hPD : my_PD (dC, dI) vwCl A [((g 1), Sum.inl (cI, 512, Sum.inl vCounts)), (o, Sum.inr (9, mO g 3 fShift fModels fItems fEnded fLow fRange fCache fPend fGoes fOuts (nI is.length) fReads 0 v_8 (nI (gs3 is (N jj) F X q).2.2) fBAsk fCode fRL fRR (lN (gs3 is (N jj) F X q).2.1) fWrites 0)), ((g 0), Sum.inl (cI, 8, Sum.inl vMany)), ((g 3), Sum.inl (cI, 512, Sum.inl vThen)), ((g 8), Sum.inl (cI, 6000, Sum.inl vIn))] H := ⟨hP, hD⟩
                have hP := hPD.1
                have hD := hPD.2
                refine lv_iload_n hx hb d_M_get_108 rfl (lv_at hl 0 rfl) ?_
                exact my_iret (v := r_77) hx hb hr (rfl) hlocks hQ hK hS (Nat.le_refl _) (Nat.le_refl _) (v_8) (hr8) (hP.sub [1, 2, 0, 3, 4] rfl) (hD.sub [1, 2, 0, 3, 4] (by decide +kernel) rfl) d_M_get_109
              · exact absurd (by rw [hr8]; exact nI_pos' hs9) c_7
          · exact absurd c_5 (by decide)
        · exact absurd (by decide) c_4
      · exact absurd (by decide) c_3
    · exact absurd c_2 hrd
  · exact absurd (show 0 ≤ nI jj ∧ nI jj ≤ nI km - 1 from (isN_iff (k := km) (by have := hMD.1; omega)).mpr ⟨jj, hj, rfl⟩) (by rw [hmod] at hw_7; exact one_eq hw_7 c_1)
set_option maxHeartbeats 2000000 in
set_option maxRecDepth 100000 in
theorem m_get3X (l : Launch) (dC : Nat → ClassId) (dI : Nat → Nat → Nat) (cI cM cO : ClassId) (sz : Nat) (o : Nat) (g : Nat → Nat) (fShift : Int32) (fModels : Int32) (fItems : Int32) (fEnded : Int32) (fLow : Int64) (fRange : Int64) (fCache : Int32) (fPend : Int32) (fGoes : Int32) (fOuts : Int32) (fReads : Int32) (fIR : Int32) (fBAsk : Int32) (fCode : Int64) (fRL : Int64) (fRR : Int64) (fWrites : Int32) (fThrown : Int32) (vMany : Nat → Int32) (vCounts : Nat → Int32) (vThen : Nat → Int32) (vIn : Nat → Int32) (km : Nat) (N : Nat → Nat) (jj : Nat) (F : Nat → Nat) (X : Nat) (is : List Nat) (q : Nat) (hmod : fModels = nI km) (hMD : MD km N vMany vCounts) (hj : jj < km) (hrd : ¬ fReads = 0) (hX0 : 8388608 ≤ X) (hX1 : X < 4294967296) (hIn : gIs vIn is) (hlen : is.length ≤ 6000) (hoct : oct is) (hq : q < 700000) (hF : sgI vThen (64 * jj) (N jj) F) (hs : ns F (N jj) = 0 ∨ ns F (N jj) = 4096) (hG : (gs3 is (N jj) F X q).1 = none) : MetI l y_M_get (Cond.code y_M_get prog_14_method_56_code 3 (some .int) :: gw) ({ frames := 3, cells := 0, slots := 0, locals := 64 } : Room) (dC, dI) vwCl (kT cI cM cO) [Value.ref o, Value.int (nI jj)] [(o, Sum.inr (9, mO g 3 fShift fModels fItems fEnded fLow fRange fCache fPend fGoes fOuts (nI is.length) fReads 0 fIR (nI q) fBAsk fCode fRL fRR (lN X) fWrites fThrown)), ((g 0), Sum.inl (cI, 8, Sum.inl vMany)), ((g 1), Sum.inl (cI, 512, Sum.inl vCounts)), ((g 3), Sum.inl (cI, 512, Sum.inl vThen)), ((g 8), Sum.inl (cI, 6000, Sum.inl vIn))] sz (fun (r : Int32) (u : Unit) => r = -5) (fun (u : Unit) => [(o, Sum.inr (9, mO g 3 fShift fModels fItems fEnded fLow fRange fCache fPend fGoes fOuts (nI is.length) fReads 1 fIR (nI (gs3 is (N jj) F X q).2.2) fBAsk fCode fRL fRR (lN (gs3 is (N jj) F X q).2.1) fWrites 0)), ((g 0), Sum.inl (cI, 8, Sum.inl vMany)), ((g 1), Sum.inl (cI, 512, Sum.inl vCounts)), ((g 3), Sum.inl (cI, 512, Sum.inl vThen)), ((g 8), Sum.inl (cI, 6000, Sum.inl vIn))]) 0 0 := by
  refine my_ofI (cc := prog_14_method_56_code) (n := 3) (ret := (some .int)) (by decide) rfl (Nat.le_of_ble_eq_true rfl) ?_
  intro p e s m args below meth c R Q A ls H locs hx hb hr hts hown hlocks hml hnm hR hQ hA hl hP hK hN hD hS
  have hg : ∀ w ∈ gw, w.before args s = true := fun w h => hts w (List.mem_cons_of_mem _ h)
  have hown : s.vm.findClass "RangeCodersModel" = some m.cls := hown
  have hl : lv_has ls 3 [(0, Value.ref o), (1, Value.int (nI jj))] := hl
  have hk8 := hMD.1
  obtain ⟨hn9, hn2, hn64, C9, hc9, hB9⟩ := hMD.2 jj hj
  refine lv_aload_n hx hb d_M_get_0 rfl (lv_at hl 0 rfl) ?_
  refine lv_iconst (v := 0) hx hb d_M_get_1 (by decide) ?_
  refine va_put (D := (dC, dI)) (ci := 9) (v := .int 0) (ty := .int) (C := "RangeCodersModel") (T := T_M) (N := 35) hx hb hg in_M t_M o_M n_M hown hK hP hD hS 0 rfl rfl 34 (by decide) (hg _ k986) (fun _ h9 => h9) rfl (o_M 34 (by decide)) rfl rfl (Nat.le_of_ble_eq_true rfl) d_M_get_2 (fun H locs hP hD hS => ?_)
  have hPD : my_PD (dC, dI) vwCl A [(o, Sum.inr (9, mO g 3 fShift fModels fItems fEnded fLow fRange fCache fPend fGoes fOuts (nI is.length) fReads 0 fIR (nI q) fBAsk fCode fRL fRR (lN X) fWrites 0)), ((g 0), Sum.inl (cI, 8, Sum.inl vMany)), ((g 1), Sum.inl (cI, 512, Sum.inl vCounts)), ((g 3), Sum.inl (cI, 512, Sum.inl vThen)), ((g 8), Sum.inl (cI, 6000, Sum.inl vIn))] H := ⟨hP, hD⟩
  have hP := hPD.1
  have hD := hPD.2
  refine lv_aload_n hx hb d_M_get_5 rfl (lv_at hl 0 rfl) ?_
  refine lv_iload_n hx hb d_M_get_6 rfl (lv_at hl 1 rfl) ?_
  refine my_ci (wr := [((g 0), Sum.inl (cI, 8, Sum.inl vMany)), ((g 1), Sum.inl (cI, 512, Sum.inl vCounts)), ((g 3), Sum.inl (cI, 512, Sum.inl vThen)), ((g 8), Sum.inl (cI, 6000, Sum.inl vIn))]) (va_runV (As := [Value.int (nI jj)]) (rest := []) ⟨hx, hb, hml, hown, hts⟩ (c_M_isModel l dC dI cI cM cO H.size o g 3 fShift fModels fItems fEnded fLow fRange fCache fPend fGoes fOuts (nI is.length) fReads 0 fIR (nI q) fBAsk fCode fRL fRR (lN X) fWrites 0 (nI jj)) (cwV 1 hts (my_gV k1073 k1075 ks26 k12 k1076) rfl rfl rfl cu_M_isModel_1 ⟨by rw [hR]; exact Nat.le_of_ble_eq_true rfl, by rw [hR]; exact Nat.le_of_ble_eq_true rfl⟩) (my_preV hK hN (hP.sub [0] rfl) (hD.sub [0] (by decide +kernel) rfl) 0 rfl rfl) rfl rfl hl.1 rfl (lv_room (Nat.le_of_ble_eq_true rfl)) d_M_get_7 ⟨by rw [hR]; exact Nat.le_of_ble_eq_true rfl, by rw [hR]; exact Nat.le_of_ble_eq_true rfl⟩) hP hD hS hA [0] [1, 2, 3, 4] rfl rfl (by decide +kernel) (by decide +kernel) (fun r_7 u9 H locs hw_7 hP hD hS => ?_)
  have hw_7 : r_7 = if 0 ≤ (nI jj) ∧ (nI jj) ≤ fModels - 1 then 1 else 0 := hw_7
  have hPD : my_PD (dC, dI) vwCl A [((g 0), Sum.inl (cI, 8, Sum.inl vMany)), ((g 1), Sum.inl (cI, 512, Sum.inl vCounts)), ((g 3), Sum.inl (cI, 512, Sum.inl vThen)), ((g 8), Sum.inl (cI, 6000, Sum.inl vIn)), (o, Sum.inr (9, mO g 3 fShift fModels fItems fEnded fLow fRange fCache fPend fGoes fOuts (nI is.length) fReads 0 fIR (nI q) fBAsk fCode fRL fRR (lN X) fWrites 0))] H := ⟨hP, hD⟩
  have hP := hPD.1
  have hD := hPD.2
  refine lv_if_ne (tgt := 15) hx hb d_M_get_10 (by decide) (fun c_1 => ?_) (fun c_1 => ?_)
  · refine lv_aload_n hx hb d_M_get_15 rfl (lv_at hl 0 rfl) ?_
    refine va_get (D := (dC, dI)) (ci := 9) (v := .int fReads) (C := "RangeCodersModel") (T := T_M) (N := 35) hx hb hg in_M hown hK hP 4 rfl rfl 21 (by decide) (hg _ k973) (fun _ h9 => h9) rfl d_M_get_16 ?_
    refine lv_if_ne (tgt := 25) hx hb d_M_get_19 (by decide) (fun c_2 => ?_) (fun c_2 => ?_)
    · refine lv_aload_n hx hb d_M_get_25 rfl (lv_at hl 0 rfl) ?_
      refine va_get (D := (dC, dI)) (ci := 9) (v := .int 0) (C := "RangeCodersModel") (T := T_M) (N := 35) hx hb hg in_M hown hK hP 4 rfl rfl 22 (by decide) (hg _ k974) (fun _ h9 => h9) rfl d_M_get_26 ?_
      refine lv_if_eq (tgt := 35) hx hb d_M_get_29 (by decide) (fun c_3 => ?_) (fun c_3 => ?_)
      · refine lv_aload_n hx hb d_M_get_35 rfl (lv_at hl 0 rfl) ?_
        refine va_get (D := (dC, dI)) (ci := 9) (v := .int 3) (C := "RangeCodersModel") (T := T_M) (N := 35) hx hb hg in_M hown hK hP 4 rfl rfl 0 (by decide) (hg _ k952) (fun _ h9 => h9) rfl d_M_get_36 ?_
        refine lv_iconst (v := 2) hx hb d_M_get_39 (by decide) ?_
        refine lv_icmp_ge (tgt := 51) hx hb d_M_get_40 (by decide) (fun c_4 => ?_) (fun c_4 => ?_)
        · refine lv_aload_n hx hb d_M_get_51 rfl (lv_at hl 0 rfl) ?_
          refine va_get (D := (dC, dI)) (ci := 9) (v := .int 3) (C := "RangeCodersModel") (T := T_M) (N := 35) hx hb hg in_M hown hK hP 4 rfl rfl 0 (by decide) (hg _ k952) (fun _ h9 => h9) rfl d_M_get_52 ?_
          refine lv_iconst (v := 2) hx hb d_M_get_55 (by decide) ?_
          refine lv_icmp_ne (tgt := 67) hx hb d_M_get_56 (by decide) (fun c_5 => ?_) (fun c_5 => ?_)
          · refine lv_aload_n hx hb d_M_get_67 rfl (lv_at hl 0 rfl) ?_
            refine va_get (D := (dC, dI)) (ci := 9) (v := .int 3) (C := "RangeCodersModel") (T := T_M) (N := 35) hx hb hg in_M hown hK hP 4 rfl rfl 0 (by decide) (hg _ k952) (fun _ h9 => h9) rfl d_M_get_68 ?_
            refine lv_iconst (v := 3) hx hb d_M_get_71 (by decide) ?_
            refine lv_icmp_ne (tgt := 83) hx hb d_M_get_72 (by decide) (fun c_6 => ?_) (fun c_6 => ?_)
            · exact absurd rfl c_6
            · refine lv_aload_n hx hb d_M_get_75 rfl (lv_at hl 0 rfl) ?_
              refine lv_iload_n hx hb d_M_get_76 rfl (lv_at hl 1 rfl) ?_
              refine my_ci (wr := [((g 1), Sum.inl (cI, 512, Sum.inl vCounts))]) (va_runV (As := [Value.int (nI jj)]) (rest := []) ⟨hx, hb, hml, hown, hts⟩ (c_M_getStacked l dC dI cI cM cO H.size o g 3 fShift fModels fItems fEnded fLow fRange fCache fPend fGoes fOuts fReads 0 fIR fBAsk fCode fRL fRR fWrites 0 vMany vThen vIn jj (N jj) F X is q (by omega) (hn9) (hn64) (hIn) (hlen) (hoct) (by omega) (hF) (hs) (hX0) (hX1)) (cwV 1 hts (my_gV k1239 k1241 ks55 k12 k1242) rfl rfl rfl cu_M_getStacked_1 ⟨by rw [hR]; exact Nat.le_of_ble_eq_true rfl, by rw [hR]; exact Nat.le_of_ble_eq_true rfl⟩) (my_preV hK hN (hP.sub [4, 0, 2, 3] rfl) (hD.sub [4, 0, 2, 3] (by decide +kernel) rfl) 0 rfl rfl) rfl rfl hl.1 rfl (lv_room (Nat.le_of_ble_eq_true rfl)) d_M_get_77 ⟨by rw [hR]; exact Nat.le_of_ble_eq_true rfl, by rw [hR]; exact Nat.le_of_ble_eq_true rfl⟩) hP hD hS hA [4, 0, 2, 3] [1] rfl rfl (by decide +kernel) (by decide +kernel) (fun r_77 u9 H locs hw_77 hP hD hS => ?_)
              have hw_77 : r_77 = oI (gs3 is (N jj) F X q).1 := hw_77
              have hPD : my_PD (dC, dI) vwCl A [((g 1), Sum.inl (cI, 512, Sum.inl vCounts)), (o, Sum.inr (9, mO g 3 fShift fModels fItems fEnded fLow fRange fCache fPend fGoes fOuts (nI is.length) fReads 0 fIR (nI (gs3 is (N jj) F X q).2.2) fBAsk fCode fRL fRR (lN (gs3 is (N jj) F X q).2.1) fWrites 0)), ((g 0), Sum.inl (cI, 8, Sum.inl vMany)), ((g 3), Sum.inl (cI, 512, Sum.inl vThen)), ((g 8), Sum.inl (cI, 6000, Sum.inl vIn))] H := ⟨hP, hD⟩
              have hP := hPD.1
              have hD := hPD.2
              refine lv_goto (tgt := 88) hx hb d_M_get_80 (by decide) ?_
              have hr8 : r_77 = -1 := by rw [hw_77, hG]; rfl
              refine lv_istore_n (lv' := [(2, Value.int r_77), (0, Value.ref o), (1, Value.int (nI jj))]) hx hb d_M_get_88 rfl hl (by decide) rfl (fun ls hl => ?_)
              refine lv_iload_n hx hb d_M_get_89 rfl (lv_at hl 0 rfl) ?_
              refine lv_if_ge (tgt := 98) hx hb d_M_get_90 (by decide) (fun c_7 => ?_) (fun c_7 => ?_)
              · exact absurd c_7 (by rw [hr8]; decide)
              · refine lv_aload_n hx hb d_M_get_93 rfl (lv_at hl 1 rfl) ?_
                refine my_ci (wr := [((g 1), Sum.inl (cI, 512, Sum.inl vCounts)), ((g 0), Sum.inl (cI, 8, Sum.inl vMany)), ((g 3), Sum.inl (cI, 512, Sum.inl vThen)), ((g 8), Sum.inl (cI, 6000, Sum.inl vIn))]) (va_runV (As := []) (rest := []) ⟨hx, hb, hml, hown, hts⟩ (c_M_spoiled l dC dI cI cM cO H.size o g 3 fShift fModels fItems fEnded fLow fRange fCache fPend fGoes fOuts (nI is.length) fReads 0 fIR (nI (gs3 is (N jj) F X q).2.2) fBAsk fCode fRL fRR (lN (gs3 is (N jj) F X q).2.1) fWrites 0) (cwV 0 hts (my_gV k1252 k1254 ks58 k12 k1255) rfl rfl rfl cu_M_spoiled_0 ⟨by rw [hR]; exact Nat.le_of_ble_eq_true rfl, by rw [hR]; exact Nat.le_of_ble_eq_true rfl⟩) (my_preV hK hN (hP.sub [1] rfl) (hD.sub [1] (by decide +kernel) rfl) 0 rfl rfl) rfl rfl hl.1 rfl (lv_room (Nat.le_of_ble_eq_true rfl)) d_M_get_94 ⟨by rw [hR]; exact Nat.le_of_ble_eq_true rfl, by rw [hR]; exact Nat.le_of_ble_eq_true rfl⟩) hP hD hS hA [1] [0, 2, 3, 4] rfl rfl (by decide +kernel) (by decide +kernel) (fun r_94 u9 H locs hw_94 hP hD hS => ?_)
                have hw_94 : r_94 = -5 := hw_94
                have hPD : my_PD (dC, dI) vwCl A [((g 1), Sum.inl (cI, 512, Sum.inl vCounts)), ((g 0), Sum.inl (cI, 8, Sum.inl vMany)), ((g 3), Sum.inl (cI, 512, Sum.inl vThen)), ((g 8), Sum.inl (cI, 6000, Sum.inl vIn)), (o, Sum.inr (9, mO g 3 fShift fModels fItems fEnded fLow fRange fCache fPend fGoes fOuts (nI is.length) fReads 1 fIR (nI (gs3 is (N jj) F X q).2.2) fBAsk fCode fRL fRR (lN (gs3 is (N jj) F X q).2.1) fWrites 0))] H := ⟨hP, hD⟩
                have hP := hPD.1
                have hD := hPD.2
                exact my_iret (v := r_94) hx hb hr (rfl) hlocks hQ hK hS (Nat.le_refl _) (Nat.le_refl _) () (hw_94) (hP.sub [4, 1, 0, 2, 3] rfl) (hD.sub [4, 1, 0, 2, 3] (by decide +kernel) rfl) d_M_get_97
          · exact absurd c_5 (by decide)
        · exact absurd (by decide) c_4
      · exact absurd (by decide) c_3
    · exact absurd c_2 hrd
  · exact absurd (show 0 ≤ nI jj ∧ nI jj ≤ nI km - 1 from (isN_iff (k := km) (by have := hMD.1; omega)).mpr ⟨jj, hj, rfl⟩) (by rw [hmod] at hw_7; exact one_eq hw_7 c_1)
set_option maxHeartbeats 2000000 in
set_option maxRecDepth 100000 in
theorem m_get4L (l : Launch) (dC : Nat → ClassId) (dI : Nat → Nat → Nat) (cI cM cO : ClassId) (sz : Nat) (o : Nat) (g : Nat → Nat) (fShift : Int32) (fModels : Int32) (fItems : Int32) (fEnded : Int32) (fLow : Int64) (fRange : Int64) (fCache : Int32) (fPend : Int32) (fGoes : Int32) (fOuts : Int32) (fReads : Int32) (fIR : Int32) (fCode : Int64) (fRL : Int64) (fRR : Int64) (fWrites : Int32) (fThrown : Int32) (vMany : Nat → Int32) (vCounts : Nat → Int32) (vThen : Nat → Int32) (vIn : Nat → Int32) (vSO : Nat → Int32) (vNO : Nat → Int32) (km : Nat) (N : Nat → Nat) (jj : Nat) (F : Nat → Nat) (X : Nat) (is : List Nat) (t : Nat) (s9 : Nat) (hmod : fModels = nI km) (hMD : MD km N vMany vCounts) (hj : jj < km) (hrd : ¬ fReads = 0) (hX0 : 512 ≤ X) (hX1 : X < 1024) (hIn : gIs vIn is) (hlen : is.length ≤ 6000) (hoct : oct is) (hq : t < 700000) (hF : sgI vThen (64 * jj) (N jj) F) (hs : ns F (N jj) = 0 ∨ ns F (N jj) = 512) (hG : (gt4 is (N jj) F X t).1 = some s9) (hs9 : s9 < 2147483648) : MetI l y_M_get (Cond.code y_M_get prog_14_method_56_code 3 (some .int) :: gw) ({ frames := 2, cells := 0, slots := 0, locals := 49 } : Room) (dC, dI) vwCl (kT cI cM cO) [Value.ref o, Value.int (nI jj)] [(o, Sum.inr (9, mO g 4 fShift fModels fItems fEnded fLow fRange fCache fPend fGoes fOuts (nI is.length) fReads 0 fIR (nI ((t + 7) / 8)) (nI t) fCode fRL fRR (lN X) fWrites fThrown)), ((g 0), Sum.inl (cI, 8, Sum.inl vMany)), ((g 1), Sum.inl (cI, 512, Sum.inl vCounts)), ((g 3), Sum.inl (cI, 512, Sum.inl vThen)), ((g 8), Sum.inl (cI, 6000, Sum.inl vIn)), ((g 9), Sum.inl (cI, 512, Sum.inl vSO)), ((g 10), Sum.inl (cI, 512, Sum.inl vNO))] sz (fun (r : Int32) (u : (Nat → Int32) × (Nat → Int32) × Int32) => r = nI s9) (fun (u : (Nat → Int32) × (Nat → Int32) × Int32) => [(o, Sum.inr (9, mO g 4 fShift fModels fItems fEnded fLow fRange fCache fPend fGoes fOuts (nI is.length) fReads 0 u.2.2 (nI (((gt4 is (N jj) F X t).2.2 + 7) / 8)) (nI (gt4 is (N jj) F X t).2.2) fCode fRL fRR (lN (gt4 is (N jj) F X t).2.1) fWrites 0)), ((g 0), Sum.inl (cI, 8, Sum.inl vMany)), ((g 1), Sum.inl (cI, 512, Sum.inl vCounts)), ((g 3), Sum.inl (cI, 512, Sum.inl vThen)), ((g 8), Sum.inl (cI, 6000, Sum.inl vIn)), ((g 9), Sum.inl (cI, 512, Sum.inl u.1)), ((g 10), Sum.inl (cI, 512, Sum.inl u.2.1))]) 0 0 := by
  refine my_ofI (cc := prog_14_method_56_code) (n := 3) (ret := (some .int)) (by decide) rfl (Nat.le_of_ble_eq_true rfl) ?_
  intro p e s m args below meth c R Q A ls H locs hx hb hr hts hown hlocks hml hnm hR hQ hA hl hP hK hN hD hS
  have hg : ∀ w ∈ gw, w.before args s = true := fun w h => hts w (List.mem_cons_of_mem _ h)
  have hown : s.vm.findClass "RangeCodersModel" = some m.cls := hown
  have hl : lv_has ls 3 [(0, Value.ref o), (1, Value.int (nI jj))] := hl
  have hk8 := hMD.1
  obtain ⟨hn9, hn2, hn64, C9, hc9, hB9⟩ := hMD.2 jj hj
  refine lv_aload_n hx hb d_M_get_0 rfl (lv_at hl 0 rfl) ?_
  refine lv_iconst (v := 0) hx hb d_M_get_1 (by decide) ?_
  refine va_put (D := (dC, dI)) (ci := 9) (v := .int 0) (ty := .int) (C := "RangeCodersModel") (T := T_M) (N := 35) hx hb hg in_M t_M o_M n_M hown hK hP hD hS 0 rfl rfl 34 (by decide) (hg _ k986) (fun _ h9 => h9) rfl (o_M 34 (by decide)) rfl rfl (Nat.le_of_ble_eq_true rfl) d_M_get_2 (fun H locs hP hD hS => ?_)
  have hPD : my_PD (dC, dI) vwCl A [(o, Sum.inr (9, mO g 4 fShift fModels fItems fEnded fLow fRange fCache fPend fGoes fOuts (nI is.length) fReads 0 fIR (nI ((t + 7) / 8)) (nI t) fCode fRL fRR (lN X) fWrites 0)), ((g 0), Sum.inl (cI, 8, Sum.inl vMany)), ((g 1), Sum.inl (cI, 512, Sum.inl vCounts)), ((g 3), Sum.inl (cI, 512, Sum.inl vThen)), ((g 8), Sum.inl (cI, 6000, Sum.inl vIn)), ((g 9), Sum.inl (cI, 512, Sum.inl vSO)), ((g 10), Sum.inl (cI, 512, Sum.inl vNO))] H := ⟨hP, hD⟩
  have hP := hPD.1
  have hD := hPD.2
  refine lv_aload_n hx hb d_M_get_5 rfl (lv_at hl 0 rfl) ?_
  refine lv_iload_n hx hb d_M_get_6 rfl (lv_at hl 1 rfl) ?_
  refine my_ci (wr := [((g 0), Sum.inl (cI, 8, Sum.inl vMany)), ((g 1), Sum.inl (cI, 512, Sum.inl vCounts)), ((g 3), Sum.inl (cI, 512, Sum.inl vThen)), ((g 8), Sum.inl (cI, 6000, Sum.inl vIn)), ((g 9), Sum.inl (cI, 512, Sum.inl vSO)), ((g 10), Sum.inl (cI, 512, Sum.inl vNO))]) (va_runV (As := [Value.int (nI jj)]) (rest := []) ⟨hx, hb, hml, hown, hts⟩ (c_M_isModel l dC dI cI cM cO H.size o g 4 fShift fModels fItems fEnded fLow fRange fCache fPend fGoes fOuts (nI is.length) fReads 0 fIR (nI ((t + 7) / 8)) (nI t) fCode fRL fRR (lN X) fWrites 0 (nI jj)) (cwV 1 hts (my_gV k1073 k1075 ks26 k12 k1076) rfl rfl rfl cu_M_isModel_1 ⟨by rw [hR]; exact Nat.le_of_ble_eq_true rfl, by rw [hR]; exact Nat.le_of_ble_eq_true rfl⟩) (my_preV hK hN (hP.sub [0] rfl) (hD.sub [0] (by decide +kernel) rfl) 0 rfl rfl) rfl rfl hl.1 rfl (lv_room (Nat.le_of_ble_eq_true rfl)) d_M_get_7 ⟨by rw [hR]; exact Nat.le_of_ble_eq_true rfl, by rw [hR]; exact Nat.le_of_ble_eq_true rfl⟩) hP hD hS hA [0] [1, 2, 3, 4, 5, 6] rfl rfl (by decide +kernel) (by decide +kernel) (fun r_7 u9 H locs hw_7 hP hD hS => ?_)
  have hw_7 : r_7 = if 0 ≤ (nI jj) ∧ (nI jj) ≤ fModels - 1 then 1 else 0 := hw_7
  have hPD : my_PD (dC, dI) vwCl A [((g 0), Sum.inl (cI, 8, Sum.inl vMany)), ((g 1), Sum.inl (cI, 512, Sum.inl vCounts)), ((g 3), Sum.inl (cI, 512, Sum.inl vThen)), ((g 8), Sum.inl (cI, 6000, Sum.inl vIn)), ((g 9), Sum.inl (cI, 512, Sum.inl vSO)), ((g 10), Sum.inl (cI, 512, Sum.inl vNO)), (o, Sum.inr (9, mO g 4 fShift fModels fItems fEnded fLow fRange fCache fPend fGoes fOuts (nI is.length) fReads 0 fIR (nI ((t + 7) / 8)) (nI t) fCode fRL fRR (lN X) fWrites 0))] H := ⟨hP, hD⟩
  have hP := hPD.1
  have hD := hPD.2
  refine lv_if_ne (tgt := 15) hx hb d_M_get_10 (by decide) (fun c_1 => ?_) (fun c_1 => ?_)
  · refine lv_aload_n hx hb d_M_get_15 rfl (lv_at hl 0 rfl) ?_
    refine va_get (D := (dC, dI)) (ci := 9) (v := .int fReads) (C := "RangeCodersModel") (T := T_M) (N := 35) hx hb hg in_M hown hK hP 6 rfl rfl 21 (by decide) (hg _ k973) (fun _ h9 => h9) rfl d_M_get_16 ?_
    refine lv_if_ne (tgt := 25) hx hb d_M_get_19 (by decide) (fun c_2 => ?_) (fun c_2 => ?_)
    · refine lv_aload_n hx hb d_M_get_25 rfl (lv_at hl 0 rfl) ?_
      refine va_get (D := (dC, dI)) (ci := 9) (v := .int 0) (C := "RangeCodersModel") (T := T_M) (N := 35) hx hb hg in_M hown hK hP 6 rfl rfl 22 (by decide) (hg _ k974) (fun _ h9 => h9) rfl d_M_get_26 ?_
      refine lv_if_eq (tgt := 35) hx hb d_M_get_29 (by decide) (fun c_3 => ?_) (fun c_3 => ?_)
      · refine lv_aload_n hx hb d_M_get_35 rfl (lv_at hl 0 rfl) ?_
        refine va_get (D := (dC, dI)) (ci := 9) (v := .int 4) (C := "RangeCodersModel") (T := T_M) (N := 35) hx hb hg in_M hown hK hP 6 rfl rfl 0 (by decide) (hg _ k952) (fun _ h9 => h9) rfl d_M_get_36 ?_
        refine lv_iconst (v := 2) hx hb d_M_get_39 (by decide) ?_
        refine lv_icmp_ge (tgt := 51) hx hb d_M_get_40 (by decide) (fun c_4 => ?_) (fun c_4 => ?_)
        · refine lv_aload_n hx hb d_M_get_51 rfl (lv_at hl 0 rfl) ?_
          refine va_get (D := (dC, dI)) (ci := 9) (v := .int 4) (C := "RangeCodersModel") (T := T_M) (N := 35) hx hb hg in_M hown hK hP 6 rfl rfl 0 (by decide) (hg _ k952) (fun _ h9 => h9) rfl d_M_get_52 ?_
          refine lv_iconst (v := 2) hx hb d_M_get_55 (by decide) ?_
          refine lv_icmp_ne (tgt := 67) hx hb d_M_get_56 (by decide) (fun c_5 => ?_) (fun c_5 => ?_)
          · refine lv_aload_n hx hb d_M_get_67 rfl (lv_at hl 0 rfl) ?_
            refine va_get (D := (dC, dI)) (ci := 9) (v := .int 4) (C := "RangeCodersModel") (T := T_M) (N := 35) hx hb hg in_M hown hK hP 6 rfl rfl 0 (by decide) (hg _ k952) (fun _ h9 => h9) rfl d_M_get_68 ?_
            refine lv_iconst (v := 3) hx hb d_M_get_71 (by decide) ?_
            refine lv_icmp_ne (tgt := 83) hx hb d_M_get_72 (by decide) (fun c_6 => ?_) (fun c_6 => ?_)
            · refine lv_aload_n hx hb d_M_get_83 rfl (lv_at hl 0 rfl) ?_
              refine lv_iload_n hx hb d_M_get_84 rfl (lv_at hl 1 rfl) ?_
              refine my_ci (wr := [((g 1), Sum.inl (cI, 512, Sum.inl vCounts))]) (va_runV (As := [Value.int (nI jj)]) (rest := []) ⟨hx, hb, hml, hown, hts⟩ (c_M_getTabled l dC dI cI cM cO H.size o g 4 fShift fModels fItems fEnded fLow fRange fCache fPend fGoes fOuts fReads 0 fIR fCode fRL fRR fWrites 0 vMany vThen vIn vSO vNO jj (N jj) F X t is (by omega) (hn9) (hn64) (hIn) (hlen) (hoct) (by omega) (hF) (hs) (hX0) (hX1) (gt4_F hX1)) (cwV 1 hts (my_gV k1248 k1250 ks57 k12 k1251) rfl rfl rfl cu_M_getTabled_1 ⟨by rw [hR]; exact Nat.le_of_ble_eq_true rfl, by rw [hR]; exact Nat.le_of_ble_eq_true rfl⟩) (my_preV hK hN (hP.sub [6, 0, 2, 3, 4, 5] rfl) (hD.sub [6, 0, 2, 3, 4, 5] (by decide +kernel) rfl) 0 rfl rfl) rfl rfl hl.1 rfl (lv_room (Nat.le_of_ble_eq_true rfl)) d_M_get_85 ⟨by rw [hR]; exact Nat.le_of_ble_eq_true rfl, by rw [hR]; exact Nat.le_of_ble_eq_true rfl⟩) hP hD hS hA [6, 0, 2, 3, 4, 5] [1] rfl rfl (by decide +kernel) (by decide +kernel) (fun r_85 u9 H locs hw_85 hP hD hS => ?_)
              obtain ⟨so2_85, no2_85⟩ := u9
              have hw_85 : r_85 = oI (gt4 is (N jj) F X t).1 := hw_85
              have hPD : my_PD (dC, dI) vwCl A [((g 1), Sum.inl (cI, 512, Sum.inl vCounts)), (o, Sum.inr (9, mO g 4 fShift fModels fItems fEnded fLow fRange fCache fPend fGoes fOuts (nI is.length) fReads 0 fIR (nI (((gt4 is (N jj) F X t).2.2 + 7) / 8)) (nI (gt4 is (N jj) F X t).2.2) fCode fRL fRR (lN (gt4 is (N jj) F X t).2.1) fWrites 0)), ((g 0), Sum.inl (cI, 8, Sum.inl vMany)), ((g 3), Sum.inl (cI, 512, Sum.inl vThen)), ((g 8), Sum.inl (cI, 6000, Sum.inl vIn)), ((g 9), Sum.inl (cI, 512, Sum.inl so2_85)), ((g 10), Sum.inl (cI, 512, Sum.inl no2_85))] H := ⟨hP, hD⟩
              have hP := hPD.1
              have hD := hPD.2
              have hr8 : r_85 = nI s9 := by rw [hw_85, hG]; rfl
              refine lv_istore_n (lv' := [(2, Value.int r_85), (0, Value.ref o), (1, Value.int (nI jj))]) hx hb d_M_get_88 rfl hl (by decide) rfl (fun ls hl => ?_)
              refine lv_iload_n hx hb d_M_get_89 rfl (lv_at hl 0 rfl) ?_
              refine lv_if_ge (tgt := 98) hx hb d_M_get_90 (by decide) (fun c_7 => ?_) (fun c_7 => ?_)
              · refine lv_aload_n hx hb d_M_get_98 rfl (lv_at hl 1 rfl) ?_
                refine lv_dup hx hb d_M_get_99 rfl ?_
                refine va_get (D := (dC, dI)) (ci := 9) (v := .int fIR) (C := "RangeCodersModel") (T := T_M) (N := 35) hx hb hg in_M hown hK hP 1 rfl rfl 23 (by decide) (hg _ k975) (fun _ h9 => h9) rfl d_M_get_100 ?_
                refine lv_iconst (v := 1) hx hb d_M_get_103 (by decide) ?_
                refine lv_iadd hx hb d_M_get_104 ?_
                refine lv_topi (fun v_8 ev_8 => ?_)
                refine va_put (D := (dC, dI)) (ci := 9) (v := .int v_8) (ty := .int) (C := "RangeCodersModel") (T := T_M) (N := 35) hx hb hg in_M t_M o_M n_M hown hK hP hD hS 1 rfl rfl 23 (by decide) (hg _ k975) (fun _ h9 => h9) rfl (o_M 23 (by decide)) rfl rfl (Nat.le_of_ble_eq_true rfl) d_M_get_105 (fun H locs hP hD hS => ?_)
                have hPD : my_PD (dC, dI) vwCl A [((g 1), Sum.inl (cI, 512, Sum.inl vCounts)), (o, Sum.inr (9, mO g 4 fShift fModels fItems fEnded fLow fRange fCache fPend fGoes fOuts (nI is.length) fReads 0 v_8 (nI (((gt4 is (N jj) F X t).2.2 + 7) / 8)) (nI (gt4 is (N jj) F X t).2.2) fCode fRL fRR (lN (gt4 is (N jj) F X t).2.1) fWrites 0)), ((g 0), Sum.inl (cI, 8, Sum.inl vMany)), ((g 3), Sum.inl (cI, 512, Sum.inl vThen)), ((g 8), Sum.inl (cI, 6000, Sum.inl vIn)), ((g 9), Sum.inl (cI, 512, Sum.inl so2_85)), ((g 10), Sum.inl (cI, 512, Sum.inl no2_85))] H := ⟨hP, hD⟩
                have hP := hPD.1
                have hD := hPD.2
                refine lv_iload_n hx hb d_M_get_108 rfl (lv_at hl 0 rfl) ?_
                exact my_iret (v := r_85) hx hb hr (rfl) hlocks hQ hK hS (Nat.le_refl _) (Nat.le_refl _) (so2_85, no2_85, v_8) (hr8) (hP.sub [1, 2, 0, 3, 4, 5, 6] rfl) (hD.sub [1, 2, 0, 3, 4, 5, 6] (by decide +kernel) rfl) d_M_get_109
              · exact absurd (by rw [hr8]; exact nI_pos' hs9) c_7
            · exact absurd c_6 (by decide)
          · exact absurd c_5 (by decide)
        · exact absurd (by decide) c_4
      · exact absurd (by decide) c_3
    · exact absurd c_2 hrd
  · exact absurd (show 0 ≤ nI jj ∧ nI jj ≤ nI km - 1 from (isN_iff (k := km) (by have := hMD.1; omega)).mpr ⟨jj, hj, rfl⟩) (by rw [hmod] at hw_7; exact one_eq hw_7 c_1)
set_option maxHeartbeats 2000000 in
set_option maxRecDepth 100000 in
theorem m_get4X (l : Launch) (dC : Nat → ClassId) (dI : Nat → Nat → Nat) (cI cM cO : ClassId) (sz : Nat) (o : Nat) (g : Nat → Nat) (fShift : Int32) (fModels : Int32) (fItems : Int32) (fEnded : Int32) (fLow : Int64) (fRange : Int64) (fCache : Int32) (fPend : Int32) (fGoes : Int32) (fOuts : Int32) (fReads : Int32) (fIR : Int32) (fCode : Int64) (fRL : Int64) (fRR : Int64) (fWrites : Int32) (fThrown : Int32) (vMany : Nat → Int32) (vCounts : Nat → Int32) (vThen : Nat → Int32) (vIn : Nat → Int32) (vSO : Nat → Int32) (vNO : Nat → Int32) (km : Nat) (N : Nat → Nat) (jj : Nat) (F : Nat → Nat) (X : Nat) (is : List Nat) (t : Nat) (hmod : fModels = nI km) (hMD : MD km N vMany vCounts) (hj : jj < km) (hrd : ¬ fReads = 0) (hX0 : 512 ≤ X) (hX1 : X < 1024) (hIn : gIs vIn is) (hlen : is.length ≤ 6000) (hoct : oct is) (hq : t < 700000) (hF : sgI vThen (64 * jj) (N jj) F) (hs : ns F (N jj) = 0 ∨ ns F (N jj) = 512) (hG : (gt4 is (N jj) F X t).1 = none) : MetI l y_M_get (Cond.code y_M_get prog_14_method_56_code 3 (some .int) :: gw) ({ frames := 2, cells := 0, slots := 0, locals := 49 } : Room) (dC, dI) vwCl (kT cI cM cO) [Value.ref o, Value.int (nI jj)] [(o, Sum.inr (9, mO g 4 fShift fModels fItems fEnded fLow fRange fCache fPend fGoes fOuts (nI is.length) fReads 0 fIR (nI ((t + 7) / 8)) (nI t) fCode fRL fRR (lN X) fWrites fThrown)), ((g 0), Sum.inl (cI, 8, Sum.inl vMany)), ((g 1), Sum.inl (cI, 512, Sum.inl vCounts)), ((g 3), Sum.inl (cI, 512, Sum.inl vThen)), ((g 8), Sum.inl (cI, 6000, Sum.inl vIn)), ((g 9), Sum.inl (cI, 512, Sum.inl vSO)), ((g 10), Sum.inl (cI, 512, Sum.inl vNO))] sz (fun (r : Int32) (u : (Nat → Int32) × (Nat → Int32)) => r = -5) (fun (u : (Nat → Int32) × (Nat → Int32)) => [(o, Sum.inr (9, mO g 4 fShift fModels fItems fEnded fLow fRange fCache fPend fGoes fOuts (nI is.length) fReads 1 fIR (nI (((gt4 is (N jj) F X t).2.2 + 7) / 8)) (nI (gt4 is (N jj) F X t).2.2) fCode fRL fRR (lN (gt4 is (N jj) F X t).2.1) fWrites 0)), ((g 0), Sum.inl (cI, 8, Sum.inl vMany)), ((g 1), Sum.inl (cI, 512, Sum.inl vCounts)), ((g 3), Sum.inl (cI, 512, Sum.inl vThen)), ((g 8), Sum.inl (cI, 6000, Sum.inl vIn)), ((g 9), Sum.inl (cI, 512, Sum.inl u.1)), ((g 10), Sum.inl (cI, 512, Sum.inl u.2))]) 0 0 := by
  refine my_ofI (cc := prog_14_method_56_code) (n := 3) (ret := (some .int)) (by decide) rfl (Nat.le_of_ble_eq_true rfl) ?_
  intro p e s m args below meth c R Q A ls H locs hx hb hr hts hown hlocks hml hnm hR hQ hA hl hP hK hN hD hS
  have hg : ∀ w ∈ gw, w.before args s = true := fun w h => hts w (List.mem_cons_of_mem _ h)
  have hown : s.vm.findClass "RangeCodersModel" = some m.cls := hown
  have hl : lv_has ls 3 [(0, Value.ref o), (1, Value.int (nI jj))] := hl
  have hk8 := hMD.1
  obtain ⟨hn9, hn2, hn64, C9, hc9, hB9⟩ := hMD.2 jj hj
  refine lv_aload_n hx hb d_M_get_0 rfl (lv_at hl 0 rfl) ?_
  refine lv_iconst (v := 0) hx hb d_M_get_1 (by decide) ?_
  refine va_put (D := (dC, dI)) (ci := 9) (v := .int 0) (ty := .int) (C := "RangeCodersModel") (T := T_M) (N := 35) hx hb hg in_M t_M o_M n_M hown hK hP hD hS 0 rfl rfl 34 (by decide) (hg _ k986) (fun _ h9 => h9) rfl (o_M 34 (by decide)) rfl rfl (Nat.le_of_ble_eq_true rfl) d_M_get_2 (fun H locs hP hD hS => ?_)
  have hPD : my_PD (dC, dI) vwCl A [(o, Sum.inr (9, mO g 4 fShift fModels fItems fEnded fLow fRange fCache fPend fGoes fOuts (nI is.length) fReads 0 fIR (nI ((t + 7) / 8)) (nI t) fCode fRL fRR (lN X) fWrites 0)), ((g 0), Sum.inl (cI, 8, Sum.inl vMany)), ((g 1), Sum.inl (cI, 512, Sum.inl vCounts)), ((g 3), Sum.inl (cI, 512, Sum.inl vThen)), ((g 8), Sum.inl (cI, 6000, Sum.inl vIn)), ((g 9), Sum.inl (cI, 512, Sum.inl vSO)), ((g 10), Sum.inl (cI, 512, Sum.inl vNO))] H := ⟨hP, hD⟩
  have hP := hPD.1
  have hD := hPD.2
  refine lv_aload_n hx hb d_M_get_5 rfl (lv_at hl 0 rfl) ?_
  refine lv_iload_n hx hb d_M_get_6 rfl (lv_at hl 1 rfl) ?_
  refine my_ci (wr := [((g 0), Sum.inl (cI, 8, Sum.inl vMany)), ((g 1), Sum.inl (cI, 512, Sum.inl vCounts)), ((g 3), Sum.inl (cI, 512, Sum.inl vThen)), ((g 8), Sum.inl (cI, 6000, Sum.inl vIn)), ((g 9), Sum.inl (cI, 512, Sum.inl vSO)), ((g 10), Sum.inl (cI, 512, Sum.inl vNO))]) (va_runV (As := [Value.int (nI jj)]) (rest := []) ⟨hx, hb, hml, hown, hts⟩ (c_M_isModel l dC dI cI cM cO H.size o g 4 fShift fModels fItems fEnded fLow fRange fCache fPend fGoes fOuts (nI is.length) fReads 0 fIR (nI ((t + 7) / 8)) (nI t) fCode fRL fRR (lN X) fWrites 0 (nI jj)) (cwV 1 hts (my_gV k1073 k1075 ks26 k12 k1076) rfl rfl rfl cu_M_isModel_1 ⟨by rw [hR]; exact Nat.le_of_ble_eq_true rfl, by rw [hR]; exact Nat.le_of_ble_eq_true rfl⟩) (my_preV hK hN (hP.sub [0] rfl) (hD.sub [0] (by decide +kernel) rfl) 0 rfl rfl) rfl rfl hl.1 rfl (lv_room (Nat.le_of_ble_eq_true rfl)) d_M_get_7 ⟨by rw [hR]; exact Nat.le_of_ble_eq_true rfl, by rw [hR]; exact Nat.le_of_ble_eq_true rfl⟩) hP hD hS hA [0] [1, 2, 3, 4, 5, 6] rfl rfl (by decide +kernel) (by decide +kernel) (fun r_7 u9 H locs hw_7 hP hD hS => ?_)
  have hw_7 : r_7 = if 0 ≤ (nI jj) ∧ (nI jj) ≤ fModels - 1 then 1 else 0 := hw_7
  have hPD : my_PD (dC, dI) vwCl A [((g 0), Sum.inl (cI, 8, Sum.inl vMany)), ((g 1), Sum.inl (cI, 512, Sum.inl vCounts)), ((g 3), Sum.inl (cI, 512, Sum.inl vThen)), ((g 8), Sum.inl (cI, 6000, Sum.inl vIn)), ((g 9), Sum.inl (cI, 512, Sum.inl vSO)), ((g 10), Sum.inl (cI, 512, Sum.inl vNO)), (o, Sum.inr (9, mO g 4 fShift fModels fItems fEnded fLow fRange fCache fPend fGoes fOuts (nI is.length) fReads 0 fIR (nI ((t + 7) / 8)) (nI t) fCode fRL fRR (lN X) fWrites 0))] H := ⟨hP, hD⟩
  have hP := hPD.1
  have hD := hPD.2
  refine lv_if_ne (tgt := 15) hx hb d_M_get_10 (by decide) (fun c_1 => ?_) (fun c_1 => ?_)
  · refine lv_aload_n hx hb d_M_get_15 rfl (lv_at hl 0 rfl) ?_
    refine va_get (D := (dC, dI)) (ci := 9) (v := .int fReads) (C := "RangeCodersModel") (T := T_M) (N := 35) hx hb hg in_M hown hK hP 6 rfl rfl 21 (by decide) (hg _ k973) (fun _ h9 => h9) rfl d_M_get_16 ?_
    refine lv_if_ne (tgt := 25) hx hb d_M_get_19 (by decide) (fun c_2 => ?_) (fun c_2 => ?_)
    · refine lv_aload_n hx hb d_M_get_25 rfl (lv_at hl 0 rfl) ?_
      refine va_get (D := (dC, dI)) (ci := 9) (v := .int 0) (C := "RangeCodersModel") (T := T_M) (N := 35) hx hb hg in_M hown hK hP 6 rfl rfl 22 (by decide) (hg _ k974) (fun _ h9 => h9) rfl d_M_get_26 ?_
      refine lv_if_eq (tgt := 35) hx hb d_M_get_29 (by decide) (fun c_3 => ?_) (fun c_3 => ?_)
      · refine lv_aload_n hx hb d_M_get_35 rfl (lv_at hl 0 rfl) ?_
        refine va_get (D := (dC, dI)) (ci := 9) (v := .int 4) (C := "RangeCodersModel") (T := T_M) (N := 35) hx hb hg in_M hown hK hP 6 rfl rfl 0 (by decide) (hg _ k952) (fun _ h9 => h9) rfl d_M_get_36 ?_
        refine lv_iconst (v := 2) hx hb d_M_get_39 (by decide) ?_
        refine lv_icmp_ge (tgt := 51) hx hb d_M_get_40 (by decide) (fun c_4 => ?_) (fun c_4 => ?_)
        · refine lv_aload_n hx hb d_M_get_51 rfl (lv_at hl 0 rfl) ?_
          refine va_get (D := (dC, dI)) (ci := 9) (v := .int 4) (C := "RangeCodersModel") (T := T_M) (N := 35) hx hb hg in_M hown hK hP 6 rfl rfl 0 (by decide) (hg _ k952) (fun _ h9 => h9) rfl d_M_get_52 ?_
          refine lv_iconst (v := 2) hx hb d_M_get_55 (by decide) ?_
          refine lv_icmp_ne (tgt := 67) hx hb d_M_get_56 (by decide) (fun c_5 => ?_) (fun c_5 => ?_)
          · refine lv_aload_n hx hb d_M_get_67 rfl (lv_at hl 0 rfl) ?_
            refine va_get (D := (dC, dI)) (ci := 9) (v := .int 4) (C := "RangeCodersModel") (T := T_M) (N := 35) hx hb hg in_M hown hK hP 6 rfl rfl 0 (by decide) (hg _ k952) (fun _ h9 => h9) rfl d_M_get_68 ?_
            refine lv_iconst (v := 3) hx hb d_M_get_71 (by decide) ?_
            refine lv_icmp_ne (tgt := 83) hx hb d_M_get_72 (by decide) (fun c_6 => ?_) (fun c_6 => ?_)
            · refine lv_aload_n hx hb d_M_get_83 rfl (lv_at hl 0 rfl) ?_
              refine lv_iload_n hx hb d_M_get_84 rfl (lv_at hl 1 rfl) ?_
              refine my_ci (wr := [((g 1), Sum.inl (cI, 512, Sum.inl vCounts))]) (va_runV (As := [Value.int (nI jj)]) (rest := []) ⟨hx, hb, hml, hown, hts⟩ (c_M_getTabled l dC dI cI cM cO H.size o g 4 fShift fModels fItems fEnded fLow fRange fCache fPend fGoes fOuts fReads 0 fIR fCode fRL fRR fWrites 0 vMany vThen vIn vSO vNO jj (N jj) F X t is (by omega) (hn9) (hn64) (hIn) (hlen) (hoct) (by omega) (hF) (hs) (hX0) (hX1) (gt4_F hX1)) (cwV 1 hts (my_gV k1248 k1250 ks57 k12 k1251) rfl rfl rfl cu_M_getTabled_1 ⟨by rw [hR]; exact Nat.le_of_ble_eq_true rfl, by rw [hR]; exact Nat.le_of_ble_eq_true rfl⟩) (my_preV hK hN (hP.sub [6, 0, 2, 3, 4, 5] rfl) (hD.sub [6, 0, 2, 3, 4, 5] (by decide +kernel) rfl) 0 rfl rfl) rfl rfl hl.1 rfl (lv_room (Nat.le_of_ble_eq_true rfl)) d_M_get_85 ⟨by rw [hR]; exact Nat.le_of_ble_eq_true rfl, by rw [hR]; exact Nat.le_of_ble_eq_true rfl⟩) hP hD hS hA [6, 0, 2, 3, 4, 5] [1] rfl rfl (by decide +kernel) (by decide +kernel) (fun r_85 u9 H locs hw_85 hP hD hS => ?_)
              obtain ⟨so2_85, no2_85⟩ := u9
              have hw_85 : r_85 = oI (gt4 is (N jj) F X t).1 := hw_85
              have hPD : my_PD (dC, dI) vwCl A [((g 1), Sum.inl (cI, 512, Sum.inl vCounts)), (o, Sum.inr (9, mO g 4 fShift fModels fItems fEnded fLow fRange fCache fPend fGoes fOuts (nI is.length) fReads 0 fIR (nI (((gt4 is (N jj) F X t).2.2 + 7) / 8)) (nI (gt4 is (N jj) F X t).2.2) fCode fRL fRR (lN (gt4 is (N jj) F X t).2.1) fWrites 0)), ((g 0), Sum.inl (cI, 8, Sum.inl vMany)), ((g 3), Sum.inl (cI, 512, Sum.inl vThen)), ((g 8), Sum.inl (cI, 6000, Sum.inl vIn)), ((g 9), Sum.inl (cI, 512, Sum.inl so2_85)), ((g 10), Sum.inl (cI, 512, Sum.inl no2_85))] H := ⟨hP, hD⟩
              have hP := hPD.1
              have hD := hPD.2
              have hr8 : r_85 = -1 := by rw [hw_85, hG]; rfl
              refine lv_istore_n (lv' := [(2, Value.int r_85), (0, Value.ref o), (1, Value.int (nI jj))]) hx hb d_M_get_88 rfl hl (by decide) rfl (fun ls hl => ?_)
              refine lv_iload_n hx hb d_M_get_89 rfl (lv_at hl 0 rfl) ?_
              refine lv_if_ge (tgt := 98) hx hb d_M_get_90 (by decide) (fun c_7 => ?_) (fun c_7 => ?_)
              · exact absurd c_7 (by rw [hr8]; decide)
              · refine lv_aload_n hx hb d_M_get_93 rfl (lv_at hl 1 rfl) ?_
                refine my_ci (wr := [((g 1), Sum.inl (cI, 512, Sum.inl vCounts)), ((g 0), Sum.inl (cI, 8, Sum.inl vMany)), ((g 3), Sum.inl (cI, 512, Sum.inl vThen)), ((g 8), Sum.inl (cI, 6000, Sum.inl vIn)), ((g 9), Sum.inl (cI, 512, Sum.inl so2_85)), ((g 10), Sum.inl (cI, 512, Sum.inl no2_85))]) (va_runV (As := []) (rest := []) ⟨hx, hb, hml, hown, hts⟩ (c_M_spoiled l dC dI cI cM cO H.size o g 4 fShift fModels fItems fEnded fLow fRange fCache fPend fGoes fOuts (nI is.length) fReads 0 fIR (nI (((gt4 is (N jj) F X t).2.2 + 7) / 8)) (nI (gt4 is (N jj) F X t).2.2) fCode fRL fRR (lN (gt4 is (N jj) F X t).2.1) fWrites 0) (cwV 0 hts (my_gV k1252 k1254 ks58 k12 k1255) rfl rfl rfl cu_M_spoiled_0 ⟨by rw [hR]; exact Nat.le_of_ble_eq_true rfl, by rw [hR]; exact Nat.le_of_ble_eq_true rfl⟩) (my_preV hK hN (hP.sub [1] rfl) (hD.sub [1] (by decide +kernel) rfl) 0 rfl rfl) rfl rfl hl.1 rfl (lv_room (Nat.le_of_ble_eq_true rfl)) d_M_get_94 ⟨by rw [hR]; exact Nat.le_of_ble_eq_true rfl, by rw [hR]; exact Nat.le_of_ble_eq_true rfl⟩) hP hD hS hA [1] [0, 2, 3, 4, 5, 6] rfl rfl (by decide +kernel) (by decide +kernel) (fun r_94 u9 H locs hw_94 hP hD hS => ?_)
                have hw_94 : r_94 = -5 := hw_94
                have hPD : my_PD (dC, dI) vwCl A [((g 1), Sum.inl (cI, 512, Sum.inl vCounts)), ((g 0), Sum.inl (cI, 8, Sum.inl vMany)), ((g 3), Sum.inl (cI, 512, Sum.inl vThen)), ((g 8), Sum.inl (cI, 6000, Sum.inl vIn)), ((g 9), Sum.inl (cI, 512, Sum.inl so2_85)), ((g 10), Sum.inl (cI, 512, Sum.inl no2_85)), (o, Sum.inr (9, mO g 4 fShift fModels fItems fEnded fLow fRange fCache fPend fGoes fOuts (nI is.length) fReads 1 fIR (nI (((gt4 is (N jj) F X t).2.2 + 7) / 8)) (nI (gt4 is (N jj) F X t).2.2) fCode fRL fRR (lN (gt4 is (N jj) F X t).2.1) fWrites 0))] H := ⟨hP, hD⟩
                have hP := hPD.1
                have hD := hPD.2
                exact my_iret (v := r_94) hx hb hr (rfl) hlocks hQ hK hS (Nat.le_refl _) (Nat.le_refl _) (so2_85, no2_85) (hw_94) (hP.sub [6, 1, 0, 2, 3, 4, 5] rfl) (hD.sub [6, 1, 0, 2, 3, 4, 5] (by decide +kernel) rfl) d_M_get_97
            · exact absurd c_6 (by decide)
          · exact absurd c_5 (by decide)
        · exact absurd (by decide) c_4
      · exact absurd (by decide) c_3
    · exact absurd c_2 hrd
  · exact absurd (show 0 ≤ nI jj ∧ nI jj ≤ nI km - 1 from (isN_iff (k := km) (by have := hMD.1; omega)).mpr ⟨jj, hj, rfl⟩) (by rw [hmod] at hw_7; exact one_eq hw_7 c_1)
set_option maxHeartbeats 2000000 in
set_option maxRecDepth 100000 in
theorem m_modelBr (l : Launch) (dC : Nat → ClassId) (dI : Nat → Nat → Nat) (cI cM cO : ClassId) (sz : Nat) (o : Nat) (g : Nat → Nat) (fForm : Int32) (fShift : Int32) (fModels : Int32) (fItems : Int32) (fEnded : Int32) (fLow : Int64) (fRange : Int64) (fCache : Int32) (fPend : Int32) (fGoes : Int32) (fOuts : Int32) (fIns : Int32) (fReads : Int32) (fBad : Int32) (fIR : Int32) (fAsk : Int32) (fBAsk : Int32) (fCode : Int64) (fRL : Int64) (fRR : Int64) (fX : Int64) (fWrites : Int32) (fThrown : Int32) (vMany : Nat → Int32) (vCounts : Nat → Int32) (vNow : Nat → Int32) (vThen : Nat → Int32) (fm : Nat) (km : Nat) (N : Nat → Nat) (ns : Nat) (hfm : fm ≤ 4) (hform : fForm = nI fm) (hmod : fModels = nI km) (hMD : MD km N vMany vCounts) (hns2 : 2 ≤ ns) (hns : ns ≤ 64) (hk : km < 8) (hT : TB fm km N vNow) (hU : TB fm km N vThen) : MetI l y_M_model (Cond.code y_M_model prog_14_method_13_code 4 (some .int) :: gw) ({ frames := 3, cells := 0, slots := 0, locals := 75 } : Room) (dC, dI) vwCl (kT cI cM cO) [Value.ref o, Value.int (nI ns)] [(o, Sum.inr (9, mO g fForm fShift fModels fItems fEnded fLow fRange fCache fPend fGoes fOuts fIns fReads fBad fIR fAsk fBAsk fCode fRL fRR fX fWrites fThrown)), ((g 0), Sum.inl (cI, 8, Sum.inl vMany)), ((g 1), Sum.inl (cI, 512, Sum.inl vCounts)), ((g 2), Sum.inl (cI, 512, Sum.inl vNow)), ((g 3), Sum.inl (cI, 512, Sum.inl vThen))] sz (fun (r : Int32) (u : Int32 × Int32 × (Nat → Int32) × (Nat → Int32) × (Nat → Int32) × (Nat → Int32)) => r = nI km ∧ MD (km + 1) (upN N km ns) u.2.2.1 u.2.2.2.1 ∧ TB fm (km + 1) (upN N km ns) u.2.2.2.2.1 ∧ TB fm (km + 1) (upN N km ns) u.2.2.2.2.2 ∧ u.1 = nI (km + 1) ∧ sgO u.2.2.2.2.1 vNow (64 * km) 64 ∧ sgI u.2.2.2.2.1 (64 * km) (pfN fm ns) (pf fm ns (fun _ => 1)) ∧ sgI u.2.2.2.1 (64 * km) ns (fun _ => 1) ∧ sgO u.2.2.2.1 vCounts (64 * km) 64 ∧ sgI u.2.2.2.2.2 (64 * km) (pfN fm ns) (pf fm ns (fun _ => 1)) ∧ sgO u.2.2.2.2.2 vThen (64 * km) 64) (fun (u : Int32 × Int32 × (Nat → Int32) × (Nat → Int32) × (Nat → Int32) × (Nat → Int32)) => [(o, Sum.inr (9, mO g fForm fShift u.1 fItems fEnded fLow fRange fCache fPend fGoes fOuts fIns fReads fBad fIR fAsk fBAsk fCode fRL fRR fX fWrites u.2.1)), ((g 0), Sum.inl (cI, 8, Sum.inl u.2.2.1)), ((g 1), Sum.inl (cI, 512, Sum.inl u.2.2.2.1)), ((g 2), Sum.inl (cI, 512, Sum.inl u.2.2.2.2.1)), ((g 3), Sum.inl (cI, 512, Sum.inl u.2.2.2.2.2))]) 0 0 := by
  refine my_ofI (cc := prog_14_method_13_code) (n := 4) (ret := (some .int)) (by decide) rfl (Nat.le_of_ble_eq_true rfl) ?_
  intro p e s m args below meth c R Q A ls H locs hx hb hr hts hown hlocks hml hnm hR hQ hA hl hP hK hN hD hS
  have hg : ∀ w ∈ gw, w.before args s = true := fun w h => hts w (List.mem_cons_of_mem _ h)
  have hown : s.vm.findClass "RangeCodersModel" = some m.cls := hown
  have hl : lv_has ls 4 [(0, Value.ref o), (1, Value.int (nI ns))] := hl
  subst hmod
  have hPD : my_PD (dC, dI) vwCl A [(o, Sum.inr (9, mO g fForm fShift (nI km) fItems fEnded fLow fRange fCache fPend fGoes fOuts fIns fReads fBad fIR fAsk fBAsk fCode fRL fRR fX fWrites fThrown)), ((g 0), Sum.inl (cI, 8, Sum.inl vMany)), ((g 1), Sum.inl (cI, 512, Sum.inl vCounts)), ((g 2), Sum.inl (cI, 512, Sum.inl vNow)), ((g 3), Sum.inl (cI, 512, Sum.inl vThen))] H := ⟨hP, hD⟩
  have hP := hPD.1
  have hD := hPD.2
  have hl : lv_has ls 4 [(0, Value.ref o), (1, Value.int (nI ns))] := hl
  refine lv_aload_n hx hb d_M_model_0 rfl (lv_at hl 0 rfl) ?_
  refine lv_iconst (v := 0) hx hb d_M_model_1 (by decide) ?_
  refine va_put (D := (dC, dI)) (ci := 9) (v := .int 0) (ty := .int) (C := "RangeCodersModel") (T := T_M) (N := 35) hx hb hg in_M t_M o_M n_M hown hK hP hD hS 0 rfl rfl 34 (by decide) (hg _ k986) (fun _ h9 => h9) rfl (o_M 34 (by decide)) rfl rfl (Nat.le_of_ble_eq_true rfl) d_M_model_2 (fun H locs hP hD hS => ?_)
  have hPD : my_PD (dC, dI) vwCl A [(o, Sum.inr (9, mO g fForm fShift (nI km) fItems fEnded fLow fRange fCache fPend fGoes fOuts fIns fReads fBad fIR fAsk fBAsk fCode fRL fRR fX fWrites 0)), ((g 0), Sum.inl (cI, 8, Sum.inl vMany)), ((g 1), Sum.inl (cI, 512, Sum.inl vCounts)), ((g 2), Sum.inl (cI, 512, Sum.inl vNow)), ((g 3), Sum.inl (cI, 512, Sum.inl vThen))] H := ⟨hP, hD⟩
  have hP := hPD.1
  have hD := hPD.2
  refine lv_iload_n hx hb d_M_model_5 rfl (lv_at hl 1 rfl) ?_
  refine lv_iconst (v := 2) hx hb d_M_model_6 (by decide) ?_
  refine lv_bipush (v := 64) hx hb d_M_model_7 (by decide) ?_
  refine my_ci (wr := [(o, Sum.inr (9, mO g fForm fShift (nI km) fItems fEnded fLow fRange fCache fPend fGoes fOuts fIns fReads fBad fIR fAsk fBAsk fCode fRL fRR fX fWrites 0)), ((g 0), Sum.inl (cI, 8, Sum.inl vMany)), ((g 1), Sum.inl (cI, 512, Sum.inl vCounts)), ((g 2), Sum.inl (cI, 512, Sum.inl vNow)), ((g 3), Sum.inl (cI, 512, Sum.inl vThen))]) (va_runS (As := [Value.int (nI ns), Value.int 2, Value.int 64]) (rest := []) ⟨hx, hb, hml, hown, hts⟩ (c_M_in l dC dI cI cM cO H.size (nI ns) 2 64) (cwS 3 hts (my_gS k1062 k1063 k12 k1064) rfl rfl rfl (by decide +kernel) ⟨by rw [hR]; exact Nat.le_of_ble_eq_true rfl, by rw [hR]; exact Nat.le_of_ble_eq_true rfl⟩) (my_pre hK hN (hP.sub [] rfl) (hD.sub [] (by decide +kernel) rfl)) rfl rfl hl.1 rfl (lv_room (Nat.le_of_ble_eq_true rfl)) d_M_model_9 ⟨by rw [hR]; exact Nat.le_of_ble_eq_true rfl, by rw [hR]; exact Nat.le_of_ble_eq_true rfl⟩) hP hD hS hA [] [0, 1, 2, 3, 4] rfl rfl (by decide +kernel) (by decide +kernel) (fun r_9 u9 H locs hw_9 hP hD hS => ?_)
  have hw_9 : r_9 = if 2 ≤ (nI ns) ∧ (nI ns) ≤ 64 then 1 else 0 := hw_9
  have hPD : my_PD (dC, dI) vwCl A [(o, Sum.inr (9, mO g fForm fShift (nI km) fItems fEnded fLow fRange fCache fPend fGoes fOuts fIns fReads fBad fIR fAsk fBAsk fCode fRL fRR fX fWrites 0)), ((g 0), Sum.inl (cI, 8, Sum.inl vMany)), ((g 1), Sum.inl (cI, 512, Sum.inl vCounts)), ((g 2), Sum.inl (cI, 512, Sum.inl vNow)), ((g 3), Sum.inl (cI, 512, Sum.inl vThen))] H := ⟨hP, hD⟩
  have hP := hPD.1
  have hD := hPD.2
  refine lv_if_ne (tgt := 18) hx hb d_M_model_12 (by decide) (fun c_1 => ?_) (fun c_1 => ?_)
  · refine lv_aload_n hx hb d_M_model_18 rfl (lv_at hl 0 rfl) ?_
    refine va_get (D := (dC, dI)) (ci := 9) (v := .int (nI km)) (C := "RangeCodersModel") (T := T_M) (N := 35) hx hb hg in_M hown hK hP 0 rfl rfl 2 (by decide) (hg _ k954) (fun _ h9 => h9) rfl d_M_model_19 ?_
    refine lv_bipush (v := 8) hx hb d_M_model_22 (by decide) ?_
    refine lv_icmp_ne (tgt := 30) hx hb d_M_model_24 (by decide) (fun c_2 => ?_) (fun c_2 => ?_)
    · refine lv_aload_n hx hb d_M_model_30 rfl (lv_at hl 0 rfl) ?_
      refine va_get (D := (dC, dI)) (ci := 9) (v := .int (nI km)) (C := "RangeCodersModel") (T := T_M) (N := 35) hx hb hg in_M hown hK hP 0 rfl rfl 2 (by decide) (hg _ k954) (fun _ h9 => h9) rfl d_M_model_31 ?_
      refine lv_istore_n (lv' := [(2, Value.int (nI km)), (0, Value.ref o), (1, Value.int (nI ns))]) hx hb d_M_model_34 rfl hl (by decide) rfl (fun ls hl => ?_)
      refine lv_aload_n hx hb d_M_model_35 rfl (lv_at hl 1 rfl) ?_
      refine lv_dup hx hb d_M_model_36 rfl ?_
      refine va_get (D := (dC, dI)) (ci := 9) (v := .int (nI km)) (C := "RangeCodersModel") (T := T_M) (N := 35) hx hb hg in_M hown hK hP 0 rfl rfl 2 (by decide) (hg _ k954) (fun _ h9 => h9) rfl d_M_model_37 ?_
      refine lv_iconst (v := 1) hx hb d_M_model_40 (by decide) ?_
      refine lv_iadd hx hb d_M_model_41 ?_
      refine lv_topi (fun v_3 ev_3 => ?_)
      have z9 : v_3 = nI (km + 1) := by rw [ev_3]; exact nI_1 _
      subst z9
      refine va_put (D := (dC, dI)) (ci := 9) (v := .int (nI (km + 1))) (ty := .int) (C := "RangeCodersModel") (T := T_M) (N := 35) hx hb hg in_M t_M o_M n_M hown hK hP hD hS 0 rfl rfl 2 (by decide) (hg _ k954) (fun _ h9 => h9) rfl (o_M 2 (by decide)) rfl rfl (Nat.le_of_ble_eq_true rfl) d_M_model_42 (fun H locs hP hD hS => ?_)
      have hPD : my_PD (dC, dI) vwCl A [(o, Sum.inr (9, mO g fForm fShift (nI (km + 1)) fItems fEnded fLow fRange fCache fPend fGoes fOuts fIns fReads fBad fIR fAsk fBAsk fCode fRL fRR fX fWrites 0)), ((g 0), Sum.inl (cI, 8, Sum.inl vMany)), ((g 1), Sum.inl (cI, 512, Sum.inl vCounts)), ((g 2), Sum.inl (cI, 512, Sum.inl vNow)), ((g 3), Sum.inl (cI, 512, Sum.inl vThen))] H := ⟨hP, hD⟩
      have hP := hPD.1
      have hD := hPD.2
      refine lv_aload_n hx hb d_M_model_45 rfl (lv_at hl 1 rfl) ?_
      refine va_get (D := (dC, dI)) (ci := 9) (v := .ref (g 0)) (C := "RangeCodersModel") (T := T_M) (N := 35) hx hb hg in_M hown hK hP 0 rfl rfl 3 (by decide) (hg _ k955) (fun _ h9 => h9) rfl d_M_model_46 ?_
      refine lv_iload_n hx hb d_M_model_49 rfl (lv_at hl 0 rfl) ?_
      refine lv_iload_n hx hb d_M_model_50 rfl (lv_at hl 2 rfl) ?_
      refine va_iast hx hb hK hP hD hS 1 0 rfl rfl (vp_in_nI hk (by decide)) d_M_model_51 (fun H locs hP hD hS => ?_)
      have hPD : my_PD (dC, dI) vwCl A [(o, Sum.inr (9, mO g fForm fShift (nI (km + 1)) fItems fEnded fLow fRange fCache fPend fGoes fOuts fIns fReads fBad fIR fAsk fBAsk fCode fRL fRR fX fWrites 0)), ((g 0), Sum.inl (cI, 8, Sum.inl (upd vMany (nI km).toNatClampNeg (nI ns)))), ((g 1), Sum.inl (cI, 512, Sum.inl vCounts)), ((g 2), Sum.inl (cI, 512, Sum.inl vNow)), ((g 3), Sum.inl (cI, 512, Sum.inl vThen))] H := ⟨hP, hD⟩
      have hP := hPD.1
      have hD := hPD.2
      rw [nI_clamp (show km < 2 ^ 31 by omega)] at hP hD
      refine lv_iconst (v := 0) hx hb d_M_model_52 (by decide) ?_
      refine lv_istore_n (lv' := [(3, Value.int 0), (2, Value.int (nI km)), (0, Value.ref o), (1, Value.int (nI ns))]) hx hb d_M_model_53 rfl hl (by decide) rfl (fun ls hl => ?_)
      have J_54 : ∀ (n9_54 : Nat) (kk : Nat) (fC : Nat → Int32) (hn9_54 : ns - kk = n9_54) (hkk : kk ≤ ns) (hM9 : sgM fC vCounts (64 * km) 64 kk (fun _ => 1)) (H : Heap) (locs : List Loc) (ls : Array Slot), va_P (dC, dI) vwCl [(o, Sum.inr (9, mO g fForm fShift (nI (km + 1)) fItems fEnded fLow fRange fCache fPend fGoes fOuts fIns fReads fBad fIR fAsk fBAsk fCode fRL fRR fX fWrites 0)), ((g 0), Sum.inl (cI, 8, Sum.inl (upd vMany km (nI ns)))), ((g 1), Sum.inl (cI, 512, Sum.inl fC)), ((g 2), Sum.inl (cI, 512, Sum.inl vNow)), ((g 3), Sum.inl (cI, 512, Sum.inl vThen))] H → va_D A [(o, Sum.inr (9, mO g fForm fShift (nI (km + 1)) fItems fEnded fLow fRange fCache fPend fGoes fOuts fIns fReads fBad fIR fAsk fBAsk fCode fRL fRR fX fWrites 0)), ((g 0), Sum.inl (cI, 8, Sum.inl (upd vMany km (nI ns)))), ((g 1), Sum.inl (cI, 512, Sum.inl fC)), ((g 2), Sum.inl (cI, 512, Sum.inl vNow)), ((g 3), Sum.inl (cI, 512, Sum.inl vThen))] → va_S A s.heap H locs → lv_has ls 4 [(3, Value.int (nI kk)), (2, Value.int (nI km)), (0, Value.ref o), (1, Value.int (nI ns))] → W p l e R s m args below meth c H locs 0 0 Q (F0 m 54 ls []) := by
        intro n9_54
        induction n9_54 using Nat.strongRecOn with
        | ind n9_54 ih9_54 =>
          intro kk fC hn9_54 hkk hM9 H locs ls hP hD hS hl
          refine lv_iload_n hx hb d_M_model_54 rfl (lv_at hl 0 rfl) ?_
          refine lv_iload_n hx hb d_M_model_55 rfl (lv_at hl 3 rfl) ?_
          refine lv_icmp_ge (tgt := 77) hx hb d_M_model_56 (by decide) (fun c_4 => ?_) (fun c_4 => ?_)
          · have hkn : kk = ns := by have := (nI_cmp (a := ns) (b := kk) (by omega) (by omega)).mp c_4; omega
            subst hkn
            have hmn : upd vMany km (nI kk) km = nI kk := pk_us
            have hb1 : bd (fun _ => 1) kk 4095 := fun _ _ => (by decide : 1 ≤ 4095)
            refine lv_aload_n hx hb d_M_model_77 rfl (lv_at hl 2 rfl) ?_
            refine lv_aload_n hx hb d_M_model_78 rfl (lv_at hl 2 rfl) ?_
            refine va_get (D := (dC, dI)) (ci := 9) (v := .ref (g 2)) (C := "RangeCodersModel") (T := T_M) (N := 35) hx hb hg in_M hown hK hP 0 rfl rfl 5 (by decide) (hg _ k957) (fun _ h9 => h9) rfl d_M_model_79 ?_
            refine lv_iload_n hx hb d_M_model_82 rfl (lv_at hl 1 rfl) ?_
            refine my_cv (wr := [((g 3), Sum.inl (cI, 512, Sum.inl vThen))]) (va_runV (As := [Value.ref (g 2), Value.int (nI km)]) (rest := []) ⟨hx, hb, hml, hown, hts⟩ (c_M_prepare l dC dI cI cM cO H.size o g fForm fShift (nI (km + 1)) fItems fEnded fLow fRange fCache fPend fGoes fOuts fIns fReads fBad fIR fAsk fBAsk fCode fRL fRR fX fWrites 0 (upd vMany km (nI kk)) fC (g 2) vNow km kk fm (fun _ => 1) (by omega) (hmn) (by omega) (by omega) (hfm) (hform) (hM9.1) (hb1)) (cwV 2 hts (my_gV k928 k930 ks19 k12 k931) rfl rfl rfl cu_M_prepare_2 ⟨by rw [hR]; exact Nat.le_of_ble_eq_true rfl, by rw [hR]; exact Nat.le_of_ble_eq_true rfl⟩) (my_preV hK hN (hP.sub [0, 1, 2, 3] rfl) (hD.sub [0, 1, 2, 3] (by decide +kernel) rfl) 0 rfl rfl) rfl rfl hl.1 rfl (lv_room (Nat.le_of_ble_eq_true rfl)) d_M_model_83 ⟨by rw [hR]; exact Nat.le_of_ble_eq_true rfl, by rw [hR]; exact Nat.le_of_ble_eq_true rfl⟩) hP hD hS hA [0, 1, 2, 3] [4] rfl rfl (by decide +kernel) (by decide +kernel) (fun u9 H locs hw_83 hP hD hS => ?_)
            obtain ⟨f2_83, rfl⟩ : ∃ z, z = u9 := ⟨_, rfl⟩
            have hw_83 : sgI f2_83 (64 * km) (pfN fm kk) (pf fm kk (fun _ => 1)) ∧ sgO f2_83 vNow (64 * km) 64 := hw_83
            have hPD : my_PD (dC, dI) vwCl A [((g 3), Sum.inl (cI, 512, Sum.inl vThen)), (o, Sum.inr (9, mO g fForm fShift (nI (km + 1)) fItems fEnded fLow fRange fCache fPend fGoes fOuts fIns fReads fBad fIR fAsk fBAsk fCode fRL fRR fX fWrites 0)), ((g 0), Sum.inl (cI, 8, Sum.inl (upd vMany km (nI kk)))), ((g 1), Sum.inl (cI, 512, Sum.inl fC)), ((g 2), Sum.inl (cI, 512, Sum.inl f2_83))] H := ⟨hP, hD⟩
            have hP := hPD.1
            have hD := hPD.2
            refine lv_aload_n hx hb d_M_model_86 rfl (lv_at hl 2 rfl) ?_
            refine lv_aload_n hx hb d_M_model_87 rfl (lv_at hl 2 rfl) ?_
            refine va_get (D := (dC, dI)) (ci := 9) (v := .ref (g 3)) (C := "RangeCodersModel") (T := T_M) (N := 35) hx hb hg in_M hown hK hP 1 rfl rfl 6 (by decide) (hg _ k958) (fun _ h9 => h9) rfl d_M_model_88 ?_
            refine lv_iload_n hx hb d_M_model_91 rfl (lv_at hl 1 rfl) ?_
            refine my_cv (wr := [((g 2), Sum.inl (cI, 512, Sum.inl f2_83))]) (va_runV (As := [Value.ref (g 3), Value.int (nI km)]) (rest := []) ⟨hx, hb, hml, hown, hts⟩ (c_M_prepare l dC dI cI cM cO H.size o g fForm fShift (nI (km + 1)) fItems fEnded fLow fRange fCache fPend fGoes fOuts fIns fReads fBad fIR fAsk fBAsk fCode fRL fRR fX fWrites 0 (upd vMany km (nI kk)) fC (g 3) vThen km kk fm (fun _ => 1) (by omega) (hmn) (by omega) (by omega) (hfm) (hform) (hM9.1) (hb1)) (cwV 2 hts (my_gV k928 k930 ks19 k12 k931) rfl rfl rfl cu_M_prepare_2 ⟨by rw [hR]; exact Nat.le_of_ble_eq_true rfl, by rw [hR]; exact Nat.le_of_ble_eq_true rfl⟩) (my_preV hK hN (hP.sub [1, 2, 3, 0] rfl) (hD.sub [1, 2, 3, 0] (by decide +kernel) rfl) 0 rfl rfl) rfl rfl hl.1 rfl (lv_room (Nat.le_of_ble_eq_true rfl)) d_M_model_92 ⟨by rw [hR]; exact Nat.le_of_ble_eq_true rfl, by rw [hR]; exact Nat.le_of_ble_eq_true rfl⟩) hP hD hS hA [1, 2, 3, 0] [4] rfl rfl (by decide +kernel) (by decide +kernel) (fun u9 H locs hw_92 hP hD hS => ?_)
            obtain ⟨f2_92, rfl⟩ : ∃ z, z = u9 := ⟨_, rfl⟩
            have hw_92 : sgI f2_92 (64 * km) (pfN fm kk) (pf fm kk (fun _ => 1)) ∧ sgO f2_92 vThen (64 * km) 64 := hw_92
            have hPD : my_PD (dC, dI) vwCl A [((g 2), Sum.inl (cI, 512, Sum.inl f2_83)), (o, Sum.inr (9, mO g fForm fShift (nI (km + 1)) fItems fEnded fLow fRange fCache fPend fGoes fOuts fIns fReads fBad fIR fAsk fBAsk fCode fRL fRR fX fWrites 0)), ((g 0), Sum.inl (cI, 8, Sum.inl (upd vMany km (nI kk)))), ((g 1), Sum.inl (cI, 512, Sum.inl fC)), ((g 3), Sum.inl (cI, 512, Sum.inl f2_92))] H := ⟨hP, hD⟩
            have hP := hPD.1
            have hD := hPD.2
            refine lv_iload_n hx hb d_M_model_95 rfl (lv_at hl 1 rfl) ?_
            exact my_iret (v := (nI km)) hx hb hr (rfl) hlocks hQ hK hS (Nat.le_refl _) (Nat.le_refl _) ((nI (km + 1)), (0 : Int32), (upd vMany km (nI kk)), fC, f2_83, f2_92) (⟨rfl, MD_new hMD hk (by omega) (by omega) hM9.2 hM9.1 hb1, TB_new hT (MD_N hMD) hw_83.2 (tab_pf hfm (by omega) (by omega) hb1 hw_83.1), TB_new hU (MD_N hMD) hw_92.2 (tab_pf hfm (by omega) (by omega) hb1 hw_92.1), rfl, hw_83.2, hw_83.1, hM9.1, hM9.2, hw_92.1, hw_92.2⟩) (hP.sub [1, 2, 3, 0, 4] rfl) (hD.sub [1, 2, 3, 0, 4] (by decide +kernel) rfl) d_M_model_96
          · have hkl : kk < ns := by
              rcases Nat.lt_or_ge kk ns with z | z
              · exact z
              · exact absurd (nI_le z (by omega)) c_4
            refine lv_aload_n hx hb d_M_model_59 rfl (lv_at hl 2 rfl) ?_
            refine va_get (D := (dC, dI)) (ci := 9) (v := .ref (g 1)) (C := "RangeCodersModel") (T := T_M) (N := 35) hx hb hg in_M hown hK hP 0 rfl rfl 4 (by decide) (hg _ k956) (fun _ h9 => h9) rfl d_M_model_60 ?_
            refine lv_bipush (v := 64) hx hb d_M_model_63 (by decide) ?_
            refine lv_iload_n hx hb d_M_model_65 rfl (lv_at hl 1 rfl) ?_
            refine lv_imul hx hb d_M_model_66 ?_
            refine lv_topi (fun v_5 ev_5 => ?_)
            refine lv_iload_n hx hb d_M_model_67 rfl (lv_at hl 0 rfl) ?_
            refine lv_iadd hx hb d_M_model_68 ?_
            refine lv_topi (fun v_6 ev_6 => ?_)
            have hix : v_6 = nI (64 * km + kk) := by rw [ev_6, ev_5]; exact ix64
            refine lv_iconst (v := 1) hx hb d_M_model_69 (by decide) ?_
            refine va_iast hx hb hK hP hD hS 2 0 rfl rfl (by rw [hix]; exact vp_in_nI (by omega) (by decide)) d_M_model_70 (fun H locs hP hD hS => ?_)
            have hPD : my_PD (dC, dI) vwCl A [(o, Sum.inr (9, mO g fForm fShift (nI (km + 1)) fItems fEnded fLow fRange fCache fPend fGoes fOuts fIns fReads fBad fIR fAsk fBAsk fCode fRL fRR fX fWrites 0)), ((g 0), Sum.inl (cI, 8, Sum.inl (upd vMany km (nI ns)))), ((g 1), Sum.inl (cI, 512, Sum.inl (upd fC v_6.toNatClampNeg 1))), ((g 2), Sum.inl (cI, 512, Sum.inl vNow)), ((g 3), Sum.inl (cI, 512, Sum.inl vThen))] H := ⟨hP, hD⟩
            have hP := hPD.1
            have hD := hPD.2
            have hM8 : sgM (upd fC v_6.toNatClampNeg 1) vCounts (64 * km) 64 (kk + 1) (fun _ => 1) := sgM_st hM9 (by omega) (by rw [hix]; exact nI_clamp (by omega)) rfl
            obtain ⟨v_7, ev_7⟩ : ∃ y : Int32, y = (nI kk) + (1) := ⟨_, rfl⟩
            refine lv_iinc (v := v_7) (lv' := [(3, Value.int v_7), (2, Value.int (nI km)), (0, Value.ref o), (1, Value.int (nI ns))]) hx hb d_M_model_71 hl (k := 0) rfl (by rw [ev_7]; rfl) (by decide) rfl (fun ls hl => ?_)
            have z9 : v_7 = nI (kk + 1) := by rw [ev_7]; exact nI_1 _
            subst z9
            refine lv_goto (tgt := 54) hx hb d_M_model_74 (by decide) ?_
            exact ih9_54 _ (by first | omega | (omega)) (kk + 1) (upd fC v_6.toNatClampNeg 1) rfl (by omega) (hM8) H locs ls (hP.sub [0, 1, 2, 3, 4] rfl) (hD.sub [0, 1, 2, 3, 4] (by decide +kernel) rfl) hS (lv_sub hl [0, 1, 2, 3] rfl)
      exact J_54 _ (0 : Nat) vCounts rfl (Nat.zero_le _) (sgM_0 _ _ _ _) H locs ls (hP.sub [0, 1, 2, 3, 4] rfl) (hD.sub [0, 1, 2, 3, 4] (by decide +kernel) rfl) hS (lv_sub hl [0, 1, 2, 3] rfl)
    · exact absurd (nI_inj (a := km) (b := 8) (by omega) (by decide) c_2) (by omega)
  · exact absurd ⟨nI_le (a := 2) hns2 (by omega), nI_le (b := 64) hns (by omega)⟩ (one_eq hw_9 c_1)
set_option maxHeartbeats 2000000 in
set_option maxRecDepth 100000 in
theorem m_readF0 (l : Launch) (dC : Nat → ClassId) (dI : Nat → Nat → Nat) (cI cM cO : ClassId) (sz : Nat) (o : Nat) (g : Nat → Nat) (fForm : Int32) (fShift : Int32) (fModels : Int32) (fItems : Int32) (fEnded : Int32) (fLow : Int64) (fRange : Int64) (fCache : Int32) (fPend : Int32) (fGoes : Int32) (fOuts : Int32) (fIns : Int32) (fReads : Int32) (fBad : Int32) (fIR : Int32) (fAsk : Int32) (fBAsk : Int32) (fCode : Int64) (fRL : Int64) (fRR : Int64) (fX : Int64) (fWrites : Int32) (fThrown : Int32) (vMany : Nat → Int32) (vCounts : Nat → Int32) (vThen : Nat → Int32) (vIn : Nat → Int32) (km : Nat) (N : Nat → Nat) (is : List Nat) (hfo : fForm = 0) (hmod : fModels = nI km) (hMD : MD km N vMany vCounts) (hins : fIns = nI is.length) (hIn : gIs vIn is) (hlen : is.length ≤ 6000) (hoct : oct is) : MetI l y_M_read (Cond.code y_M_read prog_14_method_43_code 2 (some .int) :: gw) ({ frames := 3, cells := 0, slots := 0, locals := 75 } : Room) (dC, dI) vwCl (kT cI cM cO) [Value.ref o] [(o, Sum.inr (9, mO g fForm fShift fModels fItems fEnded fLow fRange fCache fPend fGoes fOuts fIns fReads fBad fIR fAsk fBAsk fCode fRL fRR fX fWrites fThrown)), ((g 0), Sum.inl (cI, 8, Sum.inl vMany)), ((g 1), Sum.inl (cI, 512, Sum.inl vCounts)), ((g 3), Sum.inl (cI, 512, Sum.inl vThen)), ((g 8), Sum.inl (cI, 6000, Sum.inl vIn))] sz (fun (r : Int32) (u : Int32 × Int32 × Int32 × Int32 × Int32 × Int64 × Int64 × Int64 × Int64 × Int32 × (Nat → Int32)) => pfA 0 km N vCounts u.2.2.2.2.2.2.2.2.2.2 ∧ (u.2.2.2.2.2.1 = lN (frN is 0 4) ∧ u.2.2.2.2.2.2.2.1 = lN 4294967295 ∧ u.2.2.2.1 = nI 4 ∧ u.2.1 = 0) ∧ r = nI is.length ∧ u.1 = 1) (fun (u : Int32 × Int32 × Int32 × Int32 × Int32 × Int64 × Int64 × Int64 × Int64 × Int32 × (Nat → Int32)) => [(o, Sum.inr (9, mO g fForm fShift fModels fItems fEnded fLow fRange fCache fPend fGoes fOuts fIns u.1 u.2.1 u.2.2.1 u.2.2.2.1 u.2.2.2.2.1 u.2.2.2.2.2.1 u.2.2.2.2.2.2.1 u.2.2.2.2.2.2.2.1 u.2.2.2.2.2.2.2.2.1 fWrites u.2.2.2.2.2.2.2.2.2.1)), ((g 0), Sum.inl (cI, 8, Sum.inl vMany)), ((g 1), Sum.inl (cI, 512, Sum.inl vCounts)), ((g 3), Sum.inl (cI, 512, Sum.inl u.2.2.2.2.2.2.2.2.2.2)), ((g 8), Sum.inl (cI, 6000, Sum.inl vIn))]) 0 0 := by
  refine my_ofI (cc := prog_14_method_43_code) (n := 2) (ret := (some .int)) (by decide) rfl (Nat.le_of_ble_eq_true rfl) ?_
  intro p e s m args below meth c R Q A ls H locs hx hb hr hts hown hlocks hml hnm hR hQ hA hl hP hK hN hD hS
  have hg : ∀ w ∈ gw, w.before args s = true := fun w h => hts w (List.mem_cons_of_mem _ h)
  have hown : s.vm.findClass "RangeCodersModel" = some m.cls := hown
  have hl : lv_has ls 2 [(0, Value.ref o)] := hl
  subst hfo
  have hfm : 0 ≤ 4 := by decide
  subst hins
  have hPD : my_PD (dC, dI) vwCl A [(o, Sum.inr (9, mO g 0 fShift fModels fItems fEnded fLow fRange fCache fPend fGoes fOuts (nI is.length) fReads fBad fIR fAsk fBAsk fCode fRL fRR fX fWrites fThrown)), ((g 0), Sum.inl (cI, 8, Sum.inl vMany)), ((g 1), Sum.inl (cI, 512, Sum.inl vCounts)), ((g 3), Sum.inl (cI, 512, Sum.inl vThen)), ((g 8), Sum.inl (cI, 6000, Sum.inl vIn))] H := ⟨hP, hD⟩
  have hP := hPD.1
  have hD := hPD.2
  have hl : lv_has ls 2 [(0, Value.ref o)] := hl
  refine lv_aload_n hx hb d_M_read_0 rfl (lv_at hl 0 rfl) ?_
  refine lv_iconst (v := 0) hx hb d_M_read_1 (by decide) ?_
  refine va_put (D := (dC, dI)) (ci := 9) (v := .int 0) (ty := .int) (C := "RangeCodersModel") (T := T_M) (N := 35) hx hb hg in_M t_M o_M n_M hown hK hP hD hS 0 rfl rfl 34 (by decide) (hg _ k986) (fun _ h9 => h9) rfl (o_M 34 (by decide)) rfl rfl (Nat.le_of_ble_eq_true rfl) d_M_read_2 (fun H locs hP hD hS => ?_)
  have hPD : my_PD (dC, dI) vwCl A [(o, Sum.inr (9, mO g 0 fShift fModels fItems fEnded fLow fRange fCache fPend fGoes fOuts (nI is.length) fReads fBad fIR fAsk fBAsk fCode fRL fRR fX fWrites 0)), ((g 0), Sum.inl (cI, 8, Sum.inl vMany)), ((g 1), Sum.inl (cI, 512, Sum.inl vCounts)), ((g 3), Sum.inl (cI, 512, Sum.inl vThen)), ((g 8), Sum.inl (cI, 6000, Sum.inl vIn))] H := ⟨hP, hD⟩
  have hP := hPD.1
  have hD := hPD.2
  refine lv_iconst (v := 0) hx hb d_M_read_5 (by decide) ?_
  refine lv_istore_n (lv' := [(1, Value.int 0), (0, Value.ref o)]) hx hb d_M_read_6 rfl hl (by decide) rfl (fun ls hl => ?_)
  have J_7 : ∀ (n9_7 : Nat) (jj : Nat) (fN : Nat → Int32) (hn9_7 : km - jj = n9_7) (hjj : jj ≤ km) (hT9 : pfA 0 jj N vCounts fN) (H : Heap) (locs : List Loc) (ls : Array Slot), va_P (dC, dI) vwCl [(o, Sum.inr (9, mO g 0 fShift fModels fItems fEnded fLow fRange fCache fPend fGoes fOuts (nI is.length) fReads fBad fIR fAsk fBAsk fCode fRL fRR fX fWrites 0)), ((g 0), Sum.inl (cI, 8, Sum.inl vMany)), ((g 1), Sum.inl (cI, 512, Sum.inl vCounts)), ((g 3), Sum.inl (cI, 512, Sum.inl fN)), ((g 8), Sum.inl (cI, 6000, Sum.inl vIn))] H → va_D A [(o, Sum.inr (9, mO g 0 fShift fModels fItems fEnded fLow fRange fCache fPend fGoes fOuts (nI is.length) fReads fBad fIR fAsk fBAsk fCode fRL fRR fX fWrites 0)), ((g 0), Sum.inl (cI, 8, Sum.inl vMany)), ((g 1), Sum.inl (cI, 512, Sum.inl vCounts)), ((g 3), Sum.inl (cI, 512, Sum.inl fN)), ((g 8), Sum.inl (cI, 6000, Sum.inl vIn))] → va_S A s.heap H locs → lv_has ls 2 [(1, Value.int (nI jj)), (0, Value.ref o)] → W p l e R s m args below meth c H locs 0 0 Q (F0 m 7 ls []) := by
    intro n9_7
    induction n9_7 using Nat.strongRecOn with
    | ind n9_7 ih9_7 =>
      intro jj fN hn9_7 hjj hT9 H locs ls hP hD hS hl
      refine lv_iload_n hx hb d_M_read_7 rfl (lv_at hl 0 rfl) ?_
      refine lv_aload_n hx hb d_M_read_8 rfl (lv_at hl 1 rfl) ?_
      refine va_get (D := (dC, dI)) (ci := 9) (v := .int fModels) (C := "RangeCodersModel") (T := T_M) (N := 35) hx hb hg in_M hown hK hP 0 rfl rfl 2 (by decide) (hg _ k954) (fun _ h9 => h9) rfl d_M_read_9 ?_
      refine lv_icmp_ge (tgt := 30) hx hb d_M_read_12 (by decide) (fun c_1 => ?_) (fun c_1 => ?_)
      · have hjk : jj = km := by
          have hk8 := hMD.1
          rw [hmod] at c_1
          have := (nI_cmp (by omega) (by omega)).mp c_1
          omega
        subst hjk
        refine lv_aload_n hx hb d_M_read_30 rfl (lv_at hl 1 rfl) ?_
        refine lv_iconst (v := 1) hx hb d_M_read_31 (by decide) ?_
        refine va_put (D := (dC, dI)) (ci := 9) (v := .int 1) (ty := .boolean) (C := "RangeCodersModel") (T := T_M) (N := 35) hx hb hg in_M t_M o_M n_M hown hK hP hD hS 0 rfl rfl 21 (by decide) (hg _ k973) (fun _ h9 => h9) rfl (o_M 21 (by decide)) rfl rfl (Nat.le_of_ble_eq_true rfl) d_M_read_32 (fun H locs hP hD hS => ?_)
        have hPD : my_PD (dC, dI) vwCl A [(o, Sum.inr (9, mO g 0 fShift fModels fItems fEnded fLow fRange fCache fPend fGoes fOuts (nI is.length) 1 fBad fIR fAsk fBAsk fCode fRL fRR fX fWrites 0)), ((g 0), Sum.inl (cI, 8, Sum.inl vMany)), ((g 1), Sum.inl (cI, 512, Sum.inl vCounts)), ((g 3), Sum.inl (cI, 512, Sum.inl fN)), ((g 8), Sum.inl (cI, 6000, Sum.inl vIn))] H := ⟨hP, hD⟩
        have hP := hPD.1
        have hD := hPD.2
        refine lv_aload_n hx hb d_M_read_35 rfl (lv_at hl 1 rfl) ?_
        refine lv_iconst (v := 0) hx hb d_M_read_36 (by decide) ?_
        refine va_put (D := (dC, dI)) (ci := 9) (v := .int 0) (ty := .boolean) (C := "RangeCodersModel") (T := T_M) (N := 35) hx hb hg in_M t_M o_M n_M hown hK hP hD hS 0 rfl rfl 22 (by decide) (hg _ k974) (fun _ h9 => h9) rfl (o_M 22 (by decide)) rfl rfl (Nat.le_of_ble_eq_true rfl) d_M_read_37 (fun H locs hP hD hS => ?_)
        have hPD : my_PD (dC, dI) vwCl A [(o, Sum.inr (9, mO g 0 fShift fModels fItems fEnded fLow fRange fCache fPend fGoes fOuts (nI is.length) 1 0 fIR fAsk fBAsk fCode fRL fRR fX fWrites 0)), ((g 0), Sum.inl (cI, 8, Sum.inl vMany)), ((g 1), Sum.inl (cI, 512, Sum.inl vCounts)), ((g 3), Sum.inl (cI, 512, Sum.inl fN)), ((g 8), Sum.inl (cI, 6000, Sum.inl vIn))] H := ⟨hP, hD⟩
        have hP := hPD.1
        have hD := hPD.2
        refine lv_aload_n hx hb d_M_read_40 rfl (lv_at hl 1 rfl) ?_
        refine lv_iconst (v := 0) hx hb d_M_read_41 (by decide) ?_
        refine va_put (D := (dC, dI)) (ci := 9) (v := .int 0) (ty := .int) (C := "RangeCodersModel") (T := T_M) (N := 35) hx hb hg in_M t_M o_M n_M hown hK hP hD hS 0 rfl rfl 23 (by decide) (hg _ k975) (fun _ h9 => h9) rfl (o_M 23 (by decide)) rfl rfl (Nat.le_of_ble_eq_true rfl) d_M_read_42 (fun H locs hP hD hS => ?_)
        have hPD : my_PD (dC, dI) vwCl A [(o, Sum.inr (9, mO g 0 fShift fModels fItems fEnded fLow fRange fCache fPend fGoes fOuts (nI is.length) 1 0 0 fAsk fBAsk fCode fRL fRR fX fWrites 0)), ((g 0), Sum.inl (cI, 8, Sum.inl vMany)), ((g 1), Sum.inl (cI, 512, Sum.inl vCounts)), ((g 3), Sum.inl (cI, 512, Sum.inl fN)), ((g 8), Sum.inl (cI, 6000, Sum.inl vIn))] H := ⟨hP, hD⟩
        have hP := hPD.1
        have hD := hPD.2
        refine lv_aload_n hx hb d_M_read_45 rfl (lv_at hl 1 rfl) ?_
        refine lv_iconst (v := 0) hx hb d_M_read_46 (by decide) ?_
        refine va_put (D := (dC, dI)) (ci := 9) (v := .int 0) (ty := .int) (C := "RangeCodersModel") (T := T_M) (N := 35) hx hb hg in_M t_M o_M n_M hown hK hP hD hS 0 rfl rfl 24 (by decide) (hg _ k976) (fun _ h9 => h9) rfl (o_M 24 (by decide)) rfl rfl (Nat.le_of_ble_eq_true rfl) d_M_read_47 (fun H locs hP hD hS => ?_)
        have hPD : my_PD (dC, dI) vwCl A [(o, Sum.inr (9, mO g 0 fShift fModels fItems fEnded fLow fRange fCache fPend fGoes fOuts (nI is.length) 1 0 0 0 fBAsk fCode fRL fRR fX fWrites 0)), ((g 0), Sum.inl (cI, 8, Sum.inl vMany)), ((g 1), Sum.inl (cI, 512, Sum.inl vCounts)), ((g 3), Sum.inl (cI, 512, Sum.inl fN)), ((g 8), Sum.inl (cI, 6000, Sum.inl vIn))] H := ⟨hP, hD⟩
        have hP := hPD.1
        have hD := hPD.2
        refine lv_aload_n hx hb d_M_read_50 rfl (lv_at hl 1 rfl) ?_
        refine lv_iconst (v := 0) hx hb d_M_read_51 (by decide) ?_
        refine va_put (D := (dC, dI)) (ci := 9) (v := .int 0) (ty := .int) (C := "RangeCodersModel") (T := T_M) (N := 35) hx hb hg in_M t_M o_M n_M hown hK hP hD hS 0 rfl rfl 25 (by decide) (hg _ k977) (fun _ h9 => h9) rfl (o_M 25 (by decide)) rfl rfl (Nat.le_of_ble_eq_true rfl) d_M_read_52 (fun H locs hP hD hS => ?_)
        have hPD : my_PD (dC, dI) vwCl A [(o, Sum.inr (9, mO g 0 fShift fModels fItems fEnded fLow fRange fCache fPend fGoes fOuts (nI is.length) 1 0 0 0 0 fCode fRL fRR fX fWrites 0)), ((g 0), Sum.inl (cI, 8, Sum.inl vMany)), ((g 1), Sum.inl (cI, 512, Sum.inl vCounts)), ((g 3), Sum.inl (cI, 512, Sum.inl fN)), ((g 8), Sum.inl (cI, 6000, Sum.inl vIn))] H := ⟨hP, hD⟩
        have hP := hPD.1
        have hD := hPD.2
        refine lv_aload_n hx hb d_M_read_55 rfl (lv_at hl 1 rfl) ?_
        refine lv_lconst (v := 0) hx hb d_M_read_56 (by decide) ?_
        refine va_put (D := (dC, dI)) (ci := 9) (v := .long 0) (ty := .long) (C := "RangeCodersModel") (T := T_M) (N := 35) hx hb hg in_M t_M o_M n_M hown hK hP hD hS 0 rfl rfl 26 (by decide) (hg _ k978) (fun _ h9 => h9) rfl (o_M 26 (by decide)) rfl rfl (Nat.le_of_ble_eq_true rfl) d_M_read_57 (fun H locs hP hD hS => ?_)
        have hPD : my_PD (dC, dI) vwCl A [(o, Sum.inr (9, mO g 0 fShift fModels fItems fEnded fLow fRange fCache fPend fGoes fOuts (nI is.length) 1 0 0 0 0 0 fRL fRR fX fWrites 0)), ((g 0), Sum.inl (cI, 8, Sum.inl vMany)), ((g 1), Sum.inl (cI, 512, Sum.inl vCounts)), ((g 3), Sum.inl (cI, 512, Sum.inl fN)), ((g 8), Sum.inl (cI, 6000, Sum.inl vIn))] H := ⟨hP, hD⟩
        have hP := hPD.1
        have hD := hPD.2
        refine lv_aload_n hx hb d_M_read_60 rfl (lv_at hl 1 rfl) ?_
        refine lv_lconst (v := 0) hx hb d_M_read_61 (by decide) ?_
        refine va_put (D := (dC, dI)) (ci := 9) (v := .long 0) (ty := .long) (C := "RangeCodersModel") (T := T_M) (N := 35) hx hb hg in_M t_M o_M n_M hown hK hP hD hS 0 rfl rfl 27 (by decide) (hg _ k979) (fun _ h9 => h9) rfl (o_M 27 (by decide)) rfl rfl (Nat.le_of_ble_eq_true rfl) d_M_read_62 (fun H locs hP hD hS => ?_)
        have hPD : my_PD (dC, dI) vwCl A [(o, Sum.inr (9, mO g 0 fShift fModels fItems fEnded fLow fRange fCache fPend fGoes fOuts (nI is.length) 1 0 0 0 0 0 0 fRR fX fWrites 0)), ((g 0), Sum.inl (cI, 8, Sum.inl vMany)), ((g 1), Sum.inl (cI, 512, Sum.inl vCounts)), ((g 3), Sum.inl (cI, 512, Sum.inl fN)), ((g 8), Sum.inl (cI, 6000, Sum.inl vIn))] H := ⟨hP, hD⟩
        have hP := hPD.1
        have hD := hPD.2
        refine lv_aload_n hx hb d_M_read_65 rfl (lv_at hl 1 rfl) ?_
        refine lv_ldc2 (v := 4294967295) hx hb hown (hg _ k927) d_M_read_66 ?_
        refine va_put (D := (dC, dI)) (ci := 9) (v := .long 4294967295) (ty := .long) (C := "RangeCodersModel") (T := T_M) (N := 35) hx hb hg in_M t_M o_M n_M hown hK hP hD hS 0 rfl rfl 28 (by decide) (hg _ k980) (fun _ h9 => h9) rfl (o_M 28 (by decide)) rfl rfl (Nat.le_of_ble_eq_true rfl) d_M_read_69 (fun H locs hP hD hS => ?_)
        have hPD : my_PD (dC, dI) vwCl A [(o, Sum.inr (9, mO g 0 fShift fModels fItems fEnded fLow fRange fCache fPend fGoes fOuts (nI is.length) 1 0 0 0 0 0 0 4294967295 fX fWrites 0)), ((g 0), Sum.inl (cI, 8, Sum.inl vMany)), ((g 1), Sum.inl (cI, 512, Sum.inl vCounts)), ((g 3), Sum.inl (cI, 512, Sum.inl fN)), ((g 8), Sum.inl (cI, 6000, Sum.inl vIn))] H := ⟨hP, hD⟩
        have hP := hPD.1
        have hD := hPD.2
        refine lv_aload_n hx hb d_M_read_72 rfl (lv_at hl 1 rfl) ?_
        refine lv_lconst (v := 0) hx hb d_M_read_73 (by decide) ?_
        refine va_put (D := (dC, dI)) (ci := 9) (v := .long 0) (ty := .long) (C := "RangeCodersModel") (T := T_M) (N := 35) hx hb hg in_M t_M o_M n_M hown hK hP hD hS 0 rfl rfl 29 (by decide) (hg _ k981) (fun _ h9 => h9) rfl (o_M 29 (by decide)) rfl rfl (Nat.le_of_ble_eq_true rfl) d_M_read_74 (fun H locs hP hD hS => ?_)
        have hPD : my_PD (dC, dI) vwCl A [(o, Sum.inr (9, mO g 0 fShift fModels fItems fEnded fLow fRange fCache fPend fGoes fOuts (nI is.length) 1 0 0 0 0 0 0 4294967295 0 fWrites 0)), ((g 0), Sum.inl (cI, 8, Sum.inl vMany)), ((g 1), Sum.inl (cI, 512, Sum.inl vCounts)), ((g 3), Sum.inl (cI, 512, Sum.inl fN)), ((g 8), Sum.inl (cI, 6000, Sum.inl vIn))] H := ⟨hP, hD⟩
        have hP := hPD.1
        have hD := hPD.2
        refine lv_aload_n hx hb d_M_read_77 rfl (lv_at hl 1 rfl) ?_
        refine va_get (D := (dC, dI)) (ci := 9) (v := .int 0) (C := "RangeCodersModel") (T := T_M) (N := 35) hx hb hg in_M hown hK hP 0 rfl rfl 0 (by decide) (hg _ k952) (fun _ h9 => h9) rfl d_M_read_78 ?_
        refine lv_iconst (v := 3) hx hb d_M_read_81 (by decide) ?_
        refine lv_icmp_ge (tgt := 96) hx hb d_M_read_82 (by decide) (fun c_2 => ?_) (fun c_2 => ?_)
        · exact absurd c_2 (by decide)
        · refine lv_aload_n hx hb d_M_read_85 rfl (lv_at hl 1 rfl) ?_
          refine lv_aload_n hx hb d_M_read_86 rfl (lv_at hl 1 rfl) ?_
          refine my_cl (wr := [((g 0), Sum.inl (cI, 8, Sum.inl vMany)), ((g 1), Sum.inl (cI, 512, Sum.inl vCounts)), ((g 3), Sum.inl (cI, 512, Sum.inl fN))]) (va_runV (As := []) (rest := [Value.ref o]) ⟨hx, hb, hml, hown, hts⟩ (c_M_four l dC dI cI cM cO H.size o g 0 fShift fModels fItems fEnded fLow fRange fCache fPend fGoes fOuts 1 0 0 0 0 0 4294967295 0 fWrites 0 vIn is 0 (hIn) (hlen) (hoct) (by decide)) (cwV 0 hts (my_gV k1190 k1192 ks44 k12 k1193) rfl rfl rfl cu_M_four_0 ⟨by rw [hR]; exact Nat.le_of_ble_eq_true rfl, by rw [hR]; exact Nat.le_of_ble_eq_true rfl⟩) (my_preV hK hN (hP.sub [0, 4] rfl) (hD.sub [0, 4] (by decide +kernel) rfl) 0 rfl rfl) rfl rfl hl.1 rfl (lv_room (Nat.le_of_ble_eq_true rfl)) d_M_read_87 ⟨by rw [hR]; exact Nat.le_of_ble_eq_true rfl, by rw [hR]; exact Nat.le_of_ble_eq_true rfl⟩) hP hD hS hA [0, 4] [1, 2, 3] rfl rfl (by decide +kernel) (by decide +kernel) (fun r_87 u9 H locs hw_87 hP hD hS => ?_)
          have hw_87 : r_87 = lN (frN is 0 4) := hw_87
          have hPD : my_PD (dC, dI) vwCl A [((g 0), Sum.inl (cI, 8, Sum.inl vMany)), ((g 1), Sum.inl (cI, 512, Sum.inl vCounts)), ((g 3), Sum.inl (cI, 512, Sum.inl fN)), (o, Sum.inr (9, mO g 0 fShift fModels fItems fEnded fLow fRange fCache fPend fGoes fOuts (nI is.length) 1 0 0 (nI (0 + 4)) 0 0 0 4294967295 0 fWrites 0)), ((g 8), Sum.inl (cI, 6000, Sum.inl vIn))] H := ⟨hP, hD⟩
          have hP := hPD.1
          have hD := hPD.2
          refine va_put (D := (dC, dI)) (ci := 9) (v := .long r_87) (ty := .long) (C := "RangeCodersModel") (T := T_M) (N := 35) hx hb hg in_M t_M o_M n_M hown hK hP hD hS 3 rfl rfl 26 (by decide) (hg _ k978) (fun _ h9 => h9) rfl (o_M 26 (by decide)) rfl rfl (Nat.le_of_ble_eq_true rfl) d_M_read_90 (fun H locs hP hD hS => ?_)
          have hPD : my_PD (dC, dI) vwCl A [((g 0), Sum.inl (cI, 8, Sum.inl vMany)), ((g 1), Sum.inl (cI, 512, Sum.inl vCounts)), ((g 3), Sum.inl (cI, 512, Sum.inl fN)), (o, Sum.inr (9, mO g 0 fShift fModels fItems fEnded fLow fRange fCache fPend fGoes fOuts (nI is.length) 1 0 0 (nI (0 + 4)) 0 r_87 0 4294967295 0 fWrites 0)), ((g 8), Sum.inl (cI, 6000, Sum.inl vIn))] H := ⟨hP, hD⟩
          have hP := hPD.1
          have hD := hPD.2
          refine lv_goto (tgt := 172) hx hb d_M_read_93 (by decide) ?_
          refine lv_aload_n hx hb d_M_read_172 rfl (lv_at hl 1 rfl) ?_
          refine va_get (D := (dC, dI)) (ci := 9) (v := .int (nI is.length)) (C := "RangeCodersModel") (T := T_M) (N := 35) hx hb hg in_M hown hK hP 3 rfl rfl 20 (by decide) (hg _ k972) (fun _ h9 => h9) rfl d_M_read_173 ?_
          exact my_iret (v := nI is.length) hx hb hr (rfl) hlocks hQ hK hS (Nat.le_refl _) (Nat.le_refl _) ((1 : Int32), (0 : Int32), (0 : Int32), nI (0 + 4), (0 : Int32), r_87, (0 : Int64), (4294967295 : Int64), (0 : Int64), (0 : Int32), fN) (⟨hT9, ⟨hw_87, rfl, rfl, rfl⟩, rfl, rfl⟩) (hP.sub [3, 0, 1, 2, 4] rfl) (hD.sub [3, 0, 1, 2, 4] (by decide +kernel) rfl) d_M_read_176
      · have hjl : jj < km := by
          rcases Nat.lt_or_ge jj km with z | z
          · exact z
          · exact absurd (by rw [hmod]; exact nI_le z (by have := hMD.1; omega)) c_1
        have hk8 := hMD.1
        obtain ⟨hn9, hn2, hn64, C9, hc9, hB9⟩ := hMD.2 jj hjl
        have hCC := MD_C hMD hjl
        refine lv_aload_n hx hb d_M_read_15 rfl (lv_at hl 1 rfl) ?_
        refine lv_aload_n hx hb d_M_read_16 rfl (lv_at hl 1 rfl) ?_
        refine va_get (D := (dC, dI)) (ci := 9) (v := .ref (g 3)) (C := "RangeCodersModel") (T := T_M) (N := 35) hx hb hg in_M hown hK hP 0 rfl rfl 6 (by decide) (hg _ k958) (fun _ h9 => h9) rfl d_M_read_17 ?_
        refine lv_iload_n hx hb d_M_read_20 rfl (lv_at hl 0 rfl) ?_
        refine my_cv (wr := [((g 8), Sum.inl (cI, 6000, Sum.inl vIn))]) (va_runV (As := [Value.ref (g 3), Value.int (nI jj)]) (rest := []) ⟨hx, hb, hml, hown, hts⟩ (c_M_prepare l dC dI cI cM cO H.size o g 0 fShift fModels fItems fEnded fLow fRange fCache fPend fGoes fOuts (nI is.length) fReads fBad fIR fAsk fBAsk fCode fRL fRR fX fWrites 0 vMany vCounts (g 3) fN jj (N jj) 0 (Fvw vCounts jj) (by omega) (hn9) (hn64) (by omega) (by decide) (by rfl) (hCC.1) (hCC.2)) (cwV 2 hts (my_gV k928 k930 ks19 k12 k931) rfl rfl rfl cu_M_prepare_2 ⟨by rw [hR]; exact Nat.le_of_ble_eq_true rfl, by rw [hR]; exact Nat.le_of_ble_eq_true rfl⟩) (my_preV hK hN (hP.sub [0, 1, 2, 3] rfl) (hD.sub [0, 1, 2, 3] (by decide +kernel) rfl) 0 rfl rfl) rfl rfl hl.1 rfl (lv_room (Nat.le_of_ble_eq_true rfl)) d_M_read_21 ⟨by rw [hR]; exact Nat.le_of_ble_eq_true rfl, by rw [hR]; exact Nat.le_of_ble_eq_true rfl⟩) hP hD hS hA [0, 1, 2, 3] [4] rfl rfl (by decide +kernel) (by decide +kernel) (fun u9 H locs hw_21 hP hD hS => ?_)
        obtain ⟨f2_21, rfl⟩ : ∃ z, z = u9 := ⟨_, rfl⟩
        have hw_21 : sgI f2_21 (64 * jj) (pfN 0 (N jj)) (pf 0 (N jj) (Fvw vCounts jj)) ∧ sgO f2_21 fN (64 * jj) 64 := hw_21
        have hPD : my_PD (dC, dI) vwCl A [((g 8), Sum.inl (cI, 6000, Sum.inl vIn)), (o, Sum.inr (9, mO g 0 fShift fModels fItems fEnded fLow fRange fCache fPend fGoes fOuts (nI is.length) fReads fBad fIR fAsk fBAsk fCode fRL fRR fX fWrites 0)), ((g 0), Sum.inl (cI, 8, Sum.inl vMany)), ((g 1), Sum.inl (cI, 512, Sum.inl vCounts)), ((g 3), Sum.inl (cI, 512, Sum.inl f2_21))] H := ⟨hP, hD⟩
        have hP := hPD.1
        have hD := hPD.2
        have hT8 := pfA_st hT9 (MD_N hMD) hjl hw_21.2 hw_21.1
        obtain ⟨v_3, ev_3⟩ : ∃ y : Int32, y = (nI jj) + (1) := ⟨_, rfl⟩
        refine lv_iinc (v := v_3) (lv' := [(1, Value.int v_3), (0, Value.ref o)]) hx hb d_M_read_24 hl (k := 0) rfl (by rw [ev_3]; rfl) (by decide) rfl (fun ls hl => ?_)
        have z9 : v_3 = nI (jj + 1) := by rw [ev_3]; exact nI_1 _
        subst z9
        refine lv_goto (tgt := 7) hx hb d_M_read_27 (by decide) ?_
        exact ih9_7 _ (by first | omega | (omega)) (jj + 1) f2_21 rfl (by omega) (hT8) H locs ls (hP.sub [1, 2, 3, 4, 0] rfl) (hD.sub [1, 2, 3, 4, 0] (by decide +kernel) rfl) hS (lv_sub hl [0, 1] rfl)
  exact J_7 _ (0 : Nat) vThen rfl (Nat.zero_le _) (pfA_0 _ _ _ _) H locs ls (hP.sub [0, 1, 2, 3, 4] rfl) (hD.sub [0, 1, 2, 3, 4] (by decide +kernel) rfl) hS (lv_sub hl [0, 1] rfl)
set_option maxHeartbeats 2000000 in
set_option maxRecDepth 100000 in
theorem m_readF1 (l : Launch) (dC : Nat → ClassId) (dI : Nat → Nat → Nat) (cI cM cO : ClassId) (sz : Nat) (o : Nat) (g : Nat → Nat) (fForm : Int32) (fShift : Int32) (fModels : Int32) (fItems : Int32) (fEnded : Int32) (fLow : Int64) (fRange : Int64) (fCache : Int32) (fPend : Int32) (fGoes : Int32) (fOuts : Int32) (fIns : Int32) (fReads : Int32) (fBad : Int32) (fIR : Int32) (fAsk : Int32) (fBAsk : Int32) (fCode : Int64) (fRL : Int64) (fRR : Int64) (fX : Int64) (fWrites : Int32) (fThrown : Int32) (vMany : Nat → Int32) (vCounts : Nat → Int32) (vThen : Nat → Int32) (vIn : Nat → Int32) (km : Nat) (N : Nat → Nat) (is : List Nat) (hfo : fForm = 1) (hmod : fModels = nI km) (hMD : MD km N vMany vCounts) (hins : fIns = nI is.length) (hIn : gIs vIn is) (hlen : is.length ≤ 6000) (hoct : oct is) : MetI l y_M_read (Cond.code y_M_read prog_14_method_43_code 2 (some .int) :: gw) ({ frames := 3, cells := 0, slots := 0, locals := 75 } : Room) (dC, dI) vwCl (kT cI cM cO) [Value.ref o] [(o, Sum.inr (9, mO g fForm fShift fModels fItems fEnded fLow fRange fCache fPend fGoes fOuts fIns fReads fBad fIR fAsk fBAsk fCode fRL fRR fX fWrites fThrown)), ((g 0), Sum.inl (cI, 8, Sum.inl vMany)), ((g 1), Sum.inl (cI, 512, Sum.inl vCounts)), ((g 3), Sum.inl (cI, 512, Sum.inl vThen)), ((g 8), Sum.inl (cI, 6000, Sum.inl vIn))] sz (fun (r : Int32) (u : Int32 × Int32 × Int32 × Int32 × Int32 × Int64 × Int64 × Int64 × Int64 × Int32 × (Nat → Int32)) => pfA 1 km N vCounts u.2.2.2.2.2.2.2.2.2.2 ∧ (u.2.2.2.2.2.1 = lN (frN is 0 4) ∧ u.2.2.2.2.2.2.1 = lN 0 ∧ u.2.2.2.2.2.2.2.1 = lN 4294967295 ∧ u.2.2.2.1 = nI 4 ∧ u.2.1 = 0) ∧ r = nI is.length ∧ u.1 = 1) (fun (u : Int32 × Int32 × Int32 × Int32 × Int32 × Int64 × Int64 × Int64 × Int64 × Int32 × (Nat → Int32)) => [(o, Sum.inr (9, mO g fForm fShift fModels fItems fEnded fLow fRange fCache fPend fGoes fOuts fIns u.1 u.2.1 u.2.2.1 u.2.2.2.1 u.2.2.2.2.1 u.2.2.2.2.2.1 u.2.2.2.2.2.2.1 u.2.2.2.2.2.2.2.1 u.2.2.2.2.2.2.2.2.1 fWrites u.2.2.2.2.2.2.2.2.2.1)), ((g 0), Sum.inl (cI, 8, Sum.inl vMany)), ((g 1), Sum.inl (cI, 512, Sum.inl vCounts)), ((g 3), Sum.inl (cI, 512, Sum.inl u.2.2.2.2.2.2.2.2.2.2)), ((g 8), Sum.inl (cI, 6000, Sum.inl vIn))]) 0 0 := by
  refine my_ofI (cc := prog_14_method_43_code) (n := 2) (ret := (some .int)) (by decide) rfl (Nat.le_of_ble_eq_true rfl) ?_
  intro p e s m args below meth c R Q A ls H locs hx hb hr hts hown hlocks hml hnm hR hQ hA hl hP hK hN hD hS
  have hg : ∀ w ∈ gw, w.before args s = true := fun w h => hts w (List.mem_cons_of_mem _ h)
  have hown : s.vm.findClass "RangeCodersModel" = some m.cls := hown
  have hl : lv_has ls 2 [(0, Value.ref o)] := hl
  subst hfo
  have hfm : 1 ≤ 4 := by decide
  subst hins
  have hPD : my_PD (dC, dI) vwCl A [(o, Sum.inr (9, mO g 1 fShift fModels fItems fEnded fLow fRange fCache fPend fGoes fOuts (nI is.length) fReads fBad fIR fAsk fBAsk fCode fRL fRR fX fWrites fThrown)), ((g 0), Sum.inl (cI, 8, Sum.inl vMany)), ((g 1), Sum.inl (cI, 512, Sum.inl vCounts)), ((g 3), Sum.inl (cI, 512, Sum.inl vThen)), ((g 8), Sum.inl (cI, 6000, Sum.inl vIn))] H := ⟨hP, hD⟩
  have hP := hPD.1
  have hD := hPD.2
  have hl : lv_has ls 2 [(0, Value.ref o)] := hl
  refine lv_aload_n hx hb d_M_read_0 rfl (lv_at hl 0 rfl) ?_
  refine lv_iconst (v := 0) hx hb d_M_read_1 (by decide) ?_
  refine va_put (D := (dC, dI)) (ci := 9) (v := .int 0) (ty := .int) (C := "RangeCodersModel") (T := T_M) (N := 35) hx hb hg in_M t_M o_M n_M hown hK hP hD hS 0 rfl rfl 34 (by decide) (hg _ k986) (fun _ h9 => h9) rfl (o_M 34 (by decide)) rfl rfl (Nat.le_of_ble_eq_true rfl) d_M_read_2 (fun H locs hP hD hS => ?_)
  have hPD : my_PD (dC, dI) vwCl A [(o, Sum.inr (9, mO g 1 fShift fModels fItems fEnded fLow fRange fCache fPend fGoes fOuts (nI is.length) fReads fBad fIR fAsk fBAsk fCode fRL fRR fX fWrites 0)), ((g 0), Sum.inl (cI, 8, Sum.inl vMany)), ((g 1), Sum.inl (cI, 512, Sum.inl vCounts)), ((g 3), Sum.inl (cI, 512, Sum.inl vThen)), ((g 8), Sum.inl (cI, 6000, Sum.inl vIn))] H := ⟨hP, hD⟩
  have hP := hPD.1
  have hD := hPD.2
  refine lv_iconst (v := 0) hx hb d_M_read_5 (by decide) ?_
  refine lv_istore_n (lv' := [(1, Value.int 0), (0, Value.ref o)]) hx hb d_M_read_6 rfl hl (by decide) rfl (fun ls hl => ?_)
  have J_7 : ∀ (n9_7 : Nat) (jj : Nat) (fN : Nat → Int32) (hn9_7 : km - jj = n9_7) (hjj : jj ≤ km) (hT9 : pfA 1 jj N vCounts fN) (H : Heap) (locs : List Loc) (ls : Array Slot), va_P (dC, dI) vwCl [(o, Sum.inr (9, mO g 1 fShift fModels fItems fEnded fLow fRange fCache fPend fGoes fOuts (nI is.length) fReads fBad fIR fAsk fBAsk fCode fRL fRR fX fWrites 0)), ((g 0), Sum.inl (cI, 8, Sum.inl vMany)), ((g 1), Sum.inl (cI, 512, Sum.inl vCounts)), ((g 3), Sum.inl (cI, 512, Sum.inl fN)), ((g 8), Sum.inl (cI, 6000, Sum.inl vIn))] H → va_D A [(o, Sum.inr (9, mO g 1 fShift fModels fItems fEnded fLow fRange fCache fPend fGoes fOuts (nI is.length) fReads fBad fIR fAsk fBAsk fCode fRL fRR fX fWrites 0)), ((g 0), Sum.inl (cI, 8, Sum.inl vMany)), ((g 1), Sum.inl (cI, 512, Sum.inl vCounts)), ((g 3), Sum.inl (cI, 512, Sum.inl fN)), ((g 8), Sum.inl (cI, 6000, Sum.inl vIn))] → va_S A s.heap H locs → lv_has ls 2 [(1, Value.int (nI jj)), (0, Value.ref o)] → W p l e R s m args below meth c H locs 0 0 Q (F0 m 7 ls []) := by
    intro n9_7
    induction n9_7 using Nat.strongRecOn with
    | ind n9_7 ih9_7 =>
      intro jj fN hn9_7 hjj hT9 H locs ls hP hD hS hl
      refine lv_iload_n hx hb d_M_read_7 rfl (lv_at hl 0 rfl) ?_
      refine lv_aload_n hx hb d_M_read_8 rfl (lv_at hl 1 rfl) ?_
      refine va_get (D := (dC, dI)) (ci := 9) (v := .int fModels) (C := "RangeCodersModel") (T := T_M) (N := 35) hx hb hg in_M hown hK hP 0 rfl rfl 2 (by decide) (hg _ k954) (fun _ h9 => h9) rfl d_M_read_9 ?_
      refine lv_icmp_ge (tgt := 30) hx hb d_M_read_12 (by decide) (fun c_1 => ?_) (fun c_1 => ?_)
      · have hjk : jj = km := by
          have hk8 := hMD.1
          rw [hmod] at c_1
          have := (nI_cmp (by omega) (by omega)).mp c_1
          omega
        subst hjk
        refine lv_aload_n hx hb d_M_read_30 rfl (lv_at hl 1 rfl) ?_
        refine lv_iconst (v := 1) hx hb d_M_read_31 (by decide) ?_
        refine va_put (D := (dC, dI)) (ci := 9) (v := .int 1) (ty := .boolean) (C := "RangeCodersModel") (T := T_M) (N := 35) hx hb hg in_M t_M o_M n_M hown hK hP hD hS 0 rfl rfl 21 (by decide) (hg _ k973) (fun _ h9 => h9) rfl (o_M 21 (by decide)) rfl rfl (Nat.le_of_ble_eq_true rfl) d_M_read_32 (fun H locs hP hD hS => ?_)
        have hPD : my_PD (dC, dI) vwCl A [(o, Sum.inr (9, mO g 1 fShift fModels fItems fEnded fLow fRange fCache fPend fGoes fOuts (nI is.length) 1 fBad fIR fAsk fBAsk fCode fRL fRR fX fWrites 0)), ((g 0), Sum.inl (cI, 8, Sum.inl vMany)), ((g 1), Sum.inl (cI, 512, Sum.inl vCounts)), ((g 3), Sum.inl (cI, 512, Sum.inl fN)), ((g 8), Sum.inl (cI, 6000, Sum.inl vIn))] H := ⟨hP, hD⟩
        have hP := hPD.1
        have hD := hPD.2
        refine lv_aload_n hx hb d_M_read_35 rfl (lv_at hl 1 rfl) ?_
        refine lv_iconst (v := 0) hx hb d_M_read_36 (by decide) ?_
        refine va_put (D := (dC, dI)) (ci := 9) (v := .int 0) (ty := .boolean) (C := "RangeCodersModel") (T := T_M) (N := 35) hx hb hg in_M t_M o_M n_M hown hK hP hD hS 0 rfl rfl 22 (by decide) (hg _ k974) (fun _ h9 => h9) rfl (o_M 22 (by decide)) rfl rfl (Nat.le_of_ble_eq_true rfl) d_M_read_37 (fun H locs hP hD hS => ?_)
        have hPD : my_PD (dC, dI) vwCl A [(o, Sum.inr (9, mO g 1 fShift fModels fItems fEnded fLow fRange fCache fPend fGoes fOuts (nI is.length) 1 0 fIR fAsk fBAsk fCode fRL fRR fX fWrites 0)), ((g 0), Sum.inl (cI, 8, Sum.inl vMany)), ((g 1), Sum.inl (cI, 512, Sum.inl vCounts)), ((g 3), Sum.inl (cI, 512, Sum.inl fN)), ((g 8), Sum.inl (cI, 6000, Sum.inl vIn))] H := ⟨hP, hD⟩
        have hP := hPD.1
        have hD := hPD.2
        refine lv_aload_n hx hb d_M_read_40 rfl (lv_at hl 1 rfl) ?_
        refine lv_iconst (v := 0) hx hb d_M_read_41 (by decide) ?_
        refine va_put (D := (dC, dI)) (ci := 9) (v := .int 0) (ty := .int) (C := "RangeCodersModel") (T := T_M) (N := 35) hx hb hg in_M t_M o_M n_M hown hK hP hD hS 0 rfl rfl 23 (by decide) (hg _ k975) (fun _ h9 => h9) rfl (o_M 23 (by decide)) rfl rfl (Nat.le_of_ble_eq_true rfl) d_M_read_42 (fun H locs hP hD hS => ?_)
        have hPD : my_PD (dC, dI) vwCl A [(o, Sum.inr (9, mO g 1 fShift fModels fItems fEnded fLow fRange fCache fPend fGoes fOuts (nI is.length) 1 0 0 fAsk fBAsk fCode fRL fRR fX fWrites 0)), ((g 0), Sum.inl (cI, 8, Sum.inl vMany)), ((g 1), Sum.inl (cI, 512, Sum.inl vCounts)), ((g 3), Sum.inl (cI, 512, Sum.inl fN)), ((g 8), Sum.inl (cI, 6000, Sum.inl vIn))] H := ⟨hP, hD⟩
        have hP := hPD.1
        have hD := hPD.2
        refine lv_aload_n hx hb d_M_read_45 rfl (lv_at hl 1 rfl) ?_
        refine lv_iconst (v := 0) hx hb d_M_read_46 (by decide) ?_
        refine va_put (D := (dC, dI)) (ci := 9) (v := .int 0) (ty := .int) (C := "RangeCodersModel") (T := T_M) (N := 35) hx hb hg in_M t_M o_M n_M hown hK hP hD hS 0 rfl rfl 24 (by decide) (hg _ k976) (fun _ h9 => h9) rfl (o_M 24 (by decide)) rfl rfl (Nat.le_of_ble_eq_true rfl) d_M_read_47 (fun H locs hP hD hS => ?_)
        have hPD : my_PD (dC, dI) vwCl A [(o, Sum.inr (9, mO g 1 fShift fModels fItems fEnded fLow fRange fCache fPend fGoes fOuts (nI is.length) 1 0 0 0 fBAsk fCode fRL fRR fX fWrites 0)), ((g 0), Sum.inl (cI, 8, Sum.inl vMany)), ((g 1), Sum.inl (cI, 512, Sum.inl vCounts)), ((g 3), Sum.inl (cI, 512, Sum.inl fN)), ((g 8), Sum.inl (cI, 6000, Sum.inl vIn))] H := ⟨hP, hD⟩
        have hP := hPD.1
        have hD := hPD.2
        refine lv_aload_n hx hb d_M_read_50 rfl (lv_at hl 1 rfl) ?_
        refine lv_iconst (v := 0) hx hb d_M_read_51 (by decide) ?_
        refine va_put (D := (dC, dI)) (ci := 9) (v := .int 0) (ty := .int) (C := "RangeCodersModel") (T := T_M) (N := 35) hx hb hg in_M t_M o_M n_M hown hK hP hD hS 0 rfl rfl 25 (by decide) (hg _ k977) (fun _ h9 => h9) rfl (o_M 25 (by decide)) rfl rfl (Nat.le_of_ble_eq_true rfl) d_M_read_52 (fun H locs hP hD hS => ?_)
        have hPD : my_PD (dC, dI) vwCl A [(o, Sum.inr (9, mO g 1 fShift fModels fItems fEnded fLow fRange fCache fPend fGoes fOuts (nI is.length) 1 0 0 0 0 fCode fRL fRR fX fWrites 0)), ((g 0), Sum.inl (cI, 8, Sum.inl vMany)), ((g 1), Sum.inl (cI, 512, Sum.inl vCounts)), ((g 3), Sum.inl (cI, 512, Sum.inl fN)), ((g 8), Sum.inl (cI, 6000, Sum.inl vIn))] H := ⟨hP, hD⟩
        have hP := hPD.1
        have hD := hPD.2
        refine lv_aload_n hx hb d_M_read_55 rfl (lv_at hl 1 rfl) ?_
        refine lv_lconst (v := 0) hx hb d_M_read_56 (by decide) ?_
        refine va_put (D := (dC, dI)) (ci := 9) (v := .long 0) (ty := .long) (C := "RangeCodersModel") (T := T_M) (N := 35) hx hb hg in_M t_M o_M n_M hown hK hP hD hS 0 rfl rfl 26 (by decide) (hg _ k978) (fun _ h9 => h9) rfl (o_M 26 (by decide)) rfl rfl (Nat.le_of_ble_eq_true rfl) d_M_read_57 (fun H locs hP hD hS => ?_)
        have hPD : my_PD (dC, dI) vwCl A [(o, Sum.inr (9, mO g 1 fShift fModels fItems fEnded fLow fRange fCache fPend fGoes fOuts (nI is.length) 1 0 0 0 0 0 fRL fRR fX fWrites 0)), ((g 0), Sum.inl (cI, 8, Sum.inl vMany)), ((g 1), Sum.inl (cI, 512, Sum.inl vCounts)), ((g 3), Sum.inl (cI, 512, Sum.inl fN)), ((g 8), Sum.inl (cI, 6000, Sum.inl vIn))] H := ⟨hP, hD⟩
        have hP := hPD.1
        have hD := hPD.2
        refine lv_aload_n hx hb d_M_read_60 rfl (lv_at hl 1 rfl) ?_
        refine lv_lconst (v := 0) hx hb d_M_read_61 (by decide) ?_
        refine va_put (D := (dC, dI)) (ci := 9) (v := .long 0) (ty := .long) (C := "RangeCodersModel") (T := T_M) (N := 35) hx hb hg in_M t_M o_M n_M hown hK hP hD hS 0 rfl rfl 27 (by decide) (hg _ k979) (fun _ h9 => h9) rfl (o_M 27 (by decide)) rfl rfl (Nat.le_of_ble_eq_true rfl) d_M_read_62 (fun H locs hP hD hS => ?_)
        have hPD : my_PD (dC, dI) vwCl A [(o, Sum.inr (9, mO g 1 fShift fModels fItems fEnded fLow fRange fCache fPend fGoes fOuts (nI is.length) 1 0 0 0 0 0 0 fRR fX fWrites 0)), ((g 0), Sum.inl (cI, 8, Sum.inl vMany)), ((g 1), Sum.inl (cI, 512, Sum.inl vCounts)), ((g 3), Sum.inl (cI, 512, Sum.inl fN)), ((g 8), Sum.inl (cI, 6000, Sum.inl vIn))] H := ⟨hP, hD⟩
        have hP := hPD.1
        have hD := hPD.2
        refine lv_aload_n hx hb d_M_read_65 rfl (lv_at hl 1 rfl) ?_
        refine lv_ldc2 (v := 4294967295) hx hb hown (hg _ k927) d_M_read_66 ?_
        refine va_put (D := (dC, dI)) (ci := 9) (v := .long 4294967295) (ty := .long) (C := "RangeCodersModel") (T := T_M) (N := 35) hx hb hg in_M t_M o_M n_M hown hK hP hD hS 0 rfl rfl 28 (by decide) (hg _ k980) (fun _ h9 => h9) rfl (o_M 28 (by decide)) rfl rfl (Nat.le_of_ble_eq_true rfl) d_M_read_69 (fun H locs hP hD hS => ?_)
        have hPD : my_PD (dC, dI) vwCl A [(o, Sum.inr (9, mO g 1 fShift fModels fItems fEnded fLow fRange fCache fPend fGoes fOuts (nI is.length) 1 0 0 0 0 0 0 4294967295 fX fWrites 0)), ((g 0), Sum.inl (cI, 8, Sum.inl vMany)), ((g 1), Sum.inl (cI, 512, Sum.inl vCounts)), ((g 3), Sum.inl (cI, 512, Sum.inl fN)), ((g 8), Sum.inl (cI, 6000, Sum.inl vIn))] H := ⟨hP, hD⟩
        have hP := hPD.1
        have hD := hPD.2
        refine lv_aload_n hx hb d_M_read_72 rfl (lv_at hl 1 rfl) ?_
        refine lv_lconst (v := 0) hx hb d_M_read_73 (by decide) ?_
        refine va_put (D := (dC, dI)) (ci := 9) (v := .long 0) (ty := .long) (C := "RangeCodersModel") (T := T_M) (N := 35) hx hb hg in_M t_M o_M n_M hown hK hP hD hS 0 rfl rfl 29 (by decide) (hg _ k981) (fun _ h9 => h9) rfl (o_M 29 (by decide)) rfl rfl (Nat.le_of_ble_eq_true rfl) d_M_read_74 (fun H locs hP hD hS => ?_)
        have hPD : my_PD (dC, dI) vwCl A [(o, Sum.inr (9, mO g 1 fShift fModels fItems fEnded fLow fRange fCache fPend fGoes fOuts (nI is.length) 1 0 0 0 0 0 0 4294967295 0 fWrites 0)), ((g 0), Sum.inl (cI, 8, Sum.inl vMany)), ((g 1), Sum.inl (cI, 512, Sum.inl vCounts)), ((g 3), Sum.inl (cI, 512, Sum.inl fN)), ((g 8), Sum.inl (cI, 6000, Sum.inl vIn))] H := ⟨hP, hD⟩
        have hP := hPD.1
        have hD := hPD.2
        refine lv_aload_n hx hb d_M_read_77 rfl (lv_at hl 1 rfl) ?_
        refine va_get (D := (dC, dI)) (ci := 9) (v := .int 1) (C := "RangeCodersModel") (T := T_M) (N := 35) hx hb hg in_M hown hK hP 0 rfl rfl 0 (by decide) (hg _ k952) (fun _ h9 => h9) rfl d_M_read_78 ?_
        refine lv_iconst (v := 3) hx hb d_M_read_81 (by decide) ?_
        refine lv_icmp_ge (tgt := 96) hx hb d_M_read_82 (by decide) (fun c_2 => ?_) (fun c_2 => ?_)
        · exact absurd c_2 (by decide)
        · refine lv_aload_n hx hb d_M_read_85 rfl (lv_at hl 1 rfl) ?_
          refine lv_aload_n hx hb d_M_read_86 rfl (lv_at hl 1 rfl) ?_
          refine my_cl (wr := [((g 0), Sum.inl (cI, 8, Sum.inl vMany)), ((g 1), Sum.inl (cI, 512, Sum.inl vCounts)), ((g 3), Sum.inl (cI, 512, Sum.inl fN))]) (va_runV (As := []) (rest := [Value.ref o]) ⟨hx, hb, hml, hown, hts⟩ (c_M_four l dC dI cI cM cO H.size o g 1 fShift fModels fItems fEnded fLow fRange fCache fPend fGoes fOuts 1 0 0 0 0 0 4294967295 0 fWrites 0 vIn is 0 (hIn) (hlen) (hoct) (by decide)) (cwV 0 hts (my_gV k1190 k1192 ks44 k12 k1193) rfl rfl rfl cu_M_four_0 ⟨by rw [hR]; exact Nat.le_of_ble_eq_true rfl, by rw [hR]; exact Nat.le_of_ble_eq_true rfl⟩) (my_preV hK hN (hP.sub [0, 4] rfl) (hD.sub [0, 4] (by decide +kernel) rfl) 0 rfl rfl) rfl rfl hl.1 rfl (lv_room (Nat.le_of_ble_eq_true rfl)) d_M_read_87 ⟨by rw [hR]; exact Nat.le_of_ble_eq_true rfl, by rw [hR]; exact Nat.le_of_ble_eq_true rfl⟩) hP hD hS hA [0, 4] [1, 2, 3] rfl rfl (by decide +kernel) (by decide +kernel) (fun r_87 u9 H locs hw_87 hP hD hS => ?_)
          have hw_87 : r_87 = lN (frN is 0 4) := hw_87
          have hPD : my_PD (dC, dI) vwCl A [((g 0), Sum.inl (cI, 8, Sum.inl vMany)), ((g 1), Sum.inl (cI, 512, Sum.inl vCounts)), ((g 3), Sum.inl (cI, 512, Sum.inl fN)), (o, Sum.inr (9, mO g 1 fShift fModels fItems fEnded fLow fRange fCache fPend fGoes fOuts (nI is.length) 1 0 0 (nI (0 + 4)) 0 0 0 4294967295 0 fWrites 0)), ((g 8), Sum.inl (cI, 6000, Sum.inl vIn))] H := ⟨hP, hD⟩
          have hP := hPD.1
          have hD := hPD.2
          refine va_put (D := (dC, dI)) (ci := 9) (v := .long r_87) (ty := .long) (C := "RangeCodersModel") (T := T_M) (N := 35) hx hb hg in_M t_M o_M n_M hown hK hP hD hS 3 rfl rfl 26 (by decide) (hg _ k978) (fun _ h9 => h9) rfl (o_M 26 (by decide)) rfl rfl (Nat.le_of_ble_eq_true rfl) d_M_read_90 (fun H locs hP hD hS => ?_)
          have hPD : my_PD (dC, dI) vwCl A [((g 0), Sum.inl (cI, 8, Sum.inl vMany)), ((g 1), Sum.inl (cI, 512, Sum.inl vCounts)), ((g 3), Sum.inl (cI, 512, Sum.inl fN)), (o, Sum.inr (9, mO g 1 fShift fModels fItems fEnded fLow fRange fCache fPend fGoes fOuts (nI is.length) 1 0 0 (nI (0 + 4)) 0 r_87 0 4294967295 0 fWrites 0)), ((g 8), Sum.inl (cI, 6000, Sum.inl vIn))] H := ⟨hP, hD⟩
          have hP := hPD.1
          have hD := hPD.2
          refine lv_goto (tgt := 172) hx hb d_M_read_93 (by decide) ?_
          refine lv_aload_n hx hb d_M_read_172 rfl (lv_at hl 1 rfl) ?_
          refine va_get (D := (dC, dI)) (ci := 9) (v := .int (nI is.length)) (C := "RangeCodersModel") (T := T_M) (N := 35) hx hb hg in_M hown hK hP 3 rfl rfl 20 (by decide) (hg _ k972) (fun _ h9 => h9) rfl d_M_read_173 ?_
          exact my_iret (v := nI is.length) hx hb hr (rfl) hlocks hQ hK hS (Nat.le_refl _) (Nat.le_refl _) ((1 : Int32), (0 : Int32), (0 : Int32), nI (0 + 4), (0 : Int32), r_87, (0 : Int64), (4294967295 : Int64), (0 : Int64), (0 : Int32), fN) (⟨hT9, ⟨hw_87, rfl, rfl, rfl, rfl⟩, rfl, rfl⟩) (hP.sub [3, 0, 1, 2, 4] rfl) (hD.sub [3, 0, 1, 2, 4] (by decide +kernel) rfl) d_M_read_176
      · have hjl : jj < km := by
          rcases Nat.lt_or_ge jj km with z | z
          · exact z
          · exact absurd (by rw [hmod]; exact nI_le z (by have := hMD.1; omega)) c_1
        have hk8 := hMD.1
        obtain ⟨hn9, hn2, hn64, C9, hc9, hB9⟩ := hMD.2 jj hjl
        have hCC := MD_C hMD hjl
        refine lv_aload_n hx hb d_M_read_15 rfl (lv_at hl 1 rfl) ?_
        refine lv_aload_n hx hb d_M_read_16 rfl (lv_at hl 1 rfl) ?_
        refine va_get (D := (dC, dI)) (ci := 9) (v := .ref (g 3)) (C := "RangeCodersModel") (T := T_M) (N := 35) hx hb hg in_M hown hK hP 0 rfl rfl 6 (by decide) (hg _ k958) (fun _ h9 => h9) rfl d_M_read_17 ?_
        refine lv_iload_n hx hb d_M_read_20 rfl (lv_at hl 0 rfl) ?_
        refine my_cv (wr := [((g 8), Sum.inl (cI, 6000, Sum.inl vIn))]) (va_runV (As := [Value.ref (g 3), Value.int (nI jj)]) (rest := []) ⟨hx, hb, hml, hown, hts⟩ (c_M_prepare l dC dI cI cM cO H.size o g 1 fShift fModels fItems fEnded fLow fRange fCache fPend fGoes fOuts (nI is.length) fReads fBad fIR fAsk fBAsk fCode fRL fRR fX fWrites 0 vMany vCounts (g 3) fN jj (N jj) 1 (Fvw vCounts jj) (by omega) (hn9) (hn64) (by omega) (by decide) (by rfl) (hCC.1) (hCC.2)) (cwV 2 hts (my_gV k928 k930 ks19 k12 k931) rfl rfl rfl cu_M_prepare_2 ⟨by rw [hR]; exact Nat.le_of_ble_eq_true rfl, by rw [hR]; exact Nat.le_of_ble_eq_true rfl⟩) (my_preV hK hN (hP.sub [0, 1, 2, 3] rfl) (hD.sub [0, 1, 2, 3] (by decide +kernel) rfl) 0 rfl rfl) rfl rfl hl.1 rfl (lv_room (Nat.le_of_ble_eq_true rfl)) d_M_read_21 ⟨by rw [hR]; exact Nat.le_of_ble_eq_true rfl, by rw [hR]; exact Nat.le_of_ble_eq_true rfl⟩) hP hD hS hA [0, 1, 2, 3] [4] rfl rfl (by decide +kernel) (by decide +kernel) (fun u9 H locs hw_21 hP hD hS => ?_)
        obtain ⟨f2_21, rfl⟩ : ∃ z, z = u9 := ⟨_, rfl⟩
        have hw_21 : sgI f2_21 (64 * jj) (pfN 1 (N jj)) (pf 1 (N jj) (Fvw vCounts jj)) ∧ sgO f2_21 fN (64 * jj) 64 := hw_21
        have hPD : my_PD (dC, dI) vwCl A [((g 8), Sum.inl (cI, 6000, Sum.inl vIn)), (o, Sum.inr (9, mO g 1 fShift fModels fItems fEnded fLow fRange fCache fPend fGoes fOuts (nI is.length) fReads fBad fIR fAsk fBAsk fCode fRL fRR fX fWrites 0)), ((g 0), Sum.inl (cI, 8, Sum.inl vMany)), ((g 1), Sum.inl (cI, 512, Sum.inl vCounts)), ((g 3), Sum.inl (cI, 512, Sum.inl f2_21))] H := ⟨hP, hD⟩
        have hP := hPD.1
        have hD := hPD.2
        have hT8 := pfA_st hT9 (MD_N hMD) hjl hw_21.2 hw_21.1
        obtain ⟨v_3, ev_3⟩ : ∃ y : Int32, y = (nI jj) + (1) := ⟨_, rfl⟩
        refine lv_iinc (v := v_3) (lv' := [(1, Value.int v_3), (0, Value.ref o)]) hx hb d_M_read_24 hl (k := 0) rfl (by rw [ev_3]; rfl) (by decide) rfl (fun ls hl => ?_)
        have z9 : v_3 = nI (jj + 1) := by rw [ev_3]; exact nI_1 _
        subst z9
        refine lv_goto (tgt := 7) hx hb d_M_read_27 (by decide) ?_
        exact ih9_7 _ (by first | omega | (omega)) (jj + 1) f2_21 rfl (by omega) (hT8) H locs ls (hP.sub [1, 2, 3, 4, 0] rfl) (hD.sub [1, 2, 3, 4, 0] (by decide +kernel) rfl) hS (lv_sub hl [0, 1] rfl)
  exact J_7 _ (0 : Nat) vThen rfl (Nat.zero_le _) (pfA_0 _ _ _ _) H locs ls (hP.sub [0, 1, 2, 3, 4] rfl) (hD.sub [0, 1, 2, 3, 4] (by decide +kernel) rfl) hS (lv_sub hl [0, 1] rfl)
set_option maxHeartbeats 2000000 in
set_option maxRecDepth 100000 in
theorem m_readF2 (l : Launch) (dC : Nat → ClassId) (dI : Nat → Nat → Nat) (cI cM cO : ClassId) (sz : Nat) (o : Nat) (g : Nat → Nat) (fForm : Int32) (fShift : Int32) (fModels : Int32) (fItems : Int32) (fEnded : Int32) (fLow : Int64) (fRange : Int64) (fCache : Int32) (fPend : Int32) (fGoes : Int32) (fOuts : Int32) (fIns : Int32) (fReads : Int32) (fBad : Int32) (fIR : Int32) (fAsk : Int32) (fBAsk : Int32) (fCode : Int64) (fRL : Int64) (fRR : Int64) (fX : Int64) (fWrites : Int32) (fThrown : Int32) (vMany : Nat → Int32) (vCounts : Nat → Int32) (vThen : Nat → Int32) (vIn : Nat → Int32) (km : Nat) (N : Nat → Nat) (is : List Nat) (hfo : fForm = 2) (hmod : fModels = nI km) (hMD : MD km N vMany vCounts) (hins : fIns = nI is.length) (hIn : gIs vIn is) (hlen : is.length ≤ 6000) (hoct : oct is) : MetI l y_M_read (Cond.code y_M_read prog_14_method_43_code 2 (some .int) :: gw) ({ frames := 3, cells := 0, slots := 0, locals := 75 } : Room) (dC, dI) vwCl (kT cI cM cO) [Value.ref o] [(o, Sum.inr (9, mO g fForm fShift fModels fItems fEnded fLow fRange fCache fPend fGoes fOuts fIns fReads fBad fIR fAsk fBAsk fCode fRL fRR fX fWrites fThrown)), ((g 0), Sum.inl (cI, 8, Sum.inl vMany)), ((g 1), Sum.inl (cI, 512, Sum.inl vCounts)), ((g 3), Sum.inl (cI, 512, Sum.inl vThen)), ((g 8), Sum.inl (cI, 6000, Sum.inl vIn))] sz (fun (r : Int32) (u : Int32 × Int32 × Int32 × Int32 × Int32 × Int64 × Int64 × Int64 × Int64 × Int32 × (Nat → Int32)) => pfA 2 km N vCounts u.2.2.2.2.2.2.2.2.2.2 ∧ (u.2.2.2.2.2.1 = lN (frN is 0 4) ∧ u.2.2.2.2.2.2.2.1 = lN 4294967295 ∧ u.2.2.2.1 = nI 4 ∧ u.2.1 = 0) ∧ r = nI is.length ∧ u.1 = 1) (fun (u : Int32 × Int32 × Int32 × Int32 × Int32 × Int64 × Int64 × Int64 × Int64 × Int32 × (Nat → Int32)) => [(o, Sum.inr (9, mO g fForm fShift fModels fItems fEnded fLow fRange fCache fPend fGoes fOuts fIns u.1 u.2.1 u.2.2.1 u.2.2.2.1 u.2.2.2.2.1 u.2.2.2.2.2.1 u.2.2.2.2.2.2.1 u.2.2.2.2.2.2.2.1 u.2.2.2.2.2.2.2.2.1 fWrites u.2.2.2.2.2.2.2.2.2.1)), ((g 0), Sum.inl (cI, 8, Sum.inl vMany)), ((g 1), Sum.inl (cI, 512, Sum.inl vCounts)), ((g 3), Sum.inl (cI, 512, Sum.inl u.2.2.2.2.2.2.2.2.2.2)), ((g 8), Sum.inl (cI, 6000, Sum.inl vIn))]) 0 0 := by
  refine my_ofI (cc := prog_14_method_43_code) (n := 2) (ret := (some .int)) (by decide) rfl (Nat.le_of_ble_eq_true rfl) ?_
  intro p e s m args below meth c R Q A ls H locs hx hb hr hts hown hlocks hml hnm hR hQ hA hl hP hK hN hD hS
  have hg : ∀ w ∈ gw, w.before args s = true := fun w h => hts w (List.mem_cons_of_mem _ h)
  have hown : s.vm.findClass "RangeCodersModel" = some m.cls := hown
  have hl : lv_has ls 2 [(0, Value.ref o)] := hl
  subst hfo
  have hfm : 2 ≤ 4 := by decide
  subst hins
  have hPD : my_PD (dC, dI) vwCl A [(o, Sum.inr (9, mO g 2 fShift fModels fItems fEnded fLow fRange fCache fPend fGoes fOuts (nI is.length) fReads fBad fIR fAsk fBAsk fCode fRL fRR fX fWrites fThrown)), ((g 0), Sum.inl (cI, 8, Sum.inl vMany)), ((g 1), Sum.inl (cI, 512, Sum.inl vCounts)), ((g 3), Sum.inl (cI, 512, Sum.inl vThen)), ((g 8), Sum.inl (cI, 6000, Sum.inl vIn))] H := ⟨hP, hD⟩
  have hP := hPD.1
  have hD := hPD.2
  have hl : lv_has ls 2 [(0, Value.ref o)] := hl
  refine lv_aload_n hx hb d_M_read_0 rfl (lv_at hl 0 rfl) ?_
  refine lv_iconst (v := 0) hx hb d_M_read_1 (by decide) ?_
  refine va_put (D := (dC, dI)) (ci := 9) (v := .int 0) (ty := .int) (C := "RangeCodersModel") (T := T_M) (N := 35) hx hb hg in_M t_M o_M n_M hown hK hP hD hS 0 rfl rfl 34 (by decide) (hg _ k986) (fun _ h9 => h9) rfl (o_M 34 (by decide)) rfl rfl (Nat.le_of_ble_eq_true rfl) d_M_read_2 (fun H locs hP hD hS => ?_)
  have hPD : my_PD (dC, dI) vwCl A [(o, Sum.inr (9, mO g 2 fShift fModels fItems fEnded fLow fRange fCache fPend fGoes fOuts (nI is.length) fReads fBad fIR fAsk fBAsk fCode fRL fRR fX fWrites 0)), ((g 0), Sum.inl (cI, 8, Sum.inl vMany)), ((g 1), Sum.inl (cI, 512, Sum.inl vCounts)), ((g 3), Sum.inl (cI, 512, Sum.inl vThen)), ((g 8), Sum.inl (cI, 6000, Sum.inl vIn))] H := ⟨hP, hD⟩
  have hP := hPD.1
  have hD := hPD.2
  refine lv_iconst (v := 0) hx hb d_M_read_5 (by decide) ?_
  refine lv_istore_n (lv' := [(1, Value.int 0), (0, Value.ref o)]) hx hb d_M_read_6 rfl hl (by decide) rfl (fun ls hl => ?_)
  have J_7 : ∀ (n9_7 : Nat) (jj : Nat) (fN : Nat → Int32) (hn9_7 : km - jj = n9_7) (hjj : jj ≤ km) (hT9 : pfA 2 jj N vCounts fN) (H : Heap) (locs : List Loc) (ls : Array Slot), va_P (dC, dI) vwCl [(o, Sum.inr (9, mO g 2 fShift fModels fItems fEnded fLow fRange fCache fPend fGoes fOuts (nI is.length) fReads fBad fIR fAsk fBAsk fCode fRL fRR fX fWrites 0)), ((g 0), Sum.inl (cI, 8, Sum.inl vMany)), ((g 1), Sum.inl (cI, 512, Sum.inl vCounts)), ((g 3), Sum.inl (cI, 512, Sum.inl fN)), ((g 8), Sum.inl (cI, 6000, Sum.inl vIn))] H → va_D A [(o, Sum.inr (9, mO g 2 fShift fModels fItems fEnded fLow fRange fCache fPend fGoes fOuts (nI is.length) fReads fBad fIR fAsk fBAsk fCode fRL fRR fX fWrites 0)), ((g 0), Sum.inl (cI, 8, Sum.inl vMany)), ((g 1), Sum.inl (cI, 512, Sum.inl vCounts)), ((g 3), Sum.inl (cI, 512, Sum.inl fN)), ((g 8), Sum.inl (cI, 6000, Sum.inl vIn))] → va_S A s.heap H locs → lv_has ls 2 [(1, Value.int (nI jj)), (0, Value.ref o)] → W p l e R s m args below meth c H locs 0 0 Q (F0 m 7 ls []) := by
    intro n9_7
    induction n9_7 using Nat.strongRecOn with
    | ind n9_7 ih9_7 =>
      intro jj fN hn9_7 hjj hT9 H locs ls hP hD hS hl
      refine lv_iload_n hx hb d_M_read_7 rfl (lv_at hl 0 rfl) ?_
      refine lv_aload_n hx hb d_M_read_8 rfl (lv_at hl 1 rfl) ?_
      refine va_get (D := (dC, dI)) (ci := 9) (v := .int fModels) (C := "RangeCodersModel") (T := T_M) (N := 35) hx hb hg in_M hown hK hP 0 rfl rfl 2 (by decide) (hg _ k954) (fun _ h9 => h9) rfl d_M_read_9 ?_
      refine lv_icmp_ge (tgt := 30) hx hb d_M_read_12 (by decide) (fun c_1 => ?_) (fun c_1 => ?_)
      · have hjk : jj = km := by
          have hk8 := hMD.1
          rw [hmod] at c_1
          have := (nI_cmp (by omega) (by omega)).mp c_1
          omega
        subst hjk
        refine lv_aload_n hx hb d_M_read_30 rfl (lv_at hl 1 rfl) ?_
        refine lv_iconst (v := 1) hx hb d_M_read_31 (by decide) ?_
        refine va_put (D := (dC, dI)) (ci := 9) (v := .int 1) (ty := .boolean) (C := "RangeCodersModel") (T := T_M) (N := 35) hx hb hg in_M t_M o_M n_M hown hK hP hD hS 0 rfl rfl 21 (by decide) (hg _ k973) (fun _ h9 => h9) rfl (o_M 21 (by decide)) rfl rfl (Nat.le_of_ble_eq_true rfl) d_M_read_32 (fun H locs hP hD hS => ?_)
        have hPD : my_PD (dC, dI) vwCl A [(o, Sum.inr (9, mO g 2 fShift fModels fItems fEnded fLow fRange fCache fPend fGoes fOuts (nI is.length) 1 fBad fIR fAsk fBAsk fCode fRL fRR fX fWrites 0)), ((g 0), Sum.inl (cI, 8, Sum.inl vMany)), ((g 1), Sum.inl (cI, 512, Sum.inl vCounts)), ((g 3), Sum.inl (cI, 512, Sum.inl fN)), ((g 8), Sum.inl (cI, 6000, Sum.inl vIn))] H := ⟨hP, hD⟩
        have hP := hPD.1
        have hD := hPD.2
        refine lv_aload_n hx hb d_M_read_35 rfl (lv_at hl 1 rfl) ?_
        refine lv_iconst (v := 0) hx hb d_M_read_36 (by decide) ?_
        refine va_put (D := (dC, dI)) (ci := 9) (v := .int 0) (ty := .boolean) (C := "RangeCodersModel") (T := T_M) (N := 35) hx hb hg in_M t_M o_M n_M hown hK hP hD hS 0 rfl rfl 22 (by decide) (hg _ k974) (fun _ h9 => h9) rfl (o_M 22 (by decide)) rfl rfl (Nat.le_of_ble_eq_true rfl) d_M_read_37 (fun H locs hP hD hS => ?_)
        have hPD : my_PD (dC, dI) vwCl A [(o, Sum.inr (9, mO g 2 fShift fModels fItems fEnded fLow fRange fCache fPend fGoes fOuts (nI is.length) 1 0 fIR fAsk fBAsk fCode fRL fRR fX fWrites 0)), ((g 0), Sum.inl (cI, 8, Sum.inl vMany)), ((g 1), Sum.inl (cI, 512, Sum.inl vCounts)), ((g 3), Sum.inl (cI, 512, Sum.inl fN)), ((g 8), Sum.inl (cI, 6000, Sum.inl vIn))] H := ⟨hP, hD⟩
        have hP := hPD.1
        have hD := hPD.2
        refine lv_aload_n hx hb d_M_read_40 rfl (lv_at hl 1 rfl) ?_
        refine lv_iconst (v := 0) hx hb d_M_read_41 (by decide) ?_
        refine va_put (D := (dC, dI)) (ci := 9) (v := .int 0) (ty := .int) (C := "RangeCodersModel") (T := T_M) (N := 35) hx hb hg in_M t_M o_M n_M hown hK hP hD hS 0 rfl rfl 23 (by decide) (hg _ k975) (fun _ h9 => h9) rfl (o_M 23 (by decide)) rfl rfl (Nat.le_of_ble_eq_true rfl) d_M_read_42 (fun H locs hP hD hS => ?_)
        have hPD : my_PD (dC, dI) vwCl A [(o, Sum.inr (9, mO g 2 fShift fModels fItems fEnded fLow fRange fCache fPend fGoes fOuts (nI is.length) 1 0 0 fAsk fBAsk fCode fRL fRR fX fWrites 0)), ((g 0), Sum.inl (cI, 8, Sum.inl vMany)), ((g 1), Sum.inl (cI, 512, Sum.inl vCounts)), ((g 3), Sum.inl (cI, 512, Sum.inl fN)), ((g 8), Sum.inl (cI, 6000, Sum.inl vIn))] H := ⟨hP, hD⟩
        have hP := hPD.1
        have hD := hPD.2
        refine lv_aload_n hx hb d_M_read_45 rfl (lv_at hl 1 rfl) ?_
        refine lv_iconst (v := 0) hx hb d_M_read_46 (by decide) ?_
        refine va_put (D := (dC, dI)) (ci := 9) (v := .int 0) (ty := .int) (C := "RangeCodersModel") (T := T_M) (N := 35) hx hb hg in_M t_M o_M n_M hown hK hP hD hS 0 rfl rfl 24 (by decide) (hg _ k976) (fun _ h9 => h9) rfl (o_M 24 (by decide)) rfl rfl (Nat.le_of_ble_eq_true rfl) d_M_read_47 (fun H locs hP hD hS => ?_)
        have hPD : my_PD (dC, dI) vwCl A [(o, Sum.inr (9, mO g 2 fShift fModels fItems fEnded fLow fRange fCache fPend fGoes fOuts (nI is.length) 1 0 0 0 fBAsk fCode fRL fRR fX fWrites 0)), ((g 0), Sum.inl (cI, 8, Sum.inl vMany)), ((g 1), Sum.inl (cI, 512, Sum.inl vCounts)), ((g 3), Sum.inl (cI, 512, Sum.inl fN)), ((g 8), Sum.inl (cI, 6000, Sum.inl vIn))] H := ⟨hP, hD⟩
        have hP := hPD.1
        have hD := hPD.2
        refine lv_aload_n hx hb d_M_read_50 rfl (lv_at hl 1 rfl) ?_
        refine lv_iconst (v := 0) hx hb d_M_read_51 (by decide) ?_
        refine va_put (D := (dC, dI)) (ci := 9) (v := .int 0) (ty := .int) (C := "RangeCodersModel") (T := T_M) (N := 35) hx hb hg in_M t_M o_M n_M hown hK hP hD hS 0 rfl rfl 25 (by decide) (hg _ k977) (fun _ h9 => h9) rfl (o_M 25 (by decide)) rfl rfl (Nat.le_of_ble_eq_true rfl) d_M_read_52 (fun H locs hP hD hS => ?_)
        have hPD : my_PD (dC, dI) vwCl A [(o, Sum.inr (9, mO g 2 fShift fModels fItems fEnded fLow fRange fCache fPend fGoes fOuts (nI is.length) 1 0 0 0 0 fCode fRL fRR fX fWrites 0)), ((g 0), Sum.inl (cI, 8, Sum.inl vMany)), ((g 1), Sum.inl (cI, 512, Sum.inl vCounts)), ((g 3), Sum.inl (cI, 512, Sum.inl fN)), ((g 8), Sum.inl (cI, 6000, Sum.inl vIn))] H := ⟨hP, hD⟩
        have hP := hPD.1
        have hD := hPD.2
        refine lv_aload_n hx hb d_M_read_55 rfl (lv_at hl 1 rfl) ?_
        refine lv_lconst (v := 0) hx hb d_M_read_56 (by decide) ?_
        refine va_put (D := (dC, dI)) (ci := 9) (v := .long 0) (ty := .long) (C := "RangeCodersModel") (T := T_M) (N := 35) hx hb hg in_M t_M o_M n_M hown hK hP hD hS 0 rfl rfl 26 (by decide) (hg _ k978) (fun _ h9 => h9) rfl (o_M 26 (by decide)) rfl rfl (Nat.le_of_ble_eq_true rfl) d_M_read_57 (fun H locs hP hD hS => ?_)
        have hPD : my_PD (dC, dI) vwCl A [(o, Sum.inr (9, mO g 2 fShift fModels fItems fEnded fLow fRange fCache fPend fGoes fOuts (nI is.length) 1 0 0 0 0 0 fRL fRR fX fWrites 0)), ((g 0), Sum.inl (cI, 8, Sum.inl vMany)), ((g 1), Sum.inl (cI, 512, Sum.inl vCounts)), ((g 3), Sum.inl (cI, 512, Sum.inl fN)), ((g 8), Sum.inl (cI, 6000, Sum.inl vIn))] H := ⟨hP, hD⟩
        have hP := hPD.1
        have hD := hPD.2
        refine lv_aload_n hx hb d_M_read_60 rfl (lv_at hl 1 rfl) ?_
        refine lv_lconst (v := 0) hx hb d_M_read_61 (by decide) ?_
        refine va_put (D := (dC, dI)) (ci := 9) (v := .long 0) (ty := .long) (C := "RangeCodersModel") (T := T_M) (N := 35) hx hb hg in_M t_M o_M n_M hown hK hP hD hS 0 rfl rfl 27 (by decide) (hg _ k979) (fun _ h9 => h9) rfl (o_M 27 (by decide)) rfl rfl (Nat.le_of_ble_eq_true rfl) d_M_read_62 (fun H locs hP hD hS => ?_)
        have hPD : my_PD (dC, dI) vwCl A [(o, Sum.inr (9, mO g 2 fShift fModels fItems fEnded fLow fRange fCache fPend fGoes fOuts (nI is.length) 1 0 0 0 0 0 0 fRR fX fWrites 0)), ((g 0), Sum.inl (cI, 8, Sum.inl vMany)), ((g 1), Sum.inl (cI, 512, Sum.inl vCounts)), ((g 3), Sum.inl (cI, 512, Sum.inl fN)), ((g 8), Sum.inl (cI, 6000, Sum.inl vIn))] H := ⟨hP, hD⟩
        have hP := hPD.1
        have hD := hPD.2
        refine lv_aload_n hx hb d_M_read_65 rfl (lv_at hl 1 rfl) ?_
        refine lv_ldc2 (v := 4294967295) hx hb hown (hg _ k927) d_M_read_66 ?_
        refine va_put (D := (dC, dI)) (ci := 9) (v := .long 4294967295) (ty := .long) (C := "RangeCodersModel") (T := T_M) (N := 35) hx hb hg in_M t_M o_M n_M hown hK hP hD hS 0 rfl rfl 28 (by decide) (hg _ k980) (fun _ h9 => h9) rfl (o_M 28 (by decide)) rfl rfl (Nat.le_of_ble_eq_true rfl) d_M_read_69 (fun H locs hP hD hS => ?_)
        have hPD : my_PD (dC, dI) vwCl A [(o, Sum.inr (9, mO g 2 fShift fModels fItems fEnded fLow fRange fCache fPend fGoes fOuts (nI is.length) 1 0 0 0 0 0 0 4294967295 fX fWrites 0)), ((g 0), Sum.inl (cI, 8, Sum.inl vMany)), ((g 1), Sum.inl (cI, 512, Sum.inl vCounts)), ((g 3), Sum.inl (cI, 512, Sum.inl fN)), ((g 8), Sum.inl (cI, 6000, Sum.inl vIn))] H := ⟨hP, hD⟩
        have hP := hPD.1
        have hD := hPD.2
        refine lv_aload_n hx hb d_M_read_72 rfl (lv_at hl 1 rfl) ?_
        refine lv_lconst (v := 0) hx hb d_M_read_73 (by decide) ?_
        refine va_put (D := (dC, dI)) (ci := 9) (v := .long 0) (ty := .long) (C := "RangeCodersModel") (T := T_M) (N := 35) hx hb hg in_M t_M o_M n_M hown hK hP hD hS 0 rfl rfl 29 (by decide) (hg _ k981) (fun _ h9 => h9) rfl (o_M 29 (by decide)) rfl rfl (Nat.le_of_ble_eq_true rfl) d_M_read_74 (fun H locs hP hD hS => ?_)
        have hPD : my_PD (dC, dI) vwCl A [(o, Sum.inr (9, mO g 2 fShift fModels fItems fEnded fLow fRange fCache fPend fGoes fOuts (nI is.length) 1 0 0 0 0 0 0 4294967295 0 fWrites 0)), ((g 0), Sum.inl (cI, 8, Sum.inl vMany)), ((g 1), Sum.inl (cI, 512, Sum.inl vCounts)), ((g 3), Sum.inl (cI, 512, Sum.inl fN)), ((g 8), Sum.inl (cI, 6000, Sum.inl vIn))] H := ⟨hP, hD⟩
        have hP := hPD.1
        have hD := hPD.2
        refine lv_aload_n hx hb d_M_read_77 rfl (lv_at hl 1 rfl) ?_
        refine va_get (D := (dC, dI)) (ci := 9) (v := .int 2) (C := "RangeCodersModel") (T := T_M) (N := 35) hx hb hg in_M hown hK hP 0 rfl rfl 0 (by decide) (hg _ k952) (fun _ h9 => h9) rfl d_M_read_78 ?_
        refine lv_iconst (v := 3) hx hb d_M_read_81 (by decide) ?_
        refine lv_icmp_ge (tgt := 96) hx hb d_M_read_82 (by decide) (fun c_2 => ?_) (fun c_2 => ?_)
        · exact absurd c_2 (by decide)
        · refine lv_aload_n hx hb d_M_read_85 rfl (lv_at hl 1 rfl) ?_
          refine lv_aload_n hx hb d_M_read_86 rfl (lv_at hl 1 rfl) ?_
          refine my_cl (wr := [((g 0), Sum.inl (cI, 8, Sum.inl vMany)), ((g 1), Sum.inl (cI, 512, Sum.inl vCounts)), ((g 3), Sum.inl (cI, 512, Sum.inl fN))]) (va_runV (As := []) (rest := [Value.ref o]) ⟨hx, hb, hml, hown, hts⟩ (c_M_four l dC dI cI cM cO H.size o g 2 fShift fModels fItems fEnded fLow fRange fCache fPend fGoes fOuts 1 0 0 0 0 0 4294967295 0 fWrites 0 vIn is 0 (hIn) (hlen) (hoct) (by decide)) (cwV 0 hts (my_gV k1190 k1192 ks44 k12 k1193) rfl rfl rfl cu_M_four_0 ⟨by rw [hR]; exact Nat.le_of_ble_eq_true rfl, by rw [hR]; exact Nat.le_of_ble_eq_true rfl⟩) (my_preV hK hN (hP.sub [0, 4] rfl) (hD.sub [0, 4] (by decide +kernel) rfl) 0 rfl rfl) rfl rfl hl.1 rfl (lv_room (Nat.le_of_ble_eq_true rfl)) d_M_read_87 ⟨by rw [hR]; exact Nat.le_of_ble_eq_true rfl, by rw [hR]; exact Nat.le_of_ble_eq_true rfl⟩) hP hD hS hA [0, 4] [1, 2, 3] rfl rfl (by decide +kernel) (by decide +kernel) (fun r_87 u9 H locs hw_87 hP hD hS => ?_)
          have hw_87 : r_87 = lN (frN is 0 4) := hw_87
          have hPD : my_PD (dC, dI) vwCl A [((g 0), Sum.inl (cI, 8, Sum.inl vMany)), ((g 1), Sum.inl (cI, 512, Sum.inl vCounts)), ((g 3), Sum.inl (cI, 512, Sum.inl fN)), (o, Sum.inr (9, mO g 2 fShift fModels fItems fEnded fLow fRange fCache fPend fGoes fOuts (nI is.length) 1 0 0 (nI (0 + 4)) 0 0 0 4294967295 0 fWrites 0)), ((g 8), Sum.inl (cI, 6000, Sum.inl vIn))] H := ⟨hP, hD⟩
          have hP := hPD.1
          have hD := hPD.2
          refine va_put (D := (dC, dI)) (ci := 9) (v := .long r_87) (ty := .long) (C := "RangeCodersModel") (T := T_M) (N := 35) hx hb hg in_M t_M o_M n_M hown hK hP hD hS 3 rfl rfl 26 (by decide) (hg _ k978) (fun _ h9 => h9) rfl (o_M 26 (by decide)) rfl rfl (Nat.le_of_ble_eq_true rfl) d_M_read_90 (fun H locs hP hD hS => ?_)
          have hPD : my_PD (dC, dI) vwCl A [((g 0), Sum.inl (cI, 8, Sum.inl vMany)), ((g 1), Sum.inl (cI, 512, Sum.inl vCounts)), ((g 3), Sum.inl (cI, 512, Sum.inl fN)), (o, Sum.inr (9, mO g 2 fShift fModels fItems fEnded fLow fRange fCache fPend fGoes fOuts (nI is.length) 1 0 0 (nI (0 + 4)) 0 r_87 0 4294967295 0 fWrites 0)), ((g 8), Sum.inl (cI, 6000, Sum.inl vIn))] H := ⟨hP, hD⟩
          have hP := hPD.1
          have hD := hPD.2
          refine lv_goto (tgt := 172) hx hb d_M_read_93 (by decide) ?_
          refine lv_aload_n hx hb d_M_read_172 rfl (lv_at hl 1 rfl) ?_
          refine va_get (D := (dC, dI)) (ci := 9) (v := .int (nI is.length)) (C := "RangeCodersModel") (T := T_M) (N := 35) hx hb hg in_M hown hK hP 3 rfl rfl 20 (by decide) (hg _ k972) (fun _ h9 => h9) rfl d_M_read_173 ?_
          exact my_iret (v := nI is.length) hx hb hr (rfl) hlocks hQ hK hS (Nat.le_refl _) (Nat.le_refl _) ((1 : Int32), (0 : Int32), (0 : Int32), nI (0 + 4), (0 : Int32), r_87, (0 : Int64), (4294967295 : Int64), (0 : Int64), (0 : Int32), fN) (⟨hT9, ⟨hw_87, rfl, rfl, rfl⟩, rfl, rfl⟩) (hP.sub [3, 0, 1, 2, 4] rfl) (hD.sub [3, 0, 1, 2, 4] (by decide +kernel) rfl) d_M_read_176
      · have hjl : jj < km := by
          rcases Nat.lt_or_ge jj km with z | z
          · exact z
          · exact absurd (by rw [hmod]; exact nI_le z (by have := hMD.1; omega)) c_1
        have hk8 := hMD.1
        obtain ⟨hn9, hn2, hn64, C9, hc9, hB9⟩ := hMD.2 jj hjl
        have hCC := MD_C hMD hjl
        refine lv_aload_n hx hb d_M_read_15 rfl (lv_at hl 1 rfl) ?_
        refine lv_aload_n hx hb d_M_read_16 rfl (lv_at hl 1 rfl) ?_
        refine va_get (D := (dC, dI)) (ci := 9) (v := .ref (g 3)) (C := "RangeCodersModel") (T := T_M) (N := 35) hx hb hg in_M hown hK hP 0 rfl rfl 6 (by decide) (hg _ k958) (fun _ h9 => h9) rfl d_M_read_17 ?_
        refine lv_iload_n hx hb d_M_read_20 rfl (lv_at hl 0 rfl) ?_
        refine my_cv (wr := [((g 8), Sum.inl (cI, 6000, Sum.inl vIn))]) (va_runV (As := [Value.ref (g 3), Value.int (nI jj)]) (rest := []) ⟨hx, hb, hml, hown, hts⟩ (c_M_prepare l dC dI cI cM cO H.size o g 2 fShift fModels fItems fEnded fLow fRange fCache fPend fGoes fOuts (nI is.length) fReads fBad fIR fAsk fBAsk fCode fRL fRR fX fWrites 0 vMany vCounts (g 3) fN jj (N jj) 2 (Fvw vCounts jj) (by omega) (hn9) (hn64) (by omega) (by decide) (by rfl) (hCC.1) (hCC.2)) (cwV 2 hts (my_gV k928 k930 ks19 k12 k931) rfl rfl rfl cu_M_prepare_2 ⟨by rw [hR]; exact Nat.le_of_ble_eq_true rfl, by rw [hR]; exact Nat.le_of_ble_eq_true rfl⟩) (my_preV hK hN (hP.sub [0, 1, 2, 3] rfl) (hD.sub [0, 1, 2, 3] (by decide +kernel) rfl) 0 rfl rfl) rfl rfl hl.1 rfl (lv_room (Nat.le_of_ble_eq_true rfl)) d_M_read_21 ⟨by rw [hR]; exact Nat.le_of_ble_eq_true rfl, by rw [hR]; exact Nat.le_of_ble_eq_true rfl⟩) hP hD hS hA [0, 1, 2, 3] [4] rfl rfl (by decide +kernel) (by decide +kernel) (fun u9 H locs hw_21 hP hD hS => ?_)
        obtain ⟨f2_21, rfl⟩ : ∃ z, z = u9 := ⟨_, rfl⟩
        have hw_21 : sgI f2_21 (64 * jj) (pfN 2 (N jj)) (pf 2 (N jj) (Fvw vCounts jj)) ∧ sgO f2_21 fN (64 * jj) 64 := hw_21
        have hPD : my_PD (dC, dI) vwCl A [((g 8), Sum.inl (cI, 6000, Sum.inl vIn)), (o, Sum.inr (9, mO g 2 fShift fModels fItems fEnded fLow fRange fCache fPend fGoes fOuts (nI is.length) fReads fBad fIR fAsk fBAsk fCode fRL fRR fX fWrites 0)), ((g 0), Sum.inl (cI, 8, Sum.inl vMany)), ((g 1), Sum.inl (cI, 512, Sum.inl vCounts)), ((g 3), Sum.inl (cI, 512, Sum.inl f2_21))] H := ⟨hP, hD⟩
        have hP := hPD.1
        have hD := hPD.2
        have hT8 := pfA_st hT9 (MD_N hMD) hjl hw_21.2 hw_21.1
        obtain ⟨v_3, ev_3⟩ : ∃ y : Int32, y = (nI jj) + (1) := ⟨_, rfl⟩
        refine lv_iinc (v := v_3) (lv' := [(1, Value.int v_3), (0, Value.ref o)]) hx hb d_M_read_24 hl (k := 0) rfl (by rw [ev_3]; rfl) (by decide) rfl (fun ls hl => ?_)
        have z9 : v_3 = nI (jj + 1) := by rw [ev_3]; exact nI_1 _
        subst z9
        refine lv_goto (tgt := 7) hx hb d_M_read_27 (by decide) ?_
        exact ih9_7 _ (by first | omega | (omega)) (jj + 1) f2_21 rfl (by omega) (hT8) H locs ls (hP.sub [1, 2, 3, 4, 0] rfl) (hD.sub [1, 2, 3, 4, 0] (by decide +kernel) rfl) hS (lv_sub hl [0, 1] rfl)
  exact J_7 _ (0 : Nat) vThen rfl (Nat.zero_le _) (pfA_0 _ _ _ _) H locs ls (hP.sub [0, 1, 2, 3, 4] rfl) (hD.sub [0, 1, 2, 3, 4] (by decide +kernel) rfl) hS (lv_sub hl [0, 1] rfl)
set_option maxHeartbeats 2000000 in
set_option maxRecDepth 100000 in
theorem m_readF3 (l : Launch) (dC : Nat → ClassId) (dI : Nat → Nat → Nat) (cI cM cO : ClassId) (sz : Nat) (o : Nat) (g : Nat → Nat) (fForm : Int32) (fShift : Int32) (fModels : Int32) (fItems : Int32) (fEnded : Int32) (fLow : Int64) (fRange : Int64) (fCache : Int32) (fPend : Int32) (fGoes : Int32) (fOuts : Int32) (fIns : Int32) (fReads : Int32) (fBad : Int32) (fIR : Int32) (fAsk : Int32) (fBAsk : Int32) (fCode : Int64) (fRL : Int64) (fRR : Int64) (fX : Int64) (fWrites : Int32) (fThrown : Int32) (vMany : Nat → Int32) (vCounts : Nat → Int32) (vThen : Nat → Int32) (vIn : Nat → Int32) (km : Nat) (N : Nat → Nat) (is : List Nat) (hfo : fForm = 3) (hmod : fModels = nI km) (hMD : MD km N vMany vCounts) (hins : fIns = nI is.length) (hIn : gIs vIn is) (hlen : is.length ≤ 6000) (hoct : oct is) : MetI l y_M_read (Cond.code y_M_read prog_14_method_43_code 2 (some .int) :: gw) ({ frames := 3, cells := 0, slots := 0, locals := 75 } : Room) (dC, dI) vwCl (kT cI cM cO) [Value.ref o] [(o, Sum.inr (9, mO g fForm fShift fModels fItems fEnded fLow fRange fCache fPend fGoes fOuts fIns fReads fBad fIR fAsk fBAsk fCode fRL fRR fX fWrites fThrown)), ((g 0), Sum.inl (cI, 8, Sum.inl vMany)), ((g 1), Sum.inl (cI, 512, Sum.inl vCounts)), ((g 3), Sum.inl (cI, 512, Sum.inl vThen)), ((g 8), Sum.inl (cI, 6000, Sum.inl vIn))] sz (fun (r : Int32) (u : Int32 × Int32 × Int32 × Int32 × Int32 × Int64 × Int64 × Int64 × Int64 × Int32 × (Nat → Int32)) => pfA 3 km N vCounts u.2.2.2.2.2.2.2.2.2.2 ∧ ((u.2.2.2.2.2.2.2.2.1 = lN (frN is 0 4) ∧ u.2.2.2.1 = nI 4 ∧ u.2.1 = if frN is 0 4 < 8388608 then 1 else 0)) ∧ r = nI is.length ∧ u.1 = 1) (fun (u : Int32 × Int32 × Int32 × Int32 × Int32 × Int64 × Int64 × Int64 × Int64 × Int32 × (Nat → Int32)) => [(o, Sum.inr (9, mO g fForm fShift fModels fItems fEnded fLow fRange fCache fPend fGoes fOuts fIns u.1 u.2.1 u.2.2.1 u.2.2.2.1 u.2.2.2.2.1 u.2.2.2.2.2.1 u.2.2.2.2.2.2.1 u.2.2.2.2.2.2.2.1 u.2.2.2.2.2.2.2.2.1 fWrites u.2.2.2.2.2.2.2.2.2.1)), ((g 0), Sum.inl (cI, 8, Sum.inl vMany)), ((g 1), Sum.inl (cI, 512, Sum.inl vCounts)), ((g 3), Sum.inl (cI, 512, Sum.inl u.2.2.2.2.2.2.2.2.2.2)), ((g 8), Sum.inl (cI, 6000, Sum.inl vIn))]) 0 0 := by
  refine my_ofI (cc := prog_14_method_43_code) (n := 2) (ret := (some .int)) (by decide) rfl (Nat.le_of_ble_eq_true rfl) ?_
  intro p e s m args below meth c R Q A ls H locs hx hb hr hts hown hlocks hml hnm hR hQ hA hl hP hK hN hD hS
  have hg : ∀ w ∈ gw, w.before args s = true := fun w h => hts w (List.mem_cons_of_mem _ h)
  have hown : s.vm.findClass "RangeCodersModel" = some m.cls := hown
  have hl : lv_has ls 2 [(0, Value.ref o)] := hl
  subst hfo
  have hfm : 3 ≤ 4 := by decide
  subst hins
  have hPD : my_PD (dC, dI) vwCl A [(o, Sum.inr (9, mO g 3 fShift fModels fItems fEnded fLow fRange fCache fPend fGoes fOuts (nI is.length) fReads fBad fIR fAsk fBAsk fCode fRL fRR fX fWrites fThrown)), ((g 0), Sum.inl (cI, 8, Sum.inl vMany)), ((g 1), Sum.inl (cI, 512, Sum.inl vCounts)), ((g 3), Sum.inl (cI, 512, Sum.inl vThen)), ((g 8), Sum.inl (cI, 6000, Sum.inl vIn))] H := ⟨hP, hD⟩
  have hP := hPD.1
  have hD := hPD.2
  have hl : lv_has ls 2 [(0, Value.ref o)] := hl
  refine lv_aload_n hx hb d_M_read_0 rfl (lv_at hl 0 rfl) ?_
  refine lv_iconst (v := 0) hx hb d_M_read_1 (by decide) ?_
  refine va_put (D := (dC, dI)) (ci := 9) (v := .int 0) (ty := .int) (C := "RangeCodersModel") (T := T_M) (N := 35) hx hb hg in_M t_M o_M n_M hown hK hP hD hS 0 rfl rfl 34 (by decide) (hg _ k986) (fun _ h9 => h9) rfl (o_M 34 (by decide)) rfl rfl (Nat.le_of_ble_eq_true rfl) d_M_read_2 (fun H locs hP hD hS => ?_)
  have hPD : my_PD (dC, dI) vwCl A [(o, Sum.inr (9, mO g 3 fShift fModels fItems fEnded fLow fRange fCache fPend fGoes fOuts (nI is.length) fReads fBad fIR fAsk fBAsk fCode fRL fRR fX fWrites 0)), ((g 0), Sum.inl (cI, 8, Sum.inl vMany)), ((g 1), Sum.inl (cI, 512, Sum.inl vCounts)), ((g 3), Sum.inl (cI, 512, Sum.inl vThen)), ((g 8), Sum.inl (cI, 6000, Sum.inl vIn))] H := ⟨hP, hD⟩
  have hP := hPD.1
  have hD := hPD.2
  refine lv_iconst (v := 0) hx hb d_M_read_5 (by decide) ?_
  refine lv_istore_n (lv' := [(1, Value.int 0), (0, Value.ref o)]) hx hb d_M_read_6 rfl hl (by decide) rfl (fun ls hl => ?_)
  have J_7 : ∀ (n9_7 : Nat) (jj : Nat) (fN : Nat → Int32) (hn9_7 : km - jj = n9_7) (hjj : jj ≤ km) (hT9 : pfA 3 jj N vCounts fN) (H : Heap) (locs : List Loc) (ls : Array Slot), va_P (dC, dI) vwCl [(o, Sum.inr (9, mO g 3 fShift fModels fItems fEnded fLow fRange fCache fPend fGoes fOuts (nI is.length) fReads fBad fIR fAsk fBAsk fCode fRL fRR fX fWrites 0)), ((g 0), Sum.inl (cI, 8, Sum.inl vMany)), ((g 1), Sum.inl (cI, 512, Sum.inl vCounts)), ((g 3), Sum.inl (cI, 512, Sum.inl fN)), ((g 8), Sum.inl (cI, 6000, Sum.inl vIn))] H → va_D A [(o, Sum.inr (9, mO g 3 fShift fModels fItems fEnded fLow fRange fCache fPend fGoes fOuts (nI is.length) fReads fBad fIR fAsk fBAsk fCode fRL fRR fX fWrites 0)), ((g 0), Sum.inl (cI, 8, Sum.inl vMany)), ((g 1), Sum.inl (cI, 512, Sum.inl vCounts)), ((g 3), Sum.inl (cI, 512, Sum.inl fN)), ((g 8), Sum.inl (cI, 6000, Sum.inl vIn))] → va_S A s.heap H locs → lv_has ls 2 [(1, Value.int (nI jj)), (0, Value.ref o)] → W p l e R s m args below meth c H locs 0 0 Q (F0 m 7 ls []) := by
    intro n9_7
    induction n9_7 using Nat.strongRecOn with
    | ind n9_7 ih9_7 =>
      intro jj fN hn9_7 hjj hT9 H locs ls hP hD hS hl
      refine lv_iload_n hx hb d_M_read_7 rfl (lv_at hl 0 rfl) ?_
      refine lv_aload_n hx hb d_M_read_8 rfl (lv_at hl 1 rfl) ?_
      refine va_get (D := (dC, dI)) (ci := 9) (v := .int fModels) (C := "RangeCodersModel") (T := T_M) (N := 35) hx hb hg in_M hown hK hP 0 rfl rfl 2 (by decide) (hg _ k954) (fun _ h9 => h9) rfl d_M_read_9 ?_
      refine lv_icmp_ge (tgt := 30) hx hb d_M_read_12 (by decide) (fun c_1 => ?_) (fun c_1 => ?_)
      · have hjk : jj = km := by
          have hk8 := hMD.1
          rw [hmod] at c_1
          have := (nI_cmp (by omega) (by omega)).mp c_1
          omega
        subst hjk
        refine lv_aload_n hx hb d_M_read_30 rfl (lv_at hl 1 rfl) ?_
        refine lv_iconst (v := 1) hx hb d_M_read_31 (by decide) ?_
        refine va_put (D := (dC, dI)) (ci := 9) (v := .int 1) (ty := .boolean) (C := "RangeCodersModel") (T := T_M) (N := 35) hx hb hg in_M t_M o_M n_M hown hK hP hD hS 0 rfl rfl 21 (by decide) (hg _ k973) (fun _ h9 => h9) rfl (o_M 21 (by decide)) rfl rfl (Nat.le_of_ble_eq_true rfl) d_M_read_32 (fun H locs hP hD hS => ?_)
        have hPD : my_PD (dC, dI) vwCl A [(o, Sum.inr (9, mO g 3 fShift fModels fItems fEnded fLow fRange fCache fPend fGoes fOuts (nI is.length) 1 fBad fIR fAsk fBAsk fCode fRL fRR fX fWrites 0)), ((g 0), Sum.inl (cI, 8, Sum.inl vMany)), ((g 1), Sum.inl (cI, 512, Sum.inl vCounts)), ((g 3), Sum.inl (cI, 512, Sum.inl fN)), ((g 8), Sum.inl (cI, 6000, Sum.inl vIn))] H := ⟨hP, hD⟩
        have hP := hPD.1
        have hD := hPD.2
        refine lv_aload_n hx hb d_M_read_35 rfl (lv_at hl 1 rfl) ?_
        refine lv_iconst (v := 0) hx hb d_M_read_36 (by decide) ?_
        refine va_put (D := (dC, dI)) (ci := 9) (v := .int 0) (ty := .boolean) (C := "RangeCodersModel") (T := T_M) (N := 35) hx hb hg in_M t_M o_M n_M hown hK hP hD hS 0 rfl rfl 22 (by decide) (hg _ k974) (fun _ h9 => h9) rfl (o_M 22 (by decide)) rfl rfl (Nat.le_of_ble_eq_true rfl) d_M_read_37 (fun H locs hP hD hS => ?_)
        have hPD : my_PD (dC, dI) vwCl A [(o, Sum.inr (9, mO g 3 fShift fModels fItems fEnded fLow fRange fCache fPend fGoes fOuts (nI is.length) 1 0 fIR fAsk fBAsk fCode fRL fRR fX fWrites 0)), ((g 0), Sum.inl (cI, 8, Sum.inl vMany)), ((g 1), Sum.inl (cI, 512, Sum.inl vCounts)), ((g 3), Sum.inl (cI, 512, Sum.inl fN)), ((g 8), Sum.inl (cI, 6000, Sum.inl vIn))] H := ⟨hP, hD⟩
        have hP := hPD.1
        have hD := hPD.2
        refine lv_aload_n hx hb d_M_read_40 rfl (lv_at hl 1 rfl) ?_
        refine lv_iconst (v := 0) hx hb d_M_read_41 (by decide) ?_
        refine va_put (D := (dC, dI)) (ci := 9) (v := .int 0) (ty := .int) (C := "RangeCodersModel") (T := T_M) (N := 35) hx hb hg in_M t_M o_M n_M hown hK hP hD hS 0 rfl rfl 23 (by decide) (hg _ k975) (fun _ h9 => h9) rfl (o_M 23 (by decide)) rfl rfl (Nat.le_of_ble_eq_true rfl) d_M_read_42 (fun H locs hP hD hS => ?_)
        have hPD : my_PD (dC, dI) vwCl A [(o, Sum.inr (9, mO g 3 fShift fModels fItems fEnded fLow fRange fCache fPend fGoes fOuts (nI is.length) 1 0 0 fAsk fBAsk fCode fRL fRR fX fWrites 0)), ((g 0), Sum.inl (cI, 8, Sum.inl vMany)), ((g 1), Sum.inl (cI, 512, Sum.inl vCounts)), ((g 3), Sum.inl (cI, 512, Sum.inl fN)), ((g 8), Sum.inl (cI, 6000, Sum.inl vIn))] H := ⟨hP, hD⟩
        have hP := hPD.1
        have hD := hPD.2
        refine lv_aload_n hx hb d_M_read_45 rfl (lv_at hl 1 rfl) ?_
        refine lv_iconst (v := 0) hx hb d_M_read_46 (by decide) ?_
        refine va_put (D := (dC, dI)) (ci := 9) (v := .int 0) (ty := .int) (C := "RangeCodersModel") (T := T_M) (N := 35) hx hb hg in_M t_M o_M n_M hown hK hP hD hS 0 rfl rfl 24 (by decide) (hg _ k976) (fun _ h9 => h9) rfl (o_M 24 (by decide)) rfl rfl (Nat.le_of_ble_eq_true rfl) d_M_read_47 (fun H locs hP hD hS => ?_)
        have hPD : my_PD (dC, dI) vwCl A [(o, Sum.inr (9, mO g 3 fShift fModels fItems fEnded fLow fRange fCache fPend fGoes fOuts (nI is.length) 1 0 0 0 fBAsk fCode fRL fRR fX fWrites 0)), ((g 0), Sum.inl (cI, 8, Sum.inl vMany)), ((g 1), Sum.inl (cI, 512, Sum.inl vCounts)), ((g 3), Sum.inl (cI, 512, Sum.inl fN)), ((g 8), Sum.inl (cI, 6000, Sum.inl vIn))] H := ⟨hP, hD⟩
        have hP := hPD.1
        have hD := hPD.2
        refine lv_aload_n hx hb d_M_read_50 rfl (lv_at hl 1 rfl) ?_
        refine lv_iconst (v := 0) hx hb d_M_read_51 (by decide) ?_
        refine va_put (D := (dC, dI)) (ci := 9) (v := .int 0) (ty := .int) (C := "RangeCodersModel") (T := T_M) (N := 35) hx hb hg in_M t_M o_M n_M hown hK hP hD hS 0 rfl rfl 25 (by decide) (hg _ k977) (fun _ h9 => h9) rfl (o_M 25 (by decide)) rfl rfl (Nat.le_of_ble_eq_true rfl) d_M_read_52 (fun H locs hP hD hS => ?_)
        have hPD : my_PD (dC, dI) vwCl A [(o, Sum.inr (9, mO g 3 fShift fModels fItems fEnded fLow fRange fCache fPend fGoes fOuts (nI is.length) 1 0 0 0 0 fCode fRL fRR fX fWrites 0)), ((g 0), Sum.inl (cI, 8, Sum.inl vMany)), ((g 1), Sum.inl (cI, 512, Sum.inl vCounts)), ((g 3), Sum.inl (cI, 512, Sum.inl fN)), ((g 8), Sum.inl (cI, 6000, Sum.inl vIn))] H := ⟨hP, hD⟩
        have hP := hPD.1
        have hD := hPD.2
        refine lv_aload_n hx hb d_M_read_55 rfl (lv_at hl 1 rfl) ?_
        refine lv_lconst (v := 0) hx hb d_M_read_56 (by decide) ?_
        refine va_put (D := (dC, dI)) (ci := 9) (v := .long 0) (ty := .long) (C := "RangeCodersModel") (T := T_M) (N := 35) hx hb hg in_M t_M o_M n_M hown hK hP hD hS 0 rfl rfl 26 (by decide) (hg _ k978) (fun _ h9 => h9) rfl (o_M 26 (by decide)) rfl rfl (Nat.le_of_ble_eq_true rfl) d_M_read_57 (fun H locs hP hD hS => ?_)
        have hPD : my_PD (dC, dI) vwCl A [(o, Sum.inr (9, mO g 3 fShift fModels fItems fEnded fLow fRange fCache fPend fGoes fOuts (nI is.length) 1 0 0 0 0 0 fRL fRR fX fWrites 0)), ((g 0), Sum.inl (cI, 8, Sum.inl vMany)), ((g 1), Sum.inl (cI, 512, Sum.inl vCounts)), ((g 3), Sum.inl (cI, 512, Sum.inl fN)), ((g 8), Sum.inl (cI, 6000, Sum.inl vIn))] H := ⟨hP, hD⟩
        have hP := hPD.1
        have hD := hPD.2
        refine lv_aload_n hx hb d_M_read_60 rfl (lv_at hl 1 rfl) ?_
        refine lv_lconst (v := 0) hx hb d_M_read_61 (by decide) ?_
        refine va_put (D := (dC, dI)) (ci := 9) (v := .long 0) (ty := .long) (C := "RangeCodersModel") (T := T_M) (N := 35) hx hb hg in_M t_M o_M n_M hown hK hP hD hS 0 rfl rfl 27 (by decide) (hg _ k979) (fun _ h9 => h9) rfl (o_M 27 (by decide)) rfl rfl (Nat.le_of_ble_eq_true rfl) d_M_read_62 (fun H locs hP hD hS => ?_)
        have hPD : my_PD (dC, dI) vwCl A [(o, Sum.inr (9, mO g 3 fShift fModels fItems fEnded fLow fRange fCache fPend fGoes fOuts (nI is.length) 1 0 0 0 0 0 0 fRR fX fWrites 0)), ((g 0), Sum.inl (cI, 8, Sum.inl vMany)), ((g 1), Sum.inl (cI, 512, Sum.inl vCounts)), ((g 3), Sum.inl (cI, 512, Sum.inl fN)), ((g 8), Sum.inl (cI, 6000, Sum.inl vIn))] H := ⟨hP, hD⟩
        have hP := hPD.1
        have hD := hPD.2
        refine lv_aload_n hx hb d_M_read_65 rfl (lv_at hl 1 rfl) ?_
        refine lv_ldc2 (v := 4294967295) hx hb hown (hg _ k927) d_M_read_66 ?_
        refine va_put (D := (dC, dI)) (ci := 9) (v := .long 4294967295) (ty := .long) (C := "RangeCodersModel") (T := T_M) (N := 35) hx hb hg in_M t_M o_M n_M hown hK hP hD hS 0 rfl rfl 28 (by decide) (hg _ k980) (fun _ h9 => h9) rfl (o_M 28 (by decide)) rfl rfl (Nat.le_of_ble_eq_true rfl) d_M_read_69 (fun H locs hP hD hS => ?_)
        have hPD : my_PD (dC, dI) vwCl A [(o, Sum.inr (9, mO g 3 fShift fModels fItems fEnded fLow fRange fCache fPend fGoes fOuts (nI is.length) 1 0 0 0 0 0 0 4294967295 fX fWrites 0)), ((g 0), Sum.inl (cI, 8, Sum.inl vMany)), ((g 1), Sum.inl (cI, 512, Sum.inl vCounts)), ((g 3), Sum.inl (cI, 512, Sum.inl fN)), ((g 8), Sum.inl (cI, 6000, Sum.inl vIn))] H := ⟨hP, hD⟩
        have hP := hPD.1
        have hD := hPD.2
        refine lv_aload_n hx hb d_M_read_72 rfl (lv_at hl 1 rfl) ?_
        refine lv_lconst (v := 0) hx hb d_M_read_73 (by decide) ?_
        refine va_put (D := (dC, dI)) (ci := 9) (v := .long 0) (ty := .long) (C := "RangeCodersModel") (T := T_M) (N := 35) hx hb hg in_M t_M o_M n_M hown hK hP hD hS 0 rfl rfl 29 (by decide) (hg _ k981) (fun _ h9 => h9) rfl (o_M 29 (by decide)) rfl rfl (Nat.le_of_ble_eq_true rfl) d_M_read_74 (fun H locs hP hD hS => ?_)
        have hPD : my_PD (dC, dI) vwCl A [(o, Sum.inr (9, mO g 3 fShift fModels fItems fEnded fLow fRange fCache fPend fGoes fOuts (nI is.length) 1 0 0 0 0 0 0 4294967295 0 fWrites 0)), ((g 0), Sum.inl (cI, 8, Sum.inl vMany)), ((g 1), Sum.inl (cI, 512, Sum.inl vCounts)), ((g 3), Sum.inl (cI, 512, Sum.inl fN)), ((g 8), Sum.inl (cI, 6000, Sum.inl vIn))] H := ⟨hP, hD⟩
        have hP := hPD.1
        have hD := hPD.2
        refine lv_aload_n hx hb d_M_read_77 rfl (lv_at hl 1 rfl) ?_
        refine va_get (D := (dC, dI)) (ci := 9) (v := .int 3) (C := "RangeCodersModel") (T := T_M) (N := 35) hx hb hg in_M hown hK hP 0 rfl rfl 0 (by decide) (hg _ k952) (fun _ h9 => h9) rfl d_M_read_78 ?_
        refine lv_iconst (v := 3) hx hb d_M_read_81 (by decide) ?_
        refine lv_icmp_ge (tgt := 96) hx hb d_M_read_82 (by decide) (fun c_2 => ?_) (fun c_2 => ?_)
        · refine lv_aload_n hx hb d_M_read_96 rfl (lv_at hl 1 rfl) ?_
          refine va_get (D := (dC, dI)) (ci := 9) (v := .int 3) (C := "RangeCodersModel") (T := T_M) (N := 35) hx hb hg in_M hown hK hP 0 rfl rfl 0 (by decide) (hg _ k952) (fun _ h9 => h9) rfl d_M_read_97 ?_
          refine lv_iconst (v := 3) hx hb d_M_read_100 (by decide) ?_
          refine lv_icmp_ne (tgt := 135) hx hb d_M_read_101 (by decide) (fun c_3 => ?_) (fun c_3 => ?_)
          · exact absurd rfl c_3
          · refine lv_aload_n hx hb d_M_read_104 rfl (lv_at hl 1 rfl) ?_
            refine lv_aload_n hx hb d_M_read_105 rfl (lv_at hl 1 rfl) ?_
            refine my_cl (wr := [((g 0), Sum.inl (cI, 8, Sum.inl vMany)), ((g 1), Sum.inl (cI, 512, Sum.inl vCounts)), ((g 3), Sum.inl (cI, 512, Sum.inl fN))]) (va_runV (As := []) (rest := [Value.ref o]) ⟨hx, hb, hml, hown, hts⟩ (c_M_four l dC dI cI cM cO H.size o g 3 fShift fModels fItems fEnded fLow fRange fCache fPend fGoes fOuts 1 0 0 0 0 0 4294967295 0 fWrites 0 vIn is 0 (hIn) (hlen) (hoct) (by decide)) (cwV 0 hts (my_gV k1190 k1192 ks44 k12 k1193) rfl rfl rfl cu_M_four_0 ⟨by rw [hR]; exact Nat.le_of_ble_eq_true rfl, by rw [hR]; exact Nat.le_of_ble_eq_true rfl⟩) (my_preV hK hN (hP.sub [0, 4] rfl) (hD.sub [0, 4] (by decide +kernel) rfl) 0 rfl rfl) rfl rfl hl.1 rfl (lv_room (Nat.le_of_ble_eq_true rfl)) d_M_read_106 ⟨by rw [hR]; exact Nat.le_of_ble_eq_true rfl, by rw [hR]; exact Nat.le_of_ble_eq_true rfl⟩) hP hD hS hA [0, 4] [1, 2, 3] rfl rfl (by decide +kernel) (by decide +kernel) (fun r_106 u9 H locs hw_106 hP hD hS => ?_)
            have hw_106 : r_106 = lN (frN is 0 4) := hw_106
            have hPD : my_PD (dC, dI) vwCl A [((g 0), Sum.inl (cI, 8, Sum.inl vMany)), ((g 1), Sum.inl (cI, 512, Sum.inl vCounts)), ((g 3), Sum.inl (cI, 512, Sum.inl fN)), (o, Sum.inr (9, mO g 3 fShift fModels fItems fEnded fLow fRange fCache fPend fGoes fOuts (nI is.length) 1 0 0 (nI (0 + 4)) 0 0 0 4294967295 0 fWrites 0)), ((g 8), Sum.inl (cI, 6000, Sum.inl vIn))] H := ⟨hP, hD⟩
            have hP := hPD.1
            have hD := hPD.2
            refine va_put (D := (dC, dI)) (ci := 9) (v := .long r_106) (ty := .long) (C := "RangeCodersModel") (T := T_M) (N := 35) hx hb hg in_M t_M o_M n_M hown hK hP hD hS 3 rfl rfl 29 (by decide) (hg _ k981) (fun _ h9 => h9) rfl (o_M 29 (by decide)) rfl rfl (Nat.le_of_ble_eq_true rfl) d_M_read_109 (fun H locs hP hD hS => ?_)
            have hPD : my_PD (dC, dI) vwCl A [((g 0), Sum.inl (cI, 8, Sum.inl vMany)), ((g 1), Sum.inl (cI, 512, Sum.inl vCounts)), ((g 3), Sum.inl (cI, 512, Sum.inl fN)), (o, Sum.inr (9, mO g 3 fShift fModels fItems fEnded fLow fRange fCache fPend fGoes fOuts (nI is.length) 1 0 0 (nI (0 + 4)) 0 0 0 4294967295 r_106 fWrites 0)), ((g 8), Sum.inl (cI, 6000, Sum.inl vIn))] H := ⟨hP, hD⟩
            have hP := hPD.1
            have hD := hPD.2
            refine lv_aload_n hx hb d_M_read_112 rfl (lv_at hl 1 rfl) ?_
            refine lv_aload_n hx hb d_M_read_113 rfl (lv_at hl 1 rfl) ?_
            refine va_get (D := (dC, dI)) (ci := 9) (v := .long r_106) (C := "RangeCodersModel") (T := T_M) (N := 35) hx hb hg in_M hown hK hP 3 rfl rfl 29 (by decide) (hg _ k981) (fun _ h9 => h9) rfl d_M_read_114 ?_
            refine lv_ldc2 (v := 8388608) hx hb hown (hg _ k1155) d_M_read_117 ?_
            refine W.lcmp hx hb d_M_read_120 ?_
            refine lv_if_ge (tgt := 128) hx hb d_M_read_121 (by decide) (fun c_4 => ?_) (fun c_4 => ?_)
            · rw [lg_cmp_ge] at c_4
              refine lv_iconst (v := 0) hx hb d_M_read_128 (by decide) ?_
              refine va_put (D := (dC, dI)) (ci := 9) (v := .int 0) (ty := .boolean) (C := "RangeCodersModel") (T := T_M) (N := 35) hx hb hg in_M t_M o_M n_M hown hK hP hD hS 3 rfl rfl 22 (by decide) (hg _ k974) (fun _ h9 => h9) rfl (o_M 22 (by decide)) rfl rfl (Nat.le_of_ble_eq_true rfl) d_M_read_129 (fun H locs hP hD hS => ?_)
              have hPD : my_PD (dC, dI) vwCl A [((g 0), Sum.inl (cI, 8, Sum.inl vMany)), ((g 1), Sum.inl (cI, 512, Sum.inl vCounts)), ((g 3), Sum.inl (cI, 512, Sum.inl fN)), (o, Sum.inr (9, mO g 3 fShift fModels fItems fEnded fLow fRange fCache fPend fGoes fOuts (nI is.length) 1 0 0 (nI (0 + 4)) 0 0 0 4294967295 r_106 fWrites 0)), ((g 8), Sum.inl (cI, 6000, Sum.inl vIn))] H := ⟨hP, hD⟩
              have hP := hPD.1
              have hD := hPD.2
              refine lv_goto (tgt := 172) hx hb d_M_read_132 (by decide) ?_
              refine lv_aload_n hx hb d_M_read_172 rfl (lv_at hl 1 rfl) ?_
              refine va_get (D := (dC, dI)) (ci := 9) (v := .int (nI is.length)) (C := "RangeCodersModel") (T := T_M) (N := 35) hx hb hg in_M hown hK hP 3 rfl rfl 20 (by decide) (hg _ k972) (fun _ h9 => h9) rfl d_M_read_173 ?_
              exact my_iret (v := nI is.length) hx hb hr (rfl) hlocks hQ hK hS (Nat.le_refl _) (Nat.le_refl _) ((1 : Int32), (0 : Int32), (0 : Int32), nI (0 + 4), (0 : Int32), (0 : Int64), (0 : Int64), (4294967295 : Int64), r_106, (0 : Int32), fN) (⟨hT9, ⟨hw_106, rfl, by rw [if_neg (by have z := r3_ge hw_106 (by have := frN_lt hoct 0 4; exact this) c_4; omega)]⟩, rfl, rfl⟩) (hP.sub [3, 0, 1, 2, 4] rfl) (hD.sub [3, 0, 1, 2, 4] (by decide +kernel) rfl) d_M_read_176
            · rw [lg_cmp_ge] at c_4
              refine lv_iconst (v := 1) hx hb d_M_read_124 (by decide) ?_
              refine lv_goto (tgt := 129) hx hb d_M_read_125 (by decide) ?_
              refine va_put (D := (dC, dI)) (ci := 9) (v := .int 1) (ty := .boolean) (C := "RangeCodersModel") (T := T_M) (N := 35) hx hb hg in_M t_M o_M n_M hown hK hP hD hS 3 rfl rfl 22 (by decide) (hg _ k974) (fun _ h9 => h9) rfl (o_M 22 (by decide)) rfl rfl (Nat.le_of_ble_eq_true rfl) d_M_read_129 (fun H locs hP hD hS => ?_)
              have hPD : my_PD (dC, dI) vwCl A [((g 0), Sum.inl (cI, 8, Sum.inl vMany)), ((g 1), Sum.inl (cI, 512, Sum.inl vCounts)), ((g 3), Sum.inl (cI, 512, Sum.inl fN)), (o, Sum.inr (9, mO g 3 fShift fModels fItems fEnded fLow fRange fCache fPend fGoes fOuts (nI is.length) 1 1 0 (nI (0 + 4)) 0 0 0 4294967295 r_106 fWrites 0)), ((g 8), Sum.inl (cI, 6000, Sum.inl vIn))] H := ⟨hP, hD⟩
              have hP := hPD.1
              have hD := hPD.2
              refine lv_goto (tgt := 172) hx hb d_M_read_132 (by decide) ?_
              refine lv_aload_n hx hb d_M_read_172 rfl (lv_at hl 1 rfl) ?_
              refine va_get (D := (dC, dI)) (ci := 9) (v := .int (nI is.length)) (C := "RangeCodersModel") (T := T_M) (N := 35) hx hb hg in_M hown hK hP 3 rfl rfl 20 (by decide) (hg _ k972) (fun _ h9 => h9) rfl d_M_read_173 ?_
              exact my_iret (v := nI is.length) hx hb hr (rfl) hlocks hQ hK hS (Nat.le_refl _) (Nat.le_refl _) ((1 : Int32), (1 : Int32), (0 : Int32), nI (0 + 4), (0 : Int32), (0 : Int64), (0 : Int64), (4294967295 : Int64), r_106, (0 : Int32), fN) (⟨hT9, ⟨hw_106, rfl, by rw [if_pos (by rcases Nat.lt_or_ge (frN is 0 4) 8388608 with z | z; exact z; exact absurd (by rw [hw_106]; exact (L_le (a := 8388608) (by decide) (by have := frN_lt hoct 0 4; omega)).mpr z) c_4)]⟩, rfl, rfl⟩) (hP.sub [3, 0, 1, 2, 4] rfl) (hD.sub [3, 0, 1, 2, 4] (by decide +kernel) rfl) d_M_read_176
        · exact absurd (by decide) c_2
      · have hjl : jj < km := by
          rcases Nat.lt_or_ge jj km with z | z
          · exact z
          · exact absurd (by rw [hmod]; exact nI_le z (by have := hMD.1; omega)) c_1
        have hk8 := hMD.1
        obtain ⟨hn9, hn2, hn64, C9, hc9, hB9⟩ := hMD.2 jj hjl
        have hCC := MD_C hMD hjl
        refine lv_aload_n hx hb d_M_read_15 rfl (lv_at hl 1 rfl) ?_
        refine lv_aload_n hx hb d_M_read_16 rfl (lv_at hl 1 rfl) ?_
        refine va_get (D := (dC, dI)) (ci := 9) (v := .ref (g 3)) (C := "RangeCodersModel") (T := T_M) (N := 35) hx hb hg in_M hown hK hP 0 rfl rfl 6 (by decide) (hg _ k958) (fun _ h9 => h9) rfl d_M_read_17 ?_
        refine lv_iload_n hx hb d_M_read_20 rfl (lv_at hl 0 rfl) ?_
        refine my_cv (wr := [((g 8), Sum.inl (cI, 6000, Sum.inl vIn))]) (va_runV (As := [Value.ref (g 3), Value.int (nI jj)]) (rest := []) ⟨hx, hb, hml, hown, hts⟩ (c_M_prepare l dC dI cI cM cO H.size o g 3 fShift fModels fItems fEnded fLow fRange fCache fPend fGoes fOuts (nI is.length) fReads fBad fIR fAsk fBAsk fCode fRL fRR fX fWrites 0 vMany vCounts (g 3) fN jj (N jj) 3 (Fvw vCounts jj) (by omega) (hn9) (hn64) (by omega) (by decide) (by rfl) (hCC.1) (hCC.2)) (cwV 2 hts (my_gV k928 k930 ks19 k12 k931) rfl rfl rfl cu_M_prepare_2 ⟨by rw [hR]; exact Nat.le_of_ble_eq_true rfl, by rw [hR]; exact Nat.le_of_ble_eq_true rfl⟩) (my_preV hK hN (hP.sub [0, 1, 2, 3] rfl) (hD.sub [0, 1, 2, 3] (by decide +kernel) rfl) 0 rfl rfl) rfl rfl hl.1 rfl (lv_room (Nat.le_of_ble_eq_true rfl)) d_M_read_21 ⟨by rw [hR]; exact Nat.le_of_ble_eq_true rfl, by rw [hR]; exact Nat.le_of_ble_eq_true rfl⟩) hP hD hS hA [0, 1, 2, 3] [4] rfl rfl (by decide +kernel) (by decide +kernel) (fun u9 H locs hw_21 hP hD hS => ?_)
        obtain ⟨f2_21, rfl⟩ : ∃ z, z = u9 := ⟨_, rfl⟩
        have hw_21 : sgI f2_21 (64 * jj) (pfN 3 (N jj)) (pf 3 (N jj) (Fvw vCounts jj)) ∧ sgO f2_21 fN (64 * jj) 64 := hw_21
        have hPD : my_PD (dC, dI) vwCl A [((g 8), Sum.inl (cI, 6000, Sum.inl vIn)), (o, Sum.inr (9, mO g 3 fShift fModels fItems fEnded fLow fRange fCache fPend fGoes fOuts (nI is.length) fReads fBad fIR fAsk fBAsk fCode fRL fRR fX fWrites 0)), ((g 0), Sum.inl (cI, 8, Sum.inl vMany)), ((g 1), Sum.inl (cI, 512, Sum.inl vCounts)), ((g 3), Sum.inl (cI, 512, Sum.inl f2_21))] H := ⟨hP, hD⟩
        have hP := hPD.1
        have hD := hPD.2
        have hT8 := pfA_st hT9 (MD_N hMD) hjl hw_21.2 hw_21.1
        obtain ⟨v_5, ev_5⟩ : ∃ y : Int32, y = (nI jj) + (1) := ⟨_, rfl⟩
        refine lv_iinc (v := v_5) (lv' := [(1, Value.int v_5), (0, Value.ref o)]) hx hb d_M_read_24 hl (k := 0) rfl (by rw [ev_5]; rfl) (by decide) rfl (fun ls hl => ?_)
        have z9 : v_5 = nI (jj + 1) := by rw [ev_5]; exact nI_1 _
        subst z9
        refine lv_goto (tgt := 7) hx hb d_M_read_27 (by decide) ?_
        exact ih9_7 _ (by first | omega | (omega)) (jj + 1) f2_21 rfl (by omega) (hT8) H locs ls (hP.sub [1, 2, 3, 4, 0] rfl) (hD.sub [1, 2, 3, 4, 0] (by decide +kernel) rfl) hS (lv_sub hl [0, 1] rfl)
  exact J_7 _ (0 : Nat) vThen rfl (Nat.zero_le _) (pfA_0 _ _ _ _) H locs ls (hP.sub [0, 1, 2, 3, 4] rfl) (hD.sub [0, 1, 2, 3, 4] (by decide +kernel) rfl) hS (lv_sub hl [0, 1] rfl)
set_option maxHeartbeats 2000000 in
set_option maxRecDepth 100000 in
theorem m_readF4 (l : Launch) (dC : Nat → ClassId) (dI : Nat → Nat → Nat) (cI cM cO : ClassId) (sz : Nat) (o : Nat) (g : Nat → Nat) (fForm : Int32) (fShift : Int32) (fModels : Int32) (fItems : Int32) (fEnded : Int32) (fLow : Int64) (fRange : Int64) (fCache : Int32) (fPend : Int32) (fGoes : Int32) (fOuts : Int32) (fIns : Int32) (fReads : Int32) (fBad : Int32) (fIR : Int32) (fAsk : Int32) (fBAsk : Int32) (fCode : Int64) (fRL : Int64) (fRR : Int64) (fX : Int64) (fWrites : Int32) (fThrown : Int32) (vMany : Nat → Int32) (vCounts : Nat → Int32) (vThen : Nat → Int32) (vIn : Nat → Int32) (km : Nat) (N : Nat → Nat) (is : List Nat) (hfo : fForm = 4) (hmod : fModels = nI km) (hMD : MD km N vMany vCounts) (hins : fIns = nI is.length) (hIn : gIs vIn is) (hlen : is.length ≤ 6000) (hoct : oct is) : MetI l y_M_read (Cond.code y_M_read prog_14_method_43_code 2 (some .int) :: gw) ({ frames := 3, cells := 0, slots := 0, locals := 75 } : Room) (dC, dI) vwCl (kT cI cM cO) [Value.ref o] [(o, Sum.inr (9, mO g fForm fShift fModels fItems fEnded fLow fRange fCache fPend fGoes fOuts fIns fReads fBad fIR fAsk fBAsk fCode fRL fRR fX fWrites fThrown)), ((g 0), Sum.inl (cI, 8, Sum.inl vMany)), ((g 1), Sum.inl (cI, 512, Sum.inl vCounts)), ((g 3), Sum.inl (cI, 512, Sum.inl vThen)), ((g 8), Sum.inl (cI, 6000, Sum.inl vIn))] sz (fun (r : Int32) (u : Int32 × Int32 × Int32 × Int32 × Int32 × Int64 × Int64 × Int64 × Int64 × Int32 × (Nat → Int32)) => pfA 4 km N vCounts u.2.2.2.2.2.2.2.2.2.2 ∧ (u.2.2.2.2.2.2.2.2.1 = lN (512 + bbN is 0 9) ∧ u.2.2.2.2.1 = nI 9 ∧ u.2.2.2.1 = nI 2 ∧ u.2.1 = 0) ∧ r = nI is.length ∧ u.1 = 1) (fun (u : Int32 × Int32 × Int32 × Int32 × Int32 × Int64 × Int64 × Int64 × Int64 × Int32 × (Nat → Int32)) => [(o, Sum.inr (9, mO g fForm fShift fModels fItems fEnded fLow fRange fCache fPend fGoes fOuts fIns u.1 u.2.1 u.2.2.1 u.2.2.2.1 u.2.2.2.2.1 u.2.2.2.2.2.1 u.2.2.2.2.2.2.1 u.2.2.2.2.2.2.2.1 u.2.2.2.2.2.2.2.2.1 fWrites u.2.2.2.2.2.2.2.2.2.1)), ((g 0), Sum.inl (cI, 8, Sum.inl vMany)), ((g 1), Sum.inl (cI, 512, Sum.inl vCounts)), ((g 3), Sum.inl (cI, 512, Sum.inl u.2.2.2.2.2.2.2.2.2.2)), ((g 8), Sum.inl (cI, 6000, Sum.inl vIn))]) 0 0 := by
  refine my_ofI (cc := prog_14_method_43_code) (n := 2) (ret := (some .int)) (by decide) rfl (Nat.le_of_ble_eq_true rfl) ?_
  intro p e s m args below meth c R Q A ls H locs hx hb hr hts hown hlocks hml hnm hR hQ hA hl hP hK hN hD hS
  have hg : ∀ w ∈ gw, w.before args s = true := fun w h => hts w (List.mem_cons_of_mem _ h)
  have hown : s.vm.findClass "RangeCodersModel" = some m.cls := hown
  have hl : lv_has ls 2 [(0, Value.ref o)] := hl
  subst hfo
  have hfm : 4 ≤ 4 := by decide
  subst hins
  have hPD : my_PD (dC, dI) vwCl A [(o, Sum.inr (9, mO g 4 fShift fModels fItems fEnded fLow fRange fCache fPend fGoes fOuts (nI is.length) fReads fBad fIR fAsk fBAsk fCode fRL fRR fX fWrites fThrown)), ((g 0), Sum.inl (cI, 8, Sum.inl vMany)), ((g 1), Sum.inl (cI, 512, Sum.inl vCounts)), ((g 3), Sum.inl (cI, 512, Sum.inl vThen)), ((g 8), Sum.inl (cI, 6000, Sum.inl vIn))] H := ⟨hP, hD⟩
  have hP := hPD.1
  have hD := hPD.2
  have hl : lv_has ls 2 [(0, Value.ref o)] := hl
  refine lv_aload_n hx hb d_M_read_0 rfl (lv_at hl 0 rfl) ?_
  refine lv_iconst (v := 0) hx hb d_M_read_1 (by decide) ?_
  refine va_put (D := (dC, dI)) (ci := 9) (v := .int 0) (ty := .int) (C := "RangeCodersModel") (T := T_M) (N := 35) hx hb hg in_M t_M o_M n_M hown hK hP hD hS 0 rfl rfl 34 (by decide) (hg _ k986) (fun _ h9 => h9) rfl (o_M 34 (by decide)) rfl rfl (Nat.le_of_ble_eq_true rfl) d_M_read_2 (fun H locs hP hD hS => ?_)
  have hPD : my_PD (dC, dI) vwCl A [(o, Sum.inr (9, mO g 4 fShift fModels fItems fEnded fLow fRange fCache fPend fGoes fOuts (nI is.length) fReads fBad fIR fAsk fBAsk fCode fRL fRR fX fWrites 0)), ((g 0), Sum.inl (cI, 8, Sum.inl vMany)), ((g 1), Sum.inl (cI, 512, Sum.inl vCounts)), ((g 3), Sum.inl (cI, 512, Sum.inl vThen)), ((g 8), Sum.inl (cI, 6000, Sum.inl vIn))] H := ⟨hP, hD⟩
  have hP := hPD.1
  have hD := hPD.2
  refine lv_iconst (v := 0) hx hb d_M_read_5 (by decide) ?_
  refine lv_istore_n (lv' := [(1, Value.int 0), (0, Value.ref o)]) hx hb d_M_read_6 rfl hl (by decide) rfl (fun ls hl => ?_)
  have J_7 : ∀ (n9_7 : Nat) (jj : Nat) (fN : Nat → Int32) (hn9_7 : km - jj = n9_7) (hjj : jj ≤ km) (hT9 : pfA 4 jj N vCounts fN) (H : Heap) (locs : List Loc) (ls : Array Slot), va_P (dC, dI) vwCl [(o, Sum.inr (9, mO g 4 fShift fModels fItems fEnded fLow fRange fCache fPend fGoes fOuts (nI is.length) fReads fBad fIR fAsk fBAsk fCode fRL fRR fX fWrites 0)), ((g 0), Sum.inl (cI, 8, Sum.inl vMany)), ((g 1), Sum.inl (cI, 512, Sum.inl vCounts)), ((g 3), Sum.inl (cI, 512, Sum.inl fN)), ((g 8), Sum.inl (cI, 6000, Sum.inl vIn))] H → va_D A [(o, Sum.inr (9, mO g 4 fShift fModels fItems fEnded fLow fRange fCache fPend fGoes fOuts (nI is.length) fReads fBad fIR fAsk fBAsk fCode fRL fRR fX fWrites 0)), ((g 0), Sum.inl (cI, 8, Sum.inl vMany)), ((g 1), Sum.inl (cI, 512, Sum.inl vCounts)), ((g 3), Sum.inl (cI, 512, Sum.inl fN)), ((g 8), Sum.inl (cI, 6000, Sum.inl vIn))] → va_S A s.heap H locs → lv_has ls 2 [(1, Value.int (nI jj)), (0, Value.ref o)] → W p l e R s m args below meth c H locs 0 0 Q (F0 m 7 ls []) := by
    intro n9_7
    induction n9_7 using Nat.strongRecOn with
    | ind n9_7 ih9_7 =>
      intro jj fN hn9_7 hjj hT9 H locs ls hP hD hS hl
      refine lv_iload_n hx hb d_M_read_7 rfl (lv_at hl 0 rfl) ?_
      refine lv_aload_n hx hb d_M_read_8 rfl (lv_at hl 1 rfl) ?_
      refine va_get (D := (dC, dI)) (ci := 9) (v := .int fModels) (C := "RangeCodersModel") (T := T_M) (N := 35) hx hb hg in_M hown hK hP 0 rfl rfl 2 (by decide) (hg _ k954) (fun _ h9 => h9) rfl d_M_read_9 ?_
      refine lv_icmp_ge (tgt := 30) hx hb d_M_read_12 (by decide) (fun c_1 => ?_) (fun c_1 => ?_)
      · have hjk : jj = km := by
          have hk8 := hMD.1
          rw [hmod] at c_1
          have := (nI_cmp (by omega) (by omega)).mp c_1
          omega
        subst hjk
        refine lv_aload_n hx hb d_M_read_30 rfl (lv_at hl 1 rfl) ?_
        refine lv_iconst (v := 1) hx hb d_M_read_31 (by decide) ?_
        refine va_put (D := (dC, dI)) (ci := 9) (v := .int 1) (ty := .boolean) (C := "RangeCodersModel") (T := T_M) (N := 35) hx hb hg in_M t_M o_M n_M hown hK hP hD hS 0 rfl rfl 21 (by decide) (hg _ k973) (fun _ h9 => h9) rfl (o_M 21 (by decide)) rfl rfl (Nat.le_of_ble_eq_true rfl) d_M_read_32 (fun H locs hP hD hS => ?_)
        have hPD : my_PD (dC, dI) vwCl A [(o, Sum.inr (9, mO g 4 fShift fModels fItems fEnded fLow fRange fCache fPend fGoes fOuts (nI is.length) 1 fBad fIR fAsk fBAsk fCode fRL fRR fX fWrites 0)), ((g 0), Sum.inl (cI, 8, Sum.inl vMany)), ((g 1), Sum.inl (cI, 512, Sum.inl vCounts)), ((g 3), Sum.inl (cI, 512, Sum.inl fN)), ((g 8), Sum.inl (cI, 6000, Sum.inl vIn))] H := ⟨hP, hD⟩
        have hP := hPD.1
        have hD := hPD.2
        refine lv_aload_n hx hb d_M_read_35 rfl (lv_at hl 1 rfl) ?_
        refine lv_iconst (v := 0) hx hb d_M_read_36 (by decide) ?_
        refine va_put (D := (dC, dI)) (ci := 9) (v := .int 0) (ty := .boolean) (C := "RangeCodersModel") (T := T_M) (N := 35) hx hb hg in_M t_M o_M n_M hown hK hP hD hS 0 rfl rfl 22 (by decide) (hg _ k974) (fun _ h9 => h9) rfl (o_M 22 (by decide)) rfl rfl (Nat.le_of_ble_eq_true rfl) d_M_read_37 (fun H locs hP hD hS => ?_)
        have hPD : my_PD (dC, dI) vwCl A [(o, Sum.inr (9, mO g 4 fShift fModels fItems fEnded fLow fRange fCache fPend fGoes fOuts (nI is.length) 1 0 fIR fAsk fBAsk fCode fRL fRR fX fWrites 0)), ((g 0), Sum.inl (cI, 8, Sum.inl vMany)), ((g 1), Sum.inl (cI, 512, Sum.inl vCounts)), ((g 3), Sum.inl (cI, 512, Sum.inl fN)), ((g 8), Sum.inl (cI, 6000, Sum.inl vIn))] H := ⟨hP, hD⟩
        have hP := hPD.1
        have hD := hPD.2
        refine lv_aload_n hx hb d_M_read_40 rfl (lv_at hl 1 rfl) ?_
        refine lv_iconst (v := 0) hx hb d_M_read_41 (by decide) ?_
        refine va_put (D := (dC, dI)) (ci := 9) (v := .int 0) (ty := .int) (C := "RangeCodersModel") (T := T_M) (N := 35) hx hb hg in_M t_M o_M n_M hown hK hP hD hS 0 rfl rfl 23 (by decide) (hg _ k975) (fun _ h9 => h9) rfl (o_M 23 (by decide)) rfl rfl (Nat.le_of_ble_eq_true rfl) d_M_read_42 (fun H locs hP hD hS => ?_)
        have hPD : my_PD (dC, dI) vwCl A [(o, Sum.inr (9, mO g 4 fShift fModels fItems fEnded fLow fRange fCache fPend fGoes fOuts (nI is.length) 1 0 0 fAsk fBAsk fCode fRL fRR fX fWrites 0)), ((g 0), Sum.inl (cI, 8, Sum.inl vMany)), ((g 1), Sum.inl (cI, 512, Sum.inl vCounts)), ((g 3), Sum.inl (cI, 512, Sum.inl fN)), ((g 8), Sum.inl (cI, 6000, Sum.inl vIn))] H := ⟨hP, hD⟩
        have hP := hPD.1
        have hD := hPD.2
        refine lv_aload_n hx hb d_M_read_45 rfl (lv_at hl 1 rfl) ?_
        refine lv_iconst (v := 0) hx hb d_M_read_46 (by decide) ?_
        refine va_put (D := (dC, dI)) (ci := 9) (v := .int 0) (ty := .int) (C := "RangeCodersModel") (T := T_M) (N := 35) hx hb hg in_M t_M o_M n_M hown hK hP hD hS 0 rfl rfl 24 (by decide) (hg _ k976) (fun _ h9 => h9) rfl (o_M 24 (by decide)) rfl rfl (Nat.le_of_ble_eq_true rfl) d_M_read_47 (fun H locs hP hD hS => ?_)
        have hPD : my_PD (dC, dI) vwCl A [(o, Sum.inr (9, mO g 4 fShift fModels fItems fEnded fLow fRange fCache fPend fGoes fOuts (nI is.length) 1 0 0 0 fBAsk fCode fRL fRR fX fWrites 0)), ((g 0), Sum.inl (cI, 8, Sum.inl vMany)), ((g 1), Sum.inl (cI, 512, Sum.inl vCounts)), ((g 3), Sum.inl (cI, 512, Sum.inl fN)), ((g 8), Sum.inl (cI, 6000, Sum.inl vIn))] H := ⟨hP, hD⟩
        have hP := hPD.1
        have hD := hPD.2
        refine lv_aload_n hx hb d_M_read_50 rfl (lv_at hl 1 rfl) ?_
        refine lv_iconst (v := 0) hx hb d_M_read_51 (by decide) ?_
        refine va_put (D := (dC, dI)) (ci := 9) (v := .int 0) (ty := .int) (C := "RangeCodersModel") (T := T_M) (N := 35) hx hb hg in_M t_M o_M n_M hown hK hP hD hS 0 rfl rfl 25 (by decide) (hg _ k977) (fun _ h9 => h9) rfl (o_M 25 (by decide)) rfl rfl (Nat.le_of_ble_eq_true rfl) d_M_read_52 (fun H locs hP hD hS => ?_)
        have hPD : my_PD (dC, dI) vwCl A [(o, Sum.inr (9, mO g 4 fShift fModels fItems fEnded fLow fRange fCache fPend fGoes fOuts (nI is.length) 1 0 0 0 0 fCode fRL fRR fX fWrites 0)), ((g 0), Sum.inl (cI, 8, Sum.inl vMany)), ((g 1), Sum.inl (cI, 512, Sum.inl vCounts)), ((g 3), Sum.inl (cI, 512, Sum.inl fN)), ((g 8), Sum.inl (cI, 6000, Sum.inl vIn))] H := ⟨hP, hD⟩
        have hP := hPD.1
        have hD := hPD.2
        refine lv_aload_n hx hb d_M_read_55 rfl (lv_at hl 1 rfl) ?_
        refine lv_lconst (v := 0) hx hb d_M_read_56 (by decide) ?_
        refine va_put (D := (dC, dI)) (ci := 9) (v := .long 0) (ty := .long) (C := "RangeCodersModel") (T := T_M) (N := 35) hx hb hg in_M t_M o_M n_M hown hK hP hD hS 0 rfl rfl 26 (by decide) (hg _ k978) (fun _ h9 => h9) rfl (o_M 26 (by decide)) rfl rfl (Nat.le_of_ble_eq_true rfl) d_M_read_57 (fun H locs hP hD hS => ?_)
        have hPD : my_PD (dC, dI) vwCl A [(o, Sum.inr (9, mO g 4 fShift fModels fItems fEnded fLow fRange fCache fPend fGoes fOuts (nI is.length) 1 0 0 0 0 0 fRL fRR fX fWrites 0)), ((g 0), Sum.inl (cI, 8, Sum.inl vMany)), ((g 1), Sum.inl (cI, 512, Sum.inl vCounts)), ((g 3), Sum.inl (cI, 512, Sum.inl fN)), ((g 8), Sum.inl (cI, 6000, Sum.inl vIn))] H := ⟨hP, hD⟩
        have hP := hPD.1
        have hD := hPD.2
        refine lv_aload_n hx hb d_M_read_60 rfl (lv_at hl 1 rfl) ?_
        refine lv_lconst (v := 0) hx hb d_M_read_61 (by decide) ?_
        refine va_put (D := (dC, dI)) (ci := 9) (v := .long 0) (ty := .long) (C := "RangeCodersModel") (T := T_M) (N := 35) hx hb hg in_M t_M o_M n_M hown hK hP hD hS 0 rfl rfl 27 (by decide) (hg _ k979) (fun _ h9 => h9) rfl (o_M 27 (by decide)) rfl rfl (Nat.le_of_ble_eq_true rfl) d_M_read_62 (fun H locs hP hD hS => ?_)
        have hPD : my_PD (dC, dI) vwCl A [(o, Sum.inr (9, mO g 4 fShift fModels fItems fEnded fLow fRange fCache fPend fGoes fOuts (nI is.length) 1 0 0 0 0 0 0 fRR fX fWrites 0)), ((g 0), Sum.inl (cI, 8, Sum.inl vMany)), ((g 1), Sum.inl (cI, 512, Sum.inl vCounts)), ((g 3), Sum.inl (cI, 512, Sum.inl fN)), ((g 8), Sum.inl (cI, 6000, Sum.inl vIn))] H := ⟨hP, hD⟩
        have hP := hPD.1
        have hD := hPD.2
        refine lv_aload_n hx hb d_M_read_65 rfl (lv_at hl 1 rfl) ?_
        refine lv_ldc2 (v := 4294967295) hx hb hown (hg _ k927) d_M_read_66 ?_
        refine va_put (D := (dC, dI)) (ci := 9) (v := .long 4294967295) (ty := .long) (C := "RangeCodersModel") (T := T_M) (N := 35) hx hb hg in_M t_M o_M n_M hown hK hP hD hS 0 rfl rfl 28 (by decide) (hg _ k980) (fun _ h9 => h9) rfl (o_M 28 (by decide)) rfl rfl (Nat.le_of_ble_eq_true rfl) d_M_read_69 (fun H locs hP hD hS => ?_)
        have hPD : my_PD (dC, dI) vwCl A [(o, Sum.inr (9, mO g 4 fShift fModels fItems fEnded fLow fRange fCache fPend fGoes fOuts (nI is.length) 1 0 0 0 0 0 0 4294967295 fX fWrites 0)), ((g 0), Sum.inl (cI, 8, Sum.inl vMany)), ((g 1), Sum.inl (cI, 512, Sum.inl vCounts)), ((g 3), Sum.inl (cI, 512, Sum.inl fN)), ((g 8), Sum.inl (cI, 6000, Sum.inl vIn))] H := ⟨hP, hD⟩
        have hP := hPD.1
        have hD := hPD.2
        refine lv_aload_n hx hb d_M_read_72 rfl (lv_at hl 1 rfl) ?_
        refine lv_lconst (v := 0) hx hb d_M_read_73 (by decide) ?_
        refine va_put (D := (dC, dI)) (ci := 9) (v := .long 0) (ty := .long) (C := "RangeCodersModel") (T := T_M) (N := 35) hx hb hg in_M t_M o_M n_M hown hK hP hD hS 0 rfl rfl 29 (by decide) (hg _ k981) (fun _ h9 => h9) rfl (o_M 29 (by decide)) rfl rfl (Nat.le_of_ble_eq_true rfl) d_M_read_74 (fun H locs hP hD hS => ?_)
        have hPD : my_PD (dC, dI) vwCl A [(o, Sum.inr (9, mO g 4 fShift fModels fItems fEnded fLow fRange fCache fPend fGoes fOuts (nI is.length) 1 0 0 0 0 0 0 4294967295 0 fWrites 0)), ((g 0), Sum.inl (cI, 8, Sum.inl vMany)), ((g 1), Sum.inl (cI, 512, Sum.inl vCounts)), ((g 3), Sum.inl (cI, 512, Sum.inl fN)), ((g 8), Sum.inl (cI, 6000, Sum.inl vIn))] H := ⟨hP, hD⟩
        have hP := hPD.1
        have hD := hPD.2
        refine lv_aload_n hx hb d_M_read_77 rfl (lv_at hl 1 rfl) ?_
        refine va_get (D := (dC, dI)) (ci := 9) (v := .int 4) (C := "RangeCodersModel") (T := T_M) (N := 35) hx hb hg in_M hown hK hP 0 rfl rfl 0 (by decide) (hg _ k952) (fun _ h9 => h9) rfl d_M_read_78 ?_
        refine lv_iconst (v := 3) hx hb d_M_read_81 (by decide) ?_
        refine lv_icmp_ge (tgt := 96) hx hb d_M_read_82 (by decide) (fun c_2 => ?_) (fun c_2 => ?_)
        · refine lv_aload_n hx hb d_M_read_96 rfl (lv_at hl 1 rfl) ?_
          refine va_get (D := (dC, dI)) (ci := 9) (v := .int 4) (C := "RangeCodersModel") (T := T_M) (N := 35) hx hb hg in_M hown hK hP 0 rfl rfl 0 (by decide) (hg _ k952) (fun _ h9 => h9) rfl d_M_read_97 ?_
          refine lv_iconst (v := 3) hx hb d_M_read_100 (by decide) ?_
          refine lv_icmp_ne (tgt := 135) hx hb d_M_read_101 (by decide) (fun c_3 => ?_) (fun c_3 => ?_)
          · refine lv_aload_n hx hb d_M_read_135 rfl (lv_at hl 1 rfl) ?_
            refine lv_lconst (v := 1) hx hb d_M_read_136 (by decide) ?_
            refine va_put (D := (dC, dI)) (ci := 9) (v := .long 1) (ty := .long) (C := "RangeCodersModel") (T := T_M) (N := 35) hx hb hg in_M t_M o_M n_M hown hK hP hD hS 0 rfl rfl 29 (by decide) (hg _ k981) (fun _ h9 => h9) rfl (o_M 29 (by decide)) rfl rfl (Nat.le_of_ble_eq_true rfl) d_M_read_137 (fun H locs hP hD hS => ?_)
            have hPD : my_PD (dC, dI) vwCl A [(o, Sum.inr (9, mO g 4 fShift fModels fItems fEnded fLow fRange fCache fPend fGoes fOuts (nI is.length) 1 0 0 0 0 0 0 4294967295 1 fWrites 0)), ((g 0), Sum.inl (cI, 8, Sum.inl vMany)), ((g 1), Sum.inl (cI, 512, Sum.inl vCounts)), ((g 3), Sum.inl (cI, 512, Sum.inl fN)), ((g 8), Sum.inl (cI, 6000, Sum.inl vIn))] H := ⟨hP, hD⟩
            have hP := hPD.1
            have hD := hPD.2
            refine lv_iconst (v := 0) hx hb d_M_read_140 (by decide) ?_
            refine lv_istore_n (lv' := [(1, Value.int 0), (0, Value.ref o)]) hx hb d_M_read_141 rfl hl (by decide) rfl (fun ls hl => ?_)
            have J_142 : ∀ (n9_142 : Nat) (kk : Nat) (X9 : Nat) (hn9_142 : 9 - kk = n9_142) (hkk : kk ≤ 9) (hX0 : 2 ^ kk ≤ X9) (hX1 : X9 < 2 ^ (kk + 1)) (hXb : X9 = 2 ^ kk + bbN is 0 kk) (H : Heap) (locs : List Loc) (ls : Array Slot), va_P (dC, dI) vwCl [(o, Sum.inr (9, mO g 4 fShift fModels fItems fEnded fLow fRange fCache fPend fGoes fOuts (nI is.length) 1 0 0 (nI ((kk + 7) / 8)) (nI kk) 0 0 4294967295 (lN X9) fWrites 0)), ((g 0), Sum.inl (cI, 8, Sum.inl vMany)), ((g 1), Sum.inl (cI, 512, Sum.inl vCounts)), ((g 3), Sum.inl (cI, 512, Sum.inl fN)), ((g 8), Sum.inl (cI, 6000, Sum.inl vIn))] H → va_D A [(o, Sum.inr (9, mO g 4 fShift fModels fItems fEnded fLow fRange fCache fPend fGoes fOuts (nI is.length) 1 0 0 (nI ((kk + 7) / 8)) (nI kk) 0 0 4294967295 (lN X9) fWrites 0)), ((g 0), Sum.inl (cI, 8, Sum.inl vMany)), ((g 1), Sum.inl (cI, 512, Sum.inl vCounts)), ((g 3), Sum.inl (cI, 512, Sum.inl fN)), ((g 8), Sum.inl (cI, 6000, Sum.inl vIn))] → va_S A s.heap H locs → lv_has ls 2 [(1, Value.int (nI kk)), (0, Value.ref o)] → W p l e R s m args below meth c H locs 0 0 Q (F0 m 142 ls []) := by
              intro n9_142
              induction n9_142 using Nat.strongRecOn with
              | ind n9_142 ih9_142 =>
                intro kk X9 hn9_142 hkk hX0 hX1 hXb H locs ls hP hD hS hl
                refine lv_iload_n hx hb d_M_read_142 rfl (lv_at hl 0 rfl) ?_
                refine lv_bipush (v := 9) hx hb d_M_read_143 (by decide) ?_
                refine lv_icmp_ge (tgt := 172) hx hb d_M_read_145 (by decide) (fun c_4 => ?_) (fun c_4 => ?_)
                · have hk9 : kk = 9 := by have := (nI_cmp (a := 9) (b := kk) (by decide) (by omega)).mp c_4; omega
                  subst hk9
                  refine lv_aload_n hx hb d_M_read_172 rfl (lv_at hl 1 rfl) ?_
                  refine va_get (D := (dC, dI)) (ci := 9) (v := .int (nI is.length)) (C := "RangeCodersModel") (T := T_M) (N := 35) hx hb hg in_M hown hK hP 0 rfl rfl 20 (by decide) (hg _ k972) (fun _ h9 => h9) rfl d_M_read_173 ?_
                  exact my_iret (v := (nI is.length)) hx hb hr (rfl) hlocks hQ hK hS (Nat.le_refl _) (Nat.le_refl _) ((1 : Int32), (0 : Int32), (0 : Int32), nI ((9 + 7) / 8), nI 9, (0 : Int64), (0 : Int64), (4294967295 : Int64), lN X9, (0 : Int32), fN) (⟨hT9, ⟨by rw [hXb], rfl, rfl, rfl⟩, rfl, rfl⟩) (hP.sub [0, 1, 2, 3, 4] rfl) (hD.sub [0, 1, 2, 3, 4] (by decide +kernel) rfl) d_M_read_176
                · have hkl : kk < 9 := by
                    rcases Nat.lt_or_ge kk 9 with z | z
                    · exact z
                    · exact absurd (nI_le (a := 9) z (by omega)) c_4
                  have hX5 : X9 < 1024 := Nat.lt_of_lt_of_le hX1 (Nat.le_trans (Nat.pow_le_pow_right (by decide) (show kk + 1 ≤ 10 by omega)) (by decide))
                  have hbi := biA_lt is kk
                  refine lv_aload_n hx hb d_M_read_148 rfl (lv_at hl 1 rfl) ?_
                  refine lv_ldc2 (v := 2) hx hb hown (hg _ k1169) d_M_read_149 ?_
                  refine lv_aload_n hx hb d_M_read_152 rfl (lv_at hl 1 rfl) ?_
                  refine va_get (D := (dC, dI)) (ci := 9) (v := .long (lN X9)) (C := "RangeCodersModel") (T := T_M) (N := 35) hx hb hg in_M hown hK hP 0 rfl rfl 29 (by decide) (hg _ k981) (fun _ h9 => h9) rfl d_M_read_153 ?_
                  refine lv_lmul hx hb d_M_read_156 ?_
                  refine lv_topl (fun v_5 ev_5 => ?_)
                  have z9 : v_5 = lN (2 * X9) := by rw [ev_5]; exact lN_mul 2 X9
                  subst z9
                  refine lv_aload_n hx hb d_M_read_157 rfl (lv_at hl 1 rfl) ?_
                  refine my_ci (wr := [((g 0), Sum.inl (cI, 8, Sum.inl vMany)), ((g 1), Sum.inl (cI, 512, Sum.inl vCounts)), ((g 3), Sum.inl (cI, 512, Sum.inl fN))]) (va_runV (As := []) (rest := [Value.long (lN (2 * X9)), Value.ref o]) ⟨hx, hb, hml, hown, hts⟩ (c_M_nextBit l dC dI cI cM cO H.size o g 4 fShift fModels fItems fEnded fLow fRange fCache fPend fGoes fOuts 1 0 0 0 0 4294967295 (lN X9) fWrites 0 vIn is kk (nI ((kk + 7) / 8)) (hIn) (hlen) (hoct) (by omega)) (cwV 0 hts (my_gV k1198 k1200 ks46 k12 k1201) rfl rfl rfl cu_M_nextBit_0 ⟨by rw [hR]; exact Nat.le_of_ble_eq_true rfl, by rw [hR]; exact Nat.le_of_ble_eq_true rfl⟩) (my_preV hK hN (hP.sub [0, 4] rfl) (hD.sub [0, 4] (by decide +kernel) rfl) 0 rfl rfl) rfl rfl hl.1 rfl (lv_room (Nat.le_of_ble_eq_true rfl)) d_M_read_158 ⟨by rw [hR]; exact Nat.le_of_ble_eq_true rfl, by rw [hR]; exact Nat.le_of_ble_eq_true rfl⟩) hP hD hS hA [0, 4] [1, 2, 3] rfl rfl (by decide +kernel) (by decide +kernel) (fun r_158 u9 H locs hw_158 hP hD hS => ?_)
                  have hw_158 : r_158 = nI (biA is kk) := hw_158
                  have hPD : my_PD (dC, dI) vwCl A [((g 0), Sum.inl (cI, 8, Sum.inl vMany)), ((g 1), Sum.inl (cI, 512, Sum.inl vCounts)), ((g 3), Sum.inl (cI, 512, Sum.inl fN)), (o, Sum.inr (9, mO g 4 fShift fModels fItems fEnded fLow fRange fCache fPend fGoes fOuts (nI is.length) 1 0 0 (nI ((kk + 8) / 8)) (nI (kk + 1)) 0 0 4294967295 (lN X9) fWrites 0)), ((g 8), Sum.inl (cI, 6000, Sum.inl vIn))] H := ⟨hP, hD⟩
                  have hP := hPD.1
                  have hD := hPD.2
                  refine lv_i2l hx hb d_M_read_161 rfl ?_
                  refine lv_topl (fun v_6 ev_6 => ?_)
                  have z9 : v_6 = lN (biA is kk) := by rw [ev_6, hw_158]; exact nI_l (by omega)
                  subst z9
                  refine lv_ladd hx hb d_M_read_162 ?_
                  refine lv_topl (fun v_7 ev_7 => ?_)
                  have z9 : v_7 = lN (2 * X9 + biA is kk) := by rw [ev_7]; exact lN_add _ _
                  subst z9
                  refine va_put (D := (dC, dI)) (ci := 9) (v := .long (lN (2 * X9 + biA is kk))) (ty := .long) (C := "RangeCodersModel") (T := T_M) (N := 35) hx hb hg in_M t_M o_M n_M hown hK hP hD hS 3 rfl rfl 29 (by decide) (hg _ k981) (fun _ h9 => h9) rfl (o_M 29 (by decide)) rfl rfl (Nat.le_of_ble_eq_true rfl) d_M_read_163 (fun H locs hP hD hS => ?_)
                  have hPD : my_PD (dC, dI) vwCl A [((g 0), Sum.inl (cI, 8, Sum.inl vMany)), ((g 1), Sum.inl (cI, 512, Sum.inl vCounts)), ((g 3), Sum.inl (cI, 512, Sum.inl fN)), (o, Sum.inr (9, mO g 4 fShift fModels fItems fEnded fLow fRange fCache fPend fGoes fOuts (nI is.length) 1 0 0 (nI ((kk + 8) / 8)) (nI (kk + 1)) 0 0 4294967295 (lN (2 * X9 + biA is kk)) fWrites 0)), ((g 8), Sum.inl (cI, 6000, Sum.inl vIn))] H := ⟨hP, hD⟩
                  have hP := hPD.1
                  have hD := hPD.2
                  obtain ⟨v_8, ev_8⟩ : ∃ y : Int32, y = (nI kk) + (1) := ⟨_, rfl⟩
                  refine lv_iinc (v := v_8) (lv' := [(1, Value.int v_8), (0, Value.ref o)]) hx hb d_M_read_166 hl (k := 0) rfl (by rw [ev_8]; rfl) (by decide) rfl (fun ls hl => ?_)
                  have z9 : v_8 = nI (kk + 1) := by rw [ev_8]; exact nI_1 _
                  subst z9
                  refine lv_goto (tgt := 142) hx hb d_M_read_169 (by decide) ?_
                  exact ih9_142 _ (by first | omega | (omega)) (kk + 1) (2 * X9 + biA is kk) rfl (by omega) (by rw [Nat.pow_succ]; omega) (by have := biA_lt is kk; rw [Nat.pow_succ]; omega) (by rw [hXb, bbN, Nat.pow_succ, Nat.zero_add]; omega) H locs ls (hP.sub [3, 0, 1, 2, 4] rfl) (hD.sub [3, 0, 1, 2, 4] (by decide +kernel) rfl) hS (lv_sub hl [0, 1] rfl)
            exact J_142 _ (0 : Nat) (1 : Nat) rfl (by decide) (by decide) (by decide) (rfl) H locs ls (hP.sub [0, 1, 2, 3, 4] rfl) (hD.sub [0, 1, 2, 3, 4] (by decide +kernel) rfl) hS (lv_sub hl [0, 1] rfl)
          · exact absurd c_3 (by decide)
        · exact absurd (by decide) c_2
      · have hjl : jj < km := by
          rcases Nat.lt_or_ge jj km with z | z
          · exact z
          · exact absurd (by rw [hmod]; exact nI_le z (by have := hMD.1; omega)) c_1
        have hk8 := hMD.1
        obtain ⟨hn9, hn2, hn64, C9, hc9, hB9⟩ := hMD.2 jj hjl
        have hCC := MD_C hMD hjl
        refine lv_aload_n hx hb d_M_read_15 rfl (lv_at hl 1 rfl) ?_
        refine lv_aload_n hx hb d_M_read_16 rfl (lv_at hl 1 rfl) ?_
        refine va_get (D := (dC, dI)) (ci := 9) (v := .ref (g 3)) (C := "RangeCodersModel") (T := T_M) (N := 35) hx hb hg in_M hown hK hP 0 rfl rfl 6 (by decide) (hg _ k958) (fun _ h9 => h9) rfl d_M_read_17 ?_
        refine lv_iload_n hx hb d_M_read_20 rfl (lv_at hl 0 rfl) ?_
        refine my_cv (wr := [((g 8), Sum.inl (cI, 6000, Sum.inl vIn))]) (va_runV (As := [Value.ref (g 3), Value.int (nI jj)]) (rest := []) ⟨hx, hb, hml, hown, hts⟩ (c_M_prepare l dC dI cI cM cO H.size o g 4 fShift fModels fItems fEnded fLow fRange fCache fPend fGoes fOuts (nI is.length) fReads fBad fIR fAsk fBAsk fCode fRL fRR fX fWrites 0 vMany vCounts (g 3) fN jj (N jj) 4 (Fvw vCounts jj) (by omega) (hn9) (hn64) (by omega) (by decide) (by rfl) (hCC.1) (hCC.2)) (cwV 2 hts (my_gV k928 k930 ks19 k12 k931) rfl rfl rfl cu_M_prepare_2 ⟨by rw [hR]; exact Nat.le_of_ble_eq_true rfl, by rw [hR]; exact Nat.le_of_ble_eq_true rfl⟩) (my_preV hK hN (hP.sub [0, 1, 2, 3] rfl) (hD.sub [0, 1, 2, 3] (by decide +kernel) rfl) 0 rfl rfl) rfl rfl hl.1 rfl (lv_room (Nat.le_of_ble_eq_true rfl)) d_M_read_21 ⟨by rw [hR]; exact Nat.le_of_ble_eq_true rfl, by rw [hR]; exact Nat.le_of_ble_eq_true rfl⟩) hP hD hS hA [0, 1, 2, 3] [4] rfl rfl (by decide +kernel) (by decide +kernel) (fun u9 H locs hw_21 hP hD hS => ?_)
        obtain ⟨f2_21, rfl⟩ : ∃ z, z = u9 := ⟨_, rfl⟩
        have hw_21 : sgI f2_21 (64 * jj) (pfN 4 (N jj)) (pf 4 (N jj) (Fvw vCounts jj)) ∧ sgO f2_21 fN (64 * jj) 64 := hw_21
        have hPD : my_PD (dC, dI) vwCl A [((g 8), Sum.inl (cI, 6000, Sum.inl vIn)), (o, Sum.inr (9, mO g 4 fShift fModels fItems fEnded fLow fRange fCache fPend fGoes fOuts (nI is.length) fReads fBad fIR fAsk fBAsk fCode fRL fRR fX fWrites 0)), ((g 0), Sum.inl (cI, 8, Sum.inl vMany)), ((g 1), Sum.inl (cI, 512, Sum.inl vCounts)), ((g 3), Sum.inl (cI, 512, Sum.inl f2_21))] H := ⟨hP, hD⟩
        have hP := hPD.1
        have hD := hPD.2
        have hT8 := pfA_st hT9 (MD_N hMD) hjl hw_21.2 hw_21.1
        obtain ⟨v_9, ev_9⟩ : ∃ y : Int32, y = (nI jj) + (1) := ⟨_, rfl⟩
        refine lv_iinc (v := v_9) (lv' := [(1, Value.int v_9), (0, Value.ref o)]) hx hb d_M_read_24 hl (k := 0) rfl (by rw [ev_9]; rfl) (by decide) rfl (fun ls hl => ?_)
        have z9 : v_9 = nI (jj + 1) := by rw [ev_9]; exact nI_1 _
        subst z9
        refine lv_goto (tgt := 7) hx hb d_M_read_27 (by decide) ?_
        exact ih9_7 _ (by first | omega | (omega)) (jj + 1) f2_21 rfl (by omega) (hT8) H locs ls (hP.sub [1, 2, 3, 4, 0] rfl) (hD.sub [1, 2, 3, 4, 0] (by decide +kernel) rfl) hS (lv_sub hl [0, 1] rfl)
  exact J_7 _ (0 : Nat) vThen rfl (Nat.zero_le _) (pfA_0 _ _ _ _) H locs ls (hP.sub [0, 1, 2, 3, 4] rfl) (hD.sub [0, 1, 2, 3, 4] (by decide +kernel) rfl) hS (lv_sub hl [0, 1] rfl)
end
section
set_option maxHeartbeats 2000000 in
set_option maxRecDepth 100000 in
theorem f_RC_itemOk (l : Launch) (dC : Nat → ClassId) (dI : Nat → Nat → Nat) (cI cM cO : ClassId) (sz : Nat) (rc : Nat) (ma : Nat) (k : Nat) (fit : Int32) (fen : Int32) (frd : Int32) (fbd : Int32) (fir : Int32) (mf : Nat → Option Nat) (co : Nat) (s9 : Nat) (hs9 : s9 < 2147483648) : MetI l y_RC_itemOrBad (Cond.code y_RC_itemOrBad prog_1_method_21_code 2 (some .int) :: gw) ({ frames := 0, cells := 0, slots := 0, locals := 0 } : Room) (dC, dI) vwCl (kT cI cM cO) [Value.ref rc, Value.int (nI s9)] [(rc, Sum.inr (6, [Value.ref co, Value.ref ma, Value.int (nI k), Value.int fit, Value.int fen, Value.int frd, Value.int fbd, Value.int fir]))] sz (fun (r : Int32) (u : Unit) => r = nI s9) (fun (u : Unit) => [(rc, Sum.inr (6, [Value.ref co, Value.ref ma, Value.int (nI k), Value.int fit, Value.int fen, Value.int frd, Value.int fbd, Value.int (fir + 1)]))]) 0 0 := by
  refine my_ofI (cc := prog_1_method_21_code) (n := 2) (ret := (some .int)) (by decide) rfl (Nat.le_of_ble_eq_true rfl) ?_
  intro p e s m args below meth c R Q A ls H locs hx hb hr hts hown hlocks hml hnm hR hQ hA hl hP hK hN hD hS
  have hg : ∀ w ∈ gw, w.before args s = true := fun w h => hts w (List.mem_cons_of_mem _ h)
  have hown : s.vm.findClass "RangeCoders" = some m.cls := hown
  have hl : lv_has ls 2 [(0, Value.ref rc), (1, Value.int (nI s9))] := hl
  refine lv_iload_n hx hb d_RC_itemOrBad_0 rfl (lv_at hl 1 rfl) ?_
  refine lv_iconst (v := (-1)) hx hb d_RC_itemOrBad_1 (by decide) ?_
  refine lv_icmp_ne (tgt := 13) hx hb d_RC_itemOrBad_2 (by decide) (fun c_1 => ?_) (fun c_1 => ?_)
  · refine lv_aload_n hx hb d_RC_itemOrBad_13 rfl (lv_at hl 0 rfl) ?_
    refine lv_dup hx hb d_RC_itemOrBad_14 rfl ?_
    refine va_get (D := (dC, dI)) (ci := 6) (v := .int fir) (C := "RangeCoders") (T := T_RC) (N := 8) hx hb hg in_RC hown hK hP 0 rfl rfl 7 (by decide) (hg _ k265) (fun _ h9 => h9) rfl d_RC_itemOrBad_15 ?_
    refine lv_iconst (v := 1) hx hb d_RC_itemOrBad_18 (by decide) ?_
    refine lv_iadd hx hb d_RC_itemOrBad_19 ?_
    refine lv_topi (fun v_2 ev_2 => ?_)
    have z9 : v_2 = fir + 1 := by rw [ev_2]
    subst z9
    refine va_put (D := (dC, dI)) (ci := 6) (v := .int (fir + 1)) (ty := .int) (C := "RangeCoders") (T := T_RC) (N := 8) hx hb hg in_RC t_RC o_RC n_RC hown hK hP hD hS 0 rfl rfl 7 (by decide) (hg _ k265) (fun _ h9 => h9) rfl (o_RC 7 (by decide)) rfl rfl (Nat.le_of_ble_eq_true rfl) d_RC_itemOrBad_20 (fun H locs hP hD hS => ?_)
    have hPD : my_PD (dC, dI) vwCl A [(rc, Sum.inr (6, [Value.ref co, Value.ref ma, Value.int (nI k), Value.int fit, Value.int fen, Value.int frd, Value.int fbd, Value.int (fir + 1)]))] H := ⟨hP, hD⟩
    have hP := hPD.1
    have hD := hPD.2
    refine lv_iload_n hx hb d_RC_itemOrBad_23 rfl (lv_at hl 1 rfl) ?_
    exact my_iret (v := nI s9) hx hb hr (rfl) hlocks hQ hK hS (Nat.le_refl _) (Nat.le_refl _) () (rfl) (hP.sub [0] rfl) (hD.sub [0] (by decide +kernel) rfl) d_RC_itemOrBad_24
  · exact absurd c_1 (nI_nm1 hs9)
set_option maxHeartbeats 2000000 in
set_option maxRecDepth 100000 in
theorem f_RC_itemBad (l : Launch) (dC : Nat → ClassId) (dI : Nat → Nat → Nat) (cI cM cO : ClassId) (sz : Nat) (rc : Nat) (ma : Nat) (k : Nat) (fit : Int32) (fen : Int32) (frd : Int32) (fbd : Int32) (fir : Int32) (mf : Nat → Option Nat) (co : Nat) : MetI l y_RC_itemOrBad (Cond.code y_RC_itemOrBad prog_1_method_21_code 2 (some .int) :: gw) ({ frames := 0, cells := 0, slots := 0, locals := 0 } : Room) (dC, dI) vwCl (kT cI cM cO) [Value.ref rc, Value.int (-1)] [(rc, Sum.inr (6, [Value.ref co, Value.ref ma, Value.int (nI k), Value.int fit, Value.int fen, Value.int frd, Value.int fbd, Value.int fir]))] sz (fun (r : Int32) (u : Unit) => r = -5) (fun (u : Unit) => [(rc, Sum.inr (6, [Value.ref co, Value.ref ma, Value.int (nI k), Value.int fit, Value.int fen, Value.int frd, Value.int 1, Value.int fir]))]) 0 0 := by
  refine my_ofI (cc := prog_1_method_21_code) (n := 2) (ret := (some .int)) (by decide) rfl (Nat.le_of_ble_eq_true rfl) ?_
  intro p e s m args below meth c R Q A ls H locs hx hb hr hts hown hlocks hml hnm hR hQ hA hl hP hK hN hD hS
  have hg : ∀ w ∈ gw, w.before args s = true := fun w h => hts w (List.mem_cons_of_mem _ h)
  have hown : s.vm.findClass "RangeCoders" = some m.cls := hown
  have hl : lv_has ls 2 [(0, Value.ref rc), (1, Value.int (-1))] := hl
  refine lv_iload_n hx hb d_RC_itemOrBad_0 rfl (lv_at hl 1 rfl) ?_
  refine lv_iconst (v := (-1)) hx hb d_RC_itemOrBad_1 (by decide) ?_
  refine lv_icmp_ne (tgt := 13) hx hb d_RC_itemOrBad_2 (by decide) (fun c_1 => ?_) (fun c_1 => ?_)
  · exact absurd rfl c_1
  · refine lv_aload_n hx hb d_RC_itemOrBad_5 rfl (lv_at hl 0 rfl) ?_
    refine lv_iconst (v := 1) hx hb d_RC_itemOrBad_6 (by decide) ?_
    refine va_put (D := (dC, dI)) (ci := 6) (v := .int 1) (ty := .boolean) (C := "RangeCoders") (T := T_RC) (N := 8) hx hb hg in_RC t_RC o_RC n_RC hown hK hP hD hS 0 rfl rfl 6 (by decide) (hg _ k264) (fun _ h9 => h9) rfl (o_RC 6 (by decide)) rfl rfl (Nat.le_of_ble_eq_true rfl) d_RC_itemOrBad_7 (fun H locs hP hD hS => ?_)
    have hPD : my_PD (dC, dI) vwCl A [(rc, Sum.inr (6, [Value.ref co, Value.ref ma, Value.int (nI k), Value.int fit, Value.int fen, Value.int frd, Value.int 1, Value.int fir]))] H := ⟨hP, hD⟩
    have hP := hPD.1
    have hD := hPD.2
    refine lv_bipush (v := (-5)) hx hb d_RC_itemOrBad_10 (by decide) ?_
    exact my_iret (v := (-5)) hx hb hr (rfl) hlocks hQ hK hS (Nat.le_refl _) (Nat.le_refl _) () (rfl) (hP.sub [0] rfl) (hD.sub [0] (by decide +kernel) rfl) d_RC_itemOrBad_12
set_option maxHeartbeats 2000000 in
set_option maxRecDepth 100000 in
theorem f_RC_getA (l : Launch) (dC : Nat → ClassId) (dI : Nat → Nat → Nat) (cI cM cO : ClassId) (sz : Nat) (rc : Nat) (ma : Nat) (k : Nat) (fit : Int32) (fen : Int32) (frd : Int32) (fbd : Int32) (fir : Int32) (mf : Nat → Option Nat) (co : Nat) (mm : Int32) (hbad : mm < 0 ∨ nI k ≤ mm) : MetI l y_RC_get (Cond.code y_RC_get prog_1_method_13_code 3 (some .int) :: gw) ({ frames := 1, cells := 0, slots := 0, locals := 21 } : Room) (dC, dI) vwCl (kT cI cM cO) [Value.ref rc, Value.int mm] [(rc, Sum.inr (6, [Value.ref co, Value.ref ma, Value.int (nI k), Value.int fit, Value.int fen, Value.int frd, Value.int fbd, Value.int fir])), (ma, Sum.inl (cM, 8, Sum.inr (Sum.inr (Sum.inr (Sum.inr mf)))))] sz (fun (r : Int32) (u : Unit) => r = -1) (fun (u : Unit) => [(rc, Sum.inr (6, [Value.ref co, Value.ref ma, Value.int (nI k), Value.int fit, Value.int fen, Value.int frd, Value.int fbd, Value.int fir])), (ma, Sum.inl (cM, 8, Sum.inr (Sum.inr (Sum.inr (Sum.inr mf)))))]) 0 0 := by
  refine my_ofI (cc := prog_1_method_13_code) (n := 3) (ret := (some .int)) (by decide) rfl (Nat.le_of_ble_eq_true rfl) ?_
  intro p e s m args below meth c R Q A ls H locs hx hb hr hts hown hlocks hml hnm hR hQ hA hl hP hK hN hD hS
  have hg : ∀ w ∈ gw, w.before args s = true := fun w h => hts w (List.mem_cons_of_mem _ h)
  have hown : s.vm.findClass "RangeCoders" = some m.cls := hown
  have hl : lv_has ls 3 [(0, Value.ref rc), (1, Value.int mm)] := hl
  refine lv_aload_n hx hb d_RC_get_0 rfl (lv_at hl 0 rfl) ?_
  refine lv_iload_n hx hb d_RC_get_1 rfl (lv_at hl 1 rfl) ?_
  refine my_cq (wr := []) (va_runV (As := [Value.int mm]) (rest := []) ⟨hx, hb, hml, hown, hts⟩ (c_RC_modelAtA l dC dI cI cM cO H.size rc ma k fit fen frd fbd fir mf co mm (by first | assumption | omega)) (cwV 1 hts (my_gV k412 k414 ks3 k1 k415) rfl rfl rfl cu_RC_modelAt_1 ⟨by rw [hR]; exact Nat.le_of_ble_eq_true rfl, by rw [hR]; exact Nat.le_of_ble_eq_true rfl⟩) (my_preV hK hN (hP.sub [0, 1] rfl) (hD.sub [0, 1] (by decide +kernel) rfl) 0 rfl rfl) rfl rfl hl.1 rfl (lv_room (Nat.le_of_ble_eq_true rfl)) d_RC_get_2 ⟨by rw [hR]; exact Nat.le_of_ble_eq_true rfl, by rw [hR]; exact Nat.le_of_ble_eq_true rfl⟩) hP hD hS hA [0, 1] [] rfl rfl (by decide +kernel) (by decide +kernel) (fun r_2 u9 H locs hw_2 hP hD hS => ?_)
  have hr_2 : r_2 = none := hw_2
  have hPD : my_PD (dC, dI) vwCl A [(rc, Sum.inr (6, [Value.ref co, Value.ref ma, Value.int (nI k), Value.int fit, Value.int fen, Value.int frd, Value.int fbd, Value.int fir])), (ma, Sum.inl (cM, 8, Sum.inr (Sum.inr (Sum.inr (Sum.inr mf)))))] H := ⟨hP, hD⟩
  have hP := hPD.1
  have hD := hPD.2
  subst hr_2
  refine W.eq (g2 := F0 m 5 ls [Value.null]) rfl ?_
  refine lv_astore_nN (lv' := [(2, Value.null), (0, Value.ref rc), (1, Value.int mm)]) hx hb d_RC_get_5 rfl hl (by decide) rfl (fun ls hl => ?_)
  refine lv_aload_nN hx hb d_RC_get_6 rfl (lv_at hl 0 rfl) ?_
  refine lv_ifnonnullN hx hb d_RC_get_7 ?_
  refine lv_iconst (v := (-1)) hx hb d_RC_get_10 (by decide) ?_
  exact my_iret (v := (-1)) hx hb hr (rfl) hlocks hQ hK hS (Nat.le_refl _) (Nat.le_refl _) () (rfl) (hP.sub [0, 1] rfl) (hD.sub [0, 1] (by decide +kernel) rfl) d_RC_get_11
set_option maxHeartbeats 2000000 in
set_option maxRecDepth 100000 in
theorem f_RC_getN (l : Launch) (dC : Nat → ClassId) (dI : Nat → Nat → Nat) (cI cM cO : ClassId) (sz : Nat) (rc : Nat) (ma : Nat) (k : Nat) (fit : Int32) (fen : Int32) (frd : Int32) (fbd : Int32) (fir : Int32) (mf : Nat → Option Nat) (co : Nat) (j : Nat) (mo : Nat) (hk8 : k ≤ 8) (hj : j < k) (hmf : mf j = some mo) (hrd : frd = 0) : MetI l y_RC_get (Cond.code y_RC_get prog_1_method_13_code 3 (some .int) :: gw) ({ frames := 1, cells := 0, slots := 0, locals := 21 } : Room) (dC, dI) vwCl (kT cI cM cO) [Value.ref rc, Value.int (nI j)] [(rc, Sum.inr (6, [Value.ref co, Value.ref ma, Value.int (nI k), Value.int fit, Value.int fen, Value.int frd, Value.int fbd, Value.int fir])), (ma, Sum.inl (cM, 8, Sum.inr (Sum.inr (Sum.inr (Sum.inr mf)))))] sz (fun (r : Int32) (u : Unit) => r = -3) (fun (u : Unit) => [(rc, Sum.inr (6, [Value.ref co, Value.ref ma, Value.int (nI k), Value.int fit, Value.int fen, Value.int frd, Value.int fbd, Value.int fir])), (ma, Sum.inl (cM, 8, Sum.inr (Sum.inr (Sum.inr (Sum.inr mf)))))]) 0 0 := by
  refine my_ofI (cc := prog_1_method_13_code) (n := 3) (ret := (some .int)) (by decide) rfl (Nat.le_of_ble_eq_true rfl) ?_
  intro p e s m args below meth c R Q A ls H locs hx hb hr hts hown hlocks hml hnm hR hQ hA hl hP hK hN hD hS
  have hg : ∀ w ∈ gw, w.before args s = true := fun w h => hts w (List.mem_cons_of_mem _ h)
  have hown : s.vm.findClass "RangeCoders" = some m.cls := hown
  have hl : lv_has ls 3 [(0, Value.ref rc), (1, Value.int (nI j))] := hl
  refine lv_aload_n hx hb d_RC_get_0 rfl (lv_at hl 0 rfl) ?_
  refine lv_iload_n hx hb d_RC_get_1 rfl (lv_at hl 1 rfl) ?_
  refine my_cq (wr := []) (va_runV (As := [Value.int (nI j)]) (rest := []) ⟨hx, hb, hml, hown, hts⟩ (c_RC_modelAtB l dC dI cI cM cO H.size rc ma k fit fen frd fbd fir mf co j mo (by first | assumption | omega) (by first | assumption | omega) (by first | assumption | omega)) (cwV 1 hts (my_gV k412 k414 ks3 k1 k415) rfl rfl rfl cu_RC_modelAt_1 ⟨by rw [hR]; exact Nat.le_of_ble_eq_true rfl, by rw [hR]; exact Nat.le_of_ble_eq_true rfl⟩) (my_preV hK hN (hP.sub [0, 1] rfl) (hD.sub [0, 1] (by decide +kernel) rfl) 0 rfl rfl) rfl rfl hl.1 rfl (lv_room (Nat.le_of_ble_eq_true rfl)) d_RC_get_2 ⟨by rw [hR]; exact Nat.le_of_ble_eq_true rfl, by rw [hR]; exact Nat.le_of_ble_eq_true rfl⟩) hP hD hS hA [0, 1] [] rfl rfl (by decide +kernel) (by decide +kernel) (fun r_2 u9 H locs hw_2 hP hD hS => ?_)
  have hr_2 : r_2 = some mo := hw_2
  have hPD : my_PD (dC, dI) vwCl A [(rc, Sum.inr (6, [Value.ref co, Value.ref ma, Value.int (nI k), Value.int fit, Value.int fen, Value.int frd, Value.int fbd, Value.int fir])), (ma, Sum.inl (cM, 8, Sum.inr (Sum.inr (Sum.inr (Sum.inr mf)))))] H := ⟨hP, hD⟩
  have hP := hPD.1
  have hD := hPD.2
  subst hr_2
  refine W.eq (g2 := F0 m 5 ls [Value.ref mo]) rfl ?_
  refine lv_astore_n (lv' := [(2, Value.ref mo), (0, Value.ref rc), (1, Value.int (nI j))]) hx hb d_RC_get_5 rfl hl (by decide) rfl (fun ls hl => ?_)
  refine lv_aload_n hx hb d_RC_get_6 rfl (lv_at hl 0 rfl) ?_
  refine lv_ifnonnull (tgt := 12) hx hb d_RC_get_7 (by decide) ?_
  refine lv_aload_n hx hb d_RC_get_12 rfl (lv_at hl 1 rfl) ?_
  refine va_get (D := (dC, dI)) (ci := 6) (v := .int frd) (C := "RangeCoders") (T := T_RC) (N := 8) hx hb hg in_RC hown hK hP 0 rfl rfl 5 (by decide) (hg _ k263) (fun _ h9 => h9) rfl d_RC_get_13 ?_
  refine lv_if_ne (tgt := 22) hx hb d_RC_get_16 (by decide) (fun c_1 => ?_) (fun c_1 => ?_)
  · exact absurd hrd c_1
  · refine lv_bipush (v := (-3)) hx hb d_RC_get_19 (by decide) ?_
    exact my_iret (v := (-3)) hx hb hr (rfl) hlocks hQ hK hS (Nat.le_refl _) (Nat.le_refl _) () (rfl) (hP.sub [0, 1] rfl) (hD.sub [0, 1] (by decide +kernel) rfl) d_RC_get_21
set_option maxHeartbeats 2000000 in
set_option maxRecDepth 100000 in
theorem f_RC_getB (l : Launch) (dC : Nat → ClassId) (dI : Nat → Nat → Nat) (cI cM cO : ClassId) (sz : Nat) (rc : Nat) (ma : Nat) (k : Nat) (fit : Int32) (fen : Int32) (frd : Int32) (fbd : Int32) (fir : Int32) (mf : Nat → Option Nat) (co : Nat) (j : Nat) (mo : Nat) (hk8 : k ≤ 8) (hj : j < k) (hmf : mf j = some mo) (hrd : ¬ frd = 0) (hbd : ¬ fbd = 0) : MetI l y_RC_get (Cond.code y_RC_get prog_1_method_13_code 3 (some .int) :: gw) ({ frames := 1, cells := 0, slots := 0, locals := 21 } : Room) (dC, dI) vwCl (kT cI cM cO) [Value.ref rc, Value.int (nI j)] [(rc, Sum.inr (6, [Value.ref co, Value.ref ma, Value.int (nI k), Value.int fit, Value.int fen, Value.int frd, Value.int fbd, Value.int fir])), (ma, Sum.inl (cM, 8, Sum.inr (Sum.inr (Sum.inr (Sum.inr mf)))))] sz (fun (r : Int32) (u : Unit) => r = -5) (fun (u : Unit) => [(rc, Sum.inr (6, [Value.ref co, Value.ref ma, Value.int (nI k), Value.int fit, Value.int fen, Value.int frd, Value.int fbd, Value.int fir])), (ma, Sum.inl (cM, 8, Sum.inr (Sum.inr (Sum.inr (Sum.inr mf)))))]) 0 0 := by
  refine my_ofI (cc := prog_1_method_13_code) (n := 3) (ret := (some .int)) (by decide) rfl (Nat.le_of_ble_eq_true rfl) ?_
  intro p e s m args below meth c R Q A ls H locs hx hb hr hts hown hlocks hml hnm hR hQ hA hl hP hK hN hD hS
  have hg : ∀ w ∈ gw, w.before args s = true := fun w h => hts w (List.mem_cons_of_mem _ h)
  have hown : s.vm.findClass "RangeCoders" = some m.cls := hown
  have hl : lv_has ls 3 [(0, Value.ref rc), (1, Value.int (nI j))] := hl
  refine lv_aload_n hx hb d_RC_get_0 rfl (lv_at hl 0 rfl) ?_
  refine lv_iload_n hx hb d_RC_get_1 rfl (lv_at hl 1 rfl) ?_
  refine my_cq (wr := []) (va_runV (As := [Value.int (nI j)]) (rest := []) ⟨hx, hb, hml, hown, hts⟩ (c_RC_modelAtB l dC dI cI cM cO H.size rc ma k fit fen frd fbd fir mf co j mo (by first | assumption | omega) (by first | assumption | omega) (by first | assumption | omega)) (cwV 1 hts (my_gV k412 k414 ks3 k1 k415) rfl rfl rfl cu_RC_modelAt_1 ⟨by rw [hR]; exact Nat.le_of_ble_eq_true rfl, by rw [hR]; exact Nat.le_of_ble_eq_true rfl⟩) (my_preV hK hN (hP.sub [0, 1] rfl) (hD.sub [0, 1] (by decide +kernel) rfl) 0 rfl rfl) rfl rfl hl.1 rfl (lv_room (Nat.le_of_ble_eq_true rfl)) d_RC_get_2 ⟨by rw [hR]; exact Nat.le_of_ble_eq_true rfl, by rw [hR]; exact Nat.le_of_ble_eq_true rfl⟩) hP hD hS hA [0, 1] [] rfl rfl (by decide +kernel) (by decide +kernel) (fun r_2 u9 H locs hw_2 hP hD hS => ?_)
  have hr_2 : r_2 = some mo := hw_2
  have hPD : my_PD (dC, dI) vwCl A [(rc, Sum.inr (6, [Value.ref co, Value.ref ma, Value.int (nI k), Value.int fit, Value.int fen, Value.int frd, Value.int fbd, Value.int fir])), (ma, Sum.inl (cM, 8, Sum.inr (Sum.inr (Sum.inr (Sum.inr mf)))))] H := ⟨hP, hD⟩
  have hP := hPD.1
  have hD := hPD.2
  subst hr_2
  refine W.eq (g2 := F0 m 5 ls [Value.ref mo]) rfl ?_
  refine lv_astore_n (lv' := [(2, Value.ref mo), (0, Value.ref rc), (1, Value.int (nI j))]) hx hb d_RC_get_5 rfl hl (by decide) rfl (fun ls hl => ?_)
  refine lv_aload_n hx hb d_RC_get_6 rfl (lv_at hl 0 rfl) ?_
  refine lv_ifnonnull (tgt := 12) hx hb d_RC_get_7 (by decide) ?_
  refine lv_aload_n hx hb d_RC_get_12 rfl (lv_at hl 1 rfl) ?_
  refine va_get (D := (dC, dI)) (ci := 6) (v := .int frd) (C := "RangeCoders") (T := T_RC) (N := 8) hx hb hg in_RC hown hK hP 0 rfl rfl 5 (by decide) (hg _ k263) (fun _ h9 => h9) rfl d_RC_get_13 ?_
  refine lv_if_ne (tgt := 22) hx hb d_RC_get_16 (by decide) (fun c_1 => ?_) (fun c_1 => ?_)
  · refine lv_aload_n hx hb d_RC_get_22 rfl (lv_at hl 1 rfl) ?_
    refine va_get (D := (dC, dI)) (ci := 6) (v := .int fbd) (C := "RangeCoders") (T := T_RC) (N := 8) hx hb hg in_RC hown hK hP 0 rfl rfl 6 (by decide) (hg _ k264) (fun _ h9 => h9) rfl d_RC_get_23 ?_
    refine lv_if_eq (tgt := 34) hx hb d_RC_get_26 (by decide) (fun c_2 => ?_) (fun c_2 => ?_)
    · exact absurd c_2 hbd
    · refine lv_bipush (v := (-5)) hx hb d_RC_get_29 (by decide) ?_
      refine lv_goto (tgt := 49) hx hb d_RC_get_31 (by decide) ?_
      exact my_iret (v := (-5)) hx hb hr (rfl) hlocks hQ hK hS (Nat.le_refl _) (Nat.le_refl _) () (rfl) (hP.sub [0, 1] rfl) (hD.sub [0, 1] (by decide +kernel) rfl) d_RC_get_49
  · exact absurd c_1 hrd
end
section
set_option maxHeartbeats 2000000 in
set_option maxRecDepth 100000 in
theorem f_RC_getL_Bits (l : Launch) (dC : Nat → ClassId) (dI : Nat → Nat → Nat) (cI cM cO : ClassId) (sz : Nat) (rc : Nat) (ma : Nat) (k : Nat) (fit : Int32) (fen : Int32) (frd : Int32) (fir : Int32) (mf : Nat → Option Nat) (j : Nat) (mo : Nat) (co : Nat) (ka : Nat) (o1 : Nat) (xkeptCode : Int64) (xkeptRange : Int64) (xkeptAsked : Int32) (xcache : Int32) (xpending : Int32) (xlow : Int64) (xrange : Int64) (xreadLow : Int64) (ri : Nat) (ro : Nat) (rw : Nat) (ria : Nat) (rik : Nat) (rif : Nat → Int32) (is : List Nat) (RR : Nat) (CD : Nat) (q : Nat) (oo : Nat) (ofc : Int32) (oca : Nat) (opa : Nat) (n : Nat) (ocf : Nat → Int32) (opl : Nat) (opf : Nat → Int32) (osm : Int32) (sg : Nat) (C : Nat → Nat) (sh : Nat) (lv : Nat) (s9 : Nat) (hk8 : k ≤ 8) (hj : j < k) (hmf : mf j = some mo) (hrd : ¬ frd = 0) (hri : rOk (nI is.length) rik) (hGri : gIs rif is) (hLri : is.length ≤ 6000) (hoct : oct is) (hn : n ≤ 64) (hpl : opl ≤ 512) (hs9 : 2 ≤ sg) (hs8 : sg ≤ 64) (hlv : lv = lev sg) (hnl : n = 2 ^ lv) (hofc : ofc = 1) (hf : tbI ocf n C) (hC : ∀ k, k < 64 → 1 ≤ C k ∧ C k ≤ 2047) (hs1 : 1 ≤ sh) (hs2 : sh ≤ 10) (hI : rInv (RR, CD, q)) (hq : q < 800000000) (hG : (gnS is sh sg (RR, CD, q) C).1 = some s9) (hsv9 : s9 < 2147483648) : MetI l y_RC_get (Cond.code y_RC_get prog_1_method_13_code 3 (some .int) :: gw) ({ frames := 6, cells := 0, slots := 0, locals := 133 } : Room) (dC, dI) vwCl (kT cI cM cO) [Value.ref rc, Value.int (nI j)] [(rc, Sum.inr (6, [Value.ref co, Value.ref ma, Value.int (nI k), Value.int fit, Value.int fen, Value.int frd, Value.int 0, Value.int fir])), (ma, Sum.inl (cM, 8, Sum.inr (Sum.inr (Sum.inr (Sum.inr mf))))), (mo, Sum.inr (8, [Value.ref ka, Value.ref o1, Value.ref oo])), (co, Sum.inr (3, [Value.int (nI sh), Value.long xkeptCode, Value.long xkeptRange, Value.int xkeptAsked, Value.int xcache, Value.int xpending, Value.long xlow, Value.long xrange, Value.long (lN CD), Value.long xreadLow, Value.long (lN RR), Value.ref ri, Value.ref ro, Value.ref rw, Value.int (nI q)])), (ri, Sum.inr (0, [Value.int (nI is.length), Value.ref ria])), (ria, Sum.inl (cI, rik, Sum.inl rif)), (oo, Sum.inr (7, [Value.int (nI sg), Value.int osm, Value.int ofc, Value.ref oca, Value.ref opa])), (oca, Sum.inl (cI, n, Sum.inl ocf)), (opa, Sum.inl (cI, opl, Sum.inl opf))] sz (fun (r : Int32) (u : Int64 × Int64 × Int32 × Int32 × (Nat → Int32)) => r = nI s9 ∧ (¬ (gnS is sh sg (RR, CD, q) C).1 = none → tbI u.2.2.2.2 n (gnS is sh sg (RR, CD, q) C).2.2)) (fun (u : Int64 × Int64 × Int32 × Int32 × (Nat → Int32)) => [(rc, Sum.inr (6, [Value.ref co, Value.ref ma, Value.int (nI k), Value.int fit, Value.int fen, Value.int frd, Value.int 0, Value.int (fir + 1)])), (ma, Sum.inl (cM, 8, Sum.inr (Sum.inr (Sum.inr (Sum.inr mf))))), (mo, Sum.inr (8, [Value.ref ka, Value.ref o1, Value.ref oo])), (co, Sum.inr (3, [Value.int (nI sh), Value.long u.1, Value.long u.2.1, Value.int u.2.2.1, Value.int xcache, Value.int xpending, Value.long xlow, Value.long xrange, Value.long (lN (cbR (gnS is sh sg (RR, CD, q) C).1 (RR, CD, q) (gnS is sh sg (RR, CD, q) C).2.1).2.1), Value.long xreadLow, Value.long (lN (cbR (gnS is sh sg (RR, CD, q) C).1 (RR, CD, q) (gnS is sh sg (RR, CD, q) C).2.1).1), Value.ref ri, Value.ref ro, Value.ref rw, Value.int (nI (cbR (gnS is sh sg (RR, CD, q) C).1 (RR, CD, q) (gnS is sh sg (RR, CD, q) C).2.1).2.2)])), (ri, Sum.inr (0, [Value.int (nI is.length), Value.ref ria])), (ria, Sum.inl (cI, rik, Sum.inl rif)), (oo, Sum.inr (7, [Value.int (nI sg), Value.int u.2.2.2.1, Value.int ofc, Value.ref oca, Value.ref opa])), (oca, Sum.inl (cI, n, Sum.inl u.2.2.2.2)), (opa, Sum.inl (cI, opl, Sum.inl opf))]) 0 0 := by
  refine my_ofI (cc := prog_1_method_13_code) (n := 3) (ret := (some .int)) (by decide) rfl (Nat.le_of_ble_eq_true rfl) ?_
  intro p e s m args below meth c R Q A ls H locs hx hb hr hts hown hlocks hml hnm hR hQ hA hl hP hK hN hD hS
  have hg : ∀ w ∈ gw, w.before args s = true := fun w h => hts w (List.mem_cons_of_mem _ h)
  have hown : s.vm.findClass "RangeCoders" = some m.cls := hown
  have hl : lv_has ls 3 [(0, Value.ref rc), (1, Value.int (nI j))] := hl
  refine lv_aload_n hx hb d_RC_get_0 rfl (lv_at hl 0 rfl) ?_
  refine lv_iload_n hx hb d_RC_get_1 rfl (lv_at hl 1 rfl) ?_
  refine my_cq (wr := [(mo, Sum.inr (8, [Value.ref ka, Value.ref o1, Value.ref oo])), (co, Sum.inr (3, [Value.int (nI sh), Value.long xkeptCode, Value.long xkeptRange, Value.int xkeptAsked, Value.int xcache, Value.int xpending, Value.long xlow, Value.long xrange, Value.long (lN CD), Value.long xreadLow, Value.long (lN RR), Value.ref ri, Value.ref ro, Value.ref rw, Value.int (nI q)])), (ri, Sum.inr (0, [Value.int (nI is.length), Value.ref ria])), (ria, Sum.inl (cI, rik, Sum.inl rif)), (oo, Sum.inr (7, [Value.int (nI sg), Value.int osm, Value.int ofc, Value.ref oca, Value.ref opa])), (oca, Sum.inl (cI, n, Sum.inl ocf)), (opa, Sum.inl (cI, opl, Sum.inl opf))]) (va_runV (As := [Value.int (nI j)]) (rest := []) ⟨hx, hb, hml, hown, hts⟩ (c_RC_modelAtB l dC dI cI cM cO H.size rc ma k fit fen frd 0 fir mf co j mo (by first | assumption | omega) (by first | assumption | omega) (by first | assumption | omega)) (cwV 1 hts (my_gV k412 k414 ks3 k1 k415) rfl rfl rfl cu_RC_modelAt_1 ⟨by rw [hR]; exact Nat.le_of_ble_eq_true rfl, by rw [hR]; exact Nat.le_of_ble_eq_true rfl⟩) (my_preV hK hN (hP.sub [0, 1] rfl) (hD.sub [0, 1] (by decide +kernel) rfl) 0 rfl rfl) rfl rfl hl.1 rfl (lv_room (Nat.le_of_ble_eq_true rfl)) d_RC_get_2 ⟨by rw [hR]; exact Nat.le_of_ble_eq_true rfl, by rw [hR]; exact Nat.le_of_ble_eq_true rfl⟩) hP hD hS hA [0, 1] [2, 3, 4, 5, 6, 7, 8] rfl rfl (by decide +kernel) (by decide +kernel) (fun r_2 u9 H locs hw_2 hP hD hS => ?_)
  have hr_2 : r_2 = some mo := hw_2
  have hPD : my_PD (dC, dI) vwCl A [(mo, Sum.inr (8, [Value.ref ka, Value.ref o1, Value.ref oo])), (co, Sum.inr (3, [Value.int (nI sh), Value.long xkeptCode, Value.long xkeptRange, Value.int xkeptAsked, Value.int xcache, Value.int xpending, Value.long xlow, Value.long xrange, Value.long (lN CD), Value.long xreadLow, Value.long (lN RR), Value.ref ri, Value.ref ro, Value.ref rw, Value.int (nI q)])), (ri, Sum.inr (0, [Value.int (nI is.length), Value.ref ria])), (ria, Sum.inl (cI, rik, Sum.inl rif)), (oo, Sum.inr (7, [Value.int (nI sg), Value.int osm, Value.int ofc, Value.ref oca, Value.ref opa])), (oca, Sum.inl (cI, n, Sum.inl ocf)), (opa, Sum.inl (cI, opl, Sum.inl opf)), (rc, Sum.inr (6, [Value.ref co, Value.ref ma, Value.int (nI k), Value.int fit, Value.int fen, Value.int frd, Value.int 0, Value.int fir])), (ma, Sum.inl (cM, 8, Sum.inr (Sum.inr (Sum.inr (Sum.inr mf)))))] H := ⟨hP, hD⟩
  have hP := hPD.1
  have hD := hPD.2
  subst hr_2
  refine W.eq (g2 := F0 m 5 ls [Value.ref mo]) rfl ?_
  refine lv_astore_n (lv' := [(2, Value.ref mo), (0, Value.ref rc), (1, Value.int (nI j))]) hx hb d_RC_get_5 rfl hl (by decide) rfl (fun ls hl => ?_)
  refine lv_aload_n hx hb d_RC_get_6 rfl (lv_at hl 0 rfl) ?_
  refine lv_ifnonnull (tgt := 12) hx hb d_RC_get_7 (by decide) ?_
  refine lv_aload_n hx hb d_RC_get_12 rfl (lv_at hl 1 rfl) ?_
  refine va_get (D := (dC, dI)) (ci := 6) (v := .int frd) (C := "RangeCoders") (T := T_RC) (N := 8) hx hb hg in_RC hown hK hP 7 rfl rfl 5 (by decide) (hg _ k263) (fun _ h9 => h9) rfl d_RC_get_13 ?_
  refine lv_if_ne (tgt := 22) hx hb d_RC_get_16 (by decide) (fun c_1 => ?_) (fun c_1 => ?_)
  · refine lv_aload_n hx hb d_RC_get_22 rfl (lv_at hl 1 rfl) ?_
    refine va_get (D := (dC, dI)) (ci := 6) (v := .int 0) (C := "RangeCoders") (T := T_RC) (N := 8) hx hb hg in_RC hown hK hP 7 rfl rfl 6 (by decide) (hg _ k264) (fun _ h9 => h9) rfl d_RC_get_23 ?_
    refine lv_if_eq (tgt := 34) hx hb d_RC_get_26 (by decide) (fun c_2 => ?_) (fun c_2 => ?_)
    · refine lv_aload_n hx hb d_RC_get_34 rfl (lv_at hl 1 rfl) ?_
      refine lv_aload_n hx hb d_RC_get_35 rfl (lv_at hl 1 rfl) ?_
      refine va_get (D := (dC, dI)) (ci := 6) (v := .ref co) (C := "RangeCoders") (T := T_RC) (N := 8) hx hb hg in_RC hown hK hP 7 rfl rfl 0 (by decide) (hg _ k258) (fun _ h9 => h9) rfl d_RC_get_36 ?_
      refine lv_aload_n hx hb d_RC_get_39 rfl (lv_at hl 0 rfl) ?_
      refine va_get (D := (dC, dI)) (ci := 8) (v := .ref oo) (C := "RangeCoders$Model") (T := T_Model) (N := 3) hx hb hg in_Model hown hK hP 0 rfl rfl 2 (by decide) (hg _ k345) (fun _ h9 => h9) rfl d_RC_get_40 ?_
      refine my_ci (wr := [(mo, Sum.inr (8, [Value.ref ka, Value.ref o1, Value.ref oo])), (rc, Sum.inr (6, [Value.ref co, Value.ref ma, Value.int (nI k), Value.int fit, Value.int fen, Value.int frd, Value.int 0, Value.int fir])), (ma, Sum.inl (cM, 8, Sum.inr (Sum.inr (Sum.inr (Sum.inr mf)))))]) (va_runU (As := [Value.ref oo]) (rest := [Value.ref rc]) ⟨hx, hb, hml, hown, hts⟩ (f_Bits_nextSign l dC dI cI cM cO H.size co xkeptCode xkeptRange xkeptAsked xcache xpending xlow xrange xreadLow ri ro rw ria rik rif is RR CD q oo ofc oca opa n ocf opl opf osm sg C sh lv (by first | assumption | omega) (by first | assumption | omega) (by first | assumption | omega) (by first | assumption | omega) (by first | assumption | omega) (by first | assumption | omega) (by first | assumption | omega) (by first | assumption | omega) (by first | assumption | omega) (by first | assumption | omega) (by first | assumption | omega) (by first | assumption | omega) (by first | assumption | omega) (by first | assumption | omega) (by first | assumption | omega) (by first | assumption | omega) (by first | assumption | omega)) (va_cwA 1 hts (my_gU k775 k777 k778 k779 k8 k780) rfl rfl rfl (hN.1 _ j776 rfl) (by decide +kernel) ⟨by rw [hR]; exact Nat.le_of_ble_eq_true rfl, by rw [hR]; exact Nat.le_of_ble_eq_true rfl⟩) (my_preV hK hN (hP.sub [1, 2, 3, 4, 5, 6] rfl) (hD.sub [1, 2, 3, 4, 5, 6] (by decide +kernel) rfl) 0 rfl rfl) rfl rfl hl.1 rfl (lv_room (Nat.le_of_ble_eq_true rfl)) d_RC_get_43 ⟨by rw [hR]; exact Nat.le_of_ble_eq_true rfl, by rw [hR]; exact Nat.le_of_ble_eq_true rfl⟩) hP hD hS hA [1, 2, 3, 4, 5, 6] [0, 7, 8] rfl rfl (by decide +kernel) (by decide +kernel) (fun r_43 u9 H locs hw_43 hP hD hS => ?_)
      obtain ⟨kcq_43, krq_43, kaq_43, osmq_43, ocfq_43⟩ := u9
      obtain ⟨hr_43, hf_43⟩ : r_43 = oI (gnS is sh sg (RR, CD, q) C).1 ∧ (¬ (gnS is sh sg (RR, CD, q) C).1 = none → tbI ocfq_43 n (gnS is sh sg (RR, CD, q) C).2.2) := hw_43
      have hPD : my_PD (dC, dI) vwCl A [(mo, Sum.inr (8, [Value.ref ka, Value.ref o1, Value.ref oo])), (rc, Sum.inr (6, [Value.ref co, Value.ref ma, Value.int (nI k), Value.int fit, Value.int fen, Value.int frd, Value.int 0, Value.int fir])), (ma, Sum.inl (cM, 8, Sum.inr (Sum.inr (Sum.inr (Sum.inr mf))))), (co, Sum.inr (3, [Value.int (nI sh), Value.long kcq_43, Value.long krq_43, Value.int kaq_43, Value.int xcache, Value.int xpending, Value.long xlow, Value.long xrange, Value.long (lN (cbR (gnS is sh sg (RR, CD, q) C).1 (RR, CD, q) (gnS is sh sg (RR, CD, q) C).2.1).2.1), Value.long xreadLow, Value.long (lN (cbR (gnS is sh sg (RR, CD, q) C).1 (RR, CD, q) (gnS is sh sg (RR, CD, q) C).2.1).1), Value.ref ri, Value.ref ro, Value.ref rw, Value.int (nI (cbR (gnS is sh sg (RR, CD, q) C).1 (RR, CD, q) (gnS is sh sg (RR, CD, q) C).2.1).2.2)])), (ri, Sum.inr (0, [Value.int (nI is.length), Value.ref ria])), (ria, Sum.inl (cI, rik, Sum.inl rif)), (oo, Sum.inr (7, [Value.int (nI sg), Value.int osmq_43, Value.int ofc, Value.ref oca, Value.ref opa])), (oca, Sum.inl (cI, n, Sum.inl ocfq_43)), (opa, Sum.inl (cI, opl, Sum.inl opf))] H := ⟨hP, hD⟩
      have hP := hPD.1
      have hD := hPD.2
      have z9 : r_43 = nI s9 := by rw [hr_43, hG]; rfl
      subst z9
      refine my_ci (wr := [(mo, Sum.inr (8, [Value.ref ka, Value.ref o1, Value.ref oo])), (ma, Sum.inl (cM, 8, Sum.inr (Sum.inr (Sum.inr (Sum.inr mf))))), (co, Sum.inr (3, [Value.int (nI sh), Value.long kcq_43, Value.long krq_43, Value.int kaq_43, Value.int xcache, Value.int xpending, Value.long xlow, Value.long xrange, Value.long (lN (cbR (gnS is sh sg (RR, CD, q) C).1 (RR, CD, q) (gnS is sh sg (RR, CD, q) C).2.1).2.1), Value.long xreadLow, Value.long (lN (cbR (gnS is sh sg (RR, CD, q) C).1 (RR, CD, q) (gnS is sh sg (RR, CD, q) C).2.1).1), Value.ref ri, Value.ref ro, Value.ref rw, Value.int (nI (cbR (gnS is sh sg (RR, CD, q) C).1 (RR, CD, q) (gnS is sh sg (RR, CD, q) C).2.1).2.2)])), (ri, Sum.inr (0, [Value.int (nI is.length), Value.ref ria])), (ria, Sum.inl (cI, rik, Sum.inl rif)), (oo, Sum.inr (7, [Value.int (nI sg), Value.int osmq_43, Value.int ofc, Value.ref oca, Value.ref opa])), (oca, Sum.inl (cI, n, Sum.inl ocfq_43)), (opa, Sum.inl (cI, opl, Sum.inl opf))]) (va_runV (As := [Value.int (nI s9)]) (rest := []) ⟨hx, hb, hml, hown, hts⟩ (f_RC_itemOk l dC dI cI cM cO H.size rc ma k fit fen frd 0 fir mf co s9 (by first | assumption | omega)) (cwV 1 hts (my_gV k854 k856 ks17 k1 k857) rfl rfl rfl cu_RC_itemOrBad_1 ⟨by rw [hR]; exact Nat.le_of_ble_eq_true rfl, by rw [hR]; exact Nat.le_of_ble_eq_true rfl⟩) (my_preV hK hN (hP.sub [1] rfl) (hD.sub [1] (by decide +kernel) rfl) 0 rfl rfl) rfl rfl hl.1 rfl (lv_room (Nat.le_of_ble_eq_true rfl)) d_RC_get_46 ⟨by rw [hR]; exact Nat.le_of_ble_eq_true rfl, by rw [hR]; exact Nat.le_of_ble_eq_true rfl⟩) hP hD hS hA [1] [0, 2, 3, 4, 5, 6, 7, 8] rfl rfl (by decide +kernel) (by decide +kernel) (fun r_46 u9 H locs hw_46 hP hD hS => ?_)
      have hr_46 : r_46 = nI s9 := hw_46
      have hPD : my_PD (dC, dI) vwCl A [(mo, Sum.inr (8, [Value.ref ka, Value.ref o1, Value.ref oo])), (ma, Sum.inl (cM, 8, Sum.inr (Sum.inr (Sum.inr (Sum.inr mf))))), (co, Sum.inr (3, [Value.int (nI sh), Value.long kcq_43, Value.long krq_43, Value.int kaq_43, Value.int xcache, Value.int xpending, Value.long xlow, Value.long xrange, Value.long (lN (cbR (gnS is sh sg (RR, CD, q) C).1 (RR, CD, q) (gnS is sh sg (RR, CD, q) C).2.1).2.1), Value.long xreadLow, Value.long (lN (cbR (gnS is sh sg (RR, CD, q) C).1 (RR, CD, q) (gnS is sh sg (RR, CD, q) C).2.1).1), Value.ref ri, Value.ref ro, Value.ref rw, Value.int (nI (cbR (gnS is sh sg (RR, CD, q) C).1 (RR, CD, q) (gnS is sh sg (RR, CD, q) C).2.1).2.2)])), (ri, Sum.inr (0, [Value.int (nI is.length), Value.ref ria])), (ria, Sum.inl (cI, rik, Sum.inl rif)), (oo, Sum.inr (7, [Value.int (nI sg), Value.int osmq_43, Value.int ofc, Value.ref oca, Value.ref opa])), (oca, Sum.inl (cI, n, Sum.inl ocfq_43)), (opa, Sum.inl (cI, opl, Sum.inl opf)), (rc, Sum.inr (6, [Value.ref co, Value.ref ma, Value.int (nI k), Value.int fit, Value.int fen, Value.int frd, Value.int 0, Value.int (fir + 1)]))] H := ⟨hP, hD⟩
      have hP := hPD.1
      have hD := hPD.2
      exact my_iret (v := r_46) hx hb hr (rfl) hlocks hQ hK hS (Nat.le_refl _) (Nat.le_refl _) (kcq_43, krq_43, kaq_43, osmq_43, ocfq_43) (⟨hr_46, hf_43⟩) (hP.sub [8, 1, 0, 2, 3, 4, 5, 6, 7] rfl) (hD.sub [8, 1, 0, 2, 3, 4, 5, 6, 7] (by decide +kernel) rfl) d_RC_get_49
    · exact absurd (by decide) c_2
  · exact absurd c_1 hrd
set_option maxHeartbeats 2000000 in
set_option maxRecDepth 100000 in
theorem f_RC_getX_Bits (l : Launch) (dC : Nat → ClassId) (dI : Nat → Nat → Nat) (cI cM cO : ClassId) (sz : Nat) (rc : Nat) (ma : Nat) (k : Nat) (fit : Int32) (fen : Int32) (frd : Int32) (fir : Int32) (mf : Nat → Option Nat) (j : Nat) (mo : Nat) (co : Nat) (ka : Nat) (o1 : Nat) (xkeptCode : Int64) (xkeptRange : Int64) (xkeptAsked : Int32) (xcache : Int32) (xpending : Int32) (xlow : Int64) (xrange : Int64) (xreadLow : Int64) (ri : Nat) (ro : Nat) (rw : Nat) (ria : Nat) (rik : Nat) (rif : Nat → Int32) (is : List Nat) (RR : Nat) (CD : Nat) (q : Nat) (oo : Nat) (ofc : Int32) (oca : Nat) (opa : Nat) (n : Nat) (ocf : Nat → Int32) (opl : Nat) (opf : Nat → Int32) (osm : Int32) (sg : Nat) (C : Nat → Nat) (sh : Nat) (lv : Nat) (hk8 : k ≤ 8) (hj : j < k) (hmf : mf j = some mo) (hrd : ¬ frd = 0) (hri : rOk (nI is.length) rik) (hGri : gIs rif is) (hLri : is.length ≤ 6000) (hoct : oct is) (hn : n ≤ 64) (hpl : opl ≤ 512) (hs9 : 2 ≤ sg) (hs8 : sg ≤ 64) (hlv : lv = lev sg) (hnl : n = 2 ^ lv) (hofc : ofc = 1) (hf : tbI ocf n C) (hC : ∀ k, k < 64 → 1 ≤ C k ∧ C k ≤ 2047) (hs1 : 1 ≤ sh) (hs2 : sh ≤ 10) (hI : rInv (RR, CD, q)) (hq : q < 800000000) (hG : (gnS is sh sg (RR, CD, q) C).1 = none) : MetI l y_RC_get (Cond.code y_RC_get prog_1_method_13_code 3 (some .int) :: gw) ({ frames := 6, cells := 0, slots := 0, locals := 133 } : Room) (dC, dI) vwCl (kT cI cM cO) [Value.ref rc, Value.int (nI j)] [(rc, Sum.inr (6, [Value.ref co, Value.ref ma, Value.int (nI k), Value.int fit, Value.int fen, Value.int frd, Value.int 0, Value.int fir])), (ma, Sum.inl (cM, 8, Sum.inr (Sum.inr (Sum.inr (Sum.inr mf))))), (mo, Sum.inr (8, [Value.ref ka, Value.ref o1, Value.ref oo])), (co, Sum.inr (3, [Value.int (nI sh), Value.long xkeptCode, Value.long xkeptRange, Value.int xkeptAsked, Value.int xcache, Value.int xpending, Value.long xlow, Value.long xrange, Value.long (lN CD), Value.long xreadLow, Value.long (lN RR), Value.ref ri, Value.ref ro, Value.ref rw, Value.int (nI q)])), (ri, Sum.inr (0, [Value.int (nI is.length), Value.ref ria])), (ria, Sum.inl (cI, rik, Sum.inl rif)), (oo, Sum.inr (7, [Value.int (nI sg), Value.int osm, Value.int ofc, Value.ref oca, Value.ref opa])), (oca, Sum.inl (cI, n, Sum.inl ocf)), (opa, Sum.inl (cI, opl, Sum.inl opf))] sz (fun (r : Int32) (u : Int64 × Int64 × Int32 × Int32 × (Nat → Int32)) => r = -5 ∧ (¬ (gnS is sh sg (RR, CD, q) C).1 = none → tbI u.2.2.2.2 n (gnS is sh sg (RR, CD, q) C).2.2)) (fun (u : Int64 × Int64 × Int32 × Int32 × (Nat → Int32)) => [(rc, Sum.inr (6, [Value.ref co, Value.ref ma, Value.int (nI k), Value.int fit, Value.int fen, Value.int frd, Value.int 1, Value.int fir])), (ma, Sum.inl (cM, 8, Sum.inr (Sum.inr (Sum.inr (Sum.inr mf))))), (mo, Sum.inr (8, [Value.ref ka, Value.ref o1, Value.ref oo])), (co, Sum.inr (3, [Value.int (nI sh), Value.long u.1, Value.long u.2.1, Value.int u.2.2.1, Value.int xcache, Value.int xpending, Value.long xlow, Value.long xrange, Value.long (lN (cbR (gnS is sh sg (RR, CD, q) C).1 (RR, CD, q) (gnS is sh sg (RR, CD, q) C).2.1).2.1), Value.long xreadLow, Value.long (lN (cbR (gnS is sh sg (RR, CD, q) C).1 (RR, CD, q) (gnS is sh sg (RR, CD, q) C).2.1).1), Value.ref ri, Value.ref ro, Value.ref rw, Value.int (nI (cbR (gnS is sh sg (RR, CD, q) C).1 (RR, CD, q) (gnS is sh sg (RR, CD, q) C).2.1).2.2)])), (ri, Sum.inr (0, [Value.int (nI is.length), Value.ref ria])), (ria, Sum.inl (cI, rik, Sum.inl rif)), (oo, Sum.inr (7, [Value.int (nI sg), Value.int u.2.2.2.1, Value.int ofc, Value.ref oca, Value.ref opa])), (oca, Sum.inl (cI, n, Sum.inl u.2.2.2.2)), (opa, Sum.inl (cI, opl, Sum.inl opf))]) 0 0 := by
  refine my_ofI (cc := prog_1_method_13_code) (n := 3) (ret := (some .int)) (by decide) rfl (Nat.le_of_ble_eq_true rfl) ?_
  intro p e s m args below meth c R Q A ls H locs hx hb hr hts hown hlocks hml hnm hR hQ hA hl hP hK hN hD hS
  have hg : ∀ w ∈ gw, w.before args s = true := fun w h => hts w (List.mem_cons_of_mem _ h)
  have hown : s.vm.findClass "RangeCoders" = some m.cls := hown
  have hl : lv_has ls 3 [(0, Value.ref rc), (1, Value.int (nI j))] := hl
  refine lv_aload_n hx hb d_RC_get_0 rfl (lv_at hl 0 rfl) ?_
  refine lv_iload_n hx hb d_RC_get_1 rfl (lv_at hl 1 rfl) ?_
  refine my_cq (wr := [(mo, Sum.inr (8, [Value.ref ka, Value.ref o1, Value.ref oo])), (co, Sum.inr (3, [Value.int (nI sh), Value.long xkeptCode, Value.long xkeptRange, Value.int xkeptAsked, Value.int xcache, Value.int xpending, Value.long xlow, Value.long xrange, Value.long (lN CD), Value.long xreadLow, Value.long (lN RR), Value.ref ri, Value.ref ro, Value.ref rw, Value.int (nI q)])), (ri, Sum.inr (0, [Value.int (nI is.length), Value.ref ria])), (ria, Sum.inl (cI, rik, Sum.inl rif)), (oo, Sum.inr (7, [Value.int (nI sg), Value.int osm, Value.int ofc, Value.ref oca, Value.ref opa])), (oca, Sum.inl (cI, n, Sum.inl ocf)), (opa, Sum.inl (cI, opl, Sum.inl opf))]) (va_runV (As := [Value.int (nI j)]) (rest := []) ⟨hx, hb, hml, hown, hts⟩ (c_RC_modelAtB l dC dI cI cM cO H.size rc ma k fit fen frd 0 fir mf co j mo (by first | assumption | omega) (by first | assumption | omega) (by first | assumption | omega)) (cwV 1 hts (my_gV k412 k414 ks3 k1 k415) rfl rfl rfl cu_RC_modelAt_1 ⟨by rw [hR]; exact Nat.le_of_ble_eq_true rfl, by rw [hR]; exact Nat.le_of_ble_eq_true rfl⟩) (my_preV hK hN (hP.sub [0, 1] rfl) (hD.sub [0, 1] (by decide +kernel) rfl) 0 rfl rfl) rfl rfl hl.1 rfl (lv_room (Nat.le_of_ble_eq_true rfl)) d_RC_get_2 ⟨by rw [hR]; exact Nat.le_of_ble_eq_true rfl, by rw [hR]; exact Nat.le_of_ble_eq_true rfl⟩) hP hD hS hA [0, 1] [2, 3, 4, 5, 6, 7, 8] rfl rfl (by decide +kernel) (by decide +kernel) (fun r_2 u9 H locs hw_2 hP hD hS => ?_)
  have hr_2 : r_2 = some mo := hw_2
  have hPD : my_PD (dC, dI) vwCl A [(mo, Sum.inr (8, [Value.ref ka, Value.ref o1, Value.ref oo])), (co, Sum.inr (3, [Value.int (nI sh), Value.long xkeptCode, Value.long xkeptRange, Value.int xkeptAsked, Value.int xcache, Value.int xpending, Value.long xlow, Value.long xrange, Value.long (lN CD), Value.long xreadLow, Value.long (lN RR), Value.ref ri, Value.ref ro, Value.ref rw, Value.int (nI q)])), (ri, Sum.inr (0, [Value.int (nI is.length), Value.ref ria])), (ria, Sum.inl (cI, rik, Sum.inl rif)), (oo, Sum.inr (7, [Value.int (nI sg), Value.int osm, Value.int ofc, Value.ref oca, Value.ref opa])), (oca, Sum.inl (cI, n, Sum.inl ocf)), (opa, Sum.inl (cI, opl, Sum.inl opf)), (rc, Sum.inr (6, [Value.ref co, Value.ref ma, Value.int (nI k), Value.int fit, Value.int fen, Value.int frd, Value.int 0, Value.int fir])), (ma, Sum.inl (cM, 8, Sum.inr (Sum.inr (Sum.inr (Sum.inr mf)))))] H := ⟨hP, hD⟩
  have hP := hPD.1
  have hD := hPD.2
  subst hr_2
  refine W.eq (g2 := F0 m 5 ls [Value.ref mo]) rfl ?_
  refine lv_astore_n (lv' := [(2, Value.ref mo), (0, Value.ref rc), (1, Value.int (nI j))]) hx hb d_RC_get_5 rfl hl (by decide) rfl (fun ls hl => ?_)
  refine lv_aload_n hx hb d_RC_get_6 rfl (lv_at hl 0 rfl) ?_
  refine lv_ifnonnull (tgt := 12) hx hb d_RC_get_7 (by decide) ?_
  refine lv_aload_n hx hb d_RC_get_12 rfl (lv_at hl 1 rfl) ?_
  refine va_get (D := (dC, dI)) (ci := 6) (v := .int frd) (C := "RangeCoders") (T := T_RC) (N := 8) hx hb hg in_RC hown hK hP 7 rfl rfl 5 (by decide) (hg _ k263) (fun _ h9 => h9) rfl d_RC_get_13 ?_
  refine lv_if_ne (tgt := 22) hx hb d_RC_get_16 (by decide) (fun c_1 => ?_) (fun c_1 => ?_)
  · refine lv_aload_n hx hb d_RC_get_22 rfl (lv_at hl 1 rfl) ?_
    refine va_get (D := (dC, dI)) (ci := 6) (v := .int 0) (C := "RangeCoders") (T := T_RC) (N := 8) hx hb hg in_RC hown hK hP 7 rfl rfl 6 (by decide) (hg _ k264) (fun _ h9 => h9) rfl d_RC_get_23 ?_
    refine lv_if_eq (tgt := 34) hx hb d_RC_get_26 (by decide) (fun c_2 => ?_) (fun c_2 => ?_)
    · refine lv_aload_n hx hb d_RC_get_34 rfl (lv_at hl 1 rfl) ?_
      refine lv_aload_n hx hb d_RC_get_35 rfl (lv_at hl 1 rfl) ?_
      refine va_get (D := (dC, dI)) (ci := 6) (v := .ref co) (C := "RangeCoders") (T := T_RC) (N := 8) hx hb hg in_RC hown hK hP 7 rfl rfl 0 (by decide) (hg _ k258) (fun _ h9 => h9) rfl d_RC_get_36 ?_
      refine lv_aload_n hx hb d_RC_get_39 rfl (lv_at hl 0 rfl) ?_
      refine va_get (D := (dC, dI)) (ci := 8) (v := .ref oo) (C := "RangeCoders$Model") (T := T_Model) (N := 3) hx hb hg in_Model hown hK hP 0 rfl rfl 2 (by decide) (hg _ k345) (fun _ h9 => h9) rfl d_RC_get_40 ?_
      refine my_ci (wr := [(mo, Sum.inr (8, [Value.ref ka, Value.ref o1, Value.ref oo])), (rc, Sum.inr (6, [Value.ref co, Value.ref ma, Value.int (nI k), Value.int fit, Value.int fen, Value.int frd, Value.int 0, Value.int fir])), (ma, Sum.inl (cM, 8, Sum.inr (Sum.inr (Sum.inr (Sum.inr mf)))))]) (va_runU (As := [Value.ref oo]) (rest := [Value.ref rc]) ⟨hx, hb, hml, hown, hts⟩ (f_Bits_nextSign l dC dI cI cM cO H.size co xkeptCode xkeptRange xkeptAsked xcache xpending xlow xrange xreadLow ri ro rw ria rik rif is RR CD q oo ofc oca opa n ocf opl opf osm sg C sh lv (by first | assumption | omega) (by first | assumption | omega) (by first | assumption | omega) (by first | assumption | omega) (by first | assumption | omega) (by first | assumption | omega) (by first | assumption | omega) (by first | assumption | omega) (by first | assumption | omega) (by first | assumption | omega) (by first | assumption | omega) (by first | assumption | omega) (by first | assumption | omega) (by first | assumption | omega) (by first | assumption | omega) (by first | assumption | omega) (by first | assumption | omega)) (va_cwA 1 hts (my_gU k775 k777 k778 k779 k8 k780) rfl rfl rfl (hN.1 _ j776 rfl) (by decide +kernel) ⟨by rw [hR]; exact Nat.le_of_ble_eq_true rfl, by rw [hR]; exact Nat.le_of_ble_eq_true rfl⟩) (my_preV hK hN (hP.sub [1, 2, 3, 4, 5, 6] rfl) (hD.sub [1, 2, 3, 4, 5, 6] (by decide +kernel) rfl) 0 rfl rfl) rfl rfl hl.1 rfl (lv_room (Nat.le_of_ble_eq_true rfl)) d_RC_get_43 ⟨by rw [hR]; exact Nat.le_of_ble_eq_true rfl, by rw [hR]; exact Nat.le_of_ble_eq_true rfl⟩) hP hD hS hA [1, 2, 3, 4, 5, 6] [0, 7, 8] rfl rfl (by decide +kernel) (by decide +kernel) (fun r_43 u9 H locs hw_43 hP hD hS => ?_)
      obtain ⟨kcq_43, krq_43, kaq_43, osmq_43, ocfq_43⟩ := u9
      obtain ⟨hr_43, hf_43⟩ : r_43 = oI (gnS is sh sg (RR, CD, q) C).1 ∧ (¬ (gnS is sh sg (RR, CD, q) C).1 = none → tbI ocfq_43 n (gnS is sh sg (RR, CD, q) C).2.2) := hw_43
      have hPD : my_PD (dC, dI) vwCl A [(mo, Sum.inr (8, [Value.ref ka, Value.ref o1, Value.ref oo])), (rc, Sum.inr (6, [Value.ref co, Value.ref ma, Value.int (nI k), Value.int fit, Value.int fen, Value.int frd, Value.int 0, Value.int fir])), (ma, Sum.inl (cM, 8, Sum.inr (Sum.inr (Sum.inr (Sum.inr mf))))), (co, Sum.inr (3, [Value.int (nI sh), Value.long kcq_43, Value.long krq_43, Value.int kaq_43, Value.int xcache, Value.int xpending, Value.long xlow, Value.long xrange, Value.long (lN (cbR (gnS is sh sg (RR, CD, q) C).1 (RR, CD, q) (gnS is sh sg (RR, CD, q) C).2.1).2.1), Value.long xreadLow, Value.long (lN (cbR (gnS is sh sg (RR, CD, q) C).1 (RR, CD, q) (gnS is sh sg (RR, CD, q) C).2.1).1), Value.ref ri, Value.ref ro, Value.ref rw, Value.int (nI (cbR (gnS is sh sg (RR, CD, q) C).1 (RR, CD, q) (gnS is sh sg (RR, CD, q) C).2.1).2.2)])), (ri, Sum.inr (0, [Value.int (nI is.length), Value.ref ria])), (ria, Sum.inl (cI, rik, Sum.inl rif)), (oo, Sum.inr (7, [Value.int (nI sg), Value.int osmq_43, Value.int ofc, Value.ref oca, Value.ref opa])), (oca, Sum.inl (cI, n, Sum.inl ocfq_43)), (opa, Sum.inl (cI, opl, Sum.inl opf))] H := ⟨hP, hD⟩
      have hP := hPD.1
      have hD := hPD.2
      have z9 : r_43 = (-1) := by rw [hr_43, hG]; rfl
      subst z9
      refine my_ci (wr := [(mo, Sum.inr (8, [Value.ref ka, Value.ref o1, Value.ref oo])), (ma, Sum.inl (cM, 8, Sum.inr (Sum.inr (Sum.inr (Sum.inr mf))))), (co, Sum.inr (3, [Value.int (nI sh), Value.long kcq_43, Value.long krq_43, Value.int kaq_43, Value.int xcache, Value.int xpending, Value.long xlow, Value.long xrange, Value.long (lN (cbR (gnS is sh sg (RR, CD, q) C).1 (RR, CD, q) (gnS is sh sg (RR, CD, q) C).2.1).2.1), Value.long xreadLow, Value.long (lN (cbR (gnS is sh sg (RR, CD, q) C).1 (RR, CD, q) (gnS is sh sg (RR, CD, q) C).2.1).1), Value.ref ri, Value.ref ro, Value.ref rw, Value.int (nI (cbR (gnS is sh sg (RR, CD, q) C).1 (RR, CD, q) (gnS is sh sg (RR, CD, q) C).2.1).2.2)])), (ri, Sum.inr (0, [Value.int (nI is.length), Value.ref ria])), (ria, Sum.inl (cI, rik, Sum.inl rif)), (oo, Sum.inr (7, [Value.int (nI sg), Value.int osmq_43, Value.int ofc, Value.ref oca, Value.ref opa])), (oca, Sum.inl (cI, n, Sum.inl ocfq_43)), (opa, Sum.inl (cI, opl, Sum.inl opf))]) (va_runV (As := [Value.int (-1)]) (rest := []) ⟨hx, hb, hml, hown, hts⟩ (f_RC_itemBad l dC dI cI cM cO H.size rc ma k fit fen frd 0 fir mf co) (cwV 1 hts (my_gV k854 k856 ks17 k1 k857) rfl rfl rfl cu_RC_itemOrBad_1 ⟨by rw [hR]; exact Nat.le_of_ble_eq_true rfl, by rw [hR]; exact Nat.le_of_ble_eq_true rfl⟩) (my_preV hK hN (hP.sub [1] rfl) (hD.sub [1] (by decide +kernel) rfl) 0 rfl rfl) rfl rfl hl.1 rfl (lv_room (Nat.le_of_ble_eq_true rfl)) d_RC_get_46 ⟨by rw [hR]; exact Nat.le_of_ble_eq_true rfl, by rw [hR]; exact Nat.le_of_ble_eq_true rfl⟩) hP hD hS hA [1] [0, 2, 3, 4, 5, 6, 7, 8] rfl rfl (by decide +kernel) (by decide +kernel) (fun r_46 u9 H locs hw_46 hP hD hS => ?_)
      have hr_46 : r_46 = -5 := hw_46
      have hPD : my_PD (dC, dI) vwCl A [(mo, Sum.inr (8, [Value.ref ka, Value.ref o1, Value.ref oo])), (ma, Sum.inl (cM, 8, Sum.inr (Sum.inr (Sum.inr (Sum.inr mf))))), (co, Sum.inr (3, [Value.int (nI sh), Value.long kcq_43, Value.long krq_43, Value.int kaq_43, Value.int xcache, Value.int xpending, Value.long xlow, Value.long xrange, Value.long (lN (cbR (gnS is sh sg (RR, CD, q) C).1 (RR, CD, q) (gnS is sh sg (RR, CD, q) C).2.1).2.1), Value.long xreadLow, Value.long (lN (cbR (gnS is sh sg (RR, CD, q) C).1 (RR, CD, q) (gnS is sh sg (RR, CD, q) C).2.1).1), Value.ref ri, Value.ref ro, Value.ref rw, Value.int (nI (cbR (gnS is sh sg (RR, CD, q) C).1 (RR, CD, q) (gnS is sh sg (RR, CD, q) C).2.1).2.2)])), (ri, Sum.inr (0, [Value.int (nI is.length), Value.ref ria])), (ria, Sum.inl (cI, rik, Sum.inl rif)), (oo, Sum.inr (7, [Value.int (nI sg), Value.int osmq_43, Value.int ofc, Value.ref oca, Value.ref opa])), (oca, Sum.inl (cI, n, Sum.inl ocfq_43)), (opa, Sum.inl (cI, opl, Sum.inl opf)), (rc, Sum.inr (6, [Value.ref co, Value.ref ma, Value.int (nI k), Value.int fit, Value.int fen, Value.int frd, Value.int 1, Value.int fir]))] H := ⟨hP, hD⟩
      have hP := hPD.1
      have hD := hPD.2
      exact my_iret (v := r_46) hx hb hr (rfl) hlocks hQ hK hS (Nat.le_refl _) (Nat.le_refl _) (kcq_43, krq_43, kaq_43, osmq_43, ocfq_43) (⟨hr_46, hf_43⟩) (hP.sub [8, 1, 0, 2, 3, 4, 5, 6, 7] rfl) (hD.sub [8, 1, 0, 2, 3, 4, 5, 6, 7] (by decide +kernel) rfl) d_RC_get_49
    · exact absurd (by decide) c_2
  · exact absurd c_1 hrd
set_option maxHeartbeats 2000000 in
set_option maxRecDepth 100000 in
theorem f_RC_gbW_Bits (l : Launch) (dC : Nat → ClassId) (dI : Nat → Nat → Nat) (cI cM cO : ClassId) (sz : Nat) (rc : Nat) (ma : Nat) (k : Nat) (fit : Int32) (fen : Int32) (frd : Int32) (fbd : Int32) (fir : Int32) (mf : Nat → Option Nat) (co : Nat) (xshift : Int32) (xkeptCode : Int64) (xkeptRange : Int64) (xkeptAsked : Int32) (xcache : Int32) (xpending : Int32) (xlow : Int64) (xrange : Int64) (xcode : Int64) (xreadLow : Int64) (xreadRange : Int64) (ri : Nat) (ro : Nat) (rw : Nat) (xasked : Int32) (wd : Int32) (hbad : ¬ (1 ≤ wd ∧ wd ≤ nI 12)) : MetI l y_RC_getBits (Cond.code y_RC_getBits prog_1_method_14_code 2 (some .int) :: gw) ({ frames := 1, cells := 0, slots := 0, locals := 21 } : Room) (dC, dI) vwCl (kT cI cM cO) [Value.ref rc, Value.int wd] [(rc, Sum.inr (6, [Value.ref co, Value.ref ma, Value.int (nI k), Value.int fit, Value.int fen, Value.int frd, Value.int fbd, Value.int fir])), (co, Sum.inr (3, [Value.int xshift, Value.long xkeptCode, Value.long xkeptRange, Value.int xkeptAsked, Value.int xcache, Value.int xpending, Value.long xlow, Value.long xrange, Value.long xcode, Value.long xreadLow, Value.long xreadRange, Value.ref ri, Value.ref ro, Value.ref rw, Value.int xasked]))] sz (fun (r : Int32) (u : Unit) => r = -2) (fun (u : Unit) => [(rc, Sum.inr (6, [Value.ref co, Value.ref ma, Value.int (nI k), Value.int fit, Value.int fen, Value.int frd, Value.int fbd, Value.int fir])), (co, Sum.inr (3, [Value.int xshift, Value.long xkeptCode, Value.long xkeptRange, Value.int xkeptAsked, Value.int xcache, Value.int xpending, Value.long xlow, Value.long xrange, Value.long xcode, Value.long xreadLow, Value.long xreadRange, Value.ref ri, Value.ref ro, Value.ref rw, Value.int xasked]))]) 0 0 := by
  refine my_ofI (cc := prog_1_method_14_code) (n := 2) (ret := (some .int)) (by decide) rfl (Nat.le_of_ble_eq_true rfl) ?_
  intro p e s m args below meth c R Q A ls H locs hx hb hr hts hown hlocks hml hnm hR hQ hA hl hP hK hN hD hS
  have hg : ∀ w ∈ gw, w.before args s = true := fun w h => hts w (List.mem_cons_of_mem _ h)
  have hown : s.vm.findClass "RangeCoders" = some m.cls := hown
  have hl : lv_has ls 2 [(0, Value.ref rc), (1, Value.int wd)] := hl
  refine lv_aload_n hx hb d_RC_getBits_0 rfl (lv_at hl 0 rfl) ?_
  refine va_get (D := (dC, dI)) (ci := 6) (v := .ref co) (C := "RangeCoders") (T := T_RC) (N := 8) hx hb hg in_RC hown hK hP 0 rfl rfl 0 (by decide) (hg _ k258) (fun _ h9 => h9) rfl d_RC_getBits_1 ?_
  refine lv_iload_n hx hb d_RC_getBits_4 rfl (lv_at hl 1 rfl) ?_
  refine my_ci (wr := [(rc, Sum.inr (6, [Value.ref co, Value.ref ma, Value.int (nI k), Value.int fit, Value.int fen, Value.int frd, Value.int fbd, Value.int fir]))]) (va_runU (As := [Value.int wd]) (rest := []) ⟨hx, hb, hml, hown, hts⟩ (f_Bits_hasWidth l dC dI cI cM cO H.size co xshift xkeptCode xkeptRange xkeptAsked xcache xpending xlow xrange xcode xreadLow xreadRange ri ro rw xasked wd) (va_cwU 1 hts (my_gU k543 k545 k546 k544 k3 k553) rfl rfl rfl rfl (by decide +kernel) ⟨by rw [hR]; exact Nat.le_of_ble_eq_true rfl, by rw [hR]; exact Nat.le_of_ble_eq_true rfl⟩) (my_preV hK hN (hP.sub [1] rfl) (hD.sub [1] (by decide +kernel) rfl) 0 rfl rfl) rfl rfl hl.1 rfl (lv_room (Nat.le_of_ble_eq_true rfl)) d_RC_getBits_5 ⟨by rw [hR]; exact Nat.le_of_ble_eq_true rfl, by rw [hR]; exact Nat.le_of_ble_eq_true rfl⟩) hP hD hS hA [1] [0] rfl rfl (by decide +kernel) (by decide +kernel) (fun r_5 u9 H locs hw_5 hP hD hS => ?_)
  have hr_5 : r_5 = if 1 ≤ wd ∧ wd ≤ nI 12 then 1 else 0 := hw_5
  have hPD : my_PD (dC, dI) vwCl A [(rc, Sum.inr (6, [Value.ref co, Value.ref ma, Value.int (nI k), Value.int fit, Value.int fen, Value.int frd, Value.int fbd, Value.int fir])), (co, Sum.inr (3, [Value.int xshift, Value.long xkeptCode, Value.long xkeptRange, Value.int xkeptAsked, Value.int xcache, Value.int xpending, Value.long xlow, Value.long xrange, Value.long xcode, Value.long xreadLow, Value.long xreadRange, Value.ref ri, Value.ref ro, Value.ref rw, Value.int xasked]))] H := ⟨hP, hD⟩
  have hP := hPD.1
  have hD := hPD.2
  refine lv_if_ne (tgt := 14) hx hb d_RC_getBits_8 (by decide) (fun c_1 => ?_) (fun c_1 => ?_)
  · exact absurd (one_ne hr_5 c_1) hbad
  · refine lv_bipush (v := (-2)) hx hb d_RC_getBits_11 (by decide) ?_
    exact my_iret (v := (-2)) hx hb hr (rfl) hlocks hQ hK hS (Nat.le_refl _) (Nat.le_refl _) () (rfl) (hP.sub [0, 1] rfl) (hD.sub [0, 1] (by decide +kernel) rfl) d_RC_getBits_13
set_option maxHeartbeats 2000000 in
set_option maxRecDepth 100000 in
theorem f_RC_gbN_Bits (l : Launch) (dC : Nat → ClassId) (dI : Nat → Nat → Nat) (cI cM cO : ClassId) (sz : Nat) (rc : Nat) (ma : Nat) (k : Nat) (fit : Int32) (fen : Int32) (frd : Int32) (fbd : Int32) (fir : Int32) (mf : Nat → Option Nat) (co : Nat) (xshift : Int32) (xkeptCode : Int64) (xkeptRange : Int64) (xkeptAsked : Int32) (xcache : Int32) (xpending : Int32) (xlow : Int64) (xrange : Int64) (xcode : Int64) (xreadLow : Int64) (xreadRange : Int64) (ri : Nat) (ro : Nat) (rw : Nat) (xasked : Int32) (b : Nat) (hb1 : 1 ≤ b) (hb2 : b ≤ 12) (hrd : frd = 0) : MetI l y_RC_getBits (Cond.code y_RC_getBits prog_1_method_14_code 2 (some .int) :: gw) ({ frames := 1, cells := 0, slots := 0, locals := 21 } : Room) (dC, dI) vwCl (kT cI cM cO) [Value.ref rc, Value.int (nI b)] [(rc, Sum.inr (6, [Value.ref co, Value.ref ma, Value.int (nI k), Value.int fit, Value.int fen, Value.int frd, Value.int fbd, Value.int fir])), (co, Sum.inr (3, [Value.int xshift, Value.long xkeptCode, Value.long xkeptRange, Value.int xkeptAsked, Value.int xcache, Value.int xpending, Value.long xlow, Value.long xrange, Value.long xcode, Value.long xreadLow, Value.long xreadRange, Value.ref ri, Value.ref ro, Value.ref rw, Value.int xasked]))] sz (fun (r : Int32) (u : Unit) => r = -3) (fun (u : Unit) => [(rc, Sum.inr (6, [Value.ref co, Value.ref ma, Value.int (nI k), Value.int fit, Value.int fen, Value.int frd, Value.int fbd, Value.int fir])), (co, Sum.inr (3, [Value.int xshift, Value.long xkeptCode, Value.long xkeptRange, Value.int xkeptAsked, Value.int xcache, Value.int xpending, Value.long xlow, Value.long xrange, Value.long xcode, Value.long xreadLow, Value.long xreadRange, Value.ref ri, Value.ref ro, Value.ref rw, Value.int xasked]))]) 0 0 := by
  refine my_ofI (cc := prog_1_method_14_code) (n := 2) (ret := (some .int)) (by decide) rfl (Nat.le_of_ble_eq_true rfl) ?_
  intro p e s m args below meth c R Q A ls H locs hx hb hr hts hown hlocks hml hnm hR hQ hA hl hP hK hN hD hS
  have hg : ∀ w ∈ gw, w.before args s = true := fun w h => hts w (List.mem_cons_of_mem _ h)
  have hown : s.vm.findClass "RangeCoders" = some m.cls := hown
  have hl : lv_has ls 2 [(0, Value.ref rc), (1, Value.int (nI b))] := hl
  refine lv_aload_n hx hb d_RC_getBits_0 rfl (lv_at hl 0 rfl) ?_
  refine va_get (D := (dC, dI)) (ci := 6) (v := .ref co) (C := "RangeCoders") (T := T_RC) (N := 8) hx hb hg in_RC hown hK hP 0 rfl rfl 0 (by decide) (hg _ k258) (fun _ h9 => h9) rfl d_RC_getBits_1 ?_
  refine lv_iload_n hx hb d_RC_getBits_4 rfl (lv_at hl 1 rfl) ?_
  refine my_ci (wr := [(rc, Sum.inr (6, [Value.ref co, Value.ref ma, Value.int (nI k), Value.int fit, Value.int fen, Value.int frd, Value.int fbd, Value.int fir]))]) (va_runU (As := [Value.int (nI b)]) (rest := []) ⟨hx, hb, hml, hown, hts⟩ (f_Bits_hasWidth l dC dI cI cM cO H.size co xshift xkeptCode xkeptRange xkeptAsked xcache xpending xlow xrange xcode xreadLow xreadRange ri ro rw xasked (nI b)) (va_cwU 1 hts (my_gU k543 k545 k546 k544 k3 k553) rfl rfl rfl rfl (by decide +kernel) ⟨by rw [hR]; exact Nat.le_of_ble_eq_true rfl, by rw [hR]; exact Nat.le_of_ble_eq_true rfl⟩) (my_preV hK hN (hP.sub [1] rfl) (hD.sub [1] (by decide +kernel) rfl) 0 rfl rfl) rfl rfl hl.1 rfl (lv_room (Nat.le_of_ble_eq_true rfl)) d_RC_getBits_5 ⟨by rw [hR]; exact Nat.le_of_ble_eq_true rfl, by rw [hR]; exact Nat.le_of_ble_eq_true rfl⟩) hP hD hS hA [1] [0] rfl rfl (by decide +kernel) (by decide +kernel) (fun r_5 u9 H locs hw_5 hP hD hS => ?_)
  have hr_5 : r_5 = if 1 ≤ (nI b) ∧ (nI b) ≤ nI 12 then 1 else 0 := hw_5
  have hPD : my_PD (dC, dI) vwCl A [(rc, Sum.inr (6, [Value.ref co, Value.ref ma, Value.int (nI k), Value.int fit, Value.int fen, Value.int frd, Value.int fbd, Value.int fir])), (co, Sum.inr (3, [Value.int xshift, Value.long xkeptCode, Value.long xkeptRange, Value.int xkeptAsked, Value.int xcache, Value.int xpending, Value.long xlow, Value.long xrange, Value.long xcode, Value.long xreadLow, Value.long xreadRange, Value.ref ri, Value.ref ro, Value.ref rw, Value.int xasked]))] H := ⟨hP, hD⟩
  have hP := hPD.1
  have hD := hPD.2
  refine lv_if_ne (tgt := 14) hx hb d_RC_getBits_8 (by decide) (fun c_1 => ?_) (fun c_1 => ?_)
  · refine lv_aload_n hx hb d_RC_getBits_14 rfl (lv_at hl 0 rfl) ?_
    refine va_get (D := (dC, dI)) (ci := 6) (v := .int frd) (C := "RangeCoders") (T := T_RC) (N := 8) hx hb hg in_RC hown hK hP 0 rfl rfl 5 (by decide) (hg _ k263) (fun _ h9 => h9) rfl d_RC_getBits_15 ?_
    refine lv_if_ne (tgt := 24) hx hb d_RC_getBits_18 (by decide) (fun c_2 => ?_) (fun c_2 => ?_)
    · exact absurd hrd c_2
    · refine lv_bipush (v := (-3)) hx hb d_RC_getBits_21 (by decide) ?_
      exact my_iret (v := (-3)) hx hb hr (rfl) hlocks hQ hK hS (Nat.le_refl _) (Nat.le_refl _) () (rfl) (hP.sub [0, 1] rfl) (hD.sub [0, 1] (by decide +kernel) rfl) d_RC_getBits_23
  · exact absurd (show 1 ≤ nI b ∧ nI b ≤ nI 12 from ⟨nI_le (a := 1) hb1 (by omega), nI_le hb2 (by decide)⟩) (one_eq hr_5 c_1)
set_option maxHeartbeats 2000000 in
set_option maxRecDepth 100000 in
theorem f_RC_gbB_Bits (l : Launch) (dC : Nat → ClassId) (dI : Nat → Nat → Nat) (cI cM cO : ClassId) (sz : Nat) (rc : Nat) (ma : Nat) (k : Nat) (fit : Int32) (fen : Int32) (frd : Int32) (fbd : Int32) (fir : Int32) (mf : Nat → Option Nat) (co : Nat) (xshift : Int32) (xkeptCode : Int64) (xkeptRange : Int64) (xkeptAsked : Int32) (xcache : Int32) (xpending : Int32) (xlow : Int64) (xrange : Int64) (xcode : Int64) (xreadLow : Int64) (xreadRange : Int64) (ri : Nat) (ro : Nat) (rw : Nat) (xasked : Int32) (b : Nat) (hb1 : 1 ≤ b) (hb2 : b ≤ 12) (hrd : ¬ frd = 0) (hbd : ¬ fbd = 0) : MetI l y_RC_getBits (Cond.code y_RC_getBits prog_1_method_14_code 2 (some .int) :: gw) ({ frames := 1, cells := 0, slots := 0, locals := 21 } : Room) (dC, dI) vwCl (kT cI cM cO) [Value.ref rc, Value.int (nI b)] [(rc, Sum.inr (6, [Value.ref co, Value.ref ma, Value.int (nI k), Value.int fit, Value.int fen, Value.int frd, Value.int fbd, Value.int fir])), (co, Sum.inr (3, [Value.int xshift, Value.long xkeptCode, Value.long xkeptRange, Value.int xkeptAsked, Value.int xcache, Value.int xpending, Value.long xlow, Value.long xrange, Value.long xcode, Value.long xreadLow, Value.long xreadRange, Value.ref ri, Value.ref ro, Value.ref rw, Value.int xasked]))] sz (fun (r : Int32) (u : Unit) => r = -5) (fun (u : Unit) => [(rc, Sum.inr (6, [Value.ref co, Value.ref ma, Value.int (nI k), Value.int fit, Value.int fen, Value.int frd, Value.int fbd, Value.int fir])), (co, Sum.inr (3, [Value.int xshift, Value.long xkeptCode, Value.long xkeptRange, Value.int xkeptAsked, Value.int xcache, Value.int xpending, Value.long xlow, Value.long xrange, Value.long xcode, Value.long xreadLow, Value.long xreadRange, Value.ref ri, Value.ref ro, Value.ref rw, Value.int xasked]))]) 0 0 := by
  refine my_ofI (cc := prog_1_method_14_code) (n := 2) (ret := (some .int)) (by decide) rfl (Nat.le_of_ble_eq_true rfl) ?_
  intro p e s m args below meth c R Q A ls H locs hx hb hr hts hown hlocks hml hnm hR hQ hA hl hP hK hN hD hS
  have hg : ∀ w ∈ gw, w.before args s = true := fun w h => hts w (List.mem_cons_of_mem _ h)
  have hown : s.vm.findClass "RangeCoders" = some m.cls := hown
  have hl : lv_has ls 2 [(0, Value.ref rc), (1, Value.int (nI b))] := hl
  refine lv_aload_n hx hb d_RC_getBits_0 rfl (lv_at hl 0 rfl) ?_
  refine va_get (D := (dC, dI)) (ci := 6) (v := .ref co) (C := "RangeCoders") (T := T_RC) (N := 8) hx hb hg in_RC hown hK hP 0 rfl rfl 0 (by decide) (hg _ k258) (fun _ h9 => h9) rfl d_RC_getBits_1 ?_
  refine lv_iload_n hx hb d_RC_getBits_4 rfl (lv_at hl 1 rfl) ?_
  refine my_ci (wr := [(rc, Sum.inr (6, [Value.ref co, Value.ref ma, Value.int (nI k), Value.int fit, Value.int fen, Value.int frd, Value.int fbd, Value.int fir]))]) (va_runU (As := [Value.int (nI b)]) (rest := []) ⟨hx, hb, hml, hown, hts⟩ (f_Bits_hasWidth l dC dI cI cM cO H.size co xshift xkeptCode xkeptRange xkeptAsked xcache xpending xlow xrange xcode xreadLow xreadRange ri ro rw xasked (nI b)) (va_cwU 1 hts (my_gU k543 k545 k546 k544 k3 k553) rfl rfl rfl rfl (by decide +kernel) ⟨by rw [hR]; exact Nat.le_of_ble_eq_true rfl, by rw [hR]; exact Nat.le_of_ble_eq_true rfl⟩) (my_preV hK hN (hP.sub [1] rfl) (hD.sub [1] (by decide +kernel) rfl) 0 rfl rfl) rfl rfl hl.1 rfl (lv_room (Nat.le_of_ble_eq_true rfl)) d_RC_getBits_5 ⟨by rw [hR]; exact Nat.le_of_ble_eq_true rfl, by rw [hR]; exact Nat.le_of_ble_eq_true rfl⟩) hP hD hS hA [1] [0] rfl rfl (by decide +kernel) (by decide +kernel) (fun r_5 u9 H locs hw_5 hP hD hS => ?_)
  have hr_5 : r_5 = if 1 ≤ (nI b) ∧ (nI b) ≤ nI 12 then 1 else 0 := hw_5
  have hPD : my_PD (dC, dI) vwCl A [(rc, Sum.inr (6, [Value.ref co, Value.ref ma, Value.int (nI k), Value.int fit, Value.int fen, Value.int frd, Value.int fbd, Value.int fir])), (co, Sum.inr (3, [Value.int xshift, Value.long xkeptCode, Value.long xkeptRange, Value.int xkeptAsked, Value.int xcache, Value.int xpending, Value.long xlow, Value.long xrange, Value.long xcode, Value.long xreadLow, Value.long xreadRange, Value.ref ri, Value.ref ro, Value.ref rw, Value.int xasked]))] H := ⟨hP, hD⟩
  have hP := hPD.1
  have hD := hPD.2
  refine lv_if_ne (tgt := 14) hx hb d_RC_getBits_8 (by decide) (fun c_1 => ?_) (fun c_1 => ?_)
  · refine lv_aload_n hx hb d_RC_getBits_14 rfl (lv_at hl 0 rfl) ?_
    refine va_get (D := (dC, dI)) (ci := 6) (v := .int frd) (C := "RangeCoders") (T := T_RC) (N := 8) hx hb hg in_RC hown hK hP 0 rfl rfl 5 (by decide) (hg _ k263) (fun _ h9 => h9) rfl d_RC_getBits_15 ?_
    refine lv_if_ne (tgt := 24) hx hb d_RC_getBits_18 (by decide) (fun c_2 => ?_) (fun c_2 => ?_)
    · refine lv_aload_n hx hb d_RC_getBits_24 rfl (lv_at hl 0 rfl) ?_
      refine va_get (D := (dC, dI)) (ci := 6) (v := .int fbd) (C := "RangeCoders") (T := T_RC) (N := 8) hx hb hg in_RC hown hK hP 0 rfl rfl 6 (by decide) (hg _ k264) (fun _ h9 => h9) rfl d_RC_getBits_25 ?_
      refine lv_if_eq (tgt := 36) hx hb d_RC_getBits_28 (by decide) (fun c_3 => ?_) (fun c_3 => ?_)
      · exact absurd c_3 hbd
      · refine lv_bipush (v := (-5)) hx hb d_RC_getBits_31 (by decide) ?_
        refine lv_goto (tgt := 48) hx hb d_RC_getBits_33 (by decide) ?_
        exact my_iret (v := (-5)) hx hb hr (rfl) hlocks hQ hK hS (Nat.le_refl _) (Nat.le_refl _) () (rfl) (hP.sub [0, 1] rfl) (hD.sub [0, 1] (by decide +kernel) rfl) d_RC_getBits_48
    · exact absurd c_2 hrd
  · exact absurd (show 1 ≤ nI b ∧ nI b ≤ nI 12 from ⟨nI_le (a := 1) hb1 (by omega), nI_le hb2 (by decide)⟩) (one_eq hr_5 c_1)
set_option maxHeartbeats 2000000 in
set_option maxRecDepth 100000 in
theorem f_RC_gbL_Bits (l : Launch) (dC : Nat → ClassId) (dI : Nat → Nat → Nat) (cI cM cO : ClassId) (sz : Nat) (rc : Nat) (ma : Nat) (k : Nat) (fit : Int32) (fen : Int32) (frd : Int32) (fir : Int32) (mf : Nat → Option Nat) (co : Nat) (xshift : Int32) (xkeptCode : Int64) (xkeptRange : Int64) (xkeptAsked : Int32) (xcache : Int32) (xpending : Int32) (xlow : Int64) (xrange : Int64) (xreadLow : Int64) (ri : Nat) (ro : Nat) (rw : Nat) (ria : Nat) (rik : Nat) (rif : Nat → Int32) (is : List Nat) (RR : Nat) (CD : Nat) (q : Nat) (b : Nat) (s9 : Nat) (hb1 : 1 ≤ b) (hb2 : b ≤ 12) (hrd : ¬ frd = 0) (hri : rOk (nI is.length) rik) (hGri : gIs rif is) (hLri : is.length ≤ 6000) (hoct : oct is) (hI : rInv (RR, CD, q)) (hq : q < 800000000) (hG : (pbS is b (RR, CD, q)).1 = some s9) (hsv9 : s9 < 2147483648) : MetI l y_RC_getBits (Cond.code y_RC_getBits prog_1_method_14_code 2 (some .int) :: gw) ({ frames := 5, cells := 0, slots := 0, locals := 108 } : Room) (dC, dI) vwCl (kT cI cM cO) [Value.ref rc, Value.int (nI b)] [(rc, Sum.inr (6, [Value.ref co, Value.ref ma, Value.int (nI k), Value.int fit, Value.int fen, Value.int frd, Value.int 0, Value.int fir])), (co, Sum.inr (3, [Value.int xshift, Value.long xkeptCode, Value.long xkeptRange, Value.int xkeptAsked, Value.int xcache, Value.int xpending, Value.long xlow, Value.long xrange, Value.long (lN CD), Value.long xreadLow, Value.long (lN RR), Value.ref ri, Value.ref ro, Value.ref rw, Value.int (nI q)])), (ri, Sum.inr (0, [Value.int (nI is.length), Value.ref ria])), (ria, Sum.inl (cI, rik, Sum.inl rif))] sz (fun (r : Int32) (u : Int64 × Int64 × Int32) => r = nI s9) (fun (u : Int64 × Int64 × Int32) => [(rc, Sum.inr (6, [Value.ref co, Value.ref ma, Value.int (nI k), Value.int fit, Value.int fen, Value.int frd, Value.int 0, Value.int (fir + 1)])), (co, Sum.inr (3, [Value.int xshift, Value.long u.1, Value.long u.2.1, Value.int u.2.2, Value.int xcache, Value.int xpending, Value.long xlow, Value.long xrange, Value.long (lN (cbR (pbS is b (RR, CD, q)).1 (RR, CD, q) (pbS is b (RR, CD, q)).2).2.1), Value.long xreadLow, Value.long (lN (cbR (pbS is b (RR, CD, q)).1 (RR, CD, q) (pbS is b (RR, CD, q)).2).1), Value.ref ri, Value.ref ro, Value.ref rw, Value.int (nI (cbR (pbS is b (RR, CD, q)).1 (RR, CD, q) (pbS is b (RR, CD, q)).2).2.2)])), (ri, Sum.inr (0, [Value.int (nI is.length), Value.ref ria])), (ria, Sum.inl (cI, rik, Sum.inl rif))]) 0 0 := by
  refine my_ofI (cc := prog_1_method_14_code) (n := 2) (ret := (some .int)) (by decide) rfl (Nat.le_of_ble_eq_true rfl) ?_
  intro p e s m args below meth c R Q A ls H locs hx hb hr hts hown hlocks hml hnm hR hQ hA hl hP hK hN hD hS
  have hg : ∀ w ∈ gw, w.before args s = true := fun w h => hts w (List.mem_cons_of_mem _ h)
  have hown : s.vm.findClass "RangeCoders" = some m.cls := hown
  have hl : lv_has ls 2 [(0, Value.ref rc), (1, Value.int (nI b))] := hl
  refine lv_aload_n hx hb d_RC_getBits_0 rfl (lv_at hl 0 rfl) ?_
  refine va_get (D := (dC, dI)) (ci := 6) (v := .ref co) (C := "RangeCoders") (T := T_RC) (N := 8) hx hb hg in_RC hown hK hP 0 rfl rfl 0 (by decide) (hg _ k258) (fun _ h9 => h9) rfl d_RC_getBits_1 ?_
  refine lv_iload_n hx hb d_RC_getBits_4 rfl (lv_at hl 1 rfl) ?_
  refine my_ci (wr := [(rc, Sum.inr (6, [Value.ref co, Value.ref ma, Value.int (nI k), Value.int fit, Value.int fen, Value.int frd, Value.int 0, Value.int fir])), (ri, Sum.inr (0, [Value.int (nI is.length), Value.ref ria])), (ria, Sum.inl (cI, rik, Sum.inl rif))]) (va_runU (As := [Value.int (nI b)]) (rest := []) ⟨hx, hb, hml, hown, hts⟩ (f_Bits_hasWidth l dC dI cI cM cO H.size co xshift xkeptCode xkeptRange xkeptAsked xcache xpending xlow xrange (lN CD) xreadLow (lN RR) ri ro rw (nI q) (nI b)) (va_cwU 1 hts (my_gU k543 k545 k546 k544 k3 k553) rfl rfl rfl rfl (by decide +kernel) ⟨by rw [hR]; exact Nat.le_of_ble_eq_true rfl, by rw [hR]; exact Nat.le_of_ble_eq_true rfl⟩) (my_preV hK hN (hP.sub [1] rfl) (hD.sub [1] (by decide +kernel) rfl) 0 rfl rfl) rfl rfl hl.1 rfl (lv_room (Nat.le_of_ble_eq_true rfl)) d_RC_getBits_5 ⟨by rw [hR]; exact Nat.le_of_ble_eq_true rfl, by rw [hR]; exact Nat.le_of_ble_eq_true rfl⟩) hP hD hS hA [1] [0, 2, 3] rfl rfl (by decide +kernel) (by decide +kernel) (fun r_5 u9 H locs hw_5 hP hD hS => ?_)
  have hr_5 : r_5 = if 1 ≤ (nI b) ∧ (nI b) ≤ nI 12 then 1 else 0 := hw_5
  have hPD : my_PD (dC, dI) vwCl A [(rc, Sum.inr (6, [Value.ref co, Value.ref ma, Value.int (nI k), Value.int fit, Value.int fen, Value.int frd, Value.int 0, Value.int fir])), (ri, Sum.inr (0, [Value.int (nI is.length), Value.ref ria])), (ria, Sum.inl (cI, rik, Sum.inl rif)), (co, Sum.inr (3, [Value.int xshift, Value.long xkeptCode, Value.long xkeptRange, Value.int xkeptAsked, Value.int xcache, Value.int xpending, Value.long xlow, Value.long xrange, Value.long (lN CD), Value.long xreadLow, Value.long (lN RR), Value.ref ri, Value.ref ro, Value.ref rw, Value.int (nI q)]))] H := ⟨hP, hD⟩
  have hP := hPD.1
  have hD := hPD.2
  refine lv_if_ne (tgt := 14) hx hb d_RC_getBits_8 (by decide) (fun c_1 => ?_) (fun c_1 => ?_)
  · refine lv_aload_n hx hb d_RC_getBits_14 rfl (lv_at hl 0 rfl) ?_
    refine va_get (D := (dC, dI)) (ci := 6) (v := .int frd) (C := "RangeCoders") (T := T_RC) (N := 8) hx hb hg in_RC hown hK hP 0 rfl rfl 5 (by decide) (hg _ k263) (fun _ h9 => h9) rfl d_RC_getBits_15 ?_
    refine lv_if_ne (tgt := 24) hx hb d_RC_getBits_18 (by decide) (fun c_2 => ?_) (fun c_2 => ?_)
    · refine lv_aload_n hx hb d_RC_getBits_24 rfl (lv_at hl 0 rfl) ?_
      refine va_get (D := (dC, dI)) (ci := 6) (v := .int 0) (C := "RangeCoders") (T := T_RC) (N := 8) hx hb hg in_RC hown hK hP 0 rfl rfl 6 (by decide) (hg _ k264) (fun _ h9 => h9) rfl d_RC_getBits_25 ?_
      refine lv_if_eq (tgt := 36) hx hb d_RC_getBits_28 (by decide) (fun c_3 => ?_) (fun c_3 => ?_)
      · refine lv_aload_n hx hb d_RC_getBits_36 rfl (lv_at hl 0 rfl) ?_
        refine lv_aload_n hx hb d_RC_getBits_37 rfl (lv_at hl 0 rfl) ?_
        refine va_get (D := (dC, dI)) (ci := 6) (v := .ref co) (C := "RangeCoders") (T := T_RC) (N := 8) hx hb hg in_RC hown hK hP 0 rfl rfl 0 (by decide) (hg _ k258) (fun _ h9 => h9) rfl d_RC_getBits_38 ?_
        refine lv_iload_n hx hb d_RC_getBits_41 rfl (lv_at hl 1 rfl) ?_
        refine my_ci (wr := [(rc, Sum.inr (6, [Value.ref co, Value.ref ma, Value.int (nI k), Value.int fit, Value.int fen, Value.int frd, Value.int 0, Value.int fir]))]) (va_runU (As := [Value.int (nI b)]) (rest := [Value.ref rc]) ⟨hx, hb, hml, hown, hts⟩ (f_Bits_nextValue l dC dI cI cM cO H.size co xshift xkeptCode xkeptRange xkeptAsked xcache xpending xlow xrange xreadLow ri ro rw ria rik rif is RR CD q b (by first | assumption | omega) (by first | assumption | omega) (by first | assumption | omega) (by first | assumption | omega) (hb1) (by omega) (by first | assumption | omega) (by first | assumption | omega)) (va_cwA 1 hts (my_gU k862 k864 k865 k866 k8 k867) rfl rfl rfl (hN.1 _ j863 rfl) (by decide +kernel) ⟨by rw [hR]; exact Nat.le_of_ble_eq_true rfl, by rw [hR]; exact Nat.le_of_ble_eq_true rfl⟩) (my_preV hK hN (hP.sub [3, 1, 2] rfl) (hD.sub [3, 1, 2] (by decide +kernel) rfl) 0 rfl rfl) rfl rfl hl.1 rfl (lv_room (Nat.le_of_ble_eq_true rfl)) d_RC_getBits_42 ⟨by rw [hR]; exact Nat.le_of_ble_eq_true rfl, by rw [hR]; exact Nat.le_of_ble_eq_true rfl⟩) hP hD hS hA [3, 1, 2] [0] rfl rfl (by decide +kernel) (by decide +kernel) (fun r_42 u9 H locs hw_42 hP hD hS => ?_)
        obtain ⟨kcq_42, krq_42, kaq_42⟩ := u9
        have hr_42 : r_42 = oI (pbS is b (RR, CD, q)).1 := hw_42
        have hPD : my_PD (dC, dI) vwCl A [(rc, Sum.inr (6, [Value.ref co, Value.ref ma, Value.int (nI k), Value.int fit, Value.int fen, Value.int frd, Value.int 0, Value.int fir])), (co, Sum.inr (3, [Value.int xshift, Value.long kcq_42, Value.long krq_42, Value.int kaq_42, Value.int xcache, Value.int xpending, Value.long xlow, Value.long xrange, Value.long (lN (cbR (pbS is b (RR, CD, q)).1 (RR, CD, q) (pbS is b (RR, CD, q)).2).2.1), Value.long xreadLow, Value.long (lN (cbR (pbS is b (RR, CD, q)).1 (RR, CD, q) (pbS is b (RR, CD, q)).2).1), Value.ref ri, Value.ref ro, Value.ref rw, Value.int (nI (cbR (pbS is b (RR, CD, q)).1 (RR, CD, q) (pbS is b (RR, CD, q)).2).2.2)])), (ri, Sum.inr (0, [Value.int (nI is.length), Value.ref ria])), (ria, Sum.inl (cI, rik, Sum.inl rif))] H := ⟨hP, hD⟩
        have hP := hPD.1
        have hD := hPD.2
        have z9 : r_42 = nI s9 := by rw [hr_42, hG]; rfl
        subst z9
        refine my_ci (wr := [(co, Sum.inr (3, [Value.int xshift, Value.long kcq_42, Value.long krq_42, Value.int kaq_42, Value.int xcache, Value.int xpending, Value.long xlow, Value.long xrange, Value.long (lN (cbR (pbS is b (RR, CD, q)).1 (RR, CD, q) (pbS is b (RR, CD, q)).2).2.1), Value.long xreadLow, Value.long (lN (cbR (pbS is b (RR, CD, q)).1 (RR, CD, q) (pbS is b (RR, CD, q)).2).1), Value.ref ri, Value.ref ro, Value.ref rw, Value.int (nI (cbR (pbS is b (RR, CD, q)).1 (RR, CD, q) (pbS is b (RR, CD, q)).2).2.2)])), (ri, Sum.inr (0, [Value.int (nI is.length), Value.ref ria])), (ria, Sum.inl (cI, rik, Sum.inl rif))]) (va_runV (As := [Value.int (nI s9)]) (rest := []) ⟨hx, hb, hml, hown, hts⟩ (f_RC_itemOk l dC dI cI cM cO H.size rc ma k fit fen frd 0 fir mf co s9 (by first | assumption | omega)) (cwV 1 hts (my_gV k854 k856 ks17 k1 k857) rfl rfl rfl cu_RC_itemOrBad_1 ⟨by rw [hR]; exact Nat.le_of_ble_eq_true rfl, by rw [hR]; exact Nat.le_of_ble_eq_true rfl⟩) (my_preV hK hN (hP.sub [0] rfl) (hD.sub [0] (by decide +kernel) rfl) 0 rfl rfl) rfl rfl hl.1 rfl (lv_room (Nat.le_of_ble_eq_true rfl)) d_RC_getBits_45 ⟨by rw [hR]; exact Nat.le_of_ble_eq_true rfl, by rw [hR]; exact Nat.le_of_ble_eq_true rfl⟩) hP hD hS hA [0] [1, 2, 3] rfl rfl (by decide +kernel) (by decide +kernel) (fun r_45 u9 H locs hw_45 hP hD hS => ?_)
        have hr_45 : r_45 = nI s9 := hw_45
        have hPD : my_PD (dC, dI) vwCl A [(co, Sum.inr (3, [Value.int xshift, Value.long kcq_42, Value.long krq_42, Value.int kaq_42, Value.int xcache, Value.int xpending, Value.long xlow, Value.long xrange, Value.long (lN (cbR (pbS is b (RR, CD, q)).1 (RR, CD, q) (pbS is b (RR, CD, q)).2).2.1), Value.long xreadLow, Value.long (lN (cbR (pbS is b (RR, CD, q)).1 (RR, CD, q) (pbS is b (RR, CD, q)).2).1), Value.ref ri, Value.ref ro, Value.ref rw, Value.int (nI (cbR (pbS is b (RR, CD, q)).1 (RR, CD, q) (pbS is b (RR, CD, q)).2).2.2)])), (ri, Sum.inr (0, [Value.int (nI is.length), Value.ref ria])), (ria, Sum.inl (cI, rik, Sum.inl rif)), (rc, Sum.inr (6, [Value.ref co, Value.ref ma, Value.int (nI k), Value.int fit, Value.int fen, Value.int frd, Value.int 0, Value.int (fir + 1)]))] H := ⟨hP, hD⟩
        have hP := hPD.1
        have hD := hPD.2
        exact my_iret (v := r_45) hx hb hr (rfl) hlocks hQ hK hS (Nat.le_refl _) (Nat.le_refl _) (kcq_42, krq_42, kaq_42) (hr_45) (hP.sub [3, 0, 1, 2] rfl) (hD.sub [3, 0, 1, 2] (by decide +kernel) rfl) d_RC_getBits_48
      · exact absurd (by decide) c_3
    · exact absurd c_2 hrd
  · exact absurd (show 1 ≤ nI b ∧ nI b ≤ nI 12 from ⟨nI_le (a := 1) hb1 (by omega), nI_le hb2 (by decide)⟩) (one_eq hr_5 c_1)
set_option maxHeartbeats 2000000 in
set_option maxRecDepth 100000 in
theorem f_RC_gbX_Bits (l : Launch) (dC : Nat → ClassId) (dI : Nat → Nat → Nat) (cI cM cO : ClassId) (sz : Nat) (rc : Nat) (ma : Nat) (k : Nat) (fit : Int32) (fen : Int32) (frd : Int32) (fir : Int32) (mf : Nat → Option Nat) (co : Nat) (xshift : Int32) (xkeptCode : Int64) (xkeptRange : Int64) (xkeptAsked : Int32) (xcache : Int32) (xpending : Int32) (xlow : Int64) (xrange : Int64) (xreadLow : Int64) (ri : Nat) (ro : Nat) (rw : Nat) (ria : Nat) (rik : Nat) (rif : Nat → Int32) (is : List Nat) (RR : Nat) (CD : Nat) (q : Nat) (b : Nat) (hb1 : 1 ≤ b) (hb2 : b ≤ 12) (hrd : ¬ frd = 0) (hri : rOk (nI is.length) rik) (hGri : gIs rif is) (hLri : is.length ≤ 6000) (hoct : oct is) (hI : rInv (RR, CD, q)) (hq : q < 800000000) (hG : (pbS is b (RR, CD, q)).1 = none) : MetI l y_RC_getBits (Cond.code y_RC_getBits prog_1_method_14_code 2 (some .int) :: gw) ({ frames := 5, cells := 0, slots := 0, locals := 108 } : Room) (dC, dI) vwCl (kT cI cM cO) [Value.ref rc, Value.int (nI b)] [(rc, Sum.inr (6, [Value.ref co, Value.ref ma, Value.int (nI k), Value.int fit, Value.int fen, Value.int frd, Value.int 0, Value.int fir])), (co, Sum.inr (3, [Value.int xshift, Value.long xkeptCode, Value.long xkeptRange, Value.int xkeptAsked, Value.int xcache, Value.int xpending, Value.long xlow, Value.long xrange, Value.long (lN CD), Value.long xreadLow, Value.long (lN RR), Value.ref ri, Value.ref ro, Value.ref rw, Value.int (nI q)])), (ri, Sum.inr (0, [Value.int (nI is.length), Value.ref ria])), (ria, Sum.inl (cI, rik, Sum.inl rif))] sz (fun (r : Int32) (u : Int64 × Int64 × Int32) => r = -5) (fun (u : Int64 × Int64 × Int32) => [(rc, Sum.inr (6, [Value.ref co, Value.ref ma, Value.int (nI k), Value.int fit, Value.int fen, Value.int frd, Value.int 1, Value.int fir])), (co, Sum.inr (3, [Value.int xshift, Value.long u.1, Value.long u.2.1, Value.int u.2.2, Value.int xcache, Value.int xpending, Value.long xlow, Value.long xrange, Value.long (lN (cbR (pbS is b (RR, CD, q)).1 (RR, CD, q) (pbS is b (RR, CD, q)).2).2.1), Value.long xreadLow, Value.long (lN (cbR (pbS is b (RR, CD, q)).1 (RR, CD, q) (pbS is b (RR, CD, q)).2).1), Value.ref ri, Value.ref ro, Value.ref rw, Value.int (nI (cbR (pbS is b (RR, CD, q)).1 (RR, CD, q) (pbS is b (RR, CD, q)).2).2.2)])), (ri, Sum.inr (0, [Value.int (nI is.length), Value.ref ria])), (ria, Sum.inl (cI, rik, Sum.inl rif))]) 0 0 := by
  refine my_ofI (cc := prog_1_method_14_code) (n := 2) (ret := (some .int)) (by decide) rfl (Nat.le_of_ble_eq_true rfl) ?_
  intro p e s m args below meth c R Q A ls H locs hx hb hr hts hown hlocks hml hnm hR hQ hA hl hP hK hN hD hS
  have hg : ∀ w ∈ gw, w.before args s = true := fun w h => hts w (List.mem_cons_of_mem _ h)
  have hown : s.vm.findClass "RangeCoders" = some m.cls := hown
  have hl : lv_has ls 2 [(0, Value.ref rc), (1, Value.int (nI b))] := hl
  refine lv_aload_n hx hb d_RC_getBits_0 rfl (lv_at hl 0 rfl) ?_
  refine va_get (D := (dC, dI)) (ci := 6) (v := .ref co) (C := "RangeCoders") (T := T_RC) (N := 8) hx hb hg in_RC hown hK hP 0 rfl rfl 0 (by decide) (hg _ k258) (fun _ h9 => h9) rfl d_RC_getBits_1 ?_
  refine lv_iload_n hx hb d_RC_getBits_4 rfl (lv_at hl 1 rfl) ?_
  refine my_ci (wr := [(rc, Sum.inr (6, [Value.ref co, Value.ref ma, Value.int (nI k), Value.int fit, Value.int fen, Value.int frd, Value.int 0, Value.int fir])), (ri, Sum.inr (0, [Value.int (nI is.length), Value.ref ria])), (ria, Sum.inl (cI, rik, Sum.inl rif))]) (va_runU (As := [Value.int (nI b)]) (rest := []) ⟨hx, hb, hml, hown, hts⟩ (f_Bits_hasWidth l dC dI cI cM cO H.size co xshift xkeptCode xkeptRange xkeptAsked xcache xpending xlow xrange (lN CD) xreadLow (lN RR) ri ro rw (nI q) (nI b)) (va_cwU 1 hts (my_gU k543 k545 k546 k544 k3 k553) rfl rfl rfl rfl (by decide +kernel) ⟨by rw [hR]; exact Nat.le_of_ble_eq_true rfl, by rw [hR]; exact Nat.le_of_ble_eq_true rfl⟩) (my_preV hK hN (hP.sub [1] rfl) (hD.sub [1] (by decide +kernel) rfl) 0 rfl rfl) rfl rfl hl.1 rfl (lv_room (Nat.le_of_ble_eq_true rfl)) d_RC_getBits_5 ⟨by rw [hR]; exact Nat.le_of_ble_eq_true rfl, by rw [hR]; exact Nat.le_of_ble_eq_true rfl⟩) hP hD hS hA [1] [0, 2, 3] rfl rfl (by decide +kernel) (by decide +kernel) (fun r_5 u9 H locs hw_5 hP hD hS => ?_)
  have hr_5 : r_5 = if 1 ≤ (nI b) ∧ (nI b) ≤ nI 12 then 1 else 0 := hw_5
  have hPD : my_PD (dC, dI) vwCl A [(rc, Sum.inr (6, [Value.ref co, Value.ref ma, Value.int (nI k), Value.int fit, Value.int fen, Value.int frd, Value.int 0, Value.int fir])), (ri, Sum.inr (0, [Value.int (nI is.length), Value.ref ria])), (ria, Sum.inl (cI, rik, Sum.inl rif)), (co, Sum.inr (3, [Value.int xshift, Value.long xkeptCode, Value.long xkeptRange, Value.int xkeptAsked, Value.int xcache, Value.int xpending, Value.long xlow, Value.long xrange, Value.long (lN CD), Value.long xreadLow, Value.long (lN RR), Value.ref ri, Value.ref ro, Value.ref rw, Value.int (nI q)]))] H := ⟨hP, hD⟩
  have hP := hPD.1
  have hD := hPD.2
  refine lv_if_ne (tgt := 14) hx hb d_RC_getBits_8 (by decide) (fun c_1 => ?_) (fun c_1 => ?_)
  · refine lv_aload_n hx hb d_RC_getBits_14 rfl (lv_at hl 0 rfl) ?_
    refine va_get (D := (dC, dI)) (ci := 6) (v := .int frd) (C := "RangeCoders") (T := T_RC) (N := 8) hx hb hg in_RC hown hK hP 0 rfl rfl 5 (by decide) (hg _ k263) (fun _ h9 => h9) rfl d_RC_getBits_15 ?_
    refine lv_if_ne (tgt := 24) hx hb d_RC_getBits_18 (by decide) (fun c_2 => ?_) (fun c_2 => ?_)
    · refine lv_aload_n hx hb d_RC_getBits_24 rfl (lv_at hl 0 rfl) ?_
      refine va_get (D := (dC, dI)) (ci := 6) (v := .int 0) (C := "RangeCoders") (T := T_RC) (N := 8) hx hb hg in_RC hown hK hP 0 rfl rfl 6 (by decide) (hg _ k264) (fun _ h9 => h9) rfl d_RC_getBits_25 ?_
      refine lv_if_eq (tgt := 36) hx hb d_RC_getBits_28 (by decide) (fun c_3 => ?_) (fun c_3 => ?_)
      · refine lv_aload_n hx hb d_RC_getBits_36 rfl (lv_at hl 0 rfl) ?_
        refine lv_aload_n hx hb d_RC_getBits_37 rfl (lv_at hl 0 rfl) ?_
        refine va_get (D := (dC, dI)) (ci := 6) (v := .ref co) (C := "RangeCoders") (T := T_RC) (N := 8) hx hb hg in_RC hown hK hP 0 rfl rfl 0 (by decide) (hg _ k258) (fun _ h9 => h9) rfl d_RC_getBits_38 ?_
        refine lv_iload_n hx hb d_RC_getBits_41 rfl (lv_at hl 1 rfl) ?_
        refine my_ci (wr := [(rc, Sum.inr (6, [Value.ref co, Value.ref ma, Value.int (nI k), Value.int fit, Value.int fen, Value.int frd, Value.int 0, Value.int fir]))]) (va_runU (As := [Value.int (nI b)]) (rest := [Value.ref rc]) ⟨hx, hb, hml, hown, hts⟩ (f_Bits_nextValue l dC dI cI cM cO H.size co xshift xkeptCode xkeptRange xkeptAsked xcache xpending xlow xrange xreadLow ri ro rw ria rik rif is RR CD q b (by first | assumption | omega) (by first | assumption | omega) (by first | assumption | omega) (by first | assumption | omega) (hb1) (by omega) (by first | assumption | omega) (by first | assumption | omega)) (va_cwA 1 hts (my_gU k862 k864 k865 k866 k8 k867) rfl rfl rfl (hN.1 _ j863 rfl) (by decide +kernel) ⟨by rw [hR]; exact Nat.le_of_ble_eq_true rfl, by rw [hR]; exact Nat.le_of_ble_eq_true rfl⟩) (my_preV hK hN (hP.sub [3, 1, 2] rfl) (hD.sub [3, 1, 2] (by decide +kernel) rfl) 0 rfl rfl) rfl rfl hl.1 rfl (lv_room (Nat.le_of_ble_eq_true rfl)) d_RC_getBits_42 ⟨by rw [hR]; exact Nat.le_of_ble_eq_true rfl, by rw [hR]; exact Nat.le_of_ble_eq_true rfl⟩) hP hD hS hA [3, 1, 2] [0] rfl rfl (by decide +kernel) (by decide +kernel) (fun r_42 u9 H locs hw_42 hP hD hS => ?_)
        obtain ⟨kcq_42, krq_42, kaq_42⟩ := u9
        have hr_42 : r_42 = oI (pbS is b (RR, CD, q)).1 := hw_42
        have hPD : my_PD (dC, dI) vwCl A [(rc, Sum.inr (6, [Value.ref co, Value.ref ma, Value.int (nI k), Value.int fit, Value.int fen, Value.int frd, Value.int 0, Value.int fir])), (co, Sum.inr (3, [Value.int xshift, Value.long kcq_42, Value.long krq_42, Value.int kaq_42, Value.int xcache, Value.int xpending, Value.long xlow, Value.long xrange, Value.long (lN (cbR (pbS is b (RR, CD, q)).1 (RR, CD, q) (pbS is b (RR, CD, q)).2).2.1), Value.long xreadLow, Value.long (lN (cbR (pbS is b (RR, CD, q)).1 (RR, CD, q) (pbS is b (RR, CD, q)).2).1), Value.ref ri, Value.ref ro, Value.ref rw, Value.int (nI (cbR (pbS is b (RR, CD, q)).1 (RR, CD, q) (pbS is b (RR, CD, q)).2).2.2)])), (ri, Sum.inr (0, [Value.int (nI is.length), Value.ref ria])), (ria, Sum.inl (cI, rik, Sum.inl rif))] H := ⟨hP, hD⟩
        have hP := hPD.1
        have hD := hPD.2
        have z9 : r_42 = (-1) := by rw [hr_42, hG]; rfl
        subst z9
        refine my_ci (wr := [(co, Sum.inr (3, [Value.int xshift, Value.long kcq_42, Value.long krq_42, Value.int kaq_42, Value.int xcache, Value.int xpending, Value.long xlow, Value.long xrange, Value.long (lN (cbR (pbS is b (RR, CD, q)).1 (RR, CD, q) (pbS is b (RR, CD, q)).2).2.1), Value.long xreadLow, Value.long (lN (cbR (pbS is b (RR, CD, q)).1 (RR, CD, q) (pbS is b (RR, CD, q)).2).1), Value.ref ri, Value.ref ro, Value.ref rw, Value.int (nI (cbR (pbS is b (RR, CD, q)).1 (RR, CD, q) (pbS is b (RR, CD, q)).2).2.2)])), (ri, Sum.inr (0, [Value.int (nI is.length), Value.ref ria])), (ria, Sum.inl (cI, rik, Sum.inl rif))]) (va_runV (As := [Value.int (-1)]) (rest := []) ⟨hx, hb, hml, hown, hts⟩ (f_RC_itemBad l dC dI cI cM cO H.size rc ma k fit fen frd 0 fir mf co) (cwV 1 hts (my_gV k854 k856 ks17 k1 k857) rfl rfl rfl cu_RC_itemOrBad_1 ⟨by rw [hR]; exact Nat.le_of_ble_eq_true rfl, by rw [hR]; exact Nat.le_of_ble_eq_true rfl⟩) (my_preV hK hN (hP.sub [0] rfl) (hD.sub [0] (by decide +kernel) rfl) 0 rfl rfl) rfl rfl hl.1 rfl (lv_room (Nat.le_of_ble_eq_true rfl)) d_RC_getBits_45 ⟨by rw [hR]; exact Nat.le_of_ble_eq_true rfl, by rw [hR]; exact Nat.le_of_ble_eq_true rfl⟩) hP hD hS hA [0] [1, 2, 3] rfl rfl (by decide +kernel) (by decide +kernel) (fun r_45 u9 H locs hw_45 hP hD hS => ?_)
        have hr_45 : r_45 = -5 := hw_45
        have hPD : my_PD (dC, dI) vwCl A [(co, Sum.inr (3, [Value.int xshift, Value.long kcq_42, Value.long krq_42, Value.int kaq_42, Value.int xcache, Value.int xpending, Value.long xlow, Value.long xrange, Value.long (lN (cbR (pbS is b (RR, CD, q)).1 (RR, CD, q) (pbS is b (RR, CD, q)).2).2.1), Value.long xreadLow, Value.long (lN (cbR (pbS is b (RR, CD, q)).1 (RR, CD, q) (pbS is b (RR, CD, q)).2).1), Value.ref ri, Value.ref ro, Value.ref rw, Value.int (nI (cbR (pbS is b (RR, CD, q)).1 (RR, CD, q) (pbS is b (RR, CD, q)).2).2.2)])), (ri, Sum.inr (0, [Value.int (nI is.length), Value.ref ria])), (ria, Sum.inl (cI, rik, Sum.inl rif)), (rc, Sum.inr (6, [Value.ref co, Value.ref ma, Value.int (nI k), Value.int fit, Value.int fen, Value.int frd, Value.int 1, Value.int fir]))] H := ⟨hP, hD⟩
        have hP := hPD.1
        have hD := hPD.2
        exact my_iret (v := r_45) hx hb hr (rfl) hlocks hQ hK hS (Nat.le_refl _) (Nat.le_refl _) (kcq_42, krq_42, kaq_42) (hr_45) (hP.sub [3, 0, 1, 2] rfl) (hD.sub [3, 0, 1, 2] (by decide +kernel) rfl) d_RC_getBits_48
      · exact absurd (by decide) c_3
    · exact absurd c_2 hrd
  · exact absurd (show 1 ≤ nI b ∧ nI b ≤ nI 12 from ⟨nI_le (a := 1) hb1 (by omega), nI_le hb2 (by decide)⟩) (one_eq hr_5 c_1)
end
section
set_option maxHeartbeats 2000000 in
set_option maxRecDepth 100000 in
theorem f_RC_getL_Carries (l : Launch) (dC : Nat → ClassId) (dI : Nat → Nat → Nat) (cI cM cO : ClassId) (sz : Nat) (rc : Nat) (ma : Nat) (k : Nat) (fit : Int32) (fen : Int32) (frd : Int32) (fir : Int32) (mf : Nat → Option Nat) (j : Nat) (mo : Nat) (co : Nat) (ka : Nat) (o1 : Nat) (xcache : Int32) (xpending : Int32) (xlow : Int64) (xrange : Int64) (ri : Nat) (ro : Nat) (rw : Nat) (ria : Nat) (rik : Nat) (rif : Nat → Int32) (is : List Nat) (RR : Nat) (CD : Nat) (q : Nat) (oo : Nat) (osg : Int32) (ofc : Int32) (oca : Nat) (opa : Nat) (n : Nat) (ocf : Nat → Int32) (opl : Nat) (opf : Nat → Int32) (F : Nat → Nat) (s9 : Nat) (hk8 : k ≤ 8) (hj : j < k) (hmf : mf j = some mo) (hrd : ¬ frd = 0) (hri : rOk (nI is.length) rik) (hGri : gIs rif is) (hLri : is.length ≤ 6000) (hoct : oct is) (hn : n ≤ 64) (hpl : opl ≤ 512) (hf : tbI ocf n F) (hfc0 : ofc = 0) (hsum : ns F n ≤ 8192) (hR1 : RR < 4294967296) (hC : CD < 4294967296) (hq : q < 900000000) (hG : (gr0 is n F (RR, CD, q)).1 = some s9) (hsv9 : s9 < 2147483648) : MetI l y_RC_get (Cond.code y_RC_get prog_1_method_13_code 3 (some .int) :: gw) ({ frames := 6, cells := 0, slots := 0, locals := 132 } : Room) (dC, dI) vwCl (kT cI cM cO) [Value.ref rc, Value.int (nI j)] [(rc, Sum.inr (6, [Value.ref co, Value.ref ma, Value.int (nI k), Value.int fit, Value.int fen, Value.int frd, Value.int 0, Value.int fir])), (ma, Sum.inl (cM, 8, Sum.inr (Sum.inr (Sum.inr (Sum.inr mf))))), (mo, Sum.inr (8, [Value.ref ka, Value.ref o1, Value.ref oo])), (co, Sum.inr (1, [Value.int xcache, Value.int xpending, Value.long xlow, Value.long xrange, Value.long (lN CD), Value.long (lN 0), Value.long (lN RR), Value.ref ri, Value.ref ro, Value.ref rw, Value.int (nI q)])), (ri, Sum.inr (0, [Value.int (nI is.length), Value.ref ria])), (ria, Sum.inl (cI, rik, Sum.inl rif)), (oo, Sum.inr (7, [Value.int osg, Value.int (nI (ns F n)), Value.int ofc, Value.ref oca, Value.ref opa])), (oca, Sum.inl (cI, n, Sum.inl ocf)), (opa, Sum.inl (cI, opl, Sum.inl opf))] sz (fun (r : Int32) (u : (Nat → Int32)) => r = nI s9 ∧ tbI u n (gr0 is n F (RR, CD, q)).2.2) (fun (u : (Nat → Int32)) => [(rc, Sum.inr (6, [Value.ref co, Value.ref ma, Value.int (nI k), Value.int fit, Value.int fen, Value.int frd, Value.int 0, Value.int (fir + 1)])), (ma, Sum.inl (cM, 8, Sum.inr (Sum.inr (Sum.inr (Sum.inr mf))))), (mo, Sum.inr (8, [Value.ref ka, Value.ref o1, Value.ref oo])), (co, Sum.inr (1, [Value.int xcache, Value.int xpending, Value.long xlow, Value.long xrange, Value.long (lN ((gr0 is n F (RR, CD, q)).2.1).2.1), Value.long (lN 0), Value.long (lN ((gr0 is n F (RR, CD, q)).2.1).1), Value.ref ri, Value.ref ro, Value.ref rw, Value.int (nI ((gr0 is n F (RR, CD, q)).2.1).2.2)])), (ri, Sum.inr (0, [Value.int (nI is.length), Value.ref ria])), (ria, Sum.inl (cI, rik, Sum.inl rif)), (oo, Sum.inr (7, [Value.int osg, Value.int (nI (ns (gr0 is n F (RR, CD, q)).2.2 n)), Value.int ofc, Value.ref oca, Value.ref opa])), (oca, Sum.inl (cI, n, Sum.inl u)), (opa, Sum.inl (cI, opl, Sum.inl opf))]) 0 0 := by
  refine my_ofI (cc := prog_1_method_13_code) (n := 3) (ret := (some .int)) (by decide) rfl (Nat.le_of_ble_eq_true rfl) ?_
  intro p e s m args below meth c R Q A ls H locs hx hb hr hts hown hlocks hml hnm hR hQ hA hl hP hK hN hD hS
  have hg : ∀ w ∈ gw, w.before args s = true := fun w h => hts w (List.mem_cons_of_mem _ h)
  have hown : s.vm.findClass "RangeCoders" = some m.cls := hown
  have hl : lv_has ls 3 [(0, Value.ref rc), (1, Value.int (nI j))] := hl
  refine lv_aload_n hx hb d_RC_get_0 rfl (lv_at hl 0 rfl) ?_
  refine lv_iload_n hx hb d_RC_get_1 rfl (lv_at hl 1 rfl) ?_
  refine my_cq (wr := [(mo, Sum.inr (8, [Value.ref ka, Value.ref o1, Value.ref oo])), (co, Sum.inr (1, [Value.int xcache, Value.int xpending, Value.long xlow, Value.long xrange, Value.long (lN CD), Value.long (lN 0), Value.long (lN RR), Value.ref ri, Value.ref ro, Value.ref rw, Value.int (nI q)])), (ri, Sum.inr (0, [Value.int (nI is.length), Value.ref ria])), (ria, Sum.inl (cI, rik, Sum.inl rif)), (oo, Sum.inr (7, [Value.int osg, Value.int (nI (ns F n)), Value.int ofc, Value.ref oca, Value.ref opa])), (oca, Sum.inl (cI, n, Sum.inl ocf)), (opa, Sum.inl (cI, opl, Sum.inl opf))]) (va_runV (As := [Value.int (nI j)]) (rest := []) ⟨hx, hb, hml, hown, hts⟩ (c_RC_modelAtB l dC dI cI cM cO H.size rc ma k fit fen frd 0 fir mf co j mo (by first | assumption | omega) (by first | assumption | omega) (by first | assumption | omega)) (cwV 1 hts (my_gV k412 k414 ks3 k1 k415) rfl rfl rfl cu_RC_modelAt_1 ⟨by rw [hR]; exact Nat.le_of_ble_eq_true rfl, by rw [hR]; exact Nat.le_of_ble_eq_true rfl⟩) (my_preV hK hN (hP.sub [0, 1] rfl) (hD.sub [0, 1] (by decide +kernel) rfl) 0 rfl rfl) rfl rfl hl.1 rfl (lv_room (Nat.le_of_ble_eq_true rfl)) d_RC_get_2 ⟨by rw [hR]; exact Nat.le_of_ble_eq_true rfl, by rw [hR]; exact Nat.le_of_ble_eq_true rfl⟩) hP hD hS hA [0, 1] [2, 3, 4, 5, 6, 7, 8] rfl rfl (by decide +kernel) (by decide +kernel) (fun r_2 u9 H locs hw_2 hP hD hS => ?_)
  have hr_2 : r_2 = some mo := hw_2
  have hPD : my_PD (dC, dI) vwCl A [(mo, Sum.inr (8, [Value.ref ka, Value.ref o1, Value.ref oo])), (co, Sum.inr (1, [Value.int xcache, Value.int xpending, Value.long xlow, Value.long xrange, Value.long (lN CD), Value.long (lN 0), Value.long (lN RR), Value.ref ri, Value.ref ro, Value.ref rw, Value.int (nI q)])), (ri, Sum.inr (0, [Value.int (nI is.length), Value.ref ria])), (ria, Sum.inl (cI, rik, Sum.inl rif)), (oo, Sum.inr (7, [Value.int osg, Value.int (nI (ns F n)), Value.int ofc, Value.ref oca, Value.ref opa])), (oca, Sum.inl (cI, n, Sum.inl ocf)), (opa, Sum.inl (cI, opl, Sum.inl opf)), (rc, Sum.inr (6, [Value.ref co, Value.ref ma, Value.int (nI k), Value.int fit, Value.int fen, Value.int frd, Value.int 0, Value.int fir])), (ma, Sum.inl (cM, 8, Sum.inr (Sum.inr (Sum.inr (Sum.inr mf)))))] H := ⟨hP, hD⟩
  have hP := hPD.1
  have hD := hPD.2
  subst hr_2
  refine W.eq (g2 := F0 m 5 ls [Value.ref mo]) rfl ?_
  refine lv_astore_n (lv' := [(2, Value.ref mo), (0, Value.ref rc), (1, Value.int (nI j))]) hx hb d_RC_get_5 rfl hl (by decide) rfl (fun ls hl => ?_)
  refine lv_aload_n hx hb d_RC_get_6 rfl (lv_at hl 0 rfl) ?_
  refine lv_ifnonnull (tgt := 12) hx hb d_RC_get_7 (by decide) ?_
  refine lv_aload_n hx hb d_RC_get_12 rfl (lv_at hl 1 rfl) ?_
  refine va_get (D := (dC, dI)) (ci := 6) (v := .int frd) (C := "RangeCoders") (T := T_RC) (N := 8) hx hb hg in_RC hown hK hP 7 rfl rfl 5 (by decide) (hg _ k263) (fun _ h9 => h9) rfl d_RC_get_13 ?_
  refine lv_if_ne (tgt := 22) hx hb d_RC_get_16 (by decide) (fun c_1 => ?_) (fun c_1 => ?_)
  · refine lv_aload_n hx hb d_RC_get_22 rfl (lv_at hl 1 rfl) ?_
    refine va_get (D := (dC, dI)) (ci := 6) (v := .int 0) (C := "RangeCoders") (T := T_RC) (N := 8) hx hb hg in_RC hown hK hP 7 rfl rfl 6 (by decide) (hg _ k264) (fun _ h9 => h9) rfl d_RC_get_23 ?_
    refine lv_if_eq (tgt := 34) hx hb d_RC_get_26 (by decide) (fun c_2 => ?_) (fun c_2 => ?_)
    · refine lv_aload_n hx hb d_RC_get_34 rfl (lv_at hl 1 rfl) ?_
      refine lv_aload_n hx hb d_RC_get_35 rfl (lv_at hl 1 rfl) ?_
      refine va_get (D := (dC, dI)) (ci := 6) (v := .ref co) (C := "RangeCoders") (T := T_RC) (N := 8) hx hb hg in_RC hown hK hP 7 rfl rfl 0 (by decide) (hg _ k258) (fun _ h9 => h9) rfl d_RC_get_36 ?_
      refine lv_aload_n hx hb d_RC_get_39 rfl (lv_at hl 0 rfl) ?_
      refine va_get (D := (dC, dI)) (ci := 8) (v := .ref oo) (C := "RangeCoders$Model") (T := T_Model) (N := 3) hx hb hg in_Model hown hK hP 0 rfl rfl 2 (by decide) (hg _ k345) (fun _ h9 => h9) rfl d_RC_get_40 ?_
      refine my_ci (wr := [(mo, Sum.inr (8, [Value.ref ka, Value.ref o1, Value.ref oo])), (rc, Sum.inr (6, [Value.ref co, Value.ref ma, Value.int (nI k), Value.int fit, Value.int fen, Value.int frd, Value.int 0, Value.int fir])), (ma, Sum.inl (cM, 8, Sum.inr (Sum.inr (Sum.inr (Sum.inr mf)))))]) (va_runU (As := [Value.ref oo]) (rest := [Value.ref rc]) ⟨hx, hb, hml, hown, hts⟩ (f_Carries_nextSign l dC dI cI cM cO H.size co xcache xpending xlow xrange ri ro rw ria rik rif is RR CD q oo osg ofc oca opa n ocf opl opf F (by first | assumption | omega) (by first | assumption | omega) (by first | assumption | omega) (by first | assumption | omega) (by first | assumption | omega) (by first | assumption | omega) (by first | assumption | omega) (by first | assumption | omega) (by first | assumption | omega) (by first | assumption | omega) (by first | assumption | omega) (by first | assumption | omega)) (va_cwA 1 hts (my_gU k775 k777 k804 k805 k4 k806) rfl rfl rfl (hN.1 _ j776 rfl) (by decide +kernel) ⟨by rw [hR]; exact Nat.le_of_ble_eq_true rfl, by rw [hR]; exact Nat.le_of_ble_eq_true rfl⟩) (my_preV hK hN (hP.sub [1, 2, 3, 4, 5, 6] rfl) (hD.sub [1, 2, 3, 4, 5, 6] (by decide +kernel) rfl) 0 rfl rfl) rfl rfl hl.1 rfl (lv_room (Nat.le_of_ble_eq_true rfl)) d_RC_get_43 ⟨by rw [hR]; exact Nat.le_of_ble_eq_true rfl, by rw [hR]; exact Nat.le_of_ble_eq_true rfl⟩) hP hD hS hA [1, 2, 3, 4, 5, 6] [0, 7, 8] rfl rfl (by decide +kernel) (by decide +kernel) (fun r_43 u9 H locs hw_43 hP hD hS => ?_)
      obtain ⟨ocfq_43, rfl⟩ : ∃ z, z = u9 := ⟨_, rfl⟩
      obtain ⟨hr_43, hf_43⟩ : r_43 = oI (gr0 is n F (RR, CD, q)).1 ∧ tbI ocfq_43 n (gr0 is n F (RR, CD, q)).2.2 := hw_43
      have hPD : my_PD (dC, dI) vwCl A [(mo, Sum.inr (8, [Value.ref ka, Value.ref o1, Value.ref oo])), (rc, Sum.inr (6, [Value.ref co, Value.ref ma, Value.int (nI k), Value.int fit, Value.int fen, Value.int frd, Value.int 0, Value.int fir])), (ma, Sum.inl (cM, 8, Sum.inr (Sum.inr (Sum.inr (Sum.inr mf))))), (co, Sum.inr (1, [Value.int xcache, Value.int xpending, Value.long xlow, Value.long xrange, Value.long (lN ((gr0 is n F (RR, CD, q)).2.1).2.1), Value.long (lN 0), Value.long (lN ((gr0 is n F (RR, CD, q)).2.1).1), Value.ref ri, Value.ref ro, Value.ref rw, Value.int (nI ((gr0 is n F (RR, CD, q)).2.1).2.2)])), (ri, Sum.inr (0, [Value.int (nI is.length), Value.ref ria])), (ria, Sum.inl (cI, rik, Sum.inl rif)), (oo, Sum.inr (7, [Value.int osg, Value.int (nI (ns (gr0 is n F (RR, CD, q)).2.2 n)), Value.int ofc, Value.ref oca, Value.ref opa])), (oca, Sum.inl (cI, n, Sum.inl ocfq_43)), (opa, Sum.inl (cI, opl, Sum.inl opf))] H := ⟨hP, hD⟩
      have hP := hPD.1
      have hD := hPD.2
      have z9 : r_43 = nI s9 := by rw [hr_43, hG]; rfl
      subst z9
      refine my_ci (wr := [(mo, Sum.inr (8, [Value.ref ka, Value.ref o1, Value.ref oo])), (ma, Sum.inl (cM, 8, Sum.inr (Sum.inr (Sum.inr (Sum.inr mf))))), (co, Sum.inr (1, [Value.int xcache, Value.int xpending, Value.long xlow, Value.long xrange, Value.long (lN ((gr0 is n F (RR, CD, q)).2.1).2.1), Value.long (lN 0), Value.long (lN ((gr0 is n F (RR, CD, q)).2.1).1), Value.ref ri, Value.ref ro, Value.ref rw, Value.int (nI ((gr0 is n F (RR, CD, q)).2.1).2.2)])), (ri, Sum.inr (0, [Value.int (nI is.length), Value.ref ria])), (ria, Sum.inl (cI, rik, Sum.inl rif)), (oo, Sum.inr (7, [Value.int osg, Value.int (nI (ns (gr0 is n F (RR, CD, q)).2.2 n)), Value.int ofc, Value.ref oca, Value.ref opa])), (oca, Sum.inl (cI, n, Sum.inl ocfq_43)), (opa, Sum.inl (cI, opl, Sum.inl opf))]) (va_runV (As := [Value.int (nI s9)]) (rest := []) ⟨hx, hb, hml, hown, hts⟩ (f_RC_itemOk l dC dI cI cM cO H.size rc ma k fit fen frd 0 fir mf co s9 (by first | assumption | omega)) (cwV 1 hts (my_gV k854 k856 ks17 k1 k857) rfl rfl rfl cu_RC_itemOrBad_1 ⟨by rw [hR]; exact Nat.le_of_ble_eq_true rfl, by rw [hR]; exact Nat.le_of_ble_eq_true rfl⟩) (my_preV hK hN (hP.sub [1] rfl) (hD.sub [1] (by decide +kernel) rfl) 0 rfl rfl) rfl rfl hl.1 rfl (lv_room (Nat.le_of_ble_eq_true rfl)) d_RC_get_46 ⟨by rw [hR]; exact Nat.le_of_ble_eq_true rfl, by rw [hR]; exact Nat.le_of_ble_eq_true rfl⟩) hP hD hS hA [1] [0, 2, 3, 4, 5, 6, 7, 8] rfl rfl (by decide +kernel) (by decide +kernel) (fun r_46 u9 H locs hw_46 hP hD hS => ?_)
      have hr_46 : r_46 = nI s9 := hw_46
      have hPD : my_PD (dC, dI) vwCl A [(mo, Sum.inr (8, [Value.ref ka, Value.ref o1, Value.ref oo])), (ma, Sum.inl (cM, 8, Sum.inr (Sum.inr (Sum.inr (Sum.inr mf))))), (co, Sum.inr (1, [Value.int xcache, Value.int xpending, Value.long xlow, Value.long xrange, Value.long (lN ((gr0 is n F (RR, CD, q)).2.1).2.1), Value.long (lN 0), Value.long (lN ((gr0 is n F (RR, CD, q)).2.1).1), Value.ref ri, Value.ref ro, Value.ref rw, Value.int (nI ((gr0 is n F (RR, CD, q)).2.1).2.2)])), (ri, Sum.inr (0, [Value.int (nI is.length), Value.ref ria])), (ria, Sum.inl (cI, rik, Sum.inl rif)), (oo, Sum.inr (7, [Value.int osg, Value.int (nI (ns (gr0 is n F (RR, CD, q)).2.2 n)), Value.int ofc, Value.ref oca, Value.ref opa])), (oca, Sum.inl (cI, n, Sum.inl ocfq_43)), (opa, Sum.inl (cI, opl, Sum.inl opf)), (rc, Sum.inr (6, [Value.ref co, Value.ref ma, Value.int (nI k), Value.int fit, Value.int fen, Value.int frd, Value.int 0, Value.int (fir + 1)]))] H := ⟨hP, hD⟩
      have hP := hPD.1
      have hD := hPD.2
      exact my_iret (v := r_46) hx hb hr (rfl) hlocks hQ hK hS (Nat.le_refl _) (Nat.le_refl _) (ocfq_43) (⟨hr_46, hf_43⟩) (hP.sub [8, 1, 0, 2, 3, 4, 5, 6, 7] rfl) (hD.sub [8, 1, 0, 2, 3, 4, 5, 6, 7] (by decide +kernel) rfl) d_RC_get_49
    · exact absurd (by decide) c_2
  · exact absurd c_1 hrd
set_option maxHeartbeats 2000000 in
set_option maxRecDepth 100000 in
theorem f_RC_getX_Carries (l : Launch) (dC : Nat → ClassId) (dI : Nat → Nat → Nat) (cI cM cO : ClassId) (sz : Nat) (rc : Nat) (ma : Nat) (k : Nat) (fit : Int32) (fen : Int32) (frd : Int32) (fir : Int32) (mf : Nat → Option Nat) (j : Nat) (mo : Nat) (co : Nat) (ka : Nat) (o1 : Nat) (xcache : Int32) (xpending : Int32) (xlow : Int64) (xrange : Int64) (ri : Nat) (ro : Nat) (rw : Nat) (ria : Nat) (rik : Nat) (rif : Nat → Int32) (is : List Nat) (RR : Nat) (CD : Nat) (q : Nat) (oo : Nat) (osg : Int32) (ofc : Int32) (oca : Nat) (opa : Nat) (n : Nat) (ocf : Nat → Int32) (opl : Nat) (opf : Nat → Int32) (F : Nat → Nat) (hk8 : k ≤ 8) (hj : j < k) (hmf : mf j = some mo) (hrd : ¬ frd = 0) (hri : rOk (nI is.length) rik) (hGri : gIs rif is) (hLri : is.length ≤ 6000) (hoct : oct is) (hn : n ≤ 64) (hpl : opl ≤ 512) (hf : tbI ocf n F) (hfc0 : ofc = 0) (hsum : ns F n ≤ 8192) (hR1 : RR < 4294967296) (hC : CD < 4294967296) (hq : q < 900000000) (hG : (gr0 is n F (RR, CD, q)).1 = none) : MetI l y_RC_get (Cond.code y_RC_get prog_1_method_13_code 3 (some .int) :: gw) ({ frames := 6, cells := 0, slots := 0, locals := 132 } : Room) (dC, dI) vwCl (kT cI cM cO) [Value.ref rc, Value.int (nI j)] [(rc, Sum.inr (6, [Value.ref co, Value.ref ma, Value.int (nI k), Value.int fit, Value.int fen, Value.int frd, Value.int 0, Value.int fir])), (ma, Sum.inl (cM, 8, Sum.inr (Sum.inr (Sum.inr (Sum.inr mf))))), (mo, Sum.inr (8, [Value.ref ka, Value.ref o1, Value.ref oo])), (co, Sum.inr (1, [Value.int xcache, Value.int xpending, Value.long xlow, Value.long xrange, Value.long (lN CD), Value.long (lN 0), Value.long (lN RR), Value.ref ri, Value.ref ro, Value.ref rw, Value.int (nI q)])), (ri, Sum.inr (0, [Value.int (nI is.length), Value.ref ria])), (ria, Sum.inl (cI, rik, Sum.inl rif)), (oo, Sum.inr (7, [Value.int osg, Value.int (nI (ns F n)), Value.int ofc, Value.ref oca, Value.ref opa])), (oca, Sum.inl (cI, n, Sum.inl ocf)), (opa, Sum.inl (cI, opl, Sum.inl opf))] sz (fun (r : Int32) (u : (Nat → Int32)) => r = -5 ∧ tbI u n (gr0 is n F (RR, CD, q)).2.2) (fun (u : (Nat → Int32)) => [(rc, Sum.inr (6, [Value.ref co, Value.ref ma, Value.int (nI k), Value.int fit, Value.int fen, Value.int frd, Value.int 1, Value.int fir])), (ma, Sum.inl (cM, 8, Sum.inr (Sum.inr (Sum.inr (Sum.inr mf))))), (mo, Sum.inr (8, [Value.ref ka, Value.ref o1, Value.ref oo])), (co, Sum.inr (1, [Value.int xcache, Value.int xpending, Value.long xlow, Value.long xrange, Value.long (lN ((gr0 is n F (RR, CD, q)).2.1).2.1), Value.long (lN 0), Value.long (lN ((gr0 is n F (RR, CD, q)).2.1).1), Value.ref ri, Value.ref ro, Value.ref rw, Value.int (nI ((gr0 is n F (RR, CD, q)).2.1).2.2)])), (ri, Sum.inr (0, [Value.int (nI is.length), Value.ref ria])), (ria, Sum.inl (cI, rik, Sum.inl rif)), (oo, Sum.inr (7, [Value.int osg, Value.int (nI (ns (gr0 is n F (RR, CD, q)).2.2 n)), Value.int ofc, Value.ref oca, Value.ref opa])), (oca, Sum.inl (cI, n, Sum.inl u)), (opa, Sum.inl (cI, opl, Sum.inl opf))]) 0 0 := by
  refine my_ofI (cc := prog_1_method_13_code) (n := 3) (ret := (some .int)) (by decide) rfl (Nat.le_of_ble_eq_true rfl) ?_
  intro p e s m args below meth c R Q A ls H locs hx hb hr hts hown hlocks hml hnm hR hQ hA hl hP hK hN hD hS
  have hg : ∀ w ∈ gw, w.before args s = true := fun w h => hts w (List.mem_cons_of_mem _ h)
  have hown : s.vm.findClass "RangeCoders" = some m.cls := hown
  have hl : lv_has ls 3 [(0, Value.ref rc), (1, Value.int (nI j))] := hl
  refine lv_aload_n hx hb d_RC_get_0 rfl (lv_at hl 0 rfl) ?_
  refine lv_iload_n hx hb d_RC_get_1 rfl (lv_at hl 1 rfl) ?_
  refine my_cq (wr := [(mo, Sum.inr (8, [Value.ref ka, Value.ref o1, Value.ref oo])), (co, Sum.inr (1, [Value.int xcache, Value.int xpending, Value.long xlow, Value.long xrange, Value.long (lN CD), Value.long (lN 0), Value.long (lN RR), Value.ref ri, Value.ref ro, Value.ref rw, Value.int (nI q)])), (ri, Sum.inr (0, [Value.int (nI is.length), Value.ref ria])), (ria, Sum.inl (cI, rik, Sum.inl rif)), (oo, Sum.inr (7, [Value.int osg, Value.int (nI (ns F n)), Value.int ofc, Value.ref oca, Value.ref opa])), (oca, Sum.inl (cI, n, Sum.inl ocf)), (opa, Sum.inl (cI, opl, Sum.inl opf))]) (va_runV (As := [Value.int (nI j)]) (rest := []) ⟨hx, hb, hml, hown, hts⟩ (c_RC_modelAtB l dC dI cI cM cO H.size rc ma k fit fen frd 0 fir mf co j mo (by first | assumption | omega) (by first | assumption | omega) (by first | assumption | omega)) (cwV 1 hts (my_gV k412 k414 ks3 k1 k415) rfl rfl rfl cu_RC_modelAt_1 ⟨by rw [hR]; exact Nat.le_of_ble_eq_true rfl, by rw [hR]; exact Nat.le_of_ble_eq_true rfl⟩) (my_preV hK hN (hP.sub [0, 1] rfl) (hD.sub [0, 1] (by decide +kernel) rfl) 0 rfl rfl) rfl rfl hl.1 rfl (lv_room (Nat.le_of_ble_eq_true rfl)) d_RC_get_2 ⟨by rw [hR]; exact Nat.le_of_ble_eq_true rfl, by rw [hR]; exact Nat.le_of_ble_eq_true rfl⟩) hP hD hS hA [0, 1] [2, 3, 4, 5, 6, 7, 8] rfl rfl (by decide +kernel) (by decide +kernel) (fun r_2 u9 H locs hw_2 hP hD hS => ?_)
  have hr_2 : r_2 = some mo := hw_2
  have hPD : my_PD (dC, dI) vwCl A [(mo, Sum.inr (8, [Value.ref ka, Value.ref o1, Value.ref oo])), (co, Sum.inr (1, [Value.int xcache, Value.int xpending, Value.long xlow, Value.long xrange, Value.long (lN CD), Value.long (lN 0), Value.long (lN RR), Value.ref ri, Value.ref ro, Value.ref rw, Value.int (nI q)])), (ri, Sum.inr (0, [Value.int (nI is.length), Value.ref ria])), (ria, Sum.inl (cI, rik, Sum.inl rif)), (oo, Sum.inr (7, [Value.int osg, Value.int (nI (ns F n)), Value.int ofc, Value.ref oca, Value.ref opa])), (oca, Sum.inl (cI, n, Sum.inl ocf)), (opa, Sum.inl (cI, opl, Sum.inl opf)), (rc, Sum.inr (6, [Value.ref co, Value.ref ma, Value.int (nI k), Value.int fit, Value.int fen, Value.int frd, Value.int 0, Value.int fir])), (ma, Sum.inl (cM, 8, Sum.inr (Sum.inr (Sum.inr (Sum.inr mf)))))] H := ⟨hP, hD⟩
  have hP := hPD.1
  have hD := hPD.2
  subst hr_2
  refine W.eq (g2 := F0 m 5 ls [Value.ref mo]) rfl ?_
  refine lv_astore_n (lv' := [(2, Value.ref mo), (0, Value.ref rc), (1, Value.int (nI j))]) hx hb d_RC_get_5 rfl hl (by decide) rfl (fun ls hl => ?_)
  refine lv_aload_n hx hb d_RC_get_6 rfl (lv_at hl 0 rfl) ?_
  refine lv_ifnonnull (tgt := 12) hx hb d_RC_get_7 (by decide) ?_
  refine lv_aload_n hx hb d_RC_get_12 rfl (lv_at hl 1 rfl) ?_
  refine va_get (D := (dC, dI)) (ci := 6) (v := .int frd) (C := "RangeCoders") (T := T_RC) (N := 8) hx hb hg in_RC hown hK hP 7 rfl rfl 5 (by decide) (hg _ k263) (fun _ h9 => h9) rfl d_RC_get_13 ?_
  refine lv_if_ne (tgt := 22) hx hb d_RC_get_16 (by decide) (fun c_1 => ?_) (fun c_1 => ?_)
  · refine lv_aload_n hx hb d_RC_get_22 rfl (lv_at hl 1 rfl) ?_
    refine va_get (D := (dC, dI)) (ci := 6) (v := .int 0) (C := "RangeCoders") (T := T_RC) (N := 8) hx hb hg in_RC hown hK hP 7 rfl rfl 6 (by decide) (hg _ k264) (fun _ h9 => h9) rfl d_RC_get_23 ?_
    refine lv_if_eq (tgt := 34) hx hb d_RC_get_26 (by decide) (fun c_2 => ?_) (fun c_2 => ?_)
    · refine lv_aload_n hx hb d_RC_get_34 rfl (lv_at hl 1 rfl) ?_
      refine lv_aload_n hx hb d_RC_get_35 rfl (lv_at hl 1 rfl) ?_
      refine va_get (D := (dC, dI)) (ci := 6) (v := .ref co) (C := "RangeCoders") (T := T_RC) (N := 8) hx hb hg in_RC hown hK hP 7 rfl rfl 0 (by decide) (hg _ k258) (fun _ h9 => h9) rfl d_RC_get_36 ?_
      refine lv_aload_n hx hb d_RC_get_39 rfl (lv_at hl 0 rfl) ?_
      refine va_get (D := (dC, dI)) (ci := 8) (v := .ref oo) (C := "RangeCoders$Model") (T := T_Model) (N := 3) hx hb hg in_Model hown hK hP 0 rfl rfl 2 (by decide) (hg _ k345) (fun _ h9 => h9) rfl d_RC_get_40 ?_
      refine my_ci (wr := [(mo, Sum.inr (8, [Value.ref ka, Value.ref o1, Value.ref oo])), (rc, Sum.inr (6, [Value.ref co, Value.ref ma, Value.int (nI k), Value.int fit, Value.int fen, Value.int frd, Value.int 0, Value.int fir])), (ma, Sum.inl (cM, 8, Sum.inr (Sum.inr (Sum.inr (Sum.inr mf)))))]) (va_runU (As := [Value.ref oo]) (rest := [Value.ref rc]) ⟨hx, hb, hml, hown, hts⟩ (f_Carries_nextSign l dC dI cI cM cO H.size co xcache xpending xlow xrange ri ro rw ria rik rif is RR CD q oo osg ofc oca opa n ocf opl opf F (by first | assumption | omega) (by first | assumption | omega) (by first | assumption | omega) (by first | assumption | omega) (by first | assumption | omega) (by first | assumption | omega) (by first | assumption | omega) (by first | assumption | omega) (by first | assumption | omega) (by first | assumption | omega) (by first | assumption | omega) (by first | assumption | omega)) (va_cwA 1 hts (my_gU k775 k777 k804 k805 k4 k806) rfl rfl rfl (hN.1 _ j776 rfl) (by decide +kernel) ⟨by rw [hR]; exact Nat.le_of_ble_eq_true rfl, by rw [hR]; exact Nat.le_of_ble_eq_true rfl⟩) (my_preV hK hN (hP.sub [1, 2, 3, 4, 5, 6] rfl) (hD.sub [1, 2, 3, 4, 5, 6] (by decide +kernel) rfl) 0 rfl rfl) rfl rfl hl.1 rfl (lv_room (Nat.le_of_ble_eq_true rfl)) d_RC_get_43 ⟨by rw [hR]; exact Nat.le_of_ble_eq_true rfl, by rw [hR]; exact Nat.le_of_ble_eq_true rfl⟩) hP hD hS hA [1, 2, 3, 4, 5, 6] [0, 7, 8] rfl rfl (by decide +kernel) (by decide +kernel) (fun r_43 u9 H locs hw_43 hP hD hS => ?_)
      obtain ⟨ocfq_43, rfl⟩ : ∃ z, z = u9 := ⟨_, rfl⟩
      obtain ⟨hr_43, hf_43⟩ : r_43 = oI (gr0 is n F (RR, CD, q)).1 ∧ tbI ocfq_43 n (gr0 is n F (RR, CD, q)).2.2 := hw_43
      have hPD : my_PD (dC, dI) vwCl A [(mo, Sum.inr (8, [Value.ref ka, Value.ref o1, Value.ref oo])), (rc, Sum.inr (6, [Value.ref co, Value.ref ma, Value.int (nI k), Value.int fit, Value.int fen, Value.int frd, Value.int 0, Value.int fir])), (ma, Sum.inl (cM, 8, Sum.inr (Sum.inr (Sum.inr (Sum.inr mf))))), (co, Sum.inr (1, [Value.int xcache, Value.int xpending, Value.long xlow, Value.long xrange, Value.long (lN ((gr0 is n F (RR, CD, q)).2.1).2.1), Value.long (lN 0), Value.long (lN ((gr0 is n F (RR, CD, q)).2.1).1), Value.ref ri, Value.ref ro, Value.ref rw, Value.int (nI ((gr0 is n F (RR, CD, q)).2.1).2.2)])), (ri, Sum.inr (0, [Value.int (nI is.length), Value.ref ria])), (ria, Sum.inl (cI, rik, Sum.inl rif)), (oo, Sum.inr (7, [Value.int osg, Value.int (nI (ns (gr0 is n F (RR, CD, q)).2.2 n)), Value.int ofc, Value.ref oca, Value.ref opa])), (oca, Sum.inl (cI, n, Sum.inl ocfq_43)), (opa, Sum.inl (cI, opl, Sum.inl opf))] H := ⟨hP, hD⟩
      have hP := hPD.1
      have hD := hPD.2
      have z9 : r_43 = (-1) := by rw [hr_43, hG]; rfl
      subst z9
      refine my_ci (wr := [(mo, Sum.inr (8, [Value.ref ka, Value.ref o1, Value.ref oo])), (ma, Sum.inl (cM, 8, Sum.inr (Sum.inr (Sum.inr (Sum.inr mf))))), (co, Sum.inr (1, [Value.int xcache, Value.int xpending, Value.long xlow, Value.long xrange, Value.long (lN ((gr0 is n F (RR, CD, q)).2.1).2.1), Value.long (lN 0), Value.long (lN ((gr0 is n F (RR, CD, q)).2.1).1), Value.ref ri, Value.ref ro, Value.ref rw, Value.int (nI ((gr0 is n F (RR, CD, q)).2.1).2.2)])), (ri, Sum.inr (0, [Value.int (nI is.length), Value.ref ria])), (ria, Sum.inl (cI, rik, Sum.inl rif)), (oo, Sum.inr (7, [Value.int osg, Value.int (nI (ns (gr0 is n F (RR, CD, q)).2.2 n)), Value.int ofc, Value.ref oca, Value.ref opa])), (oca, Sum.inl (cI, n, Sum.inl ocfq_43)), (opa, Sum.inl (cI, opl, Sum.inl opf))]) (va_runV (As := [Value.int (-1)]) (rest := []) ⟨hx, hb, hml, hown, hts⟩ (f_RC_itemBad l dC dI cI cM cO H.size rc ma k fit fen frd 0 fir mf co) (cwV 1 hts (my_gV k854 k856 ks17 k1 k857) rfl rfl rfl cu_RC_itemOrBad_1 ⟨by rw [hR]; exact Nat.le_of_ble_eq_true rfl, by rw [hR]; exact Nat.le_of_ble_eq_true rfl⟩) (my_preV hK hN (hP.sub [1] rfl) (hD.sub [1] (by decide +kernel) rfl) 0 rfl rfl) rfl rfl hl.1 rfl (lv_room (Nat.le_of_ble_eq_true rfl)) d_RC_get_46 ⟨by rw [hR]; exact Nat.le_of_ble_eq_true rfl, by rw [hR]; exact Nat.le_of_ble_eq_true rfl⟩) hP hD hS hA [1] [0, 2, 3, 4, 5, 6, 7, 8] rfl rfl (by decide +kernel) (by decide +kernel) (fun r_46 u9 H locs hw_46 hP hD hS => ?_)
      have hr_46 : r_46 = -5 := hw_46
      have hPD : my_PD (dC, dI) vwCl A [(mo, Sum.inr (8, [Value.ref ka, Value.ref o1, Value.ref oo])), (ma, Sum.inl (cM, 8, Sum.inr (Sum.inr (Sum.inr (Sum.inr mf))))), (co, Sum.inr (1, [Value.int xcache, Value.int xpending, Value.long xlow, Value.long xrange, Value.long (lN ((gr0 is n F (RR, CD, q)).2.1).2.1), Value.long (lN 0), Value.long (lN ((gr0 is n F (RR, CD, q)).2.1).1), Value.ref ri, Value.ref ro, Value.ref rw, Value.int (nI ((gr0 is n F (RR, CD, q)).2.1).2.2)])), (ri, Sum.inr (0, [Value.int (nI is.length), Value.ref ria])), (ria, Sum.inl (cI, rik, Sum.inl rif)), (oo, Sum.inr (7, [Value.int osg, Value.int (nI (ns (gr0 is n F (RR, CD, q)).2.2 n)), Value.int ofc, Value.ref oca, Value.ref opa])), (oca, Sum.inl (cI, n, Sum.inl ocfq_43)), (opa, Sum.inl (cI, opl, Sum.inl opf)), (rc, Sum.inr (6, [Value.ref co, Value.ref ma, Value.int (nI k), Value.int fit, Value.int fen, Value.int frd, Value.int 1, Value.int fir]))] H := ⟨hP, hD⟩
      have hP := hPD.1
      have hD := hPD.2
      exact my_iret (v := r_46) hx hb hr (rfl) hlocks hQ hK hS (Nat.le_refl _) (Nat.le_refl _) (ocfq_43) (⟨hr_46, hf_43⟩) (hP.sub [8, 1, 0, 2, 3, 4, 5, 6, 7] rfl) (hD.sub [8, 1, 0, 2, 3, 4, 5, 6, 7] (by decide +kernel) rfl) d_RC_get_49
    · exact absurd (by decide) c_2
  · exact absurd c_1 hrd
set_option maxHeartbeats 2000000 in
set_option maxRecDepth 100000 in
theorem f_RC_gbW_Carries (l : Launch) (dC : Nat → ClassId) (dI : Nat → Nat → Nat) (cI cM cO : ClassId) (sz : Nat) (rc : Nat) (ma : Nat) (k : Nat) (fit : Int32) (fen : Int32) (frd : Int32) (fbd : Int32) (fir : Int32) (mf : Nat → Option Nat) (co : Nat) (xcache : Int32) (xpending : Int32) (xlow : Int64) (xrange : Int64) (xcode : Int64) (xreadLow : Int64) (xreadRange : Int64) (ri : Nat) (ro : Nat) (rw : Nat) (xasked : Int32) (wd : Int32) (hbad : ¬ (1 ≤ wd ∧ wd ≤ nI 12)) : MetI l y_RC_getBits (Cond.code y_RC_getBits prog_1_method_14_code 2 (some .int) :: gw) ({ frames := 1, cells := 0, slots := 0, locals := 21 } : Room) (dC, dI) vwCl (kT cI cM cO) [Value.ref rc, Value.int wd] [(rc, Sum.inr (6, [Value.ref co, Value.ref ma, Value.int (nI k), Value.int fit, Value.int fen, Value.int frd, Value.int fbd, Value.int fir])), (co, Sum.inr (1, [Value.int xcache, Value.int xpending, Value.long xlow, Value.long xrange, Value.long xcode, Value.long xreadLow, Value.long xreadRange, Value.ref ri, Value.ref ro, Value.ref rw, Value.int xasked]))] sz (fun (r : Int32) (u : Unit) => r = -2) (fun (u : Unit) => [(rc, Sum.inr (6, [Value.ref co, Value.ref ma, Value.int (nI k), Value.int fit, Value.int fen, Value.int frd, Value.int fbd, Value.int fir])), (co, Sum.inr (1, [Value.int xcache, Value.int xpending, Value.long xlow, Value.long xrange, Value.long xcode, Value.long xreadLow, Value.long xreadRange, Value.ref ri, Value.ref ro, Value.ref rw, Value.int xasked]))]) 0 0 := by
  refine my_ofI (cc := prog_1_method_14_code) (n := 2) (ret := (some .int)) (by decide) rfl (Nat.le_of_ble_eq_true rfl) ?_
  intro p e s m args below meth c R Q A ls H locs hx hb hr hts hown hlocks hml hnm hR hQ hA hl hP hK hN hD hS
  have hg : ∀ w ∈ gw, w.before args s = true := fun w h => hts w (List.mem_cons_of_mem _ h)
  have hown : s.vm.findClass "RangeCoders" = some m.cls := hown
  have hl : lv_has ls 2 [(0, Value.ref rc), (1, Value.int wd)] := hl
  refine lv_aload_n hx hb d_RC_getBits_0 rfl (lv_at hl 0 rfl) ?_
  refine va_get (D := (dC, dI)) (ci := 6) (v := .ref co) (C := "RangeCoders") (T := T_RC) (N := 8) hx hb hg in_RC hown hK hP 0 rfl rfl 0 (by decide) (hg _ k258) (fun _ h9 => h9) rfl d_RC_getBits_1 ?_
  refine lv_iload_n hx hb d_RC_getBits_4 rfl (lv_at hl 1 rfl) ?_
  refine my_ci (wr := [(rc, Sum.inr (6, [Value.ref co, Value.ref ma, Value.int (nI k), Value.int fit, Value.int fen, Value.int frd, Value.int fbd, Value.int fir]))]) (va_runU (As := [Value.int wd]) (rest := []) ⟨hx, hb, hml, hown, hts⟩ (f_Carries_hasWidth l dC dI cI cM cO H.size co xcache xpending xlow xrange xcode xreadLow xreadRange ri ro rw xasked wd) (va_cwU 1 hts (my_gU k543 k545 k547 k544 k3 k553) rfl rfl rfl rfl (by decide +kernel) ⟨by rw [hR]; exact Nat.le_of_ble_eq_true rfl, by rw [hR]; exact Nat.le_of_ble_eq_true rfl⟩) (my_preV hK hN (hP.sub [1] rfl) (hD.sub [1] (by decide +kernel) rfl) 0 rfl rfl) rfl rfl hl.1 rfl (lv_room (Nat.le_of_ble_eq_true rfl)) d_RC_getBits_5 ⟨by rw [hR]; exact Nat.le_of_ble_eq_true rfl, by rw [hR]; exact Nat.le_of_ble_eq_true rfl⟩) hP hD hS hA [1] [0] rfl rfl (by decide +kernel) (by decide +kernel) (fun r_5 u9 H locs hw_5 hP hD hS => ?_)
  have hr_5 : r_5 = if 1 ≤ wd ∧ wd ≤ nI 12 then 1 else 0 := hw_5
  have hPD : my_PD (dC, dI) vwCl A [(rc, Sum.inr (6, [Value.ref co, Value.ref ma, Value.int (nI k), Value.int fit, Value.int fen, Value.int frd, Value.int fbd, Value.int fir])), (co, Sum.inr (1, [Value.int xcache, Value.int xpending, Value.long xlow, Value.long xrange, Value.long xcode, Value.long xreadLow, Value.long xreadRange, Value.ref ri, Value.ref ro, Value.ref rw, Value.int xasked]))] H := ⟨hP, hD⟩
  have hP := hPD.1
  have hD := hPD.2
  refine lv_if_ne (tgt := 14) hx hb d_RC_getBits_8 (by decide) (fun c_1 => ?_) (fun c_1 => ?_)
  · exact absurd (one_ne hr_5 c_1) hbad
  · refine lv_bipush (v := (-2)) hx hb d_RC_getBits_11 (by decide) ?_
    exact my_iret (v := (-2)) hx hb hr (rfl) hlocks hQ hK hS (Nat.le_refl _) (Nat.le_refl _) () (rfl) (hP.sub [0, 1] rfl) (hD.sub [0, 1] (by decide +kernel) rfl) d_RC_getBits_13
set_option maxHeartbeats 2000000 in
set_option maxRecDepth 100000 in
theorem f_RC_gbN_Carries (l : Launch) (dC : Nat → ClassId) (dI : Nat → Nat → Nat) (cI cM cO : ClassId) (sz : Nat) (rc : Nat) (ma : Nat) (k : Nat) (fit : Int32) (fen : Int32) (frd : Int32) (fbd : Int32) (fir : Int32) (mf : Nat → Option Nat) (co : Nat) (xcache : Int32) (xpending : Int32) (xlow : Int64) (xrange : Int64) (xcode : Int64) (xreadLow : Int64) (xreadRange : Int64) (ri : Nat) (ro : Nat) (rw : Nat) (xasked : Int32) (b : Nat) (hb1 : 1 ≤ b) (hb2 : b ≤ 12) (hrd : frd = 0) : MetI l y_RC_getBits (Cond.code y_RC_getBits prog_1_method_14_code 2 (some .int) :: gw) ({ frames := 1, cells := 0, slots := 0, locals := 21 } : Room) (dC, dI) vwCl (kT cI cM cO) [Value.ref rc, Value.int (nI b)] [(rc, Sum.inr (6, [Value.ref co, Value.ref ma, Value.int (nI k), Value.int fit, Value.int fen, Value.int frd, Value.int fbd, Value.int fir])), (co, Sum.inr (1, [Value.int xcache, Value.int xpending, Value.long xlow, Value.long xrange, Value.long xcode, Value.long xreadLow, Value.long xreadRange, Value.ref ri, Value.ref ro, Value.ref rw, Value.int xasked]))] sz (fun (r : Int32) (u : Unit) => r = -3) (fun (u : Unit) => [(rc, Sum.inr (6, [Value.ref co, Value.ref ma, Value.int (nI k), Value.int fit, Value.int fen, Value.int frd, Value.int fbd, Value.int fir])), (co, Sum.inr (1, [Value.int xcache, Value.int xpending, Value.long xlow, Value.long xrange, Value.long xcode, Value.long xreadLow, Value.long xreadRange, Value.ref ri, Value.ref ro, Value.ref rw, Value.int xasked]))]) 0 0 := by
  refine my_ofI (cc := prog_1_method_14_code) (n := 2) (ret := (some .int)) (by decide) rfl (Nat.le_of_ble_eq_true rfl) ?_
  intro p e s m args below meth c R Q A ls H locs hx hb hr hts hown hlocks hml hnm hR hQ hA hl hP hK hN hD hS
  have hg : ∀ w ∈ gw, w.before args s = true := fun w h => hts w (List.mem_cons_of_mem _ h)
  have hown : s.vm.findClass "RangeCoders" = some m.cls := hown
  have hl : lv_has ls 2 [(0, Value.ref rc), (1, Value.int (nI b))] := hl
  refine lv_aload_n hx hb d_RC_getBits_0 rfl (lv_at hl 0 rfl) ?_
  refine va_get (D := (dC, dI)) (ci := 6) (v := .ref co) (C := "RangeCoders") (T := T_RC) (N := 8) hx hb hg in_RC hown hK hP 0 rfl rfl 0 (by decide) (hg _ k258) (fun _ h9 => h9) rfl d_RC_getBits_1 ?_
  refine lv_iload_n hx hb d_RC_getBits_4 rfl (lv_at hl 1 rfl) ?_
  refine my_ci (wr := [(rc, Sum.inr (6, [Value.ref co, Value.ref ma, Value.int (nI k), Value.int fit, Value.int fen, Value.int frd, Value.int fbd, Value.int fir]))]) (va_runU (As := [Value.int (nI b)]) (rest := []) ⟨hx, hb, hml, hown, hts⟩ (f_Carries_hasWidth l dC dI cI cM cO H.size co xcache xpending xlow xrange xcode xreadLow xreadRange ri ro rw xasked (nI b)) (va_cwU 1 hts (my_gU k543 k545 k547 k544 k3 k553) rfl rfl rfl rfl (by decide +kernel) ⟨by rw [hR]; exact Nat.le_of_ble_eq_true rfl, by rw [hR]; exact Nat.le_of_ble_eq_true rfl⟩) (my_preV hK hN (hP.sub [1] rfl) (hD.sub [1] (by decide +kernel) rfl) 0 rfl rfl) rfl rfl hl.1 rfl (lv_room (Nat.le_of_ble_eq_true rfl)) d_RC_getBits_5 ⟨by rw [hR]; exact Nat.le_of_ble_eq_true rfl, by rw [hR]; exact Nat.le_of_ble_eq_true rfl⟩) hP hD hS hA [1] [0] rfl rfl (by decide +kernel) (by decide +kernel) (fun r_5 u9 H locs hw_5 hP hD hS => ?_)
  have hr_5 : r_5 = if 1 ≤ (nI b) ∧ (nI b) ≤ nI 12 then 1 else 0 := hw_5
  have hPD : my_PD (dC, dI) vwCl A [(rc, Sum.inr (6, [Value.ref co, Value.ref ma, Value.int (nI k), Value.int fit, Value.int fen, Value.int frd, Value.int fbd, Value.int fir])), (co, Sum.inr (1, [Value.int xcache, Value.int xpending, Value.long xlow, Value.long xrange, Value.long xcode, Value.long xreadLow, Value.long xreadRange, Value.ref ri, Value.ref ro, Value.ref rw, Value.int xasked]))] H := ⟨hP, hD⟩
  have hP := hPD.1
  have hD := hPD.2
  refine lv_if_ne (tgt := 14) hx hb d_RC_getBits_8 (by decide) (fun c_1 => ?_) (fun c_1 => ?_)
  · refine lv_aload_n hx hb d_RC_getBits_14 rfl (lv_at hl 0 rfl) ?_
    refine va_get (D := (dC, dI)) (ci := 6) (v := .int frd) (C := "RangeCoders") (T := T_RC) (N := 8) hx hb hg in_RC hown hK hP 0 rfl rfl 5 (by decide) (hg _ k263) (fun _ h9 => h9) rfl d_RC_getBits_15 ?_
    refine lv_if_ne (tgt := 24) hx hb d_RC_getBits_18 (by decide) (fun c_2 => ?_) (fun c_2 => ?_)
    · exact absurd hrd c_2
    · refine lv_bipush (v := (-3)) hx hb d_RC_getBits_21 (by decide) ?_
      exact my_iret (v := (-3)) hx hb hr (rfl) hlocks hQ hK hS (Nat.le_refl _) (Nat.le_refl _) () (rfl) (hP.sub [0, 1] rfl) (hD.sub [0, 1] (by decide +kernel) rfl) d_RC_getBits_23
  · exact absurd (show 1 ≤ nI b ∧ nI b ≤ nI 12 from ⟨nI_le (a := 1) hb1 (by omega), nI_le hb2 (by decide)⟩) (one_eq hr_5 c_1)
set_option maxHeartbeats 2000000 in
set_option maxRecDepth 100000 in
theorem f_RC_gbB_Carries (l : Launch) (dC : Nat → ClassId) (dI : Nat → Nat → Nat) (cI cM cO : ClassId) (sz : Nat) (rc : Nat) (ma : Nat) (k : Nat) (fit : Int32) (fen : Int32) (frd : Int32) (fbd : Int32) (fir : Int32) (mf : Nat → Option Nat) (co : Nat) (xcache : Int32) (xpending : Int32) (xlow : Int64) (xrange : Int64) (xcode : Int64) (xreadLow : Int64) (xreadRange : Int64) (ri : Nat) (ro : Nat) (rw : Nat) (xasked : Int32) (b : Nat) (hb1 : 1 ≤ b) (hb2 : b ≤ 12) (hrd : ¬ frd = 0) (hbd : ¬ fbd = 0) : MetI l y_RC_getBits (Cond.code y_RC_getBits prog_1_method_14_code 2 (some .int) :: gw) ({ frames := 1, cells := 0, slots := 0, locals := 21 } : Room) (dC, dI) vwCl (kT cI cM cO) [Value.ref rc, Value.int (nI b)] [(rc, Sum.inr (6, [Value.ref co, Value.ref ma, Value.int (nI k), Value.int fit, Value.int fen, Value.int frd, Value.int fbd, Value.int fir])), (co, Sum.inr (1, [Value.int xcache, Value.int xpending, Value.long xlow, Value.long xrange, Value.long xcode, Value.long xreadLow, Value.long xreadRange, Value.ref ri, Value.ref ro, Value.ref rw, Value.int xasked]))] sz (fun (r : Int32) (u : Unit) => r = -5) (fun (u : Unit) => [(rc, Sum.inr (6, [Value.ref co, Value.ref ma, Value.int (nI k), Value.int fit, Value.int fen, Value.int frd, Value.int fbd, Value.int fir])), (co, Sum.inr (1, [Value.int xcache, Value.int xpending, Value.long xlow, Value.long xrange, Value.long xcode, Value.long xreadLow, Value.long xreadRange, Value.ref ri, Value.ref ro, Value.ref rw, Value.int xasked]))]) 0 0 := by
  refine my_ofI (cc := prog_1_method_14_code) (n := 2) (ret := (some .int)) (by decide) rfl (Nat.le_of_ble_eq_true rfl) ?_
  intro p e s m args below meth c R Q A ls H locs hx hb hr hts hown hlocks hml hnm hR hQ hA hl hP hK hN hD hS
  have hg : ∀ w ∈ gw, w.before args s = true := fun w h => hts w (List.mem_cons_of_mem _ h)
  have hown : s.vm.findClass "RangeCoders" = some m.cls := hown
  have hl : lv_has ls 2 [(0, Value.ref rc), (1, Value.int (nI b))] := hl
  refine lv_aload_n hx hb d_RC_getBits_0 rfl (lv_at hl 0 rfl) ?_
  refine va_get (D := (dC, dI)) (ci := 6) (v := .ref co) (C := "RangeCoders") (T := T_RC) (N := 8) hx hb hg in_RC hown hK hP 0 rfl rfl 0 (by decide) (hg _ k258) (fun _ h9 => h9) rfl d_RC_getBits_1 ?_
  refine lv_iload_n hx hb d_RC_getBits_4 rfl (lv_at hl 1 rfl) ?_
  refine my_ci (wr := [(rc, Sum.inr (6, [Value.ref co, Value.ref ma, Value.int (nI k), Value.int fit, Value.int fen, Value.int frd, Value.int fbd, Value.int fir]))]) (va_runU (As := [Value.int (nI b)]) (rest := []) ⟨hx, hb, hml, hown, hts⟩ (f_Carries_hasWidth l dC dI cI cM cO H.size co xcache xpending xlow xrange xcode xreadLow xreadRange ri ro rw xasked (nI b)) (va_cwU 1 hts (my_gU k543 k545 k547 k544 k3 k553) rfl rfl rfl rfl (by decide +kernel) ⟨by rw [hR]; exact Nat.le_of_ble_eq_true rfl, by rw [hR]; exact Nat.le_of_ble_eq_true rfl⟩) (my_preV hK hN (hP.sub [1] rfl) (hD.sub [1] (by decide +kernel) rfl) 0 rfl rfl) rfl rfl hl.1 rfl (lv_room (Nat.le_of_ble_eq_true rfl)) d_RC_getBits_5 ⟨by rw [hR]; exact Nat.le_of_ble_eq_true rfl, by rw [hR]; exact Nat.le_of_ble_eq_true rfl⟩) hP hD hS hA [1] [0] rfl rfl (by decide +kernel) (by decide +kernel) (fun r_5 u9 H locs hw_5 hP hD hS => ?_)
  have hr_5 : r_5 = if 1 ≤ (nI b) ∧ (nI b) ≤ nI 12 then 1 else 0 := hw_5
  have hPD : my_PD (dC, dI) vwCl A [(rc, Sum.inr (6, [Value.ref co, Value.ref ma, Value.int (nI k), Value.int fit, Value.int fen, Value.int frd, Value.int fbd, Value.int fir])), (co, Sum.inr (1, [Value.int xcache, Value.int xpending, Value.long xlow, Value.long xrange, Value.long xcode, Value.long xreadLow, Value.long xreadRange, Value.ref ri, Value.ref ro, Value.ref rw, Value.int xasked]))] H := ⟨hP, hD⟩
  have hP := hPD.1
  have hD := hPD.2
  refine lv_if_ne (tgt := 14) hx hb d_RC_getBits_8 (by decide) (fun c_1 => ?_) (fun c_1 => ?_)
  · refine lv_aload_n hx hb d_RC_getBits_14 rfl (lv_at hl 0 rfl) ?_
    refine va_get (D := (dC, dI)) (ci := 6) (v := .int frd) (C := "RangeCoders") (T := T_RC) (N := 8) hx hb hg in_RC hown hK hP 0 rfl rfl 5 (by decide) (hg _ k263) (fun _ h9 => h9) rfl d_RC_getBits_15 ?_
    refine lv_if_ne (tgt := 24) hx hb d_RC_getBits_18 (by decide) (fun c_2 => ?_) (fun c_2 => ?_)
    · refine lv_aload_n hx hb d_RC_getBits_24 rfl (lv_at hl 0 rfl) ?_
      refine va_get (D := (dC, dI)) (ci := 6) (v := .int fbd) (C := "RangeCoders") (T := T_RC) (N := 8) hx hb hg in_RC hown hK hP 0 rfl rfl 6 (by decide) (hg _ k264) (fun _ h9 => h9) rfl d_RC_getBits_25 ?_
      refine lv_if_eq (tgt := 36) hx hb d_RC_getBits_28 (by decide) (fun c_3 => ?_) (fun c_3 => ?_)
      · exact absurd c_3 hbd
      · refine lv_bipush (v := (-5)) hx hb d_RC_getBits_31 (by decide) ?_
        refine lv_goto (tgt := 48) hx hb d_RC_getBits_33 (by decide) ?_
        exact my_iret (v := (-5)) hx hb hr (rfl) hlocks hQ hK hS (Nat.le_refl _) (Nat.le_refl _) () (rfl) (hP.sub [0, 1] rfl) (hD.sub [0, 1] (by decide +kernel) rfl) d_RC_getBits_48
    · exact absurd c_2 hrd
  · exact absurd (show 1 ≤ nI b ∧ nI b ≤ nI 12 from ⟨nI_le (a := 1) hb1 (by omega), nI_le hb2 (by decide)⟩) (one_eq hr_5 c_1)
set_option maxHeartbeats 2000000 in
set_option maxRecDepth 100000 in
theorem f_RC_gbL_Carries (l : Launch) (dC : Nat → ClassId) (dI : Nat → Nat → Nat) (cI cM cO : ClassId) (sz : Nat) (rc : Nat) (ma : Nat) (k : Nat) (fit : Int32) (fen : Int32) (frd : Int32) (fir : Int32) (mf : Nat → Option Nat) (co : Nat) (xcache : Int32) (xpending : Int32) (xlow : Int64) (xrange : Int64) (ri : Nat) (ro : Nat) (rw : Nat) (ria : Nat) (rik : Nat) (rif : Nat → Int32) (is : List Nat) (RR : Nat) (CD : Nat) (q : Nat) (b : Nat) (s9 : Nat) (hb1 : 1 ≤ b) (hb2 : b ≤ 12) (hrd : ¬ frd = 0) (hri : rOk (nI is.length) rik) (hGri : gIs rif is) (hLri : is.length ≤ 6000) (hoct : oct is) (hR1 : RR < 4294967296) (hC : CD < 4294967296) (hq : q < 900000000) (hG : (gv0 is b (RR, CD, q)).1 = some s9) (hsv9 : s9 < 2147483648) : MetI l y_RC_getBits (Cond.code y_RC_getBits prog_1_method_14_code 2 (some .int) :: gw) ({ frames := 6, cells := 0, slots := 0, locals := 131 } : Room) (dC, dI) vwCl (kT cI cM cO) [Value.ref rc, Value.int (nI b)] [(rc, Sum.inr (6, [Value.ref co, Value.ref ma, Value.int (nI k), Value.int fit, Value.int fen, Value.int frd, Value.int 0, Value.int fir])), (co, Sum.inr (1, [Value.int xcache, Value.int xpending, Value.long xlow, Value.long xrange, Value.long (lN CD), Value.long (lN 0), Value.long (lN RR), Value.ref ri, Value.ref ro, Value.ref rw, Value.int (nI q)])), (ri, Sum.inr (0, [Value.int (nI is.length), Value.ref ria])), (ria, Sum.inl (cI, rik, Sum.inl rif))] sz (fun (r : Int32) (u : Unit) => r = nI s9) (fun (u : Unit) => [(rc, Sum.inr (6, [Value.ref co, Value.ref ma, Value.int (nI k), Value.int fit, Value.int fen, Value.int frd, Value.int 0, Value.int (fir + 1)])), (co, Sum.inr (1, [Value.int xcache, Value.int xpending, Value.long xlow, Value.long xrange, Value.long (lN ((gv0 is b (RR, CD, q)).2).2.1), Value.long (lN 0), Value.long (lN ((gv0 is b (RR, CD, q)).2).1), Value.ref ri, Value.ref ro, Value.ref rw, Value.int (nI ((gv0 is b (RR, CD, q)).2).2.2)])), (ri, Sum.inr (0, [Value.int (nI is.length), Value.ref ria])), (ria, Sum.inl (cI, rik, Sum.inl rif))]) 0 0 := by
  refine my_ofI (cc := prog_1_method_14_code) (n := 2) (ret := (some .int)) (by decide) rfl (Nat.le_of_ble_eq_true rfl) ?_
  intro p e s m args below meth c R Q A ls H locs hx hb hr hts hown hlocks hml hnm hR hQ hA hl hP hK hN hD hS
  have hg : ∀ w ∈ gw, w.before args s = true := fun w h => hts w (List.mem_cons_of_mem _ h)
  have hown : s.vm.findClass "RangeCoders" = some m.cls := hown
  have hl : lv_has ls 2 [(0, Value.ref rc), (1, Value.int (nI b))] := hl
  refine lv_aload_n hx hb d_RC_getBits_0 rfl (lv_at hl 0 rfl) ?_
  refine va_get (D := (dC, dI)) (ci := 6) (v := .ref co) (C := "RangeCoders") (T := T_RC) (N := 8) hx hb hg in_RC hown hK hP 0 rfl rfl 0 (by decide) (hg _ k258) (fun _ h9 => h9) rfl d_RC_getBits_1 ?_
  refine lv_iload_n hx hb d_RC_getBits_4 rfl (lv_at hl 1 rfl) ?_
  refine my_ci (wr := [(rc, Sum.inr (6, [Value.ref co, Value.ref ma, Value.int (nI k), Value.int fit, Value.int fen, Value.int frd, Value.int 0, Value.int fir])), (ri, Sum.inr (0, [Value.int (nI is.length), Value.ref ria])), (ria, Sum.inl (cI, rik, Sum.inl rif))]) (va_runU (As := [Value.int (nI b)]) (rest := []) ⟨hx, hb, hml, hown, hts⟩ (f_Carries_hasWidth l dC dI cI cM cO H.size co xcache xpending xlow xrange (lN CD) (lN 0) (lN RR) ri ro rw (nI q) (nI b)) (va_cwU 1 hts (my_gU k543 k545 k547 k544 k3 k553) rfl rfl rfl rfl (by decide +kernel) ⟨by rw [hR]; exact Nat.le_of_ble_eq_true rfl, by rw [hR]; exact Nat.le_of_ble_eq_true rfl⟩) (my_preV hK hN (hP.sub [1] rfl) (hD.sub [1] (by decide +kernel) rfl) 0 rfl rfl) rfl rfl hl.1 rfl (lv_room (Nat.le_of_ble_eq_true rfl)) d_RC_getBits_5 ⟨by rw [hR]; exact Nat.le_of_ble_eq_true rfl, by rw [hR]; exact Nat.le_of_ble_eq_true rfl⟩) hP hD hS hA [1] [0, 2, 3] rfl rfl (by decide +kernel) (by decide +kernel) (fun r_5 u9 H locs hw_5 hP hD hS => ?_)
  have hr_5 : r_5 = if 1 ≤ (nI b) ∧ (nI b) ≤ nI 12 then 1 else 0 := hw_5
  have hPD : my_PD (dC, dI) vwCl A [(rc, Sum.inr (6, [Value.ref co, Value.ref ma, Value.int (nI k), Value.int fit, Value.int fen, Value.int frd, Value.int 0, Value.int fir])), (ri, Sum.inr (0, [Value.int (nI is.length), Value.ref ria])), (ria, Sum.inl (cI, rik, Sum.inl rif)), (co, Sum.inr (1, [Value.int xcache, Value.int xpending, Value.long xlow, Value.long xrange, Value.long (lN CD), Value.long (lN 0), Value.long (lN RR), Value.ref ri, Value.ref ro, Value.ref rw, Value.int (nI q)]))] H := ⟨hP, hD⟩
  have hP := hPD.1
  have hD := hPD.2
  refine lv_if_ne (tgt := 14) hx hb d_RC_getBits_8 (by decide) (fun c_1 => ?_) (fun c_1 => ?_)
  · refine lv_aload_n hx hb d_RC_getBits_14 rfl (lv_at hl 0 rfl) ?_
    refine va_get (D := (dC, dI)) (ci := 6) (v := .int frd) (C := "RangeCoders") (T := T_RC) (N := 8) hx hb hg in_RC hown hK hP 0 rfl rfl 5 (by decide) (hg _ k263) (fun _ h9 => h9) rfl d_RC_getBits_15 ?_
    refine lv_if_ne (tgt := 24) hx hb d_RC_getBits_18 (by decide) (fun c_2 => ?_) (fun c_2 => ?_)
    · refine lv_aload_n hx hb d_RC_getBits_24 rfl (lv_at hl 0 rfl) ?_
      refine va_get (D := (dC, dI)) (ci := 6) (v := .int 0) (C := "RangeCoders") (T := T_RC) (N := 8) hx hb hg in_RC hown hK hP 0 rfl rfl 6 (by decide) (hg _ k264) (fun _ h9 => h9) rfl d_RC_getBits_25 ?_
      refine lv_if_eq (tgt := 36) hx hb d_RC_getBits_28 (by decide) (fun c_3 => ?_) (fun c_3 => ?_)
      · refine lv_aload_n hx hb d_RC_getBits_36 rfl (lv_at hl 0 rfl) ?_
        refine lv_aload_n hx hb d_RC_getBits_37 rfl (lv_at hl 0 rfl) ?_
        refine va_get (D := (dC, dI)) (ci := 6) (v := .ref co) (C := "RangeCoders") (T := T_RC) (N := 8) hx hb hg in_RC hown hK hP 0 rfl rfl 0 (by decide) (hg _ k258) (fun _ h9 => h9) rfl d_RC_getBits_38 ?_
        refine lv_iload_n hx hb d_RC_getBits_41 rfl (lv_at hl 1 rfl) ?_
        refine my_ci (wr := [(rc, Sum.inr (6, [Value.ref co, Value.ref ma, Value.int (nI k), Value.int fit, Value.int fen, Value.int frd, Value.int 0, Value.int fir]))]) (va_runU (As := [Value.int (nI b)]) (rest := [Value.ref rc]) ⟨hx, hb, hml, hown, hts⟩ (f_Carries_nextValue l dC dI cI cM cO H.size co xcache xpending xlow xrange ri ro rw ria rik rif is RR CD q b (by first | assumption | omega) (by first | assumption | omega) (by first | assumption | omega) (by first | assumption | omega) (hb1) (by omega) (by first | assumption | omega) (by first | assumption | omega) (by first | assumption | omega)) (va_cwA 1 hts (my_gU k862 k864 k868 k869 k4 k870) rfl rfl rfl (hN.1 _ j863 rfl) (by decide +kernel) ⟨by rw [hR]; exact Nat.le_of_ble_eq_true rfl, by rw [hR]; exact Nat.le_of_ble_eq_true rfl⟩) (my_preV hK hN (hP.sub [3, 1, 2] rfl) (hD.sub [3, 1, 2] (by decide +kernel) rfl) 0 rfl rfl) rfl rfl hl.1 rfl (lv_room (Nat.le_of_ble_eq_true rfl)) d_RC_getBits_42 ⟨by rw [hR]; exact Nat.le_of_ble_eq_true rfl, by rw [hR]; exact Nat.le_of_ble_eq_true rfl⟩) hP hD hS hA [3, 1, 2] [0] rfl rfl (by decide +kernel) (by decide +kernel) (fun r_42 u9 H locs hw_42 hP hD hS => ?_)
        have hr_42 : r_42 = oI (gv0 is b (RR, CD, q)).1 := hw_42
        have hPD : my_PD (dC, dI) vwCl A [(rc, Sum.inr (6, [Value.ref co, Value.ref ma, Value.int (nI k), Value.int fit, Value.int fen, Value.int frd, Value.int 0, Value.int fir])), (co, Sum.inr (1, [Value.int xcache, Value.int xpending, Value.long xlow, Value.long xrange, Value.long (lN ((gv0 is b (RR, CD, q)).2).2.1), Value.long (lN 0), Value.long (lN ((gv0 is b (RR, CD, q)).2).1), Value.ref ri, Value.ref ro, Value.ref rw, Value.int (nI ((gv0 is b (RR, CD, q)).2).2.2)])), (ri, Sum.inr (0, [Value.int (nI is.length), Value.ref ria])), (ria, Sum.inl (cI, rik, Sum.inl rif))] H := ⟨hP, hD⟩
        have hP := hPD.1
        have hD := hPD.2
        have z9 : r_42 = nI s9 := by rw [hr_42, hG]; rfl
        subst z9
        refine my_ci (wr := [(co, Sum.inr (1, [Value.int xcache, Value.int xpending, Value.long xlow, Value.long xrange, Value.long (lN ((gv0 is b (RR, CD, q)).2).2.1), Value.long (lN 0), Value.long (lN ((gv0 is b (RR, CD, q)).2).1), Value.ref ri, Value.ref ro, Value.ref rw, Value.int (nI ((gv0 is b (RR, CD, q)).2).2.2)])), (ri, Sum.inr (0, [Value.int (nI is.length), Value.ref ria])), (ria, Sum.inl (cI, rik, Sum.inl rif))]) (va_runV (As := [Value.int (nI s9)]) (rest := []) ⟨hx, hb, hml, hown, hts⟩ (f_RC_itemOk l dC dI cI cM cO H.size rc ma k fit fen frd 0 fir mf co s9 (by first | assumption | omega)) (cwV 1 hts (my_gV k854 k856 ks17 k1 k857) rfl rfl rfl cu_RC_itemOrBad_1 ⟨by rw [hR]; exact Nat.le_of_ble_eq_true rfl, by rw [hR]; exact Nat.le_of_ble_eq_true rfl⟩) (my_preV hK hN (hP.sub [0] rfl) (hD.sub [0] (by decide +kernel) rfl) 0 rfl rfl) rfl rfl hl.1 rfl (lv_room (Nat.le_of_ble_eq_true rfl)) d_RC_getBits_45 ⟨by rw [hR]; exact Nat.le_of_ble_eq_true rfl, by rw [hR]; exact Nat.le_of_ble_eq_true rfl⟩) hP hD hS hA [0] [1, 2, 3] rfl rfl (by decide +kernel) (by decide +kernel) (fun r_45 u9 H locs hw_45 hP hD hS => ?_)
        have hr_45 : r_45 = nI s9 := hw_45
        have hPD : my_PD (dC, dI) vwCl A [(co, Sum.inr (1, [Value.int xcache, Value.int xpending, Value.long xlow, Value.long xrange, Value.long (lN ((gv0 is b (RR, CD, q)).2).2.1), Value.long (lN 0), Value.long (lN ((gv0 is b (RR, CD, q)).2).1), Value.ref ri, Value.ref ro, Value.ref rw, Value.int (nI ((gv0 is b (RR, CD, q)).2).2.2)])), (ri, Sum.inr (0, [Value.int (nI is.length), Value.ref ria])), (ria, Sum.inl (cI, rik, Sum.inl rif)), (rc, Sum.inr (6, [Value.ref co, Value.ref ma, Value.int (nI k), Value.int fit, Value.int fen, Value.int frd, Value.int 0, Value.int (fir + 1)]))] H := ⟨hP, hD⟩
        have hP := hPD.1
        have hD := hPD.2
        exact my_iret (v := r_45) hx hb hr (rfl) hlocks hQ hK hS (Nat.le_refl _) (Nat.le_refl _) () (hr_45) (hP.sub [3, 0, 1, 2] rfl) (hD.sub [3, 0, 1, 2] (by decide +kernel) rfl) d_RC_getBits_48
      · exact absurd (by decide) c_3
    · exact absurd c_2 hrd
  · exact absurd (show 1 ≤ nI b ∧ nI b ≤ nI 12 from ⟨nI_le (a := 1) hb1 (by omega), nI_le hb2 (by decide)⟩) (one_eq hr_5 c_1)
set_option maxHeartbeats 2000000 in
set_option maxRecDepth 100000 in
theorem f_RC_gbX_Carries (l : Launch) (dC : Nat → ClassId) (dI : Nat → Nat → Nat) (cI cM cO : ClassId) (sz : Nat) (rc : Nat) (ma : Nat) (k : Nat) (fit : Int32) (fen : Int32) (frd : Int32) (fir : Int32) (mf : Nat → Option Nat) (co : Nat) (xcache : Int32) (xpending : Int32) (xlow : Int64) (xrange : Int64) (ri : Nat) (ro : Nat) (rw : Nat) (ria : Nat) (rik : Nat) (rif : Nat → Int32) (is : List Nat) (RR : Nat) (CD : Nat) (q : Nat) (b : Nat) (hb1 : 1 ≤ b) (hb2 : b ≤ 12) (hrd : ¬ frd = 0) (hri : rOk (nI is.length) rik) (hGri : gIs rif is) (hLri : is.length ≤ 6000) (hoct : oct is) (hR1 : RR < 4294967296) (hC : CD < 4294967296) (hq : q < 900000000) (hG : (gv0 is b (RR, CD, q)).1 = none) : MetI l y_RC_getBits (Cond.code y_RC_getBits prog_1_method_14_code 2 (some .int) :: gw) ({ frames := 6, cells := 0, slots := 0, locals := 131 } : Room) (dC, dI) vwCl (kT cI cM cO) [Value.ref rc, Value.int (nI b)] [(rc, Sum.inr (6, [Value.ref co, Value.ref ma, Value.int (nI k), Value.int fit, Value.int fen, Value.int frd, Value.int 0, Value.int fir])), (co, Sum.inr (1, [Value.int xcache, Value.int xpending, Value.long xlow, Value.long xrange, Value.long (lN CD), Value.long (lN 0), Value.long (lN RR), Value.ref ri, Value.ref ro, Value.ref rw, Value.int (nI q)])), (ri, Sum.inr (0, [Value.int (nI is.length), Value.ref ria])), (ria, Sum.inl (cI, rik, Sum.inl rif))] sz (fun (r : Int32) (u : Unit) => r = -5) (fun (u : Unit) => [(rc, Sum.inr (6, [Value.ref co, Value.ref ma, Value.int (nI k), Value.int fit, Value.int fen, Value.int frd, Value.int 1, Value.int fir])), (co, Sum.inr (1, [Value.int xcache, Value.int xpending, Value.long xlow, Value.long xrange, Value.long (lN ((gv0 is b (RR, CD, q)).2).2.1), Value.long (lN 0), Value.long (lN ((gv0 is b (RR, CD, q)).2).1), Value.ref ri, Value.ref ro, Value.ref rw, Value.int (nI ((gv0 is b (RR, CD, q)).2).2.2)])), (ri, Sum.inr (0, [Value.int (nI is.length), Value.ref ria])), (ria, Sum.inl (cI, rik, Sum.inl rif))]) 0 0 := by
  refine my_ofI (cc := prog_1_method_14_code) (n := 2) (ret := (some .int)) (by decide) rfl (Nat.le_of_ble_eq_true rfl) ?_
  intro p e s m args below meth c R Q A ls H locs hx hb hr hts hown hlocks hml hnm hR hQ hA hl hP hK hN hD hS
  have hg : ∀ w ∈ gw, w.before args s = true := fun w h => hts w (List.mem_cons_of_mem _ h)
  have hown : s.vm.findClass "RangeCoders" = some m.cls := hown
  have hl : lv_has ls 2 [(0, Value.ref rc), (1, Value.int (nI b))] := hl
  refine lv_aload_n hx hb d_RC_getBits_0 rfl (lv_at hl 0 rfl) ?_
  refine va_get (D := (dC, dI)) (ci := 6) (v := .ref co) (C := "RangeCoders") (T := T_RC) (N := 8) hx hb hg in_RC hown hK hP 0 rfl rfl 0 (by decide) (hg _ k258) (fun _ h9 => h9) rfl d_RC_getBits_1 ?_
  refine lv_iload_n hx hb d_RC_getBits_4 rfl (lv_at hl 1 rfl) ?_
  refine my_ci (wr := [(rc, Sum.inr (6, [Value.ref co, Value.ref ma, Value.int (nI k), Value.int fit, Value.int fen, Value.int frd, Value.int 0, Value.int fir])), (ri, Sum.inr (0, [Value.int (nI is.length), Value.ref ria])), (ria, Sum.inl (cI, rik, Sum.inl rif))]) (va_runU (As := [Value.int (nI b)]) (rest := []) ⟨hx, hb, hml, hown, hts⟩ (f_Carries_hasWidth l dC dI cI cM cO H.size co xcache xpending xlow xrange (lN CD) (lN 0) (lN RR) ri ro rw (nI q) (nI b)) (va_cwU 1 hts (my_gU k543 k545 k547 k544 k3 k553) rfl rfl rfl rfl (by decide +kernel) ⟨by rw [hR]; exact Nat.le_of_ble_eq_true rfl, by rw [hR]; exact Nat.le_of_ble_eq_true rfl⟩) (my_preV hK hN (hP.sub [1] rfl) (hD.sub [1] (by decide +kernel) rfl) 0 rfl rfl) rfl rfl hl.1 rfl (lv_room (Nat.le_of_ble_eq_true rfl)) d_RC_getBits_5 ⟨by rw [hR]; exact Nat.le_of_ble_eq_true rfl, by rw [hR]; exact Nat.le_of_ble_eq_true rfl⟩) hP hD hS hA [1] [0, 2, 3] rfl rfl (by decide +kernel) (by decide +kernel) (fun r_5 u9 H locs hw_5 hP hD hS => ?_)
  have hr_5 : r_5 = if 1 ≤ (nI b) ∧ (nI b) ≤ nI 12 then 1 else 0 := hw_5
  have hPD : my_PD (dC, dI) vwCl A [(rc, Sum.inr (6, [Value.ref co, Value.ref ma, Value.int (nI k), Value.int fit, Value.int fen, Value.int frd, Value.int 0, Value.int fir])), (ri, Sum.inr (0, [Value.int (nI is.length), Value.ref ria])), (ria, Sum.inl (cI, rik, Sum.inl rif)), (co, Sum.inr (1, [Value.int xcache, Value.int xpending, Value.long xlow, Value.long xrange, Value.long (lN CD), Value.long (lN 0), Value.long (lN RR), Value.ref ri, Value.ref ro, Value.ref rw, Value.int (nI q)]))] H := ⟨hP, hD⟩
  have hP := hPD.1
  have hD := hPD.2
  refine lv_if_ne (tgt := 14) hx hb d_RC_getBits_8 (by decide) (fun c_1 => ?_) (fun c_1 => ?_)
  · refine lv_aload_n hx hb d_RC_getBits_14 rfl (lv_at hl 0 rfl) ?_
    refine va_get (D := (dC, dI)) (ci := 6) (v := .int frd) (C := "RangeCoders") (T := T_RC) (N := 8) hx hb hg in_RC hown hK hP 0 rfl rfl 5 (by decide) (hg _ k263) (fun _ h9 => h9) rfl d_RC_getBits_15 ?_
    refine lv_if_ne (tgt := 24) hx hb d_RC_getBits_18 (by decide) (fun c_2 => ?_) (fun c_2 => ?_)
    · refine lv_aload_n hx hb d_RC_getBits_24 rfl (lv_at hl 0 rfl) ?_
      refine va_get (D := (dC, dI)) (ci := 6) (v := .int 0) (C := "RangeCoders") (T := T_RC) (N := 8) hx hb hg in_RC hown hK hP 0 rfl rfl 6 (by decide) (hg _ k264) (fun _ h9 => h9) rfl d_RC_getBits_25 ?_
      refine lv_if_eq (tgt := 36) hx hb d_RC_getBits_28 (by decide) (fun c_3 => ?_) (fun c_3 => ?_)
      · refine lv_aload_n hx hb d_RC_getBits_36 rfl (lv_at hl 0 rfl) ?_
        refine lv_aload_n hx hb d_RC_getBits_37 rfl (lv_at hl 0 rfl) ?_
        refine va_get (D := (dC, dI)) (ci := 6) (v := .ref co) (C := "RangeCoders") (T := T_RC) (N := 8) hx hb hg in_RC hown hK hP 0 rfl rfl 0 (by decide) (hg _ k258) (fun _ h9 => h9) rfl d_RC_getBits_38 ?_
        refine lv_iload_n hx hb d_RC_getBits_41 rfl (lv_at hl 1 rfl) ?_
        refine my_ci (wr := [(rc, Sum.inr (6, [Value.ref co, Value.ref ma, Value.int (nI k), Value.int fit, Value.int fen, Value.int frd, Value.int 0, Value.int fir]))]) (va_runU (As := [Value.int (nI b)]) (rest := [Value.ref rc]) ⟨hx, hb, hml, hown, hts⟩ (f_Carries_nextValue l dC dI cI cM cO H.size co xcache xpending xlow xrange ri ro rw ria rik rif is RR CD q b (by first | assumption | omega) (by first | assumption | omega) (by first | assumption | omega) (by first | assumption | omega) (hb1) (by omega) (by first | assumption | omega) (by first | assumption | omega) (by first | assumption | omega)) (va_cwA 1 hts (my_gU k862 k864 k868 k869 k4 k870) rfl rfl rfl (hN.1 _ j863 rfl) (by decide +kernel) ⟨by rw [hR]; exact Nat.le_of_ble_eq_true rfl, by rw [hR]; exact Nat.le_of_ble_eq_true rfl⟩) (my_preV hK hN (hP.sub [3, 1, 2] rfl) (hD.sub [3, 1, 2] (by decide +kernel) rfl) 0 rfl rfl) rfl rfl hl.1 rfl (lv_room (Nat.le_of_ble_eq_true rfl)) d_RC_getBits_42 ⟨by rw [hR]; exact Nat.le_of_ble_eq_true rfl, by rw [hR]; exact Nat.le_of_ble_eq_true rfl⟩) hP hD hS hA [3, 1, 2] [0] rfl rfl (by decide +kernel) (by decide +kernel) (fun r_42 u9 H locs hw_42 hP hD hS => ?_)
        have hr_42 : r_42 = oI (gv0 is b (RR, CD, q)).1 := hw_42
        have hPD : my_PD (dC, dI) vwCl A [(rc, Sum.inr (6, [Value.ref co, Value.ref ma, Value.int (nI k), Value.int fit, Value.int fen, Value.int frd, Value.int 0, Value.int fir])), (co, Sum.inr (1, [Value.int xcache, Value.int xpending, Value.long xlow, Value.long xrange, Value.long (lN ((gv0 is b (RR, CD, q)).2).2.1), Value.long (lN 0), Value.long (lN ((gv0 is b (RR, CD, q)).2).1), Value.ref ri, Value.ref ro, Value.ref rw, Value.int (nI ((gv0 is b (RR, CD, q)).2).2.2)])), (ri, Sum.inr (0, [Value.int (nI is.length), Value.ref ria])), (ria, Sum.inl (cI, rik, Sum.inl rif))] H := ⟨hP, hD⟩
        have hP := hPD.1
        have hD := hPD.2
        have z9 : r_42 = (-1) := by rw [hr_42, hG]; rfl
        subst z9
        refine my_ci (wr := [(co, Sum.inr (1, [Value.int xcache, Value.int xpending, Value.long xlow, Value.long xrange, Value.long (lN ((gv0 is b (RR, CD, q)).2).2.1), Value.long (lN 0), Value.long (lN ((gv0 is b (RR, CD, q)).2).1), Value.ref ri, Value.ref ro, Value.ref rw, Value.int (nI ((gv0 is b (RR, CD, q)).2).2.2)])), (ri, Sum.inr (0, [Value.int (nI is.length), Value.ref ria])), (ria, Sum.inl (cI, rik, Sum.inl rif))]) (va_runV (As := [Value.int (-1)]) (rest := []) ⟨hx, hb, hml, hown, hts⟩ (f_RC_itemBad l dC dI cI cM cO H.size rc ma k fit fen frd 0 fir mf co) (cwV 1 hts (my_gV k854 k856 ks17 k1 k857) rfl rfl rfl cu_RC_itemOrBad_1 ⟨by rw [hR]; exact Nat.le_of_ble_eq_true rfl, by rw [hR]; exact Nat.le_of_ble_eq_true rfl⟩) (my_preV hK hN (hP.sub [0] rfl) (hD.sub [0] (by decide +kernel) rfl) 0 rfl rfl) rfl rfl hl.1 rfl (lv_room (Nat.le_of_ble_eq_true rfl)) d_RC_getBits_45 ⟨by rw [hR]; exact Nat.le_of_ble_eq_true rfl, by rw [hR]; exact Nat.le_of_ble_eq_true rfl⟩) hP hD hS hA [0] [1, 2, 3] rfl rfl (by decide +kernel) (by decide +kernel) (fun r_45 u9 H locs hw_45 hP hD hS => ?_)
        have hr_45 : r_45 = -5 := hw_45
        have hPD : my_PD (dC, dI) vwCl A [(co, Sum.inr (1, [Value.int xcache, Value.int xpending, Value.long xlow, Value.long xrange, Value.long (lN ((gv0 is b (RR, CD, q)).2).2.1), Value.long (lN 0), Value.long (lN ((gv0 is b (RR, CD, q)).2).1), Value.ref ri, Value.ref ro, Value.ref rw, Value.int (nI ((gv0 is b (RR, CD, q)).2).2.2)])), (ri, Sum.inr (0, [Value.int (nI is.length), Value.ref ria])), (ria, Sum.inl (cI, rik, Sum.inl rif)), (rc, Sum.inr (6, [Value.ref co, Value.ref ma, Value.int (nI k), Value.int fit, Value.int fen, Value.int frd, Value.int 1, Value.int fir]))] H := ⟨hP, hD⟩
        have hP := hPD.1
        have hD := hPD.2
        exact my_iret (v := r_45) hx hb hr (rfl) hlocks hQ hK hS (Nat.le_refl _) (Nat.le_refl _) () (hr_45) (hP.sub [3, 0, 1, 2] rfl) (hD.sub [3, 0, 1, 2] (by decide +kernel) rfl) d_RC_getBits_48
      · exact absurd (by decide) c_3
    · exact absurd c_2 hrd
  · exact absurd (show 1 ≤ nI b ∧ nI b ≤ nI 12 from ⟨nI_le (a := 1) hb1 (by omega), nI_le hb2 (by decide)⟩) (one_eq hr_5 c_1)
end
section
set_option maxHeartbeats 2000000 in
set_option maxRecDepth 100000 in
theorem f_RC_getL_NoCarries (l : Launch) (dC : Nat → ClassId) (dI : Nat → Nat → Nat) (cI cM cO : ClassId) (sz : Nat) (rc : Nat) (ma : Nat) (k : Nat) (fit : Int32) (fen : Int32) (frd : Int32) (fir : Int32) (mf : Nat → Option Nat) (j : Nat) (mo : Nat) (co : Nat) (ka : Nat) (o1 : Nat) (xlow : Int64) (xrange : Int64) (ri : Nat) (ro : Nat) (rw : Nat) (ria : Nat) (rik : Nat) (rif : Nat → Int32) (is : List Nat) (RR : Nat) (RL : Nat) (CD : Nat) (q : Nat) (oo : Nat) (osg : Int32) (ofc : Int32) (oca : Nat) (opa : Nat) (n : Nat) (ocf : Nat → Int32) (opl : Nat) (opf : Nat → Int32) (F : Nat → Nat) (s9 : Nat) (hk8 : k ≤ 8) (hj : j < k) (hmf : mf j = some mo) (hrd : ¬ frd = 0) (hri : rOk (nI is.length) rik) (hGri : gIs rif is) (hLri : is.length ≤ 6000) (hoct : oct is) (hn : n ≤ 64) (hpl : opl ≤ 512) (hf : tbI ocf n F) (hfc0 : ofc = 0) (hsum : ns F n ≤ 8192) (hp : pOk RR RL) (hC : CD < 4294967296) (hq : q < 900000000) (hG : (gr1 is n F (RR, RL, CD, q)).1 = some s9) (hsv9 : s9 < 2147483648) : MetI l y_RC_get (Cond.code y_RC_get prog_1_method_13_code 3 (some .int) :: gw) ({ frames := 5, cells := 0, slots := 0, locals := 112 } : Room) (dC, dI) vwCl (kT cI cM cO) [Value.ref rc, Value.int (nI j)] [(rc, Sum.inr (6, [Value.ref co, Value.ref ma, Value.int (nI k), Value.int fit, Value.int fen, Value.int frd, Value.int 0, Value.int fir])), (ma, Sum.inl (cM, 8, Sum.inr (Sum.inr (Sum.inr (Sum.inr mf))))), (mo, Sum.inr (8, [Value.ref ka, Value.ref o1, Value.ref oo])), (co, Sum.inr (2, [Value.long xlow, Value.long xrange, Value.long (lN CD), Value.long (lN RL), Value.long (lN RR), Value.ref ri, Value.ref ro, Value.ref rw, Value.int (nI q)])), (ri, Sum.inr (0, [Value.int (nI is.length), Value.ref ria])), (ria, Sum.inl (cI, rik, Sum.inl rif)), (oo, Sum.inr (7, [Value.int osg, Value.int (nI (ns F n)), Value.int ofc, Value.ref oca, Value.ref opa])), (oca, Sum.inl (cI, n, Sum.inl ocf)), (opa, Sum.inl (cI, opl, Sum.inl opf))] sz (fun (r : Int32) (u : (Nat → Int32)) => r = nI s9 ∧ tbI u n (gr1 is n F (RR, RL, CD, q)).2.2) (fun (u : (Nat → Int32)) => [(rc, Sum.inr (6, [Value.ref co, Value.ref ma, Value.int (nI k), Value.int fit, Value.int fen, Value.int frd, Value.int 0, Value.int (fir + 1)])), (ma, Sum.inl (cM, 8, Sum.inr (Sum.inr (Sum.inr (Sum.inr mf))))), (mo, Sum.inr (8, [Value.ref ka, Value.ref o1, Value.ref oo])), (co, Sum.inr (2, [Value.long xlow, Value.long xrange, Value.long (lN ((gr1 is n F (RR, RL, CD, q)).2.1).2.2.1), Value.long (lN ((gr1 is n F (RR, RL, CD, q)).2.1).2.1), Value.long (lN ((gr1 is n F (RR, RL, CD, q)).2.1).1), Value.ref ri, Value.ref ro, Value.ref rw, Value.int (nI ((gr1 is n F (RR, RL, CD, q)).2.1).2.2.2)])), (ri, Sum.inr (0, [Value.int (nI is.length), Value.ref ria])), (ria, Sum.inl (cI, rik, Sum.inl rif)), (oo, Sum.inr (7, [Value.int osg, Value.int (nI (ns (gr1 is n F (RR, RL, CD, q)).2.2 n)), Value.int ofc, Value.ref oca, Value.ref opa])), (oca, Sum.inl (cI, n, Sum.inl u)), (opa, Sum.inl (cI, opl, Sum.inl opf))]) 0 0 := by
  refine my_ofI (cc := prog_1_method_13_code) (n := 3) (ret := (some .int)) (by decide) rfl (Nat.le_of_ble_eq_true rfl) ?_
  intro p e s m args below meth c R Q A ls H locs hx hb hr hts hown hlocks hml hnm hR hQ hA hl hP hK hN hD hS
  have hg : ∀ w ∈ gw, w.before args s = true := fun w h => hts w (List.mem_cons_of_mem _ h)
  have hown : s.vm.findClass "RangeCoders" = some m.cls := hown
  have hl : lv_has ls 3 [(0, Value.ref rc), (1, Value.int (nI j))] := hl
  refine lv_aload_n hx hb d_RC_get_0 rfl (lv_at hl 0 rfl) ?_
  refine lv_iload_n hx hb d_RC_get_1 rfl (lv_at hl 1 rfl) ?_
  refine my_cq (wr := [(mo, Sum.inr (8, [Value.ref ka, Value.ref o1, Value.ref oo])), (co, Sum.inr (2, [Value.long xlow, Value.long xrange, Value.long (lN CD), Value.long (lN RL), Value.long (lN RR), Value.ref ri, Value.ref ro, Value.ref rw, Value.int (nI q)])), (ri, Sum.inr (0, [Value.int (nI is.length), Value.ref ria])), (ria, Sum.inl (cI, rik, Sum.inl rif)), (oo, Sum.inr (7, [Value.int osg, Value.int (nI (ns F n)), Value.int ofc, Value.ref oca, Value.ref opa])), (oca, Sum.inl (cI, n, Sum.inl ocf)), (opa, Sum.inl (cI, opl, Sum.inl opf))]) (va_runV (As := [Value.int (nI j)]) (rest := []) ⟨hx, hb, hml, hown, hts⟩ (c_RC_modelAtB l dC dI cI cM cO H.size rc ma k fit fen frd 0 fir mf co j mo (by first | assumption | omega) (by first | assumption | omega) (by first | assumption | omega)) (cwV 1 hts (my_gV k412 k414 ks3 k1 k415) rfl rfl rfl cu_RC_modelAt_1 ⟨by rw [hR]; exact Nat.le_of_ble_eq_true rfl, by rw [hR]; exact Nat.le_of_ble_eq_true rfl⟩) (my_preV hK hN (hP.sub [0, 1] rfl) (hD.sub [0, 1] (by decide +kernel) rfl) 0 rfl rfl) rfl rfl hl.1 rfl (lv_room (Nat.le_of_ble_eq_true rfl)) d_RC_get_2 ⟨by rw [hR]; exact Nat.le_of_ble_eq_true rfl, by rw [hR]; exact Nat.le_of_ble_eq_true rfl⟩) hP hD hS hA [0, 1] [2, 3, 4, 5, 6, 7, 8] rfl rfl (by decide +kernel) (by decide +kernel) (fun r_2 u9 H locs hw_2 hP hD hS => ?_)
  have hr_2 : r_2 = some mo := hw_2
  have hPD : my_PD (dC, dI) vwCl A [(mo, Sum.inr (8, [Value.ref ka, Value.ref o1, Value.ref oo])), (co, Sum.inr (2, [Value.long xlow, Value.long xrange, Value.long (lN CD), Value.long (lN RL), Value.long (lN RR), Value.ref ri, Value.ref ro, Value.ref rw, Value.int (nI q)])), (ri, Sum.inr (0, [Value.int (nI is.length), Value.ref ria])), (ria, Sum.inl (cI, rik, Sum.inl rif)), (oo, Sum.inr (7, [Value.int osg, Value.int (nI (ns F n)), Value.int ofc, Value.ref oca, Value.ref opa])), (oca, Sum.inl (cI, n, Sum.inl ocf)), (opa, Sum.inl (cI, opl, Sum.inl opf)), (rc, Sum.inr (6, [Value.ref co, Value.ref ma, Value.int (nI k), Value.int fit, Value.int fen, Value.int frd, Value.int 0, Value.int fir])), (ma, Sum.inl (cM, 8, Sum.inr (Sum.inr (Sum.inr (Sum.inr mf)))))] H := ⟨hP, hD⟩
  have hP := hPD.1
  have hD := hPD.2
  subst hr_2
  refine W.eq (g2 := F0 m 5 ls [Value.ref mo]) rfl ?_
  refine lv_astore_n (lv' := [(2, Value.ref mo), (0, Value.ref rc), (1, Value.int (nI j))]) hx hb d_RC_get_5 rfl hl (by decide) rfl (fun ls hl => ?_)
  refine lv_aload_n hx hb d_RC_get_6 rfl (lv_at hl 0 rfl) ?_
  refine lv_ifnonnull (tgt := 12) hx hb d_RC_get_7 (by decide) ?_
  refine lv_aload_n hx hb d_RC_get_12 rfl (lv_at hl 1 rfl) ?_
  refine va_get (D := (dC, dI)) (ci := 6) (v := .int frd) (C := "RangeCoders") (T := T_RC) (N := 8) hx hb hg in_RC hown hK hP 7 rfl rfl 5 (by decide) (hg _ k263) (fun _ h9 => h9) rfl d_RC_get_13 ?_
  refine lv_if_ne (tgt := 22) hx hb d_RC_get_16 (by decide) (fun c_1 => ?_) (fun c_1 => ?_)
  · refine lv_aload_n hx hb d_RC_get_22 rfl (lv_at hl 1 rfl) ?_
    refine va_get (D := (dC, dI)) (ci := 6) (v := .int 0) (C := "RangeCoders") (T := T_RC) (N := 8) hx hb hg in_RC hown hK hP 7 rfl rfl 6 (by decide) (hg _ k264) (fun _ h9 => h9) rfl d_RC_get_23 ?_
    refine lv_if_eq (tgt := 34) hx hb d_RC_get_26 (by decide) (fun c_2 => ?_) (fun c_2 => ?_)
    · refine lv_aload_n hx hb d_RC_get_34 rfl (lv_at hl 1 rfl) ?_
      refine lv_aload_n hx hb d_RC_get_35 rfl (lv_at hl 1 rfl) ?_
      refine va_get (D := (dC, dI)) (ci := 6) (v := .ref co) (C := "RangeCoders") (T := T_RC) (N := 8) hx hb hg in_RC hown hK hP 7 rfl rfl 0 (by decide) (hg _ k258) (fun _ h9 => h9) rfl d_RC_get_36 ?_
      refine lv_aload_n hx hb d_RC_get_39 rfl (lv_at hl 0 rfl) ?_
      refine va_get (D := (dC, dI)) (ci := 8) (v := .ref oo) (C := "RangeCoders$Model") (T := T_Model) (N := 3) hx hb hg in_Model hown hK hP 0 rfl rfl 2 (by decide) (hg _ k345) (fun _ h9 => h9) rfl d_RC_get_40 ?_
      refine my_ci (wr := [(mo, Sum.inr (8, [Value.ref ka, Value.ref o1, Value.ref oo])), (rc, Sum.inr (6, [Value.ref co, Value.ref ma, Value.int (nI k), Value.int fit, Value.int fen, Value.int frd, Value.int 0, Value.int fir])), (ma, Sum.inl (cM, 8, Sum.inr (Sum.inr (Sum.inr (Sum.inr mf)))))]) (va_runU (As := [Value.ref oo]) (rest := [Value.ref rc]) ⟨hx, hb, hml, hown, hts⟩ (f_NoCarries_nextSign l dC dI cI cM cO H.size co xlow xrange ri ro rw ria rik rif is RR RL CD q oo osg ofc oca opa n ocf opl opf F (by first | assumption | omega) (by first | assumption | omega) (by first | assumption | omega) (by first | assumption | omega) (by first | assumption | omega) (by first | assumption | omega) (by first | assumption | omega) (by first | assumption | omega) (by first | assumption | omega) (by first | assumption | omega) (by first | assumption | omega) (by first | assumption | omega)) (va_cwA 1 hts (my_gU k775 k777 k829 k805 k4 k806) rfl rfl rfl (hN.1 _ j776 rfl) (by decide +kernel) ⟨by rw [hR]; exact Nat.le_of_ble_eq_true rfl, by rw [hR]; exact Nat.le_of_ble_eq_true rfl⟩) (my_preV hK hN (hP.sub [1, 2, 3, 4, 5, 6] rfl) (hD.sub [1, 2, 3, 4, 5, 6] (by decide +kernel) rfl) 0 rfl rfl) rfl rfl hl.1 rfl (lv_room (Nat.le_of_ble_eq_true rfl)) d_RC_get_43 ⟨by rw [hR]; exact Nat.le_of_ble_eq_true rfl, by rw [hR]; exact Nat.le_of_ble_eq_true rfl⟩) hP hD hS hA [1, 2, 3, 4, 5, 6] [0, 7, 8] rfl rfl (by decide +kernel) (by decide +kernel) (fun r_43 u9 H locs hw_43 hP hD hS => ?_)
      obtain ⟨ocfq_43, rfl⟩ : ∃ z, z = u9 := ⟨_, rfl⟩
      obtain ⟨hr_43, hf_43⟩ : r_43 = oI (gr1 is n F (RR, RL, CD, q)).1 ∧ tbI ocfq_43 n (gr1 is n F (RR, RL, CD, q)).2.2 := hw_43
      have hPD : my_PD (dC, dI) vwCl A [(mo, Sum.inr (8, [Value.ref ka, Value.ref o1, Value.ref oo])), (rc, Sum.inr (6, [Value.ref co, Value.ref ma, Value.int (nI k), Value.int fit, Value.int fen, Value.int frd, Value.int 0, Value.int fir])), (ma, Sum.inl (cM, 8, Sum.inr (Sum.inr (Sum.inr (Sum.inr mf))))), (co, Sum.inr (2, [Value.long xlow, Value.long xrange, Value.long (lN ((gr1 is n F (RR, RL, CD, q)).2.1).2.2.1), Value.long (lN ((gr1 is n F (RR, RL, CD, q)).2.1).2.1), Value.long (lN ((gr1 is n F (RR, RL, CD, q)).2.1).1), Value.ref ri, Value.ref ro, Value.ref rw, Value.int (nI ((gr1 is n F (RR, RL, CD, q)).2.1).2.2.2)])), (ri, Sum.inr (0, [Value.int (nI is.length), Value.ref ria])), (ria, Sum.inl (cI, rik, Sum.inl rif)), (oo, Sum.inr (7, [Value.int osg, Value.int (nI (ns (gr1 is n F (RR, RL, CD, q)).2.2 n)), Value.int ofc, Value.ref oca, Value.ref opa])), (oca, Sum.inl (cI, n, Sum.inl ocfq_43)), (opa, Sum.inl (cI, opl, Sum.inl opf))] H := ⟨hP, hD⟩
      have hP := hPD.1
      have hD := hPD.2
      have z9 : r_43 = nI s9 := by rw [hr_43, hG]; rfl
      subst z9
      refine my_ci (wr := [(mo, Sum.inr (8, [Value.ref ka, Value.ref o1, Value.ref oo])), (ma, Sum.inl (cM, 8, Sum.inr (Sum.inr (Sum.inr (Sum.inr mf))))), (co, Sum.inr (2, [Value.long xlow, Value.long xrange, Value.long (lN ((gr1 is n F (RR, RL, CD, q)).2.1).2.2.1), Value.long (lN ((gr1 is n F (RR, RL, CD, q)).2.1).2.1), Value.long (lN ((gr1 is n F (RR, RL, CD, q)).2.1).1), Value.ref ri, Value.ref ro, Value.ref rw, Value.int (nI ((gr1 is n F (RR, RL, CD, q)).2.1).2.2.2)])), (ri, Sum.inr (0, [Value.int (nI is.length), Value.ref ria])), (ria, Sum.inl (cI, rik, Sum.inl rif)), (oo, Sum.inr (7, [Value.int osg, Value.int (nI (ns (gr1 is n F (RR, RL, CD, q)).2.2 n)), Value.int ofc, Value.ref oca, Value.ref opa])), (oca, Sum.inl (cI, n, Sum.inl ocfq_43)), (opa, Sum.inl (cI, opl, Sum.inl opf))]) (va_runV (As := [Value.int (nI s9)]) (rest := []) ⟨hx, hb, hml, hown, hts⟩ (f_RC_itemOk l dC dI cI cM cO H.size rc ma k fit fen frd 0 fir mf co s9 (by first | assumption | omega)) (cwV 1 hts (my_gV k854 k856 ks17 k1 k857) rfl rfl rfl cu_RC_itemOrBad_1 ⟨by rw [hR]; exact Nat.le_of_ble_eq_true rfl, by rw [hR]; exact Nat.le_of_ble_eq_true rfl⟩) (my_preV hK hN (hP.sub [1] rfl) (hD.sub [1] (by decide +kernel) rfl) 0 rfl rfl) rfl rfl hl.1 rfl (lv_room (Nat.le_of_ble_eq_true rfl)) d_RC_get_46 ⟨by rw [hR]; exact Nat.le_of_ble_eq_true rfl, by rw [hR]; exact Nat.le_of_ble_eq_true rfl⟩) hP hD hS hA [1] [0, 2, 3, 4, 5, 6, 7, 8] rfl rfl (by decide +kernel) (by decide +kernel) (fun r_46 u9 H locs hw_46 hP hD hS => ?_)
      have hr_46 : r_46 = nI s9 := hw_46
      have hPD : my_PD (dC, dI) vwCl A [(mo, Sum.inr (8, [Value.ref ka, Value.ref o1, Value.ref oo])), (ma, Sum.inl (cM, 8, Sum.inr (Sum.inr (Sum.inr (Sum.inr mf))))), (co, Sum.inr (2, [Value.long xlow, Value.long xrange, Value.long (lN ((gr1 is n F (RR, RL, CD, q)).2.1).2.2.1), Value.long (lN ((gr1 is n F (RR, RL, CD, q)).2.1).2.1), Value.long (lN ((gr1 is n F (RR, RL, CD, q)).2.1).1), Value.ref ri, Value.ref ro, Value.ref rw, Value.int (nI ((gr1 is n F (RR, RL, CD, q)).2.1).2.2.2)])), (ri, Sum.inr (0, [Value.int (nI is.length), Value.ref ria])), (ria, Sum.inl (cI, rik, Sum.inl rif)), (oo, Sum.inr (7, [Value.int osg, Value.int (nI (ns (gr1 is n F (RR, RL, CD, q)).2.2 n)), Value.int ofc, Value.ref oca, Value.ref opa])), (oca, Sum.inl (cI, n, Sum.inl ocfq_43)), (opa, Sum.inl (cI, opl, Sum.inl opf)), (rc, Sum.inr (6, [Value.ref co, Value.ref ma, Value.int (nI k), Value.int fit, Value.int fen, Value.int frd, Value.int 0, Value.int (fir + 1)]))] H := ⟨hP, hD⟩
      have hP := hPD.1
      have hD := hPD.2
      exact my_iret (v := r_46) hx hb hr (rfl) hlocks hQ hK hS (Nat.le_refl _) (Nat.le_refl _) (ocfq_43) (⟨hr_46, hf_43⟩) (hP.sub [8, 1, 0, 2, 3, 4, 5, 6, 7] rfl) (hD.sub [8, 1, 0, 2, 3, 4, 5, 6, 7] (by decide +kernel) rfl) d_RC_get_49
    · exact absurd (by decide) c_2
  · exact absurd c_1 hrd
set_option maxHeartbeats 2000000 in
set_option maxRecDepth 100000 in
theorem f_RC_getX_NoCarries (l : Launch) (dC : Nat → ClassId) (dI : Nat → Nat → Nat) (cI cM cO : ClassId) (sz : Nat) (rc : Nat) (ma : Nat) (k : Nat) (fit : Int32) (fen : Int32) (frd : Int32) (fir : Int32) (mf : Nat → Option Nat) (j : Nat) (mo : Nat) (co : Nat) (ka : Nat) (o1 : Nat) (xlow : Int64) (xrange : Int64) (ri : Nat) (ro : Nat) (rw : Nat) (ria : Nat) (rik : Nat) (rif : Nat → Int32) (is : List Nat) (RR : Nat) (RL : Nat) (CD : Nat) (q : Nat) (oo : Nat) (osg : Int32) (ofc : Int32) (oca : Nat) (opa : Nat) (n : Nat) (ocf : Nat → Int32) (opl : Nat) (opf : Nat → Int32) (F : Nat → Nat) (hk8 : k ≤ 8) (hj : j < k) (hmf : mf j = some mo) (hrd : ¬ frd = 0) (hri : rOk (nI is.length) rik) (hGri : gIs rif is) (hLri : is.length ≤ 6000) (hoct : oct is) (hn : n ≤ 64) (hpl : opl ≤ 512) (hf : tbI ocf n F) (hfc0 : ofc = 0) (hsum : ns F n ≤ 8192) (hp : pOk RR RL) (hC : CD < 4294967296) (hq : q < 900000000) (hG : (gr1 is n F (RR, RL, CD, q)).1 = none) : MetI l y_RC_get (Cond.code y_RC_get prog_1_method_13_code 3 (some .int) :: gw) ({ frames := 5, cells := 0, slots := 0, locals := 112 } : Room) (dC, dI) vwCl (kT cI cM cO) [Value.ref rc, Value.int (nI j)] [(rc, Sum.inr (6, [Value.ref co, Value.ref ma, Value.int (nI k), Value.int fit, Value.int fen, Value.int frd, Value.int 0, Value.int fir])), (ma, Sum.inl (cM, 8, Sum.inr (Sum.inr (Sum.inr (Sum.inr mf))))), (mo, Sum.inr (8, [Value.ref ka, Value.ref o1, Value.ref oo])), (co, Sum.inr (2, [Value.long xlow, Value.long xrange, Value.long (lN CD), Value.long (lN RL), Value.long (lN RR), Value.ref ri, Value.ref ro, Value.ref rw, Value.int (nI q)])), (ri, Sum.inr (0, [Value.int (nI is.length), Value.ref ria])), (ria, Sum.inl (cI, rik, Sum.inl rif)), (oo, Sum.inr (7, [Value.int osg, Value.int (nI (ns F n)), Value.int ofc, Value.ref oca, Value.ref opa])), (oca, Sum.inl (cI, n, Sum.inl ocf)), (opa, Sum.inl (cI, opl, Sum.inl opf))] sz (fun (r : Int32) (u : (Nat → Int32)) => r = -5 ∧ tbI u n (gr1 is n F (RR, RL, CD, q)).2.2) (fun (u : (Nat → Int32)) => [(rc, Sum.inr (6, [Value.ref co, Value.ref ma, Value.int (nI k), Value.int fit, Value.int fen, Value.int frd, Value.int 1, Value.int fir])), (ma, Sum.inl (cM, 8, Sum.inr (Sum.inr (Sum.inr (Sum.inr mf))))), (mo, Sum.inr (8, [Value.ref ka, Value.ref o1, Value.ref oo])), (co, Sum.inr (2, [Value.long xlow, Value.long xrange, Value.long (lN ((gr1 is n F (RR, RL, CD, q)).2.1).2.2.1), Value.long (lN ((gr1 is n F (RR, RL, CD, q)).2.1).2.1), Value.long (lN ((gr1 is n F (RR, RL, CD, q)).2.1).1), Value.ref ri, Value.ref ro, Value.ref rw, Value.int (nI ((gr1 is n F (RR, RL, CD, q)).2.1).2.2.2)])), (ri, Sum.inr (0, [Value.int (nI is.length), Value.ref ria])), (ria, Sum.inl (cI, rik, Sum.inl rif)), (oo, Sum.inr (7, [Value.int osg, Value.int (nI (ns (gr1 is n F (RR, RL, CD, q)).2.2 n)), Value.int ofc, Value.ref oca, Value.ref opa])), (oca, Sum.inl (cI, n, Sum.inl u)), (opa, Sum.inl (cI, opl, Sum.inl opf))]) 0 0 := by
  refine my_ofI (cc := prog_1_method_13_code) (n := 3) (ret := (some .int)) (by decide) rfl (Nat.le_of_ble_eq_true rfl) ?_
  intro p e s m args below meth c R Q A ls H locs hx hb hr hts hown hlocks hml hnm hR hQ hA hl hP hK hN hD hS
  have hg : ∀ w ∈ gw, w.before args s = true := fun w h => hts w (List.mem_cons_of_mem _ h)
  have hown : s.vm.findClass "RangeCoders" = some m.cls := hown
  have hl : lv_has ls 3 [(0, Value.ref rc), (1, Value.int (nI j))] := hl
  refine lv_aload_n hx hb d_RC_get_0 rfl (lv_at hl 0 rfl) ?_
  refine lv_iload_n hx hb d_RC_get_1 rfl (lv_at hl 1 rfl) ?_
  refine my_cq (wr := [(mo, Sum.inr (8, [Value.ref ka, Value.ref o1, Value.ref oo])), (co, Sum.inr (2, [Value.long xlow, Value.long xrange, Value.long (lN CD), Value.long (lN RL), Value.long (lN RR), Value.ref ri, Value.ref ro, Value.ref rw, Value.int (nI q)])), (ri, Sum.inr (0, [Value.int (nI is.length), Value.ref ria])), (ria, Sum.inl (cI, rik, Sum.inl rif)), (oo, Sum.inr (7, [Value.int osg, Value.int (nI (ns F n)), Value.int ofc, Value.ref oca, Value.ref opa])), (oca, Sum.inl (cI, n, Sum.inl ocf)), (opa, Sum.inl (cI, opl, Sum.inl opf))]) (va_runV (As := [Value.int (nI j)]) (rest := []) ⟨hx, hb, hml, hown, hts⟩ (c_RC_modelAtB l dC dI cI cM cO H.size rc ma k fit fen frd 0 fir mf co j mo (by first | assumption | omega) (by first | assumption | omega) (by first | assumption | omega)) (cwV 1 hts (my_gV k412 k414 ks3 k1 k415) rfl rfl rfl cu_RC_modelAt_1 ⟨by rw [hR]; exact Nat.le_of_ble_eq_true rfl, by rw [hR]; exact Nat.le_of_ble_eq_true rfl⟩) (my_preV hK hN (hP.sub [0, 1] rfl) (hD.sub [0, 1] (by decide +kernel) rfl) 0 rfl rfl) rfl rfl hl.1 rfl (lv_room (Nat.le_of_ble_eq_true rfl)) d_RC_get_2 ⟨by rw [hR]; exact Nat.le_of_ble_eq_true rfl, by rw [hR]; exact Nat.le_of_ble_eq_true rfl⟩) hP hD hS hA [0, 1] [2, 3, 4, 5, 6, 7, 8] rfl rfl (by decide +kernel) (by decide +kernel) (fun r_2 u9 H locs hw_2 hP hD hS => ?_)
  have hr_2 : r_2 = some mo := hw_2
  have hPD : my_PD (dC, dI) vwCl A [(mo, Sum.inr (8, [Value.ref ka, Value.ref o1, Value.ref oo])), (co, Sum.inr (2, [Value.long xlow, Value.long xrange, Value.long (lN CD), Value.long (lN RL), Value.long (lN RR), Value.ref ri, Value.ref ro, Value.ref rw, Value.int (nI q)])), (ri, Sum.inr (0, [Value.int (nI is.length), Value.ref ria])), (ria, Sum.inl (cI, rik, Sum.inl rif)), (oo, Sum.inr (7, [Value.int osg, Value.int (nI (ns F n)), Value.int ofc, Value.ref oca, Value.ref opa])), (oca, Sum.inl (cI, n, Sum.inl ocf)), (opa, Sum.inl (cI, opl, Sum.inl opf)), (rc, Sum.inr (6, [Value.ref co, Value.ref ma, Value.int (nI k), Value.int fit, Value.int fen, Value.int frd, Value.int 0, Value.int fir])), (ma, Sum.inl (cM, 8, Sum.inr (Sum.inr (Sum.inr (Sum.inr mf)))))] H := ⟨hP, hD⟩
  have hP := hPD.1
  have hD := hPD.2
  subst hr_2
  refine W.eq (g2 := F0 m 5 ls [Value.ref mo]) rfl ?_
  refine lv_astore_n (lv' := [(2, Value.ref mo), (0, Value.ref rc), (1, Value.int (nI j))]) hx hb d_RC_get_5 rfl hl (by decide) rfl (fun ls hl => ?_)
  refine lv_aload_n hx hb d_RC_get_6 rfl (lv_at hl 0 rfl) ?_
  refine lv_ifnonnull (tgt := 12) hx hb d_RC_get_7 (by decide) ?_
  refine lv_aload_n hx hb d_RC_get_12 rfl (lv_at hl 1 rfl) ?_
  refine va_get (D := (dC, dI)) (ci := 6) (v := .int frd) (C := "RangeCoders") (T := T_RC) (N := 8) hx hb hg in_RC hown hK hP 7 rfl rfl 5 (by decide) (hg _ k263) (fun _ h9 => h9) rfl d_RC_get_13 ?_
  refine lv_if_ne (tgt := 22) hx hb d_RC_get_16 (by decide) (fun c_1 => ?_) (fun c_1 => ?_)
  · refine lv_aload_n hx hb d_RC_get_22 rfl (lv_at hl 1 rfl) ?_
    refine va_get (D := (dC, dI)) (ci := 6) (v := .int 0) (C := "RangeCoders") (T := T_RC) (N := 8) hx hb hg in_RC hown hK hP 7 rfl rfl 6 (by decide) (hg _ k264) (fun _ h9 => h9) rfl d_RC_get_23 ?_
    refine lv_if_eq (tgt := 34) hx hb d_RC_get_26 (by decide) (fun c_2 => ?_) (fun c_2 => ?_)
    · refine lv_aload_n hx hb d_RC_get_34 rfl (lv_at hl 1 rfl) ?_
      refine lv_aload_n hx hb d_RC_get_35 rfl (lv_at hl 1 rfl) ?_
      refine va_get (D := (dC, dI)) (ci := 6) (v := .ref co) (C := "RangeCoders") (T := T_RC) (N := 8) hx hb hg in_RC hown hK hP 7 rfl rfl 0 (by decide) (hg _ k258) (fun _ h9 => h9) rfl d_RC_get_36 ?_
      refine lv_aload_n hx hb d_RC_get_39 rfl (lv_at hl 0 rfl) ?_
      refine va_get (D := (dC, dI)) (ci := 8) (v := .ref oo) (C := "RangeCoders$Model") (T := T_Model) (N := 3) hx hb hg in_Model hown hK hP 0 rfl rfl 2 (by decide) (hg _ k345) (fun _ h9 => h9) rfl d_RC_get_40 ?_
      refine my_ci (wr := [(mo, Sum.inr (8, [Value.ref ka, Value.ref o1, Value.ref oo])), (rc, Sum.inr (6, [Value.ref co, Value.ref ma, Value.int (nI k), Value.int fit, Value.int fen, Value.int frd, Value.int 0, Value.int fir])), (ma, Sum.inl (cM, 8, Sum.inr (Sum.inr (Sum.inr (Sum.inr mf)))))]) (va_runU (As := [Value.ref oo]) (rest := [Value.ref rc]) ⟨hx, hb, hml, hown, hts⟩ (f_NoCarries_nextSign l dC dI cI cM cO H.size co xlow xrange ri ro rw ria rik rif is RR RL CD q oo osg ofc oca opa n ocf opl opf F (by first | assumption | omega) (by first | assumption | omega) (by first | assumption | omega) (by first | assumption | omega) (by first | assumption | omega) (by first | assumption | omega) (by first | assumption | omega) (by first | assumption | omega) (by first | assumption | omega) (by first | assumption | omega) (by first | assumption | omega) (by first | assumption | omega)) (va_cwA 1 hts (my_gU k775 k777 k829 k805 k4 k806) rfl rfl rfl (hN.1 _ j776 rfl) (by decide +kernel) ⟨by rw [hR]; exact Nat.le_of_ble_eq_true rfl, by rw [hR]; exact Nat.le_of_ble_eq_true rfl⟩) (my_preV hK hN (hP.sub [1, 2, 3, 4, 5, 6] rfl) (hD.sub [1, 2, 3, 4, 5, 6] (by decide +kernel) rfl) 0 rfl rfl) rfl rfl hl.1 rfl (lv_room (Nat.le_of_ble_eq_true rfl)) d_RC_get_43 ⟨by rw [hR]; exact Nat.le_of_ble_eq_true rfl, by rw [hR]; exact Nat.le_of_ble_eq_true rfl⟩) hP hD hS hA [1, 2, 3, 4, 5, 6] [0, 7, 8] rfl rfl (by decide +kernel) (by decide +kernel) (fun r_43 u9 H locs hw_43 hP hD hS => ?_)
      obtain ⟨ocfq_43, rfl⟩ : ∃ z, z = u9 := ⟨_, rfl⟩
      obtain ⟨hr_43, hf_43⟩ : r_43 = oI (gr1 is n F (RR, RL, CD, q)).1 ∧ tbI ocfq_43 n (gr1 is n F (RR, RL, CD, q)).2.2 := hw_43
      have hPD : my_PD (dC, dI) vwCl A [(mo, Sum.inr (8, [Value.ref ka, Value.ref o1, Value.ref oo])), (rc, Sum.inr (6, [Value.ref co, Value.ref ma, Value.int (nI k), Value.int fit, Value.int fen, Value.int frd, Value.int 0, Value.int fir])), (ma, Sum.inl (cM, 8, Sum.inr (Sum.inr (Sum.inr (Sum.inr mf))))), (co, Sum.inr (2, [Value.long xlow, Value.long xrange, Value.long (lN ((gr1 is n F (RR, RL, CD, q)).2.1).2.2.1), Value.long (lN ((gr1 is n F (RR, RL, CD, q)).2.1).2.1), Value.long (lN ((gr1 is n F (RR, RL, CD, q)).2.1).1), Value.ref ri, Value.ref ro, Value.ref rw, Value.int (nI ((gr1 is n F (RR, RL, CD, q)).2.1).2.2.2)])), (ri, Sum.inr (0, [Value.int (nI is.length), Value.ref ria])), (ria, Sum.inl (cI, rik, Sum.inl rif)), (oo, Sum.inr (7, [Value.int osg, Value.int (nI (ns (gr1 is n F (RR, RL, CD, q)).2.2 n)), Value.int ofc, Value.ref oca, Value.ref opa])), (oca, Sum.inl (cI, n, Sum.inl ocfq_43)), (opa, Sum.inl (cI, opl, Sum.inl opf))] H := ⟨hP, hD⟩
      have hP := hPD.1
      have hD := hPD.2
      have z9 : r_43 = (-1) := by rw [hr_43, hG]; rfl
      subst z9
      refine my_ci (wr := [(mo, Sum.inr (8, [Value.ref ka, Value.ref o1, Value.ref oo])), (ma, Sum.inl (cM, 8, Sum.inr (Sum.inr (Sum.inr (Sum.inr mf))))), (co, Sum.inr (2, [Value.long xlow, Value.long xrange, Value.long (lN ((gr1 is n F (RR, RL, CD, q)).2.1).2.2.1), Value.long (lN ((gr1 is n F (RR, RL, CD, q)).2.1).2.1), Value.long (lN ((gr1 is n F (RR, RL, CD, q)).2.1).1), Value.ref ri, Value.ref ro, Value.ref rw, Value.int (nI ((gr1 is n F (RR, RL, CD, q)).2.1).2.2.2)])), (ri, Sum.inr (0, [Value.int (nI is.length), Value.ref ria])), (ria, Sum.inl (cI, rik, Sum.inl rif)), (oo, Sum.inr (7, [Value.int osg, Value.int (nI (ns (gr1 is n F (RR, RL, CD, q)).2.2 n)), Value.int ofc, Value.ref oca, Value.ref opa])), (oca, Sum.inl (cI, n, Sum.inl ocfq_43)), (opa, Sum.inl (cI, opl, Sum.inl opf))]) (va_runV (As := [Value.int (-1)]) (rest := []) ⟨hx, hb, hml, hown, hts⟩ (f_RC_itemBad l dC dI cI cM cO H.size rc ma k fit fen frd 0 fir mf co) (cwV 1 hts (my_gV k854 k856 ks17 k1 k857) rfl rfl rfl cu_RC_itemOrBad_1 ⟨by rw [hR]; exact Nat.le_of_ble_eq_true rfl, by rw [hR]; exact Nat.le_of_ble_eq_true rfl⟩) (my_preV hK hN (hP.sub [1] rfl) (hD.sub [1] (by decide +kernel) rfl) 0 rfl rfl) rfl rfl hl.1 rfl (lv_room (Nat.le_of_ble_eq_true rfl)) d_RC_get_46 ⟨by rw [hR]; exact Nat.le_of_ble_eq_true rfl, by rw [hR]; exact Nat.le_of_ble_eq_true rfl⟩) hP hD hS hA [1] [0, 2, 3, 4, 5, 6, 7, 8] rfl rfl (by decide +kernel) (by decide +kernel) (fun r_46 u9 H locs hw_46 hP hD hS => ?_)
      have hr_46 : r_46 = -5 := hw_46
      have hPD : my_PD (dC, dI) vwCl A [(mo, Sum.inr (8, [Value.ref ka, Value.ref o1, Value.ref oo])), (ma, Sum.inl (cM, 8, Sum.inr (Sum.inr (Sum.inr (Sum.inr mf))))), (co, Sum.inr (2, [Value.long xlow, Value.long xrange, Value.long (lN ((gr1 is n F (RR, RL, CD, q)).2.1).2.2.1), Value.long (lN ((gr1 is n F (RR, RL, CD, q)).2.1).2.1), Value.long (lN ((gr1 is n F (RR, RL, CD, q)).2.1).1), Value.ref ri, Value.ref ro, Value.ref rw, Value.int (nI ((gr1 is n F (RR, RL, CD, q)).2.1).2.2.2)])), (ri, Sum.inr (0, [Value.int (nI is.length), Value.ref ria])), (ria, Sum.inl (cI, rik, Sum.inl rif)), (oo, Sum.inr (7, [Value.int osg, Value.int (nI (ns (gr1 is n F (RR, RL, CD, q)).2.2 n)), Value.int ofc, Value.ref oca, Value.ref opa])), (oca, Sum.inl (cI, n, Sum.inl ocfq_43)), (opa, Sum.inl (cI, opl, Sum.inl opf)), (rc, Sum.inr (6, [Value.ref co, Value.ref ma, Value.int (nI k), Value.int fit, Value.int fen, Value.int frd, Value.int 1, Value.int fir]))] H := ⟨hP, hD⟩
      have hP := hPD.1
      have hD := hPD.2
      exact my_iret (v := r_46) hx hb hr (rfl) hlocks hQ hK hS (Nat.le_refl _) (Nat.le_refl _) (ocfq_43) (⟨hr_46, hf_43⟩) (hP.sub [8, 1, 0, 2, 3, 4, 5, 6, 7] rfl) (hD.sub [8, 1, 0, 2, 3, 4, 5, 6, 7] (by decide +kernel) rfl) d_RC_get_49
    · exact absurd (by decide) c_2
  · exact absurd c_1 hrd
set_option maxHeartbeats 2000000 in
set_option maxRecDepth 100000 in
theorem f_RC_gbW_NoCarries (l : Launch) (dC : Nat → ClassId) (dI : Nat → Nat → Nat) (cI cM cO : ClassId) (sz : Nat) (rc : Nat) (ma : Nat) (k : Nat) (fit : Int32) (fen : Int32) (frd : Int32) (fbd : Int32) (fir : Int32) (mf : Nat → Option Nat) (co : Nat) (xlow : Int64) (xrange : Int64) (xcode : Int64) (xreadLow : Int64) (xreadRange : Int64) (ri : Nat) (ro : Nat) (rw : Nat) (xasked : Int32) (wd : Int32) (hbad : ¬ (1 ≤ wd ∧ wd ≤ nI 12)) : MetI l y_RC_getBits (Cond.code y_RC_getBits prog_1_method_14_code 2 (some .int) :: gw) ({ frames := 1, cells := 0, slots := 0, locals := 21 } : Room) (dC, dI) vwCl (kT cI cM cO) [Value.ref rc, Value.int wd] [(rc, Sum.inr (6, [Value.ref co, Value.ref ma, Value.int (nI k), Value.int fit, Value.int fen, Value.int frd, Value.int fbd, Value.int fir])), (co, Sum.inr (2, [Value.long xlow, Value.long xrange, Value.long xcode, Value.long xreadLow, Value.long xreadRange, Value.ref ri, Value.ref ro, Value.ref rw, Value.int xasked]))] sz (fun (r : Int32) (u : Unit) => r = -2) (fun (u : Unit) => [(rc, Sum.inr (6, [Value.ref co, Value.ref ma, Value.int (nI k), Value.int fit, Value.int fen, Value.int frd, Value.int fbd, Value.int fir])), (co, Sum.inr (2, [Value.long xlow, Value.long xrange, Value.long xcode, Value.long xreadLow, Value.long xreadRange, Value.ref ri, Value.ref ro, Value.ref rw, Value.int xasked]))]) 0 0 := by
  refine my_ofI (cc := prog_1_method_14_code) (n := 2) (ret := (some .int)) (by decide) rfl (Nat.le_of_ble_eq_true rfl) ?_
  intro p e s m args below meth c R Q A ls H locs hx hb hr hts hown hlocks hml hnm hR hQ hA hl hP hK hN hD hS
  have hg : ∀ w ∈ gw, w.before args s = true := fun w h => hts w (List.mem_cons_of_mem _ h)
  have hown : s.vm.findClass "RangeCoders" = some m.cls := hown
  have hl : lv_has ls 2 [(0, Value.ref rc), (1, Value.int wd)] := hl
  refine lv_aload_n hx hb d_RC_getBits_0 rfl (lv_at hl 0 rfl) ?_
  refine va_get (D := (dC, dI)) (ci := 6) (v := .ref co) (C := "RangeCoders") (T := T_RC) (N := 8) hx hb hg in_RC hown hK hP 0 rfl rfl 0 (by decide) (hg _ k258) (fun _ h9 => h9) rfl d_RC_getBits_1 ?_
  refine lv_iload_n hx hb d_RC_getBits_4 rfl (lv_at hl 1 rfl) ?_
  refine my_ci (wr := [(rc, Sum.inr (6, [Value.ref co, Value.ref ma, Value.int (nI k), Value.int fit, Value.int fen, Value.int frd, Value.int fbd, Value.int fir]))]) (va_runU (As := [Value.int wd]) (rest := []) ⟨hx, hb, hml, hown, hts⟩ (f_NoCarries_hasWidth l dC dI cI cM cO H.size co xlow xrange xcode xreadLow xreadRange ri ro rw xasked wd) (va_cwU 1 hts (my_gU k543 k545 k548 k544 k3 k553) rfl rfl rfl rfl (by decide +kernel) ⟨by rw [hR]; exact Nat.le_of_ble_eq_true rfl, by rw [hR]; exact Nat.le_of_ble_eq_true rfl⟩) (my_preV hK hN (hP.sub [1] rfl) (hD.sub [1] (by decide +kernel) rfl) 0 rfl rfl) rfl rfl hl.1 rfl (lv_room (Nat.le_of_ble_eq_true rfl)) d_RC_getBits_5 ⟨by rw [hR]; exact Nat.le_of_ble_eq_true rfl, by rw [hR]; exact Nat.le_of_ble_eq_true rfl⟩) hP hD hS hA [1] [0] rfl rfl (by decide +kernel) (by decide +kernel) (fun r_5 u9 H locs hw_5 hP hD hS => ?_)
  have hr_5 : r_5 = if 1 ≤ wd ∧ wd ≤ nI 12 then 1 else 0 := hw_5
  have hPD : my_PD (dC, dI) vwCl A [(rc, Sum.inr (6, [Value.ref co, Value.ref ma, Value.int (nI k), Value.int fit, Value.int fen, Value.int frd, Value.int fbd, Value.int fir])), (co, Sum.inr (2, [Value.long xlow, Value.long xrange, Value.long xcode, Value.long xreadLow, Value.long xreadRange, Value.ref ri, Value.ref ro, Value.ref rw, Value.int xasked]))] H := ⟨hP, hD⟩
  have hP := hPD.1
  have hD := hPD.2
  refine lv_if_ne (tgt := 14) hx hb d_RC_getBits_8 (by decide) (fun c_1 => ?_) (fun c_1 => ?_)
  · exact absurd (one_ne hr_5 c_1) hbad
  · refine lv_bipush (v := (-2)) hx hb d_RC_getBits_11 (by decide) ?_
    exact my_iret (v := (-2)) hx hb hr (rfl) hlocks hQ hK hS (Nat.le_refl _) (Nat.le_refl _) () (rfl) (hP.sub [0, 1] rfl) (hD.sub [0, 1] (by decide +kernel) rfl) d_RC_getBits_13
set_option maxHeartbeats 2000000 in
set_option maxRecDepth 100000 in
theorem f_RC_gbN_NoCarries (l : Launch) (dC : Nat → ClassId) (dI : Nat → Nat → Nat) (cI cM cO : ClassId) (sz : Nat) (rc : Nat) (ma : Nat) (k : Nat) (fit : Int32) (fen : Int32) (frd : Int32) (fbd : Int32) (fir : Int32) (mf : Nat → Option Nat) (co : Nat) (xlow : Int64) (xrange : Int64) (xcode : Int64) (xreadLow : Int64) (xreadRange : Int64) (ri : Nat) (ro : Nat) (rw : Nat) (xasked : Int32) (b : Nat) (hb1 : 1 ≤ b) (hb2 : b ≤ 12) (hrd : frd = 0) : MetI l y_RC_getBits (Cond.code y_RC_getBits prog_1_method_14_code 2 (some .int) :: gw) ({ frames := 1, cells := 0, slots := 0, locals := 21 } : Room) (dC, dI) vwCl (kT cI cM cO) [Value.ref rc, Value.int (nI b)] [(rc, Sum.inr (6, [Value.ref co, Value.ref ma, Value.int (nI k), Value.int fit, Value.int fen, Value.int frd, Value.int fbd, Value.int fir])), (co, Sum.inr (2, [Value.long xlow, Value.long xrange, Value.long xcode, Value.long xreadLow, Value.long xreadRange, Value.ref ri, Value.ref ro, Value.ref rw, Value.int xasked]))] sz (fun (r : Int32) (u : Unit) => r = -3) (fun (u : Unit) => [(rc, Sum.inr (6, [Value.ref co, Value.ref ma, Value.int (nI k), Value.int fit, Value.int fen, Value.int frd, Value.int fbd, Value.int fir])), (co, Sum.inr (2, [Value.long xlow, Value.long xrange, Value.long xcode, Value.long xreadLow, Value.long xreadRange, Value.ref ri, Value.ref ro, Value.ref rw, Value.int xasked]))]) 0 0 := by
  refine my_ofI (cc := prog_1_method_14_code) (n := 2) (ret := (some .int)) (by decide) rfl (Nat.le_of_ble_eq_true rfl) ?_
  intro p e s m args below meth c R Q A ls H locs hx hb hr hts hown hlocks hml hnm hR hQ hA hl hP hK hN hD hS
  have hg : ∀ w ∈ gw, w.before args s = true := fun w h => hts w (List.mem_cons_of_mem _ h)
  have hown : s.vm.findClass "RangeCoders" = some m.cls := hown
  have hl : lv_has ls 2 [(0, Value.ref rc), (1, Value.int (nI b))] := hl
  refine lv_aload_n hx hb d_RC_getBits_0 rfl (lv_at hl 0 rfl) ?_
  refine va_get (D := (dC, dI)) (ci := 6) (v := .ref co) (C := "RangeCoders") (T := T_RC) (N := 8) hx hb hg in_RC hown hK hP 0 rfl rfl 0 (by decide) (hg _ k258) (fun _ h9 => h9) rfl d_RC_getBits_1 ?_
  refine lv_iload_n hx hb d_RC_getBits_4 rfl (lv_at hl 1 rfl) ?_
  refine my_ci (wr := [(rc, Sum.inr (6, [Value.ref co, Value.ref ma, Value.int (nI k), Value.int fit, Value.int fen, Value.int frd, Value.int fbd, Value.int fir]))]) (va_runU (As := [Value.int (nI b)]) (rest := []) ⟨hx, hb, hml, hown, hts⟩ (f_NoCarries_hasWidth l dC dI cI cM cO H.size co xlow xrange xcode xreadLow xreadRange ri ro rw xasked (nI b)) (va_cwU 1 hts (my_gU k543 k545 k548 k544 k3 k553) rfl rfl rfl rfl (by decide +kernel) ⟨by rw [hR]; exact Nat.le_of_ble_eq_true rfl, by rw [hR]; exact Nat.le_of_ble_eq_true rfl⟩) (my_preV hK hN (hP.sub [1] rfl) (hD.sub [1] (by decide +kernel) rfl) 0 rfl rfl) rfl rfl hl.1 rfl (lv_room (Nat.le_of_ble_eq_true rfl)) d_RC_getBits_5 ⟨by rw [hR]; exact Nat.le_of_ble_eq_true rfl, by rw [hR]; exact Nat.le_of_ble_eq_true rfl⟩) hP hD hS hA [1] [0] rfl rfl (by decide +kernel) (by decide +kernel) (fun r_5 u9 H locs hw_5 hP hD hS => ?_)
  have hr_5 : r_5 = if 1 ≤ (nI b) ∧ (nI b) ≤ nI 12 then 1 else 0 := hw_5
  have hPD : my_PD (dC, dI) vwCl A [(rc, Sum.inr (6, [Value.ref co, Value.ref ma, Value.int (nI k), Value.int fit, Value.int fen, Value.int frd, Value.int fbd, Value.int fir])), (co, Sum.inr (2, [Value.long xlow, Value.long xrange, Value.long xcode, Value.long xreadLow, Value.long xreadRange, Value.ref ri, Value.ref ro, Value.ref rw, Value.int xasked]))] H := ⟨hP, hD⟩
  have hP := hPD.1
  have hD := hPD.2
  refine lv_if_ne (tgt := 14) hx hb d_RC_getBits_8 (by decide) (fun c_1 => ?_) (fun c_1 => ?_)
  · refine lv_aload_n hx hb d_RC_getBits_14 rfl (lv_at hl 0 rfl) ?_
    refine va_get (D := (dC, dI)) (ci := 6) (v := .int frd) (C := "RangeCoders") (T := T_RC) (N := 8) hx hb hg in_RC hown hK hP 0 rfl rfl 5 (by decide) (hg _ k263) (fun _ h9 => h9) rfl d_RC_getBits_15 ?_
    refine lv_if_ne (tgt := 24) hx hb d_RC_getBits_18 (by decide) (fun c_2 => ?_) (fun c_2 => ?_)
    · exact absurd hrd c_2
    · refine lv_bipush (v := (-3)) hx hb d_RC_getBits_21 (by decide) ?_
      exact my_iret (v := (-3)) hx hb hr (rfl) hlocks hQ hK hS (Nat.le_refl _) (Nat.le_refl _) () (rfl) (hP.sub [0, 1] rfl) (hD.sub [0, 1] (by decide +kernel) rfl) d_RC_getBits_23
  · exact absurd (show 1 ≤ nI b ∧ nI b ≤ nI 12 from ⟨nI_le (a := 1) hb1 (by omega), nI_le hb2 (by decide)⟩) (one_eq hr_5 c_1)
set_option maxHeartbeats 2000000 in
set_option maxRecDepth 100000 in
theorem f_RC_gbB_NoCarries (l : Launch) (dC : Nat → ClassId) (dI : Nat → Nat → Nat) (cI cM cO : ClassId) (sz : Nat) (rc : Nat) (ma : Nat) (k : Nat) (fit : Int32) (fen : Int32) (frd : Int32) (fbd : Int32) (fir : Int32) (mf : Nat → Option Nat) (co : Nat) (xlow : Int64) (xrange : Int64) (xcode : Int64) (xreadLow : Int64) (xreadRange : Int64) (ri : Nat) (ro : Nat) (rw : Nat) (xasked : Int32) (b : Nat) (hb1 : 1 ≤ b) (hb2 : b ≤ 12) (hrd : ¬ frd = 0) (hbd : ¬ fbd = 0) : MetI l y_RC_getBits (Cond.code y_RC_getBits prog_1_method_14_code 2 (some .int) :: gw) ({ frames := 1, cells := 0, slots := 0, locals := 21 } : Room) (dC, dI) vwCl (kT cI cM cO) [Value.ref rc, Value.int (nI b)] [(rc, Sum.inr (6, [Value.ref co, Value.ref ma, Value.int (nI k), Value.int fit, Value.int fen, Value.int frd, Value.int fbd, Value.int fir])), (co, Sum.inr (2, [Value.long xlow, Value.long xrange, Value.long xcode, Value.long xreadLow, Value.long xreadRange, Value.ref ri, Value.ref ro, Value.ref rw, Value.int xasked]))] sz (fun (r : Int32) (u : Unit) => r = -5) (fun (u : Unit) => [(rc, Sum.inr (6, [Value.ref co, Value.ref ma, Value.int (nI k), Value.int fit, Value.int fen, Value.int frd, Value.int fbd, Value.int fir])), (co, Sum.inr (2, [Value.long xlow, Value.long xrange, Value.long xcode, Value.long xreadLow, Value.long xreadRange, Value.ref ri, Value.ref ro, Value.ref rw, Value.int xasked]))]) 0 0 := by
  refine my_ofI (cc := prog_1_method_14_code) (n := 2) (ret := (some .int)) (by decide) rfl (Nat.le_of_ble_eq_true rfl) ?_
  intro p e s m args below meth c R Q A ls H locs hx hb hr hts hown hlocks hml hnm hR hQ hA hl hP hK hN hD hS
  have hg : ∀ w ∈ gw, w.before args s = true := fun w h => hts w (List.mem_cons_of_mem _ h)
  have hown : s.vm.findClass "RangeCoders" = some m.cls := hown
  have hl : lv_has ls 2 [(0, Value.ref rc), (1, Value.int (nI b))] := hl
  refine lv_aload_n hx hb d_RC_getBits_0 rfl (lv_at hl 0 rfl) ?_
  refine va_get (D := (dC, dI)) (ci := 6) (v := .ref co) (C := "RangeCoders") (T := T_RC) (N := 8) hx hb hg in_RC hown hK hP 0 rfl rfl 0 (by decide) (hg _ k258) (fun _ h9 => h9) rfl d_RC_getBits_1 ?_
  refine lv_iload_n hx hb d_RC_getBits_4 rfl (lv_at hl 1 rfl) ?_
  refine my_ci (wr := [(rc, Sum.inr (6, [Value.ref co, Value.ref ma, Value.int (nI k), Value.int fit, Value.int fen, Value.int frd, Value.int fbd, Value.int fir]))]) (va_runU (As := [Value.int (nI b)]) (rest := []) ⟨hx, hb, hml, hown, hts⟩ (f_NoCarries_hasWidth l dC dI cI cM cO H.size co xlow xrange xcode xreadLow xreadRange ri ro rw xasked (nI b)) (va_cwU 1 hts (my_gU k543 k545 k548 k544 k3 k553) rfl rfl rfl rfl (by decide +kernel) ⟨by rw [hR]; exact Nat.le_of_ble_eq_true rfl, by rw [hR]; exact Nat.le_of_ble_eq_true rfl⟩) (my_preV hK hN (hP.sub [1] rfl) (hD.sub [1] (by decide +kernel) rfl) 0 rfl rfl) rfl rfl hl.1 rfl (lv_room (Nat.le_of_ble_eq_true rfl)) d_RC_getBits_5 ⟨by rw [hR]; exact Nat.le_of_ble_eq_true rfl, by rw [hR]; exact Nat.le_of_ble_eq_true rfl⟩) hP hD hS hA [1] [0] rfl rfl (by decide +kernel) (by decide +kernel) (fun r_5 u9 H locs hw_5 hP hD hS => ?_)
  have hr_5 : r_5 = if 1 ≤ (nI b) ∧ (nI b) ≤ nI 12 then 1 else 0 := hw_5
  have hPD : my_PD (dC, dI) vwCl A [(rc, Sum.inr (6, [Value.ref co, Value.ref ma, Value.int (nI k), Value.int fit, Value.int fen, Value.int frd, Value.int fbd, Value.int fir])), (co, Sum.inr (2, [Value.long xlow, Value.long xrange, Value.long xcode, Value.long xreadLow, Value.long xreadRange, Value.ref ri, Value.ref ro, Value.ref rw, Value.int xasked]))] H := ⟨hP, hD⟩
  have hP := hPD.1
  have hD := hPD.2
  refine lv_if_ne (tgt := 14) hx hb d_RC_getBits_8 (by decide) (fun c_1 => ?_) (fun c_1 => ?_)
  · refine lv_aload_n hx hb d_RC_getBits_14 rfl (lv_at hl 0 rfl) ?_
    refine va_get (D := (dC, dI)) (ci := 6) (v := .int frd) (C := "RangeCoders") (T := T_RC) (N := 8) hx hb hg in_RC hown hK hP 0 rfl rfl 5 (by decide) (hg _ k263) (fun _ h9 => h9) rfl d_RC_getBits_15 ?_
    refine lv_if_ne (tgt := 24) hx hb d_RC_getBits_18 (by decide) (fun c_2 => ?_) (fun c_2 => ?_)
    · refine lv_aload_n hx hb d_RC_getBits_24 rfl (lv_at hl 0 rfl) ?_
      refine va_get (D := (dC, dI)) (ci := 6) (v := .int fbd) (C := "RangeCoders") (T := T_RC) (N := 8) hx hb hg in_RC hown hK hP 0 rfl rfl 6 (by decide) (hg _ k264) (fun _ h9 => h9) rfl d_RC_getBits_25 ?_
      refine lv_if_eq (tgt := 36) hx hb d_RC_getBits_28 (by decide) (fun c_3 => ?_) (fun c_3 => ?_)
      · exact absurd c_3 hbd
      · refine lv_bipush (v := (-5)) hx hb d_RC_getBits_31 (by decide) ?_
        refine lv_goto (tgt := 48) hx hb d_RC_getBits_33 (by decide) ?_
        exact my_iret (v := (-5)) hx hb hr (rfl) hlocks hQ hK hS (Nat.le_refl _) (Nat.le_refl _) () (rfl) (hP.sub [0, 1] rfl) (hD.sub [0, 1] (by decide +kernel) rfl) d_RC_getBits_48
    · exact absurd c_2 hrd
  · exact absurd (show 1 ≤ nI b ∧ nI b ≤ nI 12 from ⟨nI_le (a := 1) hb1 (by omega), nI_le hb2 (by decide)⟩) (one_eq hr_5 c_1)
set_option maxHeartbeats 2000000 in
set_option maxRecDepth 100000 in
theorem f_RC_gbL_NoCarries (l : Launch) (dC : Nat → ClassId) (dI : Nat → Nat → Nat) (cI cM cO : ClassId) (sz : Nat) (rc : Nat) (ma : Nat) (k : Nat) (fit : Int32) (fen : Int32) (frd : Int32) (fir : Int32) (mf : Nat → Option Nat) (co : Nat) (xlow : Int64) (xrange : Int64) (ri : Nat) (ro : Nat) (rw : Nat) (ria : Nat) (rik : Nat) (rif : Nat → Int32) (is : List Nat) (RR : Nat) (RL : Nat) (CD : Nat) (q : Nat) (b : Nat) (s9 : Nat) (hb1 : 1 ≤ b) (hb2 : b ≤ 12) (hrd : ¬ frd = 0) (hri : rOk (nI is.length) rik) (hGri : gIs rif is) (hLri : is.length ≤ 6000) (hoct : oct is) (hp : pOk RR RL) (hC : CD < 4294967296) (hq : q < 900000000) (hG : (gv1 is b (RR, RL, CD, q)).1 = some s9) (hsv9 : s9 < 2147483648) : MetI l y_RC_getBits (Cond.code y_RC_getBits prog_1_method_14_code 2 (some .int) :: gw) ({ frames := 5, cells := 0, slots := 0, locals := 111 } : Room) (dC, dI) vwCl (kT cI cM cO) [Value.ref rc, Value.int (nI b)] [(rc, Sum.inr (6, [Value.ref co, Value.ref ma, Value.int (nI k), Value.int fit, Value.int fen, Value.int frd, Value.int 0, Value.int fir])), (co, Sum.inr (2, [Value.long xlow, Value.long xrange, Value.long (lN CD), Value.long (lN RL), Value.long (lN RR), Value.ref ri, Value.ref ro, Value.ref rw, Value.int (nI q)])), (ri, Sum.inr (0, [Value.int (nI is.length), Value.ref ria])), (ria, Sum.inl (cI, rik, Sum.inl rif))] sz (fun (r : Int32) (u : Unit) => r = nI s9) (fun (u : Unit) => [(rc, Sum.inr (6, [Value.ref co, Value.ref ma, Value.int (nI k), Value.int fit, Value.int fen, Value.int frd, Value.int 0, Value.int (fir + 1)])), (co, Sum.inr (2, [Value.long xlow, Value.long xrange, Value.long (lN ((gv1 is b (RR, RL, CD, q)).2).2.2.1), Value.long (lN ((gv1 is b (RR, RL, CD, q)).2).2.1), Value.long (lN ((gv1 is b (RR, RL, CD, q)).2).1), Value.ref ri, Value.ref ro, Value.ref rw, Value.int (nI ((gv1 is b (RR, RL, CD, q)).2).2.2.2)])), (ri, Sum.inr (0, [Value.int (nI is.length), Value.ref ria])), (ria, Sum.inl (cI, rik, Sum.inl rif))]) 0 0 := by
  refine my_ofI (cc := prog_1_method_14_code) (n := 2) (ret := (some .int)) (by decide) rfl (Nat.le_of_ble_eq_true rfl) ?_
  intro p e s m args below meth c R Q A ls H locs hx hb hr hts hown hlocks hml hnm hR hQ hA hl hP hK hN hD hS
  have hg : ∀ w ∈ gw, w.before args s = true := fun w h => hts w (List.mem_cons_of_mem _ h)
  have hown : s.vm.findClass "RangeCoders" = some m.cls := hown
  have hl : lv_has ls 2 [(0, Value.ref rc), (1, Value.int (nI b))] := hl
  refine lv_aload_n hx hb d_RC_getBits_0 rfl (lv_at hl 0 rfl) ?_
  refine va_get (D := (dC, dI)) (ci := 6) (v := .ref co) (C := "RangeCoders") (T := T_RC) (N := 8) hx hb hg in_RC hown hK hP 0 rfl rfl 0 (by decide) (hg _ k258) (fun _ h9 => h9) rfl d_RC_getBits_1 ?_
  refine lv_iload_n hx hb d_RC_getBits_4 rfl (lv_at hl 1 rfl) ?_
  refine my_ci (wr := [(rc, Sum.inr (6, [Value.ref co, Value.ref ma, Value.int (nI k), Value.int fit, Value.int fen, Value.int frd, Value.int 0, Value.int fir])), (ri, Sum.inr (0, [Value.int (nI is.length), Value.ref ria])), (ria, Sum.inl (cI, rik, Sum.inl rif))]) (va_runU (As := [Value.int (nI b)]) (rest := []) ⟨hx, hb, hml, hown, hts⟩ (f_NoCarries_hasWidth l dC dI cI cM cO H.size co xlow xrange (lN CD) (lN RL) (lN RR) ri ro rw (nI q) (nI b)) (va_cwU 1 hts (my_gU k543 k545 k548 k544 k3 k553) rfl rfl rfl rfl (by decide +kernel) ⟨by rw [hR]; exact Nat.le_of_ble_eq_true rfl, by rw [hR]; exact Nat.le_of_ble_eq_true rfl⟩) (my_preV hK hN (hP.sub [1] rfl) (hD.sub [1] (by decide +kernel) rfl) 0 rfl rfl) rfl rfl hl.1 rfl (lv_room (Nat.le_of_ble_eq_true rfl)) d_RC_getBits_5 ⟨by rw [hR]; exact Nat.le_of_ble_eq_true rfl, by rw [hR]; exact Nat.le_of_ble_eq_true rfl⟩) hP hD hS hA [1] [0, 2, 3] rfl rfl (by decide +kernel) (by decide +kernel) (fun r_5 u9 H locs hw_5 hP hD hS => ?_)
  have hr_5 : r_5 = if 1 ≤ (nI b) ∧ (nI b) ≤ nI 12 then 1 else 0 := hw_5
  have hPD : my_PD (dC, dI) vwCl A [(rc, Sum.inr (6, [Value.ref co, Value.ref ma, Value.int (nI k), Value.int fit, Value.int fen, Value.int frd, Value.int 0, Value.int fir])), (ri, Sum.inr (0, [Value.int (nI is.length), Value.ref ria])), (ria, Sum.inl (cI, rik, Sum.inl rif)), (co, Sum.inr (2, [Value.long xlow, Value.long xrange, Value.long (lN CD), Value.long (lN RL), Value.long (lN RR), Value.ref ri, Value.ref ro, Value.ref rw, Value.int (nI q)]))] H := ⟨hP, hD⟩
  have hP := hPD.1
  have hD := hPD.2
  refine lv_if_ne (tgt := 14) hx hb d_RC_getBits_8 (by decide) (fun c_1 => ?_) (fun c_1 => ?_)
  · refine lv_aload_n hx hb d_RC_getBits_14 rfl (lv_at hl 0 rfl) ?_
    refine va_get (D := (dC, dI)) (ci := 6) (v := .int frd) (C := "RangeCoders") (T := T_RC) (N := 8) hx hb hg in_RC hown hK hP 0 rfl rfl 5 (by decide) (hg _ k263) (fun _ h9 => h9) rfl d_RC_getBits_15 ?_
    refine lv_if_ne (tgt := 24) hx hb d_RC_getBits_18 (by decide) (fun c_2 => ?_) (fun c_2 => ?_)
    · refine lv_aload_n hx hb d_RC_getBits_24 rfl (lv_at hl 0 rfl) ?_
      refine va_get (D := (dC, dI)) (ci := 6) (v := .int 0) (C := "RangeCoders") (T := T_RC) (N := 8) hx hb hg in_RC hown hK hP 0 rfl rfl 6 (by decide) (hg _ k264) (fun _ h9 => h9) rfl d_RC_getBits_25 ?_
      refine lv_if_eq (tgt := 36) hx hb d_RC_getBits_28 (by decide) (fun c_3 => ?_) (fun c_3 => ?_)
      · refine lv_aload_n hx hb d_RC_getBits_36 rfl (lv_at hl 0 rfl) ?_
        refine lv_aload_n hx hb d_RC_getBits_37 rfl (lv_at hl 0 rfl) ?_
        refine va_get (D := (dC, dI)) (ci := 6) (v := .ref co) (C := "RangeCoders") (T := T_RC) (N := 8) hx hb hg in_RC hown hK hP 0 rfl rfl 0 (by decide) (hg _ k258) (fun _ h9 => h9) rfl d_RC_getBits_38 ?_
        refine lv_iload_n hx hb d_RC_getBits_41 rfl (lv_at hl 1 rfl) ?_
        refine my_ci (wr := [(rc, Sum.inr (6, [Value.ref co, Value.ref ma, Value.int (nI k), Value.int fit, Value.int fen, Value.int frd, Value.int 0, Value.int fir]))]) (va_runU (As := [Value.int (nI b)]) (rest := [Value.ref rc]) ⟨hx, hb, hml, hown, hts⟩ (f_NoCarries_nextValue l dC dI cI cM cO H.size co xlow xrange ri ro rw ria rik rif is RR RL CD q b (by first | assumption | omega) (by first | assumption | omega) (by first | assumption | omega) (by first | assumption | omega) (hb1) (by omega) (by first | assumption | omega) (by first | assumption | omega) (by first | assumption | omega)) (va_cwA 1 hts (my_gU k862 k864 k871 k869 k4 k870) rfl rfl rfl (hN.1 _ j863 rfl) (by decide +kernel) ⟨by rw [hR]; exact Nat.le_of_ble_eq_true rfl, by rw [hR]; exact Nat.le_of_ble_eq_true rfl⟩) (my_preV hK hN (hP.sub [3, 1, 2] rfl) (hD.sub [3, 1, 2] (by decide +kernel) rfl) 0 rfl rfl) rfl rfl hl.1 rfl (lv_room (Nat.le_of_ble_eq_true rfl)) d_RC_getBits_42 ⟨by rw [hR]; exact Nat.le_of_ble_eq_true rfl, by rw [hR]; exact Nat.le_of_ble_eq_true rfl⟩) hP hD hS hA [3, 1, 2] [0] rfl rfl (by decide +kernel) (by decide +kernel) (fun r_42 u9 H locs hw_42 hP hD hS => ?_)
        have hr_42 : r_42 = oI (gv1 is b (RR, RL, CD, q)).1 := hw_42
        have hPD : my_PD (dC, dI) vwCl A [(rc, Sum.inr (6, [Value.ref co, Value.ref ma, Value.int (nI k), Value.int fit, Value.int fen, Value.int frd, Value.int 0, Value.int fir])), (co, Sum.inr (2, [Value.long xlow, Value.long xrange, Value.long (lN ((gv1 is b (RR, RL, CD, q)).2).2.2.1), Value.long (lN ((gv1 is b (RR, RL, CD, q)).2).2.1), Value.long (lN ((gv1 is b (RR, RL, CD, q)).2).1), Value.ref ri, Value.ref ro, Value.ref rw, Value.int (nI ((gv1 is b (RR, RL, CD, q)).2).2.2.2)])), (ri, Sum.inr (0, [Value.int (nI is.length), Value.ref ria])), (ria, Sum.inl (cI, rik, Sum.inl rif))] H := ⟨hP, hD⟩
        have hP := hPD.1
        have hD := hPD.2
        have z9 : r_42 = nI s9 := by rw [hr_42, hG]; rfl
        subst z9
        refine my_ci (wr := [(co, Sum.inr (2, [Value.long xlow, Value.long xrange, Value.long (lN ((gv1 is b (RR, RL, CD, q)).2).2.2.1), Value.long (lN ((gv1 is b (RR, RL, CD, q)).2).2.1), Value.long (lN ((gv1 is b (RR, RL, CD, q)).2).1), Value.ref ri, Value.ref ro, Value.ref rw, Value.int (nI ((gv1 is b (RR, RL, CD, q)).2).2.2.2)])), (ri, Sum.inr (0, [Value.int (nI is.length), Value.ref ria])), (ria, Sum.inl (cI, rik, Sum.inl rif))]) (va_runV (As := [Value.int (nI s9)]) (rest := []) ⟨hx, hb, hml, hown, hts⟩ (f_RC_itemOk l dC dI cI cM cO H.size rc ma k fit fen frd 0 fir mf co s9 (by first | assumption | omega)) (cwV 1 hts (my_gV k854 k856 ks17 k1 k857) rfl rfl rfl cu_RC_itemOrBad_1 ⟨by rw [hR]; exact Nat.le_of_ble_eq_true rfl, by rw [hR]; exact Nat.le_of_ble_eq_true rfl⟩) (my_preV hK hN (hP.sub [0] rfl) (hD.sub [0] (by decide +kernel) rfl) 0 rfl rfl) rfl rfl hl.1 rfl (lv_room (Nat.le_of_ble_eq_true rfl)) d_RC_getBits_45 ⟨by rw [hR]; exact Nat.le_of_ble_eq_true rfl, by rw [hR]; exact Nat.le_of_ble_eq_true rfl⟩) hP hD hS hA [0] [1, 2, 3] rfl rfl (by decide +kernel) (by decide +kernel) (fun r_45 u9 H locs hw_45 hP hD hS => ?_)
        have hr_45 : r_45 = nI s9 := hw_45
        have hPD : my_PD (dC, dI) vwCl A [(co, Sum.inr (2, [Value.long xlow, Value.long xrange, Value.long (lN ((gv1 is b (RR, RL, CD, q)).2).2.2.1), Value.long (lN ((gv1 is b (RR, RL, CD, q)).2).2.1), Value.long (lN ((gv1 is b (RR, RL, CD, q)).2).1), Value.ref ri, Value.ref ro, Value.ref rw, Value.int (nI ((gv1 is b (RR, RL, CD, q)).2).2.2.2)])), (ri, Sum.inr (0, [Value.int (nI is.length), Value.ref ria])), (ria, Sum.inl (cI, rik, Sum.inl rif)), (rc, Sum.inr (6, [Value.ref co, Value.ref ma, Value.int (nI k), Value.int fit, Value.int fen, Value.int frd, Value.int 0, Value.int (fir + 1)]))] H := ⟨hP, hD⟩
        have hP := hPD.1
        have hD := hPD.2
        exact my_iret (v := r_45) hx hb hr (rfl) hlocks hQ hK hS (Nat.le_refl _) (Nat.le_refl _) () (hr_45) (hP.sub [3, 0, 1, 2] rfl) (hD.sub [3, 0, 1, 2] (by decide +kernel) rfl) d_RC_getBits_48
      · exact absurd (by decide) c_3
    · exact absurd c_2 hrd
  · exact absurd (show 1 ≤ nI b ∧ nI b ≤ nI 12 from ⟨nI_le (a := 1) hb1 (by omega), nI_le hb2 (by decide)⟩) (one_eq hr_5 c_1)
set_option maxHeartbeats 2000000 in
set_option maxRecDepth 100000 in
theorem f_RC_gbX_NoCarries (l : Launch) (dC : Nat → ClassId) (dI : Nat → Nat → Nat) (cI cM cO : ClassId) (sz : Nat) (rc : Nat) (ma : Nat) (k : Nat) (fit : Int32) (fen : Int32) (frd : Int32) (fir : Int32) (mf : Nat → Option Nat) (co : Nat) (xlow : Int64) (xrange : Int64) (ri : Nat) (ro : Nat) (rw : Nat) (ria : Nat) (rik : Nat) (rif : Nat → Int32) (is : List Nat) (RR : Nat) (RL : Nat) (CD : Nat) (q : Nat) (b : Nat) (hb1 : 1 ≤ b) (hb2 : b ≤ 12) (hrd : ¬ frd = 0) (hri : rOk (nI is.length) rik) (hGri : gIs rif is) (hLri : is.length ≤ 6000) (hoct : oct is) (hp : pOk RR RL) (hC : CD < 4294967296) (hq : q < 900000000) (hG : (gv1 is b (RR, RL, CD, q)).1 = none) : MetI l y_RC_getBits (Cond.code y_RC_getBits prog_1_method_14_code 2 (some .int) :: gw) ({ frames := 5, cells := 0, slots := 0, locals := 111 } : Room) (dC, dI) vwCl (kT cI cM cO) [Value.ref rc, Value.int (nI b)] [(rc, Sum.inr (6, [Value.ref co, Value.ref ma, Value.int (nI k), Value.int fit, Value.int fen, Value.int frd, Value.int 0, Value.int fir])), (co, Sum.inr (2, [Value.long xlow, Value.long xrange, Value.long (lN CD), Value.long (lN RL), Value.long (lN RR), Value.ref ri, Value.ref ro, Value.ref rw, Value.int (nI q)])), (ri, Sum.inr (0, [Value.int (nI is.length), Value.ref ria])), (ria, Sum.inl (cI, rik, Sum.inl rif))] sz (fun (r : Int32) (u : Unit) => r = -5) (fun (u : Unit) => [(rc, Sum.inr (6, [Value.ref co, Value.ref ma, Value.int (nI k), Value.int fit, Value.int fen, Value.int frd, Value.int 1, Value.int fir])), (co, Sum.inr (2, [Value.long xlow, Value.long xrange, Value.long (lN ((gv1 is b (RR, RL, CD, q)).2).2.2.1), Value.long (lN ((gv1 is b (RR, RL, CD, q)).2).2.1), Value.long (lN ((gv1 is b (RR, RL, CD, q)).2).1), Value.ref ri, Value.ref ro, Value.ref rw, Value.int (nI ((gv1 is b (RR, RL, CD, q)).2).2.2.2)])), (ri, Sum.inr (0, [Value.int (nI is.length), Value.ref ria])), (ria, Sum.inl (cI, rik, Sum.inl rif))]) 0 0 := by
  refine my_ofI (cc := prog_1_method_14_code) (n := 2) (ret := (some .int)) (by decide) rfl (Nat.le_of_ble_eq_true rfl) ?_
  intro p e s m args below meth c R Q A ls H locs hx hb hr hts hown hlocks hml hnm hR hQ hA hl hP hK hN hD hS
  have hg : ∀ w ∈ gw, w.before args s = true := fun w h => hts w (List.mem_cons_of_mem _ h)
  have hown : s.vm.findClass "RangeCoders" = some m.cls := hown
  have hl : lv_has ls 2 [(0, Value.ref rc), (1, Value.int (nI b))] := hl
  refine lv_aload_n hx hb d_RC_getBits_0 rfl (lv_at hl 0 rfl) ?_
  refine va_get (D := (dC, dI)) (ci := 6) (v := .ref co) (C := "RangeCoders") (T := T_RC) (N := 8) hx hb hg in_RC hown hK hP 0 rfl rfl 0 (by decide) (hg _ k258) (fun _ h9 => h9) rfl d_RC_getBits_1 ?_
  refine lv_iload_n hx hb d_RC_getBits_4 rfl (lv_at hl 1 rfl) ?_
  refine my_ci (wr := [(rc, Sum.inr (6, [Value.ref co, Value.ref ma, Value.int (nI k), Value.int fit, Value.int fen, Value.int frd, Value.int 0, Value.int fir])), (ri, Sum.inr (0, [Value.int (nI is.length), Value.ref ria])), (ria, Sum.inl (cI, rik, Sum.inl rif))]) (va_runU (As := [Value.int (nI b)]) (rest := []) ⟨hx, hb, hml, hown, hts⟩ (f_NoCarries_hasWidth l dC dI cI cM cO H.size co xlow xrange (lN CD) (lN RL) (lN RR) ri ro rw (nI q) (nI b)) (va_cwU 1 hts (my_gU k543 k545 k548 k544 k3 k553) rfl rfl rfl rfl (by decide +kernel) ⟨by rw [hR]; exact Nat.le_of_ble_eq_true rfl, by rw [hR]; exact Nat.le_of_ble_eq_true rfl⟩) (my_preV hK hN (hP.sub [1] rfl) (hD.sub [1] (by decide +kernel) rfl) 0 rfl rfl) rfl rfl hl.1 rfl (lv_room (Nat.le_of_ble_eq_true rfl)) d_RC_getBits_5 ⟨by rw [hR]; exact Nat.le_of_ble_eq_true rfl, by rw [hR]; exact Nat.le_of_ble_eq_true rfl⟩) hP hD hS hA [1] [0, 2, 3] rfl rfl (by decide +kernel) (by decide +kernel) (fun r_5 u9 H locs hw_5 hP hD hS => ?_)
  have hr_5 : r_5 = if 1 ≤ (nI b) ∧ (nI b) ≤ nI 12 then 1 else 0 := hw_5
  have hPD : my_PD (dC, dI) vwCl A [(rc, Sum.inr (6, [Value.ref co, Value.ref ma, Value.int (nI k), Value.int fit, Value.int fen, Value.int frd, Value.int 0, Value.int fir])), (ri, Sum.inr (0, [Value.int (nI is.length), Value.ref ria])), (ria, Sum.inl (cI, rik, Sum.inl rif)), (co, Sum.inr (2, [Value.long xlow, Value.long xrange, Value.long (lN CD), Value.long (lN RL), Value.long (lN RR), Value.ref ri, Value.ref ro, Value.ref rw, Value.int (nI q)]))] H := ⟨hP, hD⟩
  have hP := hPD.1
  have hD := hPD.2
  refine lv_if_ne (tgt := 14) hx hb d_RC_getBits_8 (by decide) (fun c_1 => ?_) (fun c_1 => ?_)
  · refine lv_aload_n hx hb d_RC_getBits_14 rfl (lv_at hl 0 rfl) ?_
    refine va_get (D := (dC, dI)) (ci := 6) (v := .int frd) (C := "RangeCoders") (T := T_RC) (N := 8) hx hb hg in_RC hown hK hP 0 rfl rfl 5 (by decide) (hg _ k263) (fun _ h9 => h9) rfl d_RC_getBits_15 ?_
    refine lv_if_ne (tgt := 24) hx hb d_RC_getBits_18 (by decide) (fun c_2 => ?_) (fun c_2 => ?_)
    · refine lv_aload_n hx hb d_RC_getBits_24 rfl (lv_at hl 0 rfl) ?_
      refine va_get (D := (dC, dI)) (ci := 6) (v := .int 0) (C := "RangeCoders") (T := T_RC) (N := 8) hx hb hg in_RC hown hK hP 0 rfl rfl 6 (by decide) (hg _ k264) (fun _ h9 => h9) rfl d_RC_getBits_25 ?_
      refine lv_if_eq (tgt := 36) hx hb d_RC_getBits_28 (by decide) (fun c_3 => ?_) (fun c_3 => ?_)
      · refine lv_aload_n hx hb d_RC_getBits_36 rfl (lv_at hl 0 rfl) ?_
        refine lv_aload_n hx hb d_RC_getBits_37 rfl (lv_at hl 0 rfl) ?_
        refine va_get (D := (dC, dI)) (ci := 6) (v := .ref co) (C := "RangeCoders") (T := T_RC) (N := 8) hx hb hg in_RC hown hK hP 0 rfl rfl 0 (by decide) (hg _ k258) (fun _ h9 => h9) rfl d_RC_getBits_38 ?_
        refine lv_iload_n hx hb d_RC_getBits_41 rfl (lv_at hl 1 rfl) ?_
        refine my_ci (wr := [(rc, Sum.inr (6, [Value.ref co, Value.ref ma, Value.int (nI k), Value.int fit, Value.int fen, Value.int frd, Value.int 0, Value.int fir]))]) (va_runU (As := [Value.int (nI b)]) (rest := [Value.ref rc]) ⟨hx, hb, hml, hown, hts⟩ (f_NoCarries_nextValue l dC dI cI cM cO H.size co xlow xrange ri ro rw ria rik rif is RR RL CD q b (by first | assumption | omega) (by first | assumption | omega) (by first | assumption | omega) (by first | assumption | omega) (hb1) (by omega) (by first | assumption | omega) (by first | assumption | omega) (by first | assumption | omega)) (va_cwA 1 hts (my_gU k862 k864 k871 k869 k4 k870) rfl rfl rfl (hN.1 _ j863 rfl) (by decide +kernel) ⟨by rw [hR]; exact Nat.le_of_ble_eq_true rfl, by rw [hR]; exact Nat.le_of_ble_eq_true rfl⟩) (my_preV hK hN (hP.sub [3, 1, 2] rfl) (hD.sub [3, 1, 2] (by decide +kernel) rfl) 0 rfl rfl) rfl rfl hl.1 rfl (lv_room (Nat.le_of_ble_eq_true rfl)) d_RC_getBits_42 ⟨by rw [hR]; exact Nat.le_of_ble_eq_true rfl, by rw [hR]; exact Nat.le_of_ble_eq_true rfl⟩) hP hD hS hA [3, 1, 2] [0] rfl rfl (by decide +kernel) (by decide +kernel) (fun r_42 u9 H locs hw_42 hP hD hS => ?_)
        have hr_42 : r_42 = oI (gv1 is b (RR, RL, CD, q)).1 := hw_42
        have hPD : my_PD (dC, dI) vwCl A [(rc, Sum.inr (6, [Value.ref co, Value.ref ma, Value.int (nI k), Value.int fit, Value.int fen, Value.int frd, Value.int 0, Value.int fir])), (co, Sum.inr (2, [Value.long xlow, Value.long xrange, Value.long (lN ((gv1 is b (RR, RL, CD, q)).2).2.2.1), Value.long (lN ((gv1 is b (RR, RL, CD, q)).2).2.1), Value.long (lN ((gv1 is b (RR, RL, CD, q)).2).1), Value.ref ri, Value.ref ro, Value.ref rw, Value.int (nI ((gv1 is b (RR, RL, CD, q)).2).2.2.2)])), (ri, Sum.inr (0, [Value.int (nI is.length), Value.ref ria])), (ria, Sum.inl (cI, rik, Sum.inl rif))] H := ⟨hP, hD⟩
        have hP := hPD.1
        have hD := hPD.2
        have z9 : r_42 = (-1) := by rw [hr_42, hG]; rfl
        subst z9
        refine my_ci (wr := [(co, Sum.inr (2, [Value.long xlow, Value.long xrange, Value.long (lN ((gv1 is b (RR, RL, CD, q)).2).2.2.1), Value.long (lN ((gv1 is b (RR, RL, CD, q)).2).2.1), Value.long (lN ((gv1 is b (RR, RL, CD, q)).2).1), Value.ref ri, Value.ref ro, Value.ref rw, Value.int (nI ((gv1 is b (RR, RL, CD, q)).2).2.2.2)])), (ri, Sum.inr (0, [Value.int (nI is.length), Value.ref ria])), (ria, Sum.inl (cI, rik, Sum.inl rif))]) (va_runV (As := [Value.int (-1)]) (rest := []) ⟨hx, hb, hml, hown, hts⟩ (f_RC_itemBad l dC dI cI cM cO H.size rc ma k fit fen frd 0 fir mf co) (cwV 1 hts (my_gV k854 k856 ks17 k1 k857) rfl rfl rfl cu_RC_itemOrBad_1 ⟨by rw [hR]; exact Nat.le_of_ble_eq_true rfl, by rw [hR]; exact Nat.le_of_ble_eq_true rfl⟩) (my_preV hK hN (hP.sub [0] rfl) (hD.sub [0] (by decide +kernel) rfl) 0 rfl rfl) rfl rfl hl.1 rfl (lv_room (Nat.le_of_ble_eq_true rfl)) d_RC_getBits_45 ⟨by rw [hR]; exact Nat.le_of_ble_eq_true rfl, by rw [hR]; exact Nat.le_of_ble_eq_true rfl⟩) hP hD hS hA [0] [1, 2, 3] rfl rfl (by decide +kernel) (by decide +kernel) (fun r_45 u9 H locs hw_45 hP hD hS => ?_)
        have hr_45 : r_45 = -5 := hw_45
        have hPD : my_PD (dC, dI) vwCl A [(co, Sum.inr (2, [Value.long xlow, Value.long xrange, Value.long (lN ((gv1 is b (RR, RL, CD, q)).2).2.2.1), Value.long (lN ((gv1 is b (RR, RL, CD, q)).2).2.1), Value.long (lN ((gv1 is b (RR, RL, CD, q)).2).1), Value.ref ri, Value.ref ro, Value.ref rw, Value.int (nI ((gv1 is b (RR, RL, CD, q)).2).2.2.2)])), (ri, Sum.inr (0, [Value.int (nI is.length), Value.ref ria])), (ria, Sum.inl (cI, rik, Sum.inl rif)), (rc, Sum.inr (6, [Value.ref co, Value.ref ma, Value.int (nI k), Value.int fit, Value.int fen, Value.int frd, Value.int 1, Value.int fir]))] H := ⟨hP, hD⟩
        have hP := hPD.1
        have hD := hPD.2
        exact my_iret (v := r_45) hx hb hr (rfl) hlocks hQ hK hS (Nat.le_refl _) (Nat.le_refl _) () (hr_45) (hP.sub [3, 0, 1, 2] rfl) (hD.sub [3, 0, 1, 2] (by decide +kernel) rfl) d_RC_getBits_48
      · exact absurd (by decide) c_3
    · exact absurd c_2 hrd
  · exact absurd (show 1 ≤ nI b ∧ nI b ≤ nI 12 from ⟨nI_le (a := 1) hb1 (by omega), nI_le hb2 (by decide)⟩) (one_eq hr_5 c_1)
end
