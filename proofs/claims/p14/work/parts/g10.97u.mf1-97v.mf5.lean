section
set_option maxHeartbeats 2000000 in
set_option maxRecDepth 100000 in
theorem m_countS (l : Launch) (dC : Nat → ClassId) (dI : Nat → Nat → Nat) (cI cM cO : ClassId) (sz : Nat) (o : Nat) (g : Nat → Nat) (fForm : Int32) (fShift : Int32) (fModels : Int32) (fItems : Int32) (fEnded : Int32) (fLow : Int64) (fRange : Int64) (fCache : Int32) (fPend : Int32) (fGoes : Int32) (fOuts : Int32) (fIns : Int32) (fReads : Int32) (fBad : Int32) (fIR : Int32) (fAsk : Int32) (fBAsk : Int32) (fCode : Int64) (fRL : Int64) (fRR : Int64) (fX : Int64) (fWrites : Int32) (fThrown : Int32) (vMany : Nat → Int32) (vCounts : Nat → Int32) (km : Nat) (N : Nat → Nat) (p1 : Int32) (p2 : Int32) (p3 : Int32) (hmod : fModels = nI km) (hMD : MD km N vMany vCounts) (hno : ¬ (isN km p1 ∧ (0 ≤ p2 ∧ p2 ≤ vMany p1.toNatClampNeg - 1))) : MetI l y_M_count (Cond.code y_M_count prog_14_method_14_code 5 (some .int) :: gw) ({ frames := 3, cells := 0, slots := 0, locals := 65 } : Room) (dC, dI) vwCl (kT cI cM cO) [Value.ref o, Value.int p1, Value.int p2, Value.int p3] [(o, Sum.inr (9, mO g fForm fShift fModels fItems fEnded fLow fRange fCache fPend fGoes fOuts fIns fReads fBad fIR fAsk fBAsk fCode fRL fRR fX fWrites fThrown)), ((g 0), Sum.inl (cI, 8, Sum.inl vMany)), ((g 1), Sum.inl (cI, 512, Sum.inl vCounts))] sz (fun (r : Int32) (u : Unit) => r = -1) (fun (u : Unit) => [(o, Sum.inr (9, mO g fForm fShift fModels fItems fEnded fLow fRange fCache fPend fGoes fOuts fIns fReads fBad fIR fAsk fBAsk fCode fRL fRR fX fWrites 0)), ((g 0), Sum.inl (cI, 8, Sum.inl vMany)), ((g 1), Sum.inl (cI, 512, Sum.inl vCounts))]) 0 0 := by
  refine my_ofI (cc := prog_14_method_14_code) (n := 5) (ret := (some .int)) (by decide) rfl (Nat.le_of_ble_eq_true rfl) ?_
  intro p e s m args below meth c R Q A ls H locs hx hb hr hts hown hlocks hml hnm hR hQ hA hl hP hK hN hD hS
  have hg : ∀ w ∈ gw, w.before args s = true := fun w h => hts w (List.mem_cons_of_mem _ h)
  have hown : s.vm.findClass "RangeCodersModel" = some m.cls := hown
  have hl : lv_has ls 5 [(0, Value.ref o), (1, Value.int p1), (2, Value.int p2), (3, Value.int p3)] := hl
  refine lv_aload_n hx hb d_M_count_0 rfl (lv_at hl 0 rfl) ?_
  refine lv_iconst (v := 0) hx hb d_M_count_1 (by decide) ?_
  refine va_put (D := (dC, dI)) (ci := 9) (v := .int 0) (ty := .int) (C := "RangeCodersModel") (T := T_M) (N := 35) hx hb hg in_M t_M o_M n_M hown hK hP hD hS 0 rfl rfl 34 (by decide) (hg _ k986) (fun _ h9 => h9) rfl (o_M 34 (by decide)) rfl rfl (Nat.le_of_ble_eq_true rfl) d_M_count_2 (fun H locs hP hD hS => ?_)
  have hPD : my_PD (dC, dI) vwCl A [(o, Sum.inr (9, mO g fForm fShift fModels fItems fEnded fLow fRange fCache fPend fGoes fOuts fIns fReads fBad fIR fAsk fBAsk fCode fRL fRR fX fWrites 0)), ((g 0), Sum.inl (cI, 8, Sum.inl vMany)), ((g 1), Sum.inl (cI, 512, Sum.inl vCounts))] H := ⟨hP, hD⟩
  have hP := hPD.1
  have hD := hPD.2
  refine lv_aload_n hx hb d_M_count_5 rfl (lv_at hl 0 rfl) ?_
  refine lv_iload_n hx hb d_M_count_6 rfl (lv_at hl 1 rfl) ?_
  refine lv_iload_n hx hb d_M_count_7 rfl (lv_at hl 2 rfl) ?_
  refine my_ci (wr := [((g 1), Sum.inl (cI, 512, Sum.inl vCounts))]) (va_runV (As := [Value.int p1, Value.int p2]) (rest := []) ⟨hx, hb, hml, hown, hts⟩ (c_M_isSign l dC dI cI cM cO H.size o g fForm fShift fModels fItems fEnded fLow fRange fCache fPend fGoes fOuts fIns fReads fBad fIR fAsk fBAsk fCode fRL fRR fX fWrites 0 vMany km p1 p2 (hMD.1) (by first | assumption | omega)) (cwV 2 hts (my_gV k1069 k1071 ks25 k12 k1072) rfl rfl rfl cu_M_isSign_2 ⟨by rw [hR]; exact Nat.le_of_ble_eq_true rfl, by rw [hR]; exact Nat.le_of_ble_eq_true rfl⟩) (my_preV hK hN (hP.sub [0, 1] rfl) (hD.sub [0, 1] (by decide +kernel) rfl) 0 rfl rfl) rfl rfl hl.1 rfl (lv_room (Nat.le_of_ble_eq_true rfl)) d_M_count_8 ⟨by rw [hR]; exact Nat.le_of_ble_eq_true rfl, by rw [hR]; exact Nat.le_of_ble_eq_true rfl⟩) hP hD hS hA [0, 1] [2] rfl rfl (by decide +kernel) (by decide +kernel) (fun r_8 u9 H locs hw_8 hP hD hS => ?_)
  have hw_8 : r_8 = if isN km p1 ∧ (0 ≤ p2 ∧ p2 ≤ vMany p1.toNatClampNeg - 1) then 1 else 0 := hw_8
  have hPD : my_PD (dC, dI) vwCl A [((g 1), Sum.inl (cI, 512, Sum.inl vCounts)), (o, Sum.inr (9, mO g fForm fShift fModels fItems fEnded fLow fRange fCache fPend fGoes fOuts fIns fReads fBad fIR fAsk fBAsk fCode fRL fRR fX fWrites 0)), ((g 0), Sum.inl (cI, 8, Sum.inl vMany))] H := ⟨hP, hD⟩
  have hP := hPD.1
  have hD := hPD.2
  refine lv_if_ne (tgt := 16) hx hb d_M_count_11 (by decide) (fun c_1 => ?_) (fun c_1 => ?_)
  · exact absurd (one_ne hw_8 c_1) hno
  · refine lv_iconst (v := (-1)) hx hb d_M_count_14 (by decide) ?_
    exact my_iret (v := (-1)) hx hb hr (rfl) hlocks hQ hK hS (Nat.le_refl _) (Nat.le_refl _) () (rfl) (hP.sub [1, 2, 0] rfl) (hD.sub [1, 2, 0] (by decide +kernel) rfl) d_M_count_15
set_option maxHeartbeats 2000000 in
set_option maxRecDepth 100000 in
theorem m_putS (l : Launch) (dC : Nat → ClassId) (dI : Nat → Nat → Nat) (cI cM cO : ClassId) (sz : Nat) (o : Nat) (g : Nat → Nat) (fForm : Int32) (fShift : Int32) (fModels : Int32) (fItems : Int32) (fEnded : Int32) (fLow : Int64) (fRange : Int64) (fCache : Int32) (fPend : Int32) (fGoes : Int32) (fOuts : Int32) (fIns : Int32) (fReads : Int32) (fBad : Int32) (fIR : Int32) (fAsk : Int32) (fBAsk : Int32) (fCode : Int64) (fRL : Int64) (fRR : Int64) (fX : Int64) (fWrites : Int32) (fThrown : Int32) (vMany : Nat → Int32) (vCounts : Nat → Int32) (km : Nat) (N : Nat → Nat) (p1 : Int32) (p2 : Int32) (hmod : fModels = nI km) (hMD : MD km N vMany vCounts) (hno : ¬ (isN km p1 ∧ (0 ≤ p2 ∧ p2 ≤ vMany p1.toNatClampNeg - 1))) : MetI l y_M_put (Cond.code y_M_put prog_14_method_29_code 3 (some .int) :: gw) ({ frames := 3, cells := 0, slots := 0, locals := 65 } : Room) (dC, dI) vwCl (kT cI cM cO) [Value.ref o, Value.int p1, Value.int p2] [(o, Sum.inr (9, mO g fForm fShift fModels fItems fEnded fLow fRange fCache fPend fGoes fOuts fIns fReads fBad fIR fAsk fBAsk fCode fRL fRR fX fWrites fThrown)), ((g 0), Sum.inl (cI, 8, Sum.inl vMany)), ((g 1), Sum.inl (cI, 512, Sum.inl vCounts))] sz (fun (r : Int32) (u : Unit) => r = -1) (fun (u : Unit) => [(o, Sum.inr (9, mO g fForm fShift fModels fItems fEnded fLow fRange fCache fPend fGoes fOuts fIns fReads fBad fIR fAsk fBAsk fCode fRL fRR fX fWrites 0)), ((g 0), Sum.inl (cI, 8, Sum.inl vMany)), ((g 1), Sum.inl (cI, 512, Sum.inl vCounts))]) 0 0 := by
  refine my_ofI (cc := prog_14_method_29_code) (n := 3) (ret := (some .int)) (by decide) rfl (Nat.le_of_ble_eq_true rfl) ?_
  intro p e s m args below meth c R Q A ls H locs hx hb hr hts hown hlocks hml hnm hR hQ hA hl hP hK hN hD hS
  have hg : ∀ w ∈ gw, w.before args s = true := fun w h => hts w (List.mem_cons_of_mem _ h)
  have hown : s.vm.findClass "RangeCodersModel" = some m.cls := hown
  have hl : lv_has ls 3 [(0, Value.ref o), (1, Value.int p1), (2, Value.int p2)] := hl
  refine lv_aload_n hx hb d_M_put_0 rfl (lv_at hl 0 rfl) ?_
  refine lv_iconst (v := 0) hx hb d_M_put_1 (by decide) ?_
  refine va_put (D := (dC, dI)) (ci := 9) (v := .int 0) (ty := .int) (C := "RangeCodersModel") (T := T_M) (N := 35) hx hb hg in_M t_M o_M n_M hown hK hP hD hS 0 rfl rfl 34 (by decide) (hg _ k986) (fun _ h9 => h9) rfl (o_M 34 (by decide)) rfl rfl (Nat.le_of_ble_eq_true rfl) d_M_put_2 (fun H locs hP hD hS => ?_)
  have hPD : my_PD (dC, dI) vwCl A [(o, Sum.inr (9, mO g fForm fShift fModels fItems fEnded fLow fRange fCache fPend fGoes fOuts fIns fReads fBad fIR fAsk fBAsk fCode fRL fRR fX fWrites 0)), ((g 0), Sum.inl (cI, 8, Sum.inl vMany)), ((g 1), Sum.inl (cI, 512, Sum.inl vCounts))] H := ⟨hP, hD⟩
  have hP := hPD.1
  have hD := hPD.2
  refine lv_aload_n hx hb d_M_put_5 rfl (lv_at hl 0 rfl) ?_
  refine lv_iload_n hx hb d_M_put_6 rfl (lv_at hl 1 rfl) ?_
  refine lv_iload_n hx hb d_M_put_7 rfl (lv_at hl 2 rfl) ?_
  refine my_ci (wr := [((g 1), Sum.inl (cI, 512, Sum.inl vCounts))]) (va_runV (As := [Value.int p1, Value.int p2]) (rest := []) ⟨hx, hb, hml, hown, hts⟩ (c_M_isSign l dC dI cI cM cO H.size o g fForm fShift fModels fItems fEnded fLow fRange fCache fPend fGoes fOuts fIns fReads fBad fIR fAsk fBAsk fCode fRL fRR fX fWrites 0 vMany km p1 p2 (hMD.1) (by first | assumption | omega)) (cwV 2 hts (my_gV k1069 k1071 ks25 k12 k1072) rfl rfl rfl cu_M_isSign_2 ⟨by rw [hR]; exact Nat.le_of_ble_eq_true rfl, by rw [hR]; exact Nat.le_of_ble_eq_true rfl⟩) (my_preV hK hN (hP.sub [0, 1] rfl) (hD.sub [0, 1] (by decide +kernel) rfl) 0 rfl rfl) rfl rfl hl.1 rfl (lv_room (Nat.le_of_ble_eq_true rfl)) d_M_put_8 ⟨by rw [hR]; exact Nat.le_of_ble_eq_true rfl, by rw [hR]; exact Nat.le_of_ble_eq_true rfl⟩) hP hD hS hA [0, 1] [2] rfl rfl (by decide +kernel) (by decide +kernel) (fun r_8 u9 H locs hw_8 hP hD hS => ?_)
  have hw_8 : r_8 = if isN km p1 ∧ (0 ≤ p2 ∧ p2 ≤ vMany p1.toNatClampNeg - 1) then 1 else 0 := hw_8
  have hPD : my_PD (dC, dI) vwCl A [((g 1), Sum.inl (cI, 512, Sum.inl vCounts)), (o, Sum.inr (9, mO g fForm fShift fModels fItems fEnded fLow fRange fCache fPend fGoes fOuts fIns fReads fBad fIR fAsk fBAsk fCode fRL fRR fX fWrites 0)), ((g 0), Sum.inl (cI, 8, Sum.inl vMany))] H := ⟨hP, hD⟩
  have hP := hPD.1
  have hD := hPD.2
  refine lv_if_ne (tgt := 16) hx hb d_M_put_11 (by decide) (fun c_1 => ?_) (fun c_1 => ?_)
  · exact absurd (one_ne hw_8 c_1) hno
  · refine lv_iconst (v := (-1)) hx hb d_M_put_14 (by decide) ?_
    exact my_iret (v := (-1)) hx hb hr (rfl) hlocks hQ hK hS (Nat.le_refl _) (Nat.le_refl _) () (rfl) (hP.sub [1, 2, 0] rfl) (hD.sub [1, 2, 0] (by decide +kernel) rfl) d_M_put_15
set_option maxHeartbeats 2000000 in
set_option maxRecDepth 100000 in
theorem m_countV (l : Launch) (dC : Nat → ClassId) (dI : Nat → Nat → Nat) (cI cM cO : ClassId) (sz : Nat) (o : Nat) (g : Nat → Nat) (fForm : Int32) (fShift : Int32) (fModels : Int32) (fItems : Int32) (fEnded : Int32) (fLow : Int64) (fRange : Int64) (fCache : Int32) (fPend : Int32) (fGoes : Int32) (fOuts : Int32) (fIns : Int32) (fReads : Int32) (fBad : Int32) (fIR : Int32) (fAsk : Int32) (fBAsk : Int32) (fCode : Int64) (fRL : Int64) (fRR : Int64) (fX : Int64) (fWrites : Int32) (fThrown : Int32) (vMany : Nat → Int32) (vCounts : Nat → Int32) (km : Nat) (N : Nat → Nat) (jj : Nat) (tt : Nat) (p3 : Int32) (hmod : fModels = nI km) (hMD : MD km N vMany vCounts) (hj : jj < km) (ht : tt < N jj) (hvv : p3 < 0 ∨ 4095 < p3) : MetI l y_M_count (Cond.code y_M_count prog_14_method_14_code 5 (some .int) :: gw) ({ frames := 3, cells := 0, slots := 0, locals := 65 } : Room) (dC, dI) vwCl (kT cI cM cO) [Value.ref o, Value.int (nI jj), Value.int (nI tt), Value.int p3] [(o, Sum.inr (9, mO g fForm fShift fModels fItems fEnded fLow fRange fCache fPend fGoes fOuts fIns fReads fBad fIR fAsk fBAsk fCode fRL fRR fX fWrites fThrown)), ((g 0), Sum.inl (cI, 8, Sum.inl vMany)), ((g 1), Sum.inl (cI, 512, Sum.inl vCounts))] sz (fun (r : Int32) (u : Unit) => r = -2) (fun (u : Unit) => [(o, Sum.inr (9, mO g fForm fShift fModels fItems fEnded fLow fRange fCache fPend fGoes fOuts fIns fReads fBad fIR fAsk fBAsk fCode fRL fRR fX fWrites 0)), ((g 0), Sum.inl (cI, 8, Sum.inl vMany)), ((g 1), Sum.inl (cI, 512, Sum.inl vCounts))]) 0 0 := by
  refine my_ofI (cc := prog_14_method_14_code) (n := 5) (ret := (some .int)) (by decide) rfl (Nat.le_of_ble_eq_true rfl) ?_
  intro p e s m args below meth c R Q A ls H locs hx hb hr hts hown hlocks hml hnm hR hQ hA hl hP hK hN hD hS
  have hg : ∀ w ∈ gw, w.before args s = true := fun w h => hts w (List.mem_cons_of_mem _ h)
  have hown : s.vm.findClass "RangeCodersModel" = some m.cls := hown
  have hl : lv_has ls 5 [(0, Value.ref o), (1, Value.int (nI jj)), (2, Value.int (nI tt)), (3, Value.int p3)] := hl
  refine lv_aload_n hx hb d_M_count_0 rfl (lv_at hl 0 rfl) ?_
  refine lv_iconst (v := 0) hx hb d_M_count_1 (by decide) ?_
  refine va_put (D := (dC, dI)) (ci := 9) (v := .int 0) (ty := .int) (C := "RangeCodersModel") (T := T_M) (N := 35) hx hb hg in_M t_M o_M n_M hown hK hP hD hS 0 rfl rfl 34 (by decide) (hg _ k986) (fun _ h9 => h9) rfl (o_M 34 (by decide)) rfl rfl (Nat.le_of_ble_eq_true rfl) d_M_count_2 (fun H locs hP hD hS => ?_)
  have hPD : my_PD (dC, dI) vwCl A [(o, Sum.inr (9, mO g fForm fShift fModels fItems fEnded fLow fRange fCache fPend fGoes fOuts fIns fReads fBad fIR fAsk fBAsk fCode fRL fRR fX fWrites 0)), ((g 0), Sum.inl (cI, 8, Sum.inl vMany)), ((g 1), Sum.inl (cI, 512, Sum.inl vCounts))] H := ⟨hP, hD⟩
  have hP := hPD.1
  have hD := hPD.2
  refine lv_aload_n hx hb d_M_count_5 rfl (lv_at hl 0 rfl) ?_
  refine lv_iload_n hx hb d_M_count_6 rfl (lv_at hl 1 rfl) ?_
  refine lv_iload_n hx hb d_M_count_7 rfl (lv_at hl 2 rfl) ?_
  refine my_ci (wr := [((g 1), Sum.inl (cI, 512, Sum.inl vCounts))]) (va_runV (As := [Value.int (nI jj), Value.int (nI tt)]) (rest := []) ⟨hx, hb, hml, hown, hts⟩ (c_M_isSign l dC dI cI cM cO H.size o g fForm fShift fModels fItems fEnded fLow fRange fCache fPend fGoes fOuts fIns fReads fBad fIR fAsk fBAsk fCode fRL fRR fX fWrites 0 vMany km (nI jj) (nI tt) (hMD.1) (by first | assumption | omega)) (cwV 2 hts (my_gV k1069 k1071 ks25 k12 k1072) rfl rfl rfl cu_M_isSign_2 ⟨by rw [hR]; exact Nat.le_of_ble_eq_true rfl, by rw [hR]; exact Nat.le_of_ble_eq_true rfl⟩) (my_preV hK hN (hP.sub [0, 1] rfl) (hD.sub [0, 1] (by decide +kernel) rfl) 0 rfl rfl) rfl rfl hl.1 rfl (lv_room (Nat.le_of_ble_eq_true rfl)) d_M_count_8 ⟨by rw [hR]; exact Nat.le_of_ble_eq_true rfl, by rw [hR]; exact Nat.le_of_ble_eq_true rfl⟩) hP hD hS hA [0, 1] [2] rfl rfl (by decide +kernel) (by decide +kernel) (fun r_8 u9 H locs hw_8 hP hD hS => ?_)
  have hw_8 : r_8 = if isN km (nI jj) ∧ (0 ≤ (nI tt) ∧ (nI tt) ≤ vMany (nI jj).toNatClampNeg - 1) then 1 else 0 := hw_8
  have hPD : my_PD (dC, dI) vwCl A [((g 1), Sum.inl (cI, 512, Sum.inl vCounts)), (o, Sum.inr (9, mO g fForm fShift fModels fItems fEnded fLow fRange fCache fPend fGoes fOuts fIns fReads fBad fIR fAsk fBAsk fCode fRL fRR fX fWrites 0)), ((g 0), Sum.inl (cI, 8, Sum.inl vMany))] H := ⟨hP, hD⟩
  have hP := hPD.1
  have hD := hPD.2
  refine lv_if_ne (tgt := 16) hx hb d_M_count_11 (by decide) (fun c_1 => ?_) (fun c_1 => ?_)
  · refine lv_iload_n hx hb d_M_count_16 rfl (lv_at hl 3 rfl) ?_
    refine lv_iconst (v := 0) hx hb d_M_count_17 (by decide) ?_
    refine lv_sipush (v := 4095) hx hb d_M_count_18 (by decide) ?_
    refine my_ci (wr := [((g 1), Sum.inl (cI, 512, Sum.inl vCounts)), (o, Sum.inr (9, mO g fForm fShift fModels fItems fEnded fLow fRange fCache fPend fGoes fOuts fIns fReads fBad fIR fAsk fBAsk fCode fRL fRR fX fWrites 0)), ((g 0), Sum.inl (cI, 8, Sum.inl vMany))]) (va_runS (As := [Value.int p3, Value.int 0, Value.int 4095]) (rest := []) ⟨hx, hb, hml, hown, hts⟩ (c_M_in l dC dI cI cM cO H.size p3 0 4095) (cwS 3 hts (my_gS k1062 k1063 k12 k1064) rfl rfl rfl (by decide +kernel) ⟨by rw [hR]; exact Nat.le_of_ble_eq_true rfl, by rw [hR]; exact Nat.le_of_ble_eq_true rfl⟩) (my_pre hK hN (hP.sub [] rfl) (hD.sub [] (by decide +kernel) rfl)) rfl rfl hl.1 rfl (lv_room (Nat.le_of_ble_eq_true rfl)) d_M_count_21 ⟨by rw [hR]; exact Nat.le_of_ble_eq_true rfl, by rw [hR]; exact Nat.le_of_ble_eq_true rfl⟩) hP hD hS hA [] [0, 1, 2] rfl rfl (by decide +kernel) (by decide +kernel) (fun r_21 u9 H locs hw_21 hP hD hS => ?_)
    have hw_21 : r_21 = if 0 ≤ p3 ∧ p3 ≤ 4095 then 1 else 0 := hw_21
    have hPD : my_PD (dC, dI) vwCl A [((g 1), Sum.inl (cI, 512, Sum.inl vCounts)), (o, Sum.inr (9, mO g fForm fShift fModels fItems fEnded fLow fRange fCache fPend fGoes fOuts fIns fReads fBad fIR fAsk fBAsk fCode fRL fRR fX fWrites 0)), ((g 0), Sum.inl (cI, 8, Sum.inl vMany))] H := ⟨hP, hD⟩
    have hP := hPD.1
    have hD := hPD.2
    refine lv_if_ne (tgt := 30) hx hb d_M_count_24 (by decide) (fun c_2 => ?_) (fun c_2 => ?_)
    · exact absurd hvv (fun h9 => h9.elim (fun q9 => absurd (one_ne hw_21 c_2).1 (Int32.not_le.mpr q9)) (fun q9 => absurd (one_ne hw_21 c_2).2 (Int32.not_le.mpr q9)))
    · refine lv_bipush (v := (-2)) hx hb d_M_count_27 (by decide) ?_
      exact my_iret (v := (-2)) hx hb hr (rfl) hlocks hQ hK hS (Nat.le_refl _) (Nat.le_refl _) () (rfl) (hP.sub [1, 2, 0] rfl) (hD.sub [1, 2, 0] (by decide +kernel) rfl) d_M_count_29
  · exact absurd (sg_yes hMD hj ht) (one_eq hw_8 c_1)
set_option maxHeartbeats 2000000 in
set_option maxRecDepth 100000 in
theorem m_countN (l : Launch) (dC : Nat → ClassId) (dI : Nat → Nat → Nat) (cI cM cO : ClassId) (sz : Nat) (o : Nat) (g : Nat → Nat) (fForm : Int32) (fShift : Int32) (fModels : Int32) (fItems : Int32) (fEnded : Int32) (fLow : Int64) (fRange : Int64) (fCache : Int32) (fPend : Int32) (fGoes : Int32) (fOuts : Int32) (fIns : Int32) (fReads : Int32) (fBad : Int32) (fIR : Int32) (fAsk : Int32) (fBAsk : Int32) (fCode : Int64) (fRL : Int64) (fRR : Int64) (fX : Int64) (fWrites : Int32) (fThrown : Int32) (vMany : Nat → Int32) (vCounts : Nat → Int32) (km : Nat) (N : Nat → Nat) (jj : Nat) (tt : Nat) (cc : Nat) (hmod : fModels = nI km) (hMD : MD km N vMany vCounts) (hj : jj < km) (ht : tt < N jj) (hcc : cc ≤ 4095) (hnn : (0 < fItems ∧ fEnded = 0) ∨ ¬ fReads = 0) : MetI l y_M_count (Cond.code y_M_count prog_14_method_14_code 5 (some .int) :: gw) ({ frames := 3, cells := 0, slots := 0, locals := 65 } : Room) (dC, dI) vwCl (kT cI cM cO) [Value.ref o, Value.int (nI jj), Value.int (nI tt), Value.int (nI cc)] [(o, Sum.inr (9, mO g fForm fShift fModels fItems fEnded fLow fRange fCache fPend fGoes fOuts fIns fReads fBad fIR fAsk fBAsk fCode fRL fRR fX fWrites fThrown)), ((g 0), Sum.inl (cI, 8, Sum.inl vMany)), ((g 1), Sum.inl (cI, 512, Sum.inl vCounts))] sz (fun (r : Int32) (u : Unit) => r = -3) (fun (u : Unit) => [(o, Sum.inr (9, mO g fForm fShift fModels fItems fEnded fLow fRange fCache fPend fGoes fOuts fIns fReads fBad fIR fAsk fBAsk fCode fRL fRR fX fWrites 0)), ((g 0), Sum.inl (cI, 8, Sum.inl vMany)), ((g 1), Sum.inl (cI, 512, Sum.inl vCounts))]) 0 0 := by
  refine my_ofI (cc := prog_14_method_14_code) (n := 5) (ret := (some .int)) (by decide) rfl (Nat.le_of_ble_eq_true rfl) ?_
  intro p e s m args below meth c R Q A ls H locs hx hb hr hts hown hlocks hml hnm hR hQ hA hl hP hK hN hD hS
  have hg : ∀ w ∈ gw, w.before args s = true := fun w h => hts w (List.mem_cons_of_mem _ h)
  have hown : s.vm.findClass "RangeCodersModel" = some m.cls := hown
  have hl : lv_has ls 5 [(0, Value.ref o), (1, Value.int (nI jj)), (2, Value.int (nI tt)), (3, Value.int (nI cc))] := hl
  refine lv_aload_n hx hb d_M_count_0 rfl (lv_at hl 0 rfl) ?_
  refine lv_iconst (v := 0) hx hb d_M_count_1 (by decide) ?_
  refine va_put (D := (dC, dI)) (ci := 9) (v := .int 0) (ty := .int) (C := "RangeCodersModel") (T := T_M) (N := 35) hx hb hg in_M t_M o_M n_M hown hK hP hD hS 0 rfl rfl 34 (by decide) (hg _ k986) (fun _ h9 => h9) rfl (o_M 34 (by decide)) rfl rfl (Nat.le_of_ble_eq_true rfl) d_M_count_2 (fun H locs hP hD hS => ?_)
  have hPD : my_PD (dC, dI) vwCl A [(o, Sum.inr (9, mO g fForm fShift fModels fItems fEnded fLow fRange fCache fPend fGoes fOuts fIns fReads fBad fIR fAsk fBAsk fCode fRL fRR fX fWrites 0)), ((g 0), Sum.inl (cI, 8, Sum.inl vMany)), ((g 1), Sum.inl (cI, 512, Sum.inl vCounts))] H := ⟨hP, hD⟩
  have hP := hPD.1
  have hD := hPD.2
  refine lv_aload_n hx hb d_M_count_5 rfl (lv_at hl 0 rfl) ?_
  refine lv_iload_n hx hb d_M_count_6 rfl (lv_at hl 1 rfl) ?_
  refine lv_iload_n hx hb d_M_count_7 rfl (lv_at hl 2 rfl) ?_
  refine my_ci (wr := [((g 1), Sum.inl (cI, 512, Sum.inl vCounts))]) (va_runV (As := [Value.int (nI jj), Value.int (nI tt)]) (rest := []) ⟨hx, hb, hml, hown, hts⟩ (c_M_isSign l dC dI cI cM cO H.size o g fForm fShift fModels fItems fEnded fLow fRange fCache fPend fGoes fOuts fIns fReads fBad fIR fAsk fBAsk fCode fRL fRR fX fWrites 0 vMany km (nI jj) (nI tt) (hMD.1) (by first | assumption | omega)) (cwV 2 hts (my_gV k1069 k1071 ks25 k12 k1072) rfl rfl rfl cu_M_isSign_2 ⟨by rw [hR]; exact Nat.le_of_ble_eq_true rfl, by rw [hR]; exact Nat.le_of_ble_eq_true rfl⟩) (my_preV hK hN (hP.sub [0, 1] rfl) (hD.sub [0, 1] (by decide +kernel) rfl) 0 rfl rfl) rfl rfl hl.1 rfl (lv_room (Nat.le_of_ble_eq_true rfl)) d_M_count_8 ⟨by rw [hR]; exact Nat.le_of_ble_eq_true rfl, by rw [hR]; exact Nat.le_of_ble_eq_true rfl⟩) hP hD hS hA [0, 1] [2] rfl rfl (by decide +kernel) (by decide +kernel) (fun r_8 u9 H locs hw_8 hP hD hS => ?_)
  have hw_8 : r_8 = if isN km (nI jj) ∧ (0 ≤ (nI tt) ∧ (nI tt) ≤ vMany (nI jj).toNatClampNeg - 1) then 1 else 0 := hw_8
  have hPD : my_PD (dC, dI) vwCl A [((g 1), Sum.inl (cI, 512, Sum.inl vCounts)), (o, Sum.inr (9, mO g fForm fShift fModels fItems fEnded fLow fRange fCache fPend fGoes fOuts fIns fReads fBad fIR fAsk fBAsk fCode fRL fRR fX fWrites 0)), ((g 0), Sum.inl (cI, 8, Sum.inl vMany))] H := ⟨hP, hD⟩
  have hP := hPD.1
  have hD := hPD.2
  refine lv_if_ne (tgt := 16) hx hb d_M_count_11 (by decide) (fun c_1 => ?_) (fun c_1 => ?_)
  · refine lv_iload_n hx hb d_M_count_16 rfl (lv_at hl 3 rfl) ?_
    refine lv_iconst (v := 0) hx hb d_M_count_17 (by decide) ?_
    refine lv_sipush (v := 4095) hx hb d_M_count_18 (by decide) ?_
    refine my_ci (wr := [((g 1), Sum.inl (cI, 512, Sum.inl vCounts)), (o, Sum.inr (9, mO g fForm fShift fModels fItems fEnded fLow fRange fCache fPend fGoes fOuts fIns fReads fBad fIR fAsk fBAsk fCode fRL fRR fX fWrites 0)), ((g 0), Sum.inl (cI, 8, Sum.inl vMany))]) (va_runS (As := [Value.int (nI cc), Value.int 0, Value.int 4095]) (rest := []) ⟨hx, hb, hml, hown, hts⟩ (c_M_in l dC dI cI cM cO H.size (nI cc) 0 4095) (cwS 3 hts (my_gS k1062 k1063 k12 k1064) rfl rfl rfl (by decide +kernel) ⟨by rw [hR]; exact Nat.le_of_ble_eq_true rfl, by rw [hR]; exact Nat.le_of_ble_eq_true rfl⟩) (my_pre hK hN (hP.sub [] rfl) (hD.sub [] (by decide +kernel) rfl)) rfl rfl hl.1 rfl (lv_room (Nat.le_of_ble_eq_true rfl)) d_M_count_21 ⟨by rw [hR]; exact Nat.le_of_ble_eq_true rfl, by rw [hR]; exact Nat.le_of_ble_eq_true rfl⟩) hP hD hS hA [] [0, 1, 2] rfl rfl (by decide +kernel) (by decide +kernel) (fun r_21 u9 H locs hw_21 hP hD hS => ?_)
    have hw_21 : r_21 = if 0 ≤ (nI cc) ∧ (nI cc) ≤ 4095 then 1 else 0 := hw_21
    have hPD : my_PD (dC, dI) vwCl A [((g 1), Sum.inl (cI, 512, Sum.inl vCounts)), (o, Sum.inr (9, mO g fForm fShift fModels fItems fEnded fLow fRange fCache fPend fGoes fOuts fIns fReads fBad fIR fAsk fBAsk fCode fRL fRR fX fWrites 0)), ((g 0), Sum.inl (cI, 8, Sum.inl vMany))] H := ⟨hP, hD⟩
    have hP := hPD.1
    have hD := hPD.2
    refine lv_if_ne (tgt := 30) hx hb d_M_count_24 (by decide) (fun c_2 => ?_) (fun c_2 => ?_)
    · refine lv_aload_n hx hb d_M_count_30 rfl (lv_at hl 0 rfl) ?_
      refine va_get (D := (dC, dI)) (ci := 9) (v := .int fItems) (C := "RangeCodersModel") (T := T_M) (N := 35) hx hb hg in_M hown hK hP 1 rfl rfl 7 (by decide) (hg _ k959) (fun _ h9 => h9) rfl d_M_count_31 ?_
      refine lv_if_le (tgt := 44) hx hb d_M_count_34 (by decide) (fun c_3 => ?_) (fun c_3 => ?_)
      · refine lv_aload_n hx hb d_M_count_44 rfl (lv_at hl 0 rfl) ?_
        refine va_get (D := (dC, dI)) (ci := 9) (v := .int fReads) (C := "RangeCodersModel") (T := T_M) (N := 35) hx hb hg in_M hown hK hP 1 rfl rfl 21 (by decide) (hg _ k973) (fun _ h9 => h9) rfl d_M_count_45 ?_
        refine lv_if_eq (tgt := 54) hx hb d_M_count_48 (by decide) (fun c_4 => ?_) (fun c_4 => ?_)
        · exact absurd hnn (fun h9 => h9.elim (fun q9 => absurd q9.1 (Int32.not_lt.mpr c_3)) (fun q9 => q9 c_4))
        · refine lv_bipush (v := (-3)) hx hb d_M_count_51 (by decide) ?_
          exact my_iret (v := (-3)) hx hb hr (rfl) hlocks hQ hK hS (Nat.le_refl _) (Nat.le_refl _) () (rfl) (hP.sub [1, 2, 0] rfl) (hD.sub [1, 2, 0] (by decide +kernel) rfl) d_M_count_53
      · refine lv_aload_n hx hb d_M_count_37 rfl (lv_at hl 0 rfl) ?_
        refine va_get (D := (dC, dI)) (ci := 9) (v := .int fEnded) (C := "RangeCodersModel") (T := T_M) (N := 35) hx hb hg in_M hown hK hP 1 rfl rfl 10 (by decide) (hg _ k962) (fun _ h9 => h9) rfl d_M_count_38 ?_
        refine lv_if_eq (tgt := 51) hx hb d_M_count_41 (by decide) (fun c_5 => ?_) (fun c_5 => ?_)
        · refine lv_bipush (v := (-3)) hx hb d_M_count_51 (by decide) ?_
          exact my_iret (v := (-3)) hx hb hr (rfl) hlocks hQ hK hS (Nat.le_refl _) (Nat.le_refl _) () (rfl) (hP.sub [1, 2, 0] rfl) (hD.sub [1, 2, 0] (by decide +kernel) rfl) d_M_count_53
        · refine lv_aload_n hx hb d_M_count_44 rfl (lv_at hl 0 rfl) ?_
          refine va_get (D := (dC, dI)) (ci := 9) (v := .int fReads) (C := "RangeCodersModel") (T := T_M) (N := 35) hx hb hg in_M hown hK hP 1 rfl rfl 21 (by decide) (hg _ k973) (fun _ h9 => h9) rfl d_M_count_45 ?_
          refine lv_if_eq (tgt := 54) hx hb d_M_count_48 (by decide) (fun c_6 => ?_) (fun c_6 => ?_)
          · exact absurd hnn (fun h9 => h9.elim (fun q9 => c_5 q9.2) (fun q9 => q9 c_6))
          · refine lv_bipush (v := (-3)) hx hb d_M_count_51 (by decide) ?_
            exact my_iret (v := (-3)) hx hb hr (rfl) hlocks hQ hK hS (Nat.le_refl _) (Nat.le_refl _) () (rfl) (hP.sub [1, 2, 0] rfl) (hD.sub [1, 2, 0] (by decide +kernel) rfl) d_M_count_53
    · exact absurd ⟨nI_pos' (by omega), nI_le (b := 4095) hcc (by decide)⟩ (one_eq hw_21 c_2)
  · exact absurd (sg_yes hMD hj ht) (one_eq hw_8 c_1)
set_option maxHeartbeats 2000000 in
set_option maxRecDepth 100000 in
theorem m_countE (l : Launch) (dC : Nat → ClassId) (dI : Nat → Nat → Nat) (cI cM cO : ClassId) (sz : Nat) (o : Nat) (g : Nat → Nat) (fForm : Int32) (fShift : Int32) (fModels : Int32) (fItems : Int32) (fEnded : Int32) (fLow : Int64) (fRange : Int64) (fCache : Int32) (fPend : Int32) (fGoes : Int32) (fOuts : Int32) (fIns : Int32) (fReads : Int32) (fBad : Int32) (fIR : Int32) (fAsk : Int32) (fBAsk : Int32) (fCode : Int64) (fRL : Int64) (fRR : Int64) (fX : Int64) (fWrites : Int32) (fThrown : Int32) (vMany : Nat → Int32) (vCounts : Nat → Int32) (km : Nat) (N : Nat → Nat) (jj : Nat) (tt : Nat) (cc : Nat) (hmod : fModels = nI km) (hMD : MD km N vMany vCounts) (hj : jj < km) (ht : tt < N jj) (hcc : cc ≤ 4095) (hen : ¬ fEnded = 0) (hrd : fReads = 0) : MetI l y_M_count (Cond.code y_M_count prog_14_method_14_code 5 (some .int) :: gw) ({ frames := 3, cells := 0, slots := 0, locals := 65 } : Room) (dC, dI) vwCl (kT cI cM cO) [Value.ref o, Value.int (nI jj), Value.int (nI tt), Value.int (nI cc)] [(o, Sum.inr (9, mO g fForm fShift fModels fItems fEnded fLow fRange fCache fPend fGoes fOuts fIns fReads fBad fIR fAsk fBAsk fCode fRL fRR fX fWrites fThrown)), ((g 0), Sum.inl (cI, 8, Sum.inl vMany)), ((g 1), Sum.inl (cI, 512, Sum.inl vCounts))] sz (fun (r : Int32) (u : (Nat → Int32)) => r = vCounts (64 * jj + tt) ∧ u = upd vCounts (64 * jj + tt) (nI cc)) (fun (u : (Nat → Int32)) => [(o, Sum.inr (9, mO g fForm fShift fModels fItems fEnded fLow fRange fCache fPend fGoes fOuts fIns fReads fBad fIR fAsk fBAsk fCode fRL fRR fX fWrites 0)), ((g 0), Sum.inl (cI, 8, Sum.inl vMany)), ((g 1), Sum.inl (cI, 512, Sum.inl u))]) 0 0 := by
  refine my_ofI (cc := prog_14_method_14_code) (n := 5) (ret := (some .int)) (by decide) rfl (Nat.le_of_ble_eq_true rfl) ?_
  intro p e s m args below meth c R Q A ls H locs hx hb hr hts hown hlocks hml hnm hR hQ hA hl hP hK hN hD hS
  have hg : ∀ w ∈ gw, w.before args s = true := fun w h => hts w (List.mem_cons_of_mem _ h)
  have hown : s.vm.findClass "RangeCodersModel" = some m.cls := hown
  have hl : lv_has ls 5 [(0, Value.ref o), (1, Value.int (nI jj)), (2, Value.int (nI tt)), (3, Value.int (nI cc))] := hl
  have hk8 := hMD.1
  obtain ⟨hn9, hn2, hn64, C9, hc9, hB9⟩ := hMD.2 jj hj
  refine lv_aload_n hx hb d_M_count_0 rfl (lv_at hl 0 rfl) ?_
  refine lv_iconst (v := 0) hx hb d_M_count_1 (by decide) ?_
  refine va_put (D := (dC, dI)) (ci := 9) (v := .int 0) (ty := .int) (C := "RangeCodersModel") (T := T_M) (N := 35) hx hb hg in_M t_M o_M n_M hown hK hP hD hS 0 rfl rfl 34 (by decide) (hg _ k986) (fun _ h9 => h9) rfl (o_M 34 (by decide)) rfl rfl (Nat.le_of_ble_eq_true rfl) d_M_count_2 (fun H locs hP hD hS => ?_)
  have hPD : my_PD (dC, dI) vwCl A [(o, Sum.inr (9, mO g fForm fShift fModels fItems fEnded fLow fRange fCache fPend fGoes fOuts fIns fReads fBad fIR fAsk fBAsk fCode fRL fRR fX fWrites 0)), ((g 0), Sum.inl (cI, 8, Sum.inl vMany)), ((g 1), Sum.inl (cI, 512, Sum.inl vCounts))] H := ⟨hP, hD⟩
  have hP := hPD.1
  have hD := hPD.2
  refine lv_aload_n hx hb d_M_count_5 rfl (lv_at hl 0 rfl) ?_
  refine lv_iload_n hx hb d_M_count_6 rfl (lv_at hl 1 rfl) ?_
  refine lv_iload_n hx hb d_M_count_7 rfl (lv_at hl 2 rfl) ?_
  refine my_ci (wr := [((g 1), Sum.inl (cI, 512, Sum.inl vCounts))]) (va_runV (As := [Value.int (nI jj), Value.int (nI tt)]) (rest := []) ⟨hx, hb, hml, hown, hts⟩ (c_M_isSign l dC dI cI cM cO H.size o g fForm fShift fModels fItems fEnded fLow fRange fCache fPend fGoes fOuts fIns fReads fBad fIR fAsk fBAsk fCode fRL fRR fX fWrites 0 vMany km (nI jj) (nI tt) (hMD.1) (by first | assumption | omega)) (cwV 2 hts (my_gV k1069 k1071 ks25 k12 k1072) rfl rfl rfl cu_M_isSign_2 ⟨by rw [hR]; exact Nat.le_of_ble_eq_true rfl, by rw [hR]; exact Nat.le_of_ble_eq_true rfl⟩) (my_preV hK hN (hP.sub [0, 1] rfl) (hD.sub [0, 1] (by decide +kernel) rfl) 0 rfl rfl) rfl rfl hl.1 rfl (lv_room (Nat.le_of_ble_eq_true rfl)) d_M_count_8 ⟨by rw [hR]; exact Nat.le_of_ble_eq_true rfl, by rw [hR]; exact Nat.le_of_ble_eq_true rfl⟩) hP hD hS hA [0, 1] [2] rfl rfl (by decide +kernel) (by decide +kernel) (fun r_8 u9 H locs hw_8 hP hD hS => ?_)
  have hw_8 : r_8 = if isN km (nI jj) ∧ (0 ≤ (nI tt) ∧ (nI tt) ≤ vMany (nI jj).toNatClampNeg - 1) then 1 else 0 := hw_8
  have hPD : my_PD (dC, dI) vwCl A [((g 1), Sum.inl (cI, 512, Sum.inl vCounts)), (o, Sum.inr (9, mO g fForm fShift fModels fItems fEnded fLow fRange fCache fPend fGoes fOuts fIns fReads fBad fIR fAsk fBAsk fCode fRL fRR fX fWrites 0)), ((g 0), Sum.inl (cI, 8, Sum.inl vMany))] H := ⟨hP, hD⟩
  have hP := hPD.1
  have hD := hPD.2
  refine lv_if_ne (tgt := 16) hx hb d_M_count_11 (by decide) (fun c_1 => ?_) (fun c_1 => ?_)
  · refine lv_iload_n hx hb d_M_count_16 rfl (lv_at hl 3 rfl) ?_
    refine lv_iconst (v := 0) hx hb d_M_count_17 (by decide) ?_
    refine lv_sipush (v := 4095) hx hb d_M_count_18 (by decide) ?_
    refine my_ci (wr := [((g 1), Sum.inl (cI, 512, Sum.inl vCounts)), (o, Sum.inr (9, mO g fForm fShift fModels fItems fEnded fLow fRange fCache fPend fGoes fOuts fIns fReads fBad fIR fAsk fBAsk fCode fRL fRR fX fWrites 0)), ((g 0), Sum.inl (cI, 8, Sum.inl vMany))]) (va_runS (As := [Value.int (nI cc), Value.int 0, Value.int 4095]) (rest := []) ⟨hx, hb, hml, hown, hts⟩ (c_M_in l dC dI cI cM cO H.size (nI cc) 0 4095) (cwS 3 hts (my_gS k1062 k1063 k12 k1064) rfl rfl rfl (by decide +kernel) ⟨by rw [hR]; exact Nat.le_of_ble_eq_true rfl, by rw [hR]; exact Nat.le_of_ble_eq_true rfl⟩) (my_pre hK hN (hP.sub [] rfl) (hD.sub [] (by decide +kernel) rfl)) rfl rfl hl.1 rfl (lv_room (Nat.le_of_ble_eq_true rfl)) d_M_count_21 ⟨by rw [hR]; exact Nat.le_of_ble_eq_true rfl, by rw [hR]; exact Nat.le_of_ble_eq_true rfl⟩) hP hD hS hA [] [0, 1, 2] rfl rfl (by decide +kernel) (by decide +kernel) (fun r_21 u9 H locs hw_21 hP hD hS => ?_)
    have hw_21 : r_21 = if 0 ≤ (nI cc) ∧ (nI cc) ≤ 4095 then 1 else 0 := hw_21
    have hPD : my_PD (dC, dI) vwCl A [((g 1), Sum.inl (cI, 512, Sum.inl vCounts)), (o, Sum.inr (9, mO g fForm fShift fModels fItems fEnded fLow fRange fCache fPend fGoes fOuts fIns fReads fBad fIR fAsk fBAsk fCode fRL fRR fX fWrites 0)), ((g 0), Sum.inl (cI, 8, Sum.inl vMany))] H := ⟨hP, hD⟩
    have hP := hPD.1
    have hD := hPD.2
    refine lv_if_ne (tgt := 30) hx hb d_M_count_24 (by decide) (fun c_2 => ?_) (fun c_2 => ?_)
    · refine lv_aload_n hx hb d_M_count_30 rfl (lv_at hl 0 rfl) ?_
      refine va_get (D := (dC, dI)) (ci := 9) (v := .int fItems) (C := "RangeCodersModel") (T := T_M) (N := 35) hx hb hg in_M hown hK hP 1 rfl rfl 7 (by decide) (hg _ k959) (fun _ h9 => h9) rfl d_M_count_31 ?_
      refine lv_if_le (tgt := 44) hx hb d_M_count_34 (by decide) (fun c_3 => ?_) (fun c_3 => ?_)
      · refine lv_aload_n hx hb d_M_count_44 rfl (lv_at hl 0 rfl) ?_
        refine va_get (D := (dC, dI)) (ci := 9) (v := .int fReads) (C := "RangeCodersModel") (T := T_M) (N := 35) hx hb hg in_M hown hK hP 1 rfl rfl 21 (by decide) (hg _ k973) (fun _ h9 => h9) rfl d_M_count_45 ?_
        refine lv_if_eq (tgt := 54) hx hb d_M_count_48 (by decide) (fun c_4 => ?_) (fun c_4 => ?_)
        · refine lv_aload_n hx hb d_M_count_54 rfl (lv_at hl 0 rfl) ?_
          refine va_get (D := (dC, dI)) (ci := 9) (v := .ref (g 1)) (C := "RangeCodersModel") (T := T_M) (N := 35) hx hb hg in_M hown hK hP 1 rfl rfl 4 (by decide) (hg _ k956) (fun _ h9 => h9) rfl d_M_count_55 ?_
          refine lv_bipush (v := 64) hx hb d_M_count_58 (by decide) ?_
          refine lv_iload_n hx hb d_M_count_60 rfl (lv_at hl 1 rfl) ?_
          refine lv_imul hx hb d_M_count_61 ?_
          refine lv_topi (fun v_5 ev_5 => ?_)
          refine lv_iload_n hx hb d_M_count_62 rfl (lv_at hl 2 rfl) ?_
          refine lv_iadd hx hb d_M_count_63 ?_
          refine lv_topi (fun v_6 ev_6 => ?_)
          have hix0 : v_6 = nI (64 * jj + tt) := by rw [ev_6, ev_5]; exact ix64
          refine va_iald hx hb hK hP 0 0 rfl rfl (by rw [hix0]; exact vp_in_nI (by omega) (by decide)) d_M_count_64 ?_
          refine lv_topi (fun v_7 ev_7 => ?_)
          refine lv_istore (lv' := [(4, Value.int v_7), (0, Value.ref o), (1, Value.int (nI jj)), (2, Value.int (nI tt)), (3, Value.int (nI cc))]) hx hb d_M_count_65 hl (by decide) rfl (fun ls hl => ?_)
          refine lv_aload_n hx hb d_M_count_67 rfl (lv_at hl 1 rfl) ?_
          refine va_get (D := (dC, dI)) (ci := 9) (v := .ref (g 1)) (C := "RangeCodersModel") (T := T_M) (N := 35) hx hb hg in_M hown hK hP 1 rfl rfl 4 (by decide) (hg _ k956) (fun _ h9 => h9) rfl d_M_count_68 ?_
          refine lv_bipush (v := 64) hx hb d_M_count_71 (by decide) ?_
          refine lv_iload_n hx hb d_M_count_73 rfl (lv_at hl 2 rfl) ?_
          refine lv_imul hx hb d_M_count_74 ?_
          refine lv_topi (fun v_8 ev_8 => ?_)
          refine lv_iload_n hx hb d_M_count_75 rfl (lv_at hl 3 rfl) ?_
          refine lv_iadd hx hb d_M_count_76 ?_
          refine lv_topi (fun v_9 ev_9 => ?_)
          have hix : v_9 = nI (64 * jj + tt) := by rw [ev_9, ev_8]; exact ix64
          refine lv_iload_n hx hb d_M_count_77 rfl (lv_at hl 4 rfl) ?_
          refine va_iast hx hb hK hP hD hS 0 0 rfl rfl (by rw [hix]; exact vp_in_nI (by omega) (by decide)) d_M_count_78 (fun H locs hP hD hS => ?_)
          have hPD : my_PD (dC, dI) vwCl A [((g 1), Sum.inl (cI, 512, Sum.inl (upd vCounts v_9.toNatClampNeg (nI cc)))), (o, Sum.inr (9, mO g fForm fShift fModels fItems fEnded fLow fRange fCache fPend fGoes fOuts fIns fReads fBad fIR fAsk fBAsk fCode fRL fRR fX fWrites 0)), ((g 0), Sum.inl (cI, 8, Sum.inl vMany))] H := ⟨hP, hD⟩
          have hP := hPD.1
          have hD := hPD.2
          refine lv_aload_n hx hb d_M_count_79 rfl (lv_at hl 1 rfl) ?_
          refine va_get (D := (dC, dI)) (ci := 9) (v := .int fEnded) (C := "RangeCodersModel") (T := T_M) (N := 35) hx hb hg in_M hown hK hP 1 rfl rfl 10 (by decide) (hg _ k962) (fun _ h9 => h9) rfl d_M_count_80 ?_
          refine lv_if_ne (tgt := 95) hx hb d_M_count_83 (by decide) (fun c_10 => ?_) (fun c_10 => ?_)
          · refine lv_iload hx hb d_M_count_95 (lv_at hl 0 rfl) ?_
            exact my_iret (v := v_7) hx hb hr (rfl) hlocks hQ hK hS (Nat.le_refl _) (Nat.le_refl _) (upd vCounts v_9.toNatClampNeg (nI cc)) (⟨by rw [ev_7, hix0, nI_clamp (by omega)], by rw [hix, nI_clamp (by omega)]⟩) (hP.sub [1, 2, 0] rfl) (hD.sub [1, 2, 0] (by decide +kernel) rfl) d_M_count_97
          · exact absurd c_10 hen
        · exact absurd hrd c_4
      · refine lv_aload_n hx hb d_M_count_37 rfl (lv_at hl 0 rfl) ?_
        refine va_get (D := (dC, dI)) (ci := 9) (v := .int fEnded) (C := "RangeCodersModel") (T := T_M) (N := 35) hx hb hg in_M hown hK hP 1 rfl rfl 10 (by decide) (hg _ k962) (fun _ h9 => h9) rfl d_M_count_38 ?_
        refine lv_if_eq (tgt := 51) hx hb d_M_count_41 (by decide) (fun c_11 => ?_) (fun c_11 => ?_)
        · exact absurd c_11 hen
        · refine lv_aload_n hx hb d_M_count_44 rfl (lv_at hl 0 rfl) ?_
          refine va_get (D := (dC, dI)) (ci := 9) (v := .int fReads) (C := "RangeCodersModel") (T := T_M) (N := 35) hx hb hg in_M hown hK hP 1 rfl rfl 21 (by decide) (hg _ k973) (fun _ h9 => h9) rfl d_M_count_45 ?_
          refine lv_if_eq (tgt := 54) hx hb d_M_count_48 (by decide) (fun c_12 => ?_) (fun c_12 => ?_)
          · refine lv_aload_n hx hb d_M_count_54 rfl (lv_at hl 0 rfl) ?_
            refine va_get (D := (dC, dI)) (ci := 9) (v := .ref (g 1)) (C := "RangeCodersModel") (T := T_M) (N := 35) hx hb hg in_M hown hK hP 1 rfl rfl 4 (by decide) (hg _ k956) (fun _ h9 => h9) rfl d_M_count_55 ?_
            refine lv_bipush (v := 64) hx hb d_M_count_58 (by decide) ?_
            refine lv_iload_n hx hb d_M_count_60 rfl (lv_at hl 1 rfl) ?_
            refine lv_imul hx hb d_M_count_61 ?_
            refine lv_topi (fun v_13 ev_13 => ?_)
            refine lv_iload_n hx hb d_M_count_62 rfl (lv_at hl 2 rfl) ?_
            refine lv_iadd hx hb d_M_count_63 ?_
            refine lv_topi (fun v_14 ev_14 => ?_)
            have hix0 : v_14 = nI (64 * jj + tt) := by rw [ev_14, ev_13]; exact ix64
            refine va_iald hx hb hK hP 0 0 rfl rfl (by rw [hix0]; exact vp_in_nI (by omega) (by decide)) d_M_count_64 ?_
            refine lv_topi (fun v_15 ev_15 => ?_)
            refine lv_istore (lv' := [(4, Value.int v_15), (0, Value.ref o), (1, Value.int (nI jj)), (2, Value.int (nI tt)), (3, Value.int (nI cc))]) hx hb d_M_count_65 hl (by decide) rfl (fun ls hl => ?_)
            refine lv_aload_n hx hb d_M_count_67 rfl (lv_at hl 1 rfl) ?_
            refine va_get (D := (dC, dI)) (ci := 9) (v := .ref (g 1)) (C := "RangeCodersModel") (T := T_M) (N := 35) hx hb hg in_M hown hK hP 1 rfl rfl 4 (by decide) (hg _ k956) (fun _ h9 => h9) rfl d_M_count_68 ?_
            refine lv_bipush (v := 64) hx hb d_M_count_71 (by decide) ?_
            refine lv_iload_n hx hb d_M_count_73 rfl (lv_at hl 2 rfl) ?_
            refine lv_imul hx hb d_M_count_74 ?_
            refine lv_topi (fun v_16 ev_16 => ?_)
            refine lv_iload_n hx hb d_M_count_75 rfl (lv_at hl 3 rfl) ?_
            refine lv_iadd hx hb d_M_count_76 ?_
            refine lv_topi (fun v_17 ev_17 => ?_)
            have hix : v_17 = nI (64 * jj + tt) := by rw [ev_17, ev_16]; exact ix64
            refine lv_iload_n hx hb d_M_count_77 rfl (lv_at hl 4 rfl) ?_
            refine va_iast hx hb hK hP hD hS 0 0 rfl rfl (by rw [hix]; exact vp_in_nI (by omega) (by decide)) d_M_count_78 (fun H locs hP hD hS => ?_)
            have hPD : my_PD (dC, dI) vwCl A [((g 1), Sum.inl (cI, 512, Sum.inl (upd vCounts v_17.toNatClampNeg (nI cc)))), (o, Sum.inr (9, mO g fForm fShift fModels fItems fEnded fLow fRange fCache fPend fGoes fOuts fIns fReads fBad fIR fAsk fBAsk fCode fRL fRR fX fWrites 0)), ((g 0), Sum.inl (cI, 8, Sum.inl vMany))] H := ⟨hP, hD⟩
            have hP := hPD.1
            have hD := hPD.2
            refine lv_aload_n hx hb d_M_count_79 rfl (lv_at hl 1 rfl) ?_
            refine va_get (D := (dC, dI)) (ci := 9) (v := .int fEnded) (C := "RangeCodersModel") (T := T_M) (N := 35) hx hb hg in_M hown hK hP 1 rfl rfl 10 (by decide) (hg _ k962) (fun _ h9 => h9) rfl d_M_count_80 ?_
            refine lv_if_ne (tgt := 95) hx hb d_M_count_83 (by decide) (fun c_18 => ?_) (fun c_18 => ?_)
            · refine lv_iload hx hb d_M_count_95 (lv_at hl 0 rfl) ?_
              exact my_iret (v := v_15) hx hb hr (rfl) hlocks hQ hK hS (Nat.le_refl _) (Nat.le_refl _) (upd vCounts v_17.toNatClampNeg (nI cc)) (⟨by rw [ev_15, hix0, nI_clamp (by omega)], by rw [hix, nI_clamp (by omega)]⟩) (hP.sub [1, 2, 0] rfl) (hD.sub [1, 2, 0] (by decide +kernel) rfl) d_M_count_97
            · exact absurd c_18 hen
          · exact absurd hrd c_12
    · exact absurd ⟨nI_pos' (by omega), nI_le (b := 4095) hcc (by decide)⟩ (one_eq hw_21 c_2)
  · exact absurd (sg_yes hMD hj ht) (one_eq hw_8 c_1)
set_option maxHeartbeats 2000000 in
set_option maxRecDepth 100000 in
theorem m_countL (l : Launch) (dC : Nat → ClassId) (dI : Nat → Nat → Nat) (cI cM cO : ClassId) (sz : Nat) (o : Nat) (g : Nat → Nat) (fForm : Int32) (fShift : Int32) (fModels : Int32) (fItems : Int32) (fLow : Int64) (fRange : Int64) (fCache : Int32) (fPend : Int32) (fGoes : Int32) (fOuts : Int32) (fIns : Int32) (fReads : Int32) (fBad : Int32) (fIR : Int32) (fAsk : Int32) (fBAsk : Int32) (fCode : Int64) (fRL : Int64) (fRR : Int64) (fX : Int64) (fWrites : Int32) (fThrown : Int32) (vMany : Nat → Int32) (vCounts : Nat → Int32) (vNow : Nat → Int32) (km : Nat) (N : Nat → Nat) (jj : Nat) (tt : Nat) (cc : Nat) (fm : Nat) (C : Nat → Nat) (hfm : fm ≤ 4) (hform : fForm = nI fm) (hmod : fModels = nI km) (hMD : MD km N vMany vCounts) (hj : jj < km) (ht : tt < N jj) (hcc : cc ≤ 4095) (hfi : ¬ 0 < fItems) (hrd : fReads = 0) (hC : sgI vCounts (64 * jj) (N jj) C) (hB : bd C (N jj) 4095) : MetI l y_M_count (Cond.code y_M_count prog_14_method_14_code 5 (some .int) :: gw) ({ frames := 3, cells := 0, slots := 0, locals := 75 } : Room) (dC, dI) vwCl (kT cI cM cO) [Value.ref o, Value.int (nI jj), Value.int (nI tt), Value.int (nI cc)] [(o, Sum.inr (9, mO g fForm fShift fModels fItems 0 fLow fRange fCache fPend fGoes fOuts fIns fReads fBad fIR fAsk fBAsk fCode fRL fRR fX fWrites fThrown)), ((g 0), Sum.inl (cI, 8, Sum.inl vMany)), ((g 1), Sum.inl (cI, 512, Sum.inl vCounts)), ((g 2), Sum.inl (cI, 512, Sum.inl vNow))] sz (fun (r : Int32) (u : (Nat → Int32) × (Nat → Int32)) => r = vCounts (64 * jj + tt) ∧ u.1 = upd vCounts (64 * jj + tt) (nI cc) ∧ sgI u.2 (64 * jj) (pfN fm (N jj)) (pf fm (N jj) (upN C tt cc)) ∧ sgO u.2 vNow (64 * jj) 64) (fun (u : (Nat → Int32) × (Nat → Int32)) => [(o, Sum.inr (9, mO g fForm fShift fModels fItems 0 fLow fRange fCache fPend fGoes fOuts fIns fReads fBad fIR fAsk fBAsk fCode fRL fRR fX fWrites 0)), ((g 0), Sum.inl (cI, 8, Sum.inl vMany)), ((g 1), Sum.inl (cI, 512, Sum.inl u.1)), ((g 2), Sum.inl (cI, 512, Sum.inl u.2))]) 0 0 := by
  refine my_ofI (cc := prog_14_method_14_code) (n := 5) (ret := (some .int)) (by decide) rfl (Nat.le_of_ble_eq_true rfl) ?_
  intro p e s m args below meth c R Q A ls H locs hx hb hr hts hown hlocks hml hnm hR hQ hA hl hP hK hN hD hS
  have hg : ∀ w ∈ gw, w.before args s = true := fun w h => hts w (List.mem_cons_of_mem _ h)
  have hown : s.vm.findClass "RangeCodersModel" = some m.cls := hown
  have hl : lv_has ls 5 [(0, Value.ref o), (1, Value.int (nI jj)), (2, Value.int (nI tt)), (3, Value.int (nI cc))] := hl
  have hk8 := hMD.1
  obtain ⟨hn9, hn2, hn64, C9, hc9, hB9⟩ := hMD.2 jj hj
  refine lv_aload_n hx hb d_M_count_0 rfl (lv_at hl 0 rfl) ?_
  refine lv_iconst (v := 0) hx hb d_M_count_1 (by decide) ?_
  refine va_put (D := (dC, dI)) (ci := 9) (v := .int 0) (ty := .int) (C := "RangeCodersModel") (T := T_M) (N := 35) hx hb hg in_M t_M o_M n_M hown hK hP hD hS 0 rfl rfl 34 (by decide) (hg _ k986) (fun _ h9 => h9) rfl (o_M 34 (by decide)) rfl rfl (Nat.le_of_ble_eq_true rfl) d_M_count_2 (fun H locs hP hD hS => ?_)
  have hPD : my_PD (dC, dI) vwCl A [(o, Sum.inr (9, mO g fForm fShift fModels fItems 0 fLow fRange fCache fPend fGoes fOuts fIns fReads fBad fIR fAsk fBAsk fCode fRL fRR fX fWrites 0)), ((g 0), Sum.inl (cI, 8, Sum.inl vMany)), ((g 1), Sum.inl (cI, 512, Sum.inl vCounts)), ((g 2), Sum.inl (cI, 512, Sum.inl vNow))] H := ⟨hP, hD⟩
  have hP := hPD.1
  have hD := hPD.2
  refine lv_aload_n hx hb d_M_count_5 rfl (lv_at hl 0 rfl) ?_
  refine lv_iload_n hx hb d_M_count_6 rfl (lv_at hl 1 rfl) ?_
  refine lv_iload_n hx hb d_M_count_7 rfl (lv_at hl 2 rfl) ?_
  refine my_ci (wr := [((g 1), Sum.inl (cI, 512, Sum.inl vCounts)), ((g 2), Sum.inl (cI, 512, Sum.inl vNow))]) (va_runV (As := [Value.int (nI jj), Value.int (nI tt)]) (rest := []) ⟨hx, hb, hml, hown, hts⟩ (c_M_isSign l dC dI cI cM cO H.size o g fForm fShift fModels fItems 0 fLow fRange fCache fPend fGoes fOuts fIns fReads fBad fIR fAsk fBAsk fCode fRL fRR fX fWrites 0 vMany km (nI jj) (nI tt) (hMD.1) (by first | assumption | omega)) (cwV 2 hts (my_gV k1069 k1071 ks25 k12 k1072) rfl rfl rfl cu_M_isSign_2 ⟨by rw [hR]; exact Nat.le_of_ble_eq_true rfl, by rw [hR]; exact Nat.le_of_ble_eq_true rfl⟩) (my_preV hK hN (hP.sub [0, 1] rfl) (hD.sub [0, 1] (by decide +kernel) rfl) 0 rfl rfl) rfl rfl hl.1 rfl (lv_room (Nat.le_of_ble_eq_true rfl)) d_M_count_8 ⟨by rw [hR]; exact Nat.le_of_ble_eq_true rfl, by rw [hR]; exact Nat.le_of_ble_eq_true rfl⟩) hP hD hS hA [0, 1] [2, 3] rfl rfl (by decide +kernel) (by decide +kernel) (fun r_8 u9 H locs hw_8 hP hD hS => ?_)
  have hw_8 : r_8 = if isN km (nI jj) ∧ (0 ≤ (nI tt) ∧ (nI tt) ≤ vMany (nI jj).toNatClampNeg - 1) then 1 else 0 := hw_8
  have hPD : my_PD (dC, dI) vwCl A [((g 1), Sum.inl (cI, 512, Sum.inl vCounts)), ((g 2), Sum.inl (cI, 512, Sum.inl vNow)), (o, Sum.inr (9, mO g fForm fShift fModels fItems 0 fLow fRange fCache fPend fGoes fOuts fIns fReads fBad fIR fAsk fBAsk fCode fRL fRR fX fWrites 0)), ((g 0), Sum.inl (cI, 8, Sum.inl vMany))] H := ⟨hP, hD⟩
  have hP := hPD.1
  have hD := hPD.2
  refine lv_if_ne (tgt := 16) hx hb d_M_count_11 (by decide) (fun c_1 => ?_) (fun c_1 => ?_)
  · refine lv_iload_n hx hb d_M_count_16 rfl (lv_at hl 3 rfl) ?_
    refine lv_iconst (v := 0) hx hb d_M_count_17 (by decide) ?_
    refine lv_sipush (v := 4095) hx hb d_M_count_18 (by decide) ?_
    refine my_ci (wr := [((g 1), Sum.inl (cI, 512, Sum.inl vCounts)), ((g 2), Sum.inl (cI, 512, Sum.inl vNow)), (o, Sum.inr (9, mO g fForm fShift fModels fItems 0 fLow fRange fCache fPend fGoes fOuts fIns fReads fBad fIR fAsk fBAsk fCode fRL fRR fX fWrites 0)), ((g 0), Sum.inl (cI, 8, Sum.inl vMany))]) (va_runS (As := [Value.int (nI cc), Value.int 0, Value.int 4095]) (rest := []) ⟨hx, hb, hml, hown, hts⟩ (c_M_in l dC dI cI cM cO H.size (nI cc) 0 4095) (cwS 3 hts (my_gS k1062 k1063 k12 k1064) rfl rfl rfl (by decide +kernel) ⟨by rw [hR]; exact Nat.le_of_ble_eq_true rfl, by rw [hR]; exact Nat.le_of_ble_eq_true rfl⟩) (my_pre hK hN (hP.sub [] rfl) (hD.sub [] (by decide +kernel) rfl)) rfl rfl hl.1 rfl (lv_room (Nat.le_of_ble_eq_true rfl)) d_M_count_21 ⟨by rw [hR]; exact Nat.le_of_ble_eq_true rfl, by rw [hR]; exact Nat.le_of_ble_eq_true rfl⟩) hP hD hS hA [] [0, 1, 2, 3] rfl rfl (by decide +kernel) (by decide +kernel) (fun r_21 u9 H locs hw_21 hP hD hS => ?_)
    have hw_21 : r_21 = if 0 ≤ (nI cc) ∧ (nI cc) ≤ 4095 then 1 else 0 := hw_21
    have hPD : my_PD (dC, dI) vwCl A [((g 1), Sum.inl (cI, 512, Sum.inl vCounts)), ((g 2), Sum.inl (cI, 512, Sum.inl vNow)), (o, Sum.inr (9, mO g fForm fShift fModels fItems 0 fLow fRange fCache fPend fGoes fOuts fIns fReads fBad fIR fAsk fBAsk fCode fRL fRR fX fWrites 0)), ((g 0), Sum.inl (cI, 8, Sum.inl vMany))] H := ⟨hP, hD⟩
    have hP := hPD.1
    have hD := hPD.2
    refine lv_if_ne (tgt := 30) hx hb d_M_count_24 (by decide) (fun c_2 => ?_) (fun c_2 => ?_)
    · refine lv_aload_n hx hb d_M_count_30 rfl (lv_at hl 0 rfl) ?_
      refine va_get (D := (dC, dI)) (ci := 9) (v := .int fItems) (C := "RangeCodersModel") (T := T_M) (N := 35) hx hb hg in_M hown hK hP 2 rfl rfl 7 (by decide) (hg _ k959) (fun _ h9 => h9) rfl d_M_count_31 ?_
      refine lv_if_le (tgt := 44) hx hb d_M_count_34 (by decide) (fun c_3 => ?_) (fun c_3 => ?_)
      · refine lv_aload_n hx hb d_M_count_44 rfl (lv_at hl 0 rfl) ?_
        refine va_get (D := (dC, dI)) (ci := 9) (v := .int fReads) (C := "RangeCodersModel") (T := T_M) (N := 35) hx hb hg in_M hown hK hP 2 rfl rfl 21 (by decide) (hg _ k973) (fun _ h9 => h9) rfl d_M_count_45 ?_
        refine lv_if_eq (tgt := 54) hx hb d_M_count_48 (by decide) (fun c_4 => ?_) (fun c_4 => ?_)
        · refine lv_aload_n hx hb d_M_count_54 rfl (lv_at hl 0 rfl) ?_
          refine va_get (D := (dC, dI)) (ci := 9) (v := .ref (g 1)) (C := "RangeCodersModel") (T := T_M) (N := 35) hx hb hg in_M hown hK hP 2 rfl rfl 4 (by decide) (hg _ k956) (fun _ h9 => h9) rfl d_M_count_55 ?_
          refine lv_bipush (v := 64) hx hb d_M_count_58 (by decide) ?_
          refine lv_iload_n hx hb d_M_count_60 rfl (lv_at hl 1 rfl) ?_
          refine lv_imul hx hb d_M_count_61 ?_
          refine lv_topi (fun v_5 ev_5 => ?_)
          refine lv_iload_n hx hb d_M_count_62 rfl (lv_at hl 2 rfl) ?_
          refine lv_iadd hx hb d_M_count_63 ?_
          refine lv_topi (fun v_6 ev_6 => ?_)
          have hix0 : v_6 = nI (64 * jj + tt) := by rw [ev_6, ev_5]; exact ix64
          refine va_iald hx hb hK hP 0 0 rfl rfl (by rw [hix0]; exact vp_in_nI (by omega) (by decide)) d_M_count_64 ?_
          refine lv_topi (fun v_7 ev_7 => ?_)
          refine lv_istore (lv' := [(4, Value.int v_7), (0, Value.ref o), (1, Value.int (nI jj)), (2, Value.int (nI tt)), (3, Value.int (nI cc))]) hx hb d_M_count_65 hl (by decide) rfl (fun ls hl => ?_)
          refine lv_aload_n hx hb d_M_count_67 rfl (lv_at hl 1 rfl) ?_
          refine va_get (D := (dC, dI)) (ci := 9) (v := .ref (g 1)) (C := "RangeCodersModel") (T := T_M) (N := 35) hx hb hg in_M hown hK hP 2 rfl rfl 4 (by decide) (hg _ k956) (fun _ h9 => h9) rfl d_M_count_68 ?_
          refine lv_bipush (v := 64) hx hb d_M_count_71 (by decide) ?_
          refine lv_iload_n hx hb d_M_count_73 rfl (lv_at hl 2 rfl) ?_
          refine lv_imul hx hb d_M_count_74 ?_
          refine lv_topi (fun v_8 ev_8 => ?_)
          refine lv_iload_n hx hb d_M_count_75 rfl (lv_at hl 3 rfl) ?_
          refine lv_iadd hx hb d_M_count_76 ?_
          refine lv_topi (fun v_9 ev_9 => ?_)
          have hix : v_9 = nI (64 * jj + tt) := by rw [ev_9, ev_8]; exact ix64
          refine lv_iload_n hx hb d_M_count_77 rfl (lv_at hl 4 rfl) ?_
          refine va_iast hx hb hK hP hD hS 0 0 rfl rfl (by rw [hix]; exact vp_in_nI (by omega) (by decide)) d_M_count_78 (fun H locs hP hD hS => ?_)
          have hPD : my_PD (dC, dI) vwCl A [((g 1), Sum.inl (cI, 512, Sum.inl (upd vCounts v_9.toNatClampNeg (nI cc)))), ((g 2), Sum.inl (cI, 512, Sum.inl vNow)), (o, Sum.inr (9, mO g fForm fShift fModels fItems 0 fLow fRange fCache fPend fGoes fOuts fIns fReads fBad fIR fAsk fBAsk fCode fRL fRR fX fWrites 0)), ((g 0), Sum.inl (cI, 8, Sum.inl vMany))] H := ⟨hP, hD⟩
          have hP := hPD.1
          have hD := hPD.2
          have hc8 : sgI (upd vCounts v_9.toNatClampNeg (nI cc)) (64 * jj) (N jj) (upN C tt cc) := (sg_up hC ht (by rw [hix]; exact nI_clamp (by omega)) rfl).1
          have hB8 : bd (upN C tt cc) (N jj) 4095 := bd_up hB hcc
          refine lv_aload_n hx hb d_M_count_79 rfl (lv_at hl 1 rfl) ?_
          refine va_get (D := (dC, dI)) (ci := 9) (v := .int 0) (C := "RangeCodersModel") (T := T_M) (N := 35) hx hb hg in_M hown hK hP 2 rfl rfl 10 (by decide) (hg _ k962) (fun _ h9 => h9) rfl d_M_count_80 ?_
          refine lv_if_ne (tgt := 95) hx hb d_M_count_83 (by decide) (fun c_10 => ?_) (fun c_10 => ?_)
          · exact absurd rfl c_10
          · refine lv_aload_n hx hb d_M_count_86 rfl (lv_at hl 1 rfl) ?_
            refine lv_aload_n hx hb d_M_count_87 rfl (lv_at hl 1 rfl) ?_
            refine va_get (D := (dC, dI)) (ci := 9) (v := .ref (g 2)) (C := "RangeCodersModel") (T := T_M) (N := 35) hx hb hg in_M hown hK hP 2 rfl rfl 5 (by decide) (hg _ k957) (fun _ h9 => h9) rfl d_M_count_88 ?_
            refine lv_iload_n hx hb d_M_count_91 rfl (lv_at hl 2 rfl) ?_
            refine my_cv (wr := []) (va_runV (As := [Value.ref (g 2), Value.int (nI jj)]) (rest := []) ⟨hx, hb, hml, hown, hts⟩ (c_M_prepare l dC dI cI cM cO H.size o g fForm fShift fModels fItems 0 fLow fRange fCache fPend fGoes fOuts fIns fReads fBad fIR fAsk fBAsk fCode fRL fRR fX fWrites 0 vMany (upd vCounts v_9.toNatClampNeg (nI cc)) (g 2) vNow jj (N jj) fm (upN C tt cc) (by omega) (hn9) (hn64) (by omega) (hfm) (hform) (hc8) (hB8)) (cwV 2 hts (my_gV k928 k930 ks19 k12 k931) rfl rfl rfl cu_M_prepare_2 ⟨by rw [hR]; exact Nat.le_of_ble_eq_true rfl, by rw [hR]; exact Nat.le_of_ble_eq_true rfl⟩) (my_preV hK hN (hP.sub [2, 3, 0, 1] rfl) (hD.sub [2, 3, 0, 1] (by decide +kernel) rfl) 0 rfl rfl) rfl rfl hl.1 rfl (lv_room (Nat.le_of_ble_eq_true rfl)) d_M_count_92 ⟨by rw [hR]; exact Nat.le_of_ble_eq_true rfl, by rw [hR]; exact Nat.le_of_ble_eq_true rfl⟩) hP hD hS hA [2, 3, 0, 1] [] rfl rfl (by decide +kernel) (by decide +kernel) (fun u9 H locs hw_92 hP hD hS => ?_)
            obtain ⟨f2_92, rfl⟩ : ∃ z, z = u9 := ⟨_, rfl⟩
            have hw_92 : sgI f2_92 (64 * jj) (pfN fm (N jj)) (pf fm (N jj) (upN C tt cc)) ∧ sgO f2_92 vNow (64 * jj) 64 := hw_92
            have hPD : my_PD (dC, dI) vwCl A [(o, Sum.inr (9, mO g fForm fShift fModels fItems 0 fLow fRange fCache fPend fGoes fOuts fIns fReads fBad fIR fAsk fBAsk fCode fRL fRR fX fWrites 0)), ((g 0), Sum.inl (cI, 8, Sum.inl vMany)), ((g 1), Sum.inl (cI, 512, Sum.inl (upd vCounts v_9.toNatClampNeg (nI cc)))), ((g 2), Sum.inl (cI, 512, Sum.inl f2_92))] H := ⟨hP, hD⟩
            have hP := hPD.1
            have hD := hPD.2
            refine lv_iload hx hb d_M_count_95 (lv_at hl 0 rfl) ?_
            exact my_iret (v := v_7) hx hb hr (rfl) hlocks hQ hK hS (Nat.le_refl _) (Nat.le_refl _) ((upd vCounts v_9.toNatClampNeg (nI cc)), f2_92) (⟨by rw [ev_7, hix0, nI_clamp (by omega)], by rw [hix, nI_clamp (by omega)], hw_92.1, hw_92.2⟩) (hP.sub [0, 1, 2, 3] rfl) (hD.sub [0, 1, 2, 3] (by decide +kernel) rfl) d_M_count_97
        · exact absurd hrd c_4
      · exact absurd (Int32.not_le.mp c_3) hfi
    · exact absurd ⟨nI_pos' (by omega), nI_le (b := 4095) hcc (by decide)⟩ (one_eq hw_21 c_2)
  · exact absurd (sg_yes hMD hj ht) (one_eq hw_8 c_1)
set_option maxHeartbeats 2000000 in
set_option maxRecDepth 100000 in
theorem m_putE (l : Launch) (dC : Nat → ClassId) (dI : Nat → Nat → Nat) (cI cM cO : ClassId) (sz : Nat) (o : Nat) (g : Nat → Nat) (fForm : Int32) (fShift : Int32) (fModels : Int32) (fItems : Int32) (fEnded : Int32) (fLow : Int64) (fRange : Int64) (fCache : Int32) (fPend : Int32) (fGoes : Int32) (fOuts : Int32) (fIns : Int32) (fReads : Int32) (fBad : Int32) (fIR : Int32) (fAsk : Int32) (fBAsk : Int32) (fCode : Int64) (fRL : Int64) (fRR : Int64) (fX : Int64) (fWrites : Int32) (fThrown : Int32) (vMany : Nat → Int32) (vCounts : Nat → Int32) (km : Nat) (N : Nat → Nat) (jj : Nat) (tt : Nat) (hmod : fModels = nI km) (hMD : MD km N vMany vCounts) (hj : jj < km) (ht : tt < N jj) (hen : ¬ fEnded = 0) : MetI l y_M_put (Cond.code y_M_put prog_14_method_29_code 3 (some .int) :: gw) ({ frames := 3, cells := 0, slots := 0, locals := 65 } : Room) (dC, dI) vwCl (kT cI cM cO) [Value.ref o, Value.int (nI jj), Value.int (nI tt)] [(o, Sum.inr (9, mO g fForm fShift fModels fItems fEnded fLow fRange fCache fPend fGoes fOuts fIns fReads fBad fIR fAsk fBAsk fCode fRL fRR fX fWrites fThrown)), ((g 0), Sum.inl (cI, 8, Sum.inl vMany)), ((g 1), Sum.inl (cI, 512, Sum.inl vCounts))] sz (fun (r : Int32) (u : Unit) => r = -3) (fun (u : Unit) => [(o, Sum.inr (9, mO g fForm fShift fModels fItems fEnded fLow fRange fCache fPend fGoes fOuts fIns fReads fBad fIR fAsk fBAsk fCode fRL fRR fX fWrites 0)), ((g 0), Sum.inl (cI, 8, Sum.inl vMany)), ((g 1), Sum.inl (cI, 512, Sum.inl vCounts))]) 0 0 := by
  refine my_ofI (cc := prog_14_method_29_code) (n := 3) (ret := (some .int)) (by decide) rfl (Nat.le_of_ble_eq_true rfl) ?_
  intro p e s m args below meth c R Q A ls H locs hx hb hr hts hown hlocks hml hnm hR hQ hA hl hP hK hN hD hS
  have hg : ∀ w ∈ gw, w.before args s = true := fun w h => hts w (List.mem_cons_of_mem _ h)
  have hown : s.vm.findClass "RangeCodersModel" = some m.cls := hown
  have hl : lv_has ls 3 [(0, Value.ref o), (1, Value.int (nI jj)), (2, Value.int (nI tt))] := hl
  refine lv_aload_n hx hb d_M_put_0 rfl (lv_at hl 0 rfl) ?_
  refine lv_iconst (v := 0) hx hb d_M_put_1 (by decide) ?_
  refine va_put (D := (dC, dI)) (ci := 9) (v := .int 0) (ty := .int) (C := "RangeCodersModel") (T := T_M) (N := 35) hx hb hg in_M t_M o_M n_M hown hK hP hD hS 0 rfl rfl 34 (by decide) (hg _ k986) (fun _ h9 => h9) rfl (o_M 34 (by decide)) rfl rfl (Nat.le_of_ble_eq_true rfl) d_M_put_2 (fun H locs hP hD hS => ?_)
  have hPD : my_PD (dC, dI) vwCl A [(o, Sum.inr (9, mO g fForm fShift fModels fItems fEnded fLow fRange fCache fPend fGoes fOuts fIns fReads fBad fIR fAsk fBAsk fCode fRL fRR fX fWrites 0)), ((g 0), Sum.inl (cI, 8, Sum.inl vMany)), ((g 1), Sum.inl (cI, 512, Sum.inl vCounts))] H := ⟨hP, hD⟩
  have hP := hPD.1
  have hD := hPD.2
  refine lv_aload_n hx hb d_M_put_5 rfl (lv_at hl 0 rfl) ?_
  refine lv_iload_n hx hb d_M_put_6 rfl (lv_at hl 1 rfl) ?_
  refine lv_iload_n hx hb d_M_put_7 rfl (lv_at hl 2 rfl) ?_
  refine my_ci (wr := [((g 1), Sum.inl (cI, 512, Sum.inl vCounts))]) (va_runV (As := [Value.int (nI jj), Value.int (nI tt)]) (rest := []) ⟨hx, hb, hml, hown, hts⟩ (c_M_isSign l dC dI cI cM cO H.size o g fForm fShift fModels fItems fEnded fLow fRange fCache fPend fGoes fOuts fIns fReads fBad fIR fAsk fBAsk fCode fRL fRR fX fWrites 0 vMany km (nI jj) (nI tt) (hMD.1) (by first | assumption | omega)) (cwV 2 hts (my_gV k1069 k1071 ks25 k12 k1072) rfl rfl rfl cu_M_isSign_2 ⟨by rw [hR]; exact Nat.le_of_ble_eq_true rfl, by rw [hR]; exact Nat.le_of_ble_eq_true rfl⟩) (my_preV hK hN (hP.sub [0, 1] rfl) (hD.sub [0, 1] (by decide +kernel) rfl) 0 rfl rfl) rfl rfl hl.1 rfl (lv_room (Nat.le_of_ble_eq_true rfl)) d_M_put_8 ⟨by rw [hR]; exact Nat.le_of_ble_eq_true rfl, by rw [hR]; exact Nat.le_of_ble_eq_true rfl⟩) hP hD hS hA [0, 1] [2] rfl rfl (by decide +kernel) (by decide +kernel) (fun r_8 u9 H locs hw_8 hP hD hS => ?_)
  have hw_8 : r_8 = if isN km (nI jj) ∧ (0 ≤ (nI tt) ∧ (nI tt) ≤ vMany (nI jj).toNatClampNeg - 1) then 1 else 0 := hw_8
  have hPD : my_PD (dC, dI) vwCl A [((g 1), Sum.inl (cI, 512, Sum.inl vCounts)), (o, Sum.inr (9, mO g fForm fShift fModels fItems fEnded fLow fRange fCache fPend fGoes fOuts fIns fReads fBad fIR fAsk fBAsk fCode fRL fRR fX fWrites 0)), ((g 0), Sum.inl (cI, 8, Sum.inl vMany))] H := ⟨hP, hD⟩
  have hP := hPD.1
  have hD := hPD.2
  refine lv_if_ne (tgt := 16) hx hb d_M_put_11 (by decide) (fun c_1 => ?_) (fun c_1 => ?_)
  · refine lv_aload_n hx hb d_M_put_16 rfl (lv_at hl 0 rfl) ?_
    refine va_get (D := (dC, dI)) (ci := 9) (v := .int fEnded) (C := "RangeCodersModel") (T := T_M) (N := 35) hx hb hg in_M hown hK hP 1 rfl rfl 10 (by decide) (hg _ k962) (fun _ h9 => h9) rfl d_M_put_17 ?_
    refine lv_if_ne (tgt := 45) hx hb d_M_put_20 (by decide) (fun c_2 => ?_) (fun c_2 => ?_)
    · refine lv_bipush (v := (-3)) hx hb d_M_put_45 (by decide) ?_
      exact my_iret (v := (-3)) hx hb hr (rfl) hlocks hQ hK hS (Nat.le_refl _) (Nat.le_refl _) () (rfl) (hP.sub [1, 2, 0] rfl) (hD.sub [1, 2, 0] (by decide +kernel) rfl) d_M_put_47
    · exact absurd c_2 hen
  · exact absurd (sg_yes hMD hj ht) (one_eq hw_8 c_1)
set_option maxHeartbeats 2000000 in
set_option maxRecDepth 100000 in
theorem m_putZ (l : Launch) (dC : Nat → ClassId) (dI : Nat → Nat → Nat) (cI cM cO : ClassId) (sz : Nat) (o : Nat) (g : Nat → Nat) (fForm : Int32) (fShift : Int32) (fModels : Int32) (fItems : Int32) (fLow : Int64) (fRange : Int64) (fCache : Int32) (fPend : Int32) (fGoes : Int32) (fOuts : Int32) (fIns : Int32) (fReads : Int32) (fBad : Int32) (fIR : Int32) (fAsk : Int32) (fBAsk : Int32) (fCode : Int64) (fRL : Int64) (fRR : Int64) (fX : Int64) (fWrites : Int32) (fThrown : Int32) (vMany : Nat → Int32) (vCounts : Nat → Int32) (vNow : Nat → Int32) (km : Nat) (N : Nat → Nat) (jj : Nat) (tt : Nat) (F : Nat → Nat) (hmod : fModels = nI km) (hMD : MD km N vMany vCounts) (hj : jj < km) (ht : tt < N jj) (hF : sgI vNow (64 * jj) (N jj) F) (hFb : F tt < 2 ^ 31) (hf2 : ¬ fForm = 2) (hz : F tt = 0) : MetI l y_M_put (Cond.code y_M_put prog_14_method_29_code 3 (some .int) :: gw) ({ frames := 3, cells := 0, slots := 0, locals := 65 } : Room) (dC, dI) vwCl (kT cI cM cO) [Value.ref o, Value.int (nI jj), Value.int (nI tt)] [(o, Sum.inr (9, mO g fForm fShift fModels fItems 0 fLow fRange fCache fPend fGoes fOuts fIns fReads fBad fIR fAsk fBAsk fCode fRL fRR fX fWrites fThrown)), ((g 0), Sum.inl (cI, 8, Sum.inl vMany)), ((g 1), Sum.inl (cI, 512, Sum.inl vCounts)), ((g 2), Sum.inl (cI, 512, Sum.inl vNow))] sz (fun (r : Int32) (u : Unit) => r = -3) (fun (u : Unit) => [(o, Sum.inr (9, mO g fForm fShift fModels fItems 0 fLow fRange fCache fPend fGoes fOuts fIns fReads fBad fIR fAsk fBAsk fCode fRL fRR fX fWrites 0)), ((g 0), Sum.inl (cI, 8, Sum.inl vMany)), ((g 1), Sum.inl (cI, 512, Sum.inl vCounts)), ((g 2), Sum.inl (cI, 512, Sum.inl vNow))]) 0 0 := by
  refine my_ofI (cc := prog_14_method_29_code) (n := 3) (ret := (some .int)) (by decide) rfl (Nat.le_of_ble_eq_true rfl) ?_
  intro p e s m args below meth c R Q A ls H locs hx hb hr hts hown hlocks hml hnm hR hQ hA hl hP hK hN hD hS
  have hg : ∀ w ∈ gw, w.before args s = true := fun w h => hts w (List.mem_cons_of_mem _ h)
  have hown : s.vm.findClass "RangeCodersModel" = some m.cls := hown
  have hl : lv_has ls 3 [(0, Value.ref o), (1, Value.int (nI jj)), (2, Value.int (nI tt))] := hl
  have hk8 := hMD.1
  obtain ⟨hn9, hn2, hn64, C9, hc9, hB9⟩ := hMD.2 jj hj
  refine lv_aload_n hx hb d_M_put_0 rfl (lv_at hl 0 rfl) ?_
  refine lv_iconst (v := 0) hx hb d_M_put_1 (by decide) ?_
  refine va_put (D := (dC, dI)) (ci := 9) (v := .int 0) (ty := .int) (C := "RangeCodersModel") (T := T_M) (N := 35) hx hb hg in_M t_M o_M n_M hown hK hP hD hS 0 rfl rfl 34 (by decide) (hg _ k986) (fun _ h9 => h9) rfl (o_M 34 (by decide)) rfl rfl (Nat.le_of_ble_eq_true rfl) d_M_put_2 (fun H locs hP hD hS => ?_)
  have hPD : my_PD (dC, dI) vwCl A [(o, Sum.inr (9, mO g fForm fShift fModels fItems 0 fLow fRange fCache fPend fGoes fOuts fIns fReads fBad fIR fAsk fBAsk fCode fRL fRR fX fWrites 0)), ((g 0), Sum.inl (cI, 8, Sum.inl vMany)), ((g 1), Sum.inl (cI, 512, Sum.inl vCounts)), ((g 2), Sum.inl (cI, 512, Sum.inl vNow))] H := ⟨hP, hD⟩
  have hP := hPD.1
  have hD := hPD.2
  refine lv_aload_n hx hb d_M_put_5 rfl (lv_at hl 0 rfl) ?_
  refine lv_iload_n hx hb d_M_put_6 rfl (lv_at hl 1 rfl) ?_
  refine lv_iload_n hx hb d_M_put_7 rfl (lv_at hl 2 rfl) ?_
  refine my_ci (wr := [((g 1), Sum.inl (cI, 512, Sum.inl vCounts)), ((g 2), Sum.inl (cI, 512, Sum.inl vNow))]) (va_runV (As := [Value.int (nI jj), Value.int (nI tt)]) (rest := []) ⟨hx, hb, hml, hown, hts⟩ (c_M_isSign l dC dI cI cM cO H.size o g fForm fShift fModels fItems 0 fLow fRange fCache fPend fGoes fOuts fIns fReads fBad fIR fAsk fBAsk fCode fRL fRR fX fWrites 0 vMany km (nI jj) (nI tt) (hMD.1) (by first | assumption | omega)) (cwV 2 hts (my_gV k1069 k1071 ks25 k12 k1072) rfl rfl rfl cu_M_isSign_2 ⟨by rw [hR]; exact Nat.le_of_ble_eq_true rfl, by rw [hR]; exact Nat.le_of_ble_eq_true rfl⟩) (my_preV hK hN (hP.sub [0, 1] rfl) (hD.sub [0, 1] (by decide +kernel) rfl) 0 rfl rfl) rfl rfl hl.1 rfl (lv_room (Nat.le_of_ble_eq_true rfl)) d_M_put_8 ⟨by rw [hR]; exact Nat.le_of_ble_eq_true rfl, by rw [hR]; exact Nat.le_of_ble_eq_true rfl⟩) hP hD hS hA [0, 1] [2, 3] rfl rfl (by decide +kernel) (by decide +kernel) (fun r_8 u9 H locs hw_8 hP hD hS => ?_)
  have hw_8 : r_8 = if isN km (nI jj) ∧ (0 ≤ (nI tt) ∧ (nI tt) ≤ vMany (nI jj).toNatClampNeg - 1) then 1 else 0 := hw_8
  have hPD : my_PD (dC, dI) vwCl A [((g 1), Sum.inl (cI, 512, Sum.inl vCounts)), ((g 2), Sum.inl (cI, 512, Sum.inl vNow)), (o, Sum.inr (9, mO g fForm fShift fModels fItems 0 fLow fRange fCache fPend fGoes fOuts fIns fReads fBad fIR fAsk fBAsk fCode fRL fRR fX fWrites 0)), ((g 0), Sum.inl (cI, 8, Sum.inl vMany))] H := ⟨hP, hD⟩
  have hP := hPD.1
  have hD := hPD.2
  refine lv_if_ne (tgt := 16) hx hb d_M_put_11 (by decide) (fun c_1 => ?_) (fun c_1 => ?_)
  · refine lv_aload_n hx hb d_M_put_16 rfl (lv_at hl 0 rfl) ?_
    refine va_get (D := (dC, dI)) (ci := 9) (v := .int 0) (C := "RangeCodersModel") (T := T_M) (N := 35) hx hb hg in_M hown hK hP 2 rfl rfl 10 (by decide) (hg _ k962) (fun _ h9 => h9) rfl d_M_put_17 ?_
    refine lv_if_ne (tgt := 45) hx hb d_M_put_20 (by decide) (fun c_2 => ?_) (fun c_2 => ?_)
    · exact absurd rfl c_2
    · refine lv_aload_n hx hb d_M_put_23 rfl (lv_at hl 0 rfl) ?_
      refine va_get (D := (dC, dI)) (ci := 9) (v := .int fForm) (C := "RangeCodersModel") (T := T_M) (N := 35) hx hb hg in_M hown hK hP 2 rfl rfl 0 (by decide) (hg _ k952) (fun _ h9 => h9) rfl d_M_put_24 ?_
      refine lv_iconst (v := 2) hx hb d_M_put_27 (by decide) ?_
      refine lv_icmp_eq (tgt := 48) hx hb d_M_put_28 (by decide) (fun c_3 => ?_) (fun c_3 => ?_)
      · exact absurd c_3 hf2
      · refine lv_aload_n hx hb d_M_put_31 rfl (lv_at hl 0 rfl) ?_
        refine va_get (D := (dC, dI)) (ci := 9) (v := .ref (g 2)) (C := "RangeCodersModel") (T := T_M) (N := 35) hx hb hg in_M hown hK hP 2 rfl rfl 5 (by decide) (hg _ k957) (fun _ h9 => h9) rfl d_M_put_32 ?_
        refine lv_bipush (v := 64) hx hb d_M_put_35 (by decide) ?_
        refine lv_iload_n hx hb d_M_put_37 rfl (lv_at hl 1 rfl) ?_
        refine lv_imul hx hb d_M_put_38 ?_
        refine lv_topi (fun v_4 ev_4 => ?_)
        refine lv_iload_n hx hb d_M_put_39 rfl (lv_at hl 2 rfl) ?_
        refine lv_iadd hx hb d_M_put_40 ?_
        refine lv_topi (fun v_5 ev_5 => ?_)
        have hix : v_5 = nI (64 * jj + tt) := by rw [ev_5, ev_4]; exact ix64
        refine va_iald hx hb hK hP 1 0 rfl rfl (by rw [hix]; exact vp_in_nI (by omega) (by decide)) d_M_put_41 ?_
        refine lv_topi (fun v_6 ev_6 => ?_)
        have z9 : v_6 = nI (F tt) := by rw [ev_6, hix, nI_clamp (by omega)]; exact hF tt ht
        subst z9
        refine lv_if_ne (tgt := 48) hx hb d_M_put_42 (by decide) (fun c_7 => ?_) (fun c_7 => ?_)
        · exact absurd (by rw [hz]; rfl) c_7
        · refine lv_bipush (v := (-3)) hx hb d_M_put_45 (by decide) ?_
          exact my_iret (v := (-3)) hx hb hr (rfl) hlocks hQ hK hS (Nat.le_refl _) (Nat.le_refl _) () (rfl) (hP.sub [2, 3, 0, 1] rfl) (hD.sub [2, 3, 0, 1] (by decide +kernel) rfl) d_M_put_47
  · exact absurd (sg_yes hMD hj ht) (one_eq hw_8 c_1)
set_option maxHeartbeats 2000000 in
set_option maxRecDepth 100000 in
theorem m_putR (l : Launch) (dC : Nat → ClassId) (dI : Nat → Nat → Nat) (cI cM cO : ClassId) (sz : Nat) (o : Nat) (g : Nat → Nat) (fForm : Int32) (fShift : Int32) (fModels : Int32) (fLow : Int64) (fRange : Int64) (fCache : Int32) (fPend : Int32) (fGoes : Int32) (fOuts : Int32) (fIns : Int32) (fReads : Int32) (fBad : Int32) (fIR : Int32) (fAsk : Int32) (fBAsk : Int32) (fCode : Int64) (fRL : Int64) (fRR : Int64) (fX : Int64) (fWrites : Int32) (fThrown : Int32) (vMany : Nat → Int32) (vCounts : Nat → Int32) (vNow : Nat → Int32) (km : Nat) (N : Nat → Nat) (jj : Nat) (tt : Nat) (F : Nat → Nat) (ki : Nat) (hmod : fModels = nI km) (hMD : MD km N vMany vCounts) (hj : jj < km) (ht : tt < N jj) (hF : sgI vNow (64 * jj) (N jj) F) (hFb : F tt < 2 ^ 31) (hf2 : ¬ fForm = 2) (hz : 0 < F tt) (hk6 : ki = 600) : MetI l y_M_put (Cond.code y_M_put prog_14_method_29_code 3 (some .int) :: gw) ({ frames := 3, cells := 0, slots := 0, locals := 65 } : Room) (dC, dI) vwCl (kT cI cM cO) [Value.ref o, Value.int (nI jj), Value.int (nI tt)] [(o, Sum.inr (9, mO g fForm fShift fModels (nI ki) 0 fLow fRange fCache fPend fGoes fOuts fIns fReads fBad fIR fAsk fBAsk fCode fRL fRR fX fWrites fThrown)), ((g 0), Sum.inl (cI, 8, Sum.inl vMany)), ((g 1), Sum.inl (cI, 512, Sum.inl vCounts)), ((g 2), Sum.inl (cI, 512, Sum.inl vNow))] sz (fun (r : Int32) (u : Unit) => r = -4) (fun (u : Unit) => [(o, Sum.inr (9, mO g fForm fShift fModels (nI ki) 0 fLow fRange fCache fPend fGoes fOuts fIns fReads fBad fIR fAsk fBAsk fCode fRL fRR fX fWrites 0)), ((g 0), Sum.inl (cI, 8, Sum.inl vMany)), ((g 1), Sum.inl (cI, 512, Sum.inl vCounts)), ((g 2), Sum.inl (cI, 512, Sum.inl vNow))]) 0 0 := by
  refine my_ofI (cc := prog_14_method_29_code) (n := 3) (ret := (some .int)) (by decide) rfl (Nat.le_of_ble_eq_true rfl) ?_
  intro p e s m args below meth c R Q A ls H locs hx hb hr hts hown hlocks hml hnm hR hQ hA hl hP hK hN hD hS
  have hg : ∀ w ∈ gw, w.before args s = true := fun w h => hts w (List.mem_cons_of_mem _ h)
  have hown : s.vm.findClass "RangeCodersModel" = some m.cls := hown
  have hl : lv_has ls 3 [(0, Value.ref o), (1, Value.int (nI jj)), (2, Value.int (nI tt))] := hl
  have hk8 := hMD.1
  obtain ⟨hn9, hn2, hn64, C9, hc9, hB9⟩ := hMD.2 jj hj
  refine lv_aload_n hx hb d_M_put_0 rfl (lv_at hl 0 rfl) ?_
  refine lv_iconst (v := 0) hx hb d_M_put_1 (by decide) ?_
  refine va_put (D := (dC, dI)) (ci := 9) (v := .int 0) (ty := .int) (C := "RangeCodersModel") (T := T_M) (N := 35) hx hb hg in_M t_M o_M n_M hown hK hP hD hS 0 rfl rfl 34 (by decide) (hg _ k986) (fun _ h9 => h9) rfl (o_M 34 (by decide)) rfl rfl (Nat.le_of_ble_eq_true rfl) d_M_put_2 (fun H locs hP hD hS => ?_)
  have hPD : my_PD (dC, dI) vwCl A [(o, Sum.inr (9, mO g fForm fShift fModels (nI ki) 0 fLow fRange fCache fPend fGoes fOuts fIns fReads fBad fIR fAsk fBAsk fCode fRL fRR fX fWrites 0)), ((g 0), Sum.inl (cI, 8, Sum.inl vMany)), ((g 1), Sum.inl (cI, 512, Sum.inl vCounts)), ((g 2), Sum.inl (cI, 512, Sum.inl vNow))] H := ⟨hP, hD⟩
  have hP := hPD.1
  have hD := hPD.2
  refine lv_aload_n hx hb d_M_put_5 rfl (lv_at hl 0 rfl) ?_
  refine lv_iload_n hx hb d_M_put_6 rfl (lv_at hl 1 rfl) ?_
  refine lv_iload_n hx hb d_M_put_7 rfl (lv_at hl 2 rfl) ?_
  refine my_ci (wr := [((g 1), Sum.inl (cI, 512, Sum.inl vCounts)), ((g 2), Sum.inl (cI, 512, Sum.inl vNow))]) (va_runV (As := [Value.int (nI jj), Value.int (nI tt)]) (rest := []) ⟨hx, hb, hml, hown, hts⟩ (c_M_isSign l dC dI cI cM cO H.size o g fForm fShift fModels (nI ki) 0 fLow fRange fCache fPend fGoes fOuts fIns fReads fBad fIR fAsk fBAsk fCode fRL fRR fX fWrites 0 vMany km (nI jj) (nI tt) (hMD.1) (by first | assumption | omega)) (cwV 2 hts (my_gV k1069 k1071 ks25 k12 k1072) rfl rfl rfl cu_M_isSign_2 ⟨by rw [hR]; exact Nat.le_of_ble_eq_true rfl, by rw [hR]; exact Nat.le_of_ble_eq_true rfl⟩) (my_preV hK hN (hP.sub [0, 1] rfl) (hD.sub [0, 1] (by decide +kernel) rfl) 0 rfl rfl) rfl rfl hl.1 rfl (lv_room (Nat.le_of_ble_eq_true rfl)) d_M_put_8 ⟨by rw [hR]; exact Nat.le_of_ble_eq_true rfl, by rw [hR]; exact Nat.le_of_ble_eq_true rfl⟩) hP hD hS hA [0, 1] [2, 3] rfl rfl (by decide +kernel) (by decide +kernel) (fun r_8 u9 H locs hw_8 hP hD hS => ?_)
  have hw_8 : r_8 = if isN km (nI jj) ∧ (0 ≤ (nI tt) ∧ (nI tt) ≤ vMany (nI jj).toNatClampNeg - 1) then 1 else 0 := hw_8
  have hPD : my_PD (dC, dI) vwCl A [((g 1), Sum.inl (cI, 512, Sum.inl vCounts)), ((g 2), Sum.inl (cI, 512, Sum.inl vNow)), (o, Sum.inr (9, mO g fForm fShift fModels (nI ki) 0 fLow fRange fCache fPend fGoes fOuts fIns fReads fBad fIR fAsk fBAsk fCode fRL fRR fX fWrites 0)), ((g 0), Sum.inl (cI, 8, Sum.inl vMany))] H := ⟨hP, hD⟩
  have hP := hPD.1
  have hD := hPD.2
  refine lv_if_ne (tgt := 16) hx hb d_M_put_11 (by decide) (fun c_1 => ?_) (fun c_1 => ?_)
  · refine lv_aload_n hx hb d_M_put_16 rfl (lv_at hl 0 rfl) ?_
    refine va_get (D := (dC, dI)) (ci := 9) (v := .int 0) (C := "RangeCodersModel") (T := T_M) (N := 35) hx hb hg in_M hown hK hP 2 rfl rfl 10 (by decide) (hg _ k962) (fun _ h9 => h9) rfl d_M_put_17 ?_
    refine lv_if_ne (tgt := 45) hx hb d_M_put_20 (by decide) (fun c_2 => ?_) (fun c_2 => ?_)
    · exact absurd rfl c_2
    · refine lv_aload_n hx hb d_M_put_23 rfl (lv_at hl 0 rfl) ?_
      refine va_get (D := (dC, dI)) (ci := 9) (v := .int fForm) (C := "RangeCodersModel") (T := T_M) (N := 35) hx hb hg in_M hown hK hP 2 rfl rfl 0 (by decide) (hg _ k952) (fun _ h9 => h9) rfl d_M_put_24 ?_
      refine lv_iconst (v := 2) hx hb d_M_put_27 (by decide) ?_
      refine lv_icmp_eq (tgt := 48) hx hb d_M_put_28 (by decide) (fun c_3 => ?_) (fun c_3 => ?_)
      · exact absurd c_3 hf2
      · refine lv_aload_n hx hb d_M_put_31 rfl (lv_at hl 0 rfl) ?_
        refine va_get (D := (dC, dI)) (ci := 9) (v := .ref (g 2)) (C := "RangeCodersModel") (T := T_M) (N := 35) hx hb hg in_M hown hK hP 2 rfl rfl 5 (by decide) (hg _ k957) (fun _ h9 => h9) rfl d_M_put_32 ?_
        refine lv_bipush (v := 64) hx hb d_M_put_35 (by decide) ?_
        refine lv_iload_n hx hb d_M_put_37 rfl (lv_at hl 1 rfl) ?_
        refine lv_imul hx hb d_M_put_38 ?_
        refine lv_topi (fun v_4 ev_4 => ?_)
        refine lv_iload_n hx hb d_M_put_39 rfl (lv_at hl 2 rfl) ?_
        refine lv_iadd hx hb d_M_put_40 ?_
        refine lv_topi (fun v_5 ev_5 => ?_)
        have hix : v_5 = nI (64 * jj + tt) := by rw [ev_5, ev_4]; exact ix64
        refine va_iald hx hb hK hP 1 0 rfl rfl (by rw [hix]; exact vp_in_nI (by omega) (by decide)) d_M_put_41 ?_
        refine lv_topi (fun v_6 ev_6 => ?_)
        have z9 : v_6 = nI (F tt) := by rw [ev_6, hix, nI_clamp (by omega)]; exact hF tt ht
        subst z9
        refine lv_if_ne (tgt := 48) hx hb d_M_put_42 (by decide) (fun c_7 => ?_) (fun c_7 => ?_)
        · refine lv_aload_n hx hb d_M_put_48 rfl (lv_at hl 0 rfl) ?_
          refine va_get (D := (dC, dI)) (ci := 9) (v := .int (nI ki)) (C := "RangeCodersModel") (T := T_M) (N := 35) hx hb hg in_M hown hK hP 2 rfl rfl 7 (by decide) (hg _ k959) (fun _ h9 => h9) rfl d_M_put_49 ?_
          refine lv_sipush (v := 600) hx hb d_M_put_52 (by decide) ?_
          refine lv_icmp_ne (tgt := 61) hx hb d_M_put_55 (by decide) (fun c_8 => ?_) (fun c_8 => ?_)
          · exact absurd (by rw [hk6]; rfl) c_8
          · refine lv_bipush (v := (-4)) hx hb d_M_put_58 (by decide) ?_
            exact my_iret (v := (-4)) hx hb hr (rfl) hlocks hQ hK hS (Nat.le_refl _) (Nat.le_refl _) () (rfl) (hP.sub [2, 3, 0, 1] rfl) (hD.sub [2, 3, 0, 1] (by decide +kernel) rfl) d_M_put_60
        · exact absurd c_7 (nI_ne0 hz hFb)
  · exact absurd (sg_yes hMD hj ht) (one_eq hw_8 c_1)
set_option maxHeartbeats 2000000 in
set_option maxRecDepth 100000 in
theorem m_putR2 (l : Launch) (dC : Nat → ClassId) (dI : Nat → Nat → Nat) (cI cM cO : ClassId) (sz : Nat) (o : Nat) (g : Nat → Nat) (fShift : Int32) (fModels : Int32) (fLow : Int64) (fRange : Int64) (fCache : Int32) (fPend : Int32) (fGoes : Int32) (fOuts : Int32) (fIns : Int32) (fReads : Int32) (fBad : Int32) (fIR : Int32) (fAsk : Int32) (fBAsk : Int32) (fCode : Int64) (fRL : Int64) (fRR : Int64) (fX : Int64) (fWrites : Int32) (fThrown : Int32) (vMany : Nat → Int32) (vCounts : Nat → Int32) (km : Nat) (N : Nat → Nat) (jj : Nat) (tt : Nat) (ki : Nat) (hmod : fModels = nI km) (hMD : MD km N vMany vCounts) (hj : jj < km) (ht : tt < N jj) (hk6 : ki = 600) : MetI l y_M_put (Cond.code y_M_put prog_14_method_29_code 3 (some .int) :: gw) ({ frames := 3, cells := 0, slots := 0, locals := 65 } : Room) (dC, dI) vwCl (kT cI cM cO) [Value.ref o, Value.int (nI jj), Value.int (nI tt)] [(o, Sum.inr (9, mO g 2 fShift fModels (nI ki) 0 fLow fRange fCache fPend fGoes fOuts fIns fReads fBad fIR fAsk fBAsk fCode fRL fRR fX fWrites fThrown)), ((g 0), Sum.inl (cI, 8, Sum.inl vMany)), ((g 1), Sum.inl (cI, 512, Sum.inl vCounts))] sz (fun (r : Int32) (u : Unit) => r = -4) (fun (u : Unit) => [(o, Sum.inr (9, mO g 2 fShift fModels (nI ki) 0 fLow fRange fCache fPend fGoes fOuts fIns fReads fBad fIR fAsk fBAsk fCode fRL fRR fX fWrites 0)), ((g 0), Sum.inl (cI, 8, Sum.inl vMany)), ((g 1), Sum.inl (cI, 512, Sum.inl vCounts))]) 0 0 := by
  refine my_ofI (cc := prog_14_method_29_code) (n := 3) (ret := (some .int)) (by decide) rfl (Nat.le_of_ble_eq_true rfl) ?_
  intro p e s m args below meth c R Q A ls H locs hx hb hr hts hown hlocks hml hnm hR hQ hA hl hP hK hN hD hS
  have hg : ∀ w ∈ gw, w.before args s = true := fun w h => hts w (List.mem_cons_of_mem _ h)
  have hown : s.vm.findClass "RangeCodersModel" = some m.cls := hown
  have hl : lv_has ls 3 [(0, Value.ref o), (1, Value.int (nI jj)), (2, Value.int (nI tt))] := hl
  have hk8 := hMD.1
  obtain ⟨hn9, hn2, hn64, C9, hc9, hB9⟩ := hMD.2 jj hj
  refine lv_aload_n hx hb d_M_put_0 rfl (lv_at hl 0 rfl) ?_
  refine lv_iconst (v := 0) hx hb d_M_put_1 (by decide) ?_
  refine va_put (D := (dC, dI)) (ci := 9) (v := .int 0) (ty := .int) (C := "RangeCodersModel") (T := T_M) (N := 35) hx hb hg in_M t_M o_M n_M hown hK hP hD hS 0 rfl rfl 34 (by decide) (hg _ k986) (fun _ h9 => h9) rfl (o_M 34 (by decide)) rfl rfl (Nat.le_of_ble_eq_true rfl) d_M_put_2 (fun H locs hP hD hS => ?_)
  have hPD : my_PD (dC, dI) vwCl A [(o, Sum.inr (9, mO g 2 fShift fModels (nI ki) 0 fLow fRange fCache fPend fGoes fOuts fIns fReads fBad fIR fAsk fBAsk fCode fRL fRR fX fWrites 0)), ((g 0), Sum.inl (cI, 8, Sum.inl vMany)), ((g 1), Sum.inl (cI, 512, Sum.inl vCounts))] H := ⟨hP, hD⟩
  have hP := hPD.1
  have hD := hPD.2
  refine lv_aload_n hx hb d_M_put_5 rfl (lv_at hl 0 rfl) ?_
  refine lv_iload_n hx hb d_M_put_6 rfl (lv_at hl 1 rfl) ?_
  refine lv_iload_n hx hb d_M_put_7 rfl (lv_at hl 2 rfl) ?_
  refine my_ci (wr := [((g 1), Sum.inl (cI, 512, Sum.inl vCounts))]) (va_runV (As := [Value.int (nI jj), Value.int (nI tt)]) (rest := []) ⟨hx, hb, hml, hown, hts⟩ (c_M_isSign l dC dI cI cM cO H.size o g 2 fShift fModels (nI ki) 0 fLow fRange fCache fPend fGoes fOuts fIns fReads fBad fIR fAsk fBAsk fCode fRL fRR fX fWrites 0 vMany km (nI jj) (nI tt) (hMD.1) (by first | assumption | omega)) (cwV 2 hts (my_gV k1069 k1071 ks25 k12 k1072) rfl rfl rfl cu_M_isSign_2 ⟨by rw [hR]; exact Nat.le_of_ble_eq_true rfl, by rw [hR]; exact Nat.le_of_ble_eq_true rfl⟩) (my_preV hK hN (hP.sub [0, 1] rfl) (hD.sub [0, 1] (by decide +kernel) rfl) 0 rfl rfl) rfl rfl hl.1 rfl (lv_room (Nat.le_of_ble_eq_true rfl)) d_M_put_8 ⟨by rw [hR]; exact Nat.le_of_ble_eq_true rfl, by rw [hR]; exact Nat.le_of_ble_eq_true rfl⟩) hP hD hS hA [0, 1] [2] rfl rfl (by decide +kernel) (by decide +kernel) (fun r_8 u9 H locs hw_8 hP hD hS => ?_)
  have hw_8 : r_8 = if isN km (nI jj) ∧ (0 ≤ (nI tt) ∧ (nI tt) ≤ vMany (nI jj).toNatClampNeg - 1) then 1 else 0 := hw_8
  have hPD : my_PD (dC, dI) vwCl A [((g 1), Sum.inl (cI, 512, Sum.inl vCounts)), (o, Sum.inr (9, mO g 2 fShift fModels (nI ki) 0 fLow fRange fCache fPend fGoes fOuts fIns fReads fBad fIR fAsk fBAsk fCode fRL fRR fX fWrites 0)), ((g 0), Sum.inl (cI, 8, Sum.inl vMany))] H := ⟨hP, hD⟩
  have hP := hPD.1
  have hD := hPD.2
  refine lv_if_ne (tgt := 16) hx hb d_M_put_11 (by decide) (fun c_1 => ?_) (fun c_1 => ?_)
  · refine lv_aload_n hx hb d_M_put_16 rfl (lv_at hl 0 rfl) ?_
    refine va_get (D := (dC, dI)) (ci := 9) (v := .int 0) (C := "RangeCodersModel") (T := T_M) (N := 35) hx hb hg in_M hown hK hP 1 rfl rfl 10 (by decide) (hg _ k962) (fun _ h9 => h9) rfl d_M_put_17 ?_
    refine lv_if_ne (tgt := 45) hx hb d_M_put_20 (by decide) (fun c_2 => ?_) (fun c_2 => ?_)
    · exact absurd rfl c_2
    · refine lv_aload_n hx hb d_M_put_23 rfl (lv_at hl 0 rfl) ?_
      refine va_get (D := (dC, dI)) (ci := 9) (v := .int 2) (C := "RangeCodersModel") (T := T_M) (N := 35) hx hb hg in_M hown hK hP 1 rfl rfl 0 (by decide) (hg _ k952) (fun _ h9 => h9) rfl d_M_put_24 ?_
      refine lv_iconst (v := 2) hx hb d_M_put_27 (by decide) ?_
      refine lv_icmp_eq (tgt := 48) hx hb d_M_put_28 (by decide) (fun c_3 => ?_) (fun c_3 => ?_)
      · refine lv_aload_n hx hb d_M_put_48 rfl (lv_at hl 0 rfl) ?_
        refine va_get (D := (dC, dI)) (ci := 9) (v := .int (nI ki)) (C := "RangeCodersModel") (T := T_M) (N := 35) hx hb hg in_M hown hK hP 1 rfl rfl 7 (by decide) (hg _ k959) (fun _ h9 => h9) rfl d_M_put_49 ?_
        refine lv_sipush (v := 600) hx hb d_M_put_52 (by decide) ?_
        refine lv_icmp_ne (tgt := 61) hx hb d_M_put_55 (by decide) (fun c_4 => ?_) (fun c_4 => ?_)
        · exact absurd (by rw [hk6]; rfl) c_4
        · refine lv_bipush (v := (-4)) hx hb d_M_put_58 (by decide) ?_
          exact my_iret (v := (-4)) hx hb hr (rfl) hlocks hQ hK hS (Nat.le_refl _) (Nat.le_refl _) () (rfl) (hP.sub [1, 2, 0] rfl) (hD.sub [1, 2, 0] (by decide +kernel) rfl) d_M_put_60
      · exact absurd rfl c_3
  · exact absurd (sg_yes hMD hj ht) (one_eq hw_8 c_1)
end
section
set_option maxHeartbeats 2000000 in
set_option maxRecDepth 100000 in
theorem m_put0L (l : Launch) (dC : Nat → ClassId) (dI : Nat → Nat → Nat) (cI cM cO : ClassId) (sz : Nat) (o : Nat) (g : Nat → Nat) (fShift : Int32) (fModels : Int32) (fOuts : Int32) (fIns : Int32) (fReads : Int32) (fBad : Int32) (fIR : Int32) (fAsk : Int32) (fBAsk : Int32) (fCode : Int64) (fRL : Int64) (fRR : Int64) (fX : Int64) (fWrites : Int32) (fThrown : Int32) (vMany : Nat → Int32) (vCounts : Nat → Int32) (vNow : Nat → Int32) (vIM : Nat → Int32) (vIW : Nat → Int32) (vGoing : Nat → Int32) (km : Nat) (N : Nat → Nat) (jj : Nat) (tt : Nat) (F : Nat → Nat) (Rg : Nat) (L : Nat) (ca : Option Nat) (Pn : Nat) (bs : List Nat) (ki : Nat) (hmod : fModels = nI km) (hMD : MD km N vMany vCounts) (hj : jj < km) (ht : tt < N jj) (hF : sgI vNow (64 * jj) (N jj) F) (hFp : 0 < F tt) (hs : ns F (N jj) ≤ 8192) (hki : ki < 600) (hE : eInv (Rg, L, ca, Pn, bs)) (hG : gIs vGoing bs) (hN9 : bs.length + Pn + 20 ≤ 9000) : MetI l y_M_put (Cond.code y_M_put prog_14_method_29_code 3 (some .int) :: gw) ({ frames := 5, cells := 0, slots := 0, locals := 112 } : Room) (dC, dI) vwCl (kT cI cM cO) [Value.ref o, Value.int (nI jj), Value.int (nI tt)] [(o, Sum.inr (9, mO g 0 fShift fModels (nI ki) 0 (lN L) (lN Rg) (caI ca) (nI Pn) (nI bs.length) fOuts fIns fReads fBad fIR fAsk fBAsk fCode fRL fRR fX fWrites fThrown)), ((g 0), Sum.inl (cI, 8, Sum.inl vMany)), ((g 1), Sum.inl (cI, 512, Sum.inl vCounts)), ((g 2), Sum.inl (cI, 512, Sum.inl vNow)), ((g 4), Sum.inl (cI, 600, Sum.inl vIM)), ((g 5), Sum.inl (cI, 600, Sum.inl vIW)), ((g 6), Sum.inl (cI, 9000, Sum.inl vGoing))] sz (fun (r : Int32) (u : (Nat → Int32) × (Nat → Int32) × (Nat → Int32) × (Nat → Int32)) => r = nI (ki + 1) ∧ u.2.1 = upd vIM ki (nI jj) ∧ u.2.2.1 = upd vIW ki (nI tt) ∧ sgI u.1 (64 * jj) (N jj) (lrn (N jj) tt F) ∧ sgO u.1 vNow (64 * jj) (N jj) ∧ gIs u.2.2.2 (eB (wdS (Rg / ns F (N jj) * F tt, L + Rg / ns F (N jj) * ns F tt, ca, Pn, bs)))) (fun (u : (Nat → Int32) × (Nat → Int32) × (Nat → Int32) × (Nat → Int32)) => [(o, Sum.inr (9, mO g 0 fShift fModels (nI (ki + 1)) 0 (lN (eL (wdS (Rg / ns F (N jj) * F tt, L + Rg / ns F (N jj) * ns F tt, ca, Pn, bs)))) (lN (eR (wdS (Rg / ns F (N jj) * F tt, L + Rg / ns F (N jj) * ns F tt, ca, Pn, bs)))) (caI (eC (wdS (Rg / ns F (N jj) * F tt, L + Rg / ns F (N jj) * ns F tt, ca, Pn, bs)))) (nI (eP (wdS (Rg / ns F (N jj) * F tt, L + Rg / ns F (N jj) * ns F tt, ca, Pn, bs)))) (nI (eB (wdS (Rg / ns F (N jj) * F tt, L + Rg / ns F (N jj) * ns F tt, ca, Pn, bs))).length) fOuts fIns fReads fBad fIR fAsk fBAsk fCode fRL fRR fX fWrites 0)), ((g 0), Sum.inl (cI, 8, Sum.inl vMany)), ((g 1), Sum.inl (cI, 512, Sum.inl vCounts)), ((g 2), Sum.inl (cI, 512, Sum.inl u.1)), ((g 4), Sum.inl (cI, 600, Sum.inl u.2.1)), ((g 5), Sum.inl (cI, 600, Sum.inl u.2.2.1)), ((g 6), Sum.inl (cI, 9000, Sum.inl u.2.2.2))]) 0 0 := by
  refine my_ofI (cc := prog_14_method_29_code) (n := 3) (ret := (some .int)) (by decide) rfl (Nat.le_of_ble_eq_true rfl) ?_
  intro p e s m args below meth c R Q A ls H locs hx hb hr hts hown hlocks hml hnm hR hQ hA hl hP hK hN hD hS
  have hg : ∀ w ∈ gw, w.before args s = true := fun w h => hts w (List.mem_cons_of_mem _ h)
  have hown : s.vm.findClass "RangeCodersModel" = some m.cls := hown
  have hl : lv_has ls 3 [(0, Value.ref o), (1, Value.int (nI jj)), (2, Value.int (nI tt))] := hl
  have hk8 := hMD.1
  obtain ⟨hn9, hn2, hn64, C9, hc9, hB9⟩ := hMD.2 jj hj
  refine lv_aload_n hx hb d_M_put_0 rfl (lv_at hl 0 rfl) ?_
  refine lv_iconst (v := 0) hx hb d_M_put_1 (by decide) ?_
  refine va_put (D := (dC, dI)) (ci := 9) (v := .int 0) (ty := .int) (C := "RangeCodersModel") (T := T_M) (N := 35) hx hb hg in_M t_M o_M n_M hown hK hP hD hS 0 rfl rfl 34 (by decide) (hg _ k986) (fun _ h9 => h9) rfl (o_M 34 (by decide)) rfl rfl (Nat.le_of_ble_eq_true rfl) d_M_put_2 (fun H locs hP hD hS => ?_)
  have hPD : my_PD (dC, dI) vwCl A [(o, Sum.inr (9, mO g 0 fShift fModels (nI ki) 0 (lN L) (lN Rg) (caI ca) (nI Pn) (nI bs.length) fOuts fIns fReads fBad fIR fAsk fBAsk fCode fRL fRR fX fWrites 0)), ((g 0), Sum.inl (cI, 8, Sum.inl vMany)), ((g 1), Sum.inl (cI, 512, Sum.inl vCounts)), ((g 2), Sum.inl (cI, 512, Sum.inl vNow)), ((g 4), Sum.inl (cI, 600, Sum.inl vIM)), ((g 5), Sum.inl (cI, 600, Sum.inl vIW)), ((g 6), Sum.inl (cI, 9000, Sum.inl vGoing))] H := ⟨hP, hD⟩
  have hP := hPD.1
  have hD := hPD.2
  refine lv_aload_n hx hb d_M_put_5 rfl (lv_at hl 0 rfl) ?_
  refine lv_iload_n hx hb d_M_put_6 rfl (lv_at hl 1 rfl) ?_
  refine lv_iload_n hx hb d_M_put_7 rfl (lv_at hl 2 rfl) ?_
  refine my_ci (wr := [((g 1), Sum.inl (cI, 512, Sum.inl vCounts)), ((g 2), Sum.inl (cI, 512, Sum.inl vNow)), ((g 4), Sum.inl (cI, 600, Sum.inl vIM)), ((g 5), Sum.inl (cI, 600, Sum.inl vIW)), ((g 6), Sum.inl (cI, 9000, Sum.inl vGoing))]) (va_runV (As := [Value.int (nI jj), Value.int (nI tt)]) (rest := []) ⟨hx, hb, hml, hown, hts⟩ (c_M_isSign l dC dI cI cM cO H.size o g 0 fShift fModels (nI ki) 0 (lN L) (lN Rg) (caI ca) (nI Pn) (nI bs.length) fOuts fIns fReads fBad fIR fAsk fBAsk fCode fRL fRR fX fWrites 0 vMany km (nI jj) (nI tt) (hMD.1) (by first | assumption | omega)) (cwV 2 hts (my_gV k1069 k1071 ks25 k12 k1072) rfl rfl rfl cu_M_isSign_2 ⟨by rw [hR]; exact Nat.le_of_ble_eq_true rfl, by rw [hR]; exact Nat.le_of_ble_eq_true rfl⟩) (my_preV hK hN (hP.sub [0, 1] rfl) (hD.sub [0, 1] (by decide +kernel) rfl) 0 rfl rfl) rfl rfl hl.1 rfl (lv_room (Nat.le_of_ble_eq_true rfl)) d_M_put_8 ⟨by rw [hR]; exact Nat.le_of_ble_eq_true rfl, by rw [hR]; exact Nat.le_of_ble_eq_true rfl⟩) hP hD hS hA [0, 1] [2, 3, 4, 5, 6] rfl rfl (by decide +kernel) (by decide +kernel) (fun r_8 u9 H locs hw_8 hP hD hS => ?_)
  have hw_8 : r_8 = if isN km (nI jj) ∧ (0 ≤ (nI tt) ∧ (nI tt) ≤ vMany (nI jj).toNatClampNeg - 1) then 1 else 0 := hw_8
  have hPD : my_PD (dC, dI) vwCl A [((g 1), Sum.inl (cI, 512, Sum.inl vCounts)), ((g 2), Sum.inl (cI, 512, Sum.inl vNow)), ((g 4), Sum.inl (cI, 600, Sum.inl vIM)), ((g 5), Sum.inl (cI, 600, Sum.inl vIW)), ((g 6), Sum.inl (cI, 9000, Sum.inl vGoing)), (o, Sum.inr (9, mO g 0 fShift fModels (nI ki) 0 (lN L) (lN Rg) (caI ca) (nI Pn) (nI bs.length) fOuts fIns fReads fBad fIR fAsk fBAsk fCode fRL fRR fX fWrites 0)), ((g 0), Sum.inl (cI, 8, Sum.inl vMany))] H := ⟨hP, hD⟩
  have hP := hPD.1
  have hD := hPD.2
  refine lv_if_ne (tgt := 16) hx hb d_M_put_11 (by decide) (fun c_1 => ?_) (fun c_1 => ?_)
  · refine lv_aload_n hx hb d_M_put_16 rfl (lv_at hl 0 rfl) ?_
    refine va_get (D := (dC, dI)) (ci := 9) (v := .int 0) (C := "RangeCodersModel") (T := T_M) (N := 35) hx hb hg in_M hown hK hP 5 rfl rfl 10 (by decide) (hg _ k962) (fun _ h9 => h9) rfl d_M_put_17 ?_
    refine lv_if_ne (tgt := 45) hx hb d_M_put_20 (by decide) (fun c_2 => ?_) (fun c_2 => ?_)
    · exact absurd rfl c_2
    · refine lv_aload_n hx hb d_M_put_23 rfl (lv_at hl 0 rfl) ?_
      refine va_get (D := (dC, dI)) (ci := 9) (v := .int 0) (C := "RangeCodersModel") (T := T_M) (N := 35) hx hb hg in_M hown hK hP 5 rfl rfl 0 (by decide) (hg _ k952) (fun _ h9 => h9) rfl d_M_put_24 ?_
      refine lv_iconst (v := 2) hx hb d_M_put_27 (by decide) ?_
      refine lv_icmp_eq (tgt := 48) hx hb d_M_put_28 (by decide) (fun c_3 => ?_) (fun c_3 => ?_)
      · exact absurd c_3 (by decide)
      · refine lv_aload_n hx hb d_M_put_31 rfl (lv_at hl 0 rfl) ?_
        refine va_get (D := (dC, dI)) (ci := 9) (v := .ref (g 2)) (C := "RangeCodersModel") (T := T_M) (N := 35) hx hb hg in_M hown hK hP 5 rfl rfl 5 (by decide) (hg _ k957) (fun _ h9 => h9) rfl d_M_put_32 ?_
        refine lv_bipush (v := 64) hx hb d_M_put_35 (by decide) ?_
        refine lv_iload_n hx hb d_M_put_37 rfl (lv_at hl 1 rfl) ?_
        refine lv_imul hx hb d_M_put_38 ?_
        refine lv_topi (fun v_4 ev_4 => ?_)
        refine lv_iload_n hx hb d_M_put_39 rfl (lv_at hl 2 rfl) ?_
        refine lv_iadd hx hb d_M_put_40 ?_
        refine lv_topi (fun v_5 ev_5 => ?_)
        have hix : v_5 = nI (64 * jj + tt) := by rw [ev_5, ev_4]; exact ix64
        refine va_iald hx hb hK hP 1 0 rfl rfl (by rw [hix]; exact vp_in_nI (by omega) (by decide)) d_M_put_41 ?_
        refine lv_topi (fun v_6 ev_6 => ?_)
        have z9 : v_6 = nI (F tt) := by rw [ev_6, hix, nI_clamp (by omega)]; exact hF tt ht
        subst z9
        refine lv_if_ne (tgt := 48) hx hb d_M_put_42 (by decide) (fun c_7 => ?_) (fun c_7 => ?_)
        · refine lv_aload_n hx hb d_M_put_48 rfl (lv_at hl 0 rfl) ?_
          refine va_get (D := (dC, dI)) (ci := 9) (v := .int (nI ki)) (C := "RangeCodersModel") (T := T_M) (N := 35) hx hb hg in_M hown hK hP 5 rfl rfl 7 (by decide) (hg _ k959) (fun _ h9 => h9) rfl d_M_put_49 ?_
          refine lv_sipush (v := 600) hx hb d_M_put_52 (by decide) ?_
          refine lv_icmp_ne (tgt := 61) hx hb d_M_put_55 (by decide) (fun c_8 => ?_) (fun c_8 => ?_)
          · refine lv_aload_n hx hb d_M_put_61 rfl (lv_at hl 0 rfl) ?_
            refine lv_iload_n hx hb d_M_put_62 rfl (lv_at hl 1 rfl) ?_
            refine lv_iload_n hx hb d_M_put_63 rfl (lv_at hl 2 rfl) ?_
            refine my_cv (wr := [((g 1), Sum.inl (cI, 512, Sum.inl vCounts)), ((g 4), Sum.inl (cI, 600, Sum.inl vIM)), ((g 5), Sum.inl (cI, 600, Sum.inl vIW))]) (va_runV (As := [Value.int (nI jj), Value.int (nI tt)]) (rest := []) ⟨hx, hb, hml, hown, hts⟩ (c_M_putSign0 l dC dI cI cM cO H.size o g fShift fModels (nI ki) 0 fOuts fIns fReads fBad fIR fAsk fBAsk fCode fRL fRR fX fWrites 0 vMany vNow vGoing jj (N jj) tt F Rg L ca Pn bs (by omega) (hn9) (hn64) (ht) (hF) (hFp) (hs) (by first | assumption | omega) (by first | assumption | omega) (by first | assumption | omega)) (cwV 2 hts (my_gV k1085 k1087 ks27 k12 k1088) rfl rfl rfl cu_M_putSign_2 ⟨by rw [hR]; exact Nat.le_of_ble_eq_true rfl, by rw [hR]; exact Nat.le_of_ble_eq_true rfl⟩) (my_preV hK hN (hP.sub [5, 6, 1, 4] rfl) (hD.sub [5, 6, 1, 4] (by decide +kernel) rfl) 0 rfl rfl) rfl rfl hl.1 rfl (lv_room (Nat.le_of_ble_eq_true rfl)) d_M_put_64 ⟨by rw [hR]; exact Nat.le_of_ble_eq_true rfl, by rw [hR]; exact Nat.le_of_ble_eq_true rfl⟩) hP hD hS hA [5, 6, 1, 4] [0, 2, 3] rfl rfl (by decide +kernel) (by decide +kernel) (fun u9 H locs hw_64 hP hD hS => ?_)
            obtain ⟨f2_64, v2_64⟩ := u9
            have hw_64 : sgI f2_64 (64 * jj) (N jj) (lrn (N jj) tt F) ∧ sgO f2_64 vNow (64 * jj) (N jj) ∧ gIs v2_64 (eB (wdS (Rg / ns F (N jj) * F tt, L + Rg / ns F (N jj) * ns F tt, ca, Pn, bs))) := hw_64
            have hPD : my_PD (dC, dI) vwCl A [((g 1), Sum.inl (cI, 512, Sum.inl vCounts)), ((g 4), Sum.inl (cI, 600, Sum.inl vIM)), ((g 5), Sum.inl (cI, 600, Sum.inl vIW)), (o, Sum.inr (9, mO g 0 fShift fModels (nI ki) 0 (lN (eL (wdS (Rg / ns F (N jj) * F tt, L + Rg / ns F (N jj) * ns F tt, ca, Pn, bs)))) (lN (eR (wdS (Rg / ns F (N jj) * F tt, L + Rg / ns F (N jj) * ns F tt, ca, Pn, bs)))) (caI (eC (wdS (Rg / ns F (N jj) * F tt, L + Rg / ns F (N jj) * ns F tt, ca, Pn, bs)))) (nI (eP (wdS (Rg / ns F (N jj) * F tt, L + Rg / ns F (N jj) * ns F tt, ca, Pn, bs)))) (nI (eB (wdS (Rg / ns F (N jj) * F tt, L + Rg / ns F (N jj) * ns F tt, ca, Pn, bs))).length) fOuts fIns fReads fBad fIR fAsk fBAsk fCode fRL fRR fX fWrites 0)), ((g 0), Sum.inl (cI, 8, Sum.inl vMany)), ((g 2), Sum.inl (cI, 512, Sum.inl f2_64)), ((g 6), Sum.inl (cI, 9000, Sum.inl v2_64))] H := ⟨hP, hD⟩
            have hP := hPD.1
            have hD := hPD.2
            refine lv_aload_n hx hb d_M_put_67 rfl (lv_at hl 0 rfl) ?_
            refine lv_iload_n hx hb d_M_put_68 rfl (lv_at hl 1 rfl) ?_
            refine lv_iload_n hx hb d_M_put_69 rfl (lv_at hl 2 rfl) ?_
            refine my_ci (wr := [((g 1), Sum.inl (cI, 512, Sum.inl vCounts)), ((g 0), Sum.inl (cI, 8, Sum.inl vMany)), ((g 2), Sum.inl (cI, 512, Sum.inl f2_64)), ((g 6), Sum.inl (cI, 9000, Sum.inl v2_64))]) (va_runV (As := [Value.int (nI jj), Value.int (nI tt)]) (rest := []) ⟨hx, hb, hml, hown, hts⟩ (c_M_addItem l dC dI cI cM cO H.size o g 0 fShift fModels 0 (lN (eL (wdS (Rg / ns F (N jj) * F tt, L + Rg / ns F (N jj) * ns F tt, ca, Pn, bs)))) (lN (eR (wdS (Rg / ns F (N jj) * F tt, L + Rg / ns F (N jj) * ns F tt, ca, Pn, bs)))) (caI (eC (wdS (Rg / ns F (N jj) * F tt, L + Rg / ns F (N jj) * ns F tt, ca, Pn, bs)))) (nI (eP (wdS (Rg / ns F (N jj) * F tt, L + Rg / ns F (N jj) * ns F tt, ca, Pn, bs)))) (nI (eB (wdS (Rg / ns F (N jj) * F tt, L + Rg / ns F (N jj) * ns F tt, ca, Pn, bs))).length) fOuts fIns fReads fBad fIR fAsk fBAsk fCode fRL fRR fX fWrites 0 vIM vIW ki (nI jj) (nI tt) (hki)) (cwV 2 hts (my_gV k1135 k1137 ks38 k12 k1138) rfl rfl rfl cu_M_addItem_2 ⟨by rw [hR]; exact Nat.le_of_ble_eq_true rfl, by rw [hR]; exact Nat.le_of_ble_eq_true rfl⟩) (my_preV hK hN (hP.sub [3, 1, 2] rfl) (hD.sub [3, 1, 2] (by decide +kernel) rfl) 0 rfl rfl) rfl rfl hl.1 rfl (lv_room (Nat.le_of_ble_eq_true rfl)) d_M_put_70 ⟨by rw [hR]; exact Nat.le_of_ble_eq_true rfl, by rw [hR]; exact Nat.le_of_ble_eq_true rfl⟩) hP hD hS hA [3, 1, 2] [0, 4, 5, 6] rfl rfl (by decide +kernel) (by decide +kernel) (fun r_70 u9 H locs hw_70 hP hD hS => ?_)
            obtain ⟨f2_70, v2_70⟩ := u9
            have hw_70 : r_70 = nI (ki + 1) ∧ f2_70 = upd vIM ki (nI jj) ∧ v2_70 = upd vIW ki (nI tt) := hw_70
            have hPD : my_PD (dC, dI) vwCl A [((g 1), Sum.inl (cI, 512, Sum.inl vCounts)), ((g 0), Sum.inl (cI, 8, Sum.inl vMany)), ((g 2), Sum.inl (cI, 512, Sum.inl f2_64)), ((g 6), Sum.inl (cI, 9000, Sum.inl v2_64)), (o, Sum.inr (9, mO g 0 fShift fModels (nI (ki + 1)) 0 (lN (eL (wdS (Rg / ns F (N jj) * F tt, L + Rg / ns F (N jj) * ns F tt, ca, Pn, bs)))) (lN (eR (wdS (Rg / ns F (N jj) * F tt, L + Rg / ns F (N jj) * ns F tt, ca, Pn, bs)))) (caI (eC (wdS (Rg / ns F (N jj) * F tt, L + Rg / ns F (N jj) * ns F tt, ca, Pn, bs)))) (nI (eP (wdS (Rg / ns F (N jj) * F tt, L + Rg / ns F (N jj) * ns F tt, ca, Pn, bs)))) (nI (eB (wdS (Rg / ns F (N jj) * F tt, L + Rg / ns F (N jj) * ns F tt, ca, Pn, bs))).length) fOuts fIns fReads fBad fIR fAsk fBAsk fCode fRL fRR fX fWrites 0)), ((g 4), Sum.inl (cI, 600, Sum.inl f2_70)), ((g 5), Sum.inl (cI, 600, Sum.inl v2_70))] H := ⟨hP, hD⟩
            have hP := hPD.1
            have hD := hPD.2
            exact my_iret (v := r_70) hx hb hr (rfl) hlocks hQ hK hS (Nat.le_refl _) (Nat.le_refl _) (f2_64, f2_70, v2_70, v2_64) (⟨hw_70.1, hw_70.2.1, hw_70.2.2, hw_64.1, hw_64.2.1, hw_64.2.2⟩) (hP.sub [4, 1, 0, 2, 5, 6, 3] rfl) (hD.sub [4, 1, 0, 2, 5, 6, 3] (by decide +kernel) rfl) d_M_put_73
          · exact absurd (nI_inj (a := ki) (b := 600) (by omega) (by decide) c_8) (by omega)
        · exact absurd c_7 (nI_ne0 hFp (by have := ns_ge (F := F) ht; omega))
  · exact absurd (sg_yes hMD hj ht) (one_eq hw_8 c_1)
set_option maxHeartbeats 2000000 in
set_option maxRecDepth 100000 in
theorem m_put1L (l : Launch) (dC : Nat → ClassId) (dI : Nat → Nat → Nat) (cI cM cO : ClassId) (sz : Nat) (o : Nat) (g : Nat → Nat) (fShift : Int32) (fModels : Int32) (fCache : Int32) (fPend : Int32) (fOuts : Int32) (fIns : Int32) (fReads : Int32) (fBad : Int32) (fIR : Int32) (fAsk : Int32) (fBAsk : Int32) (fCode : Int64) (fRL : Int64) (fRR : Int64) (fX : Int64) (fWrites : Int32) (fThrown : Int32) (vMany : Nat → Int32) (vCounts : Nat → Int32) (vNow : Nat → Int32) (vIM : Nat → Int32) (vIW : Nat → Int32) (vGoing : Nat → Int32) (km : Nat) (N : Nat → Nat) (jj : Nat) (tt : Nat) (F : Nat → Nat) (Rg : Nat) (L : Nat) (bs : List Nat) (ki : Nat) (hmod : fModels = nI km) (hMD : MD km N vMany vCounts) (hj : jj < km) (ht : tt < N jj) (hF : sgI vNow (64 * jj) (N jj) F) (hFp : 0 < F tt) (hs : ns F (N jj) ≤ 8192) (hki : ki < 600) (hp : pOk Rg L) (hR6 : 65536 ≤ Rg) (hG : gIs vGoing bs) (hN9 : bs.length + 5 ≤ 9000) : MetI l y_M_put (Cond.code y_M_put prog_14_method_29_code 3 (some .int) :: gw) ({ frames := 4, cells := 0, slots := 0, locals := 93 } : Room) (dC, dI) vwCl (kT cI cM cO) [Value.ref o, Value.int (nI jj), Value.int (nI tt)] [(o, Sum.inr (9, mO g 1 fShift fModels (nI ki) 0 (lN L) (lN Rg) fCache fPend (nI bs.length) fOuts fIns fReads fBad fIR fAsk fBAsk fCode fRL fRR fX fWrites fThrown)), ((g 0), Sum.inl (cI, 8, Sum.inl vMany)), ((g 1), Sum.inl (cI, 512, Sum.inl vCounts)), ((g 2), Sum.inl (cI, 512, Sum.inl vNow)), ((g 4), Sum.inl (cI, 600, Sum.inl vIM)), ((g 5), Sum.inl (cI, 600, Sum.inl vIW)), ((g 6), Sum.inl (cI, 9000, Sum.inl vGoing))] sz (fun (r : Int32) (u : (Nat → Int32) × (Nat → Int32) × (Nat → Int32) × (Nat → Int32)) => r = nI (ki + 1) ∧ u.2.1 = upd vIM ki (nI jj) ∧ u.2.2.1 = upd vIW ki (nI tt) ∧ sgI u.1 (64 * jj) (N jj) (lrn (N jj) tt F) ∧ sgO u.1 vNow (64 * jj) (N jj) ∧ gIs u.2.2.2 ((plS (Rg / ns F (N jj) * F tt, L + Rg / ns F (N jj) * ns F tt, bs)).2.2)) (fun (u : (Nat → Int32) × (Nat → Int32) × (Nat → Int32) × (Nat → Int32)) => [(o, Sum.inr (9, mO g 1 fShift fModels (nI (ki + 1)) 0 (lN (plS (Rg / ns F (N jj) * F tt, L + Rg / ns F (N jj) * ns F tt, bs)).2.1) (lN (plS (Rg / ns F (N jj) * F tt, L + Rg / ns F (N jj) * ns F tt, bs)).1) fCache fPend (nI (plS (Rg / ns F (N jj) * F tt, L + Rg / ns F (N jj) * ns F tt, bs)).2.2.length) fOuts fIns fReads fBad fIR fAsk fBAsk fCode fRL fRR fX fWrites 0)), ((g 0), Sum.inl (cI, 8, Sum.inl vMany)), ((g 1), Sum.inl (cI, 512, Sum.inl vCounts)), ((g 2), Sum.inl (cI, 512, Sum.inl u.1)), ((g 4), Sum.inl (cI, 600, Sum.inl u.2.1)), ((g 5), Sum.inl (cI, 600, Sum.inl u.2.2.1)), ((g 6), Sum.inl (cI, 9000, Sum.inl u.2.2.2))]) 0 0 := by
  refine my_ofI (cc := prog_14_method_29_code) (n := 3) (ret := (some .int)) (by decide) rfl (Nat.le_of_ble_eq_true rfl) ?_
  intro p e s m args below meth c R Q A ls H locs hx hb hr hts hown hlocks hml hnm hR hQ hA hl hP hK hN hD hS
  have hg : ∀ w ∈ gw, w.before args s = true := fun w h => hts w (List.mem_cons_of_mem _ h)
  have hown : s.vm.findClass "RangeCodersModel" = some m.cls := hown
  have hl : lv_has ls 3 [(0, Value.ref o), (1, Value.int (nI jj)), (2, Value.int (nI tt))] := hl
  have hk8 := hMD.1
  obtain ⟨hn9, hn2, hn64, C9, hc9, hB9⟩ := hMD.2 jj hj
  refine lv_aload_n hx hb d_M_put_0 rfl (lv_at hl 0 rfl) ?_
  refine lv_iconst (v := 0) hx hb d_M_put_1 (by decide) ?_
  refine va_put (D := (dC, dI)) (ci := 9) (v := .int 0) (ty := .int) (C := "RangeCodersModel") (T := T_M) (N := 35) hx hb hg in_M t_M o_M n_M hown hK hP hD hS 0 rfl rfl 34 (by decide) (hg _ k986) (fun _ h9 => h9) rfl (o_M 34 (by decide)) rfl rfl (Nat.le_of_ble_eq_true rfl) d_M_put_2 (fun H locs hP hD hS => ?_)
  have hPD : my_PD (dC, dI) vwCl A [(o, Sum.inr (9, mO g 1 fShift fModels (nI ki) 0 (lN L) (lN Rg) fCache fPend (nI bs.length) fOuts fIns fReads fBad fIR fAsk fBAsk fCode fRL fRR fX fWrites 0)), ((g 0), Sum.inl (cI, 8, Sum.inl vMany)), ((g 1), Sum.inl (cI, 512, Sum.inl vCounts)), ((g 2), Sum.inl (cI, 512, Sum.inl vNow)), ((g 4), Sum.inl (cI, 600, Sum.inl vIM)), ((g 5), Sum.inl (cI, 600, Sum.inl vIW)), ((g 6), Sum.inl (cI, 9000, Sum.inl vGoing))] H := ⟨hP, hD⟩
  have hP := hPD.1
  have hD := hPD.2
  refine lv_aload_n hx hb d_M_put_5 rfl (lv_at hl 0 rfl) ?_
  refine lv_iload_n hx hb d_M_put_6 rfl (lv_at hl 1 rfl) ?_
  refine lv_iload_n hx hb d_M_put_7 rfl (lv_at hl 2 rfl) ?_
  refine my_ci (wr := [((g 1), Sum.inl (cI, 512, Sum.inl vCounts)), ((g 2), Sum.inl (cI, 512, Sum.inl vNow)), ((g 4), Sum.inl (cI, 600, Sum.inl vIM)), ((g 5), Sum.inl (cI, 600, Sum.inl vIW)), ((g 6), Sum.inl (cI, 9000, Sum.inl vGoing))]) (va_runV (As := [Value.int (nI jj), Value.int (nI tt)]) (rest := []) ⟨hx, hb, hml, hown, hts⟩ (c_M_isSign l dC dI cI cM cO H.size o g 1 fShift fModels (nI ki) 0 (lN L) (lN Rg) fCache fPend (nI bs.length) fOuts fIns fReads fBad fIR fAsk fBAsk fCode fRL fRR fX fWrites 0 vMany km (nI jj) (nI tt) (hMD.1) (by first | assumption | omega)) (cwV 2 hts (my_gV k1069 k1071 ks25 k12 k1072) rfl rfl rfl cu_M_isSign_2 ⟨by rw [hR]; exact Nat.le_of_ble_eq_true rfl, by rw [hR]; exact Nat.le_of_ble_eq_true rfl⟩) (my_preV hK hN (hP.sub [0, 1] rfl) (hD.sub [0, 1] (by decide +kernel) rfl) 0 rfl rfl) rfl rfl hl.1 rfl (lv_room (Nat.le_of_ble_eq_true rfl)) d_M_put_8 ⟨by rw [hR]; exact Nat.le_of_ble_eq_true rfl, by rw [hR]; exact Nat.le_of_ble_eq_true rfl⟩) hP hD hS hA [0, 1] [2, 3, 4, 5, 6] rfl rfl (by decide +kernel) (by decide +kernel) (fun r_8 u9 H locs hw_8 hP hD hS => ?_)
  have hw_8 : r_8 = if isN km (nI jj) ∧ (0 ≤ (nI tt) ∧ (nI tt) ≤ vMany (nI jj).toNatClampNeg - 1) then 1 else 0 := hw_8
  have hPD : my_PD (dC, dI) vwCl A [((g 1), Sum.inl (cI, 512, Sum.inl vCounts)), ((g 2), Sum.inl (cI, 512, Sum.inl vNow)), ((g 4), Sum.inl (cI, 600, Sum.inl vIM)), ((g 5), Sum.inl (cI, 600, Sum.inl vIW)), ((g 6), Sum.inl (cI, 9000, Sum.inl vGoing)), (o, Sum.inr (9, mO g 1 fShift fModels (nI ki) 0 (lN L) (lN Rg) fCache fPend (nI bs.length) fOuts fIns fReads fBad fIR fAsk fBAsk fCode fRL fRR fX fWrites 0)), ((g 0), Sum.inl (cI, 8, Sum.inl vMany))] H := ⟨hP, hD⟩
  have hP := hPD.1
  have hD := hPD.2
  refine lv_if_ne (tgt := 16) hx hb d_M_put_11 (by decide) (fun c_1 => ?_) (fun c_1 => ?_)
  · refine lv_aload_n hx hb d_M_put_16 rfl (lv_at hl 0 rfl) ?_
    refine va_get (D := (dC, dI)) (ci := 9) (v := .int 0) (C := "RangeCodersModel") (T := T_M) (N := 35) hx hb hg in_M hown hK hP 5 rfl rfl 10 (by decide) (hg _ k962) (fun _ h9 => h9) rfl d_M_put_17 ?_
    refine lv_if_ne (tgt := 45) hx hb d_M_put_20 (by decide) (fun c_2 => ?_) (fun c_2 => ?_)
    · exact absurd rfl c_2
    · refine lv_aload_n hx hb d_M_put_23 rfl (lv_at hl 0 rfl) ?_
      refine va_get (D := (dC, dI)) (ci := 9) (v := .int 1) (C := "RangeCodersModel") (T := T_M) (N := 35) hx hb hg in_M hown hK hP 5 rfl rfl 0 (by decide) (hg _ k952) (fun _ h9 => h9) rfl d_M_put_24 ?_
      refine lv_iconst (v := 2) hx hb d_M_put_27 (by decide) ?_
      refine lv_icmp_eq (tgt := 48) hx hb d_M_put_28 (by decide) (fun c_3 => ?_) (fun c_3 => ?_)
      · exact absurd c_3 (by decide)
      · refine lv_aload_n hx hb d_M_put_31 rfl (lv_at hl 0 rfl) ?_
        refine va_get (D := (dC, dI)) (ci := 9) (v := .ref (g 2)) (C := "RangeCodersModel") (T := T_M) (N := 35) hx hb hg in_M hown hK hP 5 rfl rfl 5 (by decide) (hg _ k957) (fun _ h9 => h9) rfl d_M_put_32 ?_
        refine lv_bipush (v := 64) hx hb d_M_put_35 (by decide) ?_
        refine lv_iload_n hx hb d_M_put_37 rfl (lv_at hl 1 rfl) ?_
        refine lv_imul hx hb d_M_put_38 ?_
        refine lv_topi (fun v_4 ev_4 => ?_)
        refine lv_iload_n hx hb d_M_put_39 rfl (lv_at hl 2 rfl) ?_
        refine lv_iadd hx hb d_M_put_40 ?_
        refine lv_topi (fun v_5 ev_5 => ?_)
        have hix : v_5 = nI (64 * jj + tt) := by rw [ev_5, ev_4]; exact ix64
        refine va_iald hx hb hK hP 1 0 rfl rfl (by rw [hix]; exact vp_in_nI (by omega) (by decide)) d_M_put_41 ?_
        refine lv_topi (fun v_6 ev_6 => ?_)
        have z9 : v_6 = nI (F tt) := by rw [ev_6, hix, nI_clamp (by omega)]; exact hF tt ht
        subst z9
        refine lv_if_ne (tgt := 48) hx hb d_M_put_42 (by decide) (fun c_7 => ?_) (fun c_7 => ?_)
        · refine lv_aload_n hx hb d_M_put_48 rfl (lv_at hl 0 rfl) ?_
          refine va_get (D := (dC, dI)) (ci := 9) (v := .int (nI ki)) (C := "RangeCodersModel") (T := T_M) (N := 35) hx hb hg in_M hown hK hP 5 rfl rfl 7 (by decide) (hg _ k959) (fun _ h9 => h9) rfl d_M_put_49 ?_
          refine lv_sipush (v := 600) hx hb d_M_put_52 (by decide) ?_
          refine lv_icmp_ne (tgt := 61) hx hb d_M_put_55 (by decide) (fun c_8 => ?_) (fun c_8 => ?_)
          · refine lv_aload_n hx hb d_M_put_61 rfl (lv_at hl 0 rfl) ?_
            refine lv_iload_n hx hb d_M_put_62 rfl (lv_at hl 1 rfl) ?_
            refine lv_iload_n hx hb d_M_put_63 rfl (lv_at hl 2 rfl) ?_
            refine my_cv (wr := [((g 1), Sum.inl (cI, 512, Sum.inl vCounts)), ((g 4), Sum.inl (cI, 600, Sum.inl vIM)), ((g 5), Sum.inl (cI, 600, Sum.inl vIW))]) (va_runV (As := [Value.int (nI jj), Value.int (nI tt)]) (rest := []) ⟨hx, hb, hml, hown, hts⟩ (c_M_putSign1 l dC dI cI cM cO H.size o g fShift fModels (nI ki) 0 fCache fPend fOuts fIns fReads fBad fIR fAsk fBAsk fCode fRL fRR fX fWrites 0 vMany vNow vGoing jj (N jj) tt F Rg L bs (by omega) (hn9) (hn64) (ht) (hF) (hFp) (hs) (by first | assumption | omega) (by first | assumption | omega) (by first | assumption | omega) (by first | assumption | omega)) (cwV 2 hts (my_gV k1085 k1087 ks27 k12 k1088) rfl rfl rfl cu_M_putSign_2 ⟨by rw [hR]; exact Nat.le_of_ble_eq_true rfl, by rw [hR]; exact Nat.le_of_ble_eq_true rfl⟩) (my_preV hK hN (hP.sub [5, 6, 1, 4] rfl) (hD.sub [5, 6, 1, 4] (by decide +kernel) rfl) 0 rfl rfl) rfl rfl hl.1 rfl (lv_room (Nat.le_of_ble_eq_true rfl)) d_M_put_64 ⟨by rw [hR]; exact Nat.le_of_ble_eq_true rfl, by rw [hR]; exact Nat.le_of_ble_eq_true rfl⟩) hP hD hS hA [5, 6, 1, 4] [0, 2, 3] rfl rfl (by decide +kernel) (by decide +kernel) (fun u9 H locs hw_64 hP hD hS => ?_)
            obtain ⟨f2_64, v2_64⟩ := u9
            have hw_64 : sgI f2_64 (64 * jj) (N jj) (lrn (N jj) tt F) ∧ sgO f2_64 vNow (64 * jj) (N jj) ∧ gIs v2_64 (plS (Rg / ns F (N jj) * F tt, L + Rg / ns F (N jj) * ns F tt, bs)).2.2 := hw_64
            have hPD : my_PD (dC, dI) vwCl A [((g 1), Sum.inl (cI, 512, Sum.inl vCounts)), ((g 4), Sum.inl (cI, 600, Sum.inl vIM)), ((g 5), Sum.inl (cI, 600, Sum.inl vIW)), (o, Sum.inr (9, mO g 1 fShift fModels (nI ki) 0 (lN (plS (Rg / ns F (N jj) * F tt, L + Rg / ns F (N jj) * ns F tt, bs)).2.1) (lN (plS (Rg / ns F (N jj) * F tt, L + Rg / ns F (N jj) * ns F tt, bs)).1) fCache fPend (nI (plS (Rg / ns F (N jj) * F tt, L + Rg / ns F (N jj) * ns F tt, bs)).2.2.length) fOuts fIns fReads fBad fIR fAsk fBAsk fCode fRL fRR fX fWrites 0)), ((g 0), Sum.inl (cI, 8, Sum.inl vMany)), ((g 2), Sum.inl (cI, 512, Sum.inl f2_64)), ((g 6), Sum.inl (cI, 9000, Sum.inl v2_64))] H := ⟨hP, hD⟩
            have hP := hPD.1
            have hD := hPD.2
            refine lv_aload_n hx hb d_M_put_67 rfl (lv_at hl 0 rfl) ?_
            refine lv_iload_n hx hb d_M_put_68 rfl (lv_at hl 1 rfl) ?_
            refine lv_iload_n hx hb d_M_put_69 rfl (lv_at hl 2 rfl) ?_
            refine my_ci (wr := [((g 1), Sum.inl (cI, 512, Sum.inl vCounts)), ((g 0), Sum.inl (cI, 8, Sum.inl vMany)), ((g 2), Sum.inl (cI, 512, Sum.inl f2_64)), ((g 6), Sum.inl (cI, 9000, Sum.inl v2_64))]) (va_runV (As := [Value.int (nI jj), Value.int (nI tt)]) (rest := []) ⟨hx, hb, hml, hown, hts⟩ (c_M_addItem l dC dI cI cM cO H.size o g 1 fShift fModels 0 (lN (plS (Rg / ns F (N jj) * F tt, L + Rg / ns F (N jj) * ns F tt, bs)).2.1) (lN (plS (Rg / ns F (N jj) * F tt, L + Rg / ns F (N jj) * ns F tt, bs)).1) fCache fPend (nI (plS (Rg / ns F (N jj) * F tt, L + Rg / ns F (N jj) * ns F tt, bs)).2.2.length) fOuts fIns fReads fBad fIR fAsk fBAsk fCode fRL fRR fX fWrites 0 vIM vIW ki (nI jj) (nI tt) (hki)) (cwV 2 hts (my_gV k1135 k1137 ks38 k12 k1138) rfl rfl rfl cu_M_addItem_2 ⟨by rw [hR]; exact Nat.le_of_ble_eq_true rfl, by rw [hR]; exact Nat.le_of_ble_eq_true rfl⟩) (my_preV hK hN (hP.sub [3, 1, 2] rfl) (hD.sub [3, 1, 2] (by decide +kernel) rfl) 0 rfl rfl) rfl rfl hl.1 rfl (lv_room (Nat.le_of_ble_eq_true rfl)) d_M_put_70 ⟨by rw [hR]; exact Nat.le_of_ble_eq_true rfl, by rw [hR]; exact Nat.le_of_ble_eq_true rfl⟩) hP hD hS hA [3, 1, 2] [0, 4, 5, 6] rfl rfl (by decide +kernel) (by decide +kernel) (fun r_70 u9 H locs hw_70 hP hD hS => ?_)
            obtain ⟨f2_70, v2_70⟩ := u9
            have hw_70 : r_70 = nI (ki + 1) ∧ f2_70 = upd vIM ki (nI jj) ∧ v2_70 = upd vIW ki (nI tt) := hw_70
            have hPD : my_PD (dC, dI) vwCl A [((g 1), Sum.inl (cI, 512, Sum.inl vCounts)), ((g 0), Sum.inl (cI, 8, Sum.inl vMany)), ((g 2), Sum.inl (cI, 512, Sum.inl f2_64)), ((g 6), Sum.inl (cI, 9000, Sum.inl v2_64)), (o, Sum.inr (9, mO g 1 fShift fModels (nI (ki + 1)) 0 (lN (plS (Rg / ns F (N jj) * F tt, L + Rg / ns F (N jj) * ns F tt, bs)).2.1) (lN (plS (Rg / ns F (N jj) * F tt, L + Rg / ns F (N jj) * ns F tt, bs)).1) fCache fPend (nI (plS (Rg / ns F (N jj) * F tt, L + Rg / ns F (N jj) * ns F tt, bs)).2.2.length) fOuts fIns fReads fBad fIR fAsk fBAsk fCode fRL fRR fX fWrites 0)), ((g 4), Sum.inl (cI, 600, Sum.inl f2_70)), ((g 5), Sum.inl (cI, 600, Sum.inl v2_70))] H := ⟨hP, hD⟩
            have hP := hPD.1
            have hD := hPD.2
            exact my_iret (v := r_70) hx hb hr (rfl) hlocks hQ hK hS (Nat.le_refl _) (Nat.le_refl _) (f2_64, f2_70, v2_70, v2_64) (⟨hw_70.1, hw_70.2.1, hw_70.2.2, hw_64.1, hw_64.2.1, hw_64.2.2⟩) (hP.sub [4, 1, 0, 2, 5, 6, 3] rfl) (hD.sub [4, 1, 0, 2, 5, 6, 3] (by decide +kernel) rfl) d_M_put_73
          · exact absurd (nI_inj (a := ki) (b := 600) (by omega) (by decide) c_8) (by omega)
        · exact absurd c_7 (nI_ne0 hFp (by have := ns_ge (F := F) ht; omega))
  · exact absurd (sg_yes hMD hj ht) (one_eq hw_8 c_1)
set_option maxHeartbeats 2000000 in
set_option maxRecDepth 100000 in
theorem m_put2L (l : Launch) (dC : Nat → ClassId) (dI : Nat → Nat → Nat) (cI cM cO : ClassId) (sz : Nat) (o : Nat) (g : Nat → Nat) (fModels : Int32) (fOuts : Int32) (fIns : Int32) (fReads : Int32) (fBad : Int32) (fIR : Int32) (fAsk : Int32) (fBAsk : Int32) (fCode : Int64) (fRL : Int64) (fRR : Int64) (fX : Int64) (fWrites : Int32) (fThrown : Int32) (vMany : Nat → Int32) (vCounts : Nat → Int32) (vNow : Nat → Int32) (vIM : Nat → Int32) (vIW : Nat → Int32) (vGoing : Nat → Int32) (km : Nat) (N : Nat → Nat) (jj : Nat) (tt : Nat) (C : Nat → Nat) (sh : Nat) (Rg : Nat) (L : Nat) (ca : Option Nat) (Pn : Nat) (bs : List Nat) (ki : Nat) (hmod : fModels = nI km) (hMD : MD km N vMany vCounts) (hj : jj < km) (ht : tt < N jj) (hF : sgI vNow (64 * jj) 64 C) (hC : ∀ k, k < 64 → 1 ≤ C k ∧ C k ≤ 2047) (hs1 : 1 ≤ sh) (hs2 : sh ≤ 10) (hki : ki < 600) (hE : eInv (Rg, L, ca, Pn, bs)) (hG : gIs vGoing bs) (hN9 : bs.length + Pn + 20 ≤ 9000) : MetI l y_M_put (Cond.code y_M_put prog_14_method_29_code 3 (some .int) :: gw) ({ frames := 5, cells := 0, slots := 0, locals := 111 } : Room) (dC, dI) vwCl (kT cI cM cO) [Value.ref o, Value.int (nI jj), Value.int (nI tt)] [(o, Sum.inr (9, mO g 2 (nI sh) fModels (nI ki) 0 (lN L) (lN Rg) (caI ca) (nI Pn) (nI bs.length) fOuts fIns fReads fBad fIR fAsk fBAsk fCode fRL fRR fX fWrites fThrown)), ((g 0), Sum.inl (cI, 8, Sum.inl vMany)), ((g 1), Sum.inl (cI, 512, Sum.inl vCounts)), ((g 2), Sum.inl (cI, 512, Sum.inl vNow)), ((g 4), Sum.inl (cI, 600, Sum.inl vIM)), ((g 5), Sum.inl (cI, 600, Sum.inl vIW)), ((g 6), Sum.inl (cI, 9000, Sum.inl vGoing))] sz (fun (r : Int32) (u : (Nat → Int32) × (Nat → Int32) × (Nat → Int32) × (Nat → Int32)) => r = nI (ki + 1) ∧ u.2.1 = upd vIM ki (nI jj) ∧ u.2.2.1 = upd vIW ki (nI tt) ∧ sgI u.1 (64 * jj) 64 (spN sh tt (lev (N jj)) 1 (Rg, L, ca, Pn, bs) C).2 ∧ sgO u.1 vNow (64 * jj) 64 ∧ gIs u.2.2.2 (eB (spN sh tt (lev (N jj)) 1 (Rg, L, ca, Pn, bs) C).1)) (fun (u : (Nat → Int32) × (Nat → Int32) × (Nat → Int32) × (Nat → Int32)) => [(o, Sum.inr (9, mO g 2 (nI sh) fModels (nI (ki + 1)) 0 (lN (eL ((spN sh tt (lev (N jj)) 1 (Rg, L, ca, Pn, bs) C).1))) (lN (eR ((spN sh tt (lev (N jj)) 1 (Rg, L, ca, Pn, bs) C).1))) (caI (eC ((spN sh tt (lev (N jj)) 1 (Rg, L, ca, Pn, bs) C).1))) (nI (eP ((spN sh tt (lev (N jj)) 1 (Rg, L, ca, Pn, bs) C).1))) (nI (eB ((spN sh tt (lev (N jj)) 1 (Rg, L, ca, Pn, bs) C).1)).length) fOuts fIns fReads fBad fIR fAsk fBAsk fCode fRL fRR fX fWrites 0)), ((g 0), Sum.inl (cI, 8, Sum.inl vMany)), ((g 1), Sum.inl (cI, 512, Sum.inl vCounts)), ((g 2), Sum.inl (cI, 512, Sum.inl u.1)), ((g 4), Sum.inl (cI, 600, Sum.inl u.2.1)), ((g 5), Sum.inl (cI, 600, Sum.inl u.2.2.1)), ((g 6), Sum.inl (cI, 9000, Sum.inl u.2.2.2))]) 0 0 := by
  refine my_ofI (cc := prog_14_method_29_code) (n := 3) (ret := (some .int)) (by decide) rfl (Nat.le_of_ble_eq_true rfl) ?_
  intro p e s m args below meth c R Q A ls H locs hx hb hr hts hown hlocks hml hnm hR hQ hA hl hP hK hN hD hS
  have hg : ∀ w ∈ gw, w.before args s = true := fun w h => hts w (List.mem_cons_of_mem _ h)
  have hown : s.vm.findClass "RangeCodersModel" = some m.cls := hown
  have hl : lv_has ls 3 [(0, Value.ref o), (1, Value.int (nI jj)), (2, Value.int (nI tt))] := hl
  have hk8 := hMD.1
  obtain ⟨hn9, hn2, hn64, C9, hc9, hB9⟩ := hMD.2 jj hj
  refine lv_aload_n hx hb d_M_put_0 rfl (lv_at hl 0 rfl) ?_
  refine lv_iconst (v := 0) hx hb d_M_put_1 (by decide) ?_
  refine va_put (D := (dC, dI)) (ci := 9) (v := .int 0) (ty := .int) (C := "RangeCodersModel") (T := T_M) (N := 35) hx hb hg in_M t_M o_M n_M hown hK hP hD hS 0 rfl rfl 34 (by decide) (hg _ k986) (fun _ h9 => h9) rfl (o_M 34 (by decide)) rfl rfl (Nat.le_of_ble_eq_true rfl) d_M_put_2 (fun H locs hP hD hS => ?_)
  have hPD : my_PD (dC, dI) vwCl A [(o, Sum.inr (9, mO g 2 (nI sh) fModels (nI ki) 0 (lN L) (lN Rg) (caI ca) (nI Pn) (nI bs.length) fOuts fIns fReads fBad fIR fAsk fBAsk fCode fRL fRR fX fWrites 0)), ((g 0), Sum.inl (cI, 8, Sum.inl vMany)), ((g 1), Sum.inl (cI, 512, Sum.inl vCounts)), ((g 2), Sum.inl (cI, 512, Sum.inl vNow)), ((g 4), Sum.inl (cI, 600, Sum.inl vIM)), ((g 5), Sum.inl (cI, 600, Sum.inl vIW)), ((g 6), Sum.inl (cI, 9000, Sum.inl vGoing))] H := ⟨hP, hD⟩
  have hP := hPD.1
  have hD := hPD.2
  refine lv_aload_n hx hb d_M_put_5 rfl (lv_at hl 0 rfl) ?_
  refine lv_iload_n hx hb d_M_put_6 rfl (lv_at hl 1 rfl) ?_
  refine lv_iload_n hx hb d_M_put_7 rfl (lv_at hl 2 rfl) ?_
  refine my_ci (wr := [((g 1), Sum.inl (cI, 512, Sum.inl vCounts)), ((g 2), Sum.inl (cI, 512, Sum.inl vNow)), ((g 4), Sum.inl (cI, 600, Sum.inl vIM)), ((g 5), Sum.inl (cI, 600, Sum.inl vIW)), ((g 6), Sum.inl (cI, 9000, Sum.inl vGoing))]) (va_runV (As := [Value.int (nI jj), Value.int (nI tt)]) (rest := []) ⟨hx, hb, hml, hown, hts⟩ (c_M_isSign l dC dI cI cM cO H.size o g 2 (nI sh) fModels (nI ki) 0 (lN L) (lN Rg) (caI ca) (nI Pn) (nI bs.length) fOuts fIns fReads fBad fIR fAsk fBAsk fCode fRL fRR fX fWrites 0 vMany km (nI jj) (nI tt) (hMD.1) (by first | assumption | omega)) (cwV 2 hts (my_gV k1069 k1071 ks25 k12 k1072) rfl rfl rfl cu_M_isSign_2 ⟨by rw [hR]; exact Nat.le_of_ble_eq_true rfl, by rw [hR]; exact Nat.le_of_ble_eq_true rfl⟩) (my_preV hK hN (hP.sub [0, 1] rfl) (hD.sub [0, 1] (by decide +kernel) rfl) 0 rfl rfl) rfl rfl hl.1 rfl (lv_room (Nat.le_of_ble_eq_true rfl)) d_M_put_8 ⟨by rw [hR]; exact Nat.le_of_ble_eq_true rfl, by rw [hR]; exact Nat.le_of_ble_eq_true rfl⟩) hP hD hS hA [0, 1] [2, 3, 4, 5, 6] rfl rfl (by decide +kernel) (by decide +kernel) (fun r_8 u9 H locs hw_8 hP hD hS => ?_)
  have hw_8 : r_8 = if isN km (nI jj) ∧ (0 ≤ (nI tt) ∧ (nI tt) ≤ vMany (nI jj).toNatClampNeg - 1) then 1 else 0 := hw_8
  have hPD : my_PD (dC, dI) vwCl A [((g 1), Sum.inl (cI, 512, Sum.inl vCounts)), ((g 2), Sum.inl (cI, 512, Sum.inl vNow)), ((g 4), Sum.inl (cI, 600, Sum.inl vIM)), ((g 5), Sum.inl (cI, 600, Sum.inl vIW)), ((g 6), Sum.inl (cI, 9000, Sum.inl vGoing)), (o, Sum.inr (9, mO g 2 (nI sh) fModels (nI ki) 0 (lN L) (lN Rg) (caI ca) (nI Pn) (nI bs.length) fOuts fIns fReads fBad fIR fAsk fBAsk fCode fRL fRR fX fWrites 0)), ((g 0), Sum.inl (cI, 8, Sum.inl vMany))] H := ⟨hP, hD⟩
  have hP := hPD.1
  have hD := hPD.2
  refine lv_if_ne (tgt := 16) hx hb d_M_put_11 (by decide) (fun c_1 => ?_) (fun c_1 => ?_)
  · refine lv_aload_n hx hb d_M_put_16 rfl (lv_at hl 0 rfl) ?_
    refine va_get (D := (dC, dI)) (ci := 9) (v := .int 0) (C := "RangeCodersModel") (T := T_M) (N := 35) hx hb hg in_M hown hK hP 5 rfl rfl 10 (by decide) (hg _ k962) (fun _ h9 => h9) rfl d_M_put_17 ?_
    refine lv_if_ne (tgt := 45) hx hb d_M_put_20 (by decide) (fun c_2 => ?_) (fun c_2 => ?_)
    · exact absurd rfl c_2
    · refine lv_aload_n hx hb d_M_put_23 rfl (lv_at hl 0 rfl) ?_
      refine va_get (D := (dC, dI)) (ci := 9) (v := .int 2) (C := "RangeCodersModel") (T := T_M) (N := 35) hx hb hg in_M hown hK hP 5 rfl rfl 0 (by decide) (hg _ k952) (fun _ h9 => h9) rfl d_M_put_24 ?_
      refine lv_iconst (v := 2) hx hb d_M_put_27 (by decide) ?_
      refine lv_icmp_eq (tgt := 48) hx hb d_M_put_28 (by decide) (fun c_3 => ?_) (fun c_3 => ?_)
      · refine lv_aload_n hx hb d_M_put_48 rfl (lv_at hl 0 rfl) ?_
        refine va_get (D := (dC, dI)) (ci := 9) (v := .int (nI ki)) (C := "RangeCodersModel") (T := T_M) (N := 35) hx hb hg in_M hown hK hP 5 rfl rfl 7 (by decide) (hg _ k959) (fun _ h9 => h9) rfl d_M_put_49 ?_
        refine lv_sipush (v := 600) hx hb d_M_put_52 (by decide) ?_
        refine lv_icmp_ne (tgt := 61) hx hb d_M_put_55 (by decide) (fun c_4 => ?_) (fun c_4 => ?_)
        · refine lv_aload_n hx hb d_M_put_61 rfl (lv_at hl 0 rfl) ?_
          refine lv_iload_n hx hb d_M_put_62 rfl (lv_at hl 1 rfl) ?_
          refine lv_iload_n hx hb d_M_put_63 rfl (lv_at hl 2 rfl) ?_
          refine my_cv (wr := [((g 1), Sum.inl (cI, 512, Sum.inl vCounts)), ((g 4), Sum.inl (cI, 600, Sum.inl vIM)), ((g 5), Sum.inl (cI, 600, Sum.inl vIW))]) (va_runV (As := [Value.int (nI jj), Value.int (nI tt)]) (rest := []) ⟨hx, hb, hml, hown, hts⟩ (c_M_putSign2 l dC dI cI cM cO H.size o g fModels (nI ki) 0 fOuts fIns fReads fBad fIR fAsk fBAsk fCode fRL fRR fX fWrites 0 vMany vNow vGoing jj (N jj) tt C sh Rg L ca Pn bs (by omega) (hn9) (hn64) (hn2) (ht) (hF) (by first | assumption | omega) (by first | assumption | omega) (by first | assumption | omega) (by first | assumption | omega) (by first | assumption | omega) (by first | assumption | omega)) (cwV 2 hts (my_gV k1085 k1087 ks27 k12 k1088) rfl rfl rfl cu_M_putSign_2 ⟨by rw [hR]; exact Nat.le_of_ble_eq_true rfl, by rw [hR]; exact Nat.le_of_ble_eq_true rfl⟩) (my_preV hK hN (hP.sub [5, 6, 1, 4] rfl) (hD.sub [5, 6, 1, 4] (by decide +kernel) rfl) 0 rfl rfl) rfl rfl hl.1 rfl (lv_room (Nat.le_of_ble_eq_true rfl)) d_M_put_64 ⟨by rw [hR]; exact Nat.le_of_ble_eq_true rfl, by rw [hR]; exact Nat.le_of_ble_eq_true rfl⟩) hP hD hS hA [5, 6, 1, 4] [0, 2, 3] rfl rfl (by decide +kernel) (by decide +kernel) (fun u9 H locs hw_64 hP hD hS => ?_)
          obtain ⟨f2_64, v2_64⟩ := u9
          have hw_64 : sgI f2_64 (64 * jj) 64 (spN sh tt (lev (N jj)) 1 (Rg, L, ca, Pn, bs) C).2 ∧ sgO f2_64 vNow (64 * jj) 64 ∧ gIs v2_64 (eB (spN sh tt (lev (N jj)) 1 (Rg, L, ca, Pn, bs) C).1) := hw_64
          have hPD : my_PD (dC, dI) vwCl A [((g 1), Sum.inl (cI, 512, Sum.inl vCounts)), ((g 4), Sum.inl (cI, 600, Sum.inl vIM)), ((g 5), Sum.inl (cI, 600, Sum.inl vIW)), (o, Sum.inr (9, mO g 2 (nI sh) fModels (nI ki) 0 (lN (eL ((spN sh tt (lev (N jj)) 1 (Rg, L, ca, Pn, bs) C).1))) (lN (eR ((spN sh tt (lev (N jj)) 1 (Rg, L, ca, Pn, bs) C).1))) (caI (eC ((spN sh tt (lev (N jj)) 1 (Rg, L, ca, Pn, bs) C).1))) (nI (eP ((spN sh tt (lev (N jj)) 1 (Rg, L, ca, Pn, bs) C).1))) (nI (eB ((spN sh tt (lev (N jj)) 1 (Rg, L, ca, Pn, bs) C).1)).length) fOuts fIns fReads fBad fIR fAsk fBAsk fCode fRL fRR fX fWrites 0)), ((g 0), Sum.inl (cI, 8, Sum.inl vMany)), ((g 2), Sum.inl (cI, 512, Sum.inl f2_64)), ((g 6), Sum.inl (cI, 9000, Sum.inl v2_64))] H := ⟨hP, hD⟩
          have hP := hPD.1
          have hD := hPD.2
          refine lv_aload_n hx hb d_M_put_67 rfl (lv_at hl 0 rfl) ?_
          refine lv_iload_n hx hb d_M_put_68 rfl (lv_at hl 1 rfl) ?_
          refine lv_iload_n hx hb d_M_put_69 rfl (lv_at hl 2 rfl) ?_
          refine my_ci (wr := [((g 1), Sum.inl (cI, 512, Sum.inl vCounts)), ((g 0), Sum.inl (cI, 8, Sum.inl vMany)), ((g 2), Sum.inl (cI, 512, Sum.inl f2_64)), ((g 6), Sum.inl (cI, 9000, Sum.inl v2_64))]) (va_runV (As := [Value.int (nI jj), Value.int (nI tt)]) (rest := []) ⟨hx, hb, hml, hown, hts⟩ (c_M_addItem l dC dI cI cM cO H.size o g 2 (nI sh) fModels 0 (lN (eL ((spN sh tt (lev (N jj)) 1 (Rg, L, ca, Pn, bs) C).1))) (lN (eR ((spN sh tt (lev (N jj)) 1 (Rg, L, ca, Pn, bs) C).1))) (caI (eC ((spN sh tt (lev (N jj)) 1 (Rg, L, ca, Pn, bs) C).1))) (nI (eP ((spN sh tt (lev (N jj)) 1 (Rg, L, ca, Pn, bs) C).1))) (nI (eB ((spN sh tt (lev (N jj)) 1 (Rg, L, ca, Pn, bs) C).1)).length) fOuts fIns fReads fBad fIR fAsk fBAsk fCode fRL fRR fX fWrites 0 vIM vIW ki (nI jj) (nI tt) (hki)) (cwV 2 hts (my_gV k1135 k1137 ks38 k12 k1138) rfl rfl rfl cu_M_addItem_2 ⟨by rw [hR]; exact Nat.le_of_ble_eq_true rfl, by rw [hR]; exact Nat.le_of_ble_eq_true rfl⟩) (my_preV hK hN (hP.sub [3, 1, 2] rfl) (hD.sub [3, 1, 2] (by decide +kernel) rfl) 0 rfl rfl) rfl rfl hl.1 rfl (lv_room (Nat.le_of_ble_eq_true rfl)) d_M_put_70 ⟨by rw [hR]; exact Nat.le_of_ble_eq_true rfl, by rw [hR]; exact Nat.le_of_ble_eq_true rfl⟩) hP hD hS hA [3, 1, 2] [0, 4, 5, 6] rfl rfl (by decide +kernel) (by decide +kernel) (fun r_70 u9 H locs hw_70 hP hD hS => ?_)
          obtain ⟨f2_70, v2_70⟩ := u9
          have hw_70 : r_70 = nI (ki + 1) ∧ f2_70 = upd vIM ki (nI jj) ∧ v2_70 = upd vIW ki (nI tt) := hw_70
          have hPD : my_PD (dC, dI) vwCl A [((g 1), Sum.inl (cI, 512, Sum.inl vCounts)), ((g 0), Sum.inl (cI, 8, Sum.inl vMany)), ((g 2), Sum.inl (cI, 512, Sum.inl f2_64)), ((g 6), Sum.inl (cI, 9000, Sum.inl v2_64)), (o, Sum.inr (9, mO g 2 (nI sh) fModels (nI (ki + 1)) 0 (lN (eL ((spN sh tt (lev (N jj)) 1 (Rg, L, ca, Pn, bs) C).1))) (lN (eR ((spN sh tt (lev (N jj)) 1 (Rg, L, ca, Pn, bs) C).1))) (caI (eC ((spN sh tt (lev (N jj)) 1 (Rg, L, ca, Pn, bs) C).1))) (nI (eP ((spN sh tt (lev (N jj)) 1 (Rg, L, ca, Pn, bs) C).1))) (nI (eB ((spN sh tt (lev (N jj)) 1 (Rg, L, ca, Pn, bs) C).1)).length) fOuts fIns fReads fBad fIR fAsk fBAsk fCode fRL fRR fX fWrites 0)), ((g 4), Sum.inl (cI, 600, Sum.inl f2_70)), ((g 5), Sum.inl (cI, 600, Sum.inl v2_70))] H := ⟨hP, hD⟩
          have hP := hPD.1
          have hD := hPD.2
          exact my_iret (v := r_70) hx hb hr (rfl) hlocks hQ hK hS (Nat.le_refl _) (Nat.le_refl _) (f2_64, f2_70, v2_70, v2_64) (⟨hw_70.1, hw_70.2.1, hw_70.2.2, hw_64.1, hw_64.2.1, hw_64.2.2⟩) (hP.sub [4, 1, 0, 2, 5, 6, 3] rfl) (hD.sub [4, 1, 0, 2, 5, 6, 3] (by decide +kernel) rfl) d_M_put_73
        · exact absurd (nI_inj (a := ki) (b := 600) (by omega) (by decide) c_4) (by omega)
      · exact absurd rfl c_3
  · exact absurd (sg_yes hMD hj ht) (one_eq hw_8 c_1)
set_option maxHeartbeats 2000000 in
set_option maxRecDepth 100000 in
theorem m_put3L (l : Launch) (dC : Nat → ClassId) (dI : Nat → Nat → Nat) (cI cM cO : ClassId) (sz : Nat) (o : Nat) (g : Nat → Nat) (fShift : Int32) (fModels : Int32) (fLow : Int64) (fRange : Int64) (fCache : Int32) (fPend : Int32) (fGoes : Int32) (fOuts : Int32) (fIns : Int32) (fReads : Int32) (fBad : Int32) (fIR : Int32) (fAsk : Int32) (fBAsk : Int32) (fCode : Int64) (fRL : Int64) (fRR : Int64) (fX : Int64) (fWrites : Int32) (fThrown : Int32) (vMany : Nat → Int32) (vCounts : Nat → Int32) (vNow : Nat → Int32) (vIM : Nat → Int32) (vIW : Nat → Int32) (km : Nat) (N : Nat → Nat) (jj : Nat) (tt : Nat) (F : Nat → Nat) (ki : Nat) (hmod : fModels = nI km) (hMD : MD km N vMany vCounts) (hj : jj < km) (ht : tt < N jj) (hF : sgI vNow (64 * jj) (N jj) F) (hFp : 0 < F tt) (hs : ns F (N jj) ≤ 8192) (hki : ki < 600) : MetI l y_M_put (Cond.code y_M_put prog_14_method_29_code 3 (some .int) :: gw) ({ frames := 3, cells := 0, slots := 0, locals := 65 } : Room) (dC, dI) vwCl (kT cI cM cO) [Value.ref o, Value.int (nI jj), Value.int (nI tt)] [(o, Sum.inr (9, mO g 3 fShift fModels (nI ki) 0 fLow fRange fCache fPend fGoes fOuts fIns fReads fBad fIR fAsk fBAsk fCode fRL fRR fX fWrites fThrown)), ((g 0), Sum.inl (cI, 8, Sum.inl vMany)), ((g 1), Sum.inl (cI, 512, Sum.inl vCounts)), ((g 2), Sum.inl (cI, 512, Sum.inl vNow)), ((g 4), Sum.inl (cI, 600, Sum.inl vIM)), ((g 5), Sum.inl (cI, 600, Sum.inl vIW))] sz (fun (r : Int32) (u : (Nat → Int32) × (Nat → Int32)) => r = nI (ki + 1) ∧ u.1 = upd vIM ki (nI jj) ∧ u.2 = upd vIW ki (nI tt)) (fun (u : (Nat → Int32) × (Nat → Int32)) => [(o, Sum.inr (9, mO g 3 fShift fModels (nI (ki + 1)) 0 fLow fRange fCache fPend fGoes fOuts fIns fReads fBad fIR fAsk fBAsk fCode fRL fRR fX fWrites 0)), ((g 0), Sum.inl (cI, 8, Sum.inl vMany)), ((g 1), Sum.inl (cI, 512, Sum.inl vCounts)), ((g 2), Sum.inl (cI, 512, Sum.inl vNow)), ((g 4), Sum.inl (cI, 600, Sum.inl u.1)), ((g 5), Sum.inl (cI, 600, Sum.inl u.2))]) 0 0 := by
  refine my_ofI (cc := prog_14_method_29_code) (n := 3) (ret := (some .int)) (by decide) rfl (Nat.le_of_ble_eq_true rfl) ?_
  intro p e s m args below meth c R Q A ls H locs hx hb hr hts hown hlocks hml hnm hR hQ hA hl hP hK hN hD hS
  have hg : ∀ w ∈ gw, w.before args s = true := fun w h => hts w (List.mem_cons_of_mem _ h)
  have hown : s.vm.findClass "RangeCodersModel" = some m.cls := hown
  have hl : lv_has ls 3 [(0, Value.ref o), (1, Value.int (nI jj)), (2, Value.int (nI tt))] := hl
  have hk8 := hMD.1
  obtain ⟨hn9, hn2, hn64, C9, hc9, hB9⟩ := hMD.2 jj hj
  refine lv_aload_n hx hb d_M_put_0 rfl (lv_at hl 0 rfl) ?_
  refine lv_iconst (v := 0) hx hb d_M_put_1 (by decide) ?_
  refine va_put (D := (dC, dI)) (ci := 9) (v := .int 0) (ty := .int) (C := "RangeCodersModel") (T := T_M) (N := 35) hx hb hg in_M t_M o_M n_M hown hK hP hD hS 0 rfl rfl 34 (by decide) (hg _ k986) (fun _ h9 => h9) rfl (o_M 34 (by decide)) rfl rfl (Nat.le_of_ble_eq_true rfl) d_M_put_2 (fun H locs hP hD hS => ?_)
  have hPD : my_PD (dC, dI) vwCl A [(o, Sum.inr (9, mO g 3 fShift fModels (nI ki) 0 fLow fRange fCache fPend fGoes fOuts fIns fReads fBad fIR fAsk fBAsk fCode fRL fRR fX fWrites 0)), ((g 0), Sum.inl (cI, 8, Sum.inl vMany)), ((g 1), Sum.inl (cI, 512, Sum.inl vCounts)), ((g 2), Sum.inl (cI, 512, Sum.inl vNow)), ((g 4), Sum.inl (cI, 600, Sum.inl vIM)), ((g 5), Sum.inl (cI, 600, Sum.inl vIW))] H := ⟨hP, hD⟩
  have hP := hPD.1
  have hD := hPD.2
  refine lv_aload_n hx hb d_M_put_5 rfl (lv_at hl 0 rfl) ?_
  refine lv_iload_n hx hb d_M_put_6 rfl (lv_at hl 1 rfl) ?_
  refine lv_iload_n hx hb d_M_put_7 rfl (lv_at hl 2 rfl) ?_
  refine my_ci (wr := [((g 1), Sum.inl (cI, 512, Sum.inl vCounts)), ((g 2), Sum.inl (cI, 512, Sum.inl vNow)), ((g 4), Sum.inl (cI, 600, Sum.inl vIM)), ((g 5), Sum.inl (cI, 600, Sum.inl vIW))]) (va_runV (As := [Value.int (nI jj), Value.int (nI tt)]) (rest := []) ⟨hx, hb, hml, hown, hts⟩ (c_M_isSign l dC dI cI cM cO H.size o g 3 fShift fModels (nI ki) 0 fLow fRange fCache fPend fGoes fOuts fIns fReads fBad fIR fAsk fBAsk fCode fRL fRR fX fWrites 0 vMany km (nI jj) (nI tt) (hMD.1) (by first | assumption | omega)) (cwV 2 hts (my_gV k1069 k1071 ks25 k12 k1072) rfl rfl rfl cu_M_isSign_2 ⟨by rw [hR]; exact Nat.le_of_ble_eq_true rfl, by rw [hR]; exact Nat.le_of_ble_eq_true rfl⟩) (my_preV hK hN (hP.sub [0, 1] rfl) (hD.sub [0, 1] (by decide +kernel) rfl) 0 rfl rfl) rfl rfl hl.1 rfl (lv_room (Nat.le_of_ble_eq_true rfl)) d_M_put_8 ⟨by rw [hR]; exact Nat.le_of_ble_eq_true rfl, by rw [hR]; exact Nat.le_of_ble_eq_true rfl⟩) hP hD hS hA [0, 1] [2, 3, 4, 5] rfl rfl (by decide +kernel) (by decide +kernel) (fun r_8 u9 H locs hw_8 hP hD hS => ?_)
  have hw_8 : r_8 = if isN km (nI jj) ∧ (0 ≤ (nI tt) ∧ (nI tt) ≤ vMany (nI jj).toNatClampNeg - 1) then 1 else 0 := hw_8
  have hPD : my_PD (dC, dI) vwCl A [((g 1), Sum.inl (cI, 512, Sum.inl vCounts)), ((g 2), Sum.inl (cI, 512, Sum.inl vNow)), ((g 4), Sum.inl (cI, 600, Sum.inl vIM)), ((g 5), Sum.inl (cI, 600, Sum.inl vIW)), (o, Sum.inr (9, mO g 3 fShift fModels (nI ki) 0 fLow fRange fCache fPend fGoes fOuts fIns fReads fBad fIR fAsk fBAsk fCode fRL fRR fX fWrites 0)), ((g 0), Sum.inl (cI, 8, Sum.inl vMany))] H := ⟨hP, hD⟩
  have hP := hPD.1
  have hD := hPD.2
  refine lv_if_ne (tgt := 16) hx hb d_M_put_11 (by decide) (fun c_1 => ?_) (fun c_1 => ?_)
  · refine lv_aload_n hx hb d_M_put_16 rfl (lv_at hl 0 rfl) ?_
    refine va_get (D := (dC, dI)) (ci := 9) (v := .int 0) (C := "RangeCodersModel") (T := T_M) (N := 35) hx hb hg in_M hown hK hP 4 rfl rfl 10 (by decide) (hg _ k962) (fun _ h9 => h9) rfl d_M_put_17 ?_
    refine lv_if_ne (tgt := 45) hx hb d_M_put_20 (by decide) (fun c_2 => ?_) (fun c_2 => ?_)
    · exact absurd rfl c_2
    · refine lv_aload_n hx hb d_M_put_23 rfl (lv_at hl 0 rfl) ?_
      refine va_get (D := (dC, dI)) (ci := 9) (v := .int 3) (C := "RangeCodersModel") (T := T_M) (N := 35) hx hb hg in_M hown hK hP 4 rfl rfl 0 (by decide) (hg _ k952) (fun _ h9 => h9) rfl d_M_put_24 ?_
      refine lv_iconst (v := 2) hx hb d_M_put_27 (by decide) ?_
      refine lv_icmp_eq (tgt := 48) hx hb d_M_put_28 (by decide) (fun c_3 => ?_) (fun c_3 => ?_)
      · exact absurd c_3 (by decide)
      · refine lv_aload_n hx hb d_M_put_31 rfl (lv_at hl 0 rfl) ?_
        refine va_get (D := (dC, dI)) (ci := 9) (v := .ref (g 2)) (C := "RangeCodersModel") (T := T_M) (N := 35) hx hb hg in_M hown hK hP 4 rfl rfl 5 (by decide) (hg _ k957) (fun _ h9 => h9) rfl d_M_put_32 ?_
        refine lv_bipush (v := 64) hx hb d_M_put_35 (by decide) ?_
        refine lv_iload_n hx hb d_M_put_37 rfl (lv_at hl 1 rfl) ?_
        refine lv_imul hx hb d_M_put_38 ?_
        refine lv_topi (fun v_4 ev_4 => ?_)
        refine lv_iload_n hx hb d_M_put_39 rfl (lv_at hl 2 rfl) ?_
        refine lv_iadd hx hb d_M_put_40 ?_
        refine lv_topi (fun v_5 ev_5 => ?_)
        have hix : v_5 = nI (64 * jj + tt) := by rw [ev_5, ev_4]; exact ix64
        refine va_iald hx hb hK hP 1 0 rfl rfl (by rw [hix]; exact vp_in_nI (by omega) (by decide)) d_M_put_41 ?_
        refine lv_topi (fun v_6 ev_6 => ?_)
        have z9 : v_6 = nI (F tt) := by rw [ev_6, hix, nI_clamp (by omega)]; exact hF tt ht
        subst z9
        refine lv_if_ne (tgt := 48) hx hb d_M_put_42 (by decide) (fun c_7 => ?_) (fun c_7 => ?_)
        · refine lv_aload_n hx hb d_M_put_48 rfl (lv_at hl 0 rfl) ?_
          refine va_get (D := (dC, dI)) (ci := 9) (v := .int (nI ki)) (C := "RangeCodersModel") (T := T_M) (N := 35) hx hb hg in_M hown hK hP 4 rfl rfl 7 (by decide) (hg _ k959) (fun _ h9 => h9) rfl d_M_put_49 ?_
          refine lv_sipush (v := 600) hx hb d_M_put_52 (by decide) ?_
          refine lv_icmp_ne (tgt := 61) hx hb d_M_put_55 (by decide) (fun c_8 => ?_) (fun c_8 => ?_)
          · refine lv_aload_n hx hb d_M_put_61 rfl (lv_at hl 0 rfl) ?_
            refine lv_iload_n hx hb d_M_put_62 rfl (lv_at hl 1 rfl) ?_
            refine lv_iload_n hx hb d_M_put_63 rfl (lv_at hl 2 rfl) ?_
            refine my_cv (wr := [((g 1), Sum.inl (cI, 512, Sum.inl vCounts)), ((g 2), Sum.inl (cI, 512, Sum.inl vNow)), ((g 4), Sum.inl (cI, 600, Sum.inl vIM)), ((g 5), Sum.inl (cI, 600, Sum.inl vIW)), ((g 0), Sum.inl (cI, 8, Sum.inl vMany))]) (va_runV (As := [Value.int (nI jj), Value.int (nI tt)]) (rest := []) ⟨hx, hb, hml, hown, hts⟩ (c_M_putSign3 l dC dI cI cM cO H.size o g fShift fModels (nI ki) 0 fLow fRange fCache fPend fGoes fOuts fIns fReads fBad fIR fAsk fBAsk fCode fRL fRR fX fWrites 0 (nI jj) (nI tt)) (cwV 2 hts (my_gV k1085 k1087 ks27 k12 k1088) rfl rfl rfl cu_M_putSign_2 ⟨by rw [hR]; exact Nat.le_of_ble_eq_true rfl, by rw [hR]; exact Nat.le_of_ble_eq_true rfl⟩) (my_preV hK hN (hP.sub [4] rfl) (hD.sub [4] (by decide +kernel) rfl) 0 rfl rfl) rfl rfl hl.1 rfl (lv_room (Nat.le_of_ble_eq_true rfl)) d_M_put_64 ⟨by rw [hR]; exact Nat.le_of_ble_eq_true rfl, by rw [hR]; exact Nat.le_of_ble_eq_true rfl⟩) hP hD hS hA [4] [0, 1, 2, 3, 5] rfl rfl (by decide +kernel) (by decide +kernel) (fun u9 H locs hw_64 hP hD hS => ?_)
            have hw_64 : True := hw_64
            have hPD : my_PD (dC, dI) vwCl A [((g 1), Sum.inl (cI, 512, Sum.inl vCounts)), ((g 2), Sum.inl (cI, 512, Sum.inl vNow)), ((g 4), Sum.inl (cI, 600, Sum.inl vIM)), ((g 5), Sum.inl (cI, 600, Sum.inl vIW)), ((g 0), Sum.inl (cI, 8, Sum.inl vMany)), (o, Sum.inr (9, mO g 3 fShift fModels (nI ki) 0 fLow fRange fCache fPend fGoes fOuts fIns fReads fBad fIR fAsk fBAsk fCode fRL fRR fX fWrites 0))] H := ⟨hP, hD⟩
            have hP := hPD.1
            have hD := hPD.2
            refine lv_aload_n hx hb d_M_put_67 rfl (lv_at hl 0 rfl) ?_
            refine lv_iload_n hx hb d_M_put_68 rfl (lv_at hl 1 rfl) ?_
            refine lv_iload_n hx hb d_M_put_69 rfl (lv_at hl 2 rfl) ?_
            refine my_ci (wr := [((g 1), Sum.inl (cI, 512, Sum.inl vCounts)), ((g 2), Sum.inl (cI, 512, Sum.inl vNow)), ((g 0), Sum.inl (cI, 8, Sum.inl vMany))]) (va_runV (As := [Value.int (nI jj), Value.int (nI tt)]) (rest := []) ⟨hx, hb, hml, hown, hts⟩ (c_M_addItem l dC dI cI cM cO H.size o g 3 fShift fModels 0 fLow fRange fCache fPend fGoes fOuts fIns fReads fBad fIR fAsk fBAsk fCode fRL fRR fX fWrites 0 vIM vIW ki (nI jj) (nI tt) (hki)) (cwV 2 hts (my_gV k1135 k1137 ks38 k12 k1138) rfl rfl rfl cu_M_addItem_2 ⟨by rw [hR]; exact Nat.le_of_ble_eq_true rfl, by rw [hR]; exact Nat.le_of_ble_eq_true rfl⟩) (my_preV hK hN (hP.sub [5, 2, 3] rfl) (hD.sub [5, 2, 3] (by decide +kernel) rfl) 0 rfl rfl) rfl rfl hl.1 rfl (lv_room (Nat.le_of_ble_eq_true rfl)) d_M_put_70 ⟨by rw [hR]; exact Nat.le_of_ble_eq_true rfl, by rw [hR]; exact Nat.le_of_ble_eq_true rfl⟩) hP hD hS hA [5, 2, 3] [0, 1, 4] rfl rfl (by decide +kernel) (by decide +kernel) (fun r_70 u9 H locs hw_70 hP hD hS => ?_)
            obtain ⟨f2_70, v2_70⟩ := u9
            have hw_70 : r_70 = nI (ki + 1) ∧ f2_70 = upd vIM ki (nI jj) ∧ v2_70 = upd vIW ki (nI tt) := hw_70
            have hPD : my_PD (dC, dI) vwCl A [((g 1), Sum.inl (cI, 512, Sum.inl vCounts)), ((g 2), Sum.inl (cI, 512, Sum.inl vNow)), ((g 0), Sum.inl (cI, 8, Sum.inl vMany)), (o, Sum.inr (9, mO g 3 fShift fModels (nI (ki + 1)) 0 fLow fRange fCache fPend fGoes fOuts fIns fReads fBad fIR fAsk fBAsk fCode fRL fRR fX fWrites 0)), ((g 4), Sum.inl (cI, 600, Sum.inl f2_70)), ((g 5), Sum.inl (cI, 600, Sum.inl v2_70))] H := ⟨hP, hD⟩
            have hP := hPD.1
            have hD := hPD.2
            exact my_iret (v := r_70) hx hb hr (rfl) hlocks hQ hK hS (Nat.le_refl _) (Nat.le_refl _) (f2_70, v2_70) (⟨hw_70.1, hw_70.2.1, hw_70.2.2⟩) (hP.sub [3, 2, 0, 1, 4, 5] rfl) (hD.sub [3, 2, 0, 1, 4, 5] (by decide +kernel) rfl) d_M_put_73
          · exact absurd (nI_inj (a := ki) (b := 600) (by omega) (by decide) c_8) (by omega)
        · exact absurd c_7 (nI_ne0 hFp (by have := ns_ge (F := F) ht; omega))
  · exact absurd (sg_yes hMD hj ht) (one_eq hw_8 c_1)
set_option maxHeartbeats 2000000 in
set_option maxRecDepth 100000 in
theorem m_put4L (l : Launch) (dC : Nat → ClassId) (dI : Nat → Nat → Nat) (cI cM cO : ClassId) (sz : Nat) (o : Nat) (g : Nat → Nat) (fShift : Int32) (fModels : Int32) (fLow : Int64) (fRange : Int64) (fCache : Int32) (fPend : Int32) (fGoes : Int32) (fOuts : Int32) (fIns : Int32) (fReads : Int32) (fBad : Int32) (fIR : Int32) (fAsk : Int32) (fBAsk : Int32) (fCode : Int64) (fRL : Int64) (fRR : Int64) (fX : Int64) (fWrites : Int32) (fThrown : Int32) (vMany : Nat → Int32) (vCounts : Nat → Int32) (vNow : Nat → Int32) (vIM : Nat → Int32) (vIW : Nat → Int32) (km : Nat) (N : Nat → Nat) (jj : Nat) (tt : Nat) (F : Nat → Nat) (ki : Nat) (hmod : fModels = nI km) (hMD : MD km N vMany vCounts) (hj : jj < km) (ht : tt < N jj) (hF : sgI vNow (64 * jj) (N jj) F) (hFp : 0 < F tt) (hs : ns F (N jj) ≤ 8192) (hki : ki < 600) : MetI l y_M_put (Cond.code y_M_put prog_14_method_29_code 3 (some .int) :: gw) ({ frames := 3, cells := 0, slots := 0, locals := 65 } : Room) (dC, dI) vwCl (kT cI cM cO) [Value.ref o, Value.int (nI jj), Value.int (nI tt)] [(o, Sum.inr (9, mO g 4 fShift fModels (nI ki) 0 fLow fRange fCache fPend fGoes fOuts fIns fReads fBad fIR fAsk fBAsk fCode fRL fRR fX fWrites fThrown)), ((g 0), Sum.inl (cI, 8, Sum.inl vMany)), ((g 1), Sum.inl (cI, 512, Sum.inl vCounts)), ((g 2), Sum.inl (cI, 512, Sum.inl vNow)), ((g 4), Sum.inl (cI, 600, Sum.inl vIM)), ((g 5), Sum.inl (cI, 600, Sum.inl vIW))] sz (fun (r : Int32) (u : (Nat → Int32) × (Nat → Int32)) => r = nI (ki + 1) ∧ u.1 = upd vIM ki (nI jj) ∧ u.2 = upd vIW ki (nI tt)) (fun (u : (Nat → Int32) × (Nat → Int32)) => [(o, Sum.inr (9, mO g 4 fShift fModels (nI (ki + 1)) 0 fLow fRange fCache fPend fGoes fOuts fIns fReads fBad fIR fAsk fBAsk fCode fRL fRR fX fWrites 0)), ((g 0), Sum.inl (cI, 8, Sum.inl vMany)), ((g 1), Sum.inl (cI, 512, Sum.inl vCounts)), ((g 2), Sum.inl (cI, 512, Sum.inl vNow)), ((g 4), Sum.inl (cI, 600, Sum.inl u.1)), ((g 5), Sum.inl (cI, 600, Sum.inl u.2))]) 0 0 := by
  refine my_ofI (cc := prog_14_method_29_code) (n := 3) (ret := (some .int)) (by decide) rfl (Nat.le_of_ble_eq_true rfl) ?_
  intro p e s m args below meth c R Q A ls H locs hx hb hr hts hown hlocks hml hnm hR hQ hA hl hP hK hN hD hS
  have hg : ∀ w ∈ gw, w.before args s = true := fun w h => hts w (List.mem_cons_of_mem _ h)
  have hown : s.vm.findClass "RangeCodersModel" = some m.cls := hown
  have hl : lv_has ls 3 [(0, Value.ref o), (1, Value.int (nI jj)), (2, Value.int (nI tt))] := hl
  have hk8 := hMD.1
  obtain ⟨hn9, hn2, hn64, C9, hc9, hB9⟩ := hMD.2 jj hj
  refine lv_aload_n hx hb d_M_put_0 rfl (lv_at hl 0 rfl) ?_
  refine lv_iconst (v := 0) hx hb d_M_put_1 (by decide) ?_
  refine va_put (D := (dC, dI)) (ci := 9) (v := .int 0) (ty := .int) (C := "RangeCodersModel") (T := T_M) (N := 35) hx hb hg in_M t_M o_M n_M hown hK hP hD hS 0 rfl rfl 34 (by decide) (hg _ k986) (fun _ h9 => h9) rfl (o_M 34 (by decide)) rfl rfl (Nat.le_of_ble_eq_true rfl) d_M_put_2 (fun H locs hP hD hS => ?_)
  have hPD : my_PD (dC, dI) vwCl A [(o, Sum.inr (9, mO g 4 fShift fModels (nI ki) 0 fLow fRange fCache fPend fGoes fOuts fIns fReads fBad fIR fAsk fBAsk fCode fRL fRR fX fWrites 0)), ((g 0), Sum.inl (cI, 8, Sum.inl vMany)), ((g 1), Sum.inl (cI, 512, Sum.inl vCounts)), ((g 2), Sum.inl (cI, 512, Sum.inl vNow)), ((g 4), Sum.inl (cI, 600, Sum.inl vIM)), ((g 5), Sum.inl (cI, 600, Sum.inl vIW))] H := ⟨hP, hD⟩
  have hP := hPD.1
  have hD := hPD.2
  refine lv_aload_n hx hb d_M_put_5 rfl (lv_at hl 0 rfl) ?_
  refine lv_iload_n hx hb d_M_put_6 rfl (lv_at hl 1 rfl) ?_
  refine lv_iload_n hx hb d_M_put_7 rfl (lv_at hl 2 rfl) ?_
  refine my_ci (wr := [((g 1), Sum.inl (cI, 512, Sum.inl vCounts)), ((g 2), Sum.inl (cI, 512, Sum.inl vNow)), ((g 4), Sum.inl (cI, 600, Sum.inl vIM)), ((g 5), Sum.inl (cI, 600, Sum.inl vIW))]) (va_runV (As := [Value.int (nI jj), Value.int (nI tt)]) (rest := []) ⟨hx, hb, hml, hown, hts⟩ (c_M_isSign l dC dI cI cM cO H.size o g 4 fShift fModels (nI ki) 0 fLow fRange fCache fPend fGoes fOuts fIns fReads fBad fIR fAsk fBAsk fCode fRL fRR fX fWrites 0 vMany km (nI jj) (nI tt) (hMD.1) (by first | assumption | omega)) (cwV 2 hts (my_gV k1069 k1071 ks25 k12 k1072) rfl rfl rfl cu_M_isSign_2 ⟨by rw [hR]; exact Nat.le_of_ble_eq_true rfl, by rw [hR]; exact Nat.le_of_ble_eq_true rfl⟩) (my_preV hK hN (hP.sub [0, 1] rfl) (hD.sub [0, 1] (by decide +kernel) rfl) 0 rfl rfl) rfl rfl hl.1 rfl (lv_room (Nat.le_of_ble_eq_true rfl)) d_M_put_8 ⟨by rw [hR]; exact Nat.le_of_ble_eq_true rfl, by rw [hR]; exact Nat.le_of_ble_eq_true rfl⟩) hP hD hS hA [0, 1] [2, 3, 4, 5] rfl rfl (by decide +kernel) (by decide +kernel) (fun r_8 u9 H locs hw_8 hP hD hS => ?_)
  have hw_8 : r_8 = if isN km (nI jj) ∧ (0 ≤ (nI tt) ∧ (nI tt) ≤ vMany (nI jj).toNatClampNeg - 1) then 1 else 0 := hw_8
  have hPD : my_PD (dC, dI) vwCl A [((g 1), Sum.inl (cI, 512, Sum.inl vCounts)), ((g 2), Sum.inl (cI, 512, Sum.inl vNow)), ((g 4), Sum.inl (cI, 600, Sum.inl vIM)), ((g 5), Sum.inl (cI, 600, Sum.inl vIW)), (o, Sum.inr (9, mO g 4 fShift fModels (nI ki) 0 fLow fRange fCache fPend fGoes fOuts fIns fReads fBad fIR fAsk fBAsk fCode fRL fRR fX fWrites 0)), ((g 0), Sum.inl (cI, 8, Sum.inl vMany))] H := ⟨hP, hD⟩
  have hP := hPD.1
  have hD := hPD.2
  refine lv_if_ne (tgt := 16) hx hb d_M_put_11 (by decide) (fun c_1 => ?_) (fun c_1 => ?_)
  · refine lv_aload_n hx hb d_M_put_16 rfl (lv_at hl 0 rfl) ?_
    refine va_get (D := (dC, dI)) (ci := 9) (v := .int 0) (C := "RangeCodersModel") (T := T_M) (N := 35) hx hb hg in_M hown hK hP 4 rfl rfl 10 (by decide) (hg _ k962) (fun _ h9 => h9) rfl d_M_put_17 ?_
    refine lv_if_ne (tgt := 45) hx hb d_M_put_20 (by decide) (fun c_2 => ?_) (fun c_2 => ?_)
    · exact absurd rfl c_2
    · refine lv_aload_n hx hb d_M_put_23 rfl (lv_at hl 0 rfl) ?_
      refine va_get (D := (dC, dI)) (ci := 9) (v := .int 4) (C := "RangeCodersModel") (T := T_M) (N := 35) hx hb hg in_M hown hK hP 4 rfl rfl 0 (by decide) (hg _ k952) (fun _ h9 => h9) rfl d_M_put_24 ?_
      refine lv_iconst (v := 2) hx hb d_M_put_27 (by decide) ?_
      refine lv_icmp_eq (tgt := 48) hx hb d_M_put_28 (by decide) (fun c_3 => ?_) (fun c_3 => ?_)
      · exact absurd c_3 (by decide)
      · refine lv_aload_n hx hb d_M_put_31 rfl (lv_at hl 0 rfl) ?_
        refine va_get (D := (dC, dI)) (ci := 9) (v := .ref (g 2)) (C := "RangeCodersModel") (T := T_M) (N := 35) hx hb hg in_M hown hK hP 4 rfl rfl 5 (by decide) (hg _ k957) (fun _ h9 => h9) rfl d_M_put_32 ?_
        refine lv_bipush (v := 64) hx hb d_M_put_35 (by decide) ?_
        refine lv_iload_n hx hb d_M_put_37 rfl (lv_at hl 1 rfl) ?_
        refine lv_imul hx hb d_M_put_38 ?_
        refine lv_topi (fun v_4 ev_4 => ?_)
        refine lv_iload_n hx hb d_M_put_39 rfl (lv_at hl 2 rfl) ?_
        refine lv_iadd hx hb d_M_put_40 ?_
        refine lv_topi (fun v_5 ev_5 => ?_)
        have hix : v_5 = nI (64 * jj + tt) := by rw [ev_5, ev_4]; exact ix64
        refine va_iald hx hb hK hP 1 0 rfl rfl (by rw [hix]; exact vp_in_nI (by omega) (by decide)) d_M_put_41 ?_
        refine lv_topi (fun v_6 ev_6 => ?_)
        have z9 : v_6 = nI (F tt) := by rw [ev_6, hix, nI_clamp (by omega)]; exact hF tt ht
        subst z9
        refine lv_if_ne (tgt := 48) hx hb d_M_put_42 (by decide) (fun c_7 => ?_) (fun c_7 => ?_)
        · refine lv_aload_n hx hb d_M_put_48 rfl (lv_at hl 0 rfl) ?_
          refine va_get (D := (dC, dI)) (ci := 9) (v := .int (nI ki)) (C := "RangeCodersModel") (T := T_M) (N := 35) hx hb hg in_M hown hK hP 4 rfl rfl 7 (by decide) (hg _ k959) (fun _ h9 => h9) rfl d_M_put_49 ?_
          refine lv_sipush (v := 600) hx hb d_M_put_52 (by decide) ?_
          refine lv_icmp_ne (tgt := 61) hx hb d_M_put_55 (by decide) (fun c_8 => ?_) (fun c_8 => ?_)
          · refine lv_aload_n hx hb d_M_put_61 rfl (lv_at hl 0 rfl) ?_
            refine lv_iload_n hx hb d_M_put_62 rfl (lv_at hl 1 rfl) ?_
            refine lv_iload_n hx hb d_M_put_63 rfl (lv_at hl 2 rfl) ?_
            refine my_cv (wr := [((g 1), Sum.inl (cI, 512, Sum.inl vCounts)), ((g 2), Sum.inl (cI, 512, Sum.inl vNow)), ((g 4), Sum.inl (cI, 600, Sum.inl vIM)), ((g 5), Sum.inl (cI, 600, Sum.inl vIW)), ((g 0), Sum.inl (cI, 8, Sum.inl vMany))]) (va_runV (As := [Value.int (nI jj), Value.int (nI tt)]) (rest := []) ⟨hx, hb, hml, hown, hts⟩ (c_M_putSign4 l dC dI cI cM cO H.size o g fShift fModels (nI ki) 0 fLow fRange fCache fPend fGoes fOuts fIns fReads fBad fIR fAsk fBAsk fCode fRL fRR fX fWrites 0 (nI jj) (nI tt)) (cwV 2 hts (my_gV k1085 k1087 ks27 k12 k1088) rfl rfl rfl cu_M_putSign_2 ⟨by rw [hR]; exact Nat.le_of_ble_eq_true rfl, by rw [hR]; exact Nat.le_of_ble_eq_true rfl⟩) (my_preV hK hN (hP.sub [4] rfl) (hD.sub [4] (by decide +kernel) rfl) 0 rfl rfl) rfl rfl hl.1 rfl (lv_room (Nat.le_of_ble_eq_true rfl)) d_M_put_64 ⟨by rw [hR]; exact Nat.le_of_ble_eq_true rfl, by rw [hR]; exact Nat.le_of_ble_eq_true rfl⟩) hP hD hS hA [4] [0, 1, 2, 3, 5] rfl rfl (by decide +kernel) (by decide +kernel) (fun u9 H locs hw_64 hP hD hS => ?_)
            have hw_64 : True := hw_64
            have hPD : my_PD (dC, dI) vwCl A [((g 1), Sum.inl (cI, 512, Sum.inl vCounts)), ((g 2), Sum.inl (cI, 512, Sum.inl vNow)), ((g 4), Sum.inl (cI, 600, Sum.inl vIM)), ((g 5), Sum.inl (cI, 600, Sum.inl vIW)), ((g 0), Sum.inl (cI, 8, Sum.inl vMany)), (o, Sum.inr (9, mO g 4 fShift fModels (nI ki) 0 fLow fRange fCache fPend fGoes fOuts fIns fReads fBad fIR fAsk fBAsk fCode fRL fRR fX fWrites 0))] H := ⟨hP, hD⟩
            have hP := hPD.1
            have hD := hPD.2
            refine lv_aload_n hx hb d_M_put_67 rfl (lv_at hl 0 rfl) ?_
            refine lv_iload_n hx hb d_M_put_68 rfl (lv_at hl 1 rfl) ?_
            refine lv_iload_n hx hb d_M_put_69 rfl (lv_at hl 2 rfl) ?_
            refine my_ci (wr := [((g 1), Sum.inl (cI, 512, Sum.inl vCounts)), ((g 2), Sum.inl (cI, 512, Sum.inl vNow)), ((g 0), Sum.inl (cI, 8, Sum.inl vMany))]) (va_runV (As := [Value.int (nI jj), Value.int (nI tt)]) (rest := []) ⟨hx, hb, hml, hown, hts⟩ (c_M_addItem l dC dI cI cM cO H.size o g 4 fShift fModels 0 fLow fRange fCache fPend fGoes fOuts fIns fReads fBad fIR fAsk fBAsk fCode fRL fRR fX fWrites 0 vIM vIW ki (nI jj) (nI tt) (hki)) (cwV 2 hts (my_gV k1135 k1137 ks38 k12 k1138) rfl rfl rfl cu_M_addItem_2 ⟨by rw [hR]; exact Nat.le_of_ble_eq_true rfl, by rw [hR]; exact Nat.le_of_ble_eq_true rfl⟩) (my_preV hK hN (hP.sub [5, 2, 3] rfl) (hD.sub [5, 2, 3] (by decide +kernel) rfl) 0 rfl rfl) rfl rfl hl.1 rfl (lv_room (Nat.le_of_ble_eq_true rfl)) d_M_put_70 ⟨by rw [hR]; exact Nat.le_of_ble_eq_true rfl, by rw [hR]; exact Nat.le_of_ble_eq_true rfl⟩) hP hD hS hA [5, 2, 3] [0, 1, 4] rfl rfl (by decide +kernel) (by decide +kernel) (fun r_70 u9 H locs hw_70 hP hD hS => ?_)
            obtain ⟨f2_70, v2_70⟩ := u9
            have hw_70 : r_70 = nI (ki + 1) ∧ f2_70 = upd vIM ki (nI jj) ∧ v2_70 = upd vIW ki (nI tt) := hw_70
            have hPD : my_PD (dC, dI) vwCl A [((g 1), Sum.inl (cI, 512, Sum.inl vCounts)), ((g 2), Sum.inl (cI, 512, Sum.inl vNow)), ((g 0), Sum.inl (cI, 8, Sum.inl vMany)), (o, Sum.inr (9, mO g 4 fShift fModels (nI (ki + 1)) 0 fLow fRange fCache fPend fGoes fOuts fIns fReads fBad fIR fAsk fBAsk fCode fRL fRR fX fWrites 0)), ((g 4), Sum.inl (cI, 600, Sum.inl f2_70)), ((g 5), Sum.inl (cI, 600, Sum.inl v2_70))] H := ⟨hP, hD⟩
            have hP := hPD.1
            have hD := hPD.2
            exact my_iret (v := r_70) hx hb hr (rfl) hlocks hQ hK hS (Nat.le_refl _) (Nat.le_refl _) (f2_70, v2_70) (⟨hw_70.1, hw_70.2.1, hw_70.2.2⟩) (hP.sub [3, 2, 0, 1, 4, 5] rfl) (hD.sub [3, 2, 0, 1, 4, 5] (by decide +kernel) rfl) d_M_put_73
          · exact absurd (nI_inj (a := ki) (b := 600) (by omega) (by decide) c_8) (by omega)
        · exact absurd c_7 (nI_ne0 hFp (by have := ns_ge (F := F) ht; omega))
  · exact absurd (sg_yes hMD hj ht) (one_eq hw_8 c_1)
end
section
set_option maxHeartbeats 2000000 in
set_option maxRecDepth 100000 in
theorem m_bits0W (l : Launch) (dC : Nat → ClassId) (dI : Nat → Nat → Nat) (cI cM cO : ClassId) (sz : Nat) (o : Nat) (g : Nat → Nat) (fShift : Int32) (fModels : Int32) (fItems : Int32) (fEnded : Int32) (fLow : Int64) (fRange : Int64) (fCache : Int32) (fPend : Int32) (fGoes : Int32) (fOuts : Int32) (fIns : Int32) (fReads : Int32) (fBad : Int32) (fIR : Int32) (fAsk : Int32) (fBAsk : Int32) (fCode : Int64) (fRL : Int64) (fRR : Int64) (fX : Int64) (fWrites : Int32) (fThrown : Int32) (p1 : Int32) (p2 : Int32) (hno : ¬ okB 12 p1 p2) : MetI l y_M_bits (Cond.code y_M_bits prog_14_method_30_code 3 (some .int) :: gw) ({ frames := 1, cells := 0, slots := 0, locals := 22 } : Room) (dC, dI) vwCl (kT cI cM cO) [Value.ref o, Value.int p1, Value.int p2] [(o, Sum.inr (9, mO g 0 fShift fModels fItems fEnded fLow fRange fCache fPend fGoes fOuts fIns fReads fBad fIR fAsk fBAsk fCode fRL fRR fX fWrites fThrown))] sz (fun (r : Int32) (u : Unit) => r = -2) (fun (u : Unit) => [(o, Sum.inr (9, mO g 0 fShift fModels fItems fEnded fLow fRange fCache fPend fGoes fOuts fIns fReads fBad fIR fAsk fBAsk fCode fRL fRR fX fWrites 0))]) 0 0 := by
  refine my_ofI (cc := prog_14_method_30_code) (n := 3) (ret := (some .int)) (by decide) rfl (Nat.le_of_ble_eq_true rfl) ?_
  intro p e s m args below meth c R Q A ls H locs hx hb hr hts hown hlocks hml hnm hR hQ hA hl hP hK hN hD hS
  have hg : ∀ w ∈ gw, w.before args s = true := fun w h => hts w (List.mem_cons_of_mem _ h)
  have hown : s.vm.findClass "RangeCodersModel" = some m.cls := hown
  have hl : lv_has ls 3 [(0, Value.ref o), (1, Value.int p1), (2, Value.int p2)] := hl
  refine lv_aload_n hx hb d_M_bits_0 rfl (lv_at hl 0 rfl) ?_
  refine lv_iconst (v := 0) hx hb d_M_bits_1 (by decide) ?_
  refine va_put (D := (dC, dI)) (ci := 9) (v := .int 0) (ty := .int) (C := "RangeCodersModel") (T := T_M) (N := 35) hx hb hg in_M t_M o_M n_M hown hK hP hD hS 0 rfl rfl 34 (by decide) (hg _ k986) (fun _ h9 => h9) rfl (o_M 34 (by decide)) rfl rfl (Nat.le_of_ble_eq_true rfl) d_M_bits_2 (fun H locs hP hD hS => ?_)
  have hPD : my_PD (dC, dI) vwCl A [(o, Sum.inr (9, mO g 0 fShift fModels fItems fEnded fLow fRange fCache fPend fGoes fOuts fIns fReads fBad fIR fAsk fBAsk fCode fRL fRR fX fWrites 0))] H := ⟨hP, hD⟩
  have hP := hPD.1
  have hD := hPD.2
  refine lv_iload_n hx hb d_M_bits_5 rfl (lv_at hl 2 rfl) ?_
  refine lv_iconst (v := 1) hx hb d_M_bits_6 (by decide) ?_
  refine lv_aload_n hx hb d_M_bits_7 rfl (lv_at hl 0 rfl) ?_
  refine va_get (D := (dC, dI)) (ci := 9) (v := .int 0) (C := "RangeCodersModel") (T := T_M) (N := 35) hx hb hg in_M hown hK hP 0 rfl rfl 0 (by decide) (hg _ k952) (fun _ h9 => h9) rfl d_M_bits_8 ?_
  refine lv_iconst (v := 4) hx hb d_M_bits_11 (by decide) ?_
  refine lv_icmp_ne (tgt := 20) hx hb d_M_bits_12 (by decide) (fun c_1 => ?_) (fun c_1 => ?_)
  · refine lv_bipush (v := 12) hx hb d_M_bits_20 (by decide) ?_
    refine my_ci (wr := [(o, Sum.inr (9, mO g 0 fShift fModels fItems fEnded fLow fRange fCache fPend fGoes fOuts fIns fReads fBad fIR fAsk fBAsk fCode fRL fRR fX fWrites 0))]) (va_runS (As := [Value.int p2, Value.int 1, Value.int 12]) (rest := []) ⟨hx, hb, hml, hown, hts⟩ (c_M_in l dC dI cI cM cO H.size p2 1 12) (cwS 3 hts (my_gS k1062 k1063 k12 k1064) rfl rfl rfl (by decide +kernel) ⟨by rw [hR]; exact Nat.le_of_ble_eq_true rfl, by rw [hR]; exact Nat.le_of_ble_eq_true rfl⟩) (my_pre hK hN (hP.sub [] rfl) (hD.sub [] (by decide +kernel) rfl)) rfl rfl hl.1 rfl (lv_room (Nat.le_of_ble_eq_true rfl)) d_M_bits_22 ⟨by rw [hR]; exact Nat.le_of_ble_eq_true rfl, by rw [hR]; exact Nat.le_of_ble_eq_true rfl⟩) hP hD hS hA [] [0] rfl rfl (by decide +kernel) (by decide +kernel) (fun r_22 u9 H locs hw_22 hP hD hS => ?_)
    have hw_22 : r_22 = if 1 ≤ p2 ∧ p2 ≤ 12 then 1 else 0 := hw_22
    have hPD : my_PD (dC, dI) vwCl A [(o, Sum.inr (9, mO g 0 fShift fModels fItems fEnded fLow fRange fCache fPend fGoes fOuts fIns fReads fBad fIR fAsk fBAsk fCode fRL fRR fX fWrites 0))] H := ⟨hP, hD⟩
    have hP := hPD.1
    have hD := hPD.2
    refine lv_if_eq (tgt := 41) hx hb d_M_bits_25 (by decide) (fun c_2 => ?_) (fun c_2 => ?_)
    · refine lv_bipush (v := (-2)) hx hb d_M_bits_41 (by decide) ?_
      exact my_iret (v := (-2)) hx hb hr (rfl) hlocks hQ hK hS (Nat.le_refl _) (Nat.le_refl _) () (rfl) (hP.sub [0] rfl) (hD.sub [0] (by decide +kernel) rfl) d_M_bits_43
    · refine lv_iload_n hx hb d_M_bits_28 rfl (lv_at hl 1 rfl) ?_
      refine lv_iconst (v := 0) hx hb d_M_bits_29 (by decide) ?_
      refine lv_iconst (v := 1) hx hb d_M_bits_30 (by decide) ?_
      refine lv_iload_n hx hb d_M_bits_31 rfl (lv_at hl 2 rfl) ?_
      refine lv_ishl hx hb d_M_bits_32 ?_
      refine lv_topi (fun v_3 ev_3 => ?_)
      refine lv_iconst (v := 1) hx hb d_M_bits_33 (by decide) ?_
      refine lv_isub hx hb d_M_bits_34 ?_
      refine lv_topi (fun v_4 ev_4 => ?_)
      refine my_ci (wr := [(o, Sum.inr (9, mO g 0 fShift fModels fItems fEnded fLow fRange fCache fPend fGoes fOuts fIns fReads fBad fIR fAsk fBAsk fCode fRL fRR fX fWrites 0))]) (va_runS (As := [Value.int p1, Value.int 0, Value.int v_4]) (rest := []) ⟨hx, hb, hml, hown, hts⟩ (c_M_in l dC dI cI cM cO H.size p1 0 v_4) (cwS 3 hts (my_gS k1062 k1063 k12 k1064) rfl rfl rfl (by decide +kernel) ⟨by rw [hR]; exact Nat.le_of_ble_eq_true rfl, by rw [hR]; exact Nat.le_of_ble_eq_true rfl⟩) (my_pre hK hN (hP.sub [] rfl) (hD.sub [] (by decide +kernel) rfl)) rfl rfl hl.1 rfl (lv_room (Nat.le_of_ble_eq_true rfl)) d_M_bits_35 ⟨by rw [hR]; exact Nat.le_of_ble_eq_true rfl, by rw [hR]; exact Nat.le_of_ble_eq_true rfl⟩) hP hD hS hA [] [0] rfl rfl (by decide +kernel) (by decide +kernel) (fun r_35 u9 H locs hw_35 hP hD hS => ?_)
      have hw_35 : r_35 = if 0 ≤ p1 ∧ p1 ≤ v_4 then 1 else 0 := hw_35
      have hPD : my_PD (dC, dI) vwCl A [(o, Sum.inr (9, mO g 0 fShift fModels fItems fEnded fLow fRange fCache fPend fGoes fOuts fIns fReads fBad fIR fAsk fBAsk fCode fRL fRR fX fWrites 0))] H := ⟨hP, hD⟩
      have hP := hPD.1
      have hD := hPD.2
      refine lv_if_ne (tgt := 44) hx hb d_M_bits_38 (by decide) (fun c_5 => ?_) (fun c_5 => ?_)
      · exact absurd (one_ne hw_35 c_5) (okB_no (by decide) hno (one_ne hw_22 c_2) (by subst_vars; rfl))
      · refine lv_bipush (v := (-2)) hx hb d_M_bits_41 (by decide) ?_
        exact my_iret (v := (-2)) hx hb hr (rfl) hlocks hQ hK hS (Nat.le_refl _) (Nat.le_refl _) () (rfl) (hP.sub [0] rfl) (hD.sub [0] (by decide +kernel) rfl) d_M_bits_43
  · exact absurd c_1 (by decide)
set_option maxHeartbeats 2000000 in
set_option maxRecDepth 100000 in
theorem m_bits0E (l : Launch) (dC : Nat → ClassId) (dI : Nat → Nat → Nat) (cI cM cO : ClassId) (sz : Nat) (o : Nat) (g : Nat → Nat) (fShift : Int32) (fModels : Int32) (fItems : Int32) (fEnded : Int32) (fLow : Int64) (fRange : Int64) (fCache : Int32) (fPend : Int32) (fGoes : Int32) (fOuts : Int32) (fIns : Int32) (fReads : Int32) (fBad : Int32) (fIR : Int32) (fAsk : Int32) (fBAsk : Int32) (fCode : Int64) (fRL : Int64) (fRR : Int64) (fX : Int64) (fWrites : Int32) (fThrown : Int32) (vv : Nat) (bb : Nat) (hb1 : 1 ≤ bb) (hb2 : bb ≤ 12) (hv : vv < 2 ^ bb) (hen : ¬ fEnded = 0) : MetI l y_M_bits (Cond.code y_M_bits prog_14_method_30_code 3 (some .int) :: gw) ({ frames := 1, cells := 0, slots := 0, locals := 22 } : Room) (dC, dI) vwCl (kT cI cM cO) [Value.ref o, Value.int (nI vv), Value.int (nI bb)] [(o, Sum.inr (9, mO g 0 fShift fModels fItems fEnded fLow fRange fCache fPend fGoes fOuts fIns fReads fBad fIR fAsk fBAsk fCode fRL fRR fX fWrites fThrown))] sz (fun (r : Int32) (u : Unit) => r = -3) (fun (u : Unit) => [(o, Sum.inr (9, mO g 0 fShift fModels fItems fEnded fLow fRange fCache fPend fGoes fOuts fIns fReads fBad fIR fAsk fBAsk fCode fRL fRR fX fWrites 0))]) 0 0 := by
  refine my_ofI (cc := prog_14_method_30_code) (n := 3) (ret := (some .int)) (by decide) rfl (Nat.le_of_ble_eq_true rfl) ?_
  intro p e s m args below meth c R Q A ls H locs hx hb hr hts hown hlocks hml hnm hR hQ hA hl hP hK hN hD hS
  have hg : ∀ w ∈ gw, w.before args s = true := fun w h => hts w (List.mem_cons_of_mem _ h)
  have hown : s.vm.findClass "RangeCodersModel" = some m.cls := hown
  have hl : lv_has ls 3 [(0, Value.ref o), (1, Value.int (nI vv)), (2, Value.int (nI bb))] := hl
  have hp12 : 2 ^ bb ≤ 4096 := pw12 (by omega)
  have hp0 := Nat.two_pow_pos bb
  refine lv_aload_n hx hb d_M_bits_0 rfl (lv_at hl 0 rfl) ?_
  refine lv_iconst (v := 0) hx hb d_M_bits_1 (by decide) ?_
  refine va_put (D := (dC, dI)) (ci := 9) (v := .int 0) (ty := .int) (C := "RangeCodersModel") (T := T_M) (N := 35) hx hb hg in_M t_M o_M n_M hown hK hP hD hS 0 rfl rfl 34 (by decide) (hg _ k986) (fun _ h9 => h9) rfl (o_M 34 (by decide)) rfl rfl (Nat.le_of_ble_eq_true rfl) d_M_bits_2 (fun H locs hP hD hS => ?_)
  have hPD : my_PD (dC, dI) vwCl A [(o, Sum.inr (9, mO g 0 fShift fModels fItems fEnded fLow fRange fCache fPend fGoes fOuts fIns fReads fBad fIR fAsk fBAsk fCode fRL fRR fX fWrites 0))] H := ⟨hP, hD⟩
  have hP := hPD.1
  have hD := hPD.2
  refine lv_iload_n hx hb d_M_bits_5 rfl (lv_at hl 2 rfl) ?_
  refine lv_iconst (v := 1) hx hb d_M_bits_6 (by decide) ?_
  refine lv_aload_n hx hb d_M_bits_7 rfl (lv_at hl 0 rfl) ?_
  refine va_get (D := (dC, dI)) (ci := 9) (v := .int 0) (C := "RangeCodersModel") (T := T_M) (N := 35) hx hb hg in_M hown hK hP 0 rfl rfl 0 (by decide) (hg _ k952) (fun _ h9 => h9) rfl d_M_bits_8 ?_
  refine lv_iconst (v := 4) hx hb d_M_bits_11 (by decide) ?_
  refine lv_icmp_ne (tgt := 20) hx hb d_M_bits_12 (by decide) (fun c_1 => ?_) (fun c_1 => ?_)
  · refine lv_bipush (v := 12) hx hb d_M_bits_20 (by decide) ?_
    refine my_ci (wr := [(o, Sum.inr (9, mO g 0 fShift fModels fItems fEnded fLow fRange fCache fPend fGoes fOuts fIns fReads fBad fIR fAsk fBAsk fCode fRL fRR fX fWrites 0))]) (va_runS (As := [Value.int (nI bb), Value.int 1, Value.int 12]) (rest := []) ⟨hx, hb, hml, hown, hts⟩ (c_M_in l dC dI cI cM cO H.size (nI bb) 1 12) (cwS 3 hts (my_gS k1062 k1063 k12 k1064) rfl rfl rfl (by decide +kernel) ⟨by rw [hR]; exact Nat.le_of_ble_eq_true rfl, by rw [hR]; exact Nat.le_of_ble_eq_true rfl⟩) (my_pre hK hN (hP.sub [] rfl) (hD.sub [] (by decide +kernel) rfl)) rfl rfl hl.1 rfl (lv_room (Nat.le_of_ble_eq_true rfl)) d_M_bits_22 ⟨by rw [hR]; exact Nat.le_of_ble_eq_true rfl, by rw [hR]; exact Nat.le_of_ble_eq_true rfl⟩) hP hD hS hA [] [0] rfl rfl (by decide +kernel) (by decide +kernel) (fun r_22 u9 H locs hw_22 hP hD hS => ?_)
    have hw_22 : r_22 = if 1 ≤ (nI bb) ∧ (nI bb) ≤ 12 then 1 else 0 := hw_22
    have hPD : my_PD (dC, dI) vwCl A [(o, Sum.inr (9, mO g 0 fShift fModels fItems fEnded fLow fRange fCache fPend fGoes fOuts fIns fReads fBad fIR fAsk fBAsk fCode fRL fRR fX fWrites 0))] H := ⟨hP, hD⟩
    have hP := hPD.1
    have hD := hPD.2
    refine lv_if_eq (tgt := 41) hx hb d_M_bits_25 (by decide) (fun c_2 => ?_) (fun c_2 => ?_)
    · exact absurd (show 1 ≤ nI bb ∧ nI bb ≤ nI 12 from ⟨nI_le (a := 1) hb1 (by omega), nI_le hb2 (by decide)⟩) (one_eq hw_22 c_2)
    · refine lv_iload_n hx hb d_M_bits_28 rfl (lv_at hl 1 rfl) ?_
      refine lv_iconst (v := 0) hx hb d_M_bits_29 (by decide) ?_
      refine lv_iconst (v := 1) hx hb d_M_bits_30 (by decide) ?_
      refine lv_iload_n hx hb d_M_bits_31 rfl (lv_at hl 2 rfl) ?_
      refine lv_ishl hx hb d_M_bits_32 ?_
      refine lv_topi (fun v_3 ev_3 => ?_)
      have z9 : v_3 = nI (2 ^ bb) := by rw [ev_3]; exact shl1 _ (by omega)
      subst z9
      refine lv_iconst (v := 1) hx hb d_M_bits_33 (by decide) ?_
      refine lv_isub hx hb d_M_bits_34 ?_
      refine lv_topi (fun v_4 ev_4 => ?_)
      have z9 : v_4 = nI (2 ^ bb - 1) := by rw [ev_4]; exact nI_pred9 hp0
      subst z9
      refine my_ci (wr := [(o, Sum.inr (9, mO g 0 fShift fModels fItems fEnded fLow fRange fCache fPend fGoes fOuts fIns fReads fBad fIR fAsk fBAsk fCode fRL fRR fX fWrites 0))]) (va_runS (As := [Value.int (nI vv), Value.int 0, Value.int (nI (2 ^ bb - 1))]) (rest := []) ⟨hx, hb, hml, hown, hts⟩ (c_M_in l dC dI cI cM cO H.size (nI vv) 0 (nI (2 ^ bb - 1))) (cwS 3 hts (my_gS k1062 k1063 k12 k1064) rfl rfl rfl (by decide +kernel) ⟨by rw [hR]; exact Nat.le_of_ble_eq_true rfl, by rw [hR]; exact Nat.le_of_ble_eq_true rfl⟩) (my_pre hK hN (hP.sub [] rfl) (hD.sub [] (by decide +kernel) rfl)) rfl rfl hl.1 rfl (lv_room (Nat.le_of_ble_eq_true rfl)) d_M_bits_35 ⟨by rw [hR]; exact Nat.le_of_ble_eq_true rfl, by rw [hR]; exact Nat.le_of_ble_eq_true rfl⟩) hP hD hS hA [] [0] rfl rfl (by decide +kernel) (by decide +kernel) (fun r_35 u9 H locs hw_35 hP hD hS => ?_)
      have hw_35 : r_35 = if 0 ≤ (nI vv) ∧ (nI vv) ≤ (nI (2 ^ bb - 1)) then 1 else 0 := hw_35
      have hPD : my_PD (dC, dI) vwCl A [(o, Sum.inr (9, mO g 0 fShift fModels fItems fEnded fLow fRange fCache fPend fGoes fOuts fIns fReads fBad fIR fAsk fBAsk fCode fRL fRR fX fWrites 0))] H := ⟨hP, hD⟩
      have hP := hPD.1
      have hD := hPD.2
      refine lv_if_ne (tgt := 44) hx hb d_M_bits_38 (by decide) (fun c_5 => ?_) (fun c_5 => ?_)
      · refine lv_aload_n hx hb d_M_bits_44 rfl (lv_at hl 0 rfl) ?_
        refine va_get (D := (dC, dI)) (ci := 9) (v := .int fEnded) (C := "RangeCodersModel") (T := T_M) (N := 35) hx hb hg in_M hown hK hP 0 rfl rfl 10 (by decide) (hg _ k962) (fun _ h9 => h9) rfl d_M_bits_45 ?_
        refine lv_if_eq (tgt := 54) hx hb d_M_bits_48 (by decide) (fun c_6 => ?_) (fun c_6 => ?_)
        · exact absurd c_6 hen
        · refine lv_bipush (v := (-3)) hx hb d_M_bits_51 (by decide) ?_
          exact my_iret (v := (-3)) hx hb hr (rfl) hlocks hQ hK hS (Nat.le_refl _) (Nat.le_refl _) () (rfl) (hP.sub [0] rfl) (hD.sub [0] (by decide +kernel) rfl) d_M_bits_53
      · exact absurd ⟨nI_pos' (by omega), nI_le (by omega) (by omega)⟩ (one_eq hw_35 c_5)
  · exact absurd c_1 (by decide)
set_option maxHeartbeats 2000000 in
set_option maxRecDepth 100000 in
theorem m_bits0R (l : Launch) (dC : Nat → ClassId) (dI : Nat → Nat → Nat) (cI cM cO : ClassId) (sz : Nat) (o : Nat) (g : Nat → Nat) (fShift : Int32) (fModels : Int32) (fLow : Int64) (fRange : Int64) (fCache : Int32) (fPend : Int32) (fGoes : Int32) (fOuts : Int32) (fIns : Int32) (fReads : Int32) (fBad : Int32) (fIR : Int32) (fAsk : Int32) (fBAsk : Int32) (fCode : Int64) (fRL : Int64) (fRR : Int64) (fX : Int64) (fWrites : Int32) (fThrown : Int32) (vv : Nat) (bb : Nat) (ki : Nat) (hb1 : 1 ≤ bb) (hb2 : bb ≤ 12) (hv : vv < 2 ^ bb) (hk6 : ki = 600) : MetI l y_M_bits (Cond.code y_M_bits prog_14_method_30_code 3 (some .int) :: gw) ({ frames := 1, cells := 0, slots := 0, locals := 22 } : Room) (dC, dI) vwCl (kT cI cM cO) [Value.ref o, Value.int (nI vv), Value.int (nI bb)] [(o, Sum.inr (9, mO g 0 fShift fModels (nI ki) 0 fLow fRange fCache fPend fGoes fOuts fIns fReads fBad fIR fAsk fBAsk fCode fRL fRR fX fWrites fThrown))] sz (fun (r : Int32) (u : Unit) => r = -4) (fun (u : Unit) => [(o, Sum.inr (9, mO g 0 fShift fModels (nI ki) 0 fLow fRange fCache fPend fGoes fOuts fIns fReads fBad fIR fAsk fBAsk fCode fRL fRR fX fWrites 0))]) 0 0 := by
  refine my_ofI (cc := prog_14_method_30_code) (n := 3) (ret := (some .int)) (by decide) rfl (Nat.le_of_ble_eq_true rfl) ?_
  intro p e s m args below meth c R Q A ls H locs hx hb hr hts hown hlocks hml hnm hR hQ hA hl hP hK hN hD hS
  have hg : ∀ w ∈ gw, w.before args s = true := fun w h => hts w (List.mem_cons_of_mem _ h)
  have hown : s.vm.findClass "RangeCodersModel" = some m.cls := hown
  have hl : lv_has ls 3 [(0, Value.ref o), (1, Value.int (nI vv)), (2, Value.int (nI bb))] := hl
  have hp12 : 2 ^ bb ≤ 4096 := pw12 (by omega)
  have hp0 := Nat.two_pow_pos bb
  refine lv_aload_n hx hb d_M_bits_0 rfl (lv_at hl 0 rfl) ?_
  refine lv_iconst (v := 0) hx hb d_M_bits_1 (by decide) ?_
  refine va_put (D := (dC, dI)) (ci := 9) (v := .int 0) (ty := .int) (C := "RangeCodersModel") (T := T_M) (N := 35) hx hb hg in_M t_M o_M n_M hown hK hP hD hS 0 rfl rfl 34 (by decide) (hg _ k986) (fun _ h9 => h9) rfl (o_M 34 (by decide)) rfl rfl (Nat.le_of_ble_eq_true rfl) d_M_bits_2 (fun H locs hP hD hS => ?_)
  have hPD : my_PD (dC, dI) vwCl A [(o, Sum.inr (9, mO g 0 fShift fModels (nI ki) 0 fLow fRange fCache fPend fGoes fOuts fIns fReads fBad fIR fAsk fBAsk fCode fRL fRR fX fWrites 0))] H := ⟨hP, hD⟩
  have hP := hPD.1
  have hD := hPD.2
  refine lv_iload_n hx hb d_M_bits_5 rfl (lv_at hl 2 rfl) ?_
  refine lv_iconst (v := 1) hx hb d_M_bits_6 (by decide) ?_
  refine lv_aload_n hx hb d_M_bits_7 rfl (lv_at hl 0 rfl) ?_
  refine va_get (D := (dC, dI)) (ci := 9) (v := .int 0) (C := "RangeCodersModel") (T := T_M) (N := 35) hx hb hg in_M hown hK hP 0 rfl rfl 0 (by decide) (hg _ k952) (fun _ h9 => h9) rfl d_M_bits_8 ?_
  refine lv_iconst (v := 4) hx hb d_M_bits_11 (by decide) ?_
  refine lv_icmp_ne (tgt := 20) hx hb d_M_bits_12 (by decide) (fun c_1 => ?_) (fun c_1 => ?_)
  · refine lv_bipush (v := 12) hx hb d_M_bits_20 (by decide) ?_
    refine my_ci (wr := [(o, Sum.inr (9, mO g 0 fShift fModels (nI ki) 0 fLow fRange fCache fPend fGoes fOuts fIns fReads fBad fIR fAsk fBAsk fCode fRL fRR fX fWrites 0))]) (va_runS (As := [Value.int (nI bb), Value.int 1, Value.int 12]) (rest := []) ⟨hx, hb, hml, hown, hts⟩ (c_M_in l dC dI cI cM cO H.size (nI bb) 1 12) (cwS 3 hts (my_gS k1062 k1063 k12 k1064) rfl rfl rfl (by decide +kernel) ⟨by rw [hR]; exact Nat.le_of_ble_eq_true rfl, by rw [hR]; exact Nat.le_of_ble_eq_true rfl⟩) (my_pre hK hN (hP.sub [] rfl) (hD.sub [] (by decide +kernel) rfl)) rfl rfl hl.1 rfl (lv_room (Nat.le_of_ble_eq_true rfl)) d_M_bits_22 ⟨by rw [hR]; exact Nat.le_of_ble_eq_true rfl, by rw [hR]; exact Nat.le_of_ble_eq_true rfl⟩) hP hD hS hA [] [0] rfl rfl (by decide +kernel) (by decide +kernel) (fun r_22 u9 H locs hw_22 hP hD hS => ?_)
    have hw_22 : r_22 = if 1 ≤ (nI bb) ∧ (nI bb) ≤ 12 then 1 else 0 := hw_22
    have hPD : my_PD (dC, dI) vwCl A [(o, Sum.inr (9, mO g 0 fShift fModels (nI ki) 0 fLow fRange fCache fPend fGoes fOuts fIns fReads fBad fIR fAsk fBAsk fCode fRL fRR fX fWrites 0))] H := ⟨hP, hD⟩
    have hP := hPD.1
    have hD := hPD.2
    refine lv_if_eq (tgt := 41) hx hb d_M_bits_25 (by decide) (fun c_2 => ?_) (fun c_2 => ?_)
    · exact absurd (show 1 ≤ nI bb ∧ nI bb ≤ nI 12 from ⟨nI_le (a := 1) hb1 (by omega), nI_le hb2 (by decide)⟩) (one_eq hw_22 c_2)
    · refine lv_iload_n hx hb d_M_bits_28 rfl (lv_at hl 1 rfl) ?_
      refine lv_iconst (v := 0) hx hb d_M_bits_29 (by decide) ?_
      refine lv_iconst (v := 1) hx hb d_M_bits_30 (by decide) ?_
      refine lv_iload_n hx hb d_M_bits_31 rfl (lv_at hl 2 rfl) ?_
      refine lv_ishl hx hb d_M_bits_32 ?_
      refine lv_topi (fun v_3 ev_3 => ?_)
      have z9 : v_3 = nI (2 ^ bb) := by rw [ev_3]; exact shl1 _ (by omega)
      subst z9
      refine lv_iconst (v := 1) hx hb d_M_bits_33 (by decide) ?_
      refine lv_isub hx hb d_M_bits_34 ?_
      refine lv_topi (fun v_4 ev_4 => ?_)
      have z9 : v_4 = nI (2 ^ bb - 1) := by rw [ev_4]; exact nI_pred9 hp0
      subst z9
      refine my_ci (wr := [(o, Sum.inr (9, mO g 0 fShift fModels (nI ki) 0 fLow fRange fCache fPend fGoes fOuts fIns fReads fBad fIR fAsk fBAsk fCode fRL fRR fX fWrites 0))]) (va_runS (As := [Value.int (nI vv), Value.int 0, Value.int (nI (2 ^ bb - 1))]) (rest := []) ⟨hx, hb, hml, hown, hts⟩ (c_M_in l dC dI cI cM cO H.size (nI vv) 0 (nI (2 ^ bb - 1))) (cwS 3 hts (my_gS k1062 k1063 k12 k1064) rfl rfl rfl (by decide +kernel) ⟨by rw [hR]; exact Nat.le_of_ble_eq_true rfl, by rw [hR]; exact Nat.le_of_ble_eq_true rfl⟩) (my_pre hK hN (hP.sub [] rfl) (hD.sub [] (by decide +kernel) rfl)) rfl rfl hl.1 rfl (lv_room (Nat.le_of_ble_eq_true rfl)) d_M_bits_35 ⟨by rw [hR]; exact Nat.le_of_ble_eq_true rfl, by rw [hR]; exact Nat.le_of_ble_eq_true rfl⟩) hP hD hS hA [] [0] rfl rfl (by decide +kernel) (by decide +kernel) (fun r_35 u9 H locs hw_35 hP hD hS => ?_)
      have hw_35 : r_35 = if 0 ≤ (nI vv) ∧ (nI vv) ≤ (nI (2 ^ bb - 1)) then 1 else 0 := hw_35
      have hPD : my_PD (dC, dI) vwCl A [(o, Sum.inr (9, mO g 0 fShift fModels (nI ki) 0 fLow fRange fCache fPend fGoes fOuts fIns fReads fBad fIR fAsk fBAsk fCode fRL fRR fX fWrites 0))] H := ⟨hP, hD⟩
      have hP := hPD.1
      have hD := hPD.2
      refine lv_if_ne (tgt := 44) hx hb d_M_bits_38 (by decide) (fun c_5 => ?_) (fun c_5 => ?_)
      · refine lv_aload_n hx hb d_M_bits_44 rfl (lv_at hl 0 rfl) ?_
        refine va_get (D := (dC, dI)) (ci := 9) (v := .int 0) (C := "RangeCodersModel") (T := T_M) (N := 35) hx hb hg in_M hown hK hP 0 rfl rfl 10 (by decide) (hg _ k962) (fun _ h9 => h9) rfl d_M_bits_45 ?_
        refine lv_if_eq (tgt := 54) hx hb d_M_bits_48 (by decide) (fun c_6 => ?_) (fun c_6 => ?_)
        · refine lv_aload_n hx hb d_M_bits_54 rfl (lv_at hl 0 rfl) ?_
          refine va_get (D := (dC, dI)) (ci := 9) (v := .int (nI ki)) (C := "RangeCodersModel") (T := T_M) (N := 35) hx hb hg in_M hown hK hP 0 rfl rfl 7 (by decide) (hg _ k959) (fun _ h9 => h9) rfl d_M_bits_55 ?_
          refine lv_sipush (v := 600) hx hb d_M_bits_58 (by decide) ?_
          refine lv_icmp_ne (tgt := 67) hx hb d_M_bits_61 (by decide) (fun c_7 => ?_) (fun c_7 => ?_)
          · exact absurd (by rw [hk6]; rfl) c_7
          · refine lv_bipush (v := (-4)) hx hb d_M_bits_64 (by decide) ?_
            exact my_iret (v := (-4)) hx hb hr (rfl) hlocks hQ hK hS (Nat.le_refl _) (Nat.le_refl _) () (rfl) (hP.sub [0] rfl) (hD.sub [0] (by decide +kernel) rfl) d_M_bits_66
        · exact absurd (by decide) c_6
      · exact absurd ⟨nI_pos' (by omega), nI_le (by omega) (by omega)⟩ (one_eq hw_35 c_5)
  · exact absurd c_1 (by decide)
set_option maxHeartbeats 2000000 in
set_option maxRecDepth 100000 in
theorem m_bits1W (l : Launch) (dC : Nat → ClassId) (dI : Nat → Nat → Nat) (cI cM cO : ClassId) (sz : Nat) (o : Nat) (g : Nat → Nat) (fShift : Int32) (fModels : Int32) (fItems : Int32) (fEnded : Int32) (fLow : Int64) (fRange : Int64) (fCache : Int32) (fPend : Int32) (fGoes : Int32) (fOuts : Int32) (fIns : Int32) (fReads : Int32) (fBad : Int32) (fIR : Int32) (fAsk : Int32) (fBAsk : Int32) (fCode : Int64) (fRL : Int64) (fRR : Int64) (fX : Int64) (fWrites : Int32) (fThrown : Int32) (p1 : Int32) (p2 : Int32) (hno : ¬ okB 12 p1 p2) : MetI l y_M_bits (Cond.code y_M_bits prog_14_method_30_code 3 (some .int) :: gw) ({ frames := 1, cells := 0, slots := 0, locals := 22 } : Room) (dC, dI) vwCl (kT cI cM cO) [Value.ref o, Value.int p1, Value.int p2] [(o, Sum.inr (9, mO g 1 fShift fModels fItems fEnded fLow fRange fCache fPend fGoes fOuts fIns fReads fBad fIR fAsk fBAsk fCode fRL fRR fX fWrites fThrown))] sz (fun (r : Int32) (u : Unit) => r = -2) (fun (u : Unit) => [(o, Sum.inr (9, mO g 1 fShift fModels fItems fEnded fLow fRange fCache fPend fGoes fOuts fIns fReads fBad fIR fAsk fBAsk fCode fRL fRR fX fWrites 0))]) 0 0 := by
  refine my_ofI (cc := prog_14_method_30_code) (n := 3) (ret := (some .int)) (by decide) rfl (Nat.le_of_ble_eq_true rfl) ?_
  intro p e s m args below meth c R Q A ls H locs hx hb hr hts hown hlocks hml hnm hR hQ hA hl hP hK hN hD hS
  have hg : ∀ w ∈ gw, w.before args s = true := fun w h => hts w (List.mem_cons_of_mem _ h)
  have hown : s.vm.findClass "RangeCodersModel" = some m.cls := hown
  have hl : lv_has ls 3 [(0, Value.ref o), (1, Value.int p1), (2, Value.int p2)] := hl
  refine lv_aload_n hx hb d_M_bits_0 rfl (lv_at hl 0 rfl) ?_
  refine lv_iconst (v := 0) hx hb d_M_bits_1 (by decide) ?_
  refine va_put (D := (dC, dI)) (ci := 9) (v := .int 0) (ty := .int) (C := "RangeCodersModel") (T := T_M) (N := 35) hx hb hg in_M t_M o_M n_M hown hK hP hD hS 0 rfl rfl 34 (by decide) (hg _ k986) (fun _ h9 => h9) rfl (o_M 34 (by decide)) rfl rfl (Nat.le_of_ble_eq_true rfl) d_M_bits_2 (fun H locs hP hD hS => ?_)
  have hPD : my_PD (dC, dI) vwCl A [(o, Sum.inr (9, mO g 1 fShift fModels fItems fEnded fLow fRange fCache fPend fGoes fOuts fIns fReads fBad fIR fAsk fBAsk fCode fRL fRR fX fWrites 0))] H := ⟨hP, hD⟩
  have hP := hPD.1
  have hD := hPD.2
  refine lv_iload_n hx hb d_M_bits_5 rfl (lv_at hl 2 rfl) ?_
  refine lv_iconst (v := 1) hx hb d_M_bits_6 (by decide) ?_
  refine lv_aload_n hx hb d_M_bits_7 rfl (lv_at hl 0 rfl) ?_
  refine va_get (D := (dC, dI)) (ci := 9) (v := .int 1) (C := "RangeCodersModel") (T := T_M) (N := 35) hx hb hg in_M hown hK hP 0 rfl rfl 0 (by decide) (hg _ k952) (fun _ h9 => h9) rfl d_M_bits_8 ?_
  refine lv_iconst (v := 4) hx hb d_M_bits_11 (by decide) ?_
  refine lv_icmp_ne (tgt := 20) hx hb d_M_bits_12 (by decide) (fun c_1 => ?_) (fun c_1 => ?_)
  · refine lv_bipush (v := 12) hx hb d_M_bits_20 (by decide) ?_
    refine my_ci (wr := [(o, Sum.inr (9, mO g 1 fShift fModels fItems fEnded fLow fRange fCache fPend fGoes fOuts fIns fReads fBad fIR fAsk fBAsk fCode fRL fRR fX fWrites 0))]) (va_runS (As := [Value.int p2, Value.int 1, Value.int 12]) (rest := []) ⟨hx, hb, hml, hown, hts⟩ (c_M_in l dC dI cI cM cO H.size p2 1 12) (cwS 3 hts (my_gS k1062 k1063 k12 k1064) rfl rfl rfl (by decide +kernel) ⟨by rw [hR]; exact Nat.le_of_ble_eq_true rfl, by rw [hR]; exact Nat.le_of_ble_eq_true rfl⟩) (my_pre hK hN (hP.sub [] rfl) (hD.sub [] (by decide +kernel) rfl)) rfl rfl hl.1 rfl (lv_room (Nat.le_of_ble_eq_true rfl)) d_M_bits_22 ⟨by rw [hR]; exact Nat.le_of_ble_eq_true rfl, by rw [hR]; exact Nat.le_of_ble_eq_true rfl⟩) hP hD hS hA [] [0] rfl rfl (by decide +kernel) (by decide +kernel) (fun r_22 u9 H locs hw_22 hP hD hS => ?_)
    have hw_22 : r_22 = if 1 ≤ p2 ∧ p2 ≤ 12 then 1 else 0 := hw_22
    have hPD : my_PD (dC, dI) vwCl A [(o, Sum.inr (9, mO g 1 fShift fModels fItems fEnded fLow fRange fCache fPend fGoes fOuts fIns fReads fBad fIR fAsk fBAsk fCode fRL fRR fX fWrites 0))] H := ⟨hP, hD⟩
    have hP := hPD.1
    have hD := hPD.2
    refine lv_if_eq (tgt := 41) hx hb d_M_bits_25 (by decide) (fun c_2 => ?_) (fun c_2 => ?_)
    · refine lv_bipush (v := (-2)) hx hb d_M_bits_41 (by decide) ?_
      exact my_iret (v := (-2)) hx hb hr (rfl) hlocks hQ hK hS (Nat.le_refl _) (Nat.le_refl _) () (rfl) (hP.sub [0] rfl) (hD.sub [0] (by decide +kernel) rfl) d_M_bits_43
    · refine lv_iload_n hx hb d_M_bits_28 rfl (lv_at hl 1 rfl) ?_
      refine lv_iconst (v := 0) hx hb d_M_bits_29 (by decide) ?_
      refine lv_iconst (v := 1) hx hb d_M_bits_30 (by decide) ?_
      refine lv_iload_n hx hb d_M_bits_31 rfl (lv_at hl 2 rfl) ?_
      refine lv_ishl hx hb d_M_bits_32 ?_
      refine lv_topi (fun v_3 ev_3 => ?_)
      refine lv_iconst (v := 1) hx hb d_M_bits_33 (by decide) ?_
      refine lv_isub hx hb d_M_bits_34 ?_
      refine lv_topi (fun v_4 ev_4 => ?_)
      refine my_ci (wr := [(o, Sum.inr (9, mO g 1 fShift fModels fItems fEnded fLow fRange fCache fPend fGoes fOuts fIns fReads fBad fIR fAsk fBAsk fCode fRL fRR fX fWrites 0))]) (va_runS (As := [Value.int p1, Value.int 0, Value.int v_4]) (rest := []) ⟨hx, hb, hml, hown, hts⟩ (c_M_in l dC dI cI cM cO H.size p1 0 v_4) (cwS 3 hts (my_gS k1062 k1063 k12 k1064) rfl rfl rfl (by decide +kernel) ⟨by rw [hR]; exact Nat.le_of_ble_eq_true rfl, by rw [hR]; exact Nat.le_of_ble_eq_true rfl⟩) (my_pre hK hN (hP.sub [] rfl) (hD.sub [] (by decide +kernel) rfl)) rfl rfl hl.1 rfl (lv_room (Nat.le_of_ble_eq_true rfl)) d_M_bits_35 ⟨by rw [hR]; exact Nat.le_of_ble_eq_true rfl, by rw [hR]; exact Nat.le_of_ble_eq_true rfl⟩) hP hD hS hA [] [0] rfl rfl (by decide +kernel) (by decide +kernel) (fun r_35 u9 H locs hw_35 hP hD hS => ?_)
      have hw_35 : r_35 = if 0 ≤ p1 ∧ p1 ≤ v_4 then 1 else 0 := hw_35
      have hPD : my_PD (dC, dI) vwCl A [(o, Sum.inr (9, mO g 1 fShift fModels fItems fEnded fLow fRange fCache fPend fGoes fOuts fIns fReads fBad fIR fAsk fBAsk fCode fRL fRR fX fWrites 0))] H := ⟨hP, hD⟩
      have hP := hPD.1
      have hD := hPD.2
      refine lv_if_ne (tgt := 44) hx hb d_M_bits_38 (by decide) (fun c_5 => ?_) (fun c_5 => ?_)
      · exact absurd (one_ne hw_35 c_5) (okB_no (by decide) hno (one_ne hw_22 c_2) (by subst_vars; rfl))
      · refine lv_bipush (v := (-2)) hx hb d_M_bits_41 (by decide) ?_
        exact my_iret (v := (-2)) hx hb hr (rfl) hlocks hQ hK hS (Nat.le_refl _) (Nat.le_refl _) () (rfl) (hP.sub [0] rfl) (hD.sub [0] (by decide +kernel) rfl) d_M_bits_43
  · exact absurd c_1 (by decide)
set_option maxHeartbeats 2000000 in
set_option maxRecDepth 100000 in
theorem m_bits1E (l : Launch) (dC : Nat → ClassId) (dI : Nat → Nat → Nat) (cI cM cO : ClassId) (sz : Nat) (o : Nat) (g : Nat → Nat) (fShift : Int32) (fModels : Int32) (fItems : Int32) (fEnded : Int32) (fLow : Int64) (fRange : Int64) (fCache : Int32) (fPend : Int32) (fGoes : Int32) (fOuts : Int32) (fIns : Int32) (fReads : Int32) (fBad : Int32) (fIR : Int32) (fAsk : Int32) (fBAsk : Int32) (fCode : Int64) (fRL : Int64) (fRR : Int64) (fX : Int64) (fWrites : Int32) (fThrown : Int32) (vv : Nat) (bb : Nat) (hb1 : 1 ≤ bb) (hb2 : bb ≤ 12) (hv : vv < 2 ^ bb) (hen : ¬ fEnded = 0) : MetI l y_M_bits (Cond.code y_M_bits prog_14_method_30_code 3 (some .int) :: gw) ({ frames := 1, cells := 0, slots := 0, locals := 22 } : Room) (dC, dI) vwCl (kT cI cM cO) [Value.ref o, Value.int (nI vv), Value.int (nI bb)] [(o, Sum.inr (9, mO g 1 fShift fModels fItems fEnded fLow fRange fCache fPend fGoes fOuts fIns fReads fBad fIR fAsk fBAsk fCode fRL fRR fX fWrites fThrown))] sz (fun (r : Int32) (u : Unit) => r = -3) (fun (u : Unit) => [(o, Sum.inr (9, mO g 1 fShift fModels fItems fEnded fLow fRange fCache fPend fGoes fOuts fIns fReads fBad fIR fAsk fBAsk fCode fRL fRR fX fWrites 0))]) 0 0 := by
  refine my_ofI (cc := prog_14_method_30_code) (n := 3) (ret := (some .int)) (by decide) rfl (Nat.le_of_ble_eq_true rfl) ?_
  intro p e s m args below meth c R Q A ls H locs hx hb hr hts hown hlocks hml hnm hR hQ hA hl hP hK hN hD hS
  have hg : ∀ w ∈ gw, w.before args s = true := fun w h => hts w (List.mem_cons_of_mem _ h)
  have hown : s.vm.findClass "RangeCodersModel" = some m.cls := hown
  have hl : lv_has ls 3 [(0, Value.ref o), (1, Value.int (nI vv)), (2, Value.int (nI bb))] := hl
  have hp12 : 2 ^ bb ≤ 4096 := pw12 (by omega)
  have hp0 := Nat.two_pow_pos bb
  refine lv_aload_n hx hb d_M_bits_0 rfl (lv_at hl 0 rfl) ?_
  refine lv_iconst (v := 0) hx hb d_M_bits_1 (by decide) ?_
  refine va_put (D := (dC, dI)) (ci := 9) (v := .int 0) (ty := .int) (C := "RangeCodersModel") (T := T_M) (N := 35) hx hb hg in_M t_M o_M n_M hown hK hP hD hS 0 rfl rfl 34 (by decide) (hg _ k986) (fun _ h9 => h9) rfl (o_M 34 (by decide)) rfl rfl (Nat.le_of_ble_eq_true rfl) d_M_bits_2 (fun H locs hP hD hS => ?_)
  have hPD : my_PD (dC, dI) vwCl A [(o, Sum.inr (9, mO g 1 fShift fModels fItems fEnded fLow fRange fCache fPend fGoes fOuts fIns fReads fBad fIR fAsk fBAsk fCode fRL fRR fX fWrites 0))] H := ⟨hP, hD⟩
  have hP := hPD.1
  have hD := hPD.2
  refine lv_iload_n hx hb d_M_bits_5 rfl (lv_at hl 2 rfl) ?_
  refine lv_iconst (v := 1) hx hb d_M_bits_6 (by decide) ?_
  refine lv_aload_n hx hb d_M_bits_7 rfl (lv_at hl 0 rfl) ?_
  refine va_get (D := (dC, dI)) (ci := 9) (v := .int 1) (C := "RangeCodersModel") (T := T_M) (N := 35) hx hb hg in_M hown hK hP 0 rfl rfl 0 (by decide) (hg _ k952) (fun _ h9 => h9) rfl d_M_bits_8 ?_
  refine lv_iconst (v := 4) hx hb d_M_bits_11 (by decide) ?_
  refine lv_icmp_ne (tgt := 20) hx hb d_M_bits_12 (by decide) (fun c_1 => ?_) (fun c_1 => ?_)
  · refine lv_bipush (v := 12) hx hb d_M_bits_20 (by decide) ?_
    refine my_ci (wr := [(o, Sum.inr (9, mO g 1 fShift fModels fItems fEnded fLow fRange fCache fPend fGoes fOuts fIns fReads fBad fIR fAsk fBAsk fCode fRL fRR fX fWrites 0))]) (va_runS (As := [Value.int (nI bb), Value.int 1, Value.int 12]) (rest := []) ⟨hx, hb, hml, hown, hts⟩ (c_M_in l dC dI cI cM cO H.size (nI bb) 1 12) (cwS 3 hts (my_gS k1062 k1063 k12 k1064) rfl rfl rfl (by decide +kernel) ⟨by rw [hR]; exact Nat.le_of_ble_eq_true rfl, by rw [hR]; exact Nat.le_of_ble_eq_true rfl⟩) (my_pre hK hN (hP.sub [] rfl) (hD.sub [] (by decide +kernel) rfl)) rfl rfl hl.1 rfl (lv_room (Nat.le_of_ble_eq_true rfl)) d_M_bits_22 ⟨by rw [hR]; exact Nat.le_of_ble_eq_true rfl, by rw [hR]; exact Nat.le_of_ble_eq_true rfl⟩) hP hD hS hA [] [0] rfl rfl (by decide +kernel) (by decide +kernel) (fun r_22 u9 H locs hw_22 hP hD hS => ?_)
    have hw_22 : r_22 = if 1 ≤ (nI bb) ∧ (nI bb) ≤ 12 then 1 else 0 := hw_22
    have hPD : my_PD (dC, dI) vwCl A [(o, Sum.inr (9, mO g 1 fShift fModels fItems fEnded fLow fRange fCache fPend fGoes fOuts fIns fReads fBad fIR fAsk fBAsk fCode fRL fRR fX fWrites 0))] H := ⟨hP, hD⟩
    have hP := hPD.1
    have hD := hPD.2
    refine lv_if_eq (tgt := 41) hx hb d_M_bits_25 (by decide) (fun c_2 => ?_) (fun c_2 => ?_)
    · exact absurd (show 1 ≤ nI bb ∧ nI bb ≤ nI 12 from ⟨nI_le (a := 1) hb1 (by omega), nI_le hb2 (by decide)⟩) (one_eq hw_22 c_2)
    · refine lv_iload_n hx hb d_M_bits_28 rfl (lv_at hl 1 rfl) ?_
      refine lv_iconst (v := 0) hx hb d_M_bits_29 (by decide) ?_
      refine lv_iconst (v := 1) hx hb d_M_bits_30 (by decide) ?_
      refine lv_iload_n hx hb d_M_bits_31 rfl (lv_at hl 2 rfl) ?_
      refine lv_ishl hx hb d_M_bits_32 ?_
      refine lv_topi (fun v_3 ev_3 => ?_)
      have z9 : v_3 = nI (2 ^ bb) := by rw [ev_3]; exact shl1 _ (by omega)
      subst z9
      refine lv_iconst (v := 1) hx hb d_M_bits_33 (by decide) ?_
      refine lv_isub hx hb d_M_bits_34 ?_
      refine lv_topi (fun v_4 ev_4 => ?_)
      have z9 : v_4 = nI (2 ^ bb - 1) := by rw [ev_4]; exact nI_pred9 hp0
      subst z9
      refine my_ci (wr := [(o, Sum.inr (9, mO g 1 fShift fModels fItems fEnded fLow fRange fCache fPend fGoes fOuts fIns fReads fBad fIR fAsk fBAsk fCode fRL fRR fX fWrites 0))]) (va_runS (As := [Value.int (nI vv), Value.int 0, Value.int (nI (2 ^ bb - 1))]) (rest := []) ⟨hx, hb, hml, hown, hts⟩ (c_M_in l dC dI cI cM cO H.size (nI vv) 0 (nI (2 ^ bb - 1))) (cwS 3 hts (my_gS k1062 k1063 k12 k1064) rfl rfl rfl (by decide +kernel) ⟨by rw [hR]; exact Nat.le_of_ble_eq_true rfl, by rw [hR]; exact Nat.le_of_ble_eq_true rfl⟩) (my_pre hK hN (hP.sub [] rfl) (hD.sub [] (by decide +kernel) rfl)) rfl rfl hl.1 rfl (lv_room (Nat.le_of_ble_eq_true rfl)) d_M_bits_35 ⟨by rw [hR]; exact Nat.le_of_ble_eq_true rfl, by rw [hR]; exact Nat.le_of_ble_eq_true rfl⟩) hP hD hS hA [] [0] rfl rfl (by decide +kernel) (by decide +kernel) (fun r_35 u9 H locs hw_35 hP hD hS => ?_)
      have hw_35 : r_35 = if 0 ≤ (nI vv) ∧ (nI vv) ≤ (nI (2 ^ bb - 1)) then 1 else 0 := hw_35
      have hPD : my_PD (dC, dI) vwCl A [(o, Sum.inr (9, mO g 1 fShift fModels fItems fEnded fLow fRange fCache fPend fGoes fOuts fIns fReads fBad fIR fAsk fBAsk fCode fRL fRR fX fWrites 0))] H := ⟨hP, hD⟩
      have hP := hPD.1
      have hD := hPD.2
      refine lv_if_ne (tgt := 44) hx hb d_M_bits_38 (by decide) (fun c_5 => ?_) (fun c_5 => ?_)
      · refine lv_aload_n hx hb d_M_bits_44 rfl (lv_at hl 0 rfl) ?_
        refine va_get (D := (dC, dI)) (ci := 9) (v := .int fEnded) (C := "RangeCodersModel") (T := T_M) (N := 35) hx hb hg in_M hown hK hP 0 rfl rfl 10 (by decide) (hg _ k962) (fun _ h9 => h9) rfl d_M_bits_45 ?_
        refine lv_if_eq (tgt := 54) hx hb d_M_bits_48 (by decide) (fun c_6 => ?_) (fun c_6 => ?_)
        · exact absurd c_6 hen
        · refine lv_bipush (v := (-3)) hx hb d_M_bits_51 (by decide) ?_
          exact my_iret (v := (-3)) hx hb hr (rfl) hlocks hQ hK hS (Nat.le_refl _) (Nat.le_refl _) () (rfl) (hP.sub [0] rfl) (hD.sub [0] (by decide +kernel) rfl) d_M_bits_53
      · exact absurd ⟨nI_pos' (by omega), nI_le (by omega) (by omega)⟩ (one_eq hw_35 c_5)
  · exact absurd c_1 (by decide)
set_option maxHeartbeats 2000000 in
set_option maxRecDepth 100000 in
theorem m_bits1R (l : Launch) (dC : Nat → ClassId) (dI : Nat → Nat → Nat) (cI cM cO : ClassId) (sz : Nat) (o : Nat) (g : Nat → Nat) (fShift : Int32) (fModels : Int32) (fLow : Int64) (fRange : Int64) (fCache : Int32) (fPend : Int32) (fGoes : Int32) (fOuts : Int32) (fIns : Int32) (fReads : Int32) (fBad : Int32) (fIR : Int32) (fAsk : Int32) (fBAsk : Int32) (fCode : Int64) (fRL : Int64) (fRR : Int64) (fX : Int64) (fWrites : Int32) (fThrown : Int32) (vv : Nat) (bb : Nat) (ki : Nat) (hb1 : 1 ≤ bb) (hb2 : bb ≤ 12) (hv : vv < 2 ^ bb) (hk6 : ki = 600) : MetI l y_M_bits (Cond.code y_M_bits prog_14_method_30_code 3 (some .int) :: gw) ({ frames := 1, cells := 0, slots := 0, locals := 22 } : Room) (dC, dI) vwCl (kT cI cM cO) [Value.ref o, Value.int (nI vv), Value.int (nI bb)] [(o, Sum.inr (9, mO g 1 fShift fModels (nI ki) 0 fLow fRange fCache fPend fGoes fOuts fIns fReads fBad fIR fAsk fBAsk fCode fRL fRR fX fWrites fThrown))] sz (fun (r : Int32) (u : Unit) => r = -4) (fun (u : Unit) => [(o, Sum.inr (9, mO g 1 fShift fModels (nI ki) 0 fLow fRange fCache fPend fGoes fOuts fIns fReads fBad fIR fAsk fBAsk fCode fRL fRR fX fWrites 0))]) 0 0 := by
  refine my_ofI (cc := prog_14_method_30_code) (n := 3) (ret := (some .int)) (by decide) rfl (Nat.le_of_ble_eq_true rfl) ?_
  intro p e s m args below meth c R Q A ls H locs hx hb hr hts hown hlocks hml hnm hR hQ hA hl hP hK hN hD hS
  have hg : ∀ w ∈ gw, w.before args s = true := fun w h => hts w (List.mem_cons_of_mem _ h)
  have hown : s.vm.findClass "RangeCodersModel" = some m.cls := hown
  have hl : lv_has ls 3 [(0, Value.ref o), (1, Value.int (nI vv)), (2, Value.int (nI bb))] := hl
  have hp12 : 2 ^ bb ≤ 4096 := pw12 (by omega)
  have hp0 := Nat.two_pow_pos bb
  refine lv_aload_n hx hb d_M_bits_0 rfl (lv_at hl 0 rfl) ?_
  refine lv_iconst (v := 0) hx hb d_M_bits_1 (by decide) ?_
  refine va_put (D := (dC, dI)) (ci := 9) (v := .int 0) (ty := .int) (C := "RangeCodersModel") (T := T_M) (N := 35) hx hb hg in_M t_M o_M n_M hown hK hP hD hS 0 rfl rfl 34 (by decide) (hg _ k986) (fun _ h9 => h9) rfl (o_M 34 (by decide)) rfl rfl (Nat.le_of_ble_eq_true rfl) d_M_bits_2 (fun H locs hP hD hS => ?_)
  have hPD : my_PD (dC, dI) vwCl A [(o, Sum.inr (9, mO g 1 fShift fModels (nI ki) 0 fLow fRange fCache fPend fGoes fOuts fIns fReads fBad fIR fAsk fBAsk fCode fRL fRR fX fWrites 0))] H := ⟨hP, hD⟩
  have hP := hPD.1
  have hD := hPD.2
  refine lv_iload_n hx hb d_M_bits_5 rfl (lv_at hl 2 rfl) ?_
  refine lv_iconst (v := 1) hx hb d_M_bits_6 (by decide) ?_
  refine lv_aload_n hx hb d_M_bits_7 rfl (lv_at hl 0 rfl) ?_
  refine va_get (D := (dC, dI)) (ci := 9) (v := .int 1) (C := "RangeCodersModel") (T := T_M) (N := 35) hx hb hg in_M hown hK hP 0 rfl rfl 0 (by decide) (hg _ k952) (fun _ h9 => h9) rfl d_M_bits_8 ?_
  refine lv_iconst (v := 4) hx hb d_M_bits_11 (by decide) ?_
  refine lv_icmp_ne (tgt := 20) hx hb d_M_bits_12 (by decide) (fun c_1 => ?_) (fun c_1 => ?_)
  · refine lv_bipush (v := 12) hx hb d_M_bits_20 (by decide) ?_
    refine my_ci (wr := [(o, Sum.inr (9, mO g 1 fShift fModels (nI ki) 0 fLow fRange fCache fPend fGoes fOuts fIns fReads fBad fIR fAsk fBAsk fCode fRL fRR fX fWrites 0))]) (va_runS (As := [Value.int (nI bb), Value.int 1, Value.int 12]) (rest := []) ⟨hx, hb, hml, hown, hts⟩ (c_M_in l dC dI cI cM cO H.size (nI bb) 1 12) (cwS 3 hts (my_gS k1062 k1063 k12 k1064) rfl rfl rfl (by decide +kernel) ⟨by rw [hR]; exact Nat.le_of_ble_eq_true rfl, by rw [hR]; exact Nat.le_of_ble_eq_true rfl⟩) (my_pre hK hN (hP.sub [] rfl) (hD.sub [] (by decide +kernel) rfl)) rfl rfl hl.1 rfl (lv_room (Nat.le_of_ble_eq_true rfl)) d_M_bits_22 ⟨by rw [hR]; exact Nat.le_of_ble_eq_true rfl, by rw [hR]; exact Nat.le_of_ble_eq_true rfl⟩) hP hD hS hA [] [0] rfl rfl (by decide +kernel) (by decide +kernel) (fun r_22 u9 H locs hw_22 hP hD hS => ?_)
    have hw_22 : r_22 = if 1 ≤ (nI bb) ∧ (nI bb) ≤ 12 then 1 else 0 := hw_22
    have hPD : my_PD (dC, dI) vwCl A [(o, Sum.inr (9, mO g 1 fShift fModels (nI ki) 0 fLow fRange fCache fPend fGoes fOuts fIns fReads fBad fIR fAsk fBAsk fCode fRL fRR fX fWrites 0))] H := ⟨hP, hD⟩
    have hP := hPD.1
    have hD := hPD.2
    refine lv_if_eq (tgt := 41) hx hb d_M_bits_25 (by decide) (fun c_2 => ?_) (fun c_2 => ?_)
    · exact absurd (show 1 ≤ nI bb ∧ nI bb ≤ nI 12 from ⟨nI_le (a := 1) hb1 (by omega), nI_le hb2 (by decide)⟩) (one_eq hw_22 c_2)
    · refine lv_iload_n hx hb d_M_bits_28 rfl (lv_at hl 1 rfl) ?_
      refine lv_iconst (v := 0) hx hb d_M_bits_29 (by decide) ?_
      refine lv_iconst (v := 1) hx hb d_M_bits_30 (by decide) ?_
      refine lv_iload_n hx hb d_M_bits_31 rfl (lv_at hl 2 rfl) ?_
      refine lv_ishl hx hb d_M_bits_32 ?_
      refine lv_topi (fun v_3 ev_3 => ?_)
      have z9 : v_3 = nI (2 ^ bb) := by rw [ev_3]; exact shl1 _ (by omega)
      subst z9
      refine lv_iconst (v := 1) hx hb d_M_bits_33 (by decide) ?_
      refine lv_isub hx hb d_M_bits_34 ?_
      refine lv_topi (fun v_4 ev_4 => ?_)
      have z9 : v_4 = nI (2 ^ bb - 1) := by rw [ev_4]; exact nI_pred9 hp0
      subst z9
      refine my_ci (wr := [(o, Sum.inr (9, mO g 1 fShift fModels (nI ki) 0 fLow fRange fCache fPend fGoes fOuts fIns fReads fBad fIR fAsk fBAsk fCode fRL fRR fX fWrites 0))]) (va_runS (As := [Value.int (nI vv), Value.int 0, Value.int (nI (2 ^ bb - 1))]) (rest := []) ⟨hx, hb, hml, hown, hts⟩ (c_M_in l dC dI cI cM cO H.size (nI vv) 0 (nI (2 ^ bb - 1))) (cwS 3 hts (my_gS k1062 k1063 k12 k1064) rfl rfl rfl (by decide +kernel) ⟨by rw [hR]; exact Nat.le_of_ble_eq_true rfl, by rw [hR]; exact Nat.le_of_ble_eq_true rfl⟩) (my_pre hK hN (hP.sub [] rfl) (hD.sub [] (by decide +kernel) rfl)) rfl rfl hl.1 rfl (lv_room (Nat.le_of_ble_eq_true rfl)) d_M_bits_35 ⟨by rw [hR]; exact Nat.le_of_ble_eq_true rfl, by rw [hR]; exact Nat.le_of_ble_eq_true rfl⟩) hP hD hS hA [] [0] rfl rfl (by decide +kernel) (by decide +kernel) (fun r_35 u9 H locs hw_35 hP hD hS => ?_)
      have hw_35 : r_35 = if 0 ≤ (nI vv) ∧ (nI vv) ≤ (nI (2 ^ bb - 1)) then 1 else 0 := hw_35
      have hPD : my_PD (dC, dI) vwCl A [(o, Sum.inr (9, mO g 1 fShift fModels (nI ki) 0 fLow fRange fCache fPend fGoes fOuts fIns fReads fBad fIR fAsk fBAsk fCode fRL fRR fX fWrites 0))] H := ⟨hP, hD⟩
      have hP := hPD.1
      have hD := hPD.2
      refine lv_if_ne (tgt := 44) hx hb d_M_bits_38 (by decide) (fun c_5 => ?_) (fun c_5 => ?_)
      · refine lv_aload_n hx hb d_M_bits_44 rfl (lv_at hl 0 rfl) ?_
        refine va_get (D := (dC, dI)) (ci := 9) (v := .int 0) (C := "RangeCodersModel") (T := T_M) (N := 35) hx hb hg in_M hown hK hP 0 rfl rfl 10 (by decide) (hg _ k962) (fun _ h9 => h9) rfl d_M_bits_45 ?_
        refine lv_if_eq (tgt := 54) hx hb d_M_bits_48 (by decide) (fun c_6 => ?_) (fun c_6 => ?_)
        · refine lv_aload_n hx hb d_M_bits_54 rfl (lv_at hl 0 rfl) ?_
          refine va_get (D := (dC, dI)) (ci := 9) (v := .int (nI ki)) (C := "RangeCodersModel") (T := T_M) (N := 35) hx hb hg in_M hown hK hP 0 rfl rfl 7 (by decide) (hg _ k959) (fun _ h9 => h9) rfl d_M_bits_55 ?_
          refine lv_sipush (v := 600) hx hb d_M_bits_58 (by decide) ?_
          refine lv_icmp_ne (tgt := 67) hx hb d_M_bits_61 (by decide) (fun c_7 => ?_) (fun c_7 => ?_)
          · exact absurd (by rw [hk6]; rfl) c_7
          · refine lv_bipush (v := (-4)) hx hb d_M_bits_64 (by decide) ?_
            exact my_iret (v := (-4)) hx hb hr (rfl) hlocks hQ hK hS (Nat.le_refl _) (Nat.le_refl _) () (rfl) (hP.sub [0] rfl) (hD.sub [0] (by decide +kernel) rfl) d_M_bits_66
        · exact absurd (by decide) c_6
      · exact absurd ⟨nI_pos' (by omega), nI_le (by omega) (by omega)⟩ (one_eq hw_35 c_5)
  · exact absurd c_1 (by decide)
set_option maxHeartbeats 2000000 in
set_option maxRecDepth 100000 in
theorem m_bits2W (l : Launch) (dC : Nat → ClassId) (dI : Nat → Nat → Nat) (cI cM cO : ClassId) (sz : Nat) (o : Nat) (g : Nat → Nat) (fShift : Int32) (fModels : Int32) (fItems : Int32) (fEnded : Int32) (fLow : Int64) (fRange : Int64) (fCache : Int32) (fPend : Int32) (fGoes : Int32) (fOuts : Int32) (fIns : Int32) (fReads : Int32) (fBad : Int32) (fIR : Int32) (fAsk : Int32) (fBAsk : Int32) (fCode : Int64) (fRL : Int64) (fRR : Int64) (fX : Int64) (fWrites : Int32) (fThrown : Int32) (p1 : Int32) (p2 : Int32) (hno : ¬ okB 12 p1 p2) : MetI l y_M_bits (Cond.code y_M_bits prog_14_method_30_code 3 (some .int) :: gw) ({ frames := 1, cells := 0, slots := 0, locals := 22 } : Room) (dC, dI) vwCl (kT cI cM cO) [Value.ref o, Value.int p1, Value.int p2] [(o, Sum.inr (9, mO g 2 fShift fModels fItems fEnded fLow fRange fCache fPend fGoes fOuts fIns fReads fBad fIR fAsk fBAsk fCode fRL fRR fX fWrites fThrown))] sz (fun (r : Int32) (u : Unit) => r = -2) (fun (u : Unit) => [(o, Sum.inr (9, mO g 2 fShift fModels fItems fEnded fLow fRange fCache fPend fGoes fOuts fIns fReads fBad fIR fAsk fBAsk fCode fRL fRR fX fWrites 0))]) 0 0 := by
  refine my_ofI (cc := prog_14_method_30_code) (n := 3) (ret := (some .int)) (by decide) rfl (Nat.le_of_ble_eq_true rfl) ?_
  intro p e s m args below meth c R Q A ls H locs hx hb hr hts hown hlocks hml hnm hR hQ hA hl hP hK hN hD hS
  have hg : ∀ w ∈ gw, w.before args s = true := fun w h => hts w (List.mem_cons_of_mem _ h)
  have hown : s.vm.findClass "RangeCodersModel" = some m.cls := hown
  have hl : lv_has ls 3 [(0, Value.ref o), (1, Value.int p1), (2, Value.int p2)] := hl
  refine lv_aload_n hx hb d_M_bits_0 rfl (lv_at hl 0 rfl) ?_
  refine lv_iconst (v := 0) hx hb d_M_bits_1 (by decide) ?_
  refine va_put (D := (dC, dI)) (ci := 9) (v := .int 0) (ty := .int) (C := "RangeCodersModel") (T := T_M) (N := 35) hx hb hg in_M t_M o_M n_M hown hK hP hD hS 0 rfl rfl 34 (by decide) (hg _ k986) (fun _ h9 => h9) rfl (o_M 34 (by decide)) rfl rfl (Nat.le_of_ble_eq_true rfl) d_M_bits_2 (fun H locs hP hD hS => ?_)
  have hPD : my_PD (dC, dI) vwCl A [(o, Sum.inr (9, mO g 2 fShift fModels fItems fEnded fLow fRange fCache fPend fGoes fOuts fIns fReads fBad fIR fAsk fBAsk fCode fRL fRR fX fWrites 0))] H := ⟨hP, hD⟩
  have hP := hPD.1
  have hD := hPD.2
  refine lv_iload_n hx hb d_M_bits_5 rfl (lv_at hl 2 rfl) ?_
  refine lv_iconst (v := 1) hx hb d_M_bits_6 (by decide) ?_
  refine lv_aload_n hx hb d_M_bits_7 rfl (lv_at hl 0 rfl) ?_
  refine va_get (D := (dC, dI)) (ci := 9) (v := .int 2) (C := "RangeCodersModel") (T := T_M) (N := 35) hx hb hg in_M hown hK hP 0 rfl rfl 0 (by decide) (hg _ k952) (fun _ h9 => h9) rfl d_M_bits_8 ?_
  refine lv_iconst (v := 4) hx hb d_M_bits_11 (by decide) ?_
  refine lv_icmp_ne (tgt := 20) hx hb d_M_bits_12 (by decide) (fun c_1 => ?_) (fun c_1 => ?_)
  · refine lv_bipush (v := 12) hx hb d_M_bits_20 (by decide) ?_
    refine my_ci (wr := [(o, Sum.inr (9, mO g 2 fShift fModels fItems fEnded fLow fRange fCache fPend fGoes fOuts fIns fReads fBad fIR fAsk fBAsk fCode fRL fRR fX fWrites 0))]) (va_runS (As := [Value.int p2, Value.int 1, Value.int 12]) (rest := []) ⟨hx, hb, hml, hown, hts⟩ (c_M_in l dC dI cI cM cO H.size p2 1 12) (cwS 3 hts (my_gS k1062 k1063 k12 k1064) rfl rfl rfl (by decide +kernel) ⟨by rw [hR]; exact Nat.le_of_ble_eq_true rfl, by rw [hR]; exact Nat.le_of_ble_eq_true rfl⟩) (my_pre hK hN (hP.sub [] rfl) (hD.sub [] (by decide +kernel) rfl)) rfl rfl hl.1 rfl (lv_room (Nat.le_of_ble_eq_true rfl)) d_M_bits_22 ⟨by rw [hR]; exact Nat.le_of_ble_eq_true rfl, by rw [hR]; exact Nat.le_of_ble_eq_true rfl⟩) hP hD hS hA [] [0] rfl rfl (by decide +kernel) (by decide +kernel) (fun r_22 u9 H locs hw_22 hP hD hS => ?_)
    have hw_22 : r_22 = if 1 ≤ p2 ∧ p2 ≤ 12 then 1 else 0 := hw_22
    have hPD : my_PD (dC, dI) vwCl A [(o, Sum.inr (9, mO g 2 fShift fModels fItems fEnded fLow fRange fCache fPend fGoes fOuts fIns fReads fBad fIR fAsk fBAsk fCode fRL fRR fX fWrites 0))] H := ⟨hP, hD⟩
    have hP := hPD.1
    have hD := hPD.2
    refine lv_if_eq (tgt := 41) hx hb d_M_bits_25 (by decide) (fun c_2 => ?_) (fun c_2 => ?_)
    · refine lv_bipush (v := (-2)) hx hb d_M_bits_41 (by decide) ?_
      exact my_iret (v := (-2)) hx hb hr (rfl) hlocks hQ hK hS (Nat.le_refl _) (Nat.le_refl _) () (rfl) (hP.sub [0] rfl) (hD.sub [0] (by decide +kernel) rfl) d_M_bits_43
    · refine lv_iload_n hx hb d_M_bits_28 rfl (lv_at hl 1 rfl) ?_
      refine lv_iconst (v := 0) hx hb d_M_bits_29 (by decide) ?_
      refine lv_iconst (v := 1) hx hb d_M_bits_30 (by decide) ?_
      refine lv_iload_n hx hb d_M_bits_31 rfl (lv_at hl 2 rfl) ?_
      refine lv_ishl hx hb d_M_bits_32 ?_
      refine lv_topi (fun v_3 ev_3 => ?_)
      refine lv_iconst (v := 1) hx hb d_M_bits_33 (by decide) ?_
      refine lv_isub hx hb d_M_bits_34 ?_
      refine lv_topi (fun v_4 ev_4 => ?_)
      refine my_ci (wr := [(o, Sum.inr (9, mO g 2 fShift fModels fItems fEnded fLow fRange fCache fPend fGoes fOuts fIns fReads fBad fIR fAsk fBAsk fCode fRL fRR fX fWrites 0))]) (va_runS (As := [Value.int p1, Value.int 0, Value.int v_4]) (rest := []) ⟨hx, hb, hml, hown, hts⟩ (c_M_in l dC dI cI cM cO H.size p1 0 v_4) (cwS 3 hts (my_gS k1062 k1063 k12 k1064) rfl rfl rfl (by decide +kernel) ⟨by rw [hR]; exact Nat.le_of_ble_eq_true rfl, by rw [hR]; exact Nat.le_of_ble_eq_true rfl⟩) (my_pre hK hN (hP.sub [] rfl) (hD.sub [] (by decide +kernel) rfl)) rfl rfl hl.1 rfl (lv_room (Nat.le_of_ble_eq_true rfl)) d_M_bits_35 ⟨by rw [hR]; exact Nat.le_of_ble_eq_true rfl, by rw [hR]; exact Nat.le_of_ble_eq_true rfl⟩) hP hD hS hA [] [0] rfl rfl (by decide +kernel) (by decide +kernel) (fun r_35 u9 H locs hw_35 hP hD hS => ?_)
      have hw_35 : r_35 = if 0 ≤ p1 ∧ p1 ≤ v_4 then 1 else 0 := hw_35
      have hPD : my_PD (dC, dI) vwCl A [(o, Sum.inr (9, mO g 2 fShift fModels fItems fEnded fLow fRange fCache fPend fGoes fOuts fIns fReads fBad fIR fAsk fBAsk fCode fRL fRR fX fWrites 0))] H := ⟨hP, hD⟩
      have hP := hPD.1
      have hD := hPD.2
      refine lv_if_ne (tgt := 44) hx hb d_M_bits_38 (by decide) (fun c_5 => ?_) (fun c_5 => ?_)
      · exact absurd (one_ne hw_35 c_5) (okB_no (by decide) hno (one_ne hw_22 c_2) (by subst_vars; rfl))
      · refine lv_bipush (v := (-2)) hx hb d_M_bits_41 (by decide) ?_
        exact my_iret (v := (-2)) hx hb hr (rfl) hlocks hQ hK hS (Nat.le_refl _) (Nat.le_refl _) () (rfl) (hP.sub [0] rfl) (hD.sub [0] (by decide +kernel) rfl) d_M_bits_43
  · exact absurd c_1 (by decide)
set_option maxHeartbeats 2000000 in
set_option maxRecDepth 100000 in
theorem m_bits2E (l : Launch) (dC : Nat → ClassId) (dI : Nat → Nat → Nat) (cI cM cO : ClassId) (sz : Nat) (o : Nat) (g : Nat → Nat) (fShift : Int32) (fModels : Int32) (fItems : Int32) (fEnded : Int32) (fLow : Int64) (fRange : Int64) (fCache : Int32) (fPend : Int32) (fGoes : Int32) (fOuts : Int32) (fIns : Int32) (fReads : Int32) (fBad : Int32) (fIR : Int32) (fAsk : Int32) (fBAsk : Int32) (fCode : Int64) (fRL : Int64) (fRR : Int64) (fX : Int64) (fWrites : Int32) (fThrown : Int32) (vv : Nat) (bb : Nat) (hb1 : 1 ≤ bb) (hb2 : bb ≤ 12) (hv : vv < 2 ^ bb) (hen : ¬ fEnded = 0) : MetI l y_M_bits (Cond.code y_M_bits prog_14_method_30_code 3 (some .int) :: gw) ({ frames := 1, cells := 0, slots := 0, locals := 22 } : Room) (dC, dI) vwCl (kT cI cM cO) [Value.ref o, Value.int (nI vv), Value.int (nI bb)] [(o, Sum.inr (9, mO g 2 fShift fModels fItems fEnded fLow fRange fCache fPend fGoes fOuts fIns fReads fBad fIR fAsk fBAsk fCode fRL fRR fX fWrites fThrown))] sz (fun (r : Int32) (u : Unit) => r = -3) (fun (u : Unit) => [(o, Sum.inr (9, mO g 2 fShift fModels fItems fEnded fLow fRange fCache fPend fGoes fOuts fIns fReads fBad fIR fAsk fBAsk fCode fRL fRR fX fWrites 0))]) 0 0 := by
  refine my_ofI (cc := prog_14_method_30_code) (n := 3) (ret := (some .int)) (by decide) rfl (Nat.le_of_ble_eq_true rfl) ?_
  intro p e s m args below meth c R Q A ls H locs hx hb hr hts hown hlocks hml hnm hR hQ hA hl hP hK hN hD hS
  have hg : ∀ w ∈ gw, w.before args s = true := fun w h => hts w (List.mem_cons_of_mem _ h)
  have hown : s.vm.findClass "RangeCodersModel" = some m.cls := hown
  have hl : lv_has ls 3 [(0, Value.ref o), (1, Value.int (nI vv)), (2, Value.int (nI bb))] := hl
  have hp12 : 2 ^ bb ≤ 4096 := pw12 (by omega)
  have hp0 := Nat.two_pow_pos bb
  refine lv_aload_n hx hb d_M_bits_0 rfl (lv_at hl 0 rfl) ?_
  refine lv_iconst (v := 0) hx hb d_M_bits_1 (by decide) ?_
  refine va_put (D := (dC, dI)) (ci := 9) (v := .int 0) (ty := .int) (C := "RangeCodersModel") (T := T_M) (N := 35) hx hb hg in_M t_M o_M n_M hown hK hP hD hS 0 rfl rfl 34 (by decide) (hg _ k986) (fun _ h9 => h9) rfl (o_M 34 (by decide)) rfl rfl (Nat.le_of_ble_eq_true rfl) d_M_bits_2 (fun H locs hP hD hS => ?_)
  have hPD : my_PD (dC, dI) vwCl A [(o, Sum.inr (9, mO g 2 fShift fModels fItems fEnded fLow fRange fCache fPend fGoes fOuts fIns fReads fBad fIR fAsk fBAsk fCode fRL fRR fX fWrites 0))] H := ⟨hP, hD⟩
  have hP := hPD.1
  have hD := hPD.2
  refine lv_iload_n hx hb d_M_bits_5 rfl (lv_at hl 2 rfl) ?_
  refine lv_iconst (v := 1) hx hb d_M_bits_6 (by decide) ?_
  refine lv_aload_n hx hb d_M_bits_7 rfl (lv_at hl 0 rfl) ?_
  refine va_get (D := (dC, dI)) (ci := 9) (v := .int 2) (C := "RangeCodersModel") (T := T_M) (N := 35) hx hb hg in_M hown hK hP 0 rfl rfl 0 (by decide) (hg _ k952) (fun _ h9 => h9) rfl d_M_bits_8 ?_
  refine lv_iconst (v := 4) hx hb d_M_bits_11 (by decide) ?_
  refine lv_icmp_ne (tgt := 20) hx hb d_M_bits_12 (by decide) (fun c_1 => ?_) (fun c_1 => ?_)
  · refine lv_bipush (v := 12) hx hb d_M_bits_20 (by decide) ?_
    refine my_ci (wr := [(o, Sum.inr (9, mO g 2 fShift fModels fItems fEnded fLow fRange fCache fPend fGoes fOuts fIns fReads fBad fIR fAsk fBAsk fCode fRL fRR fX fWrites 0))]) (va_runS (As := [Value.int (nI bb), Value.int 1, Value.int 12]) (rest := []) ⟨hx, hb, hml, hown, hts⟩ (c_M_in l dC dI cI cM cO H.size (nI bb) 1 12) (cwS 3 hts (my_gS k1062 k1063 k12 k1064) rfl rfl rfl (by decide +kernel) ⟨by rw [hR]; exact Nat.le_of_ble_eq_true rfl, by rw [hR]; exact Nat.le_of_ble_eq_true rfl⟩) (my_pre hK hN (hP.sub [] rfl) (hD.sub [] (by decide +kernel) rfl)) rfl rfl hl.1 rfl (lv_room (Nat.le_of_ble_eq_true rfl)) d_M_bits_22 ⟨by rw [hR]; exact Nat.le_of_ble_eq_true rfl, by rw [hR]; exact Nat.le_of_ble_eq_true rfl⟩) hP hD hS hA [] [0] rfl rfl (by decide +kernel) (by decide +kernel) (fun r_22 u9 H locs hw_22 hP hD hS => ?_)
    have hw_22 : r_22 = if 1 ≤ (nI bb) ∧ (nI bb) ≤ 12 then 1 else 0 := hw_22
    have hPD : my_PD (dC, dI) vwCl A [(o, Sum.inr (9, mO g 2 fShift fModels fItems fEnded fLow fRange fCache fPend fGoes fOuts fIns fReads fBad fIR fAsk fBAsk fCode fRL fRR fX fWrites 0))] H := ⟨hP, hD⟩
    have hP := hPD.1
    have hD := hPD.2
    refine lv_if_eq (tgt := 41) hx hb d_M_bits_25 (by decide) (fun c_2 => ?_) (fun c_2 => ?_)
    · exact absurd (show 1 ≤ nI bb ∧ nI bb ≤ nI 12 from ⟨nI_le (a := 1) hb1 (by omega), nI_le hb2 (by decide)⟩) (one_eq hw_22 c_2)
    · refine lv_iload_n hx hb d_M_bits_28 rfl (lv_at hl 1 rfl) ?_
      refine lv_iconst (v := 0) hx hb d_M_bits_29 (by decide) ?_
      refine lv_iconst (v := 1) hx hb d_M_bits_30 (by decide) ?_
      refine lv_iload_n hx hb d_M_bits_31 rfl (lv_at hl 2 rfl) ?_
      refine lv_ishl hx hb d_M_bits_32 ?_
      refine lv_topi (fun v_3 ev_3 => ?_)
      have z9 : v_3 = nI (2 ^ bb) := by rw [ev_3]; exact shl1 _ (by omega)
      subst z9
      refine lv_iconst (v := 1) hx hb d_M_bits_33 (by decide) ?_
      refine lv_isub hx hb d_M_bits_34 ?_
      refine lv_topi (fun v_4 ev_4 => ?_)
      have z9 : v_4 = nI (2 ^ bb - 1) := by rw [ev_4]; exact nI_pred9 hp0
      subst z9
      refine my_ci (wr := [(o, Sum.inr (9, mO g 2 fShift fModels fItems fEnded fLow fRange fCache fPend fGoes fOuts fIns fReads fBad fIR fAsk fBAsk fCode fRL fRR fX fWrites 0))]) (va_runS (As := [Value.int (nI vv), Value.int 0, Value.int (nI (2 ^ bb - 1))]) (rest := []) ⟨hx, hb, hml, hown, hts⟩ (c_M_in l dC dI cI cM cO H.size (nI vv) 0 (nI (2 ^ bb - 1))) (cwS 3 hts (my_gS k1062 k1063 k12 k1064) rfl rfl rfl (by decide +kernel) ⟨by rw [hR]; exact Nat.le_of_ble_eq_true rfl, by rw [hR]; exact Nat.le_of_ble_eq_true rfl⟩) (my_pre hK hN (hP.sub [] rfl) (hD.sub [] (by decide +kernel) rfl)) rfl rfl hl.1 rfl (lv_room (Nat.le_of_ble_eq_true rfl)) d_M_bits_35 ⟨by rw [hR]; exact Nat.le_of_ble_eq_true rfl, by rw [hR]; exact Nat.le_of_ble_eq_true rfl⟩) hP hD hS hA [] [0] rfl rfl (by decide +kernel) (by decide +kernel) (fun r_35 u9 H locs hw_35 hP hD hS => ?_)
      have hw_35 : r_35 = if 0 ≤ (nI vv) ∧ (nI vv) ≤ (nI (2 ^ bb - 1)) then 1 else 0 := hw_35
      have hPD : my_PD (dC, dI) vwCl A [(o, Sum.inr (9, mO g 2 fShift fModels fItems fEnded fLow fRange fCache fPend fGoes fOuts fIns fReads fBad fIR fAsk fBAsk fCode fRL fRR fX fWrites 0))] H := ⟨hP, hD⟩
      have hP := hPD.1
      have hD := hPD.2
      refine lv_if_ne (tgt := 44) hx hb d_M_bits_38 (by decide) (fun c_5 => ?_) (fun c_5 => ?_)
      · refine lv_aload_n hx hb d_M_bits_44 rfl (lv_at hl 0 rfl) ?_
        refine va_get (D := (dC, dI)) (ci := 9) (v := .int fEnded) (C := "RangeCodersModel") (T := T_M) (N := 35) hx hb hg in_M hown hK hP 0 rfl rfl 10 (by decide) (hg _ k962) (fun _ h9 => h9) rfl d_M_bits_45 ?_
        refine lv_if_eq (tgt := 54) hx hb d_M_bits_48 (by decide) (fun c_6 => ?_) (fun c_6 => ?_)
        · exact absurd c_6 hen
        · refine lv_bipush (v := (-3)) hx hb d_M_bits_51 (by decide) ?_
          exact my_iret (v := (-3)) hx hb hr (rfl) hlocks hQ hK hS (Nat.le_refl _) (Nat.le_refl _) () (rfl) (hP.sub [0] rfl) (hD.sub [0] (by decide +kernel) rfl) d_M_bits_53
      · exact absurd ⟨nI_pos' (by omega), nI_le (by omega) (by omega)⟩ (one_eq hw_35 c_5)
  · exact absurd c_1 (by decide)
set_option maxHeartbeats 2000000 in
set_option maxRecDepth 100000 in
theorem m_bits2R (l : Launch) (dC : Nat → ClassId) (dI : Nat → Nat → Nat) (cI cM cO : ClassId) (sz : Nat) (o : Nat) (g : Nat → Nat) (fShift : Int32) (fModels : Int32) (fLow : Int64) (fRange : Int64) (fCache : Int32) (fPend : Int32) (fGoes : Int32) (fOuts : Int32) (fIns : Int32) (fReads : Int32) (fBad : Int32) (fIR : Int32) (fAsk : Int32) (fBAsk : Int32) (fCode : Int64) (fRL : Int64) (fRR : Int64) (fX : Int64) (fWrites : Int32) (fThrown : Int32) (vv : Nat) (bb : Nat) (ki : Nat) (hb1 : 1 ≤ bb) (hb2 : bb ≤ 12) (hv : vv < 2 ^ bb) (hk6 : ki = 600) : MetI l y_M_bits (Cond.code y_M_bits prog_14_method_30_code 3 (some .int) :: gw) ({ frames := 1, cells := 0, slots := 0, locals := 22 } : Room) (dC, dI) vwCl (kT cI cM cO) [Value.ref o, Value.int (nI vv), Value.int (nI bb)] [(o, Sum.inr (9, mO g 2 fShift fModels (nI ki) 0 fLow fRange fCache fPend fGoes fOuts fIns fReads fBad fIR fAsk fBAsk fCode fRL fRR fX fWrites fThrown))] sz (fun (r : Int32) (u : Unit) => r = -4) (fun (u : Unit) => [(o, Sum.inr (9, mO g 2 fShift fModels (nI ki) 0 fLow fRange fCache fPend fGoes fOuts fIns fReads fBad fIR fAsk fBAsk fCode fRL fRR fX fWrites 0))]) 0 0 := by
  refine my_ofI (cc := prog_14_method_30_code) (n := 3) (ret := (some .int)) (by decide) rfl (Nat.le_of_ble_eq_true rfl) ?_
  intro p e s m args below meth c R Q A ls H locs hx hb hr hts hown hlocks hml hnm hR hQ hA hl hP hK hN hD hS
  have hg : ∀ w ∈ gw, w.before args s = true := fun w h => hts w (List.mem_cons_of_mem _ h)
  have hown : s.vm.findClass "RangeCodersModel" = some m.cls := hown
  have hl : lv_has ls 3 [(0, Value.ref o), (1, Value.int (nI vv)), (2, Value.int (nI bb))] := hl
  have hp12 : 2 ^ bb ≤ 4096 := pw12 (by omega)
  have hp0 := Nat.two_pow_pos bb
  refine lv_aload_n hx hb d_M_bits_0 rfl (lv_at hl 0 rfl) ?_
  refine lv_iconst (v := 0) hx hb d_M_bits_1 (by decide) ?_
  refine va_put (D := (dC, dI)) (ci := 9) (v := .int 0) (ty := .int) (C := "RangeCodersModel") (T := T_M) (N := 35) hx hb hg in_M t_M o_M n_M hown hK hP hD hS 0 rfl rfl 34 (by decide) (hg _ k986) (fun _ h9 => h9) rfl (o_M 34 (by decide)) rfl rfl (Nat.le_of_ble_eq_true rfl) d_M_bits_2 (fun H locs hP hD hS => ?_)
  have hPD : my_PD (dC, dI) vwCl A [(o, Sum.inr (9, mO g 2 fShift fModels (nI ki) 0 fLow fRange fCache fPend fGoes fOuts fIns fReads fBad fIR fAsk fBAsk fCode fRL fRR fX fWrites 0))] H := ⟨hP, hD⟩
  have hP := hPD.1
  have hD := hPD.2
  refine lv_iload_n hx hb d_M_bits_5 rfl (lv_at hl 2 rfl) ?_
  refine lv_iconst (v := 1) hx hb d_M_bits_6 (by decide) ?_
  refine lv_aload_n hx hb d_M_bits_7 rfl (lv_at hl 0 rfl) ?_
  refine va_get (D := (dC, dI)) (ci := 9) (v := .int 2) (C := "RangeCodersModel") (T := T_M) (N := 35) hx hb hg in_M hown hK hP 0 rfl rfl 0 (by decide) (hg _ k952) (fun _ h9 => h9) rfl d_M_bits_8 ?_
  refine lv_iconst (v := 4) hx hb d_M_bits_11 (by decide) ?_
  refine lv_icmp_ne (tgt := 20) hx hb d_M_bits_12 (by decide) (fun c_1 => ?_) (fun c_1 => ?_)
  · refine lv_bipush (v := 12) hx hb d_M_bits_20 (by decide) ?_
    refine my_ci (wr := [(o, Sum.inr (9, mO g 2 fShift fModels (nI ki) 0 fLow fRange fCache fPend fGoes fOuts fIns fReads fBad fIR fAsk fBAsk fCode fRL fRR fX fWrites 0))]) (va_runS (As := [Value.int (nI bb), Value.int 1, Value.int 12]) (rest := []) ⟨hx, hb, hml, hown, hts⟩ (c_M_in l dC dI cI cM cO H.size (nI bb) 1 12) (cwS 3 hts (my_gS k1062 k1063 k12 k1064) rfl rfl rfl (by decide +kernel) ⟨by rw [hR]; exact Nat.le_of_ble_eq_true rfl, by rw [hR]; exact Nat.le_of_ble_eq_true rfl⟩) (my_pre hK hN (hP.sub [] rfl) (hD.sub [] (by decide +kernel) rfl)) rfl rfl hl.1 rfl (lv_room (Nat.le_of_ble_eq_true rfl)) d_M_bits_22 ⟨by rw [hR]; exact Nat.le_of_ble_eq_true rfl, by rw [hR]; exact Nat.le_of_ble_eq_true rfl⟩) hP hD hS hA [] [0] rfl rfl (by decide +kernel) (by decide +kernel) (fun r_22 u9 H locs hw_22 hP hD hS => ?_)
    have hw_22 : r_22 = if 1 ≤ (nI bb) ∧ (nI bb) ≤ 12 then 1 else 0 := hw_22
    have hPD : my_PD (dC, dI) vwCl A [(o, Sum.inr (9, mO g 2 fShift fModels (nI ki) 0 fLow fRange fCache fPend fGoes fOuts fIns fReads fBad fIR fAsk fBAsk fCode fRL fRR fX fWrites 0))] H := ⟨hP, hD⟩
    have hP := hPD.1
    have hD := hPD.2
    refine lv_if_eq (tgt := 41) hx hb d_M_bits_25 (by decide) (fun c_2 => ?_) (fun c_2 => ?_)
    · exact absurd (show 1 ≤ nI bb ∧ nI bb ≤ nI 12 from ⟨nI_le (a := 1) hb1 (by omega), nI_le hb2 (by decide)⟩) (one_eq hw_22 c_2)
    · refine lv_iload_n hx hb d_M_bits_28 rfl (lv_at hl 1 rfl) ?_
      refine lv_iconst (v := 0) hx hb d_M_bits_29 (by decide) ?_
      refine lv_iconst (v := 1) hx hb d_M_bits_30 (by decide) ?_
      refine lv_iload_n hx hb d_M_bits_31 rfl (lv_at hl 2 rfl) ?_
      refine lv_ishl hx hb d_M_bits_32 ?_
      refine lv_topi (fun v_3 ev_3 => ?_)
      have z9 : v_3 = nI (2 ^ bb) := by rw [ev_3]; exact shl1 _ (by omega)
      subst z9
      refine lv_iconst (v := 1) hx hb d_M_bits_33 (by decide) ?_
      refine lv_isub hx hb d_M_bits_34 ?_
      refine lv_topi (fun v_4 ev_4 => ?_)
      have z9 : v_4 = nI (2 ^ bb - 1) := by rw [ev_4]; exact nI_pred9 hp0
      subst z9
      refine my_ci (wr := [(o, Sum.inr (9, mO g 2 fShift fModels (nI ki) 0 fLow fRange fCache fPend fGoes fOuts fIns fReads fBad fIR fAsk fBAsk fCode fRL fRR fX fWrites 0))]) (va_runS (As := [Value.int (nI vv), Value.int 0, Value.int (nI (2 ^ bb - 1))]) (rest := []) ⟨hx, hb, hml, hown, hts⟩ (c_M_in l dC dI cI cM cO H.size (nI vv) 0 (nI (2 ^ bb - 1))) (cwS 3 hts (my_gS k1062 k1063 k12 k1064) rfl rfl rfl (by decide +kernel) ⟨by rw [hR]; exact Nat.le_of_ble_eq_true rfl, by rw [hR]; exact Nat.le_of_ble_eq_true rfl⟩) (my_pre hK hN (hP.sub [] rfl) (hD.sub [] (by decide +kernel) rfl)) rfl rfl hl.1 rfl (lv_room (Nat.le_of_ble_eq_true rfl)) d_M_bits_35 ⟨by rw [hR]; exact Nat.le_of_ble_eq_true rfl, by rw [hR]; exact Nat.le_of_ble_eq_true rfl⟩) hP hD hS hA [] [0] rfl rfl (by decide +kernel) (by decide +kernel) (fun r_35 u9 H locs hw_35 hP hD hS => ?_)
      have hw_35 : r_35 = if 0 ≤ (nI vv) ∧ (nI vv) ≤ (nI (2 ^ bb - 1)) then 1 else 0 := hw_35
      have hPD : my_PD (dC, dI) vwCl A [(o, Sum.inr (9, mO g 2 fShift fModels (nI ki) 0 fLow fRange fCache fPend fGoes fOuts fIns fReads fBad fIR fAsk fBAsk fCode fRL fRR fX fWrites 0))] H := ⟨hP, hD⟩
      have hP := hPD.1
      have hD := hPD.2
      refine lv_if_ne (tgt := 44) hx hb d_M_bits_38 (by decide) (fun c_5 => ?_) (fun c_5 => ?_)
      · refine lv_aload_n hx hb d_M_bits_44 rfl (lv_at hl 0 rfl) ?_
        refine va_get (D := (dC, dI)) (ci := 9) (v := .int 0) (C := "RangeCodersModel") (T := T_M) (N := 35) hx hb hg in_M hown hK hP 0 rfl rfl 10 (by decide) (hg _ k962) (fun _ h9 => h9) rfl d_M_bits_45 ?_
        refine lv_if_eq (tgt := 54) hx hb d_M_bits_48 (by decide) (fun c_6 => ?_) (fun c_6 => ?_)
        · refine lv_aload_n hx hb d_M_bits_54 rfl (lv_at hl 0 rfl) ?_
          refine va_get (D := (dC, dI)) (ci := 9) (v := .int (nI ki)) (C := "RangeCodersModel") (T := T_M) (N := 35) hx hb hg in_M hown hK hP 0 rfl rfl 7 (by decide) (hg _ k959) (fun _ h9 => h9) rfl d_M_bits_55 ?_
          refine lv_sipush (v := 600) hx hb d_M_bits_58 (by decide) ?_
          refine lv_icmp_ne (tgt := 67) hx hb d_M_bits_61 (by decide) (fun c_7 => ?_) (fun c_7 => ?_)
          · exact absurd (by rw [hk6]; rfl) c_7
          · refine lv_bipush (v := (-4)) hx hb d_M_bits_64 (by decide) ?_
            exact my_iret (v := (-4)) hx hb hr (rfl) hlocks hQ hK hS (Nat.le_refl _) (Nat.le_refl _) () (rfl) (hP.sub [0] rfl) (hD.sub [0] (by decide +kernel) rfl) d_M_bits_66
        · exact absurd (by decide) c_6
      · exact absurd ⟨nI_pos' (by omega), nI_le (by omega) (by omega)⟩ (one_eq hw_35 c_5)
  · exact absurd c_1 (by decide)
set_option maxHeartbeats 2000000 in
set_option maxRecDepth 100000 in
theorem m_bits3W (l : Launch) (dC : Nat → ClassId) (dI : Nat → Nat → Nat) (cI cM cO : ClassId) (sz : Nat) (o : Nat) (g : Nat → Nat) (fShift : Int32) (fModels : Int32) (fItems : Int32) (fEnded : Int32) (fLow : Int64) (fRange : Int64) (fCache : Int32) (fPend : Int32) (fGoes : Int32) (fOuts : Int32) (fIns : Int32) (fReads : Int32) (fBad : Int32) (fIR : Int32) (fAsk : Int32) (fBAsk : Int32) (fCode : Int64) (fRL : Int64) (fRR : Int64) (fX : Int64) (fWrites : Int32) (fThrown : Int32) (p1 : Int32) (p2 : Int32) (hno : ¬ okB 12 p1 p2) : MetI l y_M_bits (Cond.code y_M_bits prog_14_method_30_code 3 (some .int) :: gw) ({ frames := 1, cells := 0, slots := 0, locals := 22 } : Room) (dC, dI) vwCl (kT cI cM cO) [Value.ref o, Value.int p1, Value.int p2] [(o, Sum.inr (9, mO g 3 fShift fModels fItems fEnded fLow fRange fCache fPend fGoes fOuts fIns fReads fBad fIR fAsk fBAsk fCode fRL fRR fX fWrites fThrown))] sz (fun (r : Int32) (u : Unit) => r = -2) (fun (u : Unit) => [(o, Sum.inr (9, mO g 3 fShift fModels fItems fEnded fLow fRange fCache fPend fGoes fOuts fIns fReads fBad fIR fAsk fBAsk fCode fRL fRR fX fWrites 0))]) 0 0 := by
  refine my_ofI (cc := prog_14_method_30_code) (n := 3) (ret := (some .int)) (by decide) rfl (Nat.le_of_ble_eq_true rfl) ?_
  intro p e s m args below meth c R Q A ls H locs hx hb hr hts hown hlocks hml hnm hR hQ hA hl hP hK hN hD hS
  have hg : ∀ w ∈ gw, w.before args s = true := fun w h => hts w (List.mem_cons_of_mem _ h)
  have hown : s.vm.findClass "RangeCodersModel" = some m.cls := hown
  have hl : lv_has ls 3 [(0, Value.ref o), (1, Value.int p1), (2, Value.int p2)] := hl
  refine lv_aload_n hx hb d_M_bits_0 rfl (lv_at hl 0 rfl) ?_
  refine lv_iconst (v := 0) hx hb d_M_bits_1 (by decide) ?_
  refine va_put (D := (dC, dI)) (ci := 9) (v := .int 0) (ty := .int) (C := "RangeCodersModel") (T := T_M) (N := 35) hx hb hg in_M t_M o_M n_M hown hK hP hD hS 0 rfl rfl 34 (by decide) (hg _ k986) (fun _ h9 => h9) rfl (o_M 34 (by decide)) rfl rfl (Nat.le_of_ble_eq_true rfl) d_M_bits_2 (fun H locs hP hD hS => ?_)
  have hPD : my_PD (dC, dI) vwCl A [(o, Sum.inr (9, mO g 3 fShift fModels fItems fEnded fLow fRange fCache fPend fGoes fOuts fIns fReads fBad fIR fAsk fBAsk fCode fRL fRR fX fWrites 0))] H := ⟨hP, hD⟩
  have hP := hPD.1
  have hD := hPD.2
  refine lv_iload_n hx hb d_M_bits_5 rfl (lv_at hl 2 rfl) ?_
  refine lv_iconst (v := 1) hx hb d_M_bits_6 (by decide) ?_
  refine lv_aload_n hx hb d_M_bits_7 rfl (lv_at hl 0 rfl) ?_
  refine va_get (D := (dC, dI)) (ci := 9) (v := .int 3) (C := "RangeCodersModel") (T := T_M) (N := 35) hx hb hg in_M hown hK hP 0 rfl rfl 0 (by decide) (hg _ k952) (fun _ h9 => h9) rfl d_M_bits_8 ?_
  refine lv_iconst (v := 4) hx hb d_M_bits_11 (by decide) ?_
  refine lv_icmp_ne (tgt := 20) hx hb d_M_bits_12 (by decide) (fun c_1 => ?_) (fun c_1 => ?_)
  · refine lv_bipush (v := 12) hx hb d_M_bits_20 (by decide) ?_
    refine my_ci (wr := [(o, Sum.inr (9, mO g 3 fShift fModels fItems fEnded fLow fRange fCache fPend fGoes fOuts fIns fReads fBad fIR fAsk fBAsk fCode fRL fRR fX fWrites 0))]) (va_runS (As := [Value.int p2, Value.int 1, Value.int 12]) (rest := []) ⟨hx, hb, hml, hown, hts⟩ (c_M_in l dC dI cI cM cO H.size p2 1 12) (cwS 3 hts (my_gS k1062 k1063 k12 k1064) rfl rfl rfl (by decide +kernel) ⟨by rw [hR]; exact Nat.le_of_ble_eq_true rfl, by rw [hR]; exact Nat.le_of_ble_eq_true rfl⟩) (my_pre hK hN (hP.sub [] rfl) (hD.sub [] (by decide +kernel) rfl)) rfl rfl hl.1 rfl (lv_room (Nat.le_of_ble_eq_true rfl)) d_M_bits_22 ⟨by rw [hR]; exact Nat.le_of_ble_eq_true rfl, by rw [hR]; exact Nat.le_of_ble_eq_true rfl⟩) hP hD hS hA [] [0] rfl rfl (by decide +kernel) (by decide +kernel) (fun r_22 u9 H locs hw_22 hP hD hS => ?_)
    have hw_22 : r_22 = if 1 ≤ p2 ∧ p2 ≤ 12 then 1 else 0 := hw_22
    have hPD : my_PD (dC, dI) vwCl A [(o, Sum.inr (9, mO g 3 fShift fModels fItems fEnded fLow fRange fCache fPend fGoes fOuts fIns fReads fBad fIR fAsk fBAsk fCode fRL fRR fX fWrites 0))] H := ⟨hP, hD⟩
    have hP := hPD.1
    have hD := hPD.2
    refine lv_if_eq (tgt := 41) hx hb d_M_bits_25 (by decide) (fun c_2 => ?_) (fun c_2 => ?_)
    · refine lv_bipush (v := (-2)) hx hb d_M_bits_41 (by decide) ?_
      exact my_iret (v := (-2)) hx hb hr (rfl) hlocks hQ hK hS (Nat.le_refl _) (Nat.le_refl _) () (rfl) (hP.sub [0] rfl) (hD.sub [0] (by decide +kernel) rfl) d_M_bits_43
    · refine lv_iload_n hx hb d_M_bits_28 rfl (lv_at hl 1 rfl) ?_
      refine lv_iconst (v := 0) hx hb d_M_bits_29 (by decide) ?_
      refine lv_iconst (v := 1) hx hb d_M_bits_30 (by decide) ?_
      refine lv_iload_n hx hb d_M_bits_31 rfl (lv_at hl 2 rfl) ?_
      refine lv_ishl hx hb d_M_bits_32 ?_
      refine lv_topi (fun v_3 ev_3 => ?_)
      refine lv_iconst (v := 1) hx hb d_M_bits_33 (by decide) ?_
      refine lv_isub hx hb d_M_bits_34 ?_
      refine lv_topi (fun v_4 ev_4 => ?_)
      refine my_ci (wr := [(o, Sum.inr (9, mO g 3 fShift fModels fItems fEnded fLow fRange fCache fPend fGoes fOuts fIns fReads fBad fIR fAsk fBAsk fCode fRL fRR fX fWrites 0))]) (va_runS (As := [Value.int p1, Value.int 0, Value.int v_4]) (rest := []) ⟨hx, hb, hml, hown, hts⟩ (c_M_in l dC dI cI cM cO H.size p1 0 v_4) (cwS 3 hts (my_gS k1062 k1063 k12 k1064) rfl rfl rfl (by decide +kernel) ⟨by rw [hR]; exact Nat.le_of_ble_eq_true rfl, by rw [hR]; exact Nat.le_of_ble_eq_true rfl⟩) (my_pre hK hN (hP.sub [] rfl) (hD.sub [] (by decide +kernel) rfl)) rfl rfl hl.1 rfl (lv_room (Nat.le_of_ble_eq_true rfl)) d_M_bits_35 ⟨by rw [hR]; exact Nat.le_of_ble_eq_true rfl, by rw [hR]; exact Nat.le_of_ble_eq_true rfl⟩) hP hD hS hA [] [0] rfl rfl (by decide +kernel) (by decide +kernel) (fun r_35 u9 H locs hw_35 hP hD hS => ?_)
      have hw_35 : r_35 = if 0 ≤ p1 ∧ p1 ≤ v_4 then 1 else 0 := hw_35
      have hPD : my_PD (dC, dI) vwCl A [(o, Sum.inr (9, mO g 3 fShift fModels fItems fEnded fLow fRange fCache fPend fGoes fOuts fIns fReads fBad fIR fAsk fBAsk fCode fRL fRR fX fWrites 0))] H := ⟨hP, hD⟩
      have hP := hPD.1
      have hD := hPD.2
      refine lv_if_ne (tgt := 44) hx hb d_M_bits_38 (by decide) (fun c_5 => ?_) (fun c_5 => ?_)
      · exact absurd (one_ne hw_35 c_5) (okB_no (by decide) hno (one_ne hw_22 c_2) (by subst_vars; rfl))
      · refine lv_bipush (v := (-2)) hx hb d_M_bits_41 (by decide) ?_
        exact my_iret (v := (-2)) hx hb hr (rfl) hlocks hQ hK hS (Nat.le_refl _) (Nat.le_refl _) () (rfl) (hP.sub [0] rfl) (hD.sub [0] (by decide +kernel) rfl) d_M_bits_43
  · exact absurd c_1 (by decide)
set_option maxHeartbeats 2000000 in
set_option maxRecDepth 100000 in
theorem m_bits3E (l : Launch) (dC : Nat → ClassId) (dI : Nat → Nat → Nat) (cI cM cO : ClassId) (sz : Nat) (o : Nat) (g : Nat → Nat) (fShift : Int32) (fModels : Int32) (fItems : Int32) (fEnded : Int32) (fLow : Int64) (fRange : Int64) (fCache : Int32) (fPend : Int32) (fGoes : Int32) (fOuts : Int32) (fIns : Int32) (fReads : Int32) (fBad : Int32) (fIR : Int32) (fAsk : Int32) (fBAsk : Int32) (fCode : Int64) (fRL : Int64) (fRR : Int64) (fX : Int64) (fWrites : Int32) (fThrown : Int32) (vv : Nat) (bb : Nat) (hb1 : 1 ≤ bb) (hb2 : bb ≤ 12) (hv : vv < 2 ^ bb) (hen : ¬ fEnded = 0) : MetI l y_M_bits (Cond.code y_M_bits prog_14_method_30_code 3 (some .int) :: gw) ({ frames := 1, cells := 0, slots := 0, locals := 22 } : Room) (dC, dI) vwCl (kT cI cM cO) [Value.ref o, Value.int (nI vv), Value.int (nI bb)] [(o, Sum.inr (9, mO g 3 fShift fModels fItems fEnded fLow fRange fCache fPend fGoes fOuts fIns fReads fBad fIR fAsk fBAsk fCode fRL fRR fX fWrites fThrown))] sz (fun (r : Int32) (u : Unit) => r = -3) (fun (u : Unit) => [(o, Sum.inr (9, mO g 3 fShift fModels fItems fEnded fLow fRange fCache fPend fGoes fOuts fIns fReads fBad fIR fAsk fBAsk fCode fRL fRR fX fWrites 0))]) 0 0 := by
  refine my_ofI (cc := prog_14_method_30_code) (n := 3) (ret := (some .int)) (by decide) rfl (Nat.le_of_ble_eq_true rfl) ?_
  intro p e s m args below meth c R Q A ls H locs hx hb hr hts hown hlocks hml hnm hR hQ hA hl hP hK hN hD hS
  have hg : ∀ w ∈ gw, w.before args s = true := fun w h => hts w (List.mem_cons_of_mem _ h)
  have hown : s.vm.findClass "RangeCodersModel" = some m.cls := hown
  have hl : lv_has ls 3 [(0, Value.ref o), (1, Value.int (nI vv)), (2, Value.int (nI bb))] := hl
  have hp12 : 2 ^ bb ≤ 4096 := pw12 (by omega)
  have hp0 := Nat.two_pow_pos bb
  refine lv_aload_n hx hb d_M_bits_0 rfl (lv_at hl 0 rfl) ?_
  refine lv_iconst (v := 0) hx hb d_M_bits_1 (by decide) ?_
  refine va_put (D := (dC, dI)) (ci := 9) (v := .int 0) (ty := .int) (C := "RangeCodersModel") (T := T_M) (N := 35) hx hb hg in_M t_M o_M n_M hown hK hP hD hS 0 rfl rfl 34 (by decide) (hg _ k986) (fun _ h9 => h9) rfl (o_M 34 (by decide)) rfl rfl (Nat.le_of_ble_eq_true rfl) d_M_bits_2 (fun H locs hP hD hS => ?_)
  have hPD : my_PD (dC, dI) vwCl A [(o, Sum.inr (9, mO g 3 fShift fModels fItems fEnded fLow fRange fCache fPend fGoes fOuts fIns fReads fBad fIR fAsk fBAsk fCode fRL fRR fX fWrites 0))] H := ⟨hP, hD⟩
  have hP := hPD.1
  have hD := hPD.2
  refine lv_iload_n hx hb d_M_bits_5 rfl (lv_at hl 2 rfl) ?_
  refine lv_iconst (v := 1) hx hb d_M_bits_6 (by decide) ?_
  refine lv_aload_n hx hb d_M_bits_7 rfl (lv_at hl 0 rfl) ?_
  refine va_get (D := (dC, dI)) (ci := 9) (v := .int 3) (C := "RangeCodersModel") (T := T_M) (N := 35) hx hb hg in_M hown hK hP 0 rfl rfl 0 (by decide) (hg _ k952) (fun _ h9 => h9) rfl d_M_bits_8 ?_
  refine lv_iconst (v := 4) hx hb d_M_bits_11 (by decide) ?_
  refine lv_icmp_ne (tgt := 20) hx hb d_M_bits_12 (by decide) (fun c_1 => ?_) (fun c_1 => ?_)
  · refine lv_bipush (v := 12) hx hb d_M_bits_20 (by decide) ?_
    refine my_ci (wr := [(o, Sum.inr (9, mO g 3 fShift fModels fItems fEnded fLow fRange fCache fPend fGoes fOuts fIns fReads fBad fIR fAsk fBAsk fCode fRL fRR fX fWrites 0))]) (va_runS (As := [Value.int (nI bb), Value.int 1, Value.int 12]) (rest := []) ⟨hx, hb, hml, hown, hts⟩ (c_M_in l dC dI cI cM cO H.size (nI bb) 1 12) (cwS 3 hts (my_gS k1062 k1063 k12 k1064) rfl rfl rfl (by decide +kernel) ⟨by rw [hR]; exact Nat.le_of_ble_eq_true rfl, by rw [hR]; exact Nat.le_of_ble_eq_true rfl⟩) (my_pre hK hN (hP.sub [] rfl) (hD.sub [] (by decide +kernel) rfl)) rfl rfl hl.1 rfl (lv_room (Nat.le_of_ble_eq_true rfl)) d_M_bits_22 ⟨by rw [hR]; exact Nat.le_of_ble_eq_true rfl, by rw [hR]; exact Nat.le_of_ble_eq_true rfl⟩) hP hD hS hA [] [0] rfl rfl (by decide +kernel) (by decide +kernel) (fun r_22 u9 H locs hw_22 hP hD hS => ?_)
    have hw_22 : r_22 = if 1 ≤ (nI bb) ∧ (nI bb) ≤ 12 then 1 else 0 := hw_22
    have hPD : my_PD (dC, dI) vwCl A [(o, Sum.inr (9, mO g 3 fShift fModels fItems fEnded fLow fRange fCache fPend fGoes fOuts fIns fReads fBad fIR fAsk fBAsk fCode fRL fRR fX fWrites 0))] H := ⟨hP, hD⟩
    have hP := hPD.1
    have hD := hPD.2
    refine lv_if_eq (tgt := 41) hx hb d_M_bits_25 (by decide) (fun c_2 => ?_) (fun c_2 => ?_)
    · exact absurd (show 1 ≤ nI bb ∧ nI bb ≤ nI 12 from ⟨nI_le (a := 1) hb1 (by omega), nI_le hb2 (by decide)⟩) (one_eq hw_22 c_2)
    · refine lv_iload_n hx hb d_M_bits_28 rfl (lv_at hl 1 rfl) ?_
      refine lv_iconst (v := 0) hx hb d_M_bits_29 (by decide) ?_
      refine lv_iconst (v := 1) hx hb d_M_bits_30 (by decide) ?_
      refine lv_iload_n hx hb d_M_bits_31 rfl (lv_at hl 2 rfl) ?_
      refine lv_ishl hx hb d_M_bits_32 ?_
      refine lv_topi (fun v_3 ev_3 => ?_)
      have z9 : v_3 = nI (2 ^ bb) := by rw [ev_3]; exact shl1 _ (by omega)
      subst z9
      refine lv_iconst (v := 1) hx hb d_M_bits_33 (by decide) ?_
      refine lv_isub hx hb d_M_bits_34 ?_
      refine lv_topi (fun v_4 ev_4 => ?_)
      have z9 : v_4 = nI (2 ^ bb - 1) := by rw [ev_4]; exact nI_pred9 hp0
      subst z9
      refine my_ci (wr := [(o, Sum.inr (9, mO g 3 fShift fModels fItems fEnded fLow fRange fCache fPend fGoes fOuts fIns fReads fBad fIR fAsk fBAsk fCode fRL fRR fX fWrites 0))]) (va_runS (As := [Value.int (nI vv), Value.int 0, Value.int (nI (2 ^ bb - 1))]) (rest := []) ⟨hx, hb, hml, hown, hts⟩ (c_M_in l dC dI cI cM cO H.size (nI vv) 0 (nI (2 ^ bb - 1))) (cwS 3 hts (my_gS k1062 k1063 k12 k1064) rfl rfl rfl (by decide +kernel) ⟨by rw [hR]; exact Nat.le_of_ble_eq_true rfl, by rw [hR]; exact Nat.le_of_ble_eq_true rfl⟩) (my_pre hK hN (hP.sub [] rfl) (hD.sub [] (by decide +kernel) rfl)) rfl rfl hl.1 rfl (lv_room (Nat.le_of_ble_eq_true rfl)) d_M_bits_35 ⟨by rw [hR]; exact Nat.le_of_ble_eq_true rfl, by rw [hR]; exact Nat.le_of_ble_eq_true rfl⟩) hP hD hS hA [] [0] rfl rfl (by decide +kernel) (by decide +kernel) (fun r_35 u9 H locs hw_35 hP hD hS => ?_)
      have hw_35 : r_35 = if 0 ≤ (nI vv) ∧ (nI vv) ≤ (nI (2 ^ bb - 1)) then 1 else 0 := hw_35
      have hPD : my_PD (dC, dI) vwCl A [(o, Sum.inr (9, mO g 3 fShift fModels fItems fEnded fLow fRange fCache fPend fGoes fOuts fIns fReads fBad fIR fAsk fBAsk fCode fRL fRR fX fWrites 0))] H := ⟨hP, hD⟩
      have hP := hPD.1
      have hD := hPD.2
      refine lv_if_ne (tgt := 44) hx hb d_M_bits_38 (by decide) (fun c_5 => ?_) (fun c_5 => ?_)
      · refine lv_aload_n hx hb d_M_bits_44 rfl (lv_at hl 0 rfl) ?_
        refine va_get (D := (dC, dI)) (ci := 9) (v := .int fEnded) (C := "RangeCodersModel") (T := T_M) (N := 35) hx hb hg in_M hown hK hP 0 rfl rfl 10 (by decide) (hg _ k962) (fun _ h9 => h9) rfl d_M_bits_45 ?_
        refine lv_if_eq (tgt := 54) hx hb d_M_bits_48 (by decide) (fun c_6 => ?_) (fun c_6 => ?_)
        · exact absurd c_6 hen
        · refine lv_bipush (v := (-3)) hx hb d_M_bits_51 (by decide) ?_
          exact my_iret (v := (-3)) hx hb hr (rfl) hlocks hQ hK hS (Nat.le_refl _) (Nat.le_refl _) () (rfl) (hP.sub [0] rfl) (hD.sub [0] (by decide +kernel) rfl) d_M_bits_53
      · exact absurd ⟨nI_pos' (by omega), nI_le (by omega) (by omega)⟩ (one_eq hw_35 c_5)
  · exact absurd c_1 (by decide)
set_option maxHeartbeats 2000000 in
set_option maxRecDepth 100000 in
theorem m_bits3R (l : Launch) (dC : Nat → ClassId) (dI : Nat → Nat → Nat) (cI cM cO : ClassId) (sz : Nat) (o : Nat) (g : Nat → Nat) (fShift : Int32) (fModels : Int32) (fLow : Int64) (fRange : Int64) (fCache : Int32) (fPend : Int32) (fGoes : Int32) (fOuts : Int32) (fIns : Int32) (fReads : Int32) (fBad : Int32) (fIR : Int32) (fAsk : Int32) (fBAsk : Int32) (fCode : Int64) (fRL : Int64) (fRR : Int64) (fX : Int64) (fWrites : Int32) (fThrown : Int32) (vv : Nat) (bb : Nat) (ki : Nat) (hb1 : 1 ≤ bb) (hb2 : bb ≤ 12) (hv : vv < 2 ^ bb) (hk6 : ki = 600) : MetI l y_M_bits (Cond.code y_M_bits prog_14_method_30_code 3 (some .int) :: gw) ({ frames := 1, cells := 0, slots := 0, locals := 22 } : Room) (dC, dI) vwCl (kT cI cM cO) [Value.ref o, Value.int (nI vv), Value.int (nI bb)] [(o, Sum.inr (9, mO g 3 fShift fModels (nI ki) 0 fLow fRange fCache fPend fGoes fOuts fIns fReads fBad fIR fAsk fBAsk fCode fRL fRR fX fWrites fThrown))] sz (fun (r : Int32) (u : Unit) => r = -4) (fun (u : Unit) => [(o, Sum.inr (9, mO g 3 fShift fModels (nI ki) 0 fLow fRange fCache fPend fGoes fOuts fIns fReads fBad fIR fAsk fBAsk fCode fRL fRR fX fWrites 0))]) 0 0 := by
  refine my_ofI (cc := prog_14_method_30_code) (n := 3) (ret := (some .int)) (by decide) rfl (Nat.le_of_ble_eq_true rfl) ?_
  intro p e s m args below meth c R Q A ls H locs hx hb hr hts hown hlocks hml hnm hR hQ hA hl hP hK hN hD hS
  have hg : ∀ w ∈ gw, w.before args s = true := fun w h => hts w (List.mem_cons_of_mem _ h)
  have hown : s.vm.findClass "RangeCodersModel" = some m.cls := hown
  have hl : lv_has ls 3 [(0, Value.ref o), (1, Value.int (nI vv)), (2, Value.int (nI bb))] := hl
  have hp12 : 2 ^ bb ≤ 4096 := pw12 (by omega)
  have hp0 := Nat.two_pow_pos bb
  refine lv_aload_n hx hb d_M_bits_0 rfl (lv_at hl 0 rfl) ?_
  refine lv_iconst (v := 0) hx hb d_M_bits_1 (by decide) ?_
  refine va_put (D := (dC, dI)) (ci := 9) (v := .int 0) (ty := .int) (C := "RangeCodersModel") (T := T_M) (N := 35) hx hb hg in_M t_M o_M n_M hown hK hP hD hS 0 rfl rfl 34 (by decide) (hg _ k986) (fun _ h9 => h9) rfl (o_M 34 (by decide)) rfl rfl (Nat.le_of_ble_eq_true rfl) d_M_bits_2 (fun H locs hP hD hS => ?_)
  have hPD : my_PD (dC, dI) vwCl A [(o, Sum.inr (9, mO g 3 fShift fModels (nI ki) 0 fLow fRange fCache fPend fGoes fOuts fIns fReads fBad fIR fAsk fBAsk fCode fRL fRR fX fWrites 0))] H := ⟨hP, hD⟩
  have hP := hPD.1
  have hD := hPD.2
  refine lv_iload_n hx hb d_M_bits_5 rfl (lv_at hl 2 rfl) ?_
  refine lv_iconst (v := 1) hx hb d_M_bits_6 (by decide) ?_
  refine lv_aload_n hx hb d_M_bits_7 rfl (lv_at hl 0 rfl) ?_
  refine va_get (D := (dC, dI)) (ci := 9) (v := .int 3) (C := "RangeCodersModel") (T := T_M) (N := 35) hx hb hg in_M hown hK hP 0 rfl rfl 0 (by decide) (hg _ k952) (fun _ h9 => h9) rfl d_M_bits_8 ?_
  refine lv_iconst (v := 4) hx hb d_M_bits_11 (by decide) ?_
  refine lv_icmp_ne (tgt := 20) hx hb d_M_bits_12 (by decide) (fun c_1 => ?_) (fun c_1 => ?_)
  · refine lv_bipush (v := 12) hx hb d_M_bits_20 (by decide) ?_
    refine my_ci (wr := [(o, Sum.inr (9, mO g 3 fShift fModels (nI ki) 0 fLow fRange fCache fPend fGoes fOuts fIns fReads fBad fIR fAsk fBAsk fCode fRL fRR fX fWrites 0))]) (va_runS (As := [Value.int (nI bb), Value.int 1, Value.int 12]) (rest := []) ⟨hx, hb, hml, hown, hts⟩ (c_M_in l dC dI cI cM cO H.size (nI bb) 1 12) (cwS 3 hts (my_gS k1062 k1063 k12 k1064) rfl rfl rfl (by decide +kernel) ⟨by rw [hR]; exact Nat.le_of_ble_eq_true rfl, by rw [hR]; exact Nat.le_of_ble_eq_true rfl⟩) (my_pre hK hN (hP.sub [] rfl) (hD.sub [] (by decide +kernel) rfl)) rfl rfl hl.1 rfl (lv_room (Nat.le_of_ble_eq_true rfl)) d_M_bits_22 ⟨by rw [hR]; exact Nat.le_of_ble_eq_true rfl, by rw [hR]; exact Nat.le_of_ble_eq_true rfl⟩) hP hD hS hA [] [0] rfl rfl (by decide +kernel) (by decide +kernel) (fun r_22 u9 H locs hw_22 hP hD hS => ?_)
    have hw_22 : r_22 = if 1 ≤ (nI bb) ∧ (nI bb) ≤ 12 then 1 else 0 := hw_22
    have hPD : my_PD (dC, dI) vwCl A [(o, Sum.inr (9, mO g 3 fShift fModels (nI ki) 0 fLow fRange fCache fPend fGoes fOuts fIns fReads fBad fIR fAsk fBAsk fCode fRL fRR fX fWrites 0))] H := ⟨hP, hD⟩
    have hP := hPD.1
    have hD := hPD.2
    refine lv_if_eq (tgt := 41) hx hb d_M_bits_25 (by decide) (fun c_2 => ?_) (fun c_2 => ?_)
    · exact absurd (show 1 ≤ nI bb ∧ nI bb ≤ nI 12 from ⟨nI_le (a := 1) hb1 (by omega), nI_le hb2 (by decide)⟩) (one_eq hw_22 c_2)
    · refine lv_iload_n hx hb d_M_bits_28 rfl (lv_at hl 1 rfl) ?_
      refine lv_iconst (v := 0) hx hb d_M_bits_29 (by decide) ?_
      refine lv_iconst (v := 1) hx hb d_M_bits_30 (by decide) ?_
      refine lv_iload_n hx hb d_M_bits_31 rfl (lv_at hl 2 rfl) ?_
      refine lv_ishl hx hb d_M_bits_32 ?_
      refine lv_topi (fun v_3 ev_3 => ?_)
      have z9 : v_3 = nI (2 ^ bb) := by rw [ev_3]; exact shl1 _ (by omega)
      subst z9
      refine lv_iconst (v := 1) hx hb d_M_bits_33 (by decide) ?_
      refine lv_isub hx hb d_M_bits_34 ?_
      refine lv_topi (fun v_4 ev_4 => ?_)
      have z9 : v_4 = nI (2 ^ bb - 1) := by rw [ev_4]; exact nI_pred9 hp0
      subst z9
      refine my_ci (wr := [(o, Sum.inr (9, mO g 3 fShift fModels (nI ki) 0 fLow fRange fCache fPend fGoes fOuts fIns fReads fBad fIR fAsk fBAsk fCode fRL fRR fX fWrites 0))]) (va_runS (As := [Value.int (nI vv), Value.int 0, Value.int (nI (2 ^ bb - 1))]) (rest := []) ⟨hx, hb, hml, hown, hts⟩ (c_M_in l dC dI cI cM cO H.size (nI vv) 0 (nI (2 ^ bb - 1))) (cwS 3 hts (my_gS k1062 k1063 k12 k1064) rfl rfl rfl (by decide +kernel) ⟨by rw [hR]; exact Nat.le_of_ble_eq_true rfl, by rw [hR]; exact Nat.le_of_ble_eq_true rfl⟩) (my_pre hK hN (hP.sub [] rfl) (hD.sub [] (by decide +kernel) rfl)) rfl rfl hl.1 rfl (lv_room (Nat.le_of_ble_eq_true rfl)) d_M_bits_35 ⟨by rw [hR]; exact Nat.le_of_ble_eq_true rfl, by rw [hR]; exact Nat.le_of_ble_eq_true rfl⟩) hP hD hS hA [] [0] rfl rfl (by decide +kernel) (by decide +kernel) (fun r_35 u9 H locs hw_35 hP hD hS => ?_)
      have hw_35 : r_35 = if 0 ≤ (nI vv) ∧ (nI vv) ≤ (nI (2 ^ bb - 1)) then 1 else 0 := hw_35
      have hPD : my_PD (dC, dI) vwCl A [(o, Sum.inr (9, mO g 3 fShift fModels (nI ki) 0 fLow fRange fCache fPend fGoes fOuts fIns fReads fBad fIR fAsk fBAsk fCode fRL fRR fX fWrites 0))] H := ⟨hP, hD⟩
      have hP := hPD.1
      have hD := hPD.2
      refine lv_if_ne (tgt := 44) hx hb d_M_bits_38 (by decide) (fun c_5 => ?_) (fun c_5 => ?_)
      · refine lv_aload_n hx hb d_M_bits_44 rfl (lv_at hl 0 rfl) ?_
        refine va_get (D := (dC, dI)) (ci := 9) (v := .int 0) (C := "RangeCodersModel") (T := T_M) (N := 35) hx hb hg in_M hown hK hP 0 rfl rfl 10 (by decide) (hg _ k962) (fun _ h9 => h9) rfl d_M_bits_45 ?_
        refine lv_if_eq (tgt := 54) hx hb d_M_bits_48 (by decide) (fun c_6 => ?_) (fun c_6 => ?_)
        · refine lv_aload_n hx hb d_M_bits_54 rfl (lv_at hl 0 rfl) ?_
          refine va_get (D := (dC, dI)) (ci := 9) (v := .int (nI ki)) (C := "RangeCodersModel") (T := T_M) (N := 35) hx hb hg in_M hown hK hP 0 rfl rfl 7 (by decide) (hg _ k959) (fun _ h9 => h9) rfl d_M_bits_55 ?_
          refine lv_sipush (v := 600) hx hb d_M_bits_58 (by decide) ?_
          refine lv_icmp_ne (tgt := 67) hx hb d_M_bits_61 (by decide) (fun c_7 => ?_) (fun c_7 => ?_)
          · exact absurd (by rw [hk6]; rfl) c_7
          · refine lv_bipush (v := (-4)) hx hb d_M_bits_64 (by decide) ?_
            exact my_iret (v := (-4)) hx hb hr (rfl) hlocks hQ hK hS (Nat.le_refl _) (Nat.le_refl _) () (rfl) (hP.sub [0] rfl) (hD.sub [0] (by decide +kernel) rfl) d_M_bits_66
        · exact absurd (by decide) c_6
      · exact absurd ⟨nI_pos' (by omega), nI_le (by omega) (by omega)⟩ (one_eq hw_35 c_5)
  · exact absurd c_1 (by decide)
set_option maxHeartbeats 2000000 in
set_option maxRecDepth 100000 in
theorem m_bits4W (l : Launch) (dC : Nat → ClassId) (dI : Nat → Nat → Nat) (cI cM cO : ClassId) (sz : Nat) (o : Nat) (g : Nat → Nat) (fShift : Int32) (fModels : Int32) (fItems : Int32) (fEnded : Int32) (fLow : Int64) (fRange : Int64) (fCache : Int32) (fPend : Int32) (fGoes : Int32) (fOuts : Int32) (fIns : Int32) (fReads : Int32) (fBad : Int32) (fIR : Int32) (fAsk : Int32) (fBAsk : Int32) (fCode : Int64) (fRL : Int64) (fRR : Int64) (fX : Int64) (fWrites : Int32) (fThrown : Int32) (p1 : Int32) (p2 : Int32) (hno : ¬ okB 9 p1 p2) : MetI l y_M_bits (Cond.code y_M_bits prog_14_method_30_code 3 (some .int) :: gw) ({ frames := 1, cells := 0, slots := 0, locals := 22 } : Room) (dC, dI) vwCl (kT cI cM cO) [Value.ref o, Value.int p1, Value.int p2] [(o, Sum.inr (9, mO g 4 fShift fModels fItems fEnded fLow fRange fCache fPend fGoes fOuts fIns fReads fBad fIR fAsk fBAsk fCode fRL fRR fX fWrites fThrown))] sz (fun (r : Int32) (u : Unit) => r = -2) (fun (u : Unit) => [(o, Sum.inr (9, mO g 4 fShift fModels fItems fEnded fLow fRange fCache fPend fGoes fOuts fIns fReads fBad fIR fAsk fBAsk fCode fRL fRR fX fWrites 0))]) 0 0 := by
  refine my_ofI (cc := prog_14_method_30_code) (n := 3) (ret := (some .int)) (by decide) rfl (Nat.le_of_ble_eq_true rfl) ?_
  intro p e s m args below meth c R Q A ls H locs hx hb hr hts hown hlocks hml hnm hR hQ hA hl hP hK hN hD hS
  have hg : ∀ w ∈ gw, w.before args s = true := fun w h => hts w (List.mem_cons_of_mem _ h)
  have hown : s.vm.findClass "RangeCodersModel" = some m.cls := hown
  have hl : lv_has ls 3 [(0, Value.ref o), (1, Value.int p1), (2, Value.int p2)] := hl
  refine lv_aload_n hx hb d_M_bits_0 rfl (lv_at hl 0 rfl) ?_
  refine lv_iconst (v := 0) hx hb d_M_bits_1 (by decide) ?_
  refine va_put (D := (dC, dI)) (ci := 9) (v := .int 0) (ty := .int) (C := "RangeCodersModel") (T := T_M) (N := 35) hx hb hg in_M t_M o_M n_M hown hK hP hD hS 0 rfl rfl 34 (by decide) (hg _ k986) (fun _ h9 => h9) rfl (o_M 34 (by decide)) rfl rfl (Nat.le_of_ble_eq_true rfl) d_M_bits_2 (fun H locs hP hD hS => ?_)
  have hPD : my_PD (dC, dI) vwCl A [(o, Sum.inr (9, mO g 4 fShift fModels fItems fEnded fLow fRange fCache fPend fGoes fOuts fIns fReads fBad fIR fAsk fBAsk fCode fRL fRR fX fWrites 0))] H := ⟨hP, hD⟩
  have hP := hPD.1
  have hD := hPD.2
  refine lv_iload_n hx hb d_M_bits_5 rfl (lv_at hl 2 rfl) ?_
  refine lv_iconst (v := 1) hx hb d_M_bits_6 (by decide) ?_
  refine lv_aload_n hx hb d_M_bits_7 rfl (lv_at hl 0 rfl) ?_
  refine va_get (D := (dC, dI)) (ci := 9) (v := .int 4) (C := "RangeCodersModel") (T := T_M) (N := 35) hx hb hg in_M hown hK hP 0 rfl rfl 0 (by decide) (hg _ k952) (fun _ h9 => h9) rfl d_M_bits_8 ?_
  refine lv_iconst (v := 4) hx hb d_M_bits_11 (by decide) ?_
  refine lv_icmp_ne (tgt := 20) hx hb d_M_bits_12 (by decide) (fun c_1 => ?_) (fun c_1 => ?_)
  · exact absurd rfl c_1
  · refine lv_bipush (v := 9) hx hb d_M_bits_15 (by decide) ?_
    refine lv_goto (tgt := 22) hx hb d_M_bits_17 (by decide) ?_
    refine my_ci (wr := [(o, Sum.inr (9, mO g 4 fShift fModels fItems fEnded fLow fRange fCache fPend fGoes fOuts fIns fReads fBad fIR fAsk fBAsk fCode fRL fRR fX fWrites 0))]) (va_runS (As := [Value.int p2, Value.int 1, Value.int 9]) (rest := []) ⟨hx, hb, hml, hown, hts⟩ (c_M_in l dC dI cI cM cO H.size p2 1 9) (cwS 3 hts (my_gS k1062 k1063 k12 k1064) rfl rfl rfl (by decide +kernel) ⟨by rw [hR]; exact Nat.le_of_ble_eq_true rfl, by rw [hR]; exact Nat.le_of_ble_eq_true rfl⟩) (my_pre hK hN (hP.sub [] rfl) (hD.sub [] (by decide +kernel) rfl)) rfl rfl hl.1 rfl (lv_room (Nat.le_of_ble_eq_true rfl)) d_M_bits_22 ⟨by rw [hR]; exact Nat.le_of_ble_eq_true rfl, by rw [hR]; exact Nat.le_of_ble_eq_true rfl⟩) hP hD hS hA [] [0] rfl rfl (by decide +kernel) (by decide +kernel) (fun r_22 u9 H locs hw_22 hP hD hS => ?_)
    have hw_22 : r_22 = if 1 ≤ p2 ∧ p2 ≤ 9 then 1 else 0 := hw_22
    have hPD : my_PD (dC, dI) vwCl A [(o, Sum.inr (9, mO g 4 fShift fModels fItems fEnded fLow fRange fCache fPend fGoes fOuts fIns fReads fBad fIR fAsk fBAsk fCode fRL fRR fX fWrites 0))] H := ⟨hP, hD⟩
    have hP := hPD.1
    have hD := hPD.2
    refine lv_if_eq (tgt := 41) hx hb d_M_bits_25 (by decide) (fun c_2 => ?_) (fun c_2 => ?_)
    · refine lv_bipush (v := (-2)) hx hb d_M_bits_41 (by decide) ?_
      exact my_iret (v := (-2)) hx hb hr (rfl) hlocks hQ hK hS (Nat.le_refl _) (Nat.le_refl _) () (rfl) (hP.sub [0] rfl) (hD.sub [0] (by decide +kernel) rfl) d_M_bits_43
    · refine lv_iload_n hx hb d_M_bits_28 rfl (lv_at hl 1 rfl) ?_
      refine lv_iconst (v := 0) hx hb d_M_bits_29 (by decide) ?_
      refine lv_iconst (v := 1) hx hb d_M_bits_30 (by decide) ?_
      refine lv_iload_n hx hb d_M_bits_31 rfl (lv_at hl 2 rfl) ?_
      refine lv_ishl hx hb d_M_bits_32 ?_
      refine lv_topi (fun v_3 ev_3 => ?_)
      refine lv_iconst (v := 1) hx hb d_M_bits_33 (by decide) ?_
      refine lv_isub hx hb d_M_bits_34 ?_
      refine lv_topi (fun v_4 ev_4 => ?_)
      refine my_ci (wr := [(o, Sum.inr (9, mO g 4 fShift fModels fItems fEnded fLow fRange fCache fPend fGoes fOuts fIns fReads fBad fIR fAsk fBAsk fCode fRL fRR fX fWrites 0))]) (va_runS (As := [Value.int p1, Value.int 0, Value.int v_4]) (rest := []) ⟨hx, hb, hml, hown, hts⟩ (c_M_in l dC dI cI cM cO H.size p1 0 v_4) (cwS 3 hts (my_gS k1062 k1063 k12 k1064) rfl rfl rfl (by decide +kernel) ⟨by rw [hR]; exact Nat.le_of_ble_eq_true rfl, by rw [hR]; exact Nat.le_of_ble_eq_true rfl⟩) (my_pre hK hN (hP.sub [] rfl) (hD.sub [] (by decide +kernel) rfl)) rfl rfl hl.1 rfl (lv_room (Nat.le_of_ble_eq_true rfl)) d_M_bits_35 ⟨by rw [hR]; exact Nat.le_of_ble_eq_true rfl, by rw [hR]; exact Nat.le_of_ble_eq_true rfl⟩) hP hD hS hA [] [0] rfl rfl (by decide +kernel) (by decide +kernel) (fun r_35 u9 H locs hw_35 hP hD hS => ?_)
      have hw_35 : r_35 = if 0 ≤ p1 ∧ p1 ≤ v_4 then 1 else 0 := hw_35
      have hPD : my_PD (dC, dI) vwCl A [(o, Sum.inr (9, mO g 4 fShift fModels fItems fEnded fLow fRange fCache fPend fGoes fOuts fIns fReads fBad fIR fAsk fBAsk fCode fRL fRR fX fWrites 0))] H := ⟨hP, hD⟩
      have hP := hPD.1
      have hD := hPD.2
      refine lv_if_ne (tgt := 44) hx hb d_M_bits_38 (by decide) (fun c_5 => ?_) (fun c_5 => ?_)
      · exact absurd (one_ne hw_35 c_5) (okB_no (by decide) hno (one_ne hw_22 c_2) (by subst_vars; rfl))
      · refine lv_bipush (v := (-2)) hx hb d_M_bits_41 (by decide) ?_
        exact my_iret (v := (-2)) hx hb hr (rfl) hlocks hQ hK hS (Nat.le_refl _) (Nat.le_refl _) () (rfl) (hP.sub [0] rfl) (hD.sub [0] (by decide +kernel) rfl) d_M_bits_43
set_option maxHeartbeats 2000000 in
set_option maxRecDepth 100000 in
theorem m_bits4E (l : Launch) (dC : Nat → ClassId) (dI : Nat → Nat → Nat) (cI cM cO : ClassId) (sz : Nat) (o : Nat) (g : Nat → Nat) (fShift : Int32) (fModels : Int32) (fItems : Int32) (fEnded : Int32) (fLow : Int64) (fRange : Int64) (fCache : Int32) (fPend : Int32) (fGoes : Int32) (fOuts : Int32) (fIns : Int32) (fReads : Int32) (fBad : Int32) (fIR : Int32) (fAsk : Int32) (fBAsk : Int32) (fCode : Int64) (fRL : Int64) (fRR : Int64) (fX : Int64) (fWrites : Int32) (fThrown : Int32) (vv : Nat) (bb : Nat) (hb1 : 1 ≤ bb) (hb2 : bb ≤ 9) (hv : vv < 2 ^ bb) (hen : ¬ fEnded = 0) : MetI l y_M_bits (Cond.code y_M_bits prog_14_method_30_code 3 (some .int) :: gw) ({ frames := 1, cells := 0, slots := 0, locals := 22 } : Room) (dC, dI) vwCl (kT cI cM cO) [Value.ref o, Value.int (nI vv), Value.int (nI bb)] [(o, Sum.inr (9, mO g 4 fShift fModels fItems fEnded fLow fRange fCache fPend fGoes fOuts fIns fReads fBad fIR fAsk fBAsk fCode fRL fRR fX fWrites fThrown))] sz (fun (r : Int32) (u : Unit) => r = -3) (fun (u : Unit) => [(o, Sum.inr (9, mO g 4 fShift fModels fItems fEnded fLow fRange fCache fPend fGoes fOuts fIns fReads fBad fIR fAsk fBAsk fCode fRL fRR fX fWrites 0))]) 0 0 := by
  refine my_ofI (cc := prog_14_method_30_code) (n := 3) (ret := (some .int)) (by decide) rfl (Nat.le_of_ble_eq_true rfl) ?_
  intro p e s m args below meth c R Q A ls H locs hx hb hr hts hown hlocks hml hnm hR hQ hA hl hP hK hN hD hS
  have hg : ∀ w ∈ gw, w.before args s = true := fun w h => hts w (List.mem_cons_of_mem _ h)
  have hown : s.vm.findClass "RangeCodersModel" = some m.cls := hown
  have hl : lv_has ls 3 [(0, Value.ref o), (1, Value.int (nI vv)), (2, Value.int (nI bb))] := hl
  have hp12 : 2 ^ bb ≤ 4096 := pw12 (by omega)
  have hp0 := Nat.two_pow_pos bb
  refine lv_aload_n hx hb d_M_bits_0 rfl (lv_at hl 0 rfl) ?_
  refine lv_iconst (v := 0) hx hb d_M_bits_1 (by decide) ?_
  refine va_put (D := (dC, dI)) (ci := 9) (v := .int 0) (ty := .int) (C := "RangeCodersModel") (T := T_M) (N := 35) hx hb hg in_M t_M o_M n_M hown hK hP hD hS 0 rfl rfl 34 (by decide) (hg _ k986) (fun _ h9 => h9) rfl (o_M 34 (by decide)) rfl rfl (Nat.le_of_ble_eq_true rfl) d_M_bits_2 (fun H locs hP hD hS => ?_)
  have hPD : my_PD (dC, dI) vwCl A [(o, Sum.inr (9, mO g 4 fShift fModels fItems fEnded fLow fRange fCache fPend fGoes fOuts fIns fReads fBad fIR fAsk fBAsk fCode fRL fRR fX fWrites 0))] H := ⟨hP, hD⟩
  have hP := hPD.1
  have hD := hPD.2
  refine lv_iload_n hx hb d_M_bits_5 rfl (lv_at hl 2 rfl) ?_
  refine lv_iconst (v := 1) hx hb d_M_bits_6 (by decide) ?_
  refine lv_aload_n hx hb d_M_bits_7 rfl (lv_at hl 0 rfl) ?_
  refine va_get (D := (dC, dI)) (ci := 9) (v := .int 4) (C := "RangeCodersModel") (T := T_M) (N := 35) hx hb hg in_M hown hK hP 0 rfl rfl 0 (by decide) (hg _ k952) (fun _ h9 => h9) rfl d_M_bits_8 ?_
  refine lv_iconst (v := 4) hx hb d_M_bits_11 (by decide) ?_
  refine lv_icmp_ne (tgt := 20) hx hb d_M_bits_12 (by decide) (fun c_1 => ?_) (fun c_1 => ?_)
  · exact absurd rfl c_1
  · refine lv_bipush (v := 9) hx hb d_M_bits_15 (by decide) ?_
    refine lv_goto (tgt := 22) hx hb d_M_bits_17 (by decide) ?_
    refine my_ci (wr := [(o, Sum.inr (9, mO g 4 fShift fModels fItems fEnded fLow fRange fCache fPend fGoes fOuts fIns fReads fBad fIR fAsk fBAsk fCode fRL fRR fX fWrites 0))]) (va_runS (As := [Value.int (nI bb), Value.int 1, Value.int 9]) (rest := []) ⟨hx, hb, hml, hown, hts⟩ (c_M_in l dC dI cI cM cO H.size (nI bb) 1 9) (cwS 3 hts (my_gS k1062 k1063 k12 k1064) rfl rfl rfl (by decide +kernel) ⟨by rw [hR]; exact Nat.le_of_ble_eq_true rfl, by rw [hR]; exact Nat.le_of_ble_eq_true rfl⟩) (my_pre hK hN (hP.sub [] rfl) (hD.sub [] (by decide +kernel) rfl)) rfl rfl hl.1 rfl (lv_room (Nat.le_of_ble_eq_true rfl)) d_M_bits_22 ⟨by rw [hR]; exact Nat.le_of_ble_eq_true rfl, by rw [hR]; exact Nat.le_of_ble_eq_true rfl⟩) hP hD hS hA [] [0] rfl rfl (by decide +kernel) (by decide +kernel) (fun r_22 u9 H locs hw_22 hP hD hS => ?_)
    have hw_22 : r_22 = if 1 ≤ (nI bb) ∧ (nI bb) ≤ 9 then 1 else 0 := hw_22
    have hPD : my_PD (dC, dI) vwCl A [(o, Sum.inr (9, mO g 4 fShift fModels fItems fEnded fLow fRange fCache fPend fGoes fOuts fIns fReads fBad fIR fAsk fBAsk fCode fRL fRR fX fWrites 0))] H := ⟨hP, hD⟩
    have hP := hPD.1
    have hD := hPD.2
    refine lv_if_eq (tgt := 41) hx hb d_M_bits_25 (by decide) (fun c_2 => ?_) (fun c_2 => ?_)
    · exact absurd (show 1 ≤ nI bb ∧ nI bb ≤ nI 9 from ⟨nI_le (a := 1) hb1 (by omega), nI_le hb2 (by decide)⟩) (one_eq hw_22 c_2)
    · refine lv_iload_n hx hb d_M_bits_28 rfl (lv_at hl 1 rfl) ?_
      refine lv_iconst (v := 0) hx hb d_M_bits_29 (by decide) ?_
      refine lv_iconst (v := 1) hx hb d_M_bits_30 (by decide) ?_
      refine lv_iload_n hx hb d_M_bits_31 rfl (lv_at hl 2 rfl) ?_
      refine lv_ishl hx hb d_M_bits_32 ?_
      refine lv_topi (fun v_3 ev_3 => ?_)
      have z9 : v_3 = nI (2 ^ bb) := by rw [ev_3]; exact shl1 _ (by omega)
      subst z9
      refine lv_iconst (v := 1) hx hb d_M_bits_33 (by decide) ?_
      refine lv_isub hx hb d_M_bits_34 ?_
      refine lv_topi (fun v_4 ev_4 => ?_)
      have z9 : v_4 = nI (2 ^ bb - 1) := by rw [ev_4]; exact nI_pred9 hp0
      subst z9
      refine my_ci (wr := [(o, Sum.inr (9, mO g 4 fShift fModels fItems fEnded fLow fRange fCache fPend fGoes fOuts fIns fReads fBad fIR fAsk fBAsk fCode fRL fRR fX fWrites 0))]) (va_runS (As := [Value.int (nI vv), Value.int 0, Value.int (nI (2 ^ bb - 1))]) (rest := []) ⟨hx, hb, hml, hown, hts⟩ (c_M_in l dC dI cI cM cO H.size (nI vv) 0 (nI (2 ^ bb - 1))) (cwS 3 hts (my_gS k1062 k1063 k12 k1064) rfl rfl rfl (by decide +kernel) ⟨by rw [hR]; exact Nat.le_of_ble_eq_true rfl, by rw [hR]; exact Nat.le_of_ble_eq_true rfl⟩) (my_pre hK hN (hP.sub [] rfl) (hD.sub [] (by decide +kernel) rfl)) rfl rfl hl.1 rfl (lv_room (Nat.le_of_ble_eq_true rfl)) d_M_bits_35 ⟨by rw [hR]; exact Nat.le_of_ble_eq_true rfl, by rw [hR]; exact Nat.le_of_ble_eq_true rfl⟩) hP hD hS hA [] [0] rfl rfl (by decide +kernel) (by decide +kernel) (fun r_35 u9 H locs hw_35 hP hD hS => ?_)
      have hw_35 : r_35 = if 0 ≤ (nI vv) ∧ (nI vv) ≤ (nI (2 ^ bb - 1)) then 1 else 0 := hw_35
      have hPD : my_PD (dC, dI) vwCl A [(o, Sum.inr (9, mO g 4 fShift fModels fItems fEnded fLow fRange fCache fPend fGoes fOuts fIns fReads fBad fIR fAsk fBAsk fCode fRL fRR fX fWrites 0))] H := ⟨hP, hD⟩
      have hP := hPD.1
      have hD := hPD.2
      refine lv_if_ne (tgt := 44) hx hb d_M_bits_38 (by decide) (fun c_5 => ?_) (fun c_5 => ?_)
      · refine lv_aload_n hx hb d_M_bits_44 rfl (lv_at hl 0 rfl) ?_
        refine va_get (D := (dC, dI)) (ci := 9) (v := .int fEnded) (C := "RangeCodersModel") (T := T_M) (N := 35) hx hb hg in_M hown hK hP 0 rfl rfl 10 (by decide) (hg _ k962) (fun _ h9 => h9) rfl d_M_bits_45 ?_
        refine lv_if_eq (tgt := 54) hx hb d_M_bits_48 (by decide) (fun c_6 => ?_) (fun c_6 => ?_)
        · exact absurd c_6 hen
        · refine lv_bipush (v := (-3)) hx hb d_M_bits_51 (by decide) ?_
          exact my_iret (v := (-3)) hx hb hr (rfl) hlocks hQ hK hS (Nat.le_refl _) (Nat.le_refl _) () (rfl) (hP.sub [0] rfl) (hD.sub [0] (by decide +kernel) rfl) d_M_bits_53
      · exact absurd ⟨nI_pos' (by omega), nI_le (by omega) (by omega)⟩ (one_eq hw_35 c_5)
set_option maxHeartbeats 2000000 in
set_option maxRecDepth 100000 in
theorem m_bits4R (l : Launch) (dC : Nat → ClassId) (dI : Nat → Nat → Nat) (cI cM cO : ClassId) (sz : Nat) (o : Nat) (g : Nat → Nat) (fShift : Int32) (fModels : Int32) (fLow : Int64) (fRange : Int64) (fCache : Int32) (fPend : Int32) (fGoes : Int32) (fOuts : Int32) (fIns : Int32) (fReads : Int32) (fBad : Int32) (fIR : Int32) (fAsk : Int32) (fBAsk : Int32) (fCode : Int64) (fRL : Int64) (fRR : Int64) (fX : Int64) (fWrites : Int32) (fThrown : Int32) (vv : Nat) (bb : Nat) (ki : Nat) (hb1 : 1 ≤ bb) (hb2 : bb ≤ 9) (hv : vv < 2 ^ bb) (hk6 : ki = 600) : MetI l y_M_bits (Cond.code y_M_bits prog_14_method_30_code 3 (some .int) :: gw) ({ frames := 1, cells := 0, slots := 0, locals := 22 } : Room) (dC, dI) vwCl (kT cI cM cO) [Value.ref o, Value.int (nI vv), Value.int (nI bb)] [(o, Sum.inr (9, mO g 4 fShift fModels (nI ki) 0 fLow fRange fCache fPend fGoes fOuts fIns fReads fBad fIR fAsk fBAsk fCode fRL fRR fX fWrites fThrown))] sz (fun (r : Int32) (u : Unit) => r = -4) (fun (u : Unit) => [(o, Sum.inr (9, mO g 4 fShift fModels (nI ki) 0 fLow fRange fCache fPend fGoes fOuts fIns fReads fBad fIR fAsk fBAsk fCode fRL fRR fX fWrites 0))]) 0 0 := by
  refine my_ofI (cc := prog_14_method_30_code) (n := 3) (ret := (some .int)) (by decide) rfl (Nat.le_of_ble_eq_true rfl) ?_
  intro p e s m args below meth c R Q A ls H locs hx hb hr hts hown hlocks hml hnm hR hQ hA hl hP hK hN hD hS
  have hg : ∀ w ∈ gw, w.before args s = true := fun w h => hts w (List.mem_cons_of_mem _ h)
  have hown : s.vm.findClass "RangeCodersModel" = some m.cls := hown
  have hl : lv_has ls 3 [(0, Value.ref o), (1, Value.int (nI vv)), (2, Value.int (nI bb))] := hl
  have hp12 : 2 ^ bb ≤ 4096 := pw12 (by omega)
  have hp0 := Nat.two_pow_pos bb
  refine lv_aload_n hx hb d_M_bits_0 rfl (lv_at hl 0 rfl) ?_
  refine lv_iconst (v := 0) hx hb d_M_bits_1 (by decide) ?_
  refine va_put (D := (dC, dI)) (ci := 9) (v := .int 0) (ty := .int) (C := "RangeCodersModel") (T := T_M) (N := 35) hx hb hg in_M t_M o_M n_M hown hK hP hD hS 0 rfl rfl 34 (by decide) (hg _ k986) (fun _ h9 => h9) rfl (o_M 34 (by decide)) rfl rfl (Nat.le_of_ble_eq_true rfl) d_M_bits_2 (fun H locs hP hD hS => ?_)
  have hPD : my_PD (dC, dI) vwCl A [(o, Sum.inr (9, mO g 4 fShift fModels (nI ki) 0 fLow fRange fCache fPend fGoes fOuts fIns fReads fBad fIR fAsk fBAsk fCode fRL fRR fX fWrites 0))] H := ⟨hP, hD⟩
  have hP := hPD.1
  have hD := hPD.2
  refine lv_iload_n hx hb d_M_bits_5 rfl (lv_at hl 2 rfl) ?_
  refine lv_iconst (v := 1) hx hb d_M_bits_6 (by decide) ?_
  refine lv_aload_n hx hb d_M_bits_7 rfl (lv_at hl 0 rfl) ?_
  refine va_get (D := (dC, dI)) (ci := 9) (v := .int 4) (C := "RangeCodersModel") (T := T_M) (N := 35) hx hb hg in_M hown hK hP 0 rfl rfl 0 (by decide) (hg _ k952) (fun _ h9 => h9) rfl d_M_bits_8 ?_
  refine lv_iconst (v := 4) hx hb d_M_bits_11 (by decide) ?_
  refine lv_icmp_ne (tgt := 20) hx hb d_M_bits_12 (by decide) (fun c_1 => ?_) (fun c_1 => ?_)
  · exact absurd rfl c_1
  · refine lv_bipush (v := 9) hx hb d_M_bits_15 (by decide) ?_
    refine lv_goto (tgt := 22) hx hb d_M_bits_17 (by decide) ?_
    refine my_ci (wr := [(o, Sum.inr (9, mO g 4 fShift fModels (nI ki) 0 fLow fRange fCache fPend fGoes fOuts fIns fReads fBad fIR fAsk fBAsk fCode fRL fRR fX fWrites 0))]) (va_runS (As := [Value.int (nI bb), Value.int 1, Value.int 9]) (rest := []) ⟨hx, hb, hml, hown, hts⟩ (c_M_in l dC dI cI cM cO H.size (nI bb) 1 9) (cwS 3 hts (my_gS k1062 k1063 k12 k1064) rfl rfl rfl (by decide +kernel) ⟨by rw [hR]; exact Nat.le_of_ble_eq_true rfl, by rw [hR]; exact Nat.le_of_ble_eq_true rfl⟩) (my_pre hK hN (hP.sub [] rfl) (hD.sub [] (by decide +kernel) rfl)) rfl rfl hl.1 rfl (lv_room (Nat.le_of_ble_eq_true rfl)) d_M_bits_22 ⟨by rw [hR]; exact Nat.le_of_ble_eq_true rfl, by rw [hR]; exact Nat.le_of_ble_eq_true rfl⟩) hP hD hS hA [] [0] rfl rfl (by decide +kernel) (by decide +kernel) (fun r_22 u9 H locs hw_22 hP hD hS => ?_)
    have hw_22 : r_22 = if 1 ≤ (nI bb) ∧ (nI bb) ≤ 9 then 1 else 0 := hw_22
    have hPD : my_PD (dC, dI) vwCl A [(o, Sum.inr (9, mO g 4 fShift fModels (nI ki) 0 fLow fRange fCache fPend fGoes fOuts fIns fReads fBad fIR fAsk fBAsk fCode fRL fRR fX fWrites 0))] H := ⟨hP, hD⟩
    have hP := hPD.1
    have hD := hPD.2
    refine lv_if_eq (tgt := 41) hx hb d_M_bits_25 (by decide) (fun c_2 => ?_) (fun c_2 => ?_)
    · exact absurd (show 1 ≤ nI bb ∧ nI bb ≤ nI 9 from ⟨nI_le (a := 1) hb1 (by omega), nI_le hb2 (by decide)⟩) (one_eq hw_22 c_2)
    · refine lv_iload_n hx hb d_M_bits_28 rfl (lv_at hl 1 rfl) ?_
      refine lv_iconst (v := 0) hx hb d_M_bits_29 (by decide) ?_
      refine lv_iconst (v := 1) hx hb d_M_bits_30 (by decide) ?_
      refine lv_iload_n hx hb d_M_bits_31 rfl (lv_at hl 2 rfl) ?_
      refine lv_ishl hx hb d_M_bits_32 ?_
      refine lv_topi (fun v_3 ev_3 => ?_)
      have z9 : v_3 = nI (2 ^ bb) := by rw [ev_3]; exact shl1 _ (by omega)
      subst z9
      refine lv_iconst (v := 1) hx hb d_M_bits_33 (by decide) ?_
      refine lv_isub hx hb d_M_bits_34 ?_
      refine lv_topi (fun v_4 ev_4 => ?_)
      have z9 : v_4 = nI (2 ^ bb - 1) := by rw [ev_4]; exact nI_pred9 hp0
      subst z9
      refine my_ci (wr := [(o, Sum.inr (9, mO g 4 fShift fModels (nI ki) 0 fLow fRange fCache fPend fGoes fOuts fIns fReads fBad fIR fAsk fBAsk fCode fRL fRR fX fWrites 0))]) (va_runS (As := [Value.int (nI vv), Value.int 0, Value.int (nI (2 ^ bb - 1))]) (rest := []) ⟨hx, hb, hml, hown, hts⟩ (c_M_in l dC dI cI cM cO H.size (nI vv) 0 (nI (2 ^ bb - 1))) (cwS 3 hts (my_gS k1062 k1063 k12 k1064) rfl rfl rfl (by decide +kernel) ⟨by rw [hR]; exact Nat.le_of_ble_eq_true rfl, by rw [hR]; exact Nat.le_of_ble_eq_true rfl⟩) (my_pre hK hN (hP.sub [] rfl) (hD.sub [] (by decide +kernel) rfl)) rfl rfl hl.1 rfl (lv_room (Nat.le_of_ble_eq_true rfl)) d_M_bits_35 ⟨by rw [hR]; exact Nat.le_of_ble_eq_true rfl, by rw [hR]; exact Nat.le_of_ble_eq_true rfl⟩) hP hD hS hA [] [0] rfl rfl (by decide +kernel) (by decide +kernel) (fun r_35 u9 H locs hw_35 hP hD hS => ?_)
      have hw_35 : r_35 = if 0 ≤ (nI vv) ∧ (nI vv) ≤ (nI (2 ^ bb - 1)) then 1 else 0 := hw_35
      have hPD : my_PD (dC, dI) vwCl A [(o, Sum.inr (9, mO g 4 fShift fModels (nI ki) 0 fLow fRange fCache fPend fGoes fOuts fIns fReads fBad fIR fAsk fBAsk fCode fRL fRR fX fWrites 0))] H := ⟨hP, hD⟩
      have hP := hPD.1
      have hD := hPD.2
      refine lv_if_ne (tgt := 44) hx hb d_M_bits_38 (by decide) (fun c_5 => ?_) (fun c_5 => ?_)
      · refine lv_aload_n hx hb d_M_bits_44 rfl (lv_at hl 0 rfl) ?_
        refine va_get (D := (dC, dI)) (ci := 9) (v := .int 0) (C := "RangeCodersModel") (T := T_M) (N := 35) hx hb hg in_M hown hK hP 0 rfl rfl 10 (by decide) (hg _ k962) (fun _ h9 => h9) rfl d_M_bits_45 ?_
        refine lv_if_eq (tgt := 54) hx hb d_M_bits_48 (by decide) (fun c_6 => ?_) (fun c_6 => ?_)
        · refine lv_aload_n hx hb d_M_bits_54 rfl (lv_at hl 0 rfl) ?_
          refine va_get (D := (dC, dI)) (ci := 9) (v := .int (nI ki)) (C := "RangeCodersModel") (T := T_M) (N := 35) hx hb hg in_M hown hK hP 0 rfl rfl 7 (by decide) (hg _ k959) (fun _ h9 => h9) rfl d_M_bits_55 ?_
          refine lv_sipush (v := 600) hx hb d_M_bits_58 (by decide) ?_
          refine lv_icmp_ne (tgt := 67) hx hb d_M_bits_61 (by decide) (fun c_7 => ?_) (fun c_7 => ?_)
          · exact absurd (by rw [hk6]; rfl) c_7
          · refine lv_bipush (v := (-4)) hx hb d_M_bits_64 (by decide) ?_
            exact my_iret (v := (-4)) hx hb hr (rfl) hlocks hQ hK hS (Nat.le_refl _) (Nat.le_refl _) () (rfl) (hP.sub [0] rfl) (hD.sub [0] (by decide +kernel) rfl) d_M_bits_66
        · exact absurd (by decide) c_6
      · exact absurd ⟨nI_pos' (by omega), nI_le (by omega) (by omega)⟩ (one_eq hw_35 c_5)
end
section
set_option maxHeartbeats 2000000 in
set_option maxRecDepth 100000 in
theorem m_bits0L (l : Launch) (dC : Nat → ClassId) (dI : Nat → Nat → Nat) (cI cM cO : ClassId) (sz : Nat) (o : Nat) (g : Nat → Nat) (fShift : Int32) (fModels : Int32) (fOuts : Int32) (fIns : Int32) (fReads : Int32) (fBad : Int32) (fIR : Int32) (fAsk : Int32) (fBAsk : Int32) (fCode : Int64) (fRL : Int64) (fRR : Int64) (fX : Int64) (fWrites : Int32) (fThrown : Int32) (vIM : Nat → Int32) (vIW : Nat → Int32) (vGoing : Nat → Int32) (vv : Nat) (bb : Nat) (Rg : Nat) (L : Nat) (ca : Option Nat) (Pn : Nat) (bs : List Nat) (ki : Nat) (hb1 : 1 ≤ bb) (hb2 : bb ≤ 12) (hv : vv < 2 ^ bb) (hki : ki < 600) (hE : eInv (Rg, L, ca, Pn, bs)) (hG : gIs vGoing bs) (hN9 : bs.length + Pn + 20 ≤ 9000) : MetI l y_M_bits (Cond.code y_M_bits prog_14_method_30_code 3 (some .int) :: gw) ({ frames := 5, cells := 0, slots := 0, locals := 110 } : Room) (dC, dI) vwCl (kT cI cM cO) [Value.ref o, Value.int (nI vv), Value.int (nI bb)] [(o, Sum.inr (9, mO g 0 fShift fModels (nI ki) 0 (lN L) (lN Rg) (caI ca) (nI Pn) (nI bs.length) fOuts fIns fReads fBad fIR fAsk fBAsk fCode fRL fRR fX fWrites fThrown)), ((g 4), Sum.inl (cI, 600, Sum.inl vIM)), ((g 5), Sum.inl (cI, 600, Sum.inl vIW)), ((g 6), Sum.inl (cI, 9000, Sum.inl vGoing))] sz (fun (r : Int32) (u : (Nat → Int32) × (Nat → Int32) × (Nat → Int32)) => r = nI (ki + 1) ∧ u.1 = upd vIM ki (-nI bb) ∧ u.2.1 = upd vIW ki (nI vv) ∧ gIs u.2.2 (eB (wdS (Rg / 2 ^ bb * 1, L + Rg / 2 ^ bb * vv, ca, Pn, bs)))) (fun (u : (Nat → Int32) × (Nat → Int32) × (Nat → Int32)) => [(o, Sum.inr (9, mO g 0 fShift fModels (nI (ki + 1)) 0 (lN (eL (wdS (Rg / 2 ^ bb * 1, L + Rg / 2 ^ bb * vv, ca, Pn, bs)))) (lN (eR (wdS (Rg / 2 ^ bb * 1, L + Rg / 2 ^ bb * vv, ca, Pn, bs)))) (caI (eC (wdS (Rg / 2 ^ bb * 1, L + Rg / 2 ^ bb * vv, ca, Pn, bs)))) (nI (eP (wdS (Rg / 2 ^ bb * 1, L + Rg / 2 ^ bb * vv, ca, Pn, bs)))) (nI (eB (wdS (Rg / 2 ^ bb * 1, L + Rg / 2 ^ bb * vv, ca, Pn, bs))).length) fOuts fIns fReads fBad fIR fAsk fBAsk fCode fRL fRR fX fWrites 0)), ((g 4), Sum.inl (cI, 600, Sum.inl u.1)), ((g 5), Sum.inl (cI, 600, Sum.inl u.2.1)), ((g 6), Sum.inl (cI, 9000, Sum.inl u.2.2))]) 0 0 := by
  refine my_ofI (cc := prog_14_method_30_code) (n := 3) (ret := (some .int)) (by decide) rfl (Nat.le_of_ble_eq_true rfl) ?_
  intro p e s m args below meth c R Q A ls H locs hx hb hr hts hown hlocks hml hnm hR hQ hA hl hP hK hN hD hS
  have hg : ∀ w ∈ gw, w.before args s = true := fun w h => hts w (List.mem_cons_of_mem _ h)
  have hown : s.vm.findClass "RangeCodersModel" = some m.cls := hown
  have hl : lv_has ls 3 [(0, Value.ref o), (1, Value.int (nI vv)), (2, Value.int (nI bb))] := hl
  have hp12 : 2 ^ bb ≤ 4096 := pw12 (by omega)
  have hp0 := Nat.two_pow_pos bb
  refine lv_aload_n hx hb d_M_bits_0 rfl (lv_at hl 0 rfl) ?_
  refine lv_iconst (v := 0) hx hb d_M_bits_1 (by decide) ?_
  refine va_put (D := (dC, dI)) (ci := 9) (v := .int 0) (ty := .int) (C := "RangeCodersModel") (T := T_M) (N := 35) hx hb hg in_M t_M o_M n_M hown hK hP hD hS 0 rfl rfl 34 (by decide) (hg _ k986) (fun _ h9 => h9) rfl (o_M 34 (by decide)) rfl rfl (Nat.le_of_ble_eq_true rfl) d_M_bits_2 (fun H locs hP hD hS => ?_)
  have hPD : my_PD (dC, dI) vwCl A [(o, Sum.inr (9, mO g 0 fShift fModels (nI ki) 0 (lN L) (lN Rg) (caI ca) (nI Pn) (nI bs.length) fOuts fIns fReads fBad fIR fAsk fBAsk fCode fRL fRR fX fWrites 0)), ((g 4), Sum.inl (cI, 600, Sum.inl vIM)), ((g 5), Sum.inl (cI, 600, Sum.inl vIW)), ((g 6), Sum.inl (cI, 9000, Sum.inl vGoing))] H := ⟨hP, hD⟩
  have hP := hPD.1
  have hD := hPD.2
  refine lv_iload_n hx hb d_M_bits_5 rfl (lv_at hl 2 rfl) ?_
  refine lv_iconst (v := 1) hx hb d_M_bits_6 (by decide) ?_
  refine lv_aload_n hx hb d_M_bits_7 rfl (lv_at hl 0 rfl) ?_
  refine va_get (D := (dC, dI)) (ci := 9) (v := .int 0) (C := "RangeCodersModel") (T := T_M) (N := 35) hx hb hg in_M hown hK hP 0 rfl rfl 0 (by decide) (hg _ k952) (fun _ h9 => h9) rfl d_M_bits_8 ?_
  refine lv_iconst (v := 4) hx hb d_M_bits_11 (by decide) ?_
  refine lv_icmp_ne (tgt := 20) hx hb d_M_bits_12 (by decide) (fun c_1 => ?_) (fun c_1 => ?_)
  · refine lv_bipush (v := 12) hx hb d_M_bits_20 (by decide) ?_
    refine my_ci (wr := [(o, Sum.inr (9, mO g 0 fShift fModels (nI ki) 0 (lN L) (lN Rg) (caI ca) (nI Pn) (nI bs.length) fOuts fIns fReads fBad fIR fAsk fBAsk fCode fRL fRR fX fWrites 0)), ((g 4), Sum.inl (cI, 600, Sum.inl vIM)), ((g 5), Sum.inl (cI, 600, Sum.inl vIW)), ((g 6), Sum.inl (cI, 9000, Sum.inl vGoing))]) (va_runS (As := [Value.int (nI bb), Value.int 1, Value.int 12]) (rest := []) ⟨hx, hb, hml, hown, hts⟩ (c_M_in l dC dI cI cM cO H.size (nI bb) 1 12) (cwS 3 hts (my_gS k1062 k1063 k12 k1064) rfl rfl rfl (by decide +kernel) ⟨by rw [hR]; exact Nat.le_of_ble_eq_true rfl, by rw [hR]; exact Nat.le_of_ble_eq_true rfl⟩) (my_pre hK hN (hP.sub [] rfl) (hD.sub [] (by decide +kernel) rfl)) rfl rfl hl.1 rfl (lv_room (Nat.le_of_ble_eq_true rfl)) d_M_bits_22 ⟨by rw [hR]; exact Nat.le_of_ble_eq_true rfl, by rw [hR]; exact Nat.le_of_ble_eq_true rfl⟩) hP hD hS hA [] [0, 1, 2, 3] rfl rfl (by decide +kernel) (by decide +kernel) (fun r_22 u9 H locs hw_22 hP hD hS => ?_)
    have hw_22 : r_22 = if 1 ≤ (nI bb) ∧ (nI bb) ≤ 12 then 1 else 0 := hw_22
    have hPD : my_PD (dC, dI) vwCl A [(o, Sum.inr (9, mO g 0 fShift fModels (nI ki) 0 (lN L) (lN Rg) (caI ca) (nI Pn) (nI bs.length) fOuts fIns fReads fBad fIR fAsk fBAsk fCode fRL fRR fX fWrites 0)), ((g 4), Sum.inl (cI, 600, Sum.inl vIM)), ((g 5), Sum.inl (cI, 600, Sum.inl vIW)), ((g 6), Sum.inl (cI, 9000, Sum.inl vGoing))] H := ⟨hP, hD⟩
    have hP := hPD.1
    have hD := hPD.2
    refine lv_if_eq (tgt := 41) hx hb d_M_bits_25 (by decide) (fun c_2 => ?_) (fun c_2 => ?_)
    · exact absurd (show 1 ≤ nI bb ∧ nI bb ≤ nI 12 from ⟨nI_le (a := 1) hb1 (by omega), nI_le hb2 (by decide)⟩) (one_eq hw_22 c_2)
    · refine lv_iload_n hx hb d_M_bits_28 rfl (lv_at hl 1 rfl) ?_
      refine lv_iconst (v := 0) hx hb d_M_bits_29 (by decide) ?_
      refine lv_iconst (v := 1) hx hb d_M_bits_30 (by decide) ?_
      refine lv_iload_n hx hb d_M_bits_31 rfl (lv_at hl 2 rfl) ?_
      refine lv_ishl hx hb d_M_bits_32 ?_
      refine lv_topi (fun v_3 ev_3 => ?_)
      have z9 : v_3 = nI (2 ^ bb) := by rw [ev_3]; exact shl1 _ (by omega)
      subst z9
      refine lv_iconst (v := 1) hx hb d_M_bits_33 (by decide) ?_
      refine lv_isub hx hb d_M_bits_34 ?_
      refine lv_topi (fun v_4 ev_4 => ?_)
      have z9 : v_4 = nI (2 ^ bb - 1) := by rw [ev_4]; exact nI_pred9 hp0
      subst z9
      refine my_ci (wr := [(o, Sum.inr (9, mO g 0 fShift fModels (nI ki) 0 (lN L) (lN Rg) (caI ca) (nI Pn) (nI bs.length) fOuts fIns fReads fBad fIR fAsk fBAsk fCode fRL fRR fX fWrites 0)), ((g 4), Sum.inl (cI, 600, Sum.inl vIM)), ((g 5), Sum.inl (cI, 600, Sum.inl vIW)), ((g 6), Sum.inl (cI, 9000, Sum.inl vGoing))]) (va_runS (As := [Value.int (nI vv), Value.int 0, Value.int (nI (2 ^ bb - 1))]) (rest := []) ⟨hx, hb, hml, hown, hts⟩ (c_M_in l dC dI cI cM cO H.size (nI vv) 0 (nI (2 ^ bb - 1))) (cwS 3 hts (my_gS k1062 k1063 k12 k1064) rfl rfl rfl (by decide +kernel) ⟨by rw [hR]; exact Nat.le_of_ble_eq_true rfl, by rw [hR]; exact Nat.le_of_ble_eq_true rfl⟩) (my_pre hK hN (hP.sub [] rfl) (hD.sub [] (by decide +kernel) rfl)) rfl rfl hl.1 rfl (lv_room (Nat.le_of_ble_eq_true rfl)) d_M_bits_35 ⟨by rw [hR]; exact Nat.le_of_ble_eq_true rfl, by rw [hR]; exact Nat.le_of_ble_eq_true rfl⟩) hP hD hS hA [] [0, 1, 2, 3] rfl rfl (by decide +kernel) (by decide +kernel) (fun r_35 u9 H locs hw_35 hP hD hS => ?_)
      have hw_35 : r_35 = if 0 ≤ (nI vv) ∧ (nI vv) ≤ (nI (2 ^ bb - 1)) then 1 else 0 := hw_35
      have hPD : my_PD (dC, dI) vwCl A [(o, Sum.inr (9, mO g 0 fShift fModels (nI ki) 0 (lN L) (lN Rg) (caI ca) (nI Pn) (nI bs.length) fOuts fIns fReads fBad fIR fAsk fBAsk fCode fRL fRR fX fWrites 0)), ((g 4), Sum.inl (cI, 600, Sum.inl vIM)), ((g 5), Sum.inl (cI, 600, Sum.inl vIW)), ((g 6), Sum.inl (cI, 9000, Sum.inl vGoing))] H := ⟨hP, hD⟩
      have hP := hPD.1
      have hD := hPD.2
      refine lv_if_ne (tgt := 44) hx hb d_M_bits_38 (by decide) (fun c_5 => ?_) (fun c_5 => ?_)
      · refine lv_aload_n hx hb d_M_bits_44 rfl (lv_at hl 0 rfl) ?_
        refine va_get (D := (dC, dI)) (ci := 9) (v := .int 0) (C := "RangeCodersModel") (T := T_M) (N := 35) hx hb hg in_M hown hK hP 0 rfl rfl 10 (by decide) (hg _ k962) (fun _ h9 => h9) rfl d_M_bits_45 ?_
        refine lv_if_eq (tgt := 54) hx hb d_M_bits_48 (by decide) (fun c_6 => ?_) (fun c_6 => ?_)
        · refine lv_aload_n hx hb d_M_bits_54 rfl (lv_at hl 0 rfl) ?_
          refine va_get (D := (dC, dI)) (ci := 9) (v := .int (nI ki)) (C := "RangeCodersModel") (T := T_M) (N := 35) hx hb hg in_M hown hK hP 0 rfl rfl 7 (by decide) (hg _ k959) (fun _ h9 => h9) rfl d_M_bits_55 ?_
          refine lv_sipush (v := 600) hx hb d_M_bits_58 (by decide) ?_
          refine lv_icmp_ne (tgt := 67) hx hb d_M_bits_61 (by decide) (fun c_7 => ?_) (fun c_7 => ?_)
          · refine lv_aload_n hx hb d_M_bits_67 rfl (lv_at hl 0 rfl) ?_
            refine lv_iload_n hx hb d_M_bits_68 rfl (lv_at hl 1 rfl) ?_
            refine lv_iload_n hx hb d_M_bits_69 rfl (lv_at hl 2 rfl) ?_
            refine my_cv (wr := [((g 4), Sum.inl (cI, 600, Sum.inl vIM)), ((g 5), Sum.inl (cI, 600, Sum.inl vIW))]) (va_runV (As := [Value.int (nI vv), Value.int (nI bb)]) (rest := []) ⟨hx, hb, hml, hown, hts⟩ (c_M_putValue0 l dC dI cI cM cO H.size o g fShift fModels (nI ki) 0 fOuts fIns fReads fBad fIR fAsk fBAsk fCode fRL fRR fX fWrites 0 vGoing vv bb Rg L ca Pn bs (hb1) (hb2) (hv) (by first | assumption | omega) (by first | assumption | omega) (by first | assumption | omega)) (cwV 2 hts (my_gV k1143 k1145 ks39 k12 k1146) rfl rfl rfl cu_M_putValue_2 ⟨by rw [hR]; exact Nat.le_of_ble_eq_true rfl, by rw [hR]; exact Nat.le_of_ble_eq_true rfl⟩) (my_preV hK hN (hP.sub [0, 3] rfl) (hD.sub [0, 3] (by decide +kernel) rfl) 0 rfl rfl) rfl rfl hl.1 rfl (lv_room (Nat.le_of_ble_eq_true rfl)) d_M_bits_70 ⟨by rw [hR]; exact Nat.le_of_ble_eq_true rfl, by rw [hR]; exact Nat.le_of_ble_eq_true rfl⟩) hP hD hS hA [0, 3] [1, 2] rfl rfl (by decide +kernel) (by decide +kernel) (fun u9 H locs hw_70 hP hD hS => ?_)
            obtain ⟨v2_70, rfl⟩ : ∃ z, z = u9 := ⟨_, rfl⟩
            have hw_70 : gIs v2_70 (eB (wdS (Rg / 2 ^ bb * 1, L + Rg / 2 ^ bb * vv, ca, Pn, bs))) := hw_70
            have hPD : my_PD (dC, dI) vwCl A [((g 4), Sum.inl (cI, 600, Sum.inl vIM)), ((g 5), Sum.inl (cI, 600, Sum.inl vIW)), (o, Sum.inr (9, mO g 0 fShift fModels (nI ki) 0 (lN (eL (wdS (Rg / 2 ^ bb * 1, L + Rg / 2 ^ bb * vv, ca, Pn, bs)))) (lN (eR (wdS (Rg / 2 ^ bb * 1, L + Rg / 2 ^ bb * vv, ca, Pn, bs)))) (caI (eC (wdS (Rg / 2 ^ bb * 1, L + Rg / 2 ^ bb * vv, ca, Pn, bs)))) (nI (eP (wdS (Rg / 2 ^ bb * 1, L + Rg / 2 ^ bb * vv, ca, Pn, bs)))) (nI (eB (wdS (Rg / 2 ^ bb * 1, L + Rg / 2 ^ bb * vv, ca, Pn, bs))).length) fOuts fIns fReads fBad fIR fAsk fBAsk fCode fRL fRR fX fWrites 0)), ((g 6), Sum.inl (cI, 9000, Sum.inl v2_70))] H := ⟨hP, hD⟩
            have hP := hPD.1
            have hD := hPD.2
            refine lv_aload_n hx hb d_M_bits_73 rfl (lv_at hl 0 rfl) ?_
            refine lv_iload_n hx hb d_M_bits_74 rfl (lv_at hl 2 rfl) ?_
            refine lv_ineg hx hb d_M_bits_75 ?_
            refine lv_topi (fun v_8 ev_8 => ?_)
            refine lv_iload_n hx hb d_M_bits_76 rfl (lv_at hl 1 rfl) ?_
            refine my_ci (wr := [((g 6), Sum.inl (cI, 9000, Sum.inl v2_70))]) (va_runV (As := [Value.int v_8, Value.int (nI vv)]) (rest := []) ⟨hx, hb, hml, hown, hts⟩ (c_M_addItem l dC dI cI cM cO H.size o g 0 fShift fModels 0 (lN (eL (wdS (Rg / 2 ^ bb * 1, L + Rg / 2 ^ bb * vv, ca, Pn, bs)))) (lN (eR (wdS (Rg / 2 ^ bb * 1, L + Rg / 2 ^ bb * vv, ca, Pn, bs)))) (caI (eC (wdS (Rg / 2 ^ bb * 1, L + Rg / 2 ^ bb * vv, ca, Pn, bs)))) (nI (eP (wdS (Rg / 2 ^ bb * 1, L + Rg / 2 ^ bb * vv, ca, Pn, bs)))) (nI (eB (wdS (Rg / 2 ^ bb * 1, L + Rg / 2 ^ bb * vv, ca, Pn, bs))).length) fOuts fIns fReads fBad fIR fAsk fBAsk fCode fRL fRR fX fWrites 0 vIM vIW ki v_8 (nI vv) (hki)) (cwV 2 hts (my_gV k1135 k1137 ks38 k12 k1138) rfl rfl rfl cu_M_addItem_2 ⟨by rw [hR]; exact Nat.le_of_ble_eq_true rfl, by rw [hR]; exact Nat.le_of_ble_eq_true rfl⟩) (my_preV hK hN (hP.sub [2, 0, 1] rfl) (hD.sub [2, 0, 1] (by decide +kernel) rfl) 0 rfl rfl) rfl rfl hl.1 rfl (lv_room (Nat.le_of_ble_eq_true rfl)) d_M_bits_77 ⟨by rw [hR]; exact Nat.le_of_ble_eq_true rfl, by rw [hR]; exact Nat.le_of_ble_eq_true rfl⟩) hP hD hS hA [2, 0, 1] [3] rfl rfl (by decide +kernel) (by decide +kernel) (fun r_77 u9 H locs hw_77 hP hD hS => ?_)
            obtain ⟨f2_77, v2_77⟩ := u9
            have hw_77 : r_77 = nI (ki + 1) ∧ f2_77 = upd vIM ki v_8 ∧ v2_77 = upd vIW ki (nI vv) := hw_77
            have hPD : my_PD (dC, dI) vwCl A [((g 6), Sum.inl (cI, 9000, Sum.inl v2_70)), (o, Sum.inr (9, mO g 0 fShift fModels (nI (ki + 1)) 0 (lN (eL (wdS (Rg / 2 ^ bb * 1, L + Rg / 2 ^ bb * vv, ca, Pn, bs)))) (lN (eR (wdS (Rg / 2 ^ bb * 1, L + Rg / 2 ^ bb * vv, ca, Pn, bs)))) (caI (eC (wdS (Rg / 2 ^ bb * 1, L + Rg / 2 ^ bb * vv, ca, Pn, bs)))) (nI (eP (wdS (Rg / 2 ^ bb * 1, L + Rg / 2 ^ bb * vv, ca, Pn, bs)))) (nI (eB (wdS (Rg / 2 ^ bb * 1, L + Rg / 2 ^ bb * vv, ca, Pn, bs))).length) fOuts fIns fReads fBad fIR fAsk fBAsk fCode fRL fRR fX fWrites 0)), ((g 4), Sum.inl (cI, 600, Sum.inl f2_77)), ((g 5), Sum.inl (cI, 600, Sum.inl v2_77))] H := ⟨hP, hD⟩
            have hP := hPD.1
            have hD := hPD.2
            exact my_iret (v := r_77) hx hb hr (rfl) hlocks hQ hK hS (Nat.le_refl _) (Nat.le_refl _) (f2_77, v2_77, v2_70) (⟨hw_77.1, by rw [hw_77.2.1, ev_8], hw_77.2.2, hw_70⟩) (hP.sub [1, 2, 3, 0] rfl) (hD.sub [1, 2, 3, 0] (by decide +kernel) rfl) d_M_bits_80
          · exact absurd (nI_inj (a := ki) (b := 600) (by omega) (by decide) c_7) (by omega)
        · exact absurd (by decide) c_6
      · exact absurd ⟨nI_pos' (by omega), nI_le (by omega) (by omega)⟩ (one_eq hw_35 c_5)
  · exact absurd c_1 (by decide)
set_option maxHeartbeats 2000000 in
set_option maxRecDepth 100000 in
theorem m_bits1L (l : Launch) (dC : Nat → ClassId) (dI : Nat → Nat → Nat) (cI cM cO : ClassId) (sz : Nat) (o : Nat) (g : Nat → Nat) (fShift : Int32) (fModels : Int32) (fCache : Int32) (fPend : Int32) (fOuts : Int32) (fIns : Int32) (fReads : Int32) (fBad : Int32) (fIR : Int32) (fAsk : Int32) (fBAsk : Int32) (fCode : Int64) (fRL : Int64) (fRR : Int64) (fX : Int64) (fWrites : Int32) (fThrown : Int32) (vIM : Nat → Int32) (vIW : Nat → Int32) (vGoing : Nat → Int32) (vv : Nat) (bb : Nat) (Rg : Nat) (L : Nat) (bs : List Nat) (ki : Nat) (hb1 : 1 ≤ bb) (hb2 : bb ≤ 12) (hv : vv < 2 ^ bb) (hki : ki < 600) (hp : pOk Rg L) (hR6 : 65536 ≤ Rg) (hG : gIs vGoing bs) (hN9 : bs.length + 5 ≤ 9000) : MetI l y_M_bits (Cond.code y_M_bits prog_14_method_30_code 3 (some .int) :: gw) ({ frames := 4, cells := 0, slots := 0, locals := 91 } : Room) (dC, dI) vwCl (kT cI cM cO) [Value.ref o, Value.int (nI vv), Value.int (nI bb)] [(o, Sum.inr (9, mO g 1 fShift fModels (nI ki) 0 (lN L) (lN Rg) fCache fPend (nI bs.length) fOuts fIns fReads fBad fIR fAsk fBAsk fCode fRL fRR fX fWrites fThrown)), ((g 4), Sum.inl (cI, 600, Sum.inl vIM)), ((g 5), Sum.inl (cI, 600, Sum.inl vIW)), ((g 6), Sum.inl (cI, 9000, Sum.inl vGoing))] sz (fun (r : Int32) (u : (Nat → Int32) × (Nat → Int32) × (Nat → Int32)) => r = nI (ki + 1) ∧ u.1 = upd vIM ki (-nI bb) ∧ u.2.1 = upd vIW ki (nI vv) ∧ gIs u.2.2 ((plS (Rg / 2 ^ bb * 1, L + Rg / 2 ^ bb * vv, bs)).2.2)) (fun (u : (Nat → Int32) × (Nat → Int32) × (Nat → Int32)) => [(o, Sum.inr (9, mO g 1 fShift fModels (nI (ki + 1)) 0 (lN (plS (Rg / 2 ^ bb * 1, L + Rg / 2 ^ bb * vv, bs)).2.1) (lN (plS (Rg / 2 ^ bb * 1, L + Rg / 2 ^ bb * vv, bs)).1) fCache fPend (nI (plS (Rg / 2 ^ bb * 1, L + Rg / 2 ^ bb * vv, bs)).2.2.length) fOuts fIns fReads fBad fIR fAsk fBAsk fCode fRL fRR fX fWrites 0)), ((g 4), Sum.inl (cI, 600, Sum.inl u.1)), ((g 5), Sum.inl (cI, 600, Sum.inl u.2.1)), ((g 6), Sum.inl (cI, 9000, Sum.inl u.2.2))]) 0 0 := by
  refine my_ofI (cc := prog_14_method_30_code) (n := 3) (ret := (some .int)) (by decide) rfl (Nat.le_of_ble_eq_true rfl) ?_
  intro p e s m args below meth c R Q A ls H locs hx hb hr hts hown hlocks hml hnm hR hQ hA hl hP hK hN hD hS
  have hg : ∀ w ∈ gw, w.before args s = true := fun w h => hts w (List.mem_cons_of_mem _ h)
  have hown : s.vm.findClass "RangeCodersModel" = some m.cls := hown
  have hl : lv_has ls 3 [(0, Value.ref o), (1, Value.int (nI vv)), (2, Value.int (nI bb))] := hl
  have hp12 : 2 ^ bb ≤ 4096 := pw12 (by omega)
  have hp0 := Nat.two_pow_pos bb
  refine lv_aload_n hx hb d_M_bits_0 rfl (lv_at hl 0 rfl) ?_
  refine lv_iconst (v := 0) hx hb d_M_bits_1 (by decide) ?_
  refine va_put (D := (dC, dI)) (ci := 9) (v := .int 0) (ty := .int) (C := "RangeCodersModel") (T := T_M) (N := 35) hx hb hg in_M t_M o_M n_M hown hK hP hD hS 0 rfl rfl 34 (by decide) (hg _ k986) (fun _ h9 => h9) rfl (o_M 34 (by decide)) rfl rfl (Nat.le_of_ble_eq_true rfl) d_M_bits_2 (fun H locs hP hD hS => ?_)
  have hPD : my_PD (dC, dI) vwCl A [(o, Sum.inr (9, mO g 1 fShift fModels (nI ki) 0 (lN L) (lN Rg) fCache fPend (nI bs.length) fOuts fIns fReads fBad fIR fAsk fBAsk fCode fRL fRR fX fWrites 0)), ((g 4), Sum.inl (cI, 600, Sum.inl vIM)), ((g 5), Sum.inl (cI, 600, Sum.inl vIW)), ((g 6), Sum.inl (cI, 9000, Sum.inl vGoing))] H := ⟨hP, hD⟩
  have hP := hPD.1
  have hD := hPD.2
  refine lv_iload_n hx hb d_M_bits_5 rfl (lv_at hl 2 rfl) ?_
  refine lv_iconst (v := 1) hx hb d_M_bits_6 (by decide) ?_
  refine lv_aload_n hx hb d_M_bits_7 rfl (lv_at hl 0 rfl) ?_
  refine va_get (D := (dC, dI)) (ci := 9) (v := .int 1) (C := "RangeCodersModel") (T := T_M) (N := 35) hx hb hg in_M hown hK hP 0 rfl rfl 0 (by decide) (hg _ k952) (fun _ h9 => h9) rfl d_M_bits_8 ?_
  refine lv_iconst (v := 4) hx hb d_M_bits_11 (by decide) ?_
  refine lv_icmp_ne (tgt := 20) hx hb d_M_bits_12 (by decide) (fun c_1 => ?_) (fun c_1 => ?_)
  · refine lv_bipush (v := 12) hx hb d_M_bits_20 (by decide) ?_
    refine my_ci (wr := [(o, Sum.inr (9, mO g 1 fShift fModels (nI ki) 0 (lN L) (lN Rg) fCache fPend (nI bs.length) fOuts fIns fReads fBad fIR fAsk fBAsk fCode fRL fRR fX fWrites 0)), ((g 4), Sum.inl (cI, 600, Sum.inl vIM)), ((g 5), Sum.inl (cI, 600, Sum.inl vIW)), ((g 6), Sum.inl (cI, 9000, Sum.inl vGoing))]) (va_runS (As := [Value.int (nI bb), Value.int 1, Value.int 12]) (rest := []) ⟨hx, hb, hml, hown, hts⟩ (c_M_in l dC dI cI cM cO H.size (nI bb) 1 12) (cwS 3 hts (my_gS k1062 k1063 k12 k1064) rfl rfl rfl (by decide +kernel) ⟨by rw [hR]; exact Nat.le_of_ble_eq_true rfl, by rw [hR]; exact Nat.le_of_ble_eq_true rfl⟩) (my_pre hK hN (hP.sub [] rfl) (hD.sub [] (by decide +kernel) rfl)) rfl rfl hl.1 rfl (lv_room (Nat.le_of_ble_eq_true rfl)) d_M_bits_22 ⟨by rw [hR]; exact Nat.le_of_ble_eq_true rfl, by rw [hR]; exact Nat.le_of_ble_eq_true rfl⟩) hP hD hS hA [] [0, 1, 2, 3] rfl rfl (by decide +kernel) (by decide +kernel) (fun r_22 u9 H locs hw_22 hP hD hS => ?_)
    have hw_22 : r_22 = if 1 ≤ (nI bb) ∧ (nI bb) ≤ 12 then 1 else 0 := hw_22
    have hPD : my_PD (dC, dI) vwCl A [(o, Sum.inr (9, mO g 1 fShift fModels (nI ki) 0 (lN L) (lN Rg) fCache fPend (nI bs.length) fOuts fIns fReads fBad fIR fAsk fBAsk fCode fRL fRR fX fWrites 0)), ((g 4), Sum.inl (cI, 600, Sum.inl vIM)), ((g 5), Sum.inl (cI, 600, Sum.inl vIW)), ((g 6), Sum.inl (cI, 9000, Sum.inl vGoing))] H := ⟨hP, hD⟩
    have hP := hPD.1
    have hD := hPD.2
    refine lv_if_eq (tgt := 41) hx hb d_M_bits_25 (by decide) (fun c_2 => ?_) (fun c_2 => ?_)
    · exact absurd (show 1 ≤ nI bb ∧ nI bb ≤ nI 12 from ⟨nI_le (a := 1) hb1 (by omega), nI_le hb2 (by decide)⟩) (one_eq hw_22 c_2)
    · refine lv_iload_n hx hb d_M_bits_28 rfl (lv_at hl 1 rfl) ?_
      refine lv_iconst (v := 0) hx hb d_M_bits_29 (by decide) ?_
      refine lv_iconst (v := 1) hx hb d_M_bits_30 (by decide) ?_
      refine lv_iload_n hx hb d_M_bits_31 rfl (lv_at hl 2 rfl) ?_
      refine lv_ishl hx hb d_M_bits_32 ?_
      refine lv_topi (fun v_3 ev_3 => ?_)
      have z9 : v_3 = nI (2 ^ bb) := by rw [ev_3]; exact shl1 _ (by omega)
      subst z9
      refine lv_iconst (v := 1) hx hb d_M_bits_33 (by decide) ?_
      refine lv_isub hx hb d_M_bits_34 ?_
      refine lv_topi (fun v_4 ev_4 => ?_)
      have z9 : v_4 = nI (2 ^ bb - 1) := by rw [ev_4]; exact nI_pred9 hp0
      subst z9
      refine my_ci (wr := [(o, Sum.inr (9, mO g 1 fShift fModels (nI ki) 0 (lN L) (lN Rg) fCache fPend (nI bs.length) fOuts fIns fReads fBad fIR fAsk fBAsk fCode fRL fRR fX fWrites 0)), ((g 4), Sum.inl (cI, 600, Sum.inl vIM)), ((g 5), Sum.inl (cI, 600, Sum.inl vIW)), ((g 6), Sum.inl (cI, 9000, Sum.inl vGoing))]) (va_runS (As := [Value.int (nI vv), Value.int 0, Value.int (nI (2 ^ bb - 1))]) (rest := []) ⟨hx, hb, hml, hown, hts⟩ (c_M_in l dC dI cI cM cO H.size (nI vv) 0 (nI (2 ^ bb - 1))) (cwS 3 hts (my_gS k1062 k1063 k12 k1064) rfl rfl rfl (by decide +kernel) ⟨by rw [hR]; exact Nat.le_of_ble_eq_true rfl, by rw [hR]; exact Nat.le_of_ble_eq_true rfl⟩) (my_pre hK hN (hP.sub [] rfl) (hD.sub [] (by decide +kernel) rfl)) rfl rfl hl.1 rfl (lv_room (Nat.le_of_ble_eq_true rfl)) d_M_bits_35 ⟨by rw [hR]; exact Nat.le_of_ble_eq_true rfl, by rw [hR]; exact Nat.le_of_ble_eq_true rfl⟩) hP hD hS hA [] [0, 1, 2, 3] rfl rfl (by decide +kernel) (by decide +kernel) (fun r_35 u9 H locs hw_35 hP hD hS => ?_)
      have hw_35 : r_35 = if 0 ≤ (nI vv) ∧ (nI vv) ≤ (nI (2 ^ bb - 1)) then 1 else 0 := hw_35
      have hPD : my_PD (dC, dI) vwCl A [(o, Sum.inr (9, mO g 1 fShift fModels (nI ki) 0 (lN L) (lN Rg) fCache fPend (nI bs.length) fOuts fIns fReads fBad fIR fAsk fBAsk fCode fRL fRR fX fWrites 0)), ((g 4), Sum.inl (cI, 600, Sum.inl vIM)), ((g 5), Sum.inl (cI, 600, Sum.inl vIW)), ((g 6), Sum.inl (cI, 9000, Sum.inl vGoing))] H := ⟨hP, hD⟩
      have hP := hPD.1
      have hD := hPD.2
      refine lv_if_ne (tgt := 44) hx hb d_M_bits_38 (by decide) (fun c_5 => ?_) (fun c_5 => ?_)
      · refine lv_aload_n hx hb d_M_bits_44 rfl (lv_at hl 0 rfl) ?_
        refine va_get (D := (dC, dI)) (ci := 9) (v := .int 0) (C := "RangeCodersModel") (T := T_M) (N := 35) hx hb hg in_M hown hK hP 0 rfl rfl 10 (by decide) (hg _ k962) (fun _ h9 => h9) rfl d_M_bits_45 ?_
        refine lv_if_eq (tgt := 54) hx hb d_M_bits_48 (by decide) (fun c_6 => ?_) (fun c_6 => ?_)
        · refine lv_aload_n hx hb d_M_bits_54 rfl (lv_at hl 0 rfl) ?_
          refine va_get (D := (dC, dI)) (ci := 9) (v := .int (nI ki)) (C := "RangeCodersModel") (T := T_M) (N := 35) hx hb hg in_M hown hK hP 0 rfl rfl 7 (by decide) (hg _ k959) (fun _ h9 => h9) rfl d_M_bits_55 ?_
          refine lv_sipush (v := 600) hx hb d_M_bits_58 (by decide) ?_
          refine lv_icmp_ne (tgt := 67) hx hb d_M_bits_61 (by decide) (fun c_7 => ?_) (fun c_7 => ?_)
          · refine lv_aload_n hx hb d_M_bits_67 rfl (lv_at hl 0 rfl) ?_
            refine lv_iload_n hx hb d_M_bits_68 rfl (lv_at hl 1 rfl) ?_
            refine lv_iload_n hx hb d_M_bits_69 rfl (lv_at hl 2 rfl) ?_
            refine my_cv (wr := [((g 4), Sum.inl (cI, 600, Sum.inl vIM)), ((g 5), Sum.inl (cI, 600, Sum.inl vIW))]) (va_runV (As := [Value.int (nI vv), Value.int (nI bb)]) (rest := []) ⟨hx, hb, hml, hown, hts⟩ (c_M_putValue1 l dC dI cI cM cO H.size o g fShift fModels (nI ki) 0 fCache fPend fOuts fIns fReads fBad fIR fAsk fBAsk fCode fRL fRR fX fWrites 0 vGoing vv bb Rg L bs (hb1) (hb2) (hv) (by first | assumption | omega) (by first | assumption | omega) (by first | assumption | omega) (by first | assumption | omega)) (cwV 2 hts (my_gV k1143 k1145 ks39 k12 k1146) rfl rfl rfl cu_M_putValue_2 ⟨by rw [hR]; exact Nat.le_of_ble_eq_true rfl, by rw [hR]; exact Nat.le_of_ble_eq_true rfl⟩) (my_preV hK hN (hP.sub [0, 3] rfl) (hD.sub [0, 3] (by decide +kernel) rfl) 0 rfl rfl) rfl rfl hl.1 rfl (lv_room (Nat.le_of_ble_eq_true rfl)) d_M_bits_70 ⟨by rw [hR]; exact Nat.le_of_ble_eq_true rfl, by rw [hR]; exact Nat.le_of_ble_eq_true rfl⟩) hP hD hS hA [0, 3] [1, 2] rfl rfl (by decide +kernel) (by decide +kernel) (fun u9 H locs hw_70 hP hD hS => ?_)
            obtain ⟨v2_70, rfl⟩ : ∃ z, z = u9 := ⟨_, rfl⟩
            have hw_70 : gIs v2_70 (plS (Rg / 2 ^ bb * 1, L + Rg / 2 ^ bb * vv, bs)).2.2 := hw_70
            have hPD : my_PD (dC, dI) vwCl A [((g 4), Sum.inl (cI, 600, Sum.inl vIM)), ((g 5), Sum.inl (cI, 600, Sum.inl vIW)), (o, Sum.inr (9, mO g 1 fShift fModels (nI ki) 0 (lN (plS (Rg / 2 ^ bb * 1, L + Rg / 2 ^ bb * vv, bs)).2.1) (lN (plS (Rg / 2 ^ bb * 1, L + Rg / 2 ^ bb * vv, bs)).1) fCache fPend (nI (plS (Rg / 2 ^ bb * 1, L + Rg / 2 ^ bb * vv, bs)).2.2.length) fOuts fIns fReads fBad fIR fAsk fBAsk fCode fRL fRR fX fWrites 0)), ((g 6), Sum.inl (cI, 9000, Sum.inl v2_70))] H := ⟨hP, hD⟩
            have hP := hPD.1
            have hD := hPD.2
            refine lv_aload_n hx hb d_M_bits_73 rfl (lv_at hl 0 rfl) ?_
            refine lv_iload_n hx hb d_M_bits_74 rfl (lv_at hl 2 rfl) ?_
            refine lv_ineg hx hb d_M_bits_75 ?_
            refine lv_topi (fun v_8 ev_8 => ?_)
            refine lv_iload_n hx hb d_M_bits_76 rfl (lv_at hl 1 rfl) ?_
            refine my_ci (wr := [((g 6), Sum.inl (cI, 9000, Sum.inl v2_70))]) (va_runV (As := [Value.int v_8, Value.int (nI vv)]) (rest := []) ⟨hx, hb, hml, hown, hts⟩ (c_M_addItem l dC dI cI cM cO H.size o g 1 fShift fModels 0 (lN (plS (Rg / 2 ^ bb * 1, L + Rg / 2 ^ bb * vv, bs)).2.1) (lN (plS (Rg / 2 ^ bb * 1, L + Rg / 2 ^ bb * vv, bs)).1) fCache fPend (nI (plS (Rg / 2 ^ bb * 1, L + Rg / 2 ^ bb * vv, bs)).2.2.length) fOuts fIns fReads fBad fIR fAsk fBAsk fCode fRL fRR fX fWrites 0 vIM vIW ki v_8 (nI vv) (hki)) (cwV 2 hts (my_gV k1135 k1137 ks38 k12 k1138) rfl rfl rfl cu_M_addItem_2 ⟨by rw [hR]; exact Nat.le_of_ble_eq_true rfl, by rw [hR]; exact Nat.le_of_ble_eq_true rfl⟩) (my_preV hK hN (hP.sub [2, 0, 1] rfl) (hD.sub [2, 0, 1] (by decide +kernel) rfl) 0 rfl rfl) rfl rfl hl.1 rfl (lv_room (Nat.le_of_ble_eq_true rfl)) d_M_bits_77 ⟨by rw [hR]; exact Nat.le_of_ble_eq_true rfl, by rw [hR]; exact Nat.le_of_ble_eq_true rfl⟩) hP hD hS hA [2, 0, 1] [3] rfl rfl (by decide +kernel) (by decide +kernel) (fun r_77 u9 H locs hw_77 hP hD hS => ?_)
            obtain ⟨f2_77, v2_77⟩ := u9
            have hw_77 : r_77 = nI (ki + 1) ∧ f2_77 = upd vIM ki v_8 ∧ v2_77 = upd vIW ki (nI vv) := hw_77
            have hPD : my_PD (dC, dI) vwCl A [((g 6), Sum.inl (cI, 9000, Sum.inl v2_70)), (o, Sum.inr (9, mO g 1 fShift fModels (nI (ki + 1)) 0 (lN (plS (Rg / 2 ^ bb * 1, L + Rg / 2 ^ bb * vv, bs)).2.1) (lN (plS (Rg / 2 ^ bb * 1, L + Rg / 2 ^ bb * vv, bs)).1) fCache fPend (nI (plS (Rg / 2 ^ bb * 1, L + Rg / 2 ^ bb * vv, bs)).2.2.length) fOuts fIns fReads fBad fIR fAsk fBAsk fCode fRL fRR fX fWrites 0)), ((g 4), Sum.inl (cI, 600, Sum.inl f2_77)), ((g 5), Sum.inl (cI, 600, Sum.inl v2_77))] H := ⟨hP, hD⟩
            have hP := hPD.1
            have hD := hPD.2
            exact my_iret (v := r_77) hx hb hr (rfl) hlocks hQ hK hS (Nat.le_refl _) (Nat.le_refl _) (f2_77, v2_77, v2_70) (⟨hw_77.1, by rw [hw_77.2.1, ev_8], hw_77.2.2, hw_70⟩) (hP.sub [1, 2, 3, 0] rfl) (hD.sub [1, 2, 3, 0] (by decide +kernel) rfl) d_M_bits_80
          · exact absurd (nI_inj (a := ki) (b := 600) (by omega) (by decide) c_7) (by omega)
        · exact absurd (by decide) c_6
      · exact absurd ⟨nI_pos' (by omega), nI_le (by omega) (by omega)⟩ (one_eq hw_35 c_5)
  · exact absurd c_1 (by decide)
set_option maxHeartbeats 2000000 in
set_option maxRecDepth 100000 in
theorem m_bits2L (l : Launch) (dC : Nat → ClassId) (dI : Nat → Nat → Nat) (cI cM cO : ClassId) (sz : Nat) (o : Nat) (g : Nat → Nat) (fShift : Int32) (fModels : Int32) (fOuts : Int32) (fIns : Int32) (fReads : Int32) (fBad : Int32) (fIR : Int32) (fAsk : Int32) (fBAsk : Int32) (fCode : Int64) (fRL : Int64) (fRR : Int64) (fX : Int64) (fWrites : Int32) (fThrown : Int32) (vIM : Nat → Int32) (vIW : Nat → Int32) (vGoing : Nat → Int32) (vv : Nat) (bb : Nat) (Rg : Nat) (L : Nat) (ca : Option Nat) (Pn : Nat) (bs : List Nat) (ki : Nat) (hb1 : 1 ≤ bb) (hb2 : bb ≤ 12) (hv : vv < 2 ^ bb) (hki : ki < 600) (hE : eInv (Rg, L, ca, Pn, bs)) (hG : gIs vGoing bs) (hN9 : bs.length + Pn + 20 ≤ 9000) : MetI l y_M_bits (Cond.code y_M_bits prog_14_method_30_code 3 (some .int) :: gw) ({ frames := 4, cells := 0, slots := 0, locals := 85 } : Room) (dC, dI) vwCl (kT cI cM cO) [Value.ref o, Value.int (nI vv), Value.int (nI bb)] [(o, Sum.inr (9, mO g 2 fShift fModels (nI ki) 0 (lN L) (lN Rg) (caI ca) (nI Pn) (nI bs.length) fOuts fIns fReads fBad fIR fAsk fBAsk fCode fRL fRR fX fWrites fThrown)), ((g 4), Sum.inl (cI, 600, Sum.inl vIM)), ((g 5), Sum.inl (cI, 600, Sum.inl vIW)), ((g 6), Sum.inl (cI, 9000, Sum.inl vGoing))] sz (fun (r : Int32) (u : (Nat → Int32) × (Nat → Int32) × (Nat → Int32)) => r = nI (ki + 1) ∧ u.1 = upd vIM ki (-nI bb) ∧ u.2.1 = upd vIW ki (nI vv) ∧ gIs u.2.2 (eB (vbN vv bb (Rg, L, ca, Pn, bs)))) (fun (u : (Nat → Int32) × (Nat → Int32) × (Nat → Int32)) => [(o, Sum.inr (9, mO g 2 fShift fModels (nI (ki + 1)) 0 (lN (eL (vbN vv bb (Rg, L, ca, Pn, bs)))) (lN (eR (vbN vv bb (Rg, L, ca, Pn, bs)))) (caI (eC (vbN vv bb (Rg, L, ca, Pn, bs)))) (nI (eP (vbN vv bb (Rg, L, ca, Pn, bs)))) (nI (eB (vbN vv bb (Rg, L, ca, Pn, bs))).length) fOuts fIns fReads fBad fIR fAsk fBAsk fCode fRL fRR fX fWrites 0)), ((g 4), Sum.inl (cI, 600, Sum.inl u.1)), ((g 5), Sum.inl (cI, 600, Sum.inl u.2.1)), ((g 6), Sum.inl (cI, 9000, Sum.inl u.2.2))]) 0 0 := by
  refine my_ofI (cc := prog_14_method_30_code) (n := 3) (ret := (some .int)) (by decide) rfl (Nat.le_of_ble_eq_true rfl) ?_
  intro p e s m args below meth c R Q A ls H locs hx hb hr hts hown hlocks hml hnm hR hQ hA hl hP hK hN hD hS
  have hg : ∀ w ∈ gw, w.before args s = true := fun w h => hts w (List.mem_cons_of_mem _ h)
  have hown : s.vm.findClass "RangeCodersModel" = some m.cls := hown
  have hl : lv_has ls 3 [(0, Value.ref o), (1, Value.int (nI vv)), (2, Value.int (nI bb))] := hl
  have hp12 : 2 ^ bb ≤ 4096 := pw12 (by omega)
  have hp0 := Nat.two_pow_pos bb
  refine lv_aload_n hx hb d_M_bits_0 rfl (lv_at hl 0 rfl) ?_
  refine lv_iconst (v := 0) hx hb d_M_bits_1 (by decide) ?_
  refine va_put (D := (dC, dI)) (ci := 9) (v := .int 0) (ty := .int) (C := "RangeCodersModel") (T := T_M) (N := 35) hx hb hg in_M t_M o_M n_M hown hK hP hD hS 0 rfl rfl 34 (by decide) (hg _ k986) (fun _ h9 => h9) rfl (o_M 34 (by decide)) rfl rfl (Nat.le_of_ble_eq_true rfl) d_M_bits_2 (fun H locs hP hD hS => ?_)
  have hPD : my_PD (dC, dI) vwCl A [(o, Sum.inr (9, mO g 2 fShift fModels (nI ki) 0 (lN L) (lN Rg) (caI ca) (nI Pn) (nI bs.length) fOuts fIns fReads fBad fIR fAsk fBAsk fCode fRL fRR fX fWrites 0)), ((g 4), Sum.inl (cI, 600, Sum.inl vIM)), ((g 5), Sum.inl (cI, 600, Sum.inl vIW)), ((g 6), Sum.inl (cI, 9000, Sum.inl vGoing))] H := ⟨hP, hD⟩
  have hP := hPD.1
  have hD := hPD.2
  refine lv_iload_n hx hb d_M_bits_5 rfl (lv_at hl 2 rfl) ?_
  refine lv_iconst (v := 1) hx hb d_M_bits_6 (by decide) ?_
  refine lv_aload_n hx hb d_M_bits_7 rfl (lv_at hl 0 rfl) ?_
  refine va_get (D := (dC, dI)) (ci := 9) (v := .int 2) (C := "RangeCodersModel") (T := T_M) (N := 35) hx hb hg in_M hown hK hP 0 rfl rfl 0 (by decide) (hg _ k952) (fun _ h9 => h9) rfl d_M_bits_8 ?_
  refine lv_iconst (v := 4) hx hb d_M_bits_11 (by decide) ?_
  refine lv_icmp_ne (tgt := 20) hx hb d_M_bits_12 (by decide) (fun c_1 => ?_) (fun c_1 => ?_)
  · refine lv_bipush (v := 12) hx hb d_M_bits_20 (by decide) ?_
    refine my_ci (wr := [(o, Sum.inr (9, mO g 2 fShift fModels (nI ki) 0 (lN L) (lN Rg) (caI ca) (nI Pn) (nI bs.length) fOuts fIns fReads fBad fIR fAsk fBAsk fCode fRL fRR fX fWrites 0)), ((g 4), Sum.inl (cI, 600, Sum.inl vIM)), ((g 5), Sum.inl (cI, 600, Sum.inl vIW)), ((g 6), Sum.inl (cI, 9000, Sum.inl vGoing))]) (va_runS (As := [Value.int (nI bb), Value.int 1, Value.int 12]) (rest := []) ⟨hx, hb, hml, hown, hts⟩ (c_M_in l dC dI cI cM cO H.size (nI bb) 1 12) (cwS 3 hts (my_gS k1062 k1063 k12 k1064) rfl rfl rfl (by decide +kernel) ⟨by rw [hR]; exact Nat.le_of_ble_eq_true rfl, by rw [hR]; exact Nat.le_of_ble_eq_true rfl⟩) (my_pre hK hN (hP.sub [] rfl) (hD.sub [] (by decide +kernel) rfl)) rfl rfl hl.1 rfl (lv_room (Nat.le_of_ble_eq_true rfl)) d_M_bits_22 ⟨by rw [hR]; exact Nat.le_of_ble_eq_true rfl, by rw [hR]; exact Nat.le_of_ble_eq_true rfl⟩) hP hD hS hA [] [0, 1, 2, 3] rfl rfl (by decide +kernel) (by decide +kernel) (fun r_22 u9 H locs hw_22 hP hD hS => ?_)
    have hw_22 : r_22 = if 1 ≤ (nI bb) ∧ (nI bb) ≤ 12 then 1 else 0 := hw_22
    have hPD : my_PD (dC, dI) vwCl A [(o, Sum.inr (9, mO g 2 fShift fModels (nI ki) 0 (lN L) (lN Rg) (caI ca) (nI Pn) (nI bs.length) fOuts fIns fReads fBad fIR fAsk fBAsk fCode fRL fRR fX fWrites 0)), ((g 4), Sum.inl (cI, 600, Sum.inl vIM)), ((g 5), Sum.inl (cI, 600, Sum.inl vIW)), ((g 6), Sum.inl (cI, 9000, Sum.inl vGoing))] H := ⟨hP, hD⟩
    have hP := hPD.1
    have hD := hPD.2
    refine lv_if_eq (tgt := 41) hx hb d_M_bits_25 (by decide) (fun c_2 => ?_) (fun c_2 => ?_)
    · exact absurd (show 1 ≤ nI bb ∧ nI bb ≤ nI 12 from ⟨nI_le (a := 1) hb1 (by omega), nI_le hb2 (by decide)⟩) (one_eq hw_22 c_2)
    · refine lv_iload_n hx hb d_M_bits_28 rfl (lv_at hl 1 rfl) ?_
      refine lv_iconst (v := 0) hx hb d_M_bits_29 (by decide) ?_
      refine lv_iconst (v := 1) hx hb d_M_bits_30 (by decide) ?_
      refine lv_iload_n hx hb d_M_bits_31 rfl (lv_at hl 2 rfl) ?_
      refine lv_ishl hx hb d_M_bits_32 ?_
      refine lv_topi (fun v_3 ev_3 => ?_)
      have z9 : v_3 = nI (2 ^ bb) := by rw [ev_3]; exact shl1 _ (by omega)
      subst z9
      refine lv_iconst (v := 1) hx hb d_M_bits_33 (by decide) ?_
      refine lv_isub hx hb d_M_bits_34 ?_
      refine lv_topi (fun v_4 ev_4 => ?_)
      have z9 : v_4 = nI (2 ^ bb - 1) := by rw [ev_4]; exact nI_pred9 hp0
      subst z9
      refine my_ci (wr := [(o, Sum.inr (9, mO g 2 fShift fModels (nI ki) 0 (lN L) (lN Rg) (caI ca) (nI Pn) (nI bs.length) fOuts fIns fReads fBad fIR fAsk fBAsk fCode fRL fRR fX fWrites 0)), ((g 4), Sum.inl (cI, 600, Sum.inl vIM)), ((g 5), Sum.inl (cI, 600, Sum.inl vIW)), ((g 6), Sum.inl (cI, 9000, Sum.inl vGoing))]) (va_runS (As := [Value.int (nI vv), Value.int 0, Value.int (nI (2 ^ bb - 1))]) (rest := []) ⟨hx, hb, hml, hown, hts⟩ (c_M_in l dC dI cI cM cO H.size (nI vv) 0 (nI (2 ^ bb - 1))) (cwS 3 hts (my_gS k1062 k1063 k12 k1064) rfl rfl rfl (by decide +kernel) ⟨by rw [hR]; exact Nat.le_of_ble_eq_true rfl, by rw [hR]; exact Nat.le_of_ble_eq_true rfl⟩) (my_pre hK hN (hP.sub [] rfl) (hD.sub [] (by decide +kernel) rfl)) rfl rfl hl.1 rfl (lv_room (Nat.le_of_ble_eq_true rfl)) d_M_bits_35 ⟨by rw [hR]; exact Nat.le_of_ble_eq_true rfl, by rw [hR]; exact Nat.le_of_ble_eq_true rfl⟩) hP hD hS hA [] [0, 1, 2, 3] rfl rfl (by decide +kernel) (by decide +kernel) (fun r_35 u9 H locs hw_35 hP hD hS => ?_)
      have hw_35 : r_35 = if 0 ≤ (nI vv) ∧ (nI vv) ≤ (nI (2 ^ bb - 1)) then 1 else 0 := hw_35
      have hPD : my_PD (dC, dI) vwCl A [(o, Sum.inr (9, mO g 2 fShift fModels (nI ki) 0 (lN L) (lN Rg) (caI ca) (nI Pn) (nI bs.length) fOuts fIns fReads fBad fIR fAsk fBAsk fCode fRL fRR fX fWrites 0)), ((g 4), Sum.inl (cI, 600, Sum.inl vIM)), ((g 5), Sum.inl (cI, 600, Sum.inl vIW)), ((g 6), Sum.inl (cI, 9000, Sum.inl vGoing))] H := ⟨hP, hD⟩
      have hP := hPD.1
      have hD := hPD.2
      refine lv_if_ne (tgt := 44) hx hb d_M_bits_38 (by decide) (fun c_5 => ?_) (fun c_5 => ?_)
      · refine lv_aload_n hx hb d_M_bits_44 rfl (lv_at hl 0 rfl) ?_
        refine va_get (D := (dC, dI)) (ci := 9) (v := .int 0) (C := "RangeCodersModel") (T := T_M) (N := 35) hx hb hg in_M hown hK hP 0 rfl rfl 10 (by decide) (hg _ k962) (fun _ h9 => h9) rfl d_M_bits_45 ?_
        refine lv_if_eq (tgt := 54) hx hb d_M_bits_48 (by decide) (fun c_6 => ?_) (fun c_6 => ?_)
        · refine lv_aload_n hx hb d_M_bits_54 rfl (lv_at hl 0 rfl) ?_
          refine va_get (D := (dC, dI)) (ci := 9) (v := .int (nI ki)) (C := "RangeCodersModel") (T := T_M) (N := 35) hx hb hg in_M hown hK hP 0 rfl rfl 7 (by decide) (hg _ k959) (fun _ h9 => h9) rfl d_M_bits_55 ?_
          refine lv_sipush (v := 600) hx hb d_M_bits_58 (by decide) ?_
          refine lv_icmp_ne (tgt := 67) hx hb d_M_bits_61 (by decide) (fun c_7 => ?_) (fun c_7 => ?_)
          · refine lv_aload_n hx hb d_M_bits_67 rfl (lv_at hl 0 rfl) ?_
            refine lv_iload_n hx hb d_M_bits_68 rfl (lv_at hl 1 rfl) ?_
            refine lv_iload_n hx hb d_M_bits_69 rfl (lv_at hl 2 rfl) ?_
            refine my_cv (wr := [((g 4), Sum.inl (cI, 600, Sum.inl vIM)), ((g 5), Sum.inl (cI, 600, Sum.inl vIW))]) (va_runV (As := [Value.int (nI vv), Value.int (nI bb)]) (rest := []) ⟨hx, hb, hml, hown, hts⟩ (c_M_putValue2 l dC dI cI cM cO H.size o g fShift fModels (nI ki) 0 fOuts fIns fReads fBad fIR fAsk fBAsk fCode fRL fRR fX fWrites 0 vGoing vv bb Rg L ca Pn bs (hb1) (hb2) (by omega) (by first | assumption | omega) (by first | assumption | omega) (by first | assumption | omega)) (cwV 2 hts (my_gV k1143 k1145 ks39 k12 k1146) rfl rfl rfl cu_M_putValue_2 ⟨by rw [hR]; exact Nat.le_of_ble_eq_true rfl, by rw [hR]; exact Nat.le_of_ble_eq_true rfl⟩) (my_preV hK hN (hP.sub [0, 3] rfl) (hD.sub [0, 3] (by decide +kernel) rfl) 0 rfl rfl) rfl rfl hl.1 rfl (lv_room (Nat.le_of_ble_eq_true rfl)) d_M_bits_70 ⟨by rw [hR]; exact Nat.le_of_ble_eq_true rfl, by rw [hR]; exact Nat.le_of_ble_eq_true rfl⟩) hP hD hS hA [0, 3] [1, 2] rfl rfl (by decide +kernel) (by decide +kernel) (fun u9 H locs hw_70 hP hD hS => ?_)
            obtain ⟨v2_70, rfl⟩ : ∃ z, z = u9 := ⟨_, rfl⟩
            have hw_70 : gIs v2_70 (eB (vbN vv bb (Rg, L, ca, Pn, bs))) := hw_70
            have hPD : my_PD (dC, dI) vwCl A [((g 4), Sum.inl (cI, 600, Sum.inl vIM)), ((g 5), Sum.inl (cI, 600, Sum.inl vIW)), (o, Sum.inr (9, mO g 2 fShift fModels (nI ki) 0 (lN (eL (vbN vv bb (Rg, L, ca, Pn, bs)))) (lN (eR (vbN vv bb (Rg, L, ca, Pn, bs)))) (caI (eC (vbN vv bb (Rg, L, ca, Pn, bs)))) (nI (eP (vbN vv bb (Rg, L, ca, Pn, bs)))) (nI (eB (vbN vv bb (Rg, L, ca, Pn, bs))).length) fOuts fIns fReads fBad fIR fAsk fBAsk fCode fRL fRR fX fWrites 0)), ((g 6), Sum.inl (cI, 9000, Sum.inl v2_70))] H := ⟨hP, hD⟩
            have hP := hPD.1
            have hD := hPD.2
            refine lv_aload_n hx hb d_M_bits_73 rfl (lv_at hl 0 rfl) ?_
            refine lv_iload_n hx hb d_M_bits_74 rfl (lv_at hl 2 rfl) ?_
            refine lv_ineg hx hb d_M_bits_75 ?_
            refine lv_topi (fun v_8 ev_8 => ?_)
            refine lv_iload_n hx hb d_M_bits_76 rfl (lv_at hl 1 rfl) ?_
            refine my_ci (wr := [((g 6), Sum.inl (cI, 9000, Sum.inl v2_70))]) (va_runV (As := [Value.int v_8, Value.int (nI vv)]) (rest := []) ⟨hx, hb, hml, hown, hts⟩ (c_M_addItem l dC dI cI cM cO H.size o g 2 fShift fModels 0 (lN (eL (vbN vv bb (Rg, L, ca, Pn, bs)))) (lN (eR (vbN vv bb (Rg, L, ca, Pn, bs)))) (caI (eC (vbN vv bb (Rg, L, ca, Pn, bs)))) (nI (eP (vbN vv bb (Rg, L, ca, Pn, bs)))) (nI (eB (vbN vv bb (Rg, L, ca, Pn, bs))).length) fOuts fIns fReads fBad fIR fAsk fBAsk fCode fRL fRR fX fWrites 0 vIM vIW ki v_8 (nI vv) (hki)) (cwV 2 hts (my_gV k1135 k1137 ks38 k12 k1138) rfl rfl rfl cu_M_addItem_2 ⟨by rw [hR]; exact Nat.le_of_ble_eq_true rfl, by rw [hR]; exact Nat.le_of_ble_eq_true rfl⟩) (my_preV hK hN (hP.sub [2, 0, 1] rfl) (hD.sub [2, 0, 1] (by decide +kernel) rfl) 0 rfl rfl) rfl rfl hl.1 rfl (lv_room (Nat.le_of_ble_eq_true rfl)) d_M_bits_77 ⟨by rw [hR]; exact Nat.le_of_ble_eq_true rfl, by rw [hR]; exact Nat.le_of_ble_eq_true rfl⟩) hP hD hS hA [2, 0, 1] [3] rfl rfl (by decide +kernel) (by decide +kernel) (fun r_77 u9 H locs hw_77 hP hD hS => ?_)
            obtain ⟨f2_77, v2_77⟩ := u9
            have hw_77 : r_77 = nI (ki + 1) ∧ f2_77 = upd vIM ki v_8 ∧ v2_77 = upd vIW ki (nI vv) := hw_77
            have hPD : my_PD (dC, dI) vwCl A [((g 6), Sum.inl (cI, 9000, Sum.inl v2_70)), (o, Sum.inr (9, mO g 2 fShift fModels (nI (ki + 1)) 0 (lN (eL (vbN vv bb (Rg, L, ca, Pn, bs)))) (lN (eR (vbN vv bb (Rg, L, ca, Pn, bs)))) (caI (eC (vbN vv bb (Rg, L, ca, Pn, bs)))) (nI (eP (vbN vv bb (Rg, L, ca, Pn, bs)))) (nI (eB (vbN vv bb (Rg, L, ca, Pn, bs))).length) fOuts fIns fReads fBad fIR fAsk fBAsk fCode fRL fRR fX fWrites 0)), ((g 4), Sum.inl (cI, 600, Sum.inl f2_77)), ((g 5), Sum.inl (cI, 600, Sum.inl v2_77))] H := ⟨hP, hD⟩
            have hP := hPD.1
            have hD := hPD.2
            exact my_iret (v := r_77) hx hb hr (rfl) hlocks hQ hK hS (Nat.le_refl _) (Nat.le_refl _) (f2_77, v2_77, v2_70) (⟨hw_77.1, by rw [hw_77.2.1, ev_8], hw_77.2.2, hw_70⟩) (hP.sub [1, 2, 3, 0] rfl) (hD.sub [1, 2, 3, 0] (by decide +kernel) rfl) d_M_bits_80
          · exact absurd (nI_inj (a := ki) (b := 600) (by omega) (by decide) c_7) (by omega)
        · exact absurd (by decide) c_6
      · exact absurd ⟨nI_pos' (by omega), nI_le (by omega) (by omega)⟩ (one_eq hw_35 c_5)
  · exact absurd c_1 (by decide)
set_option maxHeartbeats 2000000 in
set_option maxRecDepth 100000 in
theorem m_bits3L (l : Launch) (dC : Nat → ClassId) (dI : Nat → Nat → Nat) (cI cM cO : ClassId) (sz : Nat) (o : Nat) (g : Nat → Nat) (fShift : Int32) (fModels : Int32) (fLow : Int64) (fRange : Int64) (fCache : Int32) (fPend : Int32) (fGoes : Int32) (fOuts : Int32) (fIns : Int32) (fReads : Int32) (fBad : Int32) (fIR : Int32) (fAsk : Int32) (fBAsk : Int32) (fCode : Int64) (fRL : Int64) (fRR : Int64) (fX : Int64) (fWrites : Int32) (fThrown : Int32) (vIM : Nat → Int32) (vIW : Nat → Int32) (vv : Nat) (bb : Nat) (ki : Nat) (hb1 : 1 ≤ bb) (hb2 : bb ≤ 12) (hv : vv < 2 ^ bb) (hki : ki < 600) : MetI l y_M_bits (Cond.code y_M_bits prog_14_method_30_code 3 (some .int) :: gw) ({ frames := 1, cells := 0, slots := 0, locals := 23 } : Room) (dC, dI) vwCl (kT cI cM cO) [Value.ref o, Value.int (nI vv), Value.int (nI bb)] [(o, Sum.inr (9, mO g 3 fShift fModels (nI ki) 0 fLow fRange fCache fPend fGoes fOuts fIns fReads fBad fIR fAsk fBAsk fCode fRL fRR fX fWrites fThrown)), ((g 4), Sum.inl (cI, 600, Sum.inl vIM)), ((g 5), Sum.inl (cI, 600, Sum.inl vIW))] sz (fun (r : Int32) (u : (Nat → Int32) × (Nat → Int32)) => r = nI (ki + 1) ∧ u.1 = upd vIM ki (-nI bb) ∧ u.2 = upd vIW ki (nI vv)) (fun (u : (Nat → Int32) × (Nat → Int32)) => [(o, Sum.inr (9, mO g 3 fShift fModels (nI (ki + 1)) 0 fLow fRange fCache fPend fGoes fOuts fIns fReads fBad fIR fAsk fBAsk fCode fRL fRR fX fWrites 0)), ((g 4), Sum.inl (cI, 600, Sum.inl u.1)), ((g 5), Sum.inl (cI, 600, Sum.inl u.2))]) 0 0 := by
  refine my_ofI (cc := prog_14_method_30_code) (n := 3) (ret := (some .int)) (by decide) rfl (Nat.le_of_ble_eq_true rfl) ?_
  intro p e s m args below meth c R Q A ls H locs hx hb hr hts hown hlocks hml hnm hR hQ hA hl hP hK hN hD hS
  have hg : ∀ w ∈ gw, w.before args s = true := fun w h => hts w (List.mem_cons_of_mem _ h)
  have hown : s.vm.findClass "RangeCodersModel" = some m.cls := hown
  have hl : lv_has ls 3 [(0, Value.ref o), (1, Value.int (nI vv)), (2, Value.int (nI bb))] := hl
  have hp12 : 2 ^ bb ≤ 4096 := pw12 (by omega)
  have hp0 := Nat.two_pow_pos bb
  refine lv_aload_n hx hb d_M_bits_0 rfl (lv_at hl 0 rfl) ?_
  refine lv_iconst (v := 0) hx hb d_M_bits_1 (by decide) ?_
  refine va_put (D := (dC, dI)) (ci := 9) (v := .int 0) (ty := .int) (C := "RangeCodersModel") (T := T_M) (N := 35) hx hb hg in_M t_M o_M n_M hown hK hP hD hS 0 rfl rfl 34 (by decide) (hg _ k986) (fun _ h9 => h9) rfl (o_M 34 (by decide)) rfl rfl (Nat.le_of_ble_eq_true rfl) d_M_bits_2 (fun H locs hP hD hS => ?_)
  have hPD : my_PD (dC, dI) vwCl A [(o, Sum.inr (9, mO g 3 fShift fModels (nI ki) 0 fLow fRange fCache fPend fGoes fOuts fIns fReads fBad fIR fAsk fBAsk fCode fRL fRR fX fWrites 0)), ((g 4), Sum.inl (cI, 600, Sum.inl vIM)), ((g 5), Sum.inl (cI, 600, Sum.inl vIW))] H := ⟨hP, hD⟩
  have hP := hPD.1
  have hD := hPD.2
  refine lv_iload_n hx hb d_M_bits_5 rfl (lv_at hl 2 rfl) ?_
  refine lv_iconst (v := 1) hx hb d_M_bits_6 (by decide) ?_
  refine lv_aload_n hx hb d_M_bits_7 rfl (lv_at hl 0 rfl) ?_
  refine va_get (D := (dC, dI)) (ci := 9) (v := .int 3) (C := "RangeCodersModel") (T := T_M) (N := 35) hx hb hg in_M hown hK hP 0 rfl rfl 0 (by decide) (hg _ k952) (fun _ h9 => h9) rfl d_M_bits_8 ?_
  refine lv_iconst (v := 4) hx hb d_M_bits_11 (by decide) ?_
  refine lv_icmp_ne (tgt := 20) hx hb d_M_bits_12 (by decide) (fun c_1 => ?_) (fun c_1 => ?_)
  · refine lv_bipush (v := 12) hx hb d_M_bits_20 (by decide) ?_
    refine my_ci (wr := [(o, Sum.inr (9, mO g 3 fShift fModels (nI ki) 0 fLow fRange fCache fPend fGoes fOuts fIns fReads fBad fIR fAsk fBAsk fCode fRL fRR fX fWrites 0)), ((g 4), Sum.inl (cI, 600, Sum.inl vIM)), ((g 5), Sum.inl (cI, 600, Sum.inl vIW))]) (va_runS (As := [Value.int (nI bb), Value.int 1, Value.int 12]) (rest := []) ⟨hx, hb, hml, hown, hts⟩ (c_M_in l dC dI cI cM cO H.size (nI bb) 1 12) (cwS 3 hts (my_gS k1062 k1063 k12 k1064) rfl rfl rfl (by decide +kernel) ⟨by rw [hR]; exact Nat.le_of_ble_eq_true rfl, by rw [hR]; exact Nat.le_of_ble_eq_true rfl⟩) (my_pre hK hN (hP.sub [] rfl) (hD.sub [] (by decide +kernel) rfl)) rfl rfl hl.1 rfl (lv_room (Nat.le_of_ble_eq_true rfl)) d_M_bits_22 ⟨by rw [hR]; exact Nat.le_of_ble_eq_true rfl, by rw [hR]; exact Nat.le_of_ble_eq_true rfl⟩) hP hD hS hA [] [0, 1, 2] rfl rfl (by decide +kernel) (by decide +kernel) (fun r_22 u9 H locs hw_22 hP hD hS => ?_)
    have hw_22 : r_22 = if 1 ≤ (nI bb) ∧ (nI bb) ≤ 12 then 1 else 0 := hw_22
    have hPD : my_PD (dC, dI) vwCl A [(o, Sum.inr (9, mO g 3 fShift fModels (nI ki) 0 fLow fRange fCache fPend fGoes fOuts fIns fReads fBad fIR fAsk fBAsk fCode fRL fRR fX fWrites 0)), ((g 4), Sum.inl (cI, 600, Sum.inl vIM)), ((g 5), Sum.inl (cI, 600, Sum.inl vIW))] H := ⟨hP, hD⟩
    have hP := hPD.1
    have hD := hPD.2
    refine lv_if_eq (tgt := 41) hx hb d_M_bits_25 (by decide) (fun c_2 => ?_) (fun c_2 => ?_)
    · exact absurd (show 1 ≤ nI bb ∧ nI bb ≤ nI 12 from ⟨nI_le (a := 1) hb1 (by omega), nI_le hb2 (by decide)⟩) (one_eq hw_22 c_2)
    · refine lv_iload_n hx hb d_M_bits_28 rfl (lv_at hl 1 rfl) ?_
      refine lv_iconst (v := 0) hx hb d_M_bits_29 (by decide) ?_
      refine lv_iconst (v := 1) hx hb d_M_bits_30 (by decide) ?_
      refine lv_iload_n hx hb d_M_bits_31 rfl (lv_at hl 2 rfl) ?_
      refine lv_ishl hx hb d_M_bits_32 ?_
      refine lv_topi (fun v_3 ev_3 => ?_)
      have z9 : v_3 = nI (2 ^ bb) := by rw [ev_3]; exact shl1 _ (by omega)
      subst z9
      refine lv_iconst (v := 1) hx hb d_M_bits_33 (by decide) ?_
      refine lv_isub hx hb d_M_bits_34 ?_
      refine lv_topi (fun v_4 ev_4 => ?_)
      have z9 : v_4 = nI (2 ^ bb - 1) := by rw [ev_4]; exact nI_pred9 hp0
      subst z9
      refine my_ci (wr := [(o, Sum.inr (9, mO g 3 fShift fModels (nI ki) 0 fLow fRange fCache fPend fGoes fOuts fIns fReads fBad fIR fAsk fBAsk fCode fRL fRR fX fWrites 0)), ((g 4), Sum.inl (cI, 600, Sum.inl vIM)), ((g 5), Sum.inl (cI, 600, Sum.inl vIW))]) (va_runS (As := [Value.int (nI vv), Value.int 0, Value.int (nI (2 ^ bb - 1))]) (rest := []) ⟨hx, hb, hml, hown, hts⟩ (c_M_in l dC dI cI cM cO H.size (nI vv) 0 (nI (2 ^ bb - 1))) (cwS 3 hts (my_gS k1062 k1063 k12 k1064) rfl rfl rfl (by decide +kernel) ⟨by rw [hR]; exact Nat.le_of_ble_eq_true rfl, by rw [hR]; exact Nat.le_of_ble_eq_true rfl⟩) (my_pre hK hN (hP.sub [] rfl) (hD.sub [] (by decide +kernel) rfl)) rfl rfl hl.1 rfl (lv_room (Nat.le_of_ble_eq_true rfl)) d_M_bits_35 ⟨by rw [hR]; exact Nat.le_of_ble_eq_true rfl, by rw [hR]; exact Nat.le_of_ble_eq_true rfl⟩) hP hD hS hA [] [0, 1, 2] rfl rfl (by decide +kernel) (by decide +kernel) (fun r_35 u9 H locs hw_35 hP hD hS => ?_)
      have hw_35 : r_35 = if 0 ≤ (nI vv) ∧ (nI vv) ≤ (nI (2 ^ bb - 1)) then 1 else 0 := hw_35
      have hPD : my_PD (dC, dI) vwCl A [(o, Sum.inr (9, mO g 3 fShift fModels (nI ki) 0 fLow fRange fCache fPend fGoes fOuts fIns fReads fBad fIR fAsk fBAsk fCode fRL fRR fX fWrites 0)), ((g 4), Sum.inl (cI, 600, Sum.inl vIM)), ((g 5), Sum.inl (cI, 600, Sum.inl vIW))] H := ⟨hP, hD⟩
      have hP := hPD.1
      have hD := hPD.2
      refine lv_if_ne (tgt := 44) hx hb d_M_bits_38 (by decide) (fun c_5 => ?_) (fun c_5 => ?_)
      · refine lv_aload_n hx hb d_M_bits_44 rfl (lv_at hl 0 rfl) ?_
        refine va_get (D := (dC, dI)) (ci := 9) (v := .int 0) (C := "RangeCodersModel") (T := T_M) (N := 35) hx hb hg in_M hown hK hP 0 rfl rfl 10 (by decide) (hg _ k962) (fun _ h9 => h9) rfl d_M_bits_45 ?_
        refine lv_if_eq (tgt := 54) hx hb d_M_bits_48 (by decide) (fun c_6 => ?_) (fun c_6 => ?_)
        · refine lv_aload_n hx hb d_M_bits_54 rfl (lv_at hl 0 rfl) ?_
          refine va_get (D := (dC, dI)) (ci := 9) (v := .int (nI ki)) (C := "RangeCodersModel") (T := T_M) (N := 35) hx hb hg in_M hown hK hP 0 rfl rfl 7 (by decide) (hg _ k959) (fun _ h9 => h9) rfl d_M_bits_55 ?_
          refine lv_sipush (v := 600) hx hb d_M_bits_58 (by decide) ?_
          refine lv_icmp_ne (tgt := 67) hx hb d_M_bits_61 (by decide) (fun c_7 => ?_) (fun c_7 => ?_)
          · refine lv_aload_n hx hb d_M_bits_67 rfl (lv_at hl 0 rfl) ?_
            refine lv_iload_n hx hb d_M_bits_68 rfl (lv_at hl 1 rfl) ?_
            refine lv_iload_n hx hb d_M_bits_69 rfl (lv_at hl 2 rfl) ?_
            refine my_cv (wr := [((g 4), Sum.inl (cI, 600, Sum.inl vIM)), ((g 5), Sum.inl (cI, 600, Sum.inl vIW))]) (va_runV (As := [Value.int (nI vv), Value.int (nI bb)]) (rest := []) ⟨hx, hb, hml, hown, hts⟩ (c_M_putValue3 l dC dI cI cM cO H.size o g fShift fModels (nI ki) 0 fLow fRange fCache fPend fGoes fOuts fIns fReads fBad fIR fAsk fBAsk fCode fRL fRR fX fWrites 0 (nI vv) (nI bb)) (cwV 2 hts (my_gV k1143 k1145 ks39 k12 k1146) rfl rfl rfl cu_M_putValue_2 ⟨by rw [hR]; exact Nat.le_of_ble_eq_true rfl, by rw [hR]; exact Nat.le_of_ble_eq_true rfl⟩) (my_preV hK hN (hP.sub [0] rfl) (hD.sub [0] (by decide +kernel) rfl) 0 rfl rfl) rfl rfl hl.1 rfl (lv_room (Nat.le_of_ble_eq_true rfl)) d_M_bits_70 ⟨by rw [hR]; exact Nat.le_of_ble_eq_true rfl, by rw [hR]; exact Nat.le_of_ble_eq_true rfl⟩) hP hD hS hA [0] [1, 2] rfl rfl (by decide +kernel) (by decide +kernel) (fun u9 H locs hw_70 hP hD hS => ?_)
            have hw_70 : True := hw_70
            have hPD : my_PD (dC, dI) vwCl A [((g 4), Sum.inl (cI, 600, Sum.inl vIM)), ((g 5), Sum.inl (cI, 600, Sum.inl vIW)), (o, Sum.inr (9, mO g 3 fShift fModels (nI ki) 0 fLow fRange fCache fPend fGoes fOuts fIns fReads fBad fIR fAsk fBAsk fCode fRL fRR fX fWrites 0))] H := ⟨hP, hD⟩
            have hP := hPD.1
            have hD := hPD.2
            refine lv_aload_n hx hb d_M_bits_73 rfl (lv_at hl 0 rfl) ?_
            refine lv_iload_n hx hb d_M_bits_74 rfl (lv_at hl 2 rfl) ?_
            refine lv_ineg hx hb d_M_bits_75 ?_
            refine lv_topi (fun v_8 ev_8 => ?_)
            refine lv_iload_n hx hb d_M_bits_76 rfl (lv_at hl 1 rfl) ?_
            refine my_ci (wr := []) (va_runV (As := [Value.int v_8, Value.int (nI vv)]) (rest := []) ⟨hx, hb, hml, hown, hts⟩ (c_M_addItem l dC dI cI cM cO H.size o g 3 fShift fModels 0 fLow fRange fCache fPend fGoes fOuts fIns fReads fBad fIR fAsk fBAsk fCode fRL fRR fX fWrites 0 vIM vIW ki v_8 (nI vv) (hki)) (cwV 2 hts (my_gV k1135 k1137 ks38 k12 k1138) rfl rfl rfl cu_M_addItem_2 ⟨by rw [hR]; exact Nat.le_of_ble_eq_true rfl, by rw [hR]; exact Nat.le_of_ble_eq_true rfl⟩) (my_preV hK hN (hP.sub [2, 0, 1] rfl) (hD.sub [2, 0, 1] (by decide +kernel) rfl) 0 rfl rfl) rfl rfl hl.1 rfl (lv_room (Nat.le_of_ble_eq_true rfl)) d_M_bits_77 ⟨by rw [hR]; exact Nat.le_of_ble_eq_true rfl, by rw [hR]; exact Nat.le_of_ble_eq_true rfl⟩) hP hD hS hA [2, 0, 1] [] rfl rfl (by decide +kernel) (by decide +kernel) (fun r_77 u9 H locs hw_77 hP hD hS => ?_)
            obtain ⟨f2_77, v2_77⟩ := u9
            have hw_77 : r_77 = nI (ki + 1) ∧ f2_77 = upd vIM ki v_8 ∧ v2_77 = upd vIW ki (nI vv) := hw_77
            have hPD : my_PD (dC, dI) vwCl A [(o, Sum.inr (9, mO g 3 fShift fModels (nI (ki + 1)) 0 fLow fRange fCache fPend fGoes fOuts fIns fReads fBad fIR fAsk fBAsk fCode fRL fRR fX fWrites 0)), ((g 4), Sum.inl (cI, 600, Sum.inl f2_77)), ((g 5), Sum.inl (cI, 600, Sum.inl v2_77))] H := ⟨hP, hD⟩
            have hP := hPD.1
            have hD := hPD.2
            exact my_iret (v := r_77) hx hb hr (rfl) hlocks hQ hK hS (Nat.le_refl _) (Nat.le_refl _) (f2_77, v2_77) (⟨hw_77.1, by rw [hw_77.2.1, ev_8], hw_77.2.2⟩) (hP.sub [0, 1, 2] rfl) (hD.sub [0, 1, 2] (by decide +kernel) rfl) d_M_bits_80
          · exact absurd (nI_inj (a := ki) (b := 600) (by omega) (by decide) c_7) (by omega)
        · exact absurd (by decide) c_6
      · exact absurd ⟨nI_pos' (by omega), nI_le (by omega) (by omega)⟩ (one_eq hw_35 c_5)
  · exact absurd c_1 (by decide)
set_option maxHeartbeats 2000000 in
set_option maxRecDepth 100000 in
theorem m_bits4L (l : Launch) (dC : Nat → ClassId) (dI : Nat → Nat → Nat) (cI cM cO : ClassId) (sz : Nat) (o : Nat) (g : Nat → Nat) (fShift : Int32) (fModels : Int32) (fLow : Int64) (fRange : Int64) (fCache : Int32) (fPend : Int32) (fGoes : Int32) (fOuts : Int32) (fIns : Int32) (fReads : Int32) (fBad : Int32) (fIR : Int32) (fAsk : Int32) (fBAsk : Int32) (fCode : Int64) (fRL : Int64) (fRR : Int64) (fX : Int64) (fWrites : Int32) (fThrown : Int32) (vIM : Nat → Int32) (vIW : Nat → Int32) (vv : Nat) (bb : Nat) (ki : Nat) (hb1 : 1 ≤ bb) (hb2 : bb ≤ 9) (hv : vv < 2 ^ bb) (hki : ki < 600) : MetI l y_M_bits (Cond.code y_M_bits prog_14_method_30_code 3 (some .int) :: gw) ({ frames := 1, cells := 0, slots := 0, locals := 23 } : Room) (dC, dI) vwCl (kT cI cM cO) [Value.ref o, Value.int (nI vv), Value.int (nI bb)] [(o, Sum.inr (9, mO g 4 fShift fModels (nI ki) 0 fLow fRange fCache fPend fGoes fOuts fIns fReads fBad fIR fAsk fBAsk fCode fRL fRR fX fWrites fThrown)), ((g 4), Sum.inl (cI, 600, Sum.inl vIM)), ((g 5), Sum.inl (cI, 600, Sum.inl vIW))] sz (fun (r : Int32) (u : (Nat → Int32) × (Nat → Int32)) => r = nI (ki + 1) ∧ u.1 = upd vIM ki (-nI bb) ∧ u.2 = upd vIW ki (nI vv)) (fun (u : (Nat → Int32) × (Nat → Int32)) => [(o, Sum.inr (9, mO g 4 fShift fModels (nI (ki + 1)) 0 fLow fRange fCache fPend fGoes fOuts fIns fReads fBad fIR fAsk fBAsk fCode fRL fRR fX fWrites 0)), ((g 4), Sum.inl (cI, 600, Sum.inl u.1)), ((g 5), Sum.inl (cI, 600, Sum.inl u.2))]) 0 0 := by
  refine my_ofI (cc := prog_14_method_30_code) (n := 3) (ret := (some .int)) (by decide) rfl (Nat.le_of_ble_eq_true rfl) ?_
  intro p e s m args below meth c R Q A ls H locs hx hb hr hts hown hlocks hml hnm hR hQ hA hl hP hK hN hD hS
  have hg : ∀ w ∈ gw, w.before args s = true := fun w h => hts w (List.mem_cons_of_mem _ h)
  have hown : s.vm.findClass "RangeCodersModel" = some m.cls := hown
  have hl : lv_has ls 3 [(0, Value.ref o), (1, Value.int (nI vv)), (2, Value.int (nI bb))] := hl
  have hp12 : 2 ^ bb ≤ 4096 := pw12 (by omega)
  have hp0 := Nat.two_pow_pos bb
  refine lv_aload_n hx hb d_M_bits_0 rfl (lv_at hl 0 rfl) ?_
  refine lv_iconst (v := 0) hx hb d_M_bits_1 (by decide) ?_
  refine va_put (D := (dC, dI)) (ci := 9) (v := .int 0) (ty := .int) (C := "RangeCodersModel") (T := T_M) (N := 35) hx hb hg in_M t_M o_M n_M hown hK hP hD hS 0 rfl rfl 34 (by decide) (hg _ k986) (fun _ h9 => h9) rfl (o_M 34 (by decide)) rfl rfl (Nat.le_of_ble_eq_true rfl) d_M_bits_2 (fun H locs hP hD hS => ?_)
  have hPD : my_PD (dC, dI) vwCl A [(o, Sum.inr (9, mO g 4 fShift fModels (nI ki) 0 fLow fRange fCache fPend fGoes fOuts fIns fReads fBad fIR fAsk fBAsk fCode fRL fRR fX fWrites 0)), ((g 4), Sum.inl (cI, 600, Sum.inl vIM)), ((g 5), Sum.inl (cI, 600, Sum.inl vIW))] H := ⟨hP, hD⟩
  have hP := hPD.1
  have hD := hPD.2
  refine lv_iload_n hx hb d_M_bits_5 rfl (lv_at hl 2 rfl) ?_
  refine lv_iconst (v := 1) hx hb d_M_bits_6 (by decide) ?_
  refine lv_aload_n hx hb d_M_bits_7 rfl (lv_at hl 0 rfl) ?_
  refine va_get (D := (dC, dI)) (ci := 9) (v := .int 4) (C := "RangeCodersModel") (T := T_M) (N := 35) hx hb hg in_M hown hK hP 0 rfl rfl 0 (by decide) (hg _ k952) (fun _ h9 => h9) rfl d_M_bits_8 ?_
  refine lv_iconst (v := 4) hx hb d_M_bits_11 (by decide) ?_
  refine lv_icmp_ne (tgt := 20) hx hb d_M_bits_12 (by decide) (fun c_1 => ?_) (fun c_1 => ?_)
  · exact absurd rfl c_1
  · refine lv_bipush (v := 9) hx hb d_M_bits_15 (by decide) ?_
    refine lv_goto (tgt := 22) hx hb d_M_bits_17 (by decide) ?_
    refine my_ci (wr := [(o, Sum.inr (9, mO g 4 fShift fModels (nI ki) 0 fLow fRange fCache fPend fGoes fOuts fIns fReads fBad fIR fAsk fBAsk fCode fRL fRR fX fWrites 0)), ((g 4), Sum.inl (cI, 600, Sum.inl vIM)), ((g 5), Sum.inl (cI, 600, Sum.inl vIW))]) (va_runS (As := [Value.int (nI bb), Value.int 1, Value.int 9]) (rest := []) ⟨hx, hb, hml, hown, hts⟩ (c_M_in l dC dI cI cM cO H.size (nI bb) 1 9) (cwS 3 hts (my_gS k1062 k1063 k12 k1064) rfl rfl rfl (by decide +kernel) ⟨by rw [hR]; exact Nat.le_of_ble_eq_true rfl, by rw [hR]; exact Nat.le_of_ble_eq_true rfl⟩) (my_pre hK hN (hP.sub [] rfl) (hD.sub [] (by decide +kernel) rfl)) rfl rfl hl.1 rfl (lv_room (Nat.le_of_ble_eq_true rfl)) d_M_bits_22 ⟨by rw [hR]; exact Nat.le_of_ble_eq_true rfl, by rw [hR]; exact Nat.le_of_ble_eq_true rfl⟩) hP hD hS hA [] [0, 1, 2] rfl rfl (by decide +kernel) (by decide +kernel) (fun r_22 u9 H locs hw_22 hP hD hS => ?_)
    have hw_22 : r_22 = if 1 ≤ (nI bb) ∧ (nI bb) ≤ 9 then 1 else 0 := hw_22
    have hPD : my_PD (dC, dI) vwCl A [(o, Sum.inr (9, mO g 4 fShift fModels (nI ki) 0 fLow fRange fCache fPend fGoes fOuts fIns fReads fBad fIR fAsk fBAsk fCode fRL fRR fX fWrites 0)), ((g 4), Sum.inl (cI, 600, Sum.inl vIM)), ((g 5), Sum.inl (cI, 600, Sum.inl vIW))] H := ⟨hP, hD⟩
    have hP := hPD.1
    have hD := hPD.2
    refine lv_if_eq (tgt := 41) hx hb d_M_bits_25 (by decide) (fun c_2 => ?_) (fun c_2 => ?_)
    · exact absurd (show 1 ≤ nI bb ∧ nI bb ≤ nI 9 from ⟨nI_le (a := 1) hb1 (by omega), nI_le hb2 (by decide)⟩) (one_eq hw_22 c_2)
    · refine lv_iload_n hx hb d_M_bits_28 rfl (lv_at hl 1 rfl) ?_
      refine lv_iconst (v := 0) hx hb d_M_bits_29 (by decide) ?_
      refine lv_iconst (v := 1) hx hb d_M_bits_30 (by decide) ?_
      refine lv_iload_n hx hb d_M_bits_31 rfl (lv_at hl 2 rfl) ?_
      refine lv_ishl hx hb d_M_bits_32 ?_
      refine lv_topi (fun v_3 ev_3 => ?_)
      have z9 : v_3 = nI (2 ^ bb) := by rw [ev_3]; exact shl1 _ (by omega)
      subst z9
      refine lv_iconst (v := 1) hx hb d_M_bits_33 (by decide) ?_
      refine lv_isub hx hb d_M_bits_34 ?_
      refine lv_topi (fun v_4 ev_4 => ?_)
      have z9 : v_4 = nI (2 ^ bb - 1) := by rw [ev_4]; exact nI_pred9 hp0
      subst z9
      refine my_ci (wr := [(o, Sum.inr (9, mO g 4 fShift fModels (nI ki) 0 fLow fRange fCache fPend fGoes fOuts fIns fReads fBad fIR fAsk fBAsk fCode fRL fRR fX fWrites 0)), ((g 4), Sum.inl (cI, 600, Sum.inl vIM)), ((g 5), Sum.inl (cI, 600, Sum.inl vIW))]) (va_runS (As := [Value.int (nI vv), Value.int 0, Value.int (nI (2 ^ bb - 1))]) (rest := []) ⟨hx, hb, hml, hown, hts⟩ (c_M_in l dC dI cI cM cO H.size (nI vv) 0 (nI (2 ^ bb - 1))) (cwS 3 hts (my_gS k1062 k1063 k12 k1064) rfl rfl rfl (by decide +kernel) ⟨by rw [hR]; exact Nat.le_of_ble_eq_true rfl, by rw [hR]; exact Nat.le_of_ble_eq_true rfl⟩) (my_pre hK hN (hP.sub [] rfl) (hD.sub [] (by decide +kernel) rfl)) rfl rfl hl.1 rfl (lv_room (Nat.le_of_ble_eq_true rfl)) d_M_bits_35 ⟨by rw [hR]; exact Nat.le_of_ble_eq_true rfl, by rw [hR]; exact Nat.le_of_ble_eq_true rfl⟩) hP hD hS hA [] [0, 1, 2] rfl rfl (by decide +kernel) (by decide +kernel) (fun r_35 u9 H locs hw_35 hP hD hS => ?_)
      have hw_35 : r_35 = if 0 ≤ (nI vv) ∧ (nI vv) ≤ (nI (2 ^ bb - 1)) then 1 else 0 := hw_35
      have hPD : my_PD (dC, dI) vwCl A [(o, Sum.inr (9, mO g 4 fShift fModels (nI ki) 0 fLow fRange fCache fPend fGoes fOuts fIns fReads fBad fIR fAsk fBAsk fCode fRL fRR fX fWrites 0)), ((g 4), Sum.inl (cI, 600, Sum.inl vIM)), ((g 5), Sum.inl (cI, 600, Sum.inl vIW))] H := ⟨hP, hD⟩
      have hP := hPD.1
      have hD := hPD.2
      refine lv_if_ne (tgt := 44) hx hb d_M_bits_38 (by decide) (fun c_5 => ?_) (fun c_5 => ?_)
      · refine lv_aload_n hx hb d_M_bits_44 rfl (lv_at hl 0 rfl) ?_
        refine va_get (D := (dC, dI)) (ci := 9) (v := .int 0) (C := "RangeCodersModel") (T := T_M) (N := 35) hx hb hg in_M hown hK hP 0 rfl rfl 10 (by decide) (hg _ k962) (fun _ h9 => h9) rfl d_M_bits_45 ?_
        refine lv_if_eq (tgt := 54) hx hb d_M_bits_48 (by decide) (fun c_6 => ?_) (fun c_6 => ?_)
        · refine lv_aload_n hx hb d_M_bits_54 rfl (lv_at hl 0 rfl) ?_
          refine va_get (D := (dC, dI)) (ci := 9) (v := .int (nI ki)) (C := "RangeCodersModel") (T := T_M) (N := 35) hx hb hg in_M hown hK hP 0 rfl rfl 7 (by decide) (hg _ k959) (fun _ h9 => h9) rfl d_M_bits_55 ?_
          refine lv_sipush (v := 600) hx hb d_M_bits_58 (by decide) ?_
          refine lv_icmp_ne (tgt := 67) hx hb d_M_bits_61 (by decide) (fun c_7 => ?_) (fun c_7 => ?_)
          · refine lv_aload_n hx hb d_M_bits_67 rfl (lv_at hl 0 rfl) ?_
            refine lv_iload_n hx hb d_M_bits_68 rfl (lv_at hl 1 rfl) ?_
            refine lv_iload_n hx hb d_M_bits_69 rfl (lv_at hl 2 rfl) ?_
            refine my_cv (wr := [((g 4), Sum.inl (cI, 600, Sum.inl vIM)), ((g 5), Sum.inl (cI, 600, Sum.inl vIW))]) (va_runV (As := [Value.int (nI vv), Value.int (nI bb)]) (rest := []) ⟨hx, hb, hml, hown, hts⟩ (c_M_putValue4 l dC dI cI cM cO H.size o g fShift fModels (nI ki) 0 fLow fRange fCache fPend fGoes fOuts fIns fReads fBad fIR fAsk fBAsk fCode fRL fRR fX fWrites 0 (nI vv) (nI bb)) (cwV 2 hts (my_gV k1143 k1145 ks39 k12 k1146) rfl rfl rfl cu_M_putValue_2 ⟨by rw [hR]; exact Nat.le_of_ble_eq_true rfl, by rw [hR]; exact Nat.le_of_ble_eq_true rfl⟩) (my_preV hK hN (hP.sub [0] rfl) (hD.sub [0] (by decide +kernel) rfl) 0 rfl rfl) rfl rfl hl.1 rfl (lv_room (Nat.le_of_ble_eq_true rfl)) d_M_bits_70 ⟨by rw [hR]; exact Nat.le_of_ble_eq_true rfl, by rw [hR]; exact Nat.le_of_ble_eq_true rfl⟩) hP hD hS hA [0] [1, 2] rfl rfl (by decide +kernel) (by decide +kernel) (fun u9 H locs hw_70 hP hD hS => ?_)
            have hw_70 : True := hw_70
            have hPD : my_PD (dC, dI) vwCl A [((g 4), Sum.inl (cI, 600, Sum.inl vIM)), ((g 5), Sum.inl (cI, 600, Sum.inl vIW)), (o, Sum.inr (9, mO g 4 fShift fModels (nI ki) 0 fLow fRange fCache fPend fGoes fOuts fIns fReads fBad fIR fAsk fBAsk fCode fRL fRR fX fWrites 0))] H := ⟨hP, hD⟩
            have hP := hPD.1
            have hD := hPD.2
            refine lv_aload_n hx hb d_M_bits_73 rfl (lv_at hl 0 rfl) ?_
            refine lv_iload_n hx hb d_M_bits_74 rfl (lv_at hl 2 rfl) ?_
            refine lv_ineg hx hb d_M_bits_75 ?_
            refine lv_topi (fun v_8 ev_8 => ?_)
            refine lv_iload_n hx hb d_M_bits_76 rfl (lv_at hl 1 rfl) ?_
            refine my_ci (wr := []) (va_runV (As := [Value.int v_8, Value.int (nI vv)]) (rest := []) ⟨hx, hb, hml, hown, hts⟩ (c_M_addItem l dC dI cI cM cO H.size o g 4 fShift fModels 0 fLow fRange fCache fPend fGoes fOuts fIns fReads fBad fIR fAsk fBAsk fCode fRL fRR fX fWrites 0 vIM vIW ki v_8 (nI vv) (hki)) (cwV 2 hts (my_gV k1135 k1137 ks38 k12 k1138) rfl rfl rfl cu_M_addItem_2 ⟨by rw [hR]; exact Nat.le_of_ble_eq_true rfl, by rw [hR]; exact Nat.le_of_ble_eq_true rfl⟩) (my_preV hK hN (hP.sub [2, 0, 1] rfl) (hD.sub [2, 0, 1] (by decide +kernel) rfl) 0 rfl rfl) rfl rfl hl.1 rfl (lv_room (Nat.le_of_ble_eq_true rfl)) d_M_bits_77 ⟨by rw [hR]; exact Nat.le_of_ble_eq_true rfl, by rw [hR]; exact Nat.le_of_ble_eq_true rfl⟩) hP hD hS hA [2, 0, 1] [] rfl rfl (by decide +kernel) (by decide +kernel) (fun r_77 u9 H locs hw_77 hP hD hS => ?_)
            obtain ⟨f2_77, v2_77⟩ := u9
            have hw_77 : r_77 = nI (ki + 1) ∧ f2_77 = upd vIM ki v_8 ∧ v2_77 = upd vIW ki (nI vv) := hw_77
            have hPD : my_PD (dC, dI) vwCl A [(o, Sum.inr (9, mO g 4 fShift fModels (nI (ki + 1)) 0 fLow fRange fCache fPend fGoes fOuts fIns fReads fBad fIR fAsk fBAsk fCode fRL fRR fX fWrites 0)), ((g 4), Sum.inl (cI, 600, Sum.inl f2_77)), ((g 5), Sum.inl (cI, 600, Sum.inl v2_77))] H := ⟨hP, hD⟩
            have hP := hPD.1
            have hD := hPD.2
            exact my_iret (v := r_77) hx hb hr (rfl) hlocks hQ hK hS (Nat.le_refl _) (Nat.le_refl _) (f2_77, v2_77) (⟨hw_77.1, by rw [hw_77.2.1, ev_8], hw_77.2.2⟩) (hP.sub [0, 1, 2] rfl) (hD.sub [0, 1, 2] (by decide +kernel) rfl) d_M_bits_80
          · exact absurd (nI_inj (a := ki) (b := 600) (by omega) (by decide) c_7) (by omega)
        · exact absurd (by decide) c_6
      · exact absurd ⟨nI_pos' (by omega), nI_le (by omega) (by omega)⟩ (one_eq hw_35 c_5)
end
section
set_option maxHeartbeats 2000000 in
set_option maxRecDepth 100000 in
theorem m_octetsR (l : Launch) (dC : Nat → ClassId) (dI : Nat → Nat → Nat) (cI cM cO : ClassId) (sz : Nat) (o : Nat) (g : Nat → Nat) (fForm : Int32) (fShift : Int32) (fModels : Int32) (fItems : Int32) (fEnded : Int32) (fLow : Int64) (fRange : Int64) (fCache : Int32) (fPend : Int32) (fGoes : Int32) (fOuts : Int32) (fReads : Int32) (fBad : Int32) (fIR : Int32) (fAsk : Int32) (fBAsk : Int32) (fCode : Int64) (fRL : Int64) (fRR : Int64) (fX : Int64) (fWrites : Int32) (fThrown : Int32) (is : List Nat) (p1 : Int32) (hlen : is.length ≤ 6000) (hfl : 6000 < is.length + 4) : MetI l y_M_octets (Cond.code y_M_octets prog_14_method_37_code 3 (some .int) :: gw) ({ frames := 0, cells := 0, slots := 0, locals := 0 } : Room) (dC, dI) vwCl (kT cI cM cO) [Value.ref o, Value.int p1] [(o, Sum.inr (9, mO g fForm fShift fModels fItems fEnded fLow fRange fCache fPend fGoes fOuts (nI is.length) fReads fBad fIR fAsk fBAsk fCode fRL fRR fX fWrites fThrown))] sz (fun (r : Int32) (u : Unit) => r = -4) (fun (u : Unit) => [(o, Sum.inr (9, mO g fForm fShift fModels fItems fEnded fLow fRange fCache fPend fGoes fOuts (nI is.length) fReads fBad fIR fAsk fBAsk fCode fRL fRR fX fWrites 0))]) 0 0 := by
  refine my_ofI (cc := prog_14_method_37_code) (n := 3) (ret := (some .int)) (by decide) rfl (Nat.le_of_ble_eq_true rfl) ?_
  intro p e s m args below meth c R Q A ls H locs hx hb hr hts hown hlocks hml hnm hR hQ hA hl hP hK hN hD hS
  have hg : ∀ w ∈ gw, w.before args s = true := fun w h => hts w (List.mem_cons_of_mem _ h)
  have hown : s.vm.findClass "RangeCodersModel" = some m.cls := hown
  have hl : lv_has ls 3 [(0, Value.ref o), (1, Value.int p1)] := hl
  refine lv_aload_n hx hb d_M_octets_0 rfl (lv_at hl 0 rfl) ?_
  refine lv_iconst (v := 0) hx hb d_M_octets_1 (by decide) ?_
  refine va_put (D := (dC, dI)) (ci := 9) (v := .int 0) (ty := .int) (C := "RangeCodersModel") (T := T_M) (N := 35) hx hb hg in_M t_M o_M n_M hown hK hP hD hS 0 rfl rfl 34 (by decide) (hg _ k986) (fun _ h9 => h9) rfl (o_M 34 (by decide)) rfl rfl (Nat.le_of_ble_eq_true rfl) d_M_octets_2 (fun H locs hP hD hS => ?_)
  have hPD : my_PD (dC, dI) vwCl A [(o, Sum.inr (9, mO g fForm fShift fModels fItems fEnded fLow fRange fCache fPend fGoes fOuts (nI is.length) fReads fBad fIR fAsk fBAsk fCode fRL fRR fX fWrites 0))] H := ⟨hP, hD⟩
  have hP := hPD.1
  have hD := hPD.2
  refine lv_aload_n hx hb d_M_octets_5 rfl (lv_at hl 0 rfl) ?_
  refine va_get (D := (dC, dI)) (ci := 9) (v := .int (nI is.length)) (C := "RangeCodersModel") (T := T_M) (N := 35) hx hb hg in_M hown hK hP 0 rfl rfl 20 (by decide) (hg _ k972) (fun _ h9 => h9) rfl d_M_octets_6 ?_
  refine lv_iconst (v := 4) hx hb d_M_octets_9 (by decide) ?_
  refine lv_iadd hx hb d_M_octets_10 ?_
  refine lv_topi (fun v_1 ev_1 => ?_)
  refine lv_sipush (v := 6000) hx hb d_M_octets_11 (by decide) ?_
  have z9 : v_1 = nI (is.length + 4) := by rw [ev_1]; exact nI_add _ 4
  subst z9
  refine lv_icmp_le (tgt := 20) hx hb d_M_octets_14 (by decide) (fun c_2 => ?_) (fun c_2 => ?_)
  · exact absurd ((nI_cmp (b := 6000) (by omega) (by decide)).mp c_2) (by omega)
  · refine lv_bipush (v := (-4)) hx hb d_M_octets_17 (by decide) ?_
    exact my_iret (v := (-4)) hx hb hr (rfl) hlocks hQ hK hS (Nat.le_refl _) (Nat.le_refl _) () (rfl) (hP.sub [0] rfl) (hD.sub [0] (by decide +kernel) rfl) d_M_octets_19
set_option maxHeartbeats 2000000 in
set_option maxRecDepth 100000 in
theorem m_octetsL (l : Launch) (dC : Nat → ClassId) (dI : Nat → Nat → Nat) (cI cM cO : ClassId) (sz : Nat) (o : Nat) (g : Nat → Nat) (fForm : Int32) (fShift : Int32) (fModels : Int32) (fItems : Int32) (fEnded : Int32) (fLow : Int64) (fRange : Int64) (fCache : Int32) (fPend : Int32) (fGoes : Int32) (fOuts : Int32) (fReads : Int32) (fBad : Int32) (fIR : Int32) (fAsk : Int32) (fBAsk : Int32) (fCode : Int64) (fRL : Int64) (fRR : Int64) (fX : Int64) (fWrites : Int32) (fThrown : Int32) (vIn : Nat → Int32) (is : List Nat) (p1 : Int32) (hI : gIs vIn is) (hlen : is.length ≤ 6000) (hfl : is.length + 4 ≤ 6000) : MetI l y_M_octets (Cond.code y_M_octets prog_14_method_37_code 3 (some .int) :: gw) ({ frames := 0, cells := 0, slots := 0, locals := 0 } : Room) (dC, dI) vwCl (kT cI cM cO) [Value.ref o, Value.int p1] [(o, Sum.inr (9, mO g fForm fShift fModels fItems fEnded fLow fRange fCache fPend fGoes fOuts (nI is.length) fReads fBad fIR fAsk fBAsk fCode fRL fRR fX fWrites fThrown)), ((g 8), Sum.inl (cI, 6000, Sum.inl vIn))] sz (fun (r : Int32) (u : (Nat → Int32)) => r = nI (is ++ [oB p1 3, oB p1 2, oB p1 1, oB p1 0]).length ∧ gIs u (is ++ [oB p1 3, oB p1 2, oB p1 1, oB p1 0])) (fun (u : (Nat → Int32)) => [(o, Sum.inr (9, mO g fForm fShift fModels fItems fEnded fLow fRange fCache fPend fGoes fOuts (nI (is ++ [oB p1 3, oB p1 2, oB p1 1, oB p1 0]).length) fReads fBad fIR fAsk fBAsk fCode fRL fRR fX fWrites 0)), ((g 8), Sum.inl (cI, 6000, Sum.inl u))]) 0 0 := by
  refine my_ofI (cc := prog_14_method_37_code) (n := 3) (ret := (some .int)) (by decide) rfl (Nat.le_of_ble_eq_true rfl) ?_
  intro p e s m args below meth c R Q A ls H locs hx hb hr hts hown hlocks hml hnm hR hQ hA hl hP hK hN hD hS
  have hg : ∀ w ∈ gw, w.before args s = true := fun w h => hts w (List.mem_cons_of_mem _ h)
  have hown : s.vm.findClass "RangeCodersModel" = some m.cls := hown
  have hl : lv_has ls 3 [(0, Value.ref o), (1, Value.int p1)] := hl
  refine lv_aload_n hx hb d_M_octets_0 rfl (lv_at hl 0 rfl) ?_
  refine lv_iconst (v := 0) hx hb d_M_octets_1 (by decide) ?_
  refine va_put (D := (dC, dI)) (ci := 9) (v := .int 0) (ty := .int) (C := "RangeCodersModel") (T := T_M) (N := 35) hx hb hg in_M t_M o_M n_M hown hK hP hD hS 0 rfl rfl 34 (by decide) (hg _ k986) (fun _ h9 => h9) rfl (o_M 34 (by decide)) rfl rfl (Nat.le_of_ble_eq_true rfl) d_M_octets_2 (fun H locs hP hD hS => ?_)
  have hPD : my_PD (dC, dI) vwCl A [(o, Sum.inr (9, mO g fForm fShift fModels fItems fEnded fLow fRange fCache fPend fGoes fOuts (nI is.length) fReads fBad fIR fAsk fBAsk fCode fRL fRR fX fWrites 0)), ((g 8), Sum.inl (cI, 6000, Sum.inl vIn))] H := ⟨hP, hD⟩
  have hP := hPD.1
  have hD := hPD.2
  refine lv_aload_n hx hb d_M_octets_5 rfl (lv_at hl 0 rfl) ?_
  refine va_get (D := (dC, dI)) (ci := 9) (v := .int (nI is.length)) (C := "RangeCodersModel") (T := T_M) (N := 35) hx hb hg in_M hown hK hP 0 rfl rfl 20 (by decide) (hg _ k972) (fun _ h9 => h9) rfl d_M_octets_6 ?_
  refine lv_iconst (v := 4) hx hb d_M_octets_9 (by decide) ?_
  refine lv_iadd hx hb d_M_octets_10 ?_
  refine lv_topi (fun v_1 ev_1 => ?_)
  refine lv_sipush (v := 6000) hx hb d_M_octets_11 (by decide) ?_
  have z9 : v_1 = nI (is.length + 4) := by rw [ev_1]; exact nI_add _ 4
  subst z9
  refine lv_icmp_le (tgt := 20) hx hb d_M_octets_14 (by decide) (fun c_2 => ?_) (fun c_2 => ?_)
  · refine lv_iconst (v := 3) hx hb d_M_octets_20 (by decide) ?_
    refine lv_istore_n (lv' := [(2, Value.int 3), (0, Value.ref o), (1, Value.int p1)]) hx hb d_M_octets_21 rfl hl (by decide) rfl (fun ls hl => ?_)
    have J_22 : ∀ (n9_22 : Nat) (k9 : Int32) (j : Nat) (b9 : List Nat) (fI : Nat → Int32) (hn9_22 : j = n9_22) (hi : k9.toInt = (j : Int) - 1) (hj : j ≤ 4) (hb9 : is ++ [oB p1 3, oB p1 2, oB p1 1, oB p1 0] = b9 ++ (List.range j).reverse.map (oB p1)) (hM9 : b9.length + j = is.length + 4) (hI9 : gIs fI b9) (H : Heap) (locs : List Loc) (ls : Array Slot), va_P (dC, dI) vwCl [(o, Sum.inr (9, mO g fForm fShift fModels fItems fEnded fLow fRange fCache fPend fGoes fOuts (nI b9.length) fReads fBad fIR fAsk fBAsk fCode fRL fRR fX fWrites 0)), ((g 8), Sum.inl (cI, 6000, Sum.inl fI))] H → va_D A [(o, Sum.inr (9, mO g fForm fShift fModels fItems fEnded fLow fRange fCache fPend fGoes fOuts (nI b9.length) fReads fBad fIR fAsk fBAsk fCode fRL fRR fX fWrites 0)), ((g 8), Sum.inl (cI, 6000, Sum.inl fI))] → va_S A s.heap H locs → lv_has ls 3 [(2, Value.int k9), (0, Value.ref o), (1, Value.int p1)] → W p l e R s m args below meth c H locs 0 0 Q (F0 m 22 ls []) := by
      intro n9_22
      induction n9_22 using Nat.strongRecOn with
      | ind n9_22 ih9_22 =>
        intro k9 j b9 fI hn9_22 hi hj hb9 hM9 hI9 H locs ls hP hD hS hl
        refine lv_iload_n hx hb d_M_octets_22 rfl (lv_at hl 0 rfl) ?_
        refine lv_if_lt (tgt := 61) hx hb d_M_octets_23 (by decide) (fun c_3 => ?_) (fun c_3 => ?_)
        · have z9 := I_ng c_3
          have hj0 : j = 0 := by omega
          have z9 : b9 = is ++ [oB p1 3, oB p1 2, oB p1 1, oB p1 0] := by rw [hb9, hj0]; simp
          subst z9
          refine lv_aload_n hx hb d_M_octets_61 rfl (lv_at hl 1 rfl) ?_
          refine va_get (D := (dC, dI)) (ci := 9) (v := .int (nI (is ++ [oB p1 3, oB p1 2, oB p1 1, oB p1 0]).length)) (C := "RangeCodersModel") (T := T_M) (N := 35) hx hb hg in_M hown hK hP 0 rfl rfl 20 (by decide) (hg _ k972) (fun _ h9 => h9) rfl d_M_octets_62 ?_
          exact my_iret (v := nI (is ++ [oB p1 3, oB p1 2, oB p1 1, oB p1 0]).length) hx hb hr (rfl) hlocks hQ hK hS (Nat.le_refl _) (Nat.le_refl _) (fI) (⟨rfl, hI9⟩) (hP.sub [0, 1] rfl) (hD.sub [0, 1] (by decide +kernel) rfl) d_M_octets_65
        · have hd9 := I_dn (v := k9 + (-1)) c_3 rfl
          have hj0 : 1 ≤ j := by omega
          have hk9 : k9 = nI (j - 1) := Int32.toInt_inj.mp (by rw [nI_toInt (by omega)]; omega)
          refine lv_aload_n hx hb d_M_octets_26 rfl (lv_at hl 1 rfl) ?_
          refine va_get (D := (dC, dI)) (ci := 9) (v := .ref (g 8)) (C := "RangeCodersModel") (T := T_M) (N := 35) hx hb hg in_M hown hK hP 0 rfl rfl 19 (by decide) (hg _ k971) (fun _ h9 => h9) rfl d_M_octets_27 ?_
          refine lv_aload_n hx hb d_M_octets_30 rfl (lv_at hl 1 rfl) ?_
          refine va_get (D := (dC, dI)) (ci := 9) (v := .int (nI b9.length)) (C := "RangeCodersModel") (T := T_M) (N := 35) hx hb hg in_M hown hK hP 0 rfl rfl 20 (by decide) (hg _ k972) (fun _ h9 => h9) rfl d_M_octets_31 ?_
          refine lv_iload_n hx hb d_M_octets_34 rfl (lv_at hl 2 rfl) ?_
          refine lv_bipush (v := 8) hx hb d_M_octets_35 (by decide) ?_
          refine lv_iload_n hx hb d_M_octets_37 rfl (lv_at hl 0 rfl) ?_
          refine lv_imul hx hb d_M_octets_38 ?_
          refine lv_topi (fun v_4 ev_4 => ?_)
          refine lv_ishr hx hb d_M_octets_39 ?_
          refine lv_topi (fun v_5 ev_5 => ?_)
          refine lv_sipush (v := 255) hx hb d_M_octets_40 (by decide) ?_
          refine lv_iand hx hb d_M_octets_43 ?_
          refine lv_topi (fun v_6 ev_6 => ?_)
          have hv9 : v_6 = nI (oB p1 (j - 1)) := by rw [ev_6, ev_5]; exact oB_s p1 (j - 1) (by omega) _ (by rw [ev_4, hk9]; exact pk_mul 8 _)
          refine va_iast hx hb hK hP hD hS 1 0 rfl rfl (vp_in_nI (by omega) (by decide)) d_M_octets_44 (fun H locs hP hD hS => ?_)
          have hPD : my_PD (dC, dI) vwCl A [(o, Sum.inr (9, mO g fForm fShift fModels fItems fEnded fLow fRange fCache fPend fGoes fOuts (nI b9.length) fReads fBad fIR fAsk fBAsk fCode fRL fRR fX fWrites 0)), ((g 8), Sum.inl (cI, 6000, Sum.inl (upd fI (nI b9.length).toNatClampNeg v_6)))] H := ⟨hP, hD⟩
          have hP := hPD.1
          have hD := hPD.2
          have hI8 : gIs (upd fI (nI b9.length).toNatClampNeg v_6) (b9 ++ [oB p1 (j - 1)]) := gIs_up hI9 (nI_clamp (by omega)) hv9
          refine lv_aload_n hx hb d_M_octets_45 rfl (lv_at hl 1 rfl) ?_
          refine lv_dup hx hb d_M_octets_46 rfl ?_
          refine va_get (D := (dC, dI)) (ci := 9) (v := .int (nI b9.length)) (C := "RangeCodersModel") (T := T_M) (N := 35) hx hb hg in_M hown hK hP 0 rfl rfl 20 (by decide) (hg _ k972) (fun _ h9 => h9) rfl d_M_octets_47 ?_
          refine lv_iconst (v := 1) hx hb d_M_octets_50 (by decide) ?_
          refine lv_iadd hx hb d_M_octets_51 ?_
          refine lv_topi (fun v_7 ev_7 => ?_)
          have z9 : v_7 = nI (b9 ++ [oB p1 (j - 1)]).length := by rw [ev_7, List.length_append]; exact nI_1 _
          subst z9
          refine va_put (D := (dC, dI)) (ci := 9) (v := .int (nI (b9 ++ [oB p1 (j - 1)]).length)) (ty := .int) (C := "RangeCodersModel") (T := T_M) (N := 35) hx hb hg in_M t_M o_M n_M hown hK hP hD hS 0 rfl rfl 20 (by decide) (hg _ k972) (fun _ h9 => h9) rfl (o_M 20 (by decide)) rfl rfl (Nat.le_of_ble_eq_true rfl) d_M_octets_52 (fun H locs hP hD hS => ?_)
          have hPD : my_PD (dC, dI) vwCl A [(o, Sum.inr (9, mO g fForm fShift fModels fItems fEnded fLow fRange fCache fPend fGoes fOuts (nI (b9 ++ [oB p1 (j - 1)]).length) fReads fBad fIR fAsk fBAsk fCode fRL fRR fX fWrites 0)), ((g 8), Sum.inl (cI, 6000, Sum.inl (upd fI (nI b9.length).toNatClampNeg v_6)))] H := ⟨hP, hD⟩
          have hP := hPD.1
          have hD := hPD.2
          obtain ⟨v_8, ev_8⟩ : ∃ y : Int32, y = k9 + (-1) := ⟨_, rfl⟩
          refine lv_iinc (v := v_8) (lv' := [(2, Value.int v_8), (0, Value.ref o), (1, Value.int p1)]) hx hb d_M_octets_55 hl (k := 0) rfl (by rw [ev_8]; rfl) (by decide) rfl (fun ls hl => ?_)
          rw [← ev_8] at hd9
          refine lv_goto (tgt := 22) hx hb d_M_octets_58 (by decide) ?_
          exact ih9_22 _ (by first | omega | (omega)) v_8 (j - 1) (b9 ++ [oB p1 (j - 1)]) (upd fI (nI b9.length).toNatClampNeg v_6) rfl (by omega) (by omega) (by rw [hb9, show j = (j - 1) + 1 by omega, List.range_succ, List.reverse_append]; simp) (by rw [List.length_append, List.length_singleton]; omega) (hI8) H locs ls (hP.sub [0, 1] rfl) (hD.sub [0, 1] (by decide +kernel) rfl) hS (lv_sub hl [0, 1, 2] rfl)
    exact J_22 _ (3 : Int32) (4 : Nat) is vIn rfl (by decide) (by decide) (rfl) (rfl) (hI) H locs ls (hP.sub [0, 1] rfl) (hD.sub [0, 1] (by decide +kernel) rfl) hS (lv_sub hl [0, 1, 2] rfl)
  · exact absurd ((nI_cmp (b := 6000) (by omega) (by decide)).mpr (by omega)) c_2
set_option maxHeartbeats 2000000 in
set_option maxRecDepth 100000 in
theorem m_takeA (l : Launch) (dC : Nat → ClassId) (dI : Nat → Nat → Nat) (cI cM cO : ClassId) (sz : Nat) (o : Nat) (g : Nat → Nat) (fForm : Int32) (fShift : Int32) (fModels : Int32) (fItems : Int32) (fEnded : Int32) (fLow : Int64) (fRange : Int64) (fCache : Int32) (fPend : Int32) (fGoes : Int32) (fIns : Int32) (fReads : Int32) (fBad : Int32) (fIR : Int32) (fAsk : Int32) (fBAsk : Int32) (fCode : Int64) (fRL : Int64) (fRR : Int64) (fX : Int64) (fWrites : Int32) (fThrown : Int32) (os : List Nat) (p1 : Int32) (hos : os.length ≤ 9000) (hno : p1 < 0 ∨ nI os.length < p1 - 2) : MetI l y_M_take (Cond.code y_M_take prog_14_method_38_code 4 (some .int) :: gw) ({ frames := 0, cells := 0, slots := 0, locals := 0 } : Room) (dC, dI) vwCl (kT cI cM cO) [Value.ref o, Value.int p1] [(o, Sum.inr (9, mO g fForm fShift fModels fItems fEnded fLow fRange fCache fPend fGoes (nI os.length) fIns fReads fBad fIR fAsk fBAsk fCode fRL fRR fX fWrites fThrown))] sz (fun (r : Int32) (u : Unit) => r = -2) (fun (u : Unit) => [(o, Sum.inr (9, mO g fForm fShift fModels fItems fEnded fLow fRange fCache fPend fGoes (nI os.length) fIns fReads fBad fIR fAsk fBAsk fCode fRL fRR fX fWrites 0))]) 0 0 := by
  refine my_ofI (cc := prog_14_method_38_code) (n := 4) (ret := (some .int)) (by decide) rfl (Nat.le_of_ble_eq_true rfl) ?_
  intro p e s m args below meth c R Q A ls H locs hx hb hr hts hown hlocks hml hnm hR hQ hA hl hP hK hN hD hS
  have hg : ∀ w ∈ gw, w.before args s = true := fun w h => hts w (List.mem_cons_of_mem _ h)
  have hown : s.vm.findClass "RangeCodersModel" = some m.cls := hown
  have hl : lv_has ls 4 [(0, Value.ref o), (1, Value.int p1)] := hl
  refine lv_aload_n hx hb d_M_take_0 rfl (lv_at hl 0 rfl) ?_
  refine lv_iconst (v := 0) hx hb d_M_take_1 (by decide) ?_
  refine va_put (D := (dC, dI)) (ci := 9) (v := .int 0) (ty := .int) (C := "RangeCodersModel") (T := T_M) (N := 35) hx hb hg in_M t_M o_M n_M hown hK hP hD hS 0 rfl rfl 34 (by decide) (hg _ k986) (fun _ h9 => h9) rfl (o_M 34 (by decide)) rfl rfl (Nat.le_of_ble_eq_true rfl) d_M_take_2 (fun H locs hP hD hS => ?_)
  have hPD : my_PD (dC, dI) vwCl A [(o, Sum.inr (9, mO g fForm fShift fModels fItems fEnded fLow fRange fCache fPend fGoes (nI os.length) fIns fReads fBad fIR fAsk fBAsk fCode fRL fRR fX fWrites 0))] H := ⟨hP, hD⟩
  have hP := hPD.1
  have hD := hPD.2
  refine lv_iload_n hx hb d_M_take_5 rfl (lv_at hl 1 rfl) ?_
  refine lv_if_lt (tgt := 24) hx hb d_M_take_6 (by decide) (fun c_1 => ?_) (fun c_1 => ?_)
  · refine lv_bipush (v := (-2)) hx hb d_M_take_24 (by decide) ?_
    exact my_iret (v := (-2)) hx hb hr (rfl) hlocks hQ hK hS (Nat.le_refl _) (Nat.le_refl _) () (rfl) (hP.sub [0] rfl) (hD.sub [0] (by decide +kernel) rfl) d_M_take_26
  · refine lv_iload_n hx hb d_M_take_9 rfl (lv_at hl 1 rfl) ?_
    refine lv_iconst (v := 1) hx hb d_M_take_10 (by decide) ?_
    refine lv_icmp_le (tgt := 27) hx hb d_M_take_11 (by decide) (fun c_2 => ?_) (fun c_2 => ?_)
    · exact absurd hno (fun h9 => h9.elim c_1 (tk_le1 (by omega) c_1 c_2))
    · refine lv_iload_n hx hb d_M_take_14 rfl (lv_at hl 1 rfl) ?_
      refine lv_iconst (v := 2) hx hb d_M_take_15 (by decide) ?_
      refine lv_isub hx hb d_M_take_16 ?_
      refine lv_topi (fun v_3 ev_3 => ?_)
      refine lv_aload_n hx hb d_M_take_17 rfl (lv_at hl 0 rfl) ?_
      refine va_get (D := (dC, dI)) (ci := 9) (v := .int (nI os.length)) (C := "RangeCodersModel") (T := T_M) (N := 35) hx hb hg in_M hown hK hP 0 rfl rfl 18 (by decide) (hg _ k970) (fun _ h9 => h9) rfl d_M_take_18 ?_
      refine lv_icmp_le (tgt := 27) hx hb d_M_take_21 (by decide) (fun c_4 => ?_) (fun c_4 => ?_)
      · exact absurd hno (fun h9 => h9.elim c_1 (fun q9 => absurd (by rw [← ev_3]; exact c_4) (Int32.not_le.mpr q9)))
      · refine lv_bipush (v := (-2)) hx hb d_M_take_24 (by decide) ?_
        exact my_iret (v := (-2)) hx hb hr (rfl) hlocks hQ hK hS (Nat.le_refl _) (Nat.le_refl _) () (rfl) (hP.sub [0] rfl) (hD.sub [0] (by decide +kernel) rfl) d_M_take_26
set_option maxHeartbeats 20000000 in
set_option maxRecDepth 100000 in
theorem m_takeB (l : Launch) (dC : Nat → ClassId) (dI : Nat → Nat → Nat) (cI cM cO : ClassId) (sz : Nat) (o : Nat) (g : Nat → Nat) (fForm : Int32) (fShift : Int32) (fModels : Int32) (fItems : Int32) (fEnded : Int32) (fLow : Int64) (fRange : Int64) (fCache : Int32) (fPend : Int32) (fGoes : Int32) (fIns : Int32) (fBad : Int32) (fIR : Int32) (fAsk : Int32) (fBAsk : Int32) (fCode : Int64) (fRL : Int64) (fRR : Int64) (fX : Int64) (fWrites : Int32) (fThrown : Int32) (vOut : Nat → Int32) (vIn : Nat → Int32) (os : List Nat) (fReads : Int32) (ll : Nat) (p1 : Int32) (hO : gIs vOut os) (hn0 : ¬ p1 < 0) (hn2 : p1 - 2 ≤ nI os.length) (hll : ll ≤ os.length) (hl6 : os.length ≤ 6000) (hl1 : p1 = 1 → ll = os.length) (hl2 : ¬ p1 = 1 → (if (0 : Int32) < p1 - 2 then p1 - 2 else 0) = nI ll) : MetI l y_M_take (Cond.code y_M_take prog_14_method_38_code 4 (some .int) :: gw) ({ frames := 0, cells := 0, slots := 0, locals := 0 } : Room) (dC, dI) vwCl (kT cI cM cO) [Value.ref o, Value.int p1] [(o, Sum.inr (9, mO g fForm fShift fModels fItems fEnded fLow fRange fCache fPend fGoes (nI os.length) fIns fReads fBad fIR fAsk fBAsk fCode fRL fRR fX fWrites fThrown)), ((g 7), Sum.inl (cI, 9000, Sum.inl vOut)), ((g 8), Sum.inl (cI, 6000, Sum.inl vIn))] sz (fun (r : Int32) (u : (Nat → Int32) × Int32) => r = nI (os.take ll).length ∧ u.2 = nI (os.take ll).length ∧ gIs u.1 (os.take ll)) (fun (u : (Nat → Int32) × Int32) => [(o, Sum.inr (9, mO g fForm fShift fModels fItems fEnded fLow fRange fCache fPend fGoes (nI os.length) u.2 0 fBad fIR fAsk fBAsk fCode fRL fRR fX fWrites 0)), ((g 7), Sum.inl (cI, 9000, Sum.inl vOut)), ((g 8), Sum.inl (cI, 6000, Sum.inl u.1))]) 0 0 := by
  refine my_ofI (cc := prog_14_method_38_code) (n := 4) (ret := (some .int)) (by decide) rfl (Nat.le_of_ble_eq_true rfl) ?_
  intro p e s m args below meth c R Q A ls H locs hx hb hr hts hown hlocks hml hnm hR hQ hA hl hP hK hN hD hS
  have hg : ∀ w ∈ gw, w.before args s = true := fun w h => hts w (List.mem_cons_of_mem _ h)
  have hown : s.vm.findClass "RangeCodersModel" = some m.cls := hown
  have hl : lv_has ls 4 [(0, Value.ref o), (1, Value.int p1)] := hl
  refine lv_aload_n hx hb d_M_take_0 rfl (lv_at hl 0 rfl) ?_
  refine lv_iconst (v := 0) hx hb d_M_take_1 (by decide) ?_
  refine va_put (D := (dC, dI)) (ci := 9) (v := .int 0) (ty := .int) (C := "RangeCodersModel") (T := T_M) (N := 35) hx hb hg in_M t_M o_M n_M hown hK hP hD hS 0 rfl rfl 34 (by decide) (hg _ k986) (fun _ h9 => h9) rfl (o_M 34 (by decide)) rfl rfl (Nat.le_of_ble_eq_true rfl) d_M_take_2 (fun H locs hP hD hS => ?_)
  have hPD : my_PD (dC, dI) vwCl A [(o, Sum.inr (9, mO g fForm fShift fModels fItems fEnded fLow fRange fCache fPend fGoes (nI os.length) fIns fReads fBad fIR fAsk fBAsk fCode fRL fRR fX fWrites 0)), ((g 7), Sum.inl (cI, 9000, Sum.inl vOut)), ((g 8), Sum.inl (cI, 6000, Sum.inl vIn))] H := ⟨hP, hD⟩
  have hP := hPD.1
  have hD := hPD.2
  refine lv_iload_n hx hb d_M_take_5 rfl (lv_at hl 1 rfl) ?_
  refine lv_if_lt (tgt := 24) hx hb d_M_take_6 (by decide) (fun c_1 => ?_) (fun c_1 => ?_)
  · exact absurd c_1 hn0
  · refine lv_iload_n hx hb d_M_take_9 rfl (lv_at hl 1 rfl) ?_
    refine lv_iconst (v := 1) hx hb d_M_take_10 (by decide) ?_
    refine lv_icmp_le (tgt := 27) hx hb d_M_take_11 (by decide) (fun c_2 => ?_) (fun c_2 => ?_)
    · refine lv_iload_n hx hb d_M_take_27 rfl (lv_at hl 1 rfl) ?_
      refine lv_if_ne (tgt := 35) hx hb d_M_take_28 (by decide) (fun c_3 => ?_) (fun c_3 => ?_)
      · refine lv_iload_n hx hb d_M_take_35 rfl (lv_at hl 1 rfl) ?_
        refine lv_iconst (v := 1) hx hb d_M_take_36 (by decide) ?_
        refine lv_icmp_ne (tgt := 47) hx hb d_M_take_37 (by decide) (fun c_4 => ?_) (fun c_4 => ?_)
        · exact absurd (n01 c_2 c_1 c_3 c_4) id
        · refine lv_aload_n hx hb d_M_take_40 rfl (lv_at hl 0 rfl) ?_
          refine va_get (D := (dC, dI)) (ci := 9) (v := .int (nI os.length)) (C := "RangeCodersModel") (T := T_M) (N := 35) hx hb hg in_M hown hK hP 0 rfl rfl 18 (by decide) (hg _ k970) (fun _ h9 => h9) rfl d_M_take_41 ?_
          refine lv_goto (tgt := 50) hx hb d_M_take_44 (by decide) ?_
          refine lv_istore_n (lv' := [(2, Value.int (nI os.length)), (0, Value.ref o), (1, Value.int p1)]) hx hb d_M_take_50 rfl hl (by decide) rfl (fun ls hl => ?_)
          have hlq : (nI os.length : Int32) = nI ll := (by rw [hl1 c_4])
          have hl : lv_has ls 4 [(2, Value.int (nI ll)), (0, Value.ref o), (1, Value.int p1)] := by rw [hlq] at hl; exact hl
          refine lv_iload_n hx hb d_M_take_51 rfl (lv_at hl 0 rfl) ?_
          refine lv_sipush (v := 6000) hx hb d_M_take_52 (by decide) ?_
          refine lv_icmp_le (tgt := 64) hx hb d_M_take_55 (by decide) (fun c_5 => ?_) (fun c_5 => ?_)
          · refine lv_iload_n hx hb d_M_take_64 rfl (lv_at hl 0 rfl) ?_
            refine lv_istore_n (lv' := [(2, Value.int (nI ll)), (0, Value.ref o), (1, Value.int p1)]) hx hb d_M_take_65 rfl hl (by decide) rfl (fun ls hl => ?_)
            refine lv_iconst (v := 0) hx hb d_M_take_66 (by decide) ?_
            refine lv_istore_n (lv' := [(3, Value.int 0), (2, Value.int (nI ll)), (0, Value.ref o), (1, Value.int p1)]) hx hb d_M_take_67 rfl hl (by decide) rfl (fun ls hl => ?_)
            have J_68 : ∀ (n9_68 : Nat) (kk : Nat) (fI : Nat → Int32) (hn9_68 : ll - kk = n9_68) (hkk : kk ≤ ll) (hc : ∀ i, i < kk → fI i = vOut i) (H : Heap) (locs : List Loc) (ls : Array Slot), va_P (dC, dI) vwCl [(o, Sum.inr (9, mO g fForm fShift fModels fItems fEnded fLow fRange fCache fPend fGoes (nI os.length) fIns fReads fBad fIR fAsk fBAsk fCode fRL fRR fX fWrites 0)), ((g 7), Sum.inl (cI, 9000, Sum.inl vOut)), ((g 8), Sum.inl (cI, 6000, Sum.inl fI))] H → va_D A [(o, Sum.inr (9, mO g fForm fShift fModels fItems fEnded fLow fRange fCache fPend fGoes (nI os.length) fIns fReads fBad fIR fAsk fBAsk fCode fRL fRR fX fWrites 0)), ((g 7), Sum.inl (cI, 9000, Sum.inl vOut)), ((g 8), Sum.inl (cI, 6000, Sum.inl fI))] → va_S A s.heap H locs → lv_has ls 4 [(3, Value.int (nI kk)), (2, Value.int (nI ll)), (0, Value.ref o), (1, Value.int p1)] → W p l e R s m args below meth c H locs 0 0 Q (F0 m 68 ls []) := by
              intro n9_68
              induction n9_68 using Nat.strongRecOn with
              | ind n9_68 ih9_68 =>
                intro kk fI hn9_68 hkk hc H locs ls hP hD hS hl
                refine lv_iload_n hx hb d_M_take_68 rfl (lv_at hl 0 rfl) ?_
                refine lv_iload_n hx hb d_M_take_69 rfl (lv_at hl 1 rfl) ?_
                refine lv_icmp_ge (tgt := 91) hx hb d_M_take_70 (by decide) (fun c_6 => ?_) (fun c_6 => ?_)
                · have hkn : ll = kk := by have := nI_ge' (by omega) (by omega) c_6; omega
                  subst hkn
                  have hPD : my_PD (dC, dI) vwCl A [(o, Sum.inr (9, mO g fForm fShift fModels fItems fEnded fLow fRange fCache fPend fGoes (nI os.length) fIns fReads fBad fIR fAsk fBAsk fCode fRL fRR fX fWrites 0)), ((g 7), Sum.inl (cI, 9000, Sum.inl vOut)), ((g 8), Sum.inl (cI, 6000, Sum.inl fI))] H := ⟨hP, hD⟩
                  have hP := hPD.1
                  have hD := hPD.2
                  refine lv_aload_n hx hb d_M_take_91 rfl (lv_at hl 2 rfl) ?_
                  refine lv_iload_n hx hb d_M_take_92 rfl (lv_at hl 1 rfl) ?_
                  refine va_put (D := (dC, dI)) (ci := 9) (v := .int (nI ll)) (ty := .int) (C := "RangeCodersModel") (T := T_M) (N := 35) hx hb hg in_M t_M o_M n_M hown hK hP hD hS 0 rfl rfl 20 (by decide) (hg _ k972) (fun _ h9 => h9) rfl (o_M 20 (by decide)) rfl rfl (Nat.le_of_ble_eq_true rfl) d_M_take_93 (fun H locs hP hD hS => ?_)
                  have hPD : my_PD (dC, dI) vwCl A [(o, Sum.inr (9, mO g fForm fShift fModels fItems fEnded fLow fRange fCache fPend fGoes (nI os.length) (nI ll) fReads fBad fIR fAsk fBAsk fCode fRL fRR fX fWrites 0)), ((g 7), Sum.inl (cI, 9000, Sum.inl vOut)), ((g 8), Sum.inl (cI, 6000, Sum.inl fI))] H := ⟨hP, hD⟩
                  have hP := hPD.1
                  have hD := hPD.2
                  refine lv_aload_n hx hb d_M_take_96 rfl (lv_at hl 2 rfl) ?_
                  refine lv_iconst (v := 0) hx hb d_M_take_97 (by decide) ?_
                  refine va_put (D := (dC, dI)) (ci := 9) (v := .int 0) (ty := .boolean) (C := "RangeCodersModel") (T := T_M) (N := 35) hx hb hg in_M t_M o_M n_M hown hK hP hD hS 0 rfl rfl 21 (by decide) (hg _ k973) (fun _ h9 => h9) rfl (o_M 21 (by decide)) rfl rfl (Nat.le_of_ble_eq_true rfl) d_M_take_98 (fun H locs hP hD hS => ?_)
                  have hPD : my_PD (dC, dI) vwCl A [(o, Sum.inr (9, mO g fForm fShift fModels fItems fEnded fLow fRange fCache fPend fGoes (nI os.length) (nI ll) 0 fBad fIR fAsk fBAsk fCode fRL fRR fX fWrites 0)), ((g 7), Sum.inl (cI, 9000, Sum.inl vOut)), ((g 8), Sum.inl (cI, 6000, Sum.inl fI))] H := ⟨hP, hD⟩
                  have hP := hPD.1
                  have hD := hPD.2
                  refine lv_aload_n hx hb d_M_take_101 rfl (lv_at hl 2 rfl) ?_
                  refine va_get (D := (dC, dI)) (ci := 9) (v := .int (nI ll)) (C := "RangeCodersModel") (T := T_M) (N := 35) hx hb hg in_M hown hK hP 0 rfl rfl 20 (by decide) (hg _ k972) (fun _ h9 => h9) rfl d_M_take_102 ?_
                  exact my_iret (v := nI ll) hx hb hr (rfl) hlocks hQ hK hS (Nat.le_refl _) (Nat.le_refl _) (fI, nI ll) (⟨by rw [List.length_take, Nat.min_eq_left hll], by rw [List.length_take, Nat.min_eq_left hll], gIs_take hO hll hc⟩) (hP.sub [0, 1, 2] rfl) (hD.sub [0, 1, 2] (by decide +kernel) rfl) d_M_take_105
                · have hkl : kk < ll := nI_lt' (by omega) c_6
                  refine lv_aload_n hx hb d_M_take_73 rfl (lv_at hl 2 rfl) ?_
                  refine va_get (D := (dC, dI)) (ci := 9) (v := .ref (g 8)) (C := "RangeCodersModel") (T := T_M) (N := 35) hx hb hg in_M hown hK hP 0 rfl rfl 19 (by decide) (hg _ k971) (fun _ h9 => h9) rfl d_M_take_74 ?_
                  refine lv_iload_n hx hb d_M_take_77 rfl (lv_at hl 0 rfl) ?_
                  refine lv_aload_n hx hb d_M_take_78 rfl (lv_at hl 2 rfl) ?_
                  refine va_get (D := (dC, dI)) (ci := 9) (v := .ref (g 7)) (C := "RangeCodersModel") (T := T_M) (N := 35) hx hb hg in_M hown hK hP 0 rfl rfl 17 (by decide) (hg _ k969) (fun _ h9 => h9) rfl d_M_take_79 ?_
                  refine lv_iload_n hx hb d_M_take_82 rfl (lv_at hl 0 rfl) ?_
                  refine va_iald hx hb hK hP 1 0 rfl rfl (vp_in_nI (by omega) (by decide)) d_M_take_83 ?_
                  refine lv_topi (fun v_7 ev_7 => ?_)
                  refine va_iast hx hb hK hP hD hS 2 0 rfl rfl (vp_in_nI (by omega) (by decide)) d_M_take_84 (fun H locs hP hD hS => ?_)
                  have hPD : my_PD (dC, dI) vwCl A [(o, Sum.inr (9, mO g fForm fShift fModels fItems fEnded fLow fRange fCache fPend fGoes (nI os.length) fIns fReads fBad fIR fAsk fBAsk fCode fRL fRR fX fWrites 0)), ((g 7), Sum.inl (cI, 9000, Sum.inl vOut)), ((g 8), Sum.inl (cI, 6000, Sum.inl (upd fI (nI kk).toNatClampNeg v_7)))] H := ⟨hP, hD⟩
                  have hP := hPD.1
                  have hD := hPD.2
                  have hc8 : ∀ i, i < kk + 1 → (upd fI (nI kk).toNatClampNeg v_7) i = vOut i := cp_st hc (nI_clamp (by omega)) (by rw [ev_7, nI_clamp (by omega)])
                  obtain ⟨v_8, ev_8⟩ : ∃ y : Int32, y = (nI kk) + (1) := ⟨_, rfl⟩
                  refine lv_iinc (v := v_8) (lv' := [(3, Value.int v_8), (2, Value.int (nI ll)), (0, Value.ref o), (1, Value.int p1)]) hx hb d_M_take_85 hl (k := 0) rfl (by rw [ev_8]; rfl) (by decide) rfl (fun ls hl => ?_)
                  have z9 : v_8 = nI (kk + 1) := by rw [ev_8]; exact nI_1 _
                  subst z9
                  refine lv_goto (tgt := 68) hx hb d_M_take_88 (by decide) ?_
                  exact ih9_68 _ (by first | omega | (omega)) (kk + 1) (upd fI (nI kk).toNatClampNeg v_7) rfl (by omega) (hc8) H locs ls (hP.sub [0, 1, 2] rfl) (hD.sub [0, 1, 2] (by decide +kernel) rfl) hS (lv_sub hl [0, 1, 2, 3] rfl)
            exact J_68 _ (0 : Nat) vIn rfl (Nat.zero_le _) (fun _ z => absurd z (Nat.not_lt_zero _)) H locs ls (hP.sub [0, 1, 2] rfl) (hD.sub [0, 1, 2] (by decide +kernel) rfl) hS (lv_sub hl [0, 1, 2, 3] rfl)
          · exact absurd ((nI_cmp (b := 6000) (by omega) (by decide)).mpr (by omega)) c_5
      · refine lv_iconst (v := 0) hx hb d_M_take_31 (by decide) ?_
        refine lv_goto (tgt := 50) hx hb d_M_take_32 (by decide) ?_
        refine lv_istore_n (lv' := [(2, Value.int 0), (0, Value.ref o), (1, Value.int p1)]) hx hb d_M_take_50 rfl hl (by decide) rfl (fun ls hl => ?_)
        have hlq : (0 : Int32) = nI ll := ml0 c_3 hl2
        have hl : lv_has ls 4 [(2, Value.int (nI ll)), (0, Value.ref o), (1, Value.int p1)] := by rw [hlq] at hl; exact hl
        refine lv_iload_n hx hb d_M_take_51 rfl (lv_at hl 0 rfl) ?_
        refine lv_sipush (v := 6000) hx hb d_M_take_52 (by decide) ?_
        refine lv_icmp_le (tgt := 64) hx hb d_M_take_55 (by decide) (fun c_9 => ?_) (fun c_9 => ?_)
        · refine lv_iload_n hx hb d_M_take_64 rfl (lv_at hl 0 rfl) ?_
          refine lv_istore_n (lv' := [(2, Value.int (nI ll)), (0, Value.ref o), (1, Value.int p1)]) hx hb d_M_take_65 rfl hl (by decide) rfl (fun ls hl => ?_)
          refine lv_iconst (v := 0) hx hb d_M_take_66 (by decide) ?_
          refine lv_istore_n (lv' := [(3, Value.int 0), (2, Value.int (nI ll)), (0, Value.ref o), (1, Value.int p1)]) hx hb d_M_take_67 rfl hl (by decide) rfl (fun ls hl => ?_)
          have J_68 : ∀ (n9_68 : Nat) (kk : Nat) (fI : Nat → Int32) (hn9_68 : ll - kk = n9_68) (hkk : kk ≤ ll) (hc : ∀ i, i < kk → fI i = vOut i) (H : Heap) (locs : List Loc) (ls : Array Slot), va_P (dC, dI) vwCl [(o, Sum.inr (9, mO g fForm fShift fModels fItems fEnded fLow fRange fCache fPend fGoes (nI os.length) fIns fReads fBad fIR fAsk fBAsk fCode fRL fRR fX fWrites 0)), ((g 7), Sum.inl (cI, 9000, Sum.inl vOut)), ((g 8), Sum.inl (cI, 6000, Sum.inl fI))] H → va_D A [(o, Sum.inr (9, mO g fForm fShift fModels fItems fEnded fLow fRange fCache fPend fGoes (nI os.length) fIns fReads fBad fIR fAsk fBAsk fCode fRL fRR fX fWrites 0)), ((g 7), Sum.inl (cI, 9000, Sum.inl vOut)), ((g 8), Sum.inl (cI, 6000, Sum.inl fI))] → va_S A s.heap H locs → lv_has ls 4 [(3, Value.int (nI kk)), (2, Value.int (nI ll)), (0, Value.ref o), (1, Value.int p1)] → W p l e R s m args below meth c H locs 0 0 Q (F0 m 68 ls []) := by
            intro n9_68
            induction n9_68 using Nat.strongRecOn with
            | ind n9_68 ih9_68 =>
              intro kk fI hn9_68 hkk hc H locs ls hP hD hS hl
              refine lv_iload_n hx hb d_M_take_68 rfl (lv_at hl 0 rfl) ?_
              refine lv_iload_n hx hb d_M_take_69 rfl (lv_at hl 1 rfl) ?_
              refine lv_icmp_ge (tgt := 91) hx hb d_M_take_70 (by decide) (fun c_10 => ?_) (fun c_10 => ?_)
              · have hkn : ll = kk := by have := nI_ge' (by omega) (by omega) c_10; omega
                subst hkn
                have hPD : my_PD (dC, dI) vwCl A [(o, Sum.inr (9, mO g fForm fShift fModels fItems fEnded fLow fRange fCache fPend fGoes (nI os.length) fIns fReads fBad fIR fAsk fBAsk fCode fRL fRR fX fWrites 0)), ((g 7), Sum.inl (cI, 9000, Sum.inl vOut)), ((g 8), Sum.inl (cI, 6000, Sum.inl fI))] H := ⟨hP, hD⟩
                have hP := hPD.1
                have hD := hPD.2
                refine lv_aload_n hx hb d_M_take_91 rfl (lv_at hl 2 rfl) ?_
                refine lv_iload_n hx hb d_M_take_92 rfl (lv_at hl 1 rfl) ?_
                refine va_put (D := (dC, dI)) (ci := 9) (v := .int (nI ll)) (ty := .int) (C := "RangeCodersModel") (T := T_M) (N := 35) hx hb hg in_M t_M o_M n_M hown hK hP hD hS 0 rfl rfl 20 (by decide) (hg _ k972) (fun _ h9 => h9) rfl (o_M 20 (by decide)) rfl rfl (Nat.le_of_ble_eq_true rfl) d_M_take_93 (fun H locs hP hD hS => ?_)
                have hPD : my_PD (dC, dI) vwCl A [(o, Sum.inr (9, mO g fForm fShift fModels fItems fEnded fLow fRange fCache fPend fGoes (nI os.length) (nI ll) fReads fBad fIR fAsk fBAsk fCode fRL fRR fX fWrites 0)), ((g 7), Sum.inl (cI, 9000, Sum.inl vOut)), ((g 8), Sum.inl (cI, 6000, Sum.inl fI))] H := ⟨hP, hD⟩
                have hP := hPD.1
                have hD := hPD.2
                refine lv_aload_n hx hb d_M_take_96 rfl (lv_at hl 2 rfl) ?_
                refine lv_iconst (v := 0) hx hb d_M_take_97 (by decide) ?_
                refine va_put (D := (dC, dI)) (ci := 9) (v := .int 0) (ty := .boolean) (C := "RangeCodersModel") (T := T_M) (N := 35) hx hb hg in_M t_M o_M n_M hown hK hP hD hS 0 rfl rfl 21 (by decide) (hg _ k973) (fun _ h9 => h9) rfl (o_M 21 (by decide)) rfl rfl (Nat.le_of_ble_eq_true rfl) d_M_take_98 (fun H locs hP hD hS => ?_)
                have hPD : my_PD (dC, dI) vwCl A [(o, Sum.inr (9, mO g fForm fShift fModels fItems fEnded fLow fRange fCache fPend fGoes (nI os.length) (nI ll) 0 fBad fIR fAsk fBAsk fCode fRL fRR fX fWrites 0)), ((g 7), Sum.inl (cI, 9000, Sum.inl vOut)), ((g 8), Sum.inl (cI, 6000, Sum.inl fI))] H := ⟨hP, hD⟩
                have hP := hPD.1
                have hD := hPD.2
                refine lv_aload_n hx hb d_M_take_101 rfl (lv_at hl 2 rfl) ?_
                refine va_get (D := (dC, dI)) (ci := 9) (v := .int (nI ll)) (C := "RangeCodersModel") (T := T_M) (N := 35) hx hb hg in_M hown hK hP 0 rfl rfl 20 (by decide) (hg _ k972) (fun _ h9 => h9) rfl d_M_take_102 ?_
                exact my_iret (v := nI ll) hx hb hr (rfl) hlocks hQ hK hS (Nat.le_refl _) (Nat.le_refl _) (fI, nI ll) (⟨by rw [List.length_take, Nat.min_eq_left hll], by rw [List.length_take, Nat.min_eq_left hll], gIs_take hO hll hc⟩) (hP.sub [0, 1, 2] rfl) (hD.sub [0, 1, 2] (by decide +kernel) rfl) d_M_take_105
              · have hkl : kk < ll := nI_lt' (by omega) c_10
                refine lv_aload_n hx hb d_M_take_73 rfl (lv_at hl 2 rfl) ?_
                refine va_get (D := (dC, dI)) (ci := 9) (v := .ref (g 8)) (C := "RangeCodersModel") (T := T_M) (N := 35) hx hb hg in_M hown hK hP 0 rfl rfl 19 (by decide) (hg _ k971) (fun _ h9 => h9) rfl d_M_take_74 ?_
                refine lv_iload_n hx hb d_M_take_77 rfl (lv_at hl 0 rfl) ?_
                refine lv_aload_n hx hb d_M_take_78 rfl (lv_at hl 2 rfl) ?_
                refine va_get (D := (dC, dI)) (ci := 9) (v := .ref (g 7)) (C := "RangeCodersModel") (T := T_M) (N := 35) hx hb hg in_M hown hK hP 0 rfl rfl 17 (by decide) (hg _ k969) (fun _ h9 => h9) rfl d_M_take_79 ?_
                refine lv_iload_n hx hb d_M_take_82 rfl (lv_at hl 0 rfl) ?_
                refine va_iald hx hb hK hP 1 0 rfl rfl (vp_in_nI (by omega) (by decide)) d_M_take_83 ?_
                refine lv_topi (fun v_11 ev_11 => ?_)
                refine va_iast hx hb hK hP hD hS 2 0 rfl rfl (vp_in_nI (by omega) (by decide)) d_M_take_84 (fun H locs hP hD hS => ?_)
                have hPD : my_PD (dC, dI) vwCl A [(o, Sum.inr (9, mO g fForm fShift fModels fItems fEnded fLow fRange fCache fPend fGoes (nI os.length) fIns fReads fBad fIR fAsk fBAsk fCode fRL fRR fX fWrites 0)), ((g 7), Sum.inl (cI, 9000, Sum.inl vOut)), ((g 8), Sum.inl (cI, 6000, Sum.inl (upd fI (nI kk).toNatClampNeg v_11)))] H := ⟨hP, hD⟩
                have hP := hPD.1
                have hD := hPD.2
                have hc8 : ∀ i, i < kk + 1 → (upd fI (nI kk).toNatClampNeg v_11) i = vOut i := cp_st hc (nI_clamp (by omega)) (by rw [ev_11, nI_clamp (by omega)])
                obtain ⟨v_12, ev_12⟩ : ∃ y : Int32, y = (nI kk) + (1) := ⟨_, rfl⟩
                refine lv_iinc (v := v_12) (lv' := [(3, Value.int v_12), (2, Value.int (nI ll)), (0, Value.ref o), (1, Value.int p1)]) hx hb d_M_take_85 hl (k := 0) rfl (by rw [ev_12]; rfl) (by decide) rfl (fun ls hl => ?_)
                have z9 : v_12 = nI (kk + 1) := by rw [ev_12]; exact nI_1 _
                subst z9
                refine lv_goto (tgt := 68) hx hb d_M_take_88 (by decide) ?_
                exact ih9_68 _ (by first | omega | (omega)) (kk + 1) (upd fI (nI kk).toNatClampNeg v_11) rfl (by omega) (hc8) H locs ls (hP.sub [0, 1, 2] rfl) (hD.sub [0, 1, 2] (by decide +kernel) rfl) hS (lv_sub hl [0, 1, 2, 3] rfl)
          exact J_68 _ (0 : Nat) vIn rfl (Nat.zero_le _) (fun _ z => absurd z (Nat.not_lt_zero _)) H locs ls (hP.sub [0, 1, 2] rfl) (hD.sub [0, 1, 2] (by decide +kernel) rfl) hS (lv_sub hl [0, 1, 2, 3] rfl)
        · exact absurd ((nI_cmp (b := 6000) (by omega) (by decide)).mpr (by omega)) c_9
    · refine lv_iload_n hx hb d_M_take_14 rfl (lv_at hl 1 rfl) ?_
      refine lv_iconst (v := 2) hx hb d_M_take_15 (by decide) ?_
      refine lv_isub hx hb d_M_take_16 ?_
      refine lv_topi (fun v_13 ev_13 => ?_)
      refine lv_aload_n hx hb d_M_take_17 rfl (lv_at hl 0 rfl) ?_
      refine va_get (D := (dC, dI)) (ci := 9) (v := .int (nI os.length)) (C := "RangeCodersModel") (T := T_M) (N := 35) hx hb hg in_M hown hK hP 0 rfl rfl 18 (by decide) (hg _ k970) (fun _ h9 => h9) rfl d_M_take_18 ?_
      refine lv_icmp_le (tgt := 27) hx hb d_M_take_21 (by decide) (fun c_14 => ?_) (fun c_14 => ?_)
      · refine lv_iload_n hx hb d_M_take_27 rfl (lv_at hl 1 rfl) ?_
        refine lv_if_ne (tgt := 35) hx hb d_M_take_28 (by decide) (fun c_15 => ?_) (fun c_15 => ?_)
        · refine lv_iload_n hx hb d_M_take_35 rfl (lv_at hl 1 rfl) ?_
          refine lv_iconst (v := 1) hx hb d_M_take_36 (by decide) ?_
          refine lv_icmp_ne (tgt := 47) hx hb d_M_take_37 (by decide) (fun c_16 => ?_) (fun c_16 => ?_)
          · refine lv_iload_n hx hb d_M_take_47 rfl (lv_at hl 1 rfl) ?_
            refine lv_iconst (v := 2) hx hb d_M_take_48 (by decide) ?_
            refine lv_isub hx hb d_M_take_49 ?_
            refine lv_topi (fun v_17 ev_17 => ?_)
            refine lv_istore_n (lv' := [(2, Value.int v_17), (0, Value.ref o), (1, Value.int p1)]) hx hb d_M_take_50 rfl hl (by decide) rfl (fun ls hl => ?_)
            have hlq : v_17 = nI ll := by rw [ev_17]; exact ml2 c_1 c_15 c_16 hl2
            have hl : lv_has ls 4 [(2, Value.int (nI ll)), (0, Value.ref o), (1, Value.int p1)] := by rw [hlq] at hl; exact hl
            refine lv_iload_n hx hb d_M_take_51 rfl (lv_at hl 0 rfl) ?_
            refine lv_sipush (v := 6000) hx hb d_M_take_52 (by decide) ?_
            refine lv_icmp_le (tgt := 64) hx hb d_M_take_55 (by decide) (fun c_18 => ?_) (fun c_18 => ?_)
            · refine lv_iload_n hx hb d_M_take_64 rfl (lv_at hl 0 rfl) ?_
              refine lv_istore_n (lv' := [(2, Value.int (nI ll)), (0, Value.ref o), (1, Value.int p1)]) hx hb d_M_take_65 rfl hl (by decide) rfl (fun ls hl => ?_)
              refine lv_iconst (v := 0) hx hb d_M_take_66 (by decide) ?_
              refine lv_istore_n (lv' := [(3, Value.int 0), (2, Value.int (nI ll)), (0, Value.ref o), (1, Value.int p1)]) hx hb d_M_take_67 rfl hl (by decide) rfl (fun ls hl => ?_)
              have J_68 : ∀ (n9_68 : Nat) (kk : Nat) (fI : Nat → Int32) (hn9_68 : ll - kk = n9_68) (hkk : kk ≤ ll) (hc : ∀ i, i < kk → fI i = vOut i) (H : Heap) (locs : List Loc) (ls : Array Slot), va_P (dC, dI) vwCl [(o, Sum.inr (9, mO g fForm fShift fModels fItems fEnded fLow fRange fCache fPend fGoes (nI os.length) fIns fReads fBad fIR fAsk fBAsk fCode fRL fRR fX fWrites 0)), ((g 7), Sum.inl (cI, 9000, Sum.inl vOut)), ((g 8), Sum.inl (cI, 6000, Sum.inl fI))] H → va_D A [(o, Sum.inr (9, mO g fForm fShift fModels fItems fEnded fLow fRange fCache fPend fGoes (nI os.length) fIns fReads fBad fIR fAsk fBAsk fCode fRL fRR fX fWrites 0)), ((g 7), Sum.inl (cI, 9000, Sum.inl vOut)), ((g 8), Sum.inl (cI, 6000, Sum.inl fI))] → va_S A s.heap H locs → lv_has ls 4 [(3, Value.int (nI kk)), (2, Value.int (nI ll)), (0, Value.ref o), (1, Value.int p1)] → W p l e R s m args below meth c H locs 0 0 Q (F0 m 68 ls []) := by
                intro n9_68
                induction n9_68 using Nat.strongRecOn with
                | ind n9_68 ih9_68 =>
                  intro kk fI hn9_68 hkk hc H locs ls hP hD hS hl
                  refine lv_iload_n hx hb d_M_take_68 rfl (lv_at hl 0 rfl) ?_
                  refine lv_iload_n hx hb d_M_take_69 rfl (lv_at hl 1 rfl) ?_
                  refine lv_icmp_ge (tgt := 91) hx hb d_M_take_70 (by decide) (fun c_19 => ?_) (fun c_19 => ?_)
                  · have hkn : ll = kk := by have := nI_ge' (by omega) (by omega) c_19; omega
                    subst hkn
                    have hPD : my_PD (dC, dI) vwCl A [(o, Sum.inr (9, mO g fForm fShift fModels fItems fEnded fLow fRange fCache fPend fGoes (nI os.length) fIns fReads fBad fIR fAsk fBAsk fCode fRL fRR fX fWrites 0)), ((g 7), Sum.inl (cI, 9000, Sum.inl vOut)), ((g 8), Sum.inl (cI, 6000, Sum.inl fI))] H := ⟨hP, hD⟩
                    have hP := hPD.1
                    have hD := hPD.2
                    refine lv_aload_n hx hb d_M_take_91 rfl (lv_at hl 2 rfl) ?_
                    refine lv_iload_n hx hb d_M_take_92 rfl (lv_at hl 1 rfl) ?_
                    refine va_put (D := (dC, dI)) (ci := 9) (v := .int (nI ll)) (ty := .int) (C := "RangeCodersModel") (T := T_M) (N := 35) hx hb hg in_M t_M o_M n_M hown hK hP hD hS 0 rfl rfl 20 (by decide) (hg _ k972) (fun _ h9 => h9) rfl (o_M 20 (by decide)) rfl rfl (Nat.le_of_ble_eq_true rfl) d_M_take_93 (fun H locs hP hD hS => ?_)
                    have hPD : my_PD (dC, dI) vwCl A [(o, Sum.inr (9, mO g fForm fShift fModels fItems fEnded fLow fRange fCache fPend fGoes (nI os.length) (nI ll) fReads fBad fIR fAsk fBAsk fCode fRL fRR fX fWrites 0)), ((g 7), Sum.inl (cI, 9000, Sum.inl vOut)), ((g 8), Sum.inl (cI, 6000, Sum.inl fI))] H := ⟨hP, hD⟩
                    have hP := hPD.1
                    have hD := hPD.2
                    refine lv_aload_n hx hb d_M_take_96 rfl (lv_at hl 2 rfl) ?_
                    refine lv_iconst (v := 0) hx hb d_M_take_97 (by decide) ?_
                    refine va_put (D := (dC, dI)) (ci := 9) (v := .int 0) (ty := .boolean) (C := "RangeCodersModel") (T := T_M) (N := 35) hx hb hg in_M t_M o_M n_M hown hK hP hD hS 0 rfl rfl 21 (by decide) (hg _ k973) (fun _ h9 => h9) rfl (o_M 21 (by decide)) rfl rfl (Nat.le_of_ble_eq_true rfl) d_M_take_98 (fun H locs hP hD hS => ?_)
                    have hPD : my_PD (dC, dI) vwCl A [(o, Sum.inr (9, mO g fForm fShift fModels fItems fEnded fLow fRange fCache fPend fGoes (nI os.length) (nI ll) 0 fBad fIR fAsk fBAsk fCode fRL fRR fX fWrites 0)), ((g 7), Sum.inl (cI, 9000, Sum.inl vOut)), ((g 8), Sum.inl (cI, 6000, Sum.inl fI))] H := ⟨hP, hD⟩
                    have hP := hPD.1
                    have hD := hPD.2
                    refine lv_aload_n hx hb d_M_take_101 rfl (lv_at hl 2 rfl) ?_
                    refine va_get (D := (dC, dI)) (ci := 9) (v := .int (nI ll)) (C := "RangeCodersModel") (T := T_M) (N := 35) hx hb hg in_M hown hK hP 0 rfl rfl 20 (by decide) (hg _ k972) (fun _ h9 => h9) rfl d_M_take_102 ?_
                    exact my_iret (v := nI ll) hx hb hr (rfl) hlocks hQ hK hS (Nat.le_refl _) (Nat.le_refl _) (fI, nI ll) (⟨by rw [List.length_take, Nat.min_eq_left hll], by rw [List.length_take, Nat.min_eq_left hll], gIs_take hO hll hc⟩) (hP.sub [0, 1, 2] rfl) (hD.sub [0, 1, 2] (by decide +kernel) rfl) d_M_take_105
                  · have hkl : kk < ll := nI_lt' (by omega) c_19
                    refine lv_aload_n hx hb d_M_take_73 rfl (lv_at hl 2 rfl) ?_
                    refine va_get (D := (dC, dI)) (ci := 9) (v := .ref (g 8)) (C := "RangeCodersModel") (T := T_M) (N := 35) hx hb hg in_M hown hK hP 0 rfl rfl 19 (by decide) (hg _ k971) (fun _ h9 => h9) rfl d_M_take_74 ?_
                    refine lv_iload_n hx hb d_M_take_77 rfl (lv_at hl 0 rfl) ?_
                    refine lv_aload_n hx hb d_M_take_78 rfl (lv_at hl 2 rfl) ?_
                    refine va_get (D := (dC, dI)) (ci := 9) (v := .ref (g 7)) (C := "RangeCodersModel") (T := T_M) (N := 35) hx hb hg in_M hown hK hP 0 rfl rfl 17 (by decide) (hg _ k969) (fun _ h9 => h9) rfl d_M_take_79 ?_
                    refine lv_iload_n hx hb d_M_take_82 rfl (lv_at hl 0 rfl) ?_
                    refine va_iald hx hb hK hP 1 0 rfl rfl (vp_in_nI (by omega) (by decide)) d_M_take_83 ?_
                    refine lv_topi (fun v_20 ev_20 => ?_)
                    refine va_iast hx hb hK hP hD hS 2 0 rfl rfl (vp_in_nI (by omega) (by decide)) d_M_take_84 (fun H locs hP hD hS => ?_)
                    have hPD : my_PD (dC, dI) vwCl A [(o, Sum.inr (9, mO g fForm fShift fModels fItems fEnded fLow fRange fCache fPend fGoes (nI os.length) fIns fReads fBad fIR fAsk fBAsk fCode fRL fRR fX fWrites 0)), ((g 7), Sum.inl (cI, 9000, Sum.inl vOut)), ((g 8), Sum.inl (cI, 6000, Sum.inl (upd fI (nI kk).toNatClampNeg v_20)))] H := ⟨hP, hD⟩
                    have hP := hPD.1
                    have hD := hPD.2
                    have hc8 : ∀ i, i < kk + 1 → (upd fI (nI kk).toNatClampNeg v_20) i = vOut i := cp_st hc (nI_clamp (by omega)) (by rw [ev_20, nI_clamp (by omega)])
                    obtain ⟨v_21, ev_21⟩ : ∃ y : Int32, y = (nI kk) + (1) := ⟨_, rfl⟩
                    refine lv_iinc (v := v_21) (lv' := [(3, Value.int v_21), (2, Value.int (nI ll)), (0, Value.ref o), (1, Value.int p1)]) hx hb d_M_take_85 hl (k := 0) rfl (by rw [ev_21]; rfl) (by decide) rfl (fun ls hl => ?_)
                    have z9 : v_21 = nI (kk + 1) := by rw [ev_21]; exact nI_1 _
                    subst z9
                    refine lv_goto (tgt := 68) hx hb d_M_take_88 (by decide) ?_
                    exact ih9_68 _ (by first | omega | (omega)) (kk + 1) (upd fI (nI kk).toNatClampNeg v_20) rfl (by omega) (hc8) H locs ls (hP.sub [0, 1, 2] rfl) (hD.sub [0, 1, 2] (by decide +kernel) rfl) hS (lv_sub hl [0, 1, 2, 3] rfl)
              exact J_68 _ (0 : Nat) vIn rfl (Nat.zero_le _) (fun _ z => absurd z (Nat.not_lt_zero _)) H locs ls (hP.sub [0, 1, 2] rfl) (hD.sub [0, 1, 2] (by decide +kernel) rfl) hS (lv_sub hl [0, 1, 2, 3] rfl)
            · exact absurd ((nI_cmp (b := 6000) (by omega) (by decide)).mpr (by omega)) c_18
          · refine lv_aload_n hx hb d_M_take_40 rfl (lv_at hl 0 rfl) ?_
            refine va_get (D := (dC, dI)) (ci := 9) (v := .int (nI os.length)) (C := "RangeCodersModel") (T := T_M) (N := 35) hx hb hg in_M hown hK hP 0 rfl rfl 18 (by decide) (hg _ k970) (fun _ h9 => h9) rfl d_M_take_41 ?_
            refine lv_goto (tgt := 50) hx hb d_M_take_44 (by decide) ?_
            refine lv_istore_n (lv' := [(2, Value.int (nI os.length)), (0, Value.ref o), (1, Value.int p1)]) hx hb d_M_take_50 rfl hl (by decide) rfl (fun ls hl => ?_)
            have hlq : (nI os.length : Int32) = nI ll := (by rw [hl1 c_16])
            have hl : lv_has ls 4 [(2, Value.int (nI ll)), (0, Value.ref o), (1, Value.int p1)] := by rw [hlq] at hl; exact hl
            refine lv_iload_n hx hb d_M_take_51 rfl (lv_at hl 0 rfl) ?_
            refine lv_sipush (v := 6000) hx hb d_M_take_52 (by decide) ?_
            refine lv_icmp_le (tgt := 64) hx hb d_M_take_55 (by decide) (fun c_22 => ?_) (fun c_22 => ?_)
            · refine lv_iload_n hx hb d_M_take_64 rfl (lv_at hl 0 rfl) ?_
              refine lv_istore_n (lv' := [(2, Value.int (nI ll)), (0, Value.ref o), (1, Value.int p1)]) hx hb d_M_take_65 rfl hl (by decide) rfl (fun ls hl => ?_)
              refine lv_iconst (v := 0) hx hb d_M_take_66 (by decide) ?_
              refine lv_istore_n (lv' := [(3, Value.int 0), (2, Value.int (nI ll)), (0, Value.ref o), (1, Value.int p1)]) hx hb d_M_take_67 rfl hl (by decide) rfl (fun ls hl => ?_)
              have J_68 : ∀ (n9_68 : Nat) (kk : Nat) (fI : Nat → Int32) (hn9_68 : ll - kk = n9_68) (hkk : kk ≤ ll) (hc : ∀ i, i < kk → fI i = vOut i) (H : Heap) (locs : List Loc) (ls : Array Slot), va_P (dC, dI) vwCl [(o, Sum.inr (9, mO g fForm fShift fModels fItems fEnded fLow fRange fCache fPend fGoes (nI os.length) fIns fReads fBad fIR fAsk fBAsk fCode fRL fRR fX fWrites 0)), ((g 7), Sum.inl (cI, 9000, Sum.inl vOut)), ((g 8), Sum.inl (cI, 6000, Sum.inl fI))] H → va_D A [(o, Sum.inr (9, mO g fForm fShift fModels fItems fEnded fLow fRange fCache fPend fGoes (nI os.length) fIns fReads fBad fIR fAsk fBAsk fCode fRL fRR fX fWrites 0)), ((g 7), Sum.inl (cI, 9000, Sum.inl vOut)), ((g 8), Sum.inl (cI, 6000, Sum.inl fI))] → va_S A s.heap H locs → lv_has ls 4 [(3, Value.int (nI kk)), (2, Value.int (nI ll)), (0, Value.ref o), (1, Value.int p1)] → W p l e R s m args below meth c H locs 0 0 Q (F0 m 68 ls []) := by
                intro n9_68
                induction n9_68 using Nat.strongRecOn with
                | ind n9_68 ih9_68 =>
                  intro kk fI hn9_68 hkk hc H locs ls hP hD hS hl
                  refine lv_iload_n hx hb d_M_take_68 rfl (lv_at hl 0 rfl) ?_
                  refine lv_iload_n hx hb d_M_take_69 rfl (lv_at hl 1 rfl) ?_
                  refine lv_icmp_ge (tgt := 91) hx hb d_M_take_70 (by decide) (fun c_23 => ?_) (fun c_23 => ?_)
                  · have hkn : ll = kk := by have := nI_ge' (by omega) (by omega) c_23; omega
                    subst hkn
                    have hPD : my_PD (dC, dI) vwCl A [(o, Sum.inr (9, mO g fForm fShift fModels fItems fEnded fLow fRange fCache fPend fGoes (nI os.length) fIns fReads fBad fIR fAsk fBAsk fCode fRL fRR fX fWrites 0)), ((g 7), Sum.inl (cI, 9000, Sum.inl vOut)), ((g 8), Sum.inl (cI, 6000, Sum.inl fI))] H := ⟨hP, hD⟩
                    have hP := hPD.1
                    have hD := hPD.2
                    refine lv_aload_n hx hb d_M_take_91 rfl (lv_at hl 2 rfl) ?_
                    refine lv_iload_n hx hb d_M_take_92 rfl (lv_at hl 1 rfl) ?_
                    refine va_put (D := (dC, dI)) (ci := 9) (v := .int (nI ll)) (ty := .int) (C := "RangeCodersModel") (T := T_M) (N := 35) hx hb hg in_M t_M o_M n_M hown hK hP hD hS 0 rfl rfl 20 (by decide) (hg _ k972) (fun _ h9 => h9) rfl (o_M 20 (by decide)) rfl rfl (Nat.le_of_ble_eq_true rfl) d_M_take_93 (fun H locs hP hD hS => ?_)
                    have hPD : my_PD (dC, dI) vwCl A [(o, Sum.inr (9, mO g fForm fShift fModels fItems fEnded fLow fRange fCache fPend fGoes (nI os.length) (nI ll) fReads fBad fIR fAsk fBAsk fCode fRL fRR fX fWrites 0)), ((g 7), Sum.inl (cI, 9000, Sum.inl vOut)), ((g 8), Sum.inl (cI, 6000, Sum.inl fI))] H := ⟨hP, hD⟩
                    have hP := hPD.1
                    have hD := hPD.2
                    refine lv_aload_n hx hb d_M_take_96 rfl (lv_at hl 2 rfl) ?_
                    refine lv_iconst (v := 0) hx hb d_M_take_97 (by decide) ?_
                    refine va_put (D := (dC, dI)) (ci := 9) (v := .int 0) (ty := .boolean) (C := "RangeCodersModel") (T := T_M) (N := 35) hx hb hg in_M t_M o_M n_M hown hK hP hD hS 0 rfl rfl 21 (by decide) (hg _ k973) (fun _ h9 => h9) rfl (o_M 21 (by decide)) rfl rfl (Nat.le_of_ble_eq_true rfl) d_M_take_98 (fun H locs hP hD hS => ?_)
                    have hPD : my_PD (dC, dI) vwCl A [(o, Sum.inr (9, mO g fForm fShift fModels fItems fEnded fLow fRange fCache fPend fGoes (nI os.length) (nI ll) 0 fBad fIR fAsk fBAsk fCode fRL fRR fX fWrites 0)), ((g 7), Sum.inl (cI, 9000, Sum.inl vOut)), ((g 8), Sum.inl (cI, 6000, Sum.inl fI))] H := ⟨hP, hD⟩
                    have hP := hPD.1
                    have hD := hPD.2
                    refine lv_aload_n hx hb d_M_take_101 rfl (lv_at hl 2 rfl) ?_
                    refine va_get (D := (dC, dI)) (ci := 9) (v := .int (nI ll)) (C := "RangeCodersModel") (T := T_M) (N := 35) hx hb hg in_M hown hK hP 0 rfl rfl 20 (by decide) (hg _ k972) (fun _ h9 => h9) rfl d_M_take_102 ?_
                    exact my_iret (v := nI ll) hx hb hr (rfl) hlocks hQ hK hS (Nat.le_refl _) (Nat.le_refl _) (fI, nI ll) (⟨by rw [List.length_take, Nat.min_eq_left hll], by rw [List.length_take, Nat.min_eq_left hll], gIs_take hO hll hc⟩) (hP.sub [0, 1, 2] rfl) (hD.sub [0, 1, 2] (by decide +kernel) rfl) d_M_take_105
                  · have hkl : kk < ll := nI_lt' (by omega) c_23
                    refine lv_aload_n hx hb d_M_take_73 rfl (lv_at hl 2 rfl) ?_
                    refine va_get (D := (dC, dI)) (ci := 9) (v := .ref (g 8)) (C := "RangeCodersModel") (T := T_M) (N := 35) hx hb hg in_M hown hK hP 0 rfl rfl 19 (by decide) (hg _ k971) (fun _ h9 => h9) rfl d_M_take_74 ?_
                    refine lv_iload_n hx hb d_M_take_77 rfl (lv_at hl 0 rfl) ?_
                    refine lv_aload_n hx hb d_M_take_78 rfl (lv_at hl 2 rfl) ?_
                    refine va_get (D := (dC, dI)) (ci := 9) (v := .ref (g 7)) (C := "RangeCodersModel") (T := T_M) (N := 35) hx hb hg in_M hown hK hP 0 rfl rfl 17 (by decide) (hg _ k969) (fun _ h9 => h9) rfl d_M_take_79 ?_
                    refine lv_iload_n hx hb d_M_take_82 rfl (lv_at hl 0 rfl) ?_
                    refine va_iald hx hb hK hP 1 0 rfl rfl (vp_in_nI (by omega) (by decide)) d_M_take_83 ?_
                    refine lv_topi (fun v_24 ev_24 => ?_)
                    refine va_iast hx hb hK hP hD hS 2 0 rfl rfl (vp_in_nI (by omega) (by decide)) d_M_take_84 (fun H locs hP hD hS => ?_)
                    have hPD : my_PD (dC, dI) vwCl A [(o, Sum.inr (9, mO g fForm fShift fModels fItems fEnded fLow fRange fCache fPend fGoes (nI os.length) fIns fReads fBad fIR fAsk fBAsk fCode fRL fRR fX fWrites 0)), ((g 7), Sum.inl (cI, 9000, Sum.inl vOut)), ((g 8), Sum.inl (cI, 6000, Sum.inl (upd fI (nI kk).toNatClampNeg v_24)))] H := ⟨hP, hD⟩
                    have hP := hPD.1
                    have hD := hPD.2
                    have hc8 : ∀ i, i < kk + 1 → (upd fI (nI kk).toNatClampNeg v_24) i = vOut i := cp_st hc (nI_clamp (by omega)) (by rw [ev_24, nI_clamp (by omega)])
                    obtain ⟨v_25, ev_25⟩ : ∃ y : Int32, y = (nI kk) + (1) := ⟨_, rfl⟩
                    refine lv_iinc (v := v_25) (lv' := [(3, Value.int v_25), (2, Value.int (nI ll)), (0, Value.ref o), (1, Value.int p1)]) hx hb d_M_take_85 hl (k := 0) rfl (by rw [ev_25]; rfl) (by decide) rfl (fun ls hl => ?_)
                    have z9 : v_25 = nI (kk + 1) := by rw [ev_25]; exact nI_1 _
                    subst z9
                    refine lv_goto (tgt := 68) hx hb d_M_take_88 (by decide) ?_
                    exact ih9_68 _ (by first | omega | (omega)) (kk + 1) (upd fI (nI kk).toNatClampNeg v_24) rfl (by omega) (hc8) H locs ls (hP.sub [0, 1, 2] rfl) (hD.sub [0, 1, 2] (by decide +kernel) rfl) hS (lv_sub hl [0, 1, 2, 3] rfl)
              exact J_68 _ (0 : Nat) vIn rfl (Nat.zero_le _) (fun _ z => absurd z (Nat.not_lt_zero _)) H locs ls (hP.sub [0, 1, 2] rfl) (hD.sub [0, 1, 2] (by decide +kernel) rfl) hS (lv_sub hl [0, 1, 2, 3] rfl)
            · exact absurd ((nI_cmp (b := 6000) (by omega) (by decide)).mpr (by omega)) c_22
        · refine lv_iconst (v := 0) hx hb d_M_take_31 (by decide) ?_
          refine lv_goto (tgt := 50) hx hb d_M_take_32 (by decide) ?_
          refine lv_istore_n (lv' := [(2, Value.int 0), (0, Value.ref o), (1, Value.int p1)]) hx hb d_M_take_50 rfl hl (by decide) rfl (fun ls hl => ?_)
          have hlq : (0 : Int32) = nI ll := ml0 c_15 hl2
          have hl : lv_has ls 4 [(2, Value.int (nI ll)), (0, Value.ref o), (1, Value.int p1)] := by rw [hlq] at hl; exact hl
          refine lv_iload_n hx hb d_M_take_51 rfl (lv_at hl 0 rfl) ?_
          refine lv_sipush (v := 6000) hx hb d_M_take_52 (by decide) ?_
          refine lv_icmp_le (tgt := 64) hx hb d_M_take_55 (by decide) (fun c_26 => ?_) (fun c_26 => ?_)
          · refine lv_iload_n hx hb d_M_take_64 rfl (lv_at hl 0 rfl) ?_
            refine lv_istore_n (lv' := [(2, Value.int (nI ll)), (0, Value.ref o), (1, Value.int p1)]) hx hb d_M_take_65 rfl hl (by decide) rfl (fun ls hl => ?_)
            refine lv_iconst (v := 0) hx hb d_M_take_66 (by decide) ?_
            refine lv_istore_n (lv' := [(3, Value.int 0), (2, Value.int (nI ll)), (0, Value.ref o), (1, Value.int p1)]) hx hb d_M_take_67 rfl hl (by decide) rfl (fun ls hl => ?_)
            have J_68 : ∀ (n9_68 : Nat) (kk : Nat) (fI : Nat → Int32) (hn9_68 : ll - kk = n9_68) (hkk : kk ≤ ll) (hc : ∀ i, i < kk → fI i = vOut i) (H : Heap) (locs : List Loc) (ls : Array Slot), va_P (dC, dI) vwCl [(o, Sum.inr (9, mO g fForm fShift fModels fItems fEnded fLow fRange fCache fPend fGoes (nI os.length) fIns fReads fBad fIR fAsk fBAsk fCode fRL fRR fX fWrites 0)), ((g 7), Sum.inl (cI, 9000, Sum.inl vOut)), ((g 8), Sum.inl (cI, 6000, Sum.inl fI))] H → va_D A [(o, Sum.inr (9, mO g fForm fShift fModels fItems fEnded fLow fRange fCache fPend fGoes (nI os.length) fIns fReads fBad fIR fAsk fBAsk fCode fRL fRR fX fWrites 0)), ((g 7), Sum.inl (cI, 9000, Sum.inl vOut)), ((g 8), Sum.inl (cI, 6000, Sum.inl fI))] → va_S A s.heap H locs → lv_has ls 4 [(3, Value.int (nI kk)), (2, Value.int (nI ll)), (0, Value.ref o), (1, Value.int p1)] → W p l e R s m args below meth c H locs 0 0 Q (F0 m 68 ls []) := by
              intro n9_68
              induction n9_68 using Nat.strongRecOn with
              | ind n9_68 ih9_68 =>
                intro kk fI hn9_68 hkk hc H locs ls hP hD hS hl
                refine lv_iload_n hx hb d_M_take_68 rfl (lv_at hl 0 rfl) ?_
                refine lv_iload_n hx hb d_M_take_69 rfl (lv_at hl 1 rfl) ?_
                refine lv_icmp_ge (tgt := 91) hx hb d_M_take_70 (by decide) (fun c_27 => ?_) (fun c_27 => ?_)
                · have hkn : ll = kk := by have := nI_ge' (by omega) (by omega) c_27; omega
                  subst hkn
                  have hPD : my_PD (dC, dI) vwCl A [(o, Sum.inr (9, mO g fForm fShift fModels fItems fEnded fLow fRange fCache fPend fGoes (nI os.length) fIns fReads fBad fIR fAsk fBAsk fCode fRL fRR fX fWrites 0)), ((g 7), Sum.inl (cI, 9000, Sum.inl vOut)), ((g 8), Sum.inl (cI, 6000, Sum.inl fI))] H := ⟨hP, hD⟩
                  have hP := hPD.1
                  have hD := hPD.2
                  refine lv_aload_n hx hb d_M_take_91 rfl (lv_at hl 2 rfl) ?_
                  refine lv_iload_n hx hb d_M_take_92 rfl (lv_at hl 1 rfl) ?_
                  refine va_put (D := (dC, dI)) (ci := 9) (v := .int (nI ll)) (ty := .int) (C := "RangeCodersModel") (T := T_M) (N := 35) hx hb hg in_M t_M o_M n_M hown hK hP hD hS 0 rfl rfl 20 (by decide) (hg _ k972) (fun _ h9 => h9) rfl (o_M 20 (by decide)) rfl rfl (Nat.le_of_ble_eq_true rfl) d_M_take_93 (fun H locs hP hD hS => ?_)
                  have hPD : my_PD (dC, dI) vwCl A [(o, Sum.inr (9, mO g fForm fShift fModels fItems fEnded fLow fRange fCache fPend fGoes (nI os.length) (nI ll) fReads fBad fIR fAsk fBAsk fCode fRL fRR fX fWrites 0)), ((g 7), Sum.inl (cI, 9000, Sum.inl vOut)), ((g 8), Sum.inl (cI, 6000, Sum.inl fI))] H := ⟨hP, hD⟩
                  have hP := hPD.1
                  have hD := hPD.2
                  refine lv_aload_n hx hb d_M_take_96 rfl (lv_at hl 2 rfl) ?_
                  refine lv_iconst (v := 0) hx hb d_M_take_97 (by decide) ?_
                  refine va_put (D := (dC, dI)) (ci := 9) (v := .int 0) (ty := .boolean) (C := "RangeCodersModel") (T := T_M) (N := 35) hx hb hg in_M t_M o_M n_M hown hK hP hD hS 0 rfl rfl 21 (by decide) (hg _ k973) (fun _ h9 => h9) rfl (o_M 21 (by decide)) rfl rfl (Nat.le_of_ble_eq_true rfl) d_M_take_98 (fun H locs hP hD hS => ?_)
                  have hPD : my_PD (dC, dI) vwCl A [(o, Sum.inr (9, mO g fForm fShift fModels fItems fEnded fLow fRange fCache fPend fGoes (nI os.length) (nI ll) 0 fBad fIR fAsk fBAsk fCode fRL fRR fX fWrites 0)), ((g 7), Sum.inl (cI, 9000, Sum.inl vOut)), ((g 8), Sum.inl (cI, 6000, Sum.inl fI))] H := ⟨hP, hD⟩
                  have hP := hPD.1
                  have hD := hPD.2
                  refine lv_aload_n hx hb d_M_take_101 rfl (lv_at hl 2 rfl) ?_
                  refine va_get (D := (dC, dI)) (ci := 9) (v := .int (nI ll)) (C := "RangeCodersModel") (T := T_M) (N := 35) hx hb hg in_M hown hK hP 0 rfl rfl 20 (by decide) (hg _ k972) (fun _ h9 => h9) rfl d_M_take_102 ?_
                  exact my_iret (v := nI ll) hx hb hr (rfl) hlocks hQ hK hS (Nat.le_refl _) (Nat.le_refl _) (fI, nI ll) (⟨by rw [List.length_take, Nat.min_eq_left hll], by rw [List.length_take, Nat.min_eq_left hll], gIs_take hO hll hc⟩) (hP.sub [0, 1, 2] rfl) (hD.sub [0, 1, 2] (by decide +kernel) rfl) d_M_take_105
                · have hkl : kk < ll := nI_lt' (by omega) c_27
                  refine lv_aload_n hx hb d_M_take_73 rfl (lv_at hl 2 rfl) ?_
                  refine va_get (D := (dC, dI)) (ci := 9) (v := .ref (g 8)) (C := "RangeCodersModel") (T := T_M) (N := 35) hx hb hg in_M hown hK hP 0 rfl rfl 19 (by decide) (hg _ k971) (fun _ h9 => h9) rfl d_M_take_74 ?_
                  refine lv_iload_n hx hb d_M_take_77 rfl (lv_at hl 0 rfl) ?_
                  refine lv_aload_n hx hb d_M_take_78 rfl (lv_at hl 2 rfl) ?_
                  refine va_get (D := (dC, dI)) (ci := 9) (v := .ref (g 7)) (C := "RangeCodersModel") (T := T_M) (N := 35) hx hb hg in_M hown hK hP 0 rfl rfl 17 (by decide) (hg _ k969) (fun _ h9 => h9) rfl d_M_take_79 ?_
                  refine lv_iload_n hx hb d_M_take_82 rfl (lv_at hl 0 rfl) ?_
                  refine va_iald hx hb hK hP 1 0 rfl rfl (vp_in_nI (by omega) (by decide)) d_M_take_83 ?_
                  refine lv_topi (fun v_28 ev_28 => ?_)
                  refine va_iast hx hb hK hP hD hS 2 0 rfl rfl (vp_in_nI (by omega) (by decide)) d_M_take_84 (fun H locs hP hD hS => ?_)
                  have hPD : my_PD (dC, dI) vwCl A [(o, Sum.inr (9, mO g fForm fShift fModels fItems fEnded fLow fRange fCache fPend fGoes (nI os.length) fIns fReads fBad fIR fAsk fBAsk fCode fRL fRR fX fWrites 0)), ((g 7), Sum.inl (cI, 9000, Sum.inl vOut)), ((g 8), Sum.inl (cI, 6000, Sum.inl (upd fI (nI kk).toNatClampNeg v_28)))] H := ⟨hP, hD⟩
                  have hP := hPD.1
                  have hD := hPD.2
                  have hc8 : ∀ i, i < kk + 1 → (upd fI (nI kk).toNatClampNeg v_28) i = vOut i := cp_st hc (nI_clamp (by omega)) (by rw [ev_28, nI_clamp (by omega)])
                  obtain ⟨v_29, ev_29⟩ : ∃ y : Int32, y = (nI kk) + (1) := ⟨_, rfl⟩
                  refine lv_iinc (v := v_29) (lv' := [(3, Value.int v_29), (2, Value.int (nI ll)), (0, Value.ref o), (1, Value.int p1)]) hx hb d_M_take_85 hl (k := 0) rfl (by rw [ev_29]; rfl) (by decide) rfl (fun ls hl => ?_)
                  have z9 : v_29 = nI (kk + 1) := by rw [ev_29]; exact nI_1 _
                  subst z9
                  refine lv_goto (tgt := 68) hx hb d_M_take_88 (by decide) ?_
                  exact ih9_68 _ (by first | omega | (omega)) (kk + 1) (upd fI (nI kk).toNatClampNeg v_28) rfl (by omega) (hc8) H locs ls (hP.sub [0, 1, 2] rfl) (hD.sub [0, 1, 2] (by decide +kernel) rfl) hS (lv_sub hl [0, 1, 2, 3] rfl)
            exact J_68 _ (0 : Nat) vIn rfl (Nat.zero_le _) (fun _ z => absurd z (Nat.not_lt_zero _)) H locs ls (hP.sub [0, 1, 2] rfl) (hD.sub [0, 1, 2] (by decide +kernel) rfl) hS (lv_sub hl [0, 1, 2, 3] rfl)
          · exact absurd ((nI_cmp (b := 6000) (by omega) (by decide)).mpr (by omega)) c_26
      · exact absurd (by rw [ev_13]; exact hn2) c_14
set_option maxHeartbeats 2000000 in
set_option maxRecDepth 100000 in
theorem m_chanceA (l : Launch) (dC : Nat → ClassId) (dI : Nat → Nat → Nat) (cI cM cO : ClassId) (sz : Nat) (o : Nat) (g : Nat → Nat) (fForm : Int32) (fShift : Int32) (fModels : Int32) (fItems : Int32) (fEnded : Int32) (fLow : Int64) (fRange : Int64) (fCache : Int32) (fPend : Int32) (fGoes : Int32) (fOuts : Int32) (fIns : Int32) (fReads : Int32) (fBad : Int32) (fIR : Int32) (fAsk : Int32) (fBAsk : Int32) (fCode : Int64) (fRL : Int64) (fRR : Int64) (fX : Int64) (fWrites : Int32) (fThrown : Int32) (vMany : Nat → Int32) (vCounts : Nat → Int32) (km : Nat) (N : Nat → Nat) (p1 : Int32) (p2 : Int32) (hmod : fModels = nI km) (hMD : MD km N vMany vCounts) (hno : p1 < 0 ∨ nI km ≤ p1) : MetI l y_M_chance (Cond.code y_M_chance prog_14_method_62_code 4 (some .int) :: gw) ({ frames := 2, cells := 0, slots := 0, locals := 43 } : Room) (dC, dI) vwCl (kT cI cM cO) [Value.ref o, Value.int p1, Value.int p2] [(o, Sum.inr (9, mO g fForm fShift fModels fItems fEnded fLow fRange fCache fPend fGoes fOuts fIns fReads fBad fIR fAsk fBAsk fCode fRL fRR fX fWrites fThrown)), ((g 0), Sum.inl (cI, 8, Sum.inl vMany)), ((g 1), Sum.inl (cI, 512, Sum.inl vCounts))] sz (fun (r : Int32) (u : Unit) => r = -1) (fun (u : Unit) => [(o, Sum.inr (9, mO g fForm fShift fModels fItems fEnded fLow fRange fCache fPend fGoes fOuts fIns fReads fBad fIR fAsk fBAsk fCode fRL fRR fX fWrites 0)), ((g 0), Sum.inl (cI, 8, Sum.inl vMany)), ((g 1), Sum.inl (cI, 512, Sum.inl vCounts))]) 0 0 := by
  refine my_ofI (cc := prog_14_method_62_code) (n := 4) (ret := (some .int)) (by decide) rfl (Nat.le_of_ble_eq_true rfl) ?_
  intro p e s m args below meth c R Q A ls H locs hx hb hr hts hown hlocks hml hnm hR hQ hA hl hP hK hN hD hS
  have hg : ∀ w ∈ gw, w.before args s = true := fun w h => hts w (List.mem_cons_of_mem _ h)
  have hown : s.vm.findClass "RangeCodersModel" = some m.cls := hown
  have hl : lv_has ls 4 [(0, Value.ref o), (1, Value.int p1), (2, Value.int p2)] := hl
  refine lv_aload_n hx hb d_M_chance_0 rfl (lv_at hl 0 rfl) ?_
  refine lv_iconst (v := 0) hx hb d_M_chance_1 (by decide) ?_
  refine va_put (D := (dC, dI)) (ci := 9) (v := .int 0) (ty := .int) (C := "RangeCodersModel") (T := T_M) (N := 35) hx hb hg in_M t_M o_M n_M hown hK hP hD hS 0 rfl rfl 34 (by decide) (hg _ k986) (fun _ h9 => h9) rfl (o_M 34 (by decide)) rfl rfl (Nat.le_of_ble_eq_true rfl) d_M_chance_2 (fun H locs hP hD hS => ?_)
  have hPD : my_PD (dC, dI) vwCl A [(o, Sum.inr (9, mO g fForm fShift fModels fItems fEnded fLow fRange fCache fPend fGoes fOuts fIns fReads fBad fIR fAsk fBAsk fCode fRL fRR fX fWrites 0)), ((g 0), Sum.inl (cI, 8, Sum.inl vMany)), ((g 1), Sum.inl (cI, 512, Sum.inl vCounts))] H := ⟨hP, hD⟩
  have hP := hPD.1
  have hD := hPD.2
  refine lv_aload_n hx hb d_M_chance_5 rfl (lv_at hl 0 rfl) ?_
  refine lv_iload_n hx hb d_M_chance_6 rfl (lv_at hl 1 rfl) ?_
  refine my_ci (wr := [((g 0), Sum.inl (cI, 8, Sum.inl vMany)), ((g 1), Sum.inl (cI, 512, Sum.inl vCounts))]) (va_runV (As := [Value.int p1]) (rest := []) ⟨hx, hb, hml, hown, hts⟩ (c_M_isModel l dC dI cI cM cO H.size o g fForm fShift fModels fItems fEnded fLow fRange fCache fPend fGoes fOuts fIns fReads fBad fIR fAsk fBAsk fCode fRL fRR fX fWrites 0 p1) (cwV 1 hts (my_gV k1073 k1075 ks26 k12 k1076) rfl rfl rfl cu_M_isModel_1 ⟨by rw [hR]; exact Nat.le_of_ble_eq_true rfl, by rw [hR]; exact Nat.le_of_ble_eq_true rfl⟩) (my_preV hK hN (hP.sub [0] rfl) (hD.sub [0] (by decide +kernel) rfl) 0 rfl rfl) rfl rfl hl.1 rfl (lv_room (Nat.le_of_ble_eq_true rfl)) d_M_chance_7 ⟨by rw [hR]; exact Nat.le_of_ble_eq_true rfl, by rw [hR]; exact Nat.le_of_ble_eq_true rfl⟩) hP hD hS hA [0] [1, 2] rfl rfl (by decide +kernel) (by decide +kernel) (fun r_7 u9 H locs hw_7 hP hD hS => ?_)
  have hw_7 : r_7 = if 0 ≤ p1 ∧ p1 ≤ fModels - 1 then 1 else 0 := hw_7
  have hPD : my_PD (dC, dI) vwCl A [((g 0), Sum.inl (cI, 8, Sum.inl vMany)), ((g 1), Sum.inl (cI, 512, Sum.inl vCounts)), (o, Sum.inr (9, mO g fForm fShift fModels fItems fEnded fLow fRange fCache fPend fGoes fOuts fIns fReads fBad fIR fAsk fBAsk fCode fRL fRR fX fWrites 0))] H := ⟨hP, hD⟩
  have hP := hPD.1
  have hD := hPD.2
  refine lv_if_ne (tgt := 15) hx hb d_M_chance_10 (by decide) (fun c_1 => ?_) (fun c_1 => ?_)
  · exact absurd (by rw [hmod] at hw_7; exact one_ne hw_7 c_1) (md_no hMD.1 hno)
  · refine lv_iconst (v := (-1)) hx hb d_M_chance_13 (by decide) ?_
    exact my_iret (v := (-1)) hx hb hr (rfl) hlocks hQ hK hS (Nat.le_refl _) (Nat.le_refl _) () (rfl) (hP.sub [2, 0, 1] rfl) (hD.sub [2, 0, 1] (by decide +kernel) rfl) d_M_chance_14
set_option maxHeartbeats 2000000 in
set_option maxRecDepth 100000 in
theorem m_chanceS (l : Launch) (dC : Nat → ClassId) (dI : Nat → Nat → Nat) (cI cM cO : ClassId) (sz : Nat) (o : Nat) (g : Nat → Nat) (fForm : Int32) (fShift : Int32) (fModels : Int32) (fItems : Int32) (fEnded : Int32) (fLow : Int64) (fRange : Int64) (fCache : Int32) (fPend : Int32) (fGoes : Int32) (fOuts : Int32) (fIns : Int32) (fReads : Int32) (fBad : Int32) (fIR : Int32) (fAsk : Int32) (fBAsk : Int32) (fCode : Int64) (fRL : Int64) (fRR : Int64) (fX : Int64) (fWrites : Int32) (fThrown : Int32) (vMany : Nat → Int32) (vCounts : Nat → Int32) (km : Nat) (N : Nat → Nat) (jj : Nat) (p2 : Int32) (hmod : fModels = nI km) (hMD : MD km N vMany vCounts) (hj : jj < km) (hf2 : ¬ fForm = 2) (hno : p2 < 0 ∨ nI (N jj) ≤ p2) : MetI l y_M_chance (Cond.code y_M_chance prog_14_method_62_code 4 (some .int) :: gw) ({ frames := 2, cells := 0, slots := 0, locals := 43 } : Room) (dC, dI) vwCl (kT cI cM cO) [Value.ref o, Value.int (nI jj), Value.int p2] [(o, Sum.inr (9, mO g fForm fShift fModels fItems fEnded fLow fRange fCache fPend fGoes fOuts fIns fReads fBad fIR fAsk fBAsk fCode fRL fRR fX fWrites fThrown)), ((g 0), Sum.inl (cI, 8, Sum.inl vMany)), ((g 1), Sum.inl (cI, 512, Sum.inl vCounts))] sz (fun (r : Int32) (u : Unit) => r = -1) (fun (u : Unit) => [(o, Sum.inr (9, mO g fForm fShift fModels fItems fEnded fLow fRange fCache fPend fGoes fOuts fIns fReads fBad fIR fAsk fBAsk fCode fRL fRR fX fWrites 0)), ((g 0), Sum.inl (cI, 8, Sum.inl vMany)), ((g 1), Sum.inl (cI, 512, Sum.inl vCounts))]) 0 0 := by
  refine my_ofI (cc := prog_14_method_62_code) (n := 4) (ret := (some .int)) (by decide) rfl (Nat.le_of_ble_eq_true rfl) ?_
  intro p e s m args below meth c R Q A ls H locs hx hb hr hts hown hlocks hml hnm hR hQ hA hl hP hK hN hD hS
  have hg : ∀ w ∈ gw, w.before args s = true := fun w h => hts w (List.mem_cons_of_mem _ h)
  have hown : s.vm.findClass "RangeCodersModel" = some m.cls := hown
  have hl : lv_has ls 4 [(0, Value.ref o), (1, Value.int (nI jj)), (2, Value.int p2)] := hl
  have hk8 := hMD.1
  obtain ⟨hn9, hn2, hn64, C9, hc9, hB9⟩ := hMD.2 jj hj
  refine lv_aload_n hx hb d_M_chance_0 rfl (lv_at hl 0 rfl) ?_
  refine lv_iconst (v := 0) hx hb d_M_chance_1 (by decide) ?_
  refine va_put (D := (dC, dI)) (ci := 9) (v := .int 0) (ty := .int) (C := "RangeCodersModel") (T := T_M) (N := 35) hx hb hg in_M t_M o_M n_M hown hK hP hD hS 0 rfl rfl 34 (by decide) (hg _ k986) (fun _ h9 => h9) rfl (o_M 34 (by decide)) rfl rfl (Nat.le_of_ble_eq_true rfl) d_M_chance_2 (fun H locs hP hD hS => ?_)
  have hPD : my_PD (dC, dI) vwCl A [(o, Sum.inr (9, mO g fForm fShift fModels fItems fEnded fLow fRange fCache fPend fGoes fOuts fIns fReads fBad fIR fAsk fBAsk fCode fRL fRR fX fWrites 0)), ((g 0), Sum.inl (cI, 8, Sum.inl vMany)), ((g 1), Sum.inl (cI, 512, Sum.inl vCounts))] H := ⟨hP, hD⟩
  have hP := hPD.1
  have hD := hPD.2
  refine lv_aload_n hx hb d_M_chance_5 rfl (lv_at hl 0 rfl) ?_
  refine lv_iload_n hx hb d_M_chance_6 rfl (lv_at hl 1 rfl) ?_
  refine my_ci (wr := [((g 0), Sum.inl (cI, 8, Sum.inl vMany)), ((g 1), Sum.inl (cI, 512, Sum.inl vCounts))]) (va_runV (As := [Value.int (nI jj)]) (rest := []) ⟨hx, hb, hml, hown, hts⟩ (c_M_isModel l dC dI cI cM cO H.size o g fForm fShift fModels fItems fEnded fLow fRange fCache fPend fGoes fOuts fIns fReads fBad fIR fAsk fBAsk fCode fRL fRR fX fWrites 0 (nI jj)) (cwV 1 hts (my_gV k1073 k1075 ks26 k12 k1076) rfl rfl rfl cu_M_isModel_1 ⟨by rw [hR]; exact Nat.le_of_ble_eq_true rfl, by rw [hR]; exact Nat.le_of_ble_eq_true rfl⟩) (my_preV hK hN (hP.sub [0] rfl) (hD.sub [0] (by decide +kernel) rfl) 0 rfl rfl) rfl rfl hl.1 rfl (lv_room (Nat.le_of_ble_eq_true rfl)) d_M_chance_7 ⟨by rw [hR]; exact Nat.le_of_ble_eq_true rfl, by rw [hR]; exact Nat.le_of_ble_eq_true rfl⟩) hP hD hS hA [0] [1, 2] rfl rfl (by decide +kernel) (by decide +kernel) (fun r_7 u9 H locs hw_7 hP hD hS => ?_)
  have hw_7 : r_7 = if 0 ≤ (nI jj) ∧ (nI jj) ≤ fModels - 1 then 1 else 0 := hw_7
  have hPD : my_PD (dC, dI) vwCl A [((g 0), Sum.inl (cI, 8, Sum.inl vMany)), ((g 1), Sum.inl (cI, 512, Sum.inl vCounts)), (o, Sum.inr (9, mO g fForm fShift fModels fItems fEnded fLow fRange fCache fPend fGoes fOuts fIns fReads fBad fIR fAsk fBAsk fCode fRL fRR fX fWrites 0))] H := ⟨hP, hD⟩
  have hP := hPD.1
  have hD := hPD.2
  refine lv_if_ne (tgt := 15) hx hb d_M_chance_10 (by decide) (fun c_1 => ?_) (fun c_1 => ?_)
  · refine lv_aload_n hx hb d_M_chance_15 rfl (lv_at hl 0 rfl) ?_
    refine va_get (D := (dC, dI)) (ci := 9) (v := .int fForm) (C := "RangeCodersModel") (T := T_M) (N := 35) hx hb hg in_M hown hK hP 2 rfl rfl 0 (by decide) (hg _ k952) (fun _ h9 => h9) rfl d_M_chance_16 ?_
    refine lv_iconst (v := 2) hx hb d_M_chance_19 (by decide) ?_
    refine lv_icmp_ne (tgt := 40) hx hb d_M_chance_20 (by decide) (fun c_2 => ?_) (fun c_2 => ?_)
    · refine lv_iload_n hx hb d_M_chance_40 rfl (lv_at hl 2 rfl) ?_
      refine lv_iconst (v := 0) hx hb d_M_chance_41 (by decide) ?_
      refine lv_aload_n hx hb d_M_chance_42 rfl (lv_at hl 0 rfl) ?_
      refine va_get (D := (dC, dI)) (ci := 9) (v := .ref (g 0)) (C := "RangeCodersModel") (T := T_M) (N := 35) hx hb hg in_M hown hK hP 2 rfl rfl 3 (by decide) (hg _ k955) (fun _ h9 => h9) rfl d_M_chance_43 ?_
      refine lv_iload_n hx hb d_M_chance_46 rfl (lv_at hl 1 rfl) ?_
      refine va_iald hx hb hK hP 0 0 rfl rfl (vp_in_nI (by omega) (by decide)) d_M_chance_47 ?_
      refine lv_topi (fun v_3 ev_3 => ?_)
      refine lv_iconst (v := 1) hx hb d_M_chance_48 (by decide) ?_
      refine lv_isub hx hb d_M_chance_49 ?_
      refine lv_topi (fun v_4 ev_4 => ?_)
      have z9 : v_4 = nI (N jj) - 1 := by rw [ev_4, ev_3, nI_clamp (by omega), hn9]
      subst z9
      refine my_ci (wr := [((g 0), Sum.inl (cI, 8, Sum.inl vMany)), ((g 1), Sum.inl (cI, 512, Sum.inl vCounts)), (o, Sum.inr (9, mO g fForm fShift fModels fItems fEnded fLow fRange fCache fPend fGoes fOuts fIns fReads fBad fIR fAsk fBAsk fCode fRL fRR fX fWrites 0))]) (va_runS (As := [Value.int p2, Value.int 0, Value.int (nI (N jj) - 1)]) (rest := []) ⟨hx, hb, hml, hown, hts⟩ (c_M_in l dC dI cI cM cO H.size p2 0 (nI (N jj) - 1)) (cwS 3 hts (my_gS k1062 k1063 k12 k1064) rfl rfl rfl (by decide +kernel) ⟨by rw [hR]; exact Nat.le_of_ble_eq_true rfl, by rw [hR]; exact Nat.le_of_ble_eq_true rfl⟩) (my_pre hK hN (hP.sub [] rfl) (hD.sub [] (by decide +kernel) rfl)) rfl rfl hl.1 rfl (lv_room (Nat.le_of_ble_eq_true rfl)) d_M_chance_50 ⟨by rw [hR]; exact Nat.le_of_ble_eq_true rfl, by rw [hR]; exact Nat.le_of_ble_eq_true rfl⟩) hP hD hS hA [] [0, 1, 2] rfl rfl (by decide +kernel) (by decide +kernel) (fun r_50 u9 H locs hw_50 hP hD hS => ?_)
      have hw_50 : r_50 = if 0 ≤ p2 ∧ p2 ≤ (nI (N jj) - 1) then 1 else 0 := hw_50
      have hPD : my_PD (dC, dI) vwCl A [((g 0), Sum.inl (cI, 8, Sum.inl vMany)), ((g 1), Sum.inl (cI, 512, Sum.inl vCounts)), (o, Sum.inr (9, mO g fForm fShift fModels fItems fEnded fLow fRange fCache fPend fGoes fOuts fIns fReads fBad fIR fAsk fBAsk fCode fRL fRR fX fWrites 0))] H := ⟨hP, hD⟩
      have hP := hPD.1
      have hD := hPD.2
      refine lv_istore_n (lv' := [(3, Value.int r_50), (0, Value.ref o), (1, Value.int (nI jj)), (2, Value.int p2)]) hx hb d_M_chance_53 rfl hl (by decide) rfl (fun ls hl => ?_)
      refine lv_iload_n hx hb d_M_chance_54 rfl (lv_at hl 0 rfl) ?_
      refine lv_if_eq (tgt := 72) hx hb d_M_chance_55 (by decide) (fun c_5 => ?_) (fun c_5 => ?_)
      · refine lv_iconst (v := (-1)) hx hb d_M_chance_72 (by decide) ?_
        exact my_iret (v := (-1)) hx hb hr (rfl) hlocks hQ hK hS (Nat.le_refl _) (Nat.le_refl _) () (rfl) (hP.sub [2, 0, 1] rfl) (hD.sub [2, 0, 1] (by decide +kernel) rfl) d_M_chance_73
      · exact absurd (isN_no (by omega) hno) (fun z9 => z9 (one_ne hw_50 c_5))
    · exact absurd c_2 hf2
  · exact absurd (show 0 ≤ nI jj ∧ nI jj ≤ nI km - 1 from (isN_iff (by omega)).mpr ⟨jj, hj, rfl⟩) (by rw [hmod] at hw_7; exact one_eq hw_7 c_1)
set_option maxHeartbeats 2000000 in
set_option maxRecDepth 100000 in
theorem m_chanceL (l : Launch) (dC : Nat → ClassId) (dI : Nat → Nat → Nat) (cI cM cO : ClassId) (sz : Nat) (o : Nat) (g : Nat → Nat) (fForm : Int32) (fShift : Int32) (fModels : Int32) (fItems : Int32) (fEnded : Int32) (fLow : Int64) (fRange : Int64) (fCache : Int32) (fPend : Int32) (fGoes : Int32) (fOuts : Int32) (fIns : Int32) (fReads : Int32) (fBad : Int32) (fIR : Int32) (fAsk : Int32) (fBAsk : Int32) (fCode : Int64) (fRL : Int64) (fRR : Int64) (fX : Int64) (fWrites : Int32) (fThrown : Int32) (vMany : Nat → Int32) (vCounts : Nat → Int32) (vNow : Nat → Int32) (km : Nat) (N : Nat → Nat) (jj : Nat) (tt : Nat) (hmod : fModels = nI km) (hMD : MD km N vMany vCounts) (hj : jj < km) (ht : tt < N jj) (hf2 : ¬ fForm = 2) : MetI l y_M_chance (Cond.code y_M_chance prog_14_method_62_code 4 (some .int) :: gw) ({ frames := 2, cells := 0, slots := 0, locals := 43 } : Room) (dC, dI) vwCl (kT cI cM cO) [Value.ref o, Value.int (nI jj), Value.int (nI tt)] [(o, Sum.inr (9, mO g fForm fShift fModels fItems fEnded fLow fRange fCache fPend fGoes fOuts fIns fReads fBad fIR fAsk fBAsk fCode fRL fRR fX fWrites fThrown)), ((g 0), Sum.inl (cI, 8, Sum.inl vMany)), ((g 1), Sum.inl (cI, 512, Sum.inl vCounts)), ((g 2), Sum.inl (cI, 512, Sum.inl vNow))] sz (fun (r : Int32) (u : Unit) => r = vNow (64 * jj + tt)) (fun (u : Unit) => [(o, Sum.inr (9, mO g fForm fShift fModels fItems fEnded fLow fRange fCache fPend fGoes fOuts fIns fReads fBad fIR fAsk fBAsk fCode fRL fRR fX fWrites 0)), ((g 0), Sum.inl (cI, 8, Sum.inl vMany)), ((g 1), Sum.inl (cI, 512, Sum.inl vCounts)), ((g 2), Sum.inl (cI, 512, Sum.inl vNow))]) 0 0 := by
  refine my_ofI (cc := prog_14_method_62_code) (n := 4) (ret := (some .int)) (by decide) rfl (Nat.le_of_ble_eq_true rfl) ?_
  intro p e s m args below meth c R Q A ls H locs hx hb hr hts hown hlocks hml hnm hR hQ hA hl hP hK hN hD hS
  have hg : ∀ w ∈ gw, w.before args s = true := fun w h => hts w (List.mem_cons_of_mem _ h)
  have hown : s.vm.findClass "RangeCodersModel" = some m.cls := hown
  have hl : lv_has ls 4 [(0, Value.ref o), (1, Value.int (nI jj)), (2, Value.int (nI tt))] := hl
  have hk8 := hMD.1
  obtain ⟨hn9, hn2, hn64, C9, hc9, hB9⟩ := hMD.2 jj hj
  refine lv_aload_n hx hb d_M_chance_0 rfl (lv_at hl 0 rfl) ?_
  refine lv_iconst (v := 0) hx hb d_M_chance_1 (by decide) ?_
  refine va_put (D := (dC, dI)) (ci := 9) (v := .int 0) (ty := .int) (C := "RangeCodersModel") (T := T_M) (N := 35) hx hb hg in_M t_M o_M n_M hown hK hP hD hS 0 rfl rfl 34 (by decide) (hg _ k986) (fun _ h9 => h9) rfl (o_M 34 (by decide)) rfl rfl (Nat.le_of_ble_eq_true rfl) d_M_chance_2 (fun H locs hP hD hS => ?_)
  have hPD : my_PD (dC, dI) vwCl A [(o, Sum.inr (9, mO g fForm fShift fModels fItems fEnded fLow fRange fCache fPend fGoes fOuts fIns fReads fBad fIR fAsk fBAsk fCode fRL fRR fX fWrites 0)), ((g 0), Sum.inl (cI, 8, Sum.inl vMany)), ((g 1), Sum.inl (cI, 512, Sum.inl vCounts)), ((g 2), Sum.inl (cI, 512, Sum.inl vNow))] H := ⟨hP, hD⟩
  have hP := hPD.1
  have hD := hPD.2
  refine lv_aload_n hx hb d_M_chance_5 rfl (lv_at hl 0 rfl) ?_
  refine lv_iload_n hx hb d_M_chance_6 rfl (lv_at hl 1 rfl) ?_
  refine my_ci (wr := [((g 0), Sum.inl (cI, 8, Sum.inl vMany)), ((g 1), Sum.inl (cI, 512, Sum.inl vCounts)), ((g 2), Sum.inl (cI, 512, Sum.inl vNow))]) (va_runV (As := [Value.int (nI jj)]) (rest := []) ⟨hx, hb, hml, hown, hts⟩ (c_M_isModel l dC dI cI cM cO H.size o g fForm fShift fModels fItems fEnded fLow fRange fCache fPend fGoes fOuts fIns fReads fBad fIR fAsk fBAsk fCode fRL fRR fX fWrites 0 (nI jj)) (cwV 1 hts (my_gV k1073 k1075 ks26 k12 k1076) rfl rfl rfl cu_M_isModel_1 ⟨by rw [hR]; exact Nat.le_of_ble_eq_true rfl, by rw [hR]; exact Nat.le_of_ble_eq_true rfl⟩) (my_preV hK hN (hP.sub [0] rfl) (hD.sub [0] (by decide +kernel) rfl) 0 rfl rfl) rfl rfl hl.1 rfl (lv_room (Nat.le_of_ble_eq_true rfl)) d_M_chance_7 ⟨by rw [hR]; exact Nat.le_of_ble_eq_true rfl, by rw [hR]; exact Nat.le_of_ble_eq_true rfl⟩) hP hD hS hA [0] [1, 2, 3] rfl rfl (by decide +kernel) (by decide +kernel) (fun r_7 u9 H locs hw_7 hP hD hS => ?_)
  have hw_7 : r_7 = if 0 ≤ (nI jj) ∧ (nI jj) ≤ fModels - 1 then 1 else 0 := hw_7
  have hPD : my_PD (dC, dI) vwCl A [((g 0), Sum.inl (cI, 8, Sum.inl vMany)), ((g 1), Sum.inl (cI, 512, Sum.inl vCounts)), ((g 2), Sum.inl (cI, 512, Sum.inl vNow)), (o, Sum.inr (9, mO g fForm fShift fModels fItems fEnded fLow fRange fCache fPend fGoes fOuts fIns fReads fBad fIR fAsk fBAsk fCode fRL fRR fX fWrites 0))] H := ⟨hP, hD⟩
  have hP := hPD.1
  have hD := hPD.2
  refine lv_if_ne (tgt := 15) hx hb d_M_chance_10 (by decide) (fun c_1 => ?_) (fun c_1 => ?_)
  · refine lv_aload_n hx hb d_M_chance_15 rfl (lv_at hl 0 rfl) ?_
    refine va_get (D := (dC, dI)) (ci := 9) (v := .int fForm) (C := "RangeCodersModel") (T := T_M) (N := 35) hx hb hg in_M hown hK hP 3 rfl rfl 0 (by decide) (hg _ k952) (fun _ h9 => h9) rfl d_M_chance_16 ?_
    refine lv_iconst (v := 2) hx hb d_M_chance_19 (by decide) ?_
    refine lv_icmp_ne (tgt := 40) hx hb d_M_chance_20 (by decide) (fun c_2 => ?_) (fun c_2 => ?_)
    · refine lv_iload_n hx hb d_M_chance_40 rfl (lv_at hl 2 rfl) ?_
      refine lv_iconst (v := 0) hx hb d_M_chance_41 (by decide) ?_
      refine lv_aload_n hx hb d_M_chance_42 rfl (lv_at hl 0 rfl) ?_
      refine va_get (D := (dC, dI)) (ci := 9) (v := .ref (g 0)) (C := "RangeCodersModel") (T := T_M) (N := 35) hx hb hg in_M hown hK hP 3 rfl rfl 3 (by decide) (hg _ k955) (fun _ h9 => h9) rfl d_M_chance_43 ?_
      refine lv_iload_n hx hb d_M_chance_46 rfl (lv_at hl 1 rfl) ?_
      refine va_iald hx hb hK hP 0 0 rfl rfl (vp_in_nI (by omega) (by decide)) d_M_chance_47 ?_
      refine lv_topi (fun v_3 ev_3 => ?_)
      refine lv_iconst (v := 1) hx hb d_M_chance_48 (by decide) ?_
      refine lv_isub hx hb d_M_chance_49 ?_
      refine lv_topi (fun v_4 ev_4 => ?_)
      have z9 : v_4 = nI (N jj) - 1 := by rw [ev_4, ev_3, nI_clamp (by omega), hn9]
      subst z9
      refine my_ci (wr := [((g 0), Sum.inl (cI, 8, Sum.inl vMany)), ((g 1), Sum.inl (cI, 512, Sum.inl vCounts)), ((g 2), Sum.inl (cI, 512, Sum.inl vNow)), (o, Sum.inr (9, mO g fForm fShift fModels fItems fEnded fLow fRange fCache fPend fGoes fOuts fIns fReads fBad fIR fAsk fBAsk fCode fRL fRR fX fWrites 0))]) (va_runS (As := [Value.int (nI tt), Value.int 0, Value.int (nI (N jj) - 1)]) (rest := []) ⟨hx, hb, hml, hown, hts⟩ (c_M_in l dC dI cI cM cO H.size (nI tt) 0 (nI (N jj) - 1)) (cwS 3 hts (my_gS k1062 k1063 k12 k1064) rfl rfl rfl (by decide +kernel) ⟨by rw [hR]; exact Nat.le_of_ble_eq_true rfl, by rw [hR]; exact Nat.le_of_ble_eq_true rfl⟩) (my_pre hK hN (hP.sub [] rfl) (hD.sub [] (by decide +kernel) rfl)) rfl rfl hl.1 rfl (lv_room (Nat.le_of_ble_eq_true rfl)) d_M_chance_50 ⟨by rw [hR]; exact Nat.le_of_ble_eq_true rfl, by rw [hR]; exact Nat.le_of_ble_eq_true rfl⟩) hP hD hS hA [] [0, 1, 2, 3] rfl rfl (by decide +kernel) (by decide +kernel) (fun r_50 u9 H locs hw_50 hP hD hS => ?_)
      have hw_50 : r_50 = if 0 ≤ (nI tt) ∧ (nI tt) ≤ (nI (N jj) - 1) then 1 else 0 := hw_50
      have hPD : my_PD (dC, dI) vwCl A [((g 0), Sum.inl (cI, 8, Sum.inl vMany)), ((g 1), Sum.inl (cI, 512, Sum.inl vCounts)), ((g 2), Sum.inl (cI, 512, Sum.inl vNow)), (o, Sum.inr (9, mO g fForm fShift fModels fItems fEnded fLow fRange fCache fPend fGoes fOuts fIns fReads fBad fIR fAsk fBAsk fCode fRL fRR fX fWrites 0))] H := ⟨hP, hD⟩
      have hP := hPD.1
      have hD := hPD.2
      refine lv_istore_n (lv' := [(3, Value.int r_50), (0, Value.ref o), (1, Value.int (nI jj)), (2, Value.int (nI tt))]) hx hb d_M_chance_53 rfl hl (by decide) rfl (fun ls hl => ?_)
      refine lv_iload_n hx hb d_M_chance_54 rfl (lv_at hl 0 rfl) ?_
      refine lv_if_eq (tgt := 72) hx hb d_M_chance_55 (by decide) (fun c_5 => ?_) (fun c_5 => ?_)
      · exact absurd ((isN_iff (k := N jj) (by omega)).mpr ⟨tt, ht, rfl⟩) (one_eq hw_50 c_5)
      · refine lv_aload_n hx hb d_M_chance_58 rfl (lv_at hl 1 rfl) ?_
        refine va_get (D := (dC, dI)) (ci := 9) (v := .ref (g 2)) (C := "RangeCodersModel") (T := T_M) (N := 35) hx hb hg in_M hown hK hP 3 rfl rfl 5 (by decide) (hg _ k957) (fun _ h9 => h9) rfl d_M_chance_59 ?_
        refine lv_bipush (v := 64) hx hb d_M_chance_62 (by decide) ?_
        refine lv_iload_n hx hb d_M_chance_64 rfl (lv_at hl 2 rfl) ?_
        refine lv_imul hx hb d_M_chance_65 ?_
        refine lv_topi (fun v_6 ev_6 => ?_)
        refine lv_iload_n hx hb d_M_chance_66 rfl (lv_at hl 3 rfl) ?_
        refine lv_iadd hx hb d_M_chance_67 ?_
        refine lv_topi (fun v_7 ev_7 => ?_)
        have hix : v_7 = nI (64 * jj + tt) := by rw [ev_7, ev_6]; exact ix64
        refine va_iald hx hb hK hP 2 0 rfl rfl (by rw [hix]; exact vp_in_nI (by omega) (by decide)) d_M_chance_68 ?_
        refine lv_topi (fun v_8 ev_8 => ?_)
        refine lv_goto (tgt := 73) hx hb d_M_chance_69 (by decide) ?_
        exact my_iret (v := v_8) hx hb hr (rfl) hlocks hQ hK hS (Nat.le_refl _) (Nat.le_refl _) () (by rw [ev_8, hix, nI_clamp (by omega)]) (hP.sub [3, 0, 1, 2] rfl) (hD.sub [3, 0, 1, 2] (by decide +kernel) rfl) d_M_chance_73
    · exact absurd c_2 hf2
  · exact absurd (show 0 ≤ nI jj ∧ nI jj ≤ nI km - 1 from (isN_iff (by omega)).mpr ⟨jj, hj, rfl⟩) (by rw [hmod] at hw_7; exact one_eq hw_7 c_1)
set_option maxHeartbeats 2000000 in
set_option maxRecDepth 100000 in
theorem m_chance2S (l : Launch) (dC : Nat → ClassId) (dI : Nat → Nat → Nat) (cI cM cO : ClassId) (sz : Nat) (o : Nat) (g : Nat → Nat) (fShift : Int32) (fModels : Int32) (fItems : Int32) (fEnded : Int32) (fLow : Int64) (fRange : Int64) (fCache : Int32) (fPend : Int32) (fGoes : Int32) (fOuts : Int32) (fIns : Int32) (fReads : Int32) (fBad : Int32) (fIR : Int32) (fAsk : Int32) (fBAsk : Int32) (fCode : Int64) (fRL : Int64) (fRR : Int64) (fX : Int64) (fWrites : Int32) (fThrown : Int32) (vMany : Nat → Int32) (vCounts : Nat → Int32) (km : Nat) (N : Nat → Nat) (jj : Nat) (p2 : Int32) (hmod : fModels = nI km) (hMD : MD km N vMany vCounts) (hj : jj < km) (hno : p2 < 1 ∨ p2 < 0 ∨ nI (2 ^ lev (N jj)) ≤ p2) : MetI l y_M_chance (Cond.code y_M_chance prog_14_method_62_code 4 (some .int) :: gw) ({ frames := 2, cells := 0, slots := 0, locals := 43 } : Room) (dC, dI) vwCl (kT cI cM cO) [Value.ref o, Value.int (nI jj), Value.int p2] [(o, Sum.inr (9, mO g 2 fShift fModels fItems fEnded fLow fRange fCache fPend fGoes fOuts fIns fReads fBad fIR fAsk fBAsk fCode fRL fRR fX fWrites fThrown)), ((g 0), Sum.inl (cI, 8, Sum.inl vMany)), ((g 1), Sum.inl (cI, 512, Sum.inl vCounts))] sz (fun (r : Int32) (u : Unit) => r = -1) (fun (u : Unit) => [(o, Sum.inr (9, mO g 2 fShift fModels fItems fEnded fLow fRange fCache fPend fGoes fOuts fIns fReads fBad fIR fAsk fBAsk fCode fRL fRR fX fWrites 0)), ((g 0), Sum.inl (cI, 8, Sum.inl vMany)), ((g 1), Sum.inl (cI, 512, Sum.inl vCounts))]) 0 0 := by
  refine my_ofI (cc := prog_14_method_62_code) (n := 4) (ret := (some .int)) (by decide) rfl (Nat.le_of_ble_eq_true rfl) ?_
  intro p e s m args below meth c R Q A ls H locs hx hb hr hts hown hlocks hml hnm hR hQ hA hl hP hK hN hD hS
  have hg : ∀ w ∈ gw, w.before args s = true := fun w h => hts w (List.mem_cons_of_mem _ h)
  have hown : s.vm.findClass "RangeCodersModel" = some m.cls := hown
  have hl : lv_has ls 4 [(0, Value.ref o), (1, Value.int (nI jj)), (2, Value.int p2)] := hl
  have hk8 := hMD.1
  obtain ⟨hn9, hn2, hn64, C9, hc9, hB9⟩ := hMD.2 jj hj
  have hl6 := lev_63 (N jj)
  have hp0 := Nat.two_pow_pos (lev (N jj))
  refine lv_aload_n hx hb d_M_chance_0 rfl (lv_at hl 0 rfl) ?_
  refine lv_iconst (v := 0) hx hb d_M_chance_1 (by decide) ?_
  refine va_put (D := (dC, dI)) (ci := 9) (v := .int 0) (ty := .int) (C := "RangeCodersModel") (T := T_M) (N := 35) hx hb hg in_M t_M o_M n_M hown hK hP hD hS 0 rfl rfl 34 (by decide) (hg _ k986) (fun _ h9 => h9) rfl (o_M 34 (by decide)) rfl rfl (Nat.le_of_ble_eq_true rfl) d_M_chance_2 (fun H locs hP hD hS => ?_)
  have hPD : my_PD (dC, dI) vwCl A [(o, Sum.inr (9, mO g 2 fShift fModels fItems fEnded fLow fRange fCache fPend fGoes fOuts fIns fReads fBad fIR fAsk fBAsk fCode fRL fRR fX fWrites 0)), ((g 0), Sum.inl (cI, 8, Sum.inl vMany)), ((g 1), Sum.inl (cI, 512, Sum.inl vCounts))] H := ⟨hP, hD⟩
  have hP := hPD.1
  have hD := hPD.2
  refine lv_aload_n hx hb d_M_chance_5 rfl (lv_at hl 0 rfl) ?_
  refine lv_iload_n hx hb d_M_chance_6 rfl (lv_at hl 1 rfl) ?_
  refine my_ci (wr := [((g 0), Sum.inl (cI, 8, Sum.inl vMany)), ((g 1), Sum.inl (cI, 512, Sum.inl vCounts))]) (va_runV (As := [Value.int (nI jj)]) (rest := []) ⟨hx, hb, hml, hown, hts⟩ (c_M_isModel l dC dI cI cM cO H.size o g 2 fShift fModels fItems fEnded fLow fRange fCache fPend fGoes fOuts fIns fReads fBad fIR fAsk fBAsk fCode fRL fRR fX fWrites 0 (nI jj)) (cwV 1 hts (my_gV k1073 k1075 ks26 k12 k1076) rfl rfl rfl cu_M_isModel_1 ⟨by rw [hR]; exact Nat.le_of_ble_eq_true rfl, by rw [hR]; exact Nat.le_of_ble_eq_true rfl⟩) (my_preV hK hN (hP.sub [0] rfl) (hD.sub [0] (by decide +kernel) rfl) 0 rfl rfl) rfl rfl hl.1 rfl (lv_room (Nat.le_of_ble_eq_true rfl)) d_M_chance_7 ⟨by rw [hR]; exact Nat.le_of_ble_eq_true rfl, by rw [hR]; exact Nat.le_of_ble_eq_true rfl⟩) hP hD hS hA [0] [1, 2] rfl rfl (by decide +kernel) (by decide +kernel) (fun r_7 u9 H locs hw_7 hP hD hS => ?_)
  have hw_7 : r_7 = if 0 ≤ (nI jj) ∧ (nI jj) ≤ fModels - 1 then 1 else 0 := hw_7
  have hPD : my_PD (dC, dI) vwCl A [((g 0), Sum.inl (cI, 8, Sum.inl vMany)), ((g 1), Sum.inl (cI, 512, Sum.inl vCounts)), (o, Sum.inr (9, mO g 2 fShift fModels fItems fEnded fLow fRange fCache fPend fGoes fOuts fIns fReads fBad fIR fAsk fBAsk fCode fRL fRR fX fWrites 0))] H := ⟨hP, hD⟩
  have hP := hPD.1
  have hD := hPD.2
  refine lv_if_ne (tgt := 15) hx hb d_M_chance_10 (by decide) (fun c_1 => ?_) (fun c_1 => ?_)
  · refine lv_aload_n hx hb d_M_chance_15 rfl (lv_at hl 0 rfl) ?_
    refine va_get (D := (dC, dI)) (ci := 9) (v := .int 2) (C := "RangeCodersModel") (T := T_M) (N := 35) hx hb hg in_M hown hK hP 2 rfl rfl 0 (by decide) (hg _ k952) (fun _ h9 => h9) rfl d_M_chance_16 ?_
    refine lv_iconst (v := 2) hx hb d_M_chance_19 (by decide) ?_
    refine lv_icmp_ne (tgt := 40) hx hb d_M_chance_20 (by decide) (fun c_2 => ?_) (fun c_2 => ?_)
    · exact absurd rfl c_2
    · refine lv_iload_n hx hb d_M_chance_23 rfl (lv_at hl 2 rfl) ?_
      refine lv_iconst (v := 1) hx hb d_M_chance_24 (by decide) ?_
      refine lv_iconst (v := 1) hx hb d_M_chance_25 (by decide) ?_
      refine lv_aload_n hx hb d_M_chance_26 rfl (lv_at hl 0 rfl) ?_
      refine lv_iload_n hx hb d_M_chance_27 rfl (lv_at hl 1 rfl) ?_
      refine my_ci (wr := [((g 1), Sum.inl (cI, 512, Sum.inl vCounts))]) (va_runV (As := [Value.int (nI jj)]) (rest := [Value.int 1, Value.int 1, Value.int p2]) ⟨hx, hb, hml, hown, hts⟩ (c_M_levels l dC dI cI cM cO H.size o g 2 fShift fModels fItems fEnded fLow fRange fCache fPend fGoes fOuts fIns fReads fBad fIR fAsk fBAsk fCode fRL fRR fX fWrites 0 vMany jj (N jj) (by omega) (hn9) (hn64)) (cwV 1 hts (my_gV k1123 k1125 ks35 k12 k1126) rfl rfl rfl cu_M_levels_1 ⟨by rw [hR]; exact Nat.le_of_ble_eq_true rfl, by rw [hR]; exact Nat.le_of_ble_eq_true rfl⟩) (my_preV hK hN (hP.sub [2, 0] rfl) (hD.sub [2, 0] (by decide +kernel) rfl) 0 rfl rfl) rfl rfl hl.1 rfl (lv_room (Nat.le_of_ble_eq_true rfl)) d_M_chance_28 ⟨by rw [hR]; exact Nat.le_of_ble_eq_true rfl, by rw [hR]; exact Nat.le_of_ble_eq_true rfl⟩) hP hD hS hA [2, 0] [1] rfl rfl (by decide +kernel) (by decide +kernel) (fun r_28 u9 H locs hw_28 hP hD hS => ?_)
      have hw_28 : r_28 = nI (lev (N jj)) := hw_28
      have hPD : my_PD (dC, dI) vwCl A [((g 1), Sum.inl (cI, 512, Sum.inl vCounts)), (o, Sum.inr (9, mO g 2 fShift fModels fItems fEnded fLow fRange fCache fPend fGoes fOuts fIns fReads fBad fIR fAsk fBAsk fCode fRL fRR fX fWrites 0)), ((g 0), Sum.inl (cI, 8, Sum.inl vMany))] H := ⟨hP, hD⟩
      have hP := hPD.1
      have hD := hPD.2
      refine lv_ishl hx hb d_M_chance_31 ?_
      refine lv_topi (fun v_3 ev_3 => ?_)
      have z9 : v_3 = nI (2 ^ lev (N jj)) := by rw [ev_3, hw_28]; exact shl1 _ (lev_30 _)
      subst z9
      refine lv_iconst (v := 1) hx hb d_M_chance_32 (by decide) ?_
      refine lv_isub hx hb d_M_chance_33 ?_
      refine lv_topi (fun v_4 ev_4 => ?_)
      have z9 : v_4 = nI (2 ^ lev (N jj) - 1) := by rw [ev_4]; exact nI_pred9 (Nat.two_pow_pos _)
      subst z9
      refine my_ci (wr := [((g 1), Sum.inl (cI, 512, Sum.inl vCounts)), (o, Sum.inr (9, mO g 2 fShift fModels fItems fEnded fLow fRange fCache fPend fGoes fOuts fIns fReads fBad fIR fAsk fBAsk fCode fRL fRR fX fWrites 0)), ((g 0), Sum.inl (cI, 8, Sum.inl vMany))]) (va_runS (As := [Value.int p2, Value.int 1, Value.int (nI (2 ^ lev (N jj) - 1))]) (rest := []) ⟨hx, hb, hml, hown, hts⟩ (c_M_in l dC dI cI cM cO H.size p2 1 (nI (2 ^ lev (N jj) - 1))) (cwS 3 hts (my_gS k1062 k1063 k12 k1064) rfl rfl rfl (by decide +kernel) ⟨by rw [hR]; exact Nat.le_of_ble_eq_true rfl, by rw [hR]; exact Nat.le_of_ble_eq_true rfl⟩) (my_pre hK hN (hP.sub [] rfl) (hD.sub [] (by decide +kernel) rfl)) rfl rfl hl.1 rfl (lv_room (Nat.le_of_ble_eq_true rfl)) d_M_chance_34 ⟨by rw [hR]; exact Nat.le_of_ble_eq_true rfl, by rw [hR]; exact Nat.le_of_ble_eq_true rfl⟩) hP hD hS hA [] [0, 1, 2] rfl rfl (by decide +kernel) (by decide +kernel) (fun r_34 u9 H locs hw_34 hP hD hS => ?_)
      have hw_34 : r_34 = if 1 ≤ p2 ∧ p2 ≤ (nI (2 ^ lev (N jj) - 1)) then 1 else 0 := hw_34
      have hPD : my_PD (dC, dI) vwCl A [((g 1), Sum.inl (cI, 512, Sum.inl vCounts)), (o, Sum.inr (9, mO g 2 fShift fModels fItems fEnded fLow fRange fCache fPend fGoes fOuts fIns fReads fBad fIR fAsk fBAsk fCode fRL fRR fX fWrites 0)), ((g 0), Sum.inl (cI, 8, Sum.inl vMany))] H := ⟨hP, hD⟩
      have hP := hPD.1
      have hD := hPD.2
      refine lv_goto (tgt := 53) hx hb d_M_chance_37 (by decide) ?_
      refine lv_istore_n (lv' := [(3, Value.int r_34), (0, Value.ref o), (1, Value.int (nI jj)), (2, Value.int p2)]) hx hb d_M_chance_53 rfl hl (by decide) rfl (fun ls hl => ?_)
      refine lv_iload_n hx hb d_M_chance_54 rfl (lv_at hl 0 rfl) ?_
      refine lv_if_eq (tgt := 72) hx hb d_M_chance_55 (by decide) (fun c_5 => ?_) (fun c_5 => ?_)
      · refine lv_iconst (v := (-1)) hx hb d_M_chance_72 (by decide) ?_
        exact my_iret (v := (-1)) hx hb hr (rfl) hlocks hQ hK hS (Nat.le_refl _) (Nat.le_refl _) () (rfl) (hP.sub [1, 2, 0] rfl) (hD.sub [1, 2, 0] (by decide +kernel) rfl) d_M_chance_73
      · exact absurd (one_ne hw_34 c_5) (nd_no (by omega) hno)
  · exact absurd (show 0 ≤ nI jj ∧ nI jj ≤ nI km - 1 from (isN_iff (by omega)).mpr ⟨jj, hj, rfl⟩) (by rw [hmod] at hw_7; exact one_eq hw_7 c_1)
set_option maxHeartbeats 2000000 in
set_option maxRecDepth 100000 in
theorem m_chance2L (l : Launch) (dC : Nat → ClassId) (dI : Nat → Nat → Nat) (cI cM cO : ClassId) (sz : Nat) (o : Nat) (g : Nat → Nat) (fShift : Int32) (fModels : Int32) (fItems : Int32) (fEnded : Int32) (fLow : Int64) (fRange : Int64) (fCache : Int32) (fPend : Int32) (fGoes : Int32) (fOuts : Int32) (fIns : Int32) (fReads : Int32) (fBad : Int32) (fIR : Int32) (fAsk : Int32) (fBAsk : Int32) (fCode : Int64) (fRL : Int64) (fRR : Int64) (fX : Int64) (fWrites : Int32) (fThrown : Int32) (vMany : Nat → Int32) (vCounts : Nat → Int32) (vNow : Nat → Int32) (km : Nat) (N : Nat → Nat) (jj : Nat) (tt : Nat) (hmod : fModels = nI km) (hMD : MD km N vMany vCounts) (hj : jj < km) (ht1 : 1 ≤ tt) (ht : tt < 2 ^ lev (N jj)) : MetI l y_M_chance (Cond.code y_M_chance prog_14_method_62_code 4 (some .int) :: gw) ({ frames := 2, cells := 0, slots := 0, locals := 43 } : Room) (dC, dI) vwCl (kT cI cM cO) [Value.ref o, Value.int (nI jj), Value.int (nI tt)] [(o, Sum.inr (9, mO g 2 fShift fModels fItems fEnded fLow fRange fCache fPend fGoes fOuts fIns fReads fBad fIR fAsk fBAsk fCode fRL fRR fX fWrites fThrown)), ((g 0), Sum.inl (cI, 8, Sum.inl vMany)), ((g 1), Sum.inl (cI, 512, Sum.inl vCounts)), ((g 2), Sum.inl (cI, 512, Sum.inl vNow))] sz (fun (r : Int32) (u : Unit) => r = vNow (64 * jj + tt)) (fun (u : Unit) => [(o, Sum.inr (9, mO g 2 fShift fModels fItems fEnded fLow fRange fCache fPend fGoes fOuts fIns fReads fBad fIR fAsk fBAsk fCode fRL fRR fX fWrites 0)), ((g 0), Sum.inl (cI, 8, Sum.inl vMany)), ((g 1), Sum.inl (cI, 512, Sum.inl vCounts)), ((g 2), Sum.inl (cI, 512, Sum.inl vNow))]) 0 0 := by
  refine my_ofI (cc := prog_14_method_62_code) (n := 4) (ret := (some .int)) (by decide) rfl (Nat.le_of_ble_eq_true rfl) ?_
  intro p e s m args below meth c R Q A ls H locs hx hb hr hts hown hlocks hml hnm hR hQ hA hl hP hK hN hD hS
  have hg : ∀ w ∈ gw, w.before args s = true := fun w h => hts w (List.mem_cons_of_mem _ h)
  have hown : s.vm.findClass "RangeCodersModel" = some m.cls := hown
  have hl : lv_has ls 4 [(0, Value.ref o), (1, Value.int (nI jj)), (2, Value.int (nI tt))] := hl
  have hk8 := hMD.1
  obtain ⟨hn9, hn2, hn64, C9, hc9, hB9⟩ := hMD.2 jj hj
  have hl6 := lev_63 (N jj)
  have hp0 := Nat.two_pow_pos (lev (N jj))
  refine lv_aload_n hx hb d_M_chance_0 rfl (lv_at hl 0 rfl) ?_
  refine lv_iconst (v := 0) hx hb d_M_chance_1 (by decide) ?_
  refine va_put (D := (dC, dI)) (ci := 9) (v := .int 0) (ty := .int) (C := "RangeCodersModel") (T := T_M) (N := 35) hx hb hg in_M t_M o_M n_M hown hK hP hD hS 0 rfl rfl 34 (by decide) (hg _ k986) (fun _ h9 => h9) rfl (o_M 34 (by decide)) rfl rfl (Nat.le_of_ble_eq_true rfl) d_M_chance_2 (fun H locs hP hD hS => ?_)
  have hPD : my_PD (dC, dI) vwCl A [(o, Sum.inr (9, mO g 2 fShift fModels fItems fEnded fLow fRange fCache fPend fGoes fOuts fIns fReads fBad fIR fAsk fBAsk fCode fRL fRR fX fWrites 0)), ((g 0), Sum.inl (cI, 8, Sum.inl vMany)), ((g 1), Sum.inl (cI, 512, Sum.inl vCounts)), ((g 2), Sum.inl (cI, 512, Sum.inl vNow))] H := ⟨hP, hD⟩
  have hP := hPD.1
  have hD := hPD.2
  refine lv_aload_n hx hb d_M_chance_5 rfl (lv_at hl 0 rfl) ?_
  refine lv_iload_n hx hb d_M_chance_6 rfl (lv_at hl 1 rfl) ?_
  refine my_ci (wr := [((g 0), Sum.inl (cI, 8, Sum.inl vMany)), ((g 1), Sum.inl (cI, 512, Sum.inl vCounts)), ((g 2), Sum.inl (cI, 512, Sum.inl vNow))]) (va_runV (As := [Value.int (nI jj)]) (rest := []) ⟨hx, hb, hml, hown, hts⟩ (c_M_isModel l dC dI cI cM cO H.size o g 2 fShift fModels fItems fEnded fLow fRange fCache fPend fGoes fOuts fIns fReads fBad fIR fAsk fBAsk fCode fRL fRR fX fWrites 0 (nI jj)) (cwV 1 hts (my_gV k1073 k1075 ks26 k12 k1076) rfl rfl rfl cu_M_isModel_1 ⟨by rw [hR]; exact Nat.le_of_ble_eq_true rfl, by rw [hR]; exact Nat.le_of_ble_eq_true rfl⟩) (my_preV hK hN (hP.sub [0] rfl) (hD.sub [0] (by decide +kernel) rfl) 0 rfl rfl) rfl rfl hl.1 rfl (lv_room (Nat.le_of_ble_eq_true rfl)) d_M_chance_7 ⟨by rw [hR]; exact Nat.le_of_ble_eq_true rfl, by rw [hR]; exact Nat.le_of_ble_eq_true rfl⟩) hP hD hS hA [0] [1, 2, 3] rfl rfl (by decide +kernel) (by decide +kernel) (fun r_7 u9 H locs hw_7 hP hD hS => ?_)
  have hw_7 : r_7 = if 0 ≤ (nI jj) ∧ (nI jj) ≤ fModels - 1 then 1 else 0 := hw_7
  have hPD : my_PD (dC, dI) vwCl A [((g 0), Sum.inl (cI, 8, Sum.inl vMany)), ((g 1), Sum.inl (cI, 512, Sum.inl vCounts)), ((g 2), Sum.inl (cI, 512, Sum.inl vNow)), (o, Sum.inr (9, mO g 2 fShift fModels fItems fEnded fLow fRange fCache fPend fGoes fOuts fIns fReads fBad fIR fAsk fBAsk fCode fRL fRR fX fWrites 0))] H := ⟨hP, hD⟩
  have hP := hPD.1
  have hD := hPD.2
  refine lv_if_ne (tgt := 15) hx hb d_M_chance_10 (by decide) (fun c_1 => ?_) (fun c_1 => ?_)
  · refine lv_aload_n hx hb d_M_chance_15 rfl (lv_at hl 0 rfl) ?_
    refine va_get (D := (dC, dI)) (ci := 9) (v := .int 2) (C := "RangeCodersModel") (T := T_M) (N := 35) hx hb hg in_M hown hK hP 3 rfl rfl 0 (by decide) (hg _ k952) (fun _ h9 => h9) rfl d_M_chance_16 ?_
    refine lv_iconst (v := 2) hx hb d_M_chance_19 (by decide) ?_
    refine lv_icmp_ne (tgt := 40) hx hb d_M_chance_20 (by decide) (fun c_2 => ?_) (fun c_2 => ?_)
    · exact absurd rfl c_2
    · refine lv_iload_n hx hb d_M_chance_23 rfl (lv_at hl 2 rfl) ?_
      refine lv_iconst (v := 1) hx hb d_M_chance_24 (by decide) ?_
      refine lv_iconst (v := 1) hx hb d_M_chance_25 (by decide) ?_
      refine lv_aload_n hx hb d_M_chance_26 rfl (lv_at hl 0 rfl) ?_
      refine lv_iload_n hx hb d_M_chance_27 rfl (lv_at hl 1 rfl) ?_
      refine my_ci (wr := [((g 1), Sum.inl (cI, 512, Sum.inl vCounts)), ((g 2), Sum.inl (cI, 512, Sum.inl vNow))]) (va_runV (As := [Value.int (nI jj)]) (rest := [Value.int 1, Value.int 1, Value.int (nI tt)]) ⟨hx, hb, hml, hown, hts⟩ (c_M_levels l dC dI cI cM cO H.size o g 2 fShift fModels fItems fEnded fLow fRange fCache fPend fGoes fOuts fIns fReads fBad fIR fAsk fBAsk fCode fRL fRR fX fWrites 0 vMany jj (N jj) (by omega) (hn9) (hn64)) (cwV 1 hts (my_gV k1123 k1125 ks35 k12 k1126) rfl rfl rfl cu_M_levels_1 ⟨by rw [hR]; exact Nat.le_of_ble_eq_true rfl, by rw [hR]; exact Nat.le_of_ble_eq_true rfl⟩) (my_preV hK hN (hP.sub [3, 0] rfl) (hD.sub [3, 0] (by decide +kernel) rfl) 0 rfl rfl) rfl rfl hl.1 rfl (lv_room (Nat.le_of_ble_eq_true rfl)) d_M_chance_28 ⟨by rw [hR]; exact Nat.le_of_ble_eq_true rfl, by rw [hR]; exact Nat.le_of_ble_eq_true rfl⟩) hP hD hS hA [3, 0] [1, 2] rfl rfl (by decide +kernel) (by decide +kernel) (fun r_28 u9 H locs hw_28 hP hD hS => ?_)
      have hw_28 : r_28 = nI (lev (N jj)) := hw_28
      have hPD : my_PD (dC, dI) vwCl A [((g 1), Sum.inl (cI, 512, Sum.inl vCounts)), ((g 2), Sum.inl (cI, 512, Sum.inl vNow)), (o, Sum.inr (9, mO g 2 fShift fModels fItems fEnded fLow fRange fCache fPend fGoes fOuts fIns fReads fBad fIR fAsk fBAsk fCode fRL fRR fX fWrites 0)), ((g 0), Sum.inl (cI, 8, Sum.inl vMany))] H := ⟨hP, hD⟩
      have hP := hPD.1
      have hD := hPD.2
      refine lv_ishl hx hb d_M_chance_31 ?_
      refine lv_topi (fun v_3 ev_3 => ?_)
      have z9 : v_3 = nI (2 ^ lev (N jj)) := by rw [ev_3, hw_28]; exact shl1 _ (lev_30 _)
      subst z9
      refine lv_iconst (v := 1) hx hb d_M_chance_32 (by decide) ?_
      refine lv_isub hx hb d_M_chance_33 ?_
      refine lv_topi (fun v_4 ev_4 => ?_)
      have z9 : v_4 = nI (2 ^ lev (N jj) - 1) := by rw [ev_4]; exact nI_pred9 (Nat.two_pow_pos _)
      subst z9
      refine my_ci (wr := [((g 1), Sum.inl (cI, 512, Sum.inl vCounts)), ((g 2), Sum.inl (cI, 512, Sum.inl vNow)), (o, Sum.inr (9, mO g 2 fShift fModels fItems fEnded fLow fRange fCache fPend fGoes fOuts fIns fReads fBad fIR fAsk fBAsk fCode fRL fRR fX fWrites 0)), ((g 0), Sum.inl (cI, 8, Sum.inl vMany))]) (va_runS (As := [Value.int (nI tt), Value.int 1, Value.int (nI (2 ^ lev (N jj) - 1))]) (rest := []) ⟨hx, hb, hml, hown, hts⟩ (c_M_in l dC dI cI cM cO H.size (nI tt) 1 (nI (2 ^ lev (N jj) - 1))) (cwS 3 hts (my_gS k1062 k1063 k12 k1064) rfl rfl rfl (by decide +kernel) ⟨by rw [hR]; exact Nat.le_of_ble_eq_true rfl, by rw [hR]; exact Nat.le_of_ble_eq_true rfl⟩) (my_pre hK hN (hP.sub [] rfl) (hD.sub [] (by decide +kernel) rfl)) rfl rfl hl.1 rfl (lv_room (Nat.le_of_ble_eq_true rfl)) d_M_chance_34 ⟨by rw [hR]; exact Nat.le_of_ble_eq_true rfl, by rw [hR]; exact Nat.le_of_ble_eq_true rfl⟩) hP hD hS hA [] [0, 1, 2, 3] rfl rfl (by decide +kernel) (by decide +kernel) (fun r_34 u9 H locs hw_34 hP hD hS => ?_)
      have hw_34 : r_34 = if 1 ≤ (nI tt) ∧ (nI tt) ≤ (nI (2 ^ lev (N jj) - 1)) then 1 else 0 := hw_34
      have hPD : my_PD (dC, dI) vwCl A [((g 1), Sum.inl (cI, 512, Sum.inl vCounts)), ((g 2), Sum.inl (cI, 512, Sum.inl vNow)), (o, Sum.inr (9, mO g 2 fShift fModels fItems fEnded fLow fRange fCache fPend fGoes fOuts fIns fReads fBad fIR fAsk fBAsk fCode fRL fRR fX fWrites 0)), ((g 0), Sum.inl (cI, 8, Sum.inl vMany))] H := ⟨hP, hD⟩
      have hP := hPD.1
      have hD := hPD.2
      refine lv_goto (tgt := 53) hx hb d_M_chance_37 (by decide) ?_
      refine lv_istore_n (lv' := [(3, Value.int r_34), (0, Value.ref o), (1, Value.int (nI jj)), (2, Value.int (nI tt))]) hx hb d_M_chance_53 rfl hl (by decide) rfl (fun ls hl => ?_)
      refine lv_iload_n hx hb d_M_chance_54 rfl (lv_at hl 0 rfl) ?_
      refine lv_if_eq (tgt := 72) hx hb d_M_chance_55 (by decide) (fun c_5 => ?_) (fun c_5 => ?_)
      · exact absurd ⟨nI_le (a := 1) ht1 (by omega), nI_le (by omega) (by omega)⟩ (one_eq hw_34 c_5)
      · refine lv_aload_n hx hb d_M_chance_58 rfl (lv_at hl 1 rfl) ?_
        refine va_get (D := (dC, dI)) (ci := 9) (v := .ref (g 2)) (C := "RangeCodersModel") (T := T_M) (N := 35) hx hb hg in_M hown hK hP 2 rfl rfl 5 (by decide) (hg _ k957) (fun _ h9 => h9) rfl d_M_chance_59 ?_
        refine lv_bipush (v := 64) hx hb d_M_chance_62 (by decide) ?_
        refine lv_iload_n hx hb d_M_chance_64 rfl (lv_at hl 2 rfl) ?_
        refine lv_imul hx hb d_M_chance_65 ?_
        refine lv_topi (fun v_6 ev_6 => ?_)
        refine lv_iload_n hx hb d_M_chance_66 rfl (lv_at hl 3 rfl) ?_
        refine lv_iadd hx hb d_M_chance_67 ?_
        refine lv_topi (fun v_7 ev_7 => ?_)
        have hix : v_7 = nI (64 * jj + tt) := by rw [ev_7, ev_6]; exact ix64
        refine va_iald hx hb hK hP 1 0 rfl rfl (by rw [hix]; exact vp_in_nI (by omega) (by decide)) d_M_chance_68 ?_
        refine lv_topi (fun v_8 ev_8 => ?_)
        refine lv_goto (tgt := 73) hx hb d_M_chance_69 (by decide) ?_
        exact my_iret (v := v_8) hx hb hr (rfl) hlocks hQ hK hS (Nat.le_refl _) (Nat.le_refl _) () (by rw [ev_8, hix, nI_clamp (by omega)]) (hP.sub [2, 3, 0, 1] rfl) (hD.sub [2, 3, 0, 1] (by decide +kernel) rfl) d_M_chance_73
  · exact absurd (show 0 ≤ nI jj ∧ nI jj ≤ nI km - 1 from (isN_iff (by omega)).mpr ⟨jj, hj, rfl⟩) (by rw [hmod] at hw_7; exact one_eq hw_7 c_1)
end
