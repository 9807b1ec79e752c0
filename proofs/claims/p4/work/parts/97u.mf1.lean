set_option maxHeartbeats 2000000 in
set_option maxRecDepth 100000 in
theorem m_countS (l : Launch) (dC : Nat → ClassId) (dI : Nat → Nat → Nat) (cI cM cO : ClassId) (sz : Nat) (o : Nat) (g : Nat → Nat) (fForm : Int32) (fShift : Int32) (fModels : Int32) (fItems : Int32) (fEnded : Int32) (fLow : Int64) (fRange : Int64) (fCache : Int32) (fPend : Int32) (fGoes : Int32) (fOuts : Int32) (fIns : Int32) (fReads : Int32) (fBad : Int32) (fIR : Int32) (fAsk : Int32) (fBAsk : Int32) (fCode : Int64) (fRL : Int64) (fRR : Int64) (fX : Int64) (fWrites : Int32) (fThrown : Int32) (vMany : Nat → Int32) (vCounts : Nat → Int32) (km : Nat) (N : Nat → Nat) (p1 : Int32) (p2 : Int32) (p3 : Int32) (hmod : fModels = nI km) (hMD : MD km N vMany vCounts) (hno : ¬ (isN km p1 ∧ (0 ≤ p2 ∧ p2 ≤ vMany p1.toNatClampNeg - 1))) : MetI l y_M_count (Cond.code y_M_count prog_14_method_14_code 5 (some .int) :: gw) ({ frames := 3, cells := 0, slots := 0, locals := 65 } : Room) (dC, dI) vwCl (kT cI cM cO) [Value.ref o, Value.int p1, Value.int p2, Value.int p3] [(o, Sum.inr (9, mO g fForm fShift fModels fItems fEnded fLow fRange fCache fPend fGoes fOuts fIns fReads fBad fIR fAsk fBAsk fCode fRL fRR fX fWrites fThrown)), ((g 0), Sum.inl (cI, 8, Sum.inl vMany)), ((g 1), Sum.inl (cI, 512, Sum.inl vCounts))] sz (fun (r : Int32) (u : Unit) => r = -1) (fun (u : Unit) => [(o, Sum.inr (9, mO g fForm fShift fModels fItems fEnded fLow fRange fCache fPend fGoes fOuts fIns fReads fBad fIR fAsk fBAsk fCode fRL fRR fX fWrites 0)), ((g 0), Sum.inl (cI, 8, Sum.inl vMany)), ((g 1), Sum.inl (cI, 512, Sum.inl vCounts))]) 0 0 := by
  refine my_ofI (cc := prog_14_method_14_code) (n := 5) (ret := (some .int)) (by decide) rfl (Nat.le_of_ble_eq_true rfl) ?_
  intro p e s m args below meth c R Q A ls H locs hx hb hr hts hown hlocks hml hnm hR hQ hA hl hP hK hN hD hS
  have hg : ∀ w ∈ gw, w.before args s = true := fun w h => hts w (List.mem_cons_of_mem _ h)
  have hown : s.vm.findClass "RangeCodersModel" = some m.cls := hown
  have hl : lv_has ls 5 [(0, Value.ref o), (1, Value.int p1), (2, Value.int p2), (3, Value.int p3)] := hl
  refine lv_aload_n hx hb d_M_count_0 rfl (lv_at hl 0 rfl) ?_
  refine lv_iconst (v := 0) hx hb d_M_count_1 (by decide) ?_
  refine va_put (D := (dC, dI)) (ci := 9) (v := .int 0) (ty := .int) (C := "RangeCodersModel") (T := T_M) (N := 35) hx hb hg in_M t_M o_M n_M hown hK hP hD hS 0 rfl rfl 34 (by decide) (hg _ k986) (fun _ h9 => h9) rfl (by decide +kernel) rfl rfl (Nat.le_of_ble_eq_true rfl) d_M_count_2 (fun H locs hP hD hS => ?_)
  have hP : va_P (dC, dI) vwCl [(o, Sum.inr (9, mO g fForm fShift fModels fItems fEnded fLow fRange fCache fPend fGoes fOuts fIns fReads fBad fIR fAsk fBAsk fCode fRL fRR fX fWrites 0)), ((g 0), Sum.inl (cI, 8, Sum.inl vMany)), ((g 1), Sum.inl (cI, 512, Sum.inl vCounts))] H := hP
  have hD : va_D A [(o, Sum.inr (9, mO g fForm fShift fModels fItems fEnded fLow fRange fCache fPend fGoes fOuts fIns fReads fBad fIR fAsk fBAsk fCode fRL fRR fX fWrites 0)), ((g 0), Sum.inl (cI, 8, Sum.inl vMany)), ((g 1), Sum.inl (cI, 512, Sum.inl vCounts))] := hD
  refine lv_aload_n hx hb d_M_count_5 rfl (lv_at hl 0 rfl) ?_
  refine lv_iload_n hx hb d_M_count_6 rfl (lv_at hl 1 rfl) ?_
  refine lv_iload_n hx hb d_M_count_7 rfl (lv_at hl 2 rfl) ?_
  refine my_ci (wr := [((g 1), Sum.inl (cI, 512, Sum.inl vCounts))]) (va_runV (As := [Value.int p1, Value.int p2]) (rest := []) ⟨hx, hb, hml, hown, hts⟩ (c_M_isSign l dC dI cI cM cO H.size o g fForm fShift fModels fItems fEnded fLow fRange fCache fPend fGoes fOuts fIns fReads fBad fIR fAsk fBAsk fCode fRL fRR fX fWrites 0 vMany km p1 p2 (hMD.1) (by first | assumption | omega)) (cwV 2 hts (my_gV k1069 k1071 ks25 k12 k1072) rfl rfl rfl (by decide +kernel) ⟨by rw [hR]; exact Nat.le_of_ble_eq_true rfl, by rw [hR]; exact Nat.le_of_ble_eq_true rfl⟩) (my_preV hK hN (hP.sub [0, 1] rfl) (hD.sub [0, 1] (by decide +kernel) rfl) 0 rfl rfl) rfl rfl hl.1 rfl (lv_room (Nat.le_of_ble_eq_true rfl)) d_M_count_8 ⟨by rw [hR]; exact Nat.le_of_ble_eq_true rfl, by rw [hR]; exact Nat.le_of_ble_eq_true rfl⟩) hP hD hS hA [0, 1] [2] rfl rfl (by decide +kernel) (by decide +kernel) (fun r_8 u9 H locs hw_8 hP hD hS => ?_)
  have hw_8 : r_8 = if isN km p1 ∧ (0 ≤ p2 ∧ p2 ≤ vMany p1.toNatClampNeg - 1) then 1 else 0 := hw_8
  have hP : va_P (dC, dI) vwCl [((g 1), Sum.inl (cI, 512, Sum.inl vCounts)), (o, Sum.inr (9, mO g fForm fShift fModels fItems fEnded fLow fRange fCache fPend fGoes fOuts fIns fReads fBad fIR fAsk fBAsk fCode fRL fRR fX fWrites 0)), ((g 0), Sum.inl (cI, 8, Sum.inl vMany))] H := hP
  have hD : va_D A [((g 1), Sum.inl (cI, 512, Sum.inl vCounts)), (o, Sum.inr (9, mO g fForm fShift fModels fItems fEnded fLow fRange fCache fPend fGoes fOuts fIns fReads fBad fIR fAsk fBAsk fCode fRL fRR fX fWrites 0)), ((g 0), Sum.inl (cI, 8, Sum.inl vMany))] := hD
  refine lv_if_ne (tgt := 16) hx hb d_M_count_11 (by decide) (fun c_1 => ?_) (fun c_1 => ?_)
  · exact absurd (one_ne hw_8 c_1) hno
  · refine lv_iconst (v := (-1)) hx hb d_M_count_14 (by decide) ?_
    exact my_iret (v := (-1)) hx hb hr (rfl) hlocks hQ hK hS (Nat.le_refl _) (Nat.le_refl _) () (rfl) (hP.sub [1, 2, 0] rfl) (hD.sub [1, 2, 0] (by decide +kernel) rfl) d_M_count_15
set_option maxHeartbeats 2000000 in
set_option maxRecDepth 100000 in
theorem m_putS (l : Launch) (dC : Nat → ClassId) (dI : Nat → Nat → Nat) (cI cM cO : ClassId) (sz : Nat) (o : Nat) (g : Nat → Nat) (fForm : Int32) (fShift : Int32) (fModels : Int32) (fItems : Int32) (fEnded : Int32) (fLow : Int64) (fRange : Int64) (fCache : Int32) (fPend : Int32) (fGoes : Int32) (fOuts : Int32) (fIns : Int32) (fReads : Int32) (fBad : Int32) (fIR : Int32) (fAsk : Int32) (fBAsk : Int32) (fCode : Int64) (fRL : Int64) (fRR : Int64) (fX : Int64) (fWrites : Int32) (fThrown : Int32) (vMany : Nat → Int32) (vCounts : Nat → Int32) (km : Nat) (N : Nat → Nat) (p1 : Int32) (p2 : Int32) (hmod : fModels = nI km) (hMD : MD km N vMany vCounts) (hno : ¬ (isN km p1 ∧ (0 ≤ p2 ∧ p2 ≤ vMany p1.toNatClampNeg - 1))) : MetI l y_M_put (Cond.code y_M_put prog_14_method_29_code 3 (some .int) :: gw) ({ frames := 3, cells := 0, slots := 0, locals := 65 } : Room) (dC, dI) vwCl (kT cI cM cO) [Value.ref o, Value.int p1, Value.int p2] [(o, Sum.inr (9, mO g fForm fShift fModels fItems fEnded fLow fRange fCache fPend fGoes fOuts fIns fReads fBad fIR fAsk fBAsk fCode fRL fRR fX fWrites fThrown)), ((g 0), Sum.inl (cI, 8, Sum.inl vMany)), ((g 1), Sum.inl (cI, 512, Sum.inl vCounts))] sz (fun (r : Int32) (u : Unit) => r = -1) (fun (u : Unit) => [(o, Sum.inr (9, mO g fForm fShift fModels fItems fEnded fLow fRange fCache fPend fGoes fOuts fIns fReads fBad fIR fAsk fBAsk fCode fRL fRR fX fWrites 0)), ((g 0), Sum.inl (cI, 8, Sum.inl vMany)), ((g 1), Sum.inl (cI, 512, Sum.inl vCounts))]) 0 0 := by
  refine my_ofI (cc := prog_14_method_29_code) (n := 3) (ret := (some .int)) (by decide) rfl (Nat.le_of_ble_eq_true rfl) ?_
  intro p e s m args below meth c R Q A ls H locs hx hb hr hts hown hlocks hml hnm hR hQ hA hl hP hK hN hD hS
  have hg : ∀ w ∈ gw, w.before args s = true := fun w h => hts w (List.mem_cons_of_mem _ h)
  have hown : s.vm.findClass "RangeCodersModel" = some m.cls := hown
  have hl : lv_has ls 3 [(0, Value.ref o), (1, Value.int p1), (2, Value.int p2)] := hl
  refine lv_aload_n hx hb d_M_put_0 rfl (lv_at hl 0 rfl) ?_
  refine lv_iconst (v := 0) hx hb d_M_put_1 (by decide) ?_
  refine va_put (D := (dC, dI)) (ci := 9) (v := .int 0) (ty := .int) (C := "RangeCodersModel") (T := T_M) (N := 35) hx hb hg in_M t_M o_M n_M hown hK hP hD hS 0 rfl rfl 34 (by decide) (hg _ k986) (fun _ h9 => h9) rfl (by decide +kernel) rfl rfl (Nat.le_of_ble_eq_true rfl) d_M_put_2 (fun H locs hP hD hS => ?_)
  have hP : va_P (dC, dI) vwCl [(o, Sum.inr (9, mO g fForm fShift fModels fItems fEnded fLow fRange fCache fPend fGoes fOuts fIns fReads fBad fIR fAsk fBAsk fCode fRL fRR fX fWrites 0)), ((g 0), Sum.inl (cI, 8, Sum.inl vMany)), ((g 1), Sum.inl (cI, 512, Sum.inl vCounts))] H := hP
  have hD : va_D A [(o, Sum.inr (9, mO g fForm fShift fModels fItems fEnded fLow fRange fCache fPend fGoes fOuts fIns fReads fBad fIR fAsk fBAsk fCode fRL fRR fX fWrites 0)), ((g 0), Sum.inl (cI, 8, Sum.inl vMany)), ((g 1), Sum.inl (cI, 512, Sum.inl vCounts))] := hD
  refine lv_aload_n hx hb d_M_put_5 rfl (lv_at hl 0 rfl) ?_
  refine lv_iload_n hx hb d_M_put_6 rfl (lv_at hl 1 rfl) ?_
  refine lv_iload_n hx hb d_M_put_7 rfl (lv_at hl 2 rfl) ?_
  refine my_ci (wr := [((g 1), Sum.inl (cI, 512, Sum.inl vCounts))]) (va_runV (As := [Value.int p1, Value.int p2]) (rest := []) ⟨hx, hb, hml, hown, hts⟩ (c_M_isSign l dC dI cI cM cO H.size o g fForm fShift fModels fItems fEnded fLow fRange fCache fPend fGoes fOuts fIns fReads fBad fIR fAsk fBAsk fCode fRL fRR fX fWrites 0 vMany km p1 p2 (hMD.1) (by first | assumption | omega)) (cwV 2 hts (my_gV k1069 k1071 ks25 k12 k1072) rfl rfl rfl (by decide +kernel) ⟨by rw [hR]; exact Nat.le_of_ble_eq_true rfl, by rw [hR]; exact Nat.le_of_ble_eq_true rfl⟩) (my_preV hK hN (hP.sub [0, 1] rfl) (hD.sub [0, 1] (by decide +kernel) rfl) 0 rfl rfl) rfl rfl hl.1 rfl (lv_room (Nat.le_of_ble_eq_true rfl)) d_M_put_8 ⟨by rw [hR]; exact Nat.le_of_ble_eq_true rfl, by rw [hR]; exact Nat.le_of_ble_eq_true rfl⟩) hP hD hS hA [0, 1] [2] rfl rfl (by decide +kernel) (by decide +kernel) (fun r_8 u9 H locs hw_8 hP hD hS => ?_)
  have hw_8 : r_8 = if isN km p1 ∧ (0 ≤ p2 ∧ p2 ≤ vMany p1.toNatClampNeg - 1) then 1 else 0 := hw_8
  have hP : va_P (dC, dI) vwCl [((g 1), Sum.inl (cI, 512, Sum.inl vCounts)), (o, Sum.inr (9, mO g fForm fShift fModels fItems fEnded fLow fRange fCache fPend fGoes fOuts fIns fReads fBad fIR fAsk fBAsk fCode fRL fRR fX fWrites 0)), ((g 0), Sum.inl (cI, 8, Sum.inl vMany))] H := hP
  have hD : va_D A [((g 1), Sum.inl (cI, 512, Sum.inl vCounts)), (o, Sum.inr (9, mO g fForm fShift fModels fItems fEnded fLow fRange fCache fPend fGoes fOuts fIns fReads fBad fIR fAsk fBAsk fCode fRL fRR fX fWrites 0)), ((g 0), Sum.inl (cI, 8, Sum.inl vMany))] := hD
  refine lv_if_ne (tgt := 16) hx hb d_M_put_11 (by decide) (fun c_1 => ?_) (fun c_1 => ?_)
  · exact absurd (one_ne hw_8 c_1) hno
  · refine lv_iconst (v := (-1)) hx hb d_M_put_14 (by decide) ?_
    exact my_iret (v := (-1)) hx hb hr (rfl) hlocks hQ hK hS (Nat.le_refl _) (Nat.le_refl _) () (rfl) (hP.sub [1, 2, 0] rfl) (hD.sub [1, 2, 0] (by decide +kernel) rfl) d_M_put_15
set_option maxHeartbeats 2000000 in
set_option maxRecDepth 100000 in
theorem m_countV (l : Launch) (dC : Nat → ClassId) (dI : Nat → Nat → Nat) (cI cM cO : ClassId) (sz : Nat) (o : Nat) (g : Nat → Nat) (fForm : Int32) (fShift : Int32) (fModels : Int32) (fItems : Int32) (fEnded : Int32) (fLow : Int64) (fRange : Int64) (fCache : Int32) (fPend : Int32) (fGoes : Int32) (fOuts : Int32) (fIns : Int32) (fReads : Int32) (fBad : Int32) (fIR : Int32) (fAsk : Int32) (fBAsk : Int32) (fCode : Int64) (fRL : Int64) (fRR : Int64) (fX : Int64) (fWrites : Int32) (fThrown : Int32) (vMany : Nat → Int32) (vCounts : Nat → Int32) (km : Nat) (N : Nat → Nat) (jj : Nat) (tt : Nat) (p3 : Int32) (hmod : fModels = nI km) (hMD : MD km N vMany vCounts) (hj : jj < km) (ht : tt < N jj) (hvv : p3 < 0 ∨ 4095 < p3) : MetI l y_M_count (Cond.code y_M_count prog_14_method_14_code 5 (some .int) :: gw) ({ frames := 3, cells := 0, slots := 0, locals := 65 } : Room) (dC, dI) vwCl (kT cI cM cO) [Value.ref o, Value.int (nI jj), Value.int (nI tt), Value.int p3] [(o, Sum.inr (9, mO g fForm fShift fModels fItems fEnded fLow fRange fCache fPend fGoes fOuts fIns fReads fBad fIR fAsk fBAsk fCode fRL fRR fX fWrites fThrown)), ((g 0), Sum.inl (cI, 8, Sum.inl vMany)), ((g 1), Sum.inl (cI, 512, Sum.inl vCounts))] sz (fun (r : Int32) (u : Unit) => r = -2) (fun (u : Unit) => [(o, Sum.inr (9, mO g fForm fShift fModels fItems fEnded fLow fRange fCache fPend fGoes fOuts fIns fReads fBad fIR fAsk fBAsk fCode fRL fRR fX fWrites 0)), ((g 0), Sum.inl (cI, 8, Sum.inl vMany)), ((g 1), Sum.inl (cI, 512, Sum.inl vCounts))]) 0 0 := by
  refine my_ofI (cc := prog_14_method_14_code) (n := 5) (ret := (some .int)) (by decide) rfl (Nat.le_of_ble_eq_true rfl) ?_
  intro p e s m args below meth c R Q A ls H locs hx hb hr hts hown hlocks hml hnm hR hQ hA hl hP hK hN hD hS
  have hg : ∀ w ∈ gw, w.before args s = true := fun w h => hts w (List.mem_cons_of_mem _ h)
  have hown : s.vm.findClass "RangeCodersModel" = some m.cls := hown
  have hl : lv_has ls 5 [(0, Value.ref o), (1, Value.int (nI jj)), (2, Value.int (nI tt)), (3, Value.int p3)] := hl
  refine lv_aload_n hx hb d_M_count_0 rfl (lv_at hl 0 rfl) ?_
  refine lv_iconst (v := 0) hx hb d_M_count_1 (by decide) ?_
  refine va_put (D := (dC, dI)) (ci := 9) (v := .int 0) (ty := .int) (C := "RangeCodersModel") (T := T_M) (N := 35) hx hb hg in_M t_M o_M n_M hown hK hP hD hS 0 rfl rfl 34 (by decide) (hg _ k986) (fun _ h9 => h9) rfl (by decide +kernel) rfl rfl (Nat.le_of_ble_eq_true rfl) d_M_count_2 (fun H locs hP hD hS => ?_)
  have hP : va_P (dC, dI) vwCl [(o, Sum.inr (9, mO g fForm fShift fModels fItems fEnded fLow fRange fCache fPend fGoes fOuts fIns fReads fBad fIR fAsk fBAsk fCode fRL fRR fX fWrites 0)), ((g 0), Sum.inl (cI, 8, Sum.inl vMany)), ((g 1), Sum.inl (cI, 512, Sum.inl vCounts))] H := hP
  have hD : va_D A [(o, Sum.inr (9, mO g fForm fShift fModels fItems fEnded fLow fRange fCache fPend fGoes fOuts fIns fReads fBad fIR fAsk fBAsk fCode fRL fRR fX fWrites 0)), ((g 0), Sum.inl (cI, 8, Sum.inl vMany)), ((g 1), Sum.inl (cI, 512, Sum.inl vCounts))] := hD
  refine lv_aload_n hx hb d_M_count_5 rfl (lv_at hl 0 rfl) ?_
  refine lv_iload_n hx hb d_M_count_6 rfl (lv_at hl 1 rfl) ?_
  refine lv_iload_n hx hb d_M_count_7 rfl (lv_at hl 2 rfl) ?_
  refine my_ci (wr := [((g 1), Sum.inl (cI, 512, Sum.inl vCounts))]) (va_runV (As := [Value.int (nI jj), Value.int (nI tt)]) (rest := []) ⟨hx, hb, hml, hown, hts⟩ (c_M_isSign l dC dI cI cM cO H.size o g fForm fShift fModels fItems fEnded fLow fRange fCache fPend fGoes fOuts fIns fReads fBad fIR fAsk fBAsk fCode fRL fRR fX fWrites 0 vMany km (nI jj) (nI tt) (hMD.1) (by first | assumption | omega)) (cwV 2 hts (my_gV k1069 k1071 ks25 k12 k1072) rfl rfl rfl (by decide +kernel) ⟨by rw [hR]; exact Nat.le_of_ble_eq_true rfl, by rw [hR]; exact Nat.le_of_ble_eq_true rfl⟩) (my_preV hK hN (hP.sub [0, 1] rfl) (hD.sub [0, 1] (by decide +kernel) rfl) 0 rfl rfl) rfl rfl hl.1 rfl (lv_room (Nat.le_of_ble_eq_true rfl)) d_M_count_8 ⟨by rw [hR]; exact Nat.le_of_ble_eq_true rfl, by rw [hR]; exact Nat.le_of_ble_eq_true rfl⟩) hP hD hS hA [0, 1] [2] rfl rfl (by decide +kernel) (by decide +kernel) (fun r_8 u9 H locs hw_8 hP hD hS => ?_)
  have hw_8 : r_8 = if isN km (nI jj) ∧ (0 ≤ (nI tt) ∧ (nI tt) ≤ vMany (nI jj).toNatClampNeg - 1) then 1 else 0 := hw_8
  have hP : va_P (dC, dI) vwCl [((g 1), Sum.inl (cI, 512, Sum.inl vCounts)), (o, Sum.inr (9, mO g fForm fShift fModels fItems fEnded fLow fRange fCache fPend fGoes fOuts fIns fReads fBad fIR fAsk fBAsk fCode fRL fRR fX fWrites 0)), ((g 0), Sum.inl (cI, 8, Sum.inl vMany))] H := hP
  have hD : va_D A [((g 1), Sum.inl (cI, 512, Sum.inl vCounts)), (o, Sum.inr (9, mO g fForm fShift fModels fItems fEnded fLow fRange fCache fPend fGoes fOuts fIns fReads fBad fIR fAsk fBAsk fCode fRL fRR fX fWrites 0)), ((g 0), Sum.inl (cI, 8, Sum.inl vMany))] := hD
  refine lv_if_ne (tgt := 16) hx hb d_M_count_11 (by decide) (fun c_1 => ?_) (fun c_1 => ?_)
  · refine lv_iload_n hx hb d_M_count_16 rfl (lv_at hl 3 rfl) ?_
    refine lv_iconst (v := 0) hx hb d_M_count_17 (by decide) ?_
    refine lv_sipush (v := 4095) hx hb d_M_count_18 (by decide) ?_
    refine my_ci (wr := [((g 1), Sum.inl (cI, 512, Sum.inl vCounts)), (o, Sum.inr (9, mO g fForm fShift fModels fItems fEnded fLow fRange fCache fPend fGoes fOuts fIns fReads fBad fIR fAsk fBAsk fCode fRL fRR fX fWrites 0)), ((g 0), Sum.inl (cI, 8, Sum.inl vMany))]) (va_runS (As := [Value.int p3, Value.int 0, Value.int 4095]) (rest := []) ⟨hx, hb, hml, hown, hts⟩ (c_M_in l dC dI cI cM cO H.size p3 0 4095) (cwS 3 hts (my_gS k1062 k1063 k12 k1064) rfl rfl rfl (by decide +kernel) ⟨by rw [hR]; exact Nat.le_of_ble_eq_true rfl, by rw [hR]; exact Nat.le_of_ble_eq_true rfl⟩) (my_pre hK hN (hP.sub [] rfl) (hD.sub [] (by decide +kernel) rfl)) rfl rfl hl.1 rfl (lv_room (Nat.le_of_ble_eq_true rfl)) d_M_count_21 ⟨by rw [hR]; exact Nat.le_of_ble_eq_true rfl, by rw [hR]; exact Nat.le_of_ble_eq_true rfl⟩) hP hD hS hA [] [0, 1, 2] rfl rfl (by decide +kernel) (by decide +kernel) (fun r_21 u9 H locs hw_21 hP hD hS => ?_)
    have hw_21 : r_21 = if 0 ≤ p3 ∧ p3 ≤ 4095 then 1 else 0 := hw_21
    have hP : va_P (dC, dI) vwCl [((g 1), Sum.inl (cI, 512, Sum.inl vCounts)), (o, Sum.inr (9, mO g fForm fShift fModels fItems fEnded fLow fRange fCache fPend fGoes fOuts fIns fReads fBad fIR fAsk fBAsk fCode fRL fRR fX fWrites 0)), ((g 0), Sum.inl (cI, 8, Sum.inl vMany))] H := hP
    have hD : va_D A [((g 1), Sum.inl (cI, 512, Sum.inl vCounts)), (o, Sum.inr (9, mO g fForm fShift fModels fItems fEnded fLow fRange fCache fPend fGoes fOuts fIns fReads fBad fIR fAsk fBAsk fCode fRL fRR fX fWrites 0)), ((g 0), Sum.inl (cI, 8, Sum.inl vMany))] := hD
    refine lv_if_ne (tgt := 30) hx hb d_M_count_24 (by decide) (fun c_2 => ?_) (fun c_2 => ?_)
    · exact absurd hvv (fun h9 => h9.elim (fun q9 => absurd (one_ne hw_21 c_2).1 (Int32.not_le.mpr q9)) (fun q9 => absurd (one_ne hw_21 c_2).2 (Int32.not_le.mpr q9)))
    · refine lv_bipush (v := (-2)) hx hb d_M_count_27 (by decide) ?_
      exact my_iret (v := (-2)) hx hb hr (rfl) hlocks hQ hK hS (Nat.le_refl _) (Nat.le_refl _) () (rfl) (hP.sub [1, 2, 0] rfl) (hD.sub [1, 2, 0] (by decide +kernel) rfl) d_M_count_29
  · exact absurd (sg_yes hMD hj ht) (one_eq hw_8 c_1)
set_option maxHeartbeats 2000000 in
set_option maxRecDepth 100000 in
theorem m_countN (l : Launch) (dC : Nat → ClassId) (dI : Nat → Nat → Nat) (cI cM cO : ClassId) (sz : Nat) (o : Nat) (g : Nat → Nat) (fForm : Int32) (fShift : Int32) (fModels : Int32) (fItems : Int32) (fEnded : Int32) (fLow : Int64) (fRange : Int64) (fCache : Int32) (fPend : Int32) (fGoes : Int32) (fOuts : Int32) (fIns : Int32) (fReads : Int32) (fBad : Int32) (fIR : Int32) (fAsk : Int32) (fBAsk : Int32) (fCode : Int64) (fRL : Int64) (fRR : Int64) (fX : Int64) (fWrites : Int32) (fThrown : Int32) (vMany : Nat → Int32) (vCounts : Nat → Int32) (km : Nat) (N : Nat → Nat) (jj : Nat) (tt : Nat) (cc : Nat) (hmod : fModels = nI km) (hMD : MD km N vMany vCounts) (hj : jj < km) (ht : tt < N jj) (hcc : cc ≤ 4095) (hnn : (0 < fItems ∧ fEnded = 0) ∨ ¬ fReads = 0) : MetI l y_M_count (Cond.code y_M_count prog_14_method_14_code 5 (some .int) :: gw) ({ frames := 3, cells := 0, slots := 0, locals := 65 } : Room) (dC, dI) vwCl (kT cI cM cO) [Value.ref o, Value.int (nI jj), Value.int (nI tt), Value.int (nI cc)] [(o, Sum.inr (9, mO g fForm fShift fModels fItems fEnded fLow fRange fCache fPend fGoes fOuts fIns fReads fBad fIR fAsk fBAsk fCode fRL fRR fX fWrites fThrown)), ((g 0), Sum.inl (cI, 8, Sum.inl vMany)), ((g 1), Sum.inl (cI, 512, Sum.inl vCounts))] sz (fun (r : Int32) (u : Unit) => r = -3) (fun (u : Unit) => [(o, Sum.inr (9, mO g fForm fShift fModels fItems fEnded fLow fRange fCache fPend fGoes fOuts fIns fReads fBad fIR fAsk fBAsk fCode fRL fRR fX fWrites 0)), ((g 0), Sum.inl (cI, 8, Sum.inl vMany)), ((g 1), Sum.inl (cI, 512, Sum.inl vCounts))]) 0 0 := by
  refine my_ofI (cc := prog_14_method_14_code) (n := 5) (ret := (some .int)) (by decide) rfl (Nat.le_of_ble_eq_true rfl) ?_
  intro p e s m args below meth c R Q A ls H locs hx hb hr hts hown hlocks hml hnm hR hQ hA hl hP hK hN hD hS
  have hg : ∀ w ∈ gw, w.before args s = true := fun w h => hts w (List.mem_cons_of_mem _ h)
  have hown : s.vm.findClass "RangeCodersModel" = some m.cls := hown
  have hl : lv_has ls 5 [(0, Value.ref o), (1, Value.int (nI jj)), (2, Value.int (nI tt)), (3, Value.int (nI cc))] := hl
  refine lv_aload_n hx hb d_M_count_0 rfl (lv_at hl 0 rfl) ?_
  refine lv_iconst (v := 0) hx hb d_M_count_1 (by decide) ?_
  refine va_put (D := (dC, dI)) (ci := 9) (v := .int 0) (ty := .int) (C := "RangeCodersModel") (T := T_M) (N := 35) hx hb hg in_M t_M o_M n_M hown hK hP hD hS 0 rfl rfl 34 (by decide) (hg _ k986) (fun _ h9 => h9) rfl (by decide +kernel) rfl rfl (Nat.le_of_ble_eq_true rfl) d_M_count_2 (fun H locs hP hD hS => ?_)
  have hP : va_P (dC, dI) vwCl [(o, Sum.inr (9, mO g fForm fShift fModels fItems fEnded fLow fRange fCache fPend fGoes fOuts fIns fReads fBad fIR fAsk fBAsk fCode fRL fRR fX fWrites 0)), ((g 0), Sum.inl (cI, 8, Sum.inl vMany)), ((g 1), Sum.inl (cI, 512, Sum.inl vCounts))] H := hP
  have hD : va_D A [(o, Sum.inr (9, mO g fForm fShift fModels fItems fEnded fLow fRange fCache fPend fGoes fOuts fIns fReads fBad fIR fAsk fBAsk fCode fRL fRR fX fWrites 0)), ((g 0), Sum.inl (cI, 8, Sum.inl vMany)), ((g 1), Sum.inl (cI, 512, Sum.inl vCounts))] := hD
  refine lv_aload_n hx hb d_M_count_5 rfl (lv_at hl 0 rfl) ?_
  refine lv_iload_n hx hb d_M_count_6 rfl (lv_at hl 1 rfl) ?_
  refine lv_iload_n hx hb d_M_count_7 rfl (lv_at hl 2 rfl) ?_
  refine my_ci (wr := [((g 1), Sum.inl (cI, 512, Sum.inl vCounts))]) (va_runV (As := [Value.int (nI jj), Value.int (nI tt)]) (rest := []) ⟨hx, hb, hml, hown, hts⟩ (c_M_isSign l dC dI cI cM cO H.size o g fForm fShift fModels fItems fEnded fLow fRange fCache fPend fGoes fOuts fIns fReads fBad fIR fAsk fBAsk fCode fRL fRR fX fWrites 0 vMany km (nI jj) (nI tt) (hMD.1) (by first | assumption | omega)) (cwV 2 hts (my_gV k1069 k1071 ks25 k12 k1072) rfl rfl rfl (by decide +kernel) ⟨by rw [hR]; exact Nat.le_of_ble_eq_true rfl, by rw [hR]; exact Nat.le_of_ble_eq_true rfl⟩) (my_preV hK hN (hP.sub [0, 1] rfl) (hD.sub [0, 1] (by decide +kernel) rfl) 0 rfl rfl) rfl rfl hl.1 rfl (lv_room (Nat.le_of_ble_eq_true rfl)) d_M_count_8 ⟨by rw [hR]; exact Nat.le_of_ble_eq_true rfl, by rw [hR]; exact Nat.le_of_ble_eq_true rfl⟩) hP hD hS hA [0, 1] [2] rfl rfl (by decide +kernel) (by decide +kernel) (fun r_8 u9 H locs hw_8 hP hD hS => ?_)
  have hw_8 : r_8 = if isN km (nI jj) ∧ (0 ≤ (nI tt) ∧ (nI tt) ≤ vMany (nI jj).toNatClampNeg - 1) then 1 else 0 := hw_8
  have hP : va_P (dC, dI) vwCl [((g 1), Sum.inl (cI, 512, Sum.inl vCounts)), (o, Sum.inr (9, mO g fForm fShift fModels fItems fEnded fLow fRange fCache fPend fGoes fOuts fIns fReads fBad fIR fAsk fBAsk fCode fRL fRR fX fWrites 0)), ((g 0), Sum.inl (cI, 8, Sum.inl vMany))] H := hP
  have hD : va_D A [((g 1), Sum.inl (cI, 512, Sum.inl vCounts)), (o, Sum.inr (9, mO g fForm fShift fModels fItems fEnded fLow fRange fCache fPend fGoes fOuts fIns fReads fBad fIR fAsk fBAsk fCode fRL fRR fX fWrites 0)), ((g 0), Sum.inl (cI, 8, Sum.inl vMany))] := hD
  refine lv_if_ne (tgt := 16) hx hb d_M_count_11 (by decide) (fun c_1 => ?_) (fun c_1 => ?_)
  · refine lv_iload_n hx hb d_M_count_16 rfl (lv_at hl 3 rfl) ?_
    refine lv_iconst (v := 0) hx hb d_M_count_17 (by decide) ?_
    refine lv_sipush (v := 4095) hx hb d_M_count_18 (by decide) ?_
    refine my_ci (wr := [((g 1), Sum.inl (cI, 512, Sum.inl vCounts)), (o, Sum.inr (9, mO g fForm fShift fModels fItems fEnded fLow fRange fCache fPend fGoes fOuts fIns fReads fBad fIR fAsk fBAsk fCode fRL fRR fX fWrites 0)), ((g 0), Sum.inl (cI, 8, Sum.inl vMany))]) (va_runS (As := [Value.int (nI cc), Value.int 0, Value.int 4095]) (rest := []) ⟨hx, hb, hml, hown, hts⟩ (c_M_in l dC dI cI cM cO H.size (nI cc) 0 4095) (cwS 3 hts (my_gS k1062 k1063 k12 k1064) rfl rfl rfl (by decide +kernel) ⟨by rw [hR]; exact Nat.le_of_ble_eq_true rfl, by rw [hR]; exact Nat.le_of_ble_eq_true rfl⟩) (my_pre hK hN (hP.sub [] rfl) (hD.sub [] (by decide +kernel) rfl)) rfl rfl hl.1 rfl (lv_room (Nat.le_of_ble_eq_true rfl)) d_M_count_21 ⟨by rw [hR]; exact Nat.le_of_ble_eq_true rfl, by rw [hR]; exact Nat.le_of_ble_eq_true rfl⟩) hP hD hS hA [] [0, 1, 2] rfl rfl (by decide +kernel) (by decide +kernel) (fun r_21 u9 H locs hw_21 hP hD hS => ?_)
    have hw_21 : r_21 = if 0 ≤ (nI cc) ∧ (nI cc) ≤ 4095 then 1 else 0 := hw_21
    have hP : va_P (dC, dI) vwCl [((g 1), Sum.inl (cI, 512, Sum.inl vCounts)), (o, Sum.inr (9, mO g fForm fShift fModels fItems fEnded fLow fRange fCache fPend fGoes fOuts fIns fReads fBad fIR fAsk fBAsk fCode fRL fRR fX fWrites 0)), ((g 0), Sum.inl (cI, 8, Sum.inl vMany))] H := hP
    have hD : va_D A [((g 1), Sum.inl (cI, 512, Sum.inl vCounts)), (o, Sum.inr (9, mO g fForm fShift fModels fItems fEnded fLow fRange fCache fPend fGoes fOuts fIns fReads fBad fIR fAsk fBAsk fCode fRL fRR fX fWrites 0)), ((g 0), Sum.inl (cI, 8, Sum.inl vMany))] := hD
    refine lv_if_ne (tgt := 30) hx hb d_M_count_24 (by decide) (fun c_2 => ?_) (fun c_2 => ?_)
    · refine lv_aload_n hx hb d_M_count_30 rfl (lv_at hl 0 rfl) ?_
      refine va_get (D := (dC, dI)) (ci := 9) (v := .int fItems) (C := "RangeCodersModel") (T := T_M) (N := 35) hx hb hg in_M hown hK hP 1 rfl rfl 7 (by decide) (hg _ k959) (fun _ h9 => h9) rfl d_M_count_31 ?_
      refine lv_if_le (tgt := 44) hx hb d_M_count_34 (by decide) (fun c_3 => ?_) (fun c_3 => ?_)
      · refine lv_aload_n hx hb d_M_count_44 rfl (lv_at hl 0 rfl) ?_
        refine va_get (D := (dC, dI)) (ci := 9) (v := .int fReads) (C := "RangeCodersModel") (T := T_M) (N := 35) hx hb hg in_M hown hK hP 1 rfl rfl 21 (by decide) (hg _ k973) (fun _ h9 => h9) rfl d_M_count_45 ?_
        refine lv_if_eq (tgt := 54) hx hb d_M_count_48 (by decide) (fun c_4 => ?_) (fun c_4 => ?_)
        · exact absurd hnn (fun h9 => h9.elim (fun q9 => absurd q9.1 (Int32.not_lt.mpr c_3)) (fun q9 => q9 c_4))
        · refine lv_bipush (v := (-3)) hx hb d_M_count_51 (by decide) ?_
          exact my_iret (v := (-3)) hx hb hr (rfl) hlocks hQ hK hS (Nat.le_refl _) (Nat.le_refl _) () (rfl) (hP.sub [1, 2, 0] rfl) (hD.sub [1, 2, 0] (by decide +kernel) rfl) d_M_count_53
      · refine lv_aload_n hx hb d_M_count_37 rfl (lv_at hl 0 rfl) ?_
        refine va_get (D := (dC, dI)) (ci := 9) (v := .int fEnded) (C := "RangeCodersModel") (T := T_M) (N := 35) hx hb hg in_M hown hK hP 1 rfl rfl 10 (by decide) (hg _ k962) (fun _ h9 => h9) rfl d_M_count_38 ?_
        refine lv_if_eq (tgt := 51) hx hb d_M_count_41 (by decide) (fun c_5 => ?_) (fun c_5 => ?_)
        · refine lv_bipush (v := (-3)) hx hb d_M_count_51 (by decide) ?_
          exact my_iret (v := (-3)) hx hb hr (rfl) hlocks hQ hK hS (Nat.le_refl _) (Nat.le_refl _) () (rfl) (hP.sub [1, 2, 0] rfl) (hD.sub [1, 2, 0] (by decide +kernel) rfl) d_M_count_53
        · refine lv_aload_n hx hb d_M_count_44 rfl (lv_at hl 0 rfl) ?_
          refine va_get (D := (dC, dI)) (ci := 9) (v := .int fReads) (C := "RangeCodersModel") (T := T_M) (N := 35) hx hb hg in_M hown hK hP 1 rfl rfl 21 (by decide) (hg _ k973) (fun _ h9 => h9) rfl d_M_count_45 ?_
          refine lv_if_eq (tgt := 54) hx hb d_M_count_48 (by decide) (fun c_6 => ?_) (fun c_6 => ?_)
          · exact absurd hnn (fun h9 => h9.elim (fun q9 => c_5 q9.2) (fun q9 => q9 c_6))
          · refine lv_bipush (v := (-3)) hx hb d_M_count_51 (by decide) ?_
            exact my_iret (v := (-3)) hx hb hr (rfl) hlocks hQ hK hS (Nat.le_refl _) (Nat.le_refl _) () (rfl) (hP.sub [1, 2, 0] rfl) (hD.sub [1, 2, 0] (by decide +kernel) rfl) d_M_count_53
    · exact absurd ⟨nI_pos' (by omega), nI_le (b := 4095) hcc (by decide)⟩ (one_eq hw_21 c_2)
  · exact absurd (sg_yes hMD hj ht) (one_eq hw_8 c_1)
set_option maxHeartbeats 2000000 in
set_option maxRecDepth 100000 in
theorem m_countE (l : Launch) (dC : Nat → ClassId) (dI : Nat → Nat → Nat) (cI cM cO : ClassId) (sz : Nat) (o : Nat) (g : Nat → Nat) (fForm : Int32) (fShift : Int32) (fModels : Int32) (fItems : Int32) (fEnded : Int32) (fLow : Int64) (fRange : Int64) (fCache : Int32) (fPend : Int32) (fGoes : Int32) (fOuts : Int32) (fIns : Int32) (fReads : Int32) (fBad : Int32) (fIR : Int32) (fAsk : Int32) (fBAsk : Int32) (fCode : Int64) (fRL : Int64) (fRR : Int64) (fX : Int64) (fWrites : Int32) (fThrown : Int32) (vMany : Nat → Int32) (vCounts : Nat → Int32) (km : Nat) (N : Nat → Nat) (jj : Nat) (tt : Nat) (cc : Nat) (hmod : fModels = nI km) (hMD : MD km N vMany vCounts) (hj : jj < km) (ht : tt < N jj) (hcc : cc ≤ 4095) (hen : ¬ fEnded = 0) (hrd : fReads = 0) : MetI l y_M_count (Cond.code y_M_count prog_14_method_14_code 5 (some .int) :: gw) ({ frames := 3, cells := 0, slots := 0, locals := 65 } : Room) (dC, dI) vwCl (kT cI cM cO) [Value.ref o, Value.int (nI jj), Value.int (nI tt), Value.int (nI cc)] [(o, Sum.inr (9, mO g fForm fShift fModels fItems fEnded fLow fRange fCache fPend fGoes fOuts fIns fReads fBad fIR fAsk fBAsk fCode fRL fRR fX fWrites fThrown)), ((g 0), Sum.inl (cI, 8, Sum.inl vMany)), ((g 1), Sum.inl (cI, 512, Sum.inl vCounts))] sz (fun (r : Int32) (u : (Nat → Int32)) => r = vCounts (64 * jj + tt) ∧ u = upd vCounts (64 * jj + tt) (nI cc)) (fun (u : (Nat → Int32)) => [(o, Sum.inr (9, mO g fForm fShift fModels fItems fEnded fLow fRange fCache fPend fGoes fOuts fIns fReads fBad fIR fAsk fBAsk fCode fRL fRR fX fWrites 0)), ((g 0), Sum.inl (cI, 8, Sum.inl vMany)), ((g 1), Sum.inl (cI, 512, Sum.inl u))]) 0 0 := by
  refine my_ofI (cc := prog_14_method_14_code) (n := 5) (ret := (some .int)) (by decide) rfl (Nat.le_of_ble_eq_true rfl) ?_
  intro p e s m args below meth c R Q A ls H locs hx hb hr hts hown hlocks hml hnm hR hQ hA hl hP hK hN hD hS
  have hg : ∀ w ∈ gw, w.before args s = true := fun w h => hts w (List.mem_cons_of_mem _ h)
  have hown : s.vm.findClass "RangeCodersModel" = some m.cls := hown
  have hl : lv_has ls 5 [(0, Value.ref o), (1, Value.int (nI jj)), (2, Value.int (nI tt)), (3, Value.int (nI cc))] := hl
  have hk8 := hMD.1
  obtain ⟨hn9, hn2, hn64, C9, hc9, hB9⟩ := hMD.2 jj hj
  refine lv_aload_n hx hb d_M_count_0 rfl (lv_at hl 0 rfl) ?_
  refine lv_iconst (v := 0) hx hb d_M_count_1 (by decide) ?_
  refine va_put (D := (dC, dI)) (ci := 9) (v := .int 0) (ty := .int) (C := "RangeCodersModel") (T := T_M) (N := 35) hx hb hg in_M t_M o_M n_M hown hK hP hD hS 0 rfl rfl 34 (by decide) (hg _ k986) (fun _ h9 => h9) rfl (by decide +kernel) rfl rfl (Nat.le_of_ble_eq_true rfl) d_M_count_2 (fun H locs hP hD hS => ?_)
  have hP : va_P (dC, dI) vwCl [(o, Sum.inr (9, mO g fForm fShift fModels fItems fEnded fLow fRange fCache fPend fGoes fOuts fIns fReads fBad fIR fAsk fBAsk fCode fRL fRR fX fWrites 0)), ((g 0), Sum.inl (cI, 8, Sum.inl vMany)), ((g 1), Sum.inl (cI, 512, Sum.inl vCounts))] H := hP
  have hD : va_D A [(o, Sum.inr (9, mO g fForm fShift fModels fItems fEnded fLow fRange fCache fPend fGoes fOuts fIns fReads fBad fIR fAsk fBAsk fCode fRL fRR fX fWrites 0)), ((g 0), Sum.inl (cI, 8, Sum.inl vMany)), ((g 1), Sum.inl (cI, 512, Sum.inl vCounts))] := hD
  refine lv_aload_n hx hb d_M_count_5 rfl (lv_at hl 0 rfl) ?_
  refine lv_iload_n hx hb d_M_count_6 rfl (lv_at hl 1 rfl) ?_
  refine lv_iload_n hx hb d_M_count_7 rfl (lv_at hl 2 rfl) ?_
  refine my_ci (wr := [((g 1), Sum.inl (cI, 512, Sum.inl vCounts))]) (va_runV (As := [Value.int (nI jj), Value.int (nI tt)]) (rest := []) ⟨hx, hb, hml, hown, hts⟩ (c_M_isSign l dC dI cI cM cO H.size o g fForm fShift fModels fItems fEnded fLow fRange fCache fPend fGoes fOuts fIns fReads fBad fIR fAsk fBAsk fCode fRL fRR fX fWrites 0 vMany km (nI jj) (nI tt) (hMD.1) (by first | assumption | omega)) (cwV 2 hts (my_gV k1069 k1071 ks25 k12 k1072) rfl rfl rfl (by decide +kernel) ⟨by rw [hR]; exact Nat.le_of_ble_eq_true rfl, by rw [hR]; exact Nat.le_of_ble_eq_true rfl⟩) (my_preV hK hN (hP.sub [0, 1] rfl) (hD.sub [0, 1] (by decide +kernel) rfl) 0 rfl rfl) rfl rfl hl.1 rfl (lv_room (Nat.le_of_ble_eq_true rfl)) d_M_count_8 ⟨by rw [hR]; exact Nat.le_of_ble_eq_true rfl, by rw [hR]; exact Nat.le_of_ble_eq_true rfl⟩) hP hD hS hA [0, 1] [2] rfl rfl (by decide +kernel) (by decide +kernel) (fun r_8 u9 H locs hw_8 hP hD hS => ?_)
  have hw_8 : r_8 = if isN km (nI jj) ∧ (0 ≤ (nI tt) ∧ (nI tt) ≤ vMany (nI jj).toNatClampNeg - 1) then 1 else 0 := hw_8
  have hP : va_P (dC, dI) vwCl [((g 1), Sum.inl (cI, 512, Sum.inl vCounts)), (o, Sum.inr (9, mO g fForm fShift fModels fItems fEnded fLow fRange fCache fPend fGoes fOuts fIns fReads fBad fIR fAsk fBAsk fCode fRL fRR fX fWrites 0)), ((g 0), Sum.inl (cI, 8, Sum.inl vMany))] H := hP
  have hD : va_D A [((g 1), Sum.inl (cI, 512, Sum.inl vCounts)), (o, Sum.inr (9, mO g fForm fShift fModels fItems fEnded fLow fRange fCache fPend fGoes fOuts fIns fReads fBad fIR fAsk fBAsk fCode fRL fRR fX fWrites 0)), ((g 0), Sum.inl (cI, 8, Sum.inl vMany))] := hD
  refine lv_if_ne (tgt := 16) hx hb d_M_count_11 (by decide) (fun c_1 => ?_) (fun c_1 => ?_)
  · refine lv_iload_n hx hb d_M_count_16 rfl (lv_at hl 3 rfl) ?_
    refine lv_iconst (v := 0) hx hb d_M_count_17 (by decide) ?_
    refine lv_sipush (v := 4095) hx hb d_M_count_18 (by decide) ?_
    refine my_ci (wr := [((g 1), Sum.inl (cI, 512, Sum.inl vCounts)), (o, Sum.inr (9, mO g fForm fShift fModels fItems fEnded fLow fRange fCache fPend fGoes fOuts fIns fReads fBad fIR fAsk fBAsk fCode fRL fRR fX fWrites 0)), ((g 0), Sum.inl (cI, 8, Sum.inl vMany))]) (va_runS (As := [Value.int (nI cc), Value.int 0, Value.int 4095]) (rest := []) ⟨hx, hb, hml, hown, hts⟩ (c_M_in l dC dI cI cM cO H.size (nI cc) 0 4095) (cwS 3 hts (my_gS k1062 k1063 k12 k1064) rfl rfl rfl (by decide +kernel) ⟨by rw [hR]; exact Nat.le_of_ble_eq_true rfl, by rw [hR]; exact Nat.le_of_ble_eq_true rfl⟩) (my_pre hK hN (hP.sub [] rfl) (hD.sub [] (by decide +kernel) rfl)) rfl rfl hl.1 rfl (lv_room (Nat.le_of_ble_eq_true rfl)) d_M_count_21 ⟨by rw [hR]; exact Nat.le_of_ble_eq_true rfl, by rw [hR]; exact Nat.le_of_ble_eq_true rfl⟩) hP hD hS hA [] [0, 1, 2] rfl rfl (by decide +kernel) (by decide +kernel) (fun r_21 u9 H locs hw_21 hP hD hS => ?_)
    have hw_21 : r_21 = if 0 ≤ (nI cc) ∧ (nI cc) ≤ 4095 then 1 else 0 := hw_21
    have hP : va_P (dC, dI) vwCl [((g 1), Sum.inl (cI, 512, Sum.inl vCounts)), (o, Sum.inr (9, mO g fForm fShift fModels fItems fEnded fLow fRange fCache fPend fGoes fOuts fIns fReads fBad fIR fAsk fBAsk fCode fRL fRR fX fWrites 0)), ((g 0), Sum.inl (cI, 8, Sum.inl vMany))] H := hP
    have hD : va_D A [((g 1), Sum.inl (cI, 512, Sum.inl vCounts)), (o, Sum.inr (9, mO g fForm fShift fModels fItems fEnded fLow fRange fCache fPend fGoes fOuts fIns fReads fBad fIR fAsk fBAsk fCode fRL fRR fX fWrites 0)), ((g 0), Sum.inl (cI, 8, Sum.inl vMany))] := hD
    refine lv_if_ne (tgt := 30) hx hb d_M_count_24 (by decide) (fun c_2 => ?_) (fun c_2 => ?_)
    · refine lv_aload_n hx hb d_M_count_30 rfl (lv_at hl 0 rfl) ?_
      refine va_get (D := (dC, dI)) (ci := 9) (v := .int fItems) (C := "RangeCodersModel") (T := T_M) (N := 35) hx hb hg in_M hown hK hP 1 rfl rfl 7 (by decide) (hg _ k959) (fun _ h9 => h9) rfl d_M_count_31 ?_
      refine lv_if_le (tgt := 44) hx hb d_M_count_34 (by decide) (fun c_3 => ?_) (fun c_3 => ?_)
      · refine lv_aload_n hx hb d_M_count_44 rfl (lv_at hl 0 rfl) ?_
        refine va_get (D := (dC, dI)) (ci := 9) (v := .int fReads) (C := "RangeCodersModel") (T := T_M) (N := 35) hx hb hg in_M hown hK hP 1 rfl rfl 21 (by decide) (hg _ k973) (fun _ h9 => h9) rfl d_M_count_45 ?_
        refine lv_if_eq (tgt := 54) hx hb d_M_count_48 (by decide) (fun c_4 => ?_) (fun c_4 => ?_)
        · refine lv_aload_n hx hb d_M_count_54 rfl (lv_at hl 0 rfl) ?_
          refine va_get (D := (dC, dI)) (ci := 9) (v := .ref (g 1)) (C := "RangeCodersModel") (T := T_M) (N := 35) hx hb hg in_M hown hK hP 1 rfl rfl 4 (by decide) (hg _ k956) (fun _ h9 => h9) rfl d_M_count_55 ?_
          refine lv_bipush (v := 64) hx hb d_M_count_58 (by decide) ?_
          refine lv_iload_n hx hb d_M_count_60 rfl (lv_at hl 1 rfl) ?_
          refine lv_imul hx hb d_M_count_61 ?_
          refine lv_topi (fun v_5 ev_5 => ?_)
          refine lv_iload_n hx hb d_M_count_62 rfl (lv_at hl 2 rfl) ?_
          refine lv_iadd hx hb d_M_count_63 ?_
          refine lv_topi (fun v_6 ev_6 => ?_)
          have hix0 : v_6 = nI (64 * jj + tt) := by rw [ev_6, ev_5]; exact ix64
          refine va_iald hx hb hK hP 0 0 rfl rfl (by rw [hix0]; exact vp_in_nI (by omega) (by decide)) d_M_count_64 ?_
          refine lv_topi (fun v_7 ev_7 => ?_)
          refine lv_istore (lv' := [(4, Value.int v_7), (0, Value.ref o), (1, Value.int (nI jj)), (2, Value.int (nI tt)), (3, Value.int (nI cc))]) hx hb d_M_count_65 hl (by decide) rfl (fun ls hl => ?_)
          refine lv_aload_n hx hb d_M_count_67 rfl (lv_at hl 1 rfl) ?_
          refine va_get (D := (dC, dI)) (ci := 9) (v := .ref (g 1)) (C := "RangeCodersModel") (T := T_M) (N := 35) hx hb hg in_M hown hK hP 1 rfl rfl 4 (by decide) (hg _ k956) (fun _ h9 => h9) rfl d_M_count_68 ?_
          refine lv_bipush (v := 64) hx hb d_M_count_71 (by decide) ?_
          refine lv_iload_n hx hb d_M_count_73 rfl (lv_at hl 2 rfl) ?_
          refine lv_imul hx hb d_M_count_74 ?_
          refine lv_topi (fun v_8 ev_8 => ?_)
          refine lv_iload_n hx hb d_M_count_75 rfl (lv_at hl 3 rfl) ?_
          refine lv_iadd hx hb d_M_count_76 ?_
          refine lv_topi (fun v_9 ev_9 => ?_)
          have hix : v_9 = nI (64 * jj + tt) := by rw [ev_9, ev_8]; exact ix64
          refine lv_iload_n hx hb d_M_count_77 rfl (lv_at hl 4 rfl) ?_
          refine va_iast hx hb hK hP hD hS 0 0 rfl rfl (by rw [hix]; exact vp_in_nI (by omega) (by decide)) d_M_count_78 (fun H locs hP hD hS => ?_)
          have hP : va_P (dC, dI) vwCl [((g 1), Sum.inl (cI, 512, Sum.inl (upd vCounts v_9.toNatClampNeg (nI cc)))), (o, Sum.inr (9, mO g fForm fShift fModels fItems fEnded fLow fRange fCache fPend fGoes fOuts fIns fReads fBad fIR fAsk fBAsk fCode fRL fRR fX fWrites 0)), ((g 0), Sum.inl (cI, 8, Sum.inl vMany))] H := hP
          have hD : va_D A [((g 1), Sum.inl (cI, 512, Sum.inl (upd vCounts v_9.toNatClampNeg (nI cc)))), (o, Sum.inr (9, mO g fForm fShift fModels fItems fEnded fLow fRange fCache fPend fGoes fOuts fIns fReads fBad fIR fAsk fBAsk fCode fRL fRR fX fWrites 0)), ((g 0), Sum.inl (cI, 8, Sum.inl vMany))] := hD
          refine lv_aload_n hx hb d_M_count_79 rfl (lv_at hl 1 rfl) ?_
          refine va_get (D := (dC, dI)) (ci := 9) (v := .int fEnded) (C := "RangeCodersModel") (T := T_M) (N := 35) hx hb hg in_M hown hK hP 1 rfl rfl 10 (by decide) (hg _ k962) (fun _ h9 => h9) rfl d_M_count_80 ?_
          refine lv_if_ne (tgt := 95) hx hb d_M_count_83 (by decide) (fun c_10 => ?_) (fun c_10 => ?_)
          · refine lv_iload hx hb d_M_count_95 (lv_at hl 0 rfl) ?_
            exact my_iret (v := v_7) hx hb hr (rfl) hlocks hQ hK hS (Nat.le_refl _) (Nat.le_refl _) (upd vCounts v_9.toNatClampNeg (nI cc)) (⟨by rw [ev_7, hix0, nI_clamp (by omega)], by rw [hix, nI_clamp (by omega)]⟩) (hP.sub [1, 2, 0] rfl) (hD.sub [1, 2, 0] (by decide +kernel) rfl) d_M_count_97
          · exact absurd c_10 hen
        · exact absurd hrd c_4
      · refine lv_aload_n hx hb d_M_count_37 rfl (lv_at hl 0 rfl) ?_
        refine va_get (D := (dC, dI)) (ci := 9) (v := .int fEnded) (C := "RangeCodersModel") (T := T_M) (N := 35) hx hb hg in_M hown hK hP 1 rfl rfl 10 (by decide) (hg _ k962) (fun _ h9 => h9) rfl d_M_count_38 ?_
        refine lv_if_eq (tgt := 51) hx hb d_M_count_41 (by decide) (fun c_11 => ?_) (fun c_11 => ?_)
        · exact absurd c_11 hen
        · refine lv_aload_n hx hb d_M_count_44 rfl (lv_at hl 0 rfl) ?_
          refine va_get (D := (dC, dI)) (ci := 9) (v := .int fReads) (C := "RangeCodersModel") (T := T_M) (N := 35) hx hb hg in_M hown hK hP 1 rfl rfl 21 (by decide) (hg _ k973) (fun _ h9 => h9) rfl d_M_count_45 ?_
          refine lv_if_eq (tgt := 54) hx hb d_M_count_48 (by decide) (fun c_12 => ?_) (fun c_12 => ?_)
          · refine lv_aload_n hx hb d_M_count_54 rfl (lv_at hl 0 rfl) ?_
            refine va_get (D := (dC, dI)) (ci := 9) (v := .ref (g 1)) (C := "RangeCodersModel") (T := T_M) (N := 35) hx hb hg in_M hown hK hP 1 rfl rfl 4 (by decide) (hg _ k956) (fun _ h9 => h9) rfl d_M_count_55 ?_
            refine lv_bipush (v := 64) hx hb d_M_count_58 (by decide) ?_
            refine lv_iload_n hx hb d_M_count_60 rfl (lv_at hl 1 rfl) ?_
            refine lv_imul hx hb d_M_count_61 ?_
            refine lv_topi (fun v_13 ev_13 => ?_)
            refine lv_iload_n hx hb d_M_count_62 rfl (lv_at hl 2 rfl) ?_
            refine lv_iadd hx hb d_M_count_63 ?_
            refine lv_topi (fun v_14 ev_14 => ?_)
            have hix0 : v_14 = nI (64 * jj + tt) := by rw [ev_14, ev_13]; exact ix64
            refine va_iald hx hb hK hP 0 0 rfl rfl (by rw [hix0]; exact vp_in_nI (by omega) (by decide)) d_M_count_64 ?_
            refine lv_topi (fun v_15 ev_15 => ?_)
            refine lv_istore (lv' := [(4, Value.int v_15), (0, Value.ref o), (1, Value.int (nI jj)), (2, Value.int (nI tt)), (3, Value.int (nI cc))]) hx hb d_M_count_65 hl (by decide) rfl (fun ls hl => ?_)
            refine lv_aload_n hx hb d_M_count_67 rfl (lv_at hl 1 rfl) ?_
            refine va_get (D := (dC, dI)) (ci := 9) (v := .ref (g 1)) (C := "RangeCodersModel") (T := T_M) (N := 35) hx hb hg in_M hown hK hP 1 rfl rfl 4 (by decide) (hg _ k956) (fun _ h9 => h9) rfl d_M_count_68 ?_
            refine lv_bipush (v := 64) hx hb d_M_count_71 (by decide) ?_
            refine lv_iload_n hx hb d_M_count_73 rfl (lv_at hl 2 rfl) ?_
            refine lv_imul hx hb d_M_count_74 ?_
            refine lv_topi (fun v_16 ev_16 => ?_)
            refine lv_iload_n hx hb d_M_count_75 rfl (lv_at hl 3 rfl) ?_
            refine lv_iadd hx hb d_M_count_76 ?_
            refine lv_topi (fun v_17 ev_17 => ?_)
            have hix : v_17 = nI (64 * jj + tt) := by rw [ev_17, ev_16]; exact ix64
            refine lv_iload_n hx hb d_M_count_77 rfl (lv_at hl 4 rfl) ?_
            refine va_iast hx hb hK hP hD hS 0 0 rfl rfl (by rw [hix]; exact vp_in_nI (by omega) (by decide)) d_M_count_78 (fun H locs hP hD hS => ?_)
            have hP : va_P (dC, dI) vwCl [((g 1), Sum.inl (cI, 512, Sum.inl (upd vCounts v_17.toNatClampNeg (nI cc)))), (o, Sum.inr (9, mO g fForm fShift fModels fItems fEnded fLow fRange fCache fPend fGoes fOuts fIns fReads fBad fIR fAsk fBAsk fCode fRL fRR fX fWrites 0)), ((g 0), Sum.inl (cI, 8, Sum.inl vMany))] H := hP
            have hD : va_D A [((g 1), Sum.inl (cI, 512, Sum.inl (upd vCounts v_17.toNatClampNeg (nI cc)))), (o, Sum.inr (9, mO g fForm fShift fModels fItems fEnded fLow fRange fCache fPend fGoes fOuts fIns fReads fBad fIR fAsk fBAsk fCode fRL fRR fX fWrites 0)), ((g 0), Sum.inl (cI, 8, Sum.inl vMany))] := hD
            refine lv_aload_n hx hb d_M_count_79 rfl (lv_at hl 1 rfl) ?_
            refine va_get (D := (dC, dI)) (ci := 9) (v := .int fEnded) (C := "RangeCodersModel") (T := T_M) (N := 35) hx hb hg in_M hown hK hP 1 rfl rfl 10 (by decide) (hg _ k962) (fun _ h9 => h9) rfl d_M_count_80 ?_
            refine lv_if_ne (tgt := 95) hx hb d_M_count_83 (by decide) (fun c_18 => ?_) (fun c_18 => ?_)
            · refine lv_iload hx hb d_M_count_95 (lv_at hl 0 rfl) ?_
              exact my_iret (v := v_15) hx hb hr (rfl) hlocks hQ hK hS (Nat.le_refl _) (Nat.le_refl _) (upd vCounts v_17.toNatClampNeg (nI cc)) (⟨by rw [ev_15, hix0, nI_clamp (by omega)], by rw [hix, nI_clamp (by omega)]⟩) (hP.sub [1, 2, 0] rfl) (hD.sub [1, 2, 0] (by decide +kernel) rfl) d_M_count_97
            · exact absurd c_18 hen
          · exact absurd hrd c_12
    · exact absurd ⟨nI_pos' (by omega), nI_le (b := 4095) hcc (by decide)⟩ (one_eq hw_21 c_2)
  · exact absurd (sg_yes hMD hj ht) (one_eq hw_8 c_1)
set_option maxHeartbeats 2000000 in
set_option maxRecDepth 100000 in
theorem m_countL (l : Launch) (dC : Nat → ClassId) (dI : Nat → Nat → Nat) (cI cM cO : ClassId) (sz : Nat) (o : Nat) (g : Nat → Nat) (fForm : Int32) (fShift : Int32) (fModels : Int32) (fItems : Int32) (fLow : Int64) (fRange : Int64) (fCache : Int32) (fPend : Int32) (fGoes : Int32) (fOuts : Int32) (fIns : Int32) (fReads : Int32) (fBad : Int32) (fIR : Int32) (fAsk : Int32) (fBAsk : Int32) (fCode : Int64) (fRL : Int64) (fRR : Int64) (fX : Int64) (fWrites : Int32) (fThrown : Int32) (vMany : Nat → Int32) (vCounts : Nat → Int32) (vNow : Nat → Int32) (km : Nat) (N : Nat → Nat) (jj : Nat) (tt : Nat) (cc : Nat) (fm : Nat) (C : Nat → Nat) (hfm : fm ≤ 4) (hform : fForm = nI fm) (hmod : fModels = nI km) (hMD : MD km N vMany vCounts) (hj : jj < km) (ht : tt < N jj) (hcc : cc ≤ 4095) (hfi : ¬ 0 < fItems) (hrd : fReads = 0) (hC : sgI vCounts (64 * jj) (N jj) C) (hB : bd C (N jj) 4095) : MetI l y_M_count (Cond.code y_M_count prog_14_method_14_code 5 (some .int) :: gw) ({ frames := 3, cells := 0, slots := 0, locals := 75 } : Room) (dC, dI) vwCl (kT cI cM cO) [Value.ref o, Value.int (nI jj), Value.int (nI tt), Value.int (nI cc)] [(o, Sum.inr (9, mO g fForm fShift fModels fItems 0 fLow fRange fCache fPend fGoes fOuts fIns fReads fBad fIR fAsk fBAsk fCode fRL fRR fX fWrites fThrown)), ((g 0), Sum.inl (cI, 8, Sum.inl vMany)), ((g 1), Sum.inl (cI, 512, Sum.inl vCounts)), ((g 2), Sum.inl (cI, 512, Sum.inl vNow))] sz (fun (r : Int32) (u : (Nat → Int32) × (Nat → Int32)) => r = vCounts (64 * jj + tt) ∧ u.1 = upd vCounts (64 * jj + tt) (nI cc) ∧ sgI u.2 (64 * jj) (pfN fm (N jj)) (pf fm (N jj) (upN C tt cc)) ∧ sgO u.2 vNow (64 * jj) 64) (fun (u : (Nat → Int32) × (Nat → Int32)) => [(o, Sum.inr (9, mO g fForm fShift fModels fItems 0 fLow fRange fCache fPend fGoes fOuts fIns fReads fBad fIR fAsk fBAsk fCode fRL fRR fX fWrites 0)), ((g 0), Sum.inl (cI, 8, Sum.inl vMany)), ((g 1), Sum.inl (cI, 512, Sum.inl u.1)), ((g 2), Sum.inl (cI, 512, Sum.inl u.2))]) 0 0 := by
  refine my_ofI (cc := prog_14_method_14_code) (n := 5) (ret := (some .int)) (by decide) rfl (Nat.le_of_ble_eq_true rfl) ?_
  intro p e s m args below meth c R Q A ls H locs hx hb hr hts hown hlocks hml hnm hR hQ hA hl hP hK hN hD hS
  have hg : ∀ w ∈ gw, w.before args s = true := fun w h => hts w (List.mem_cons_of_mem _ h)
  have hown : s.vm.findClass "RangeCodersModel" = some m.cls := hown
  have hl : lv_has ls 5 [(0, Value.ref o), (1, Value.int (nI jj)), (2, Value.int (nI tt)), (3, Value.int (nI cc))] := hl
  have hk8 := hMD.1
  obtain ⟨hn9, hn2, hn64, C9, hc9, hB9⟩ := hMD.2 jj hj
  refine lv_aload_n hx hb d_M_count_0 rfl (lv_at hl 0 rfl) ?_
  refine lv_iconst (v := 0) hx hb d_M_count_1 (by decide) ?_
  refine va_put (D := (dC, dI)) (ci := 9) (v := .int 0) (ty := .int) (C := "RangeCodersModel") (T := T_M) (N := 35) hx hb hg in_M t_M o_M n_M hown hK hP hD hS 0 rfl rfl 34 (by decide) (hg _ k986) (fun _ h9 => h9) rfl (by decide +kernel) rfl rfl (Nat.le_of_ble_eq_true rfl) d_M_count_2 (fun H locs hP hD hS => ?_)
  have hP : va_P (dC, dI) vwCl [(o, Sum.inr (9, mO g fForm fShift fModels fItems 0 fLow fRange fCache fPend fGoes fOuts fIns fReads fBad fIR fAsk fBAsk fCode fRL fRR fX fWrites 0)), ((g 0), Sum.inl (cI, 8, Sum.inl vMany)), ((g 1), Sum.inl (cI, 512, Sum.inl vCounts)), ((g 2), Sum.inl (cI, 512, Sum.inl vNow))] H := hP
  have hD : va_D A [(o, Sum.inr (9, mO g fForm fShift fModels fItems 0 fLow fRange fCache fPend fGoes fOuts fIns fReads fBad fIR fAsk fBAsk fCode fRL fRR fX fWrites 0)), ((g 0), Sum.inl (cI, 8, Sum.inl vMany)), ((g 1), Sum.inl (cI, 512, Sum.inl vCounts)), ((g 2), Sum.inl (cI, 512, Sum.inl vNow))] := hD
  refine lv_aload_n hx hb d_M_count_5 rfl (lv_at hl 0 rfl) ?_
  refine lv_iload_n hx hb d_M_count_6 rfl (lv_at hl 1 rfl) ?_
  refine lv_iload_n hx hb d_M_count_7 rfl (lv_at hl 2 rfl) ?_
  refine my_ci (wr := [((g 1), Sum.inl (cI, 512, Sum.inl vCounts)), ((g 2), Sum.inl (cI, 512, Sum.inl vNow))]) (va_runV (As := [Value.int (nI jj), Value.int (nI tt)]) (rest := []) ⟨hx, hb, hml, hown, hts⟩ (c_M_isSign l dC dI cI cM cO H.size o g fForm fShift fModels fItems 0 fLow fRange fCache fPend fGoes fOuts fIns fReads fBad fIR fAsk fBAsk fCode fRL fRR fX fWrites 0 vMany km (nI jj) (nI tt) (hMD.1) (by first | assumption | omega)) (cwV 2 hts (my_gV k1069 k1071 ks25 k12 k1072) rfl rfl rfl (by decide +kernel) ⟨by rw [hR]; exact Nat.le_of_ble_eq_true rfl, by rw [hR]; exact Nat.le_of_ble_eq_true rfl⟩) (my_preV hK hN (hP.sub [0, 1] rfl) (hD.sub [0, 1] (by decide +kernel) rfl) 0 rfl rfl) rfl rfl hl.1 rfl (lv_room (Nat.le_of_ble_eq_true rfl)) d_M_count_8 ⟨by rw [hR]; exact Nat.le_of_ble_eq_true rfl, by rw [hR]; exact Nat.le_of_ble_eq_true rfl⟩) hP hD hS hA [0, 1] [2, 3] rfl rfl (by decide +kernel) (by decide +kernel) (fun r_8 u9 H locs hw_8 hP hD hS => ?_)
  have hw_8 : r_8 = if isN km (nI jj) ∧ (0 ≤ (nI tt) ∧ (nI tt) ≤ vMany (nI jj).toNatClampNeg - 1) then 1 else 0 := hw_8
  have hP : va_P (dC, dI) vwCl [((g 1), Sum.inl (cI, 512, Sum.inl vCounts)), ((g 2), Sum.inl (cI, 512, Sum.inl vNow)), (o, Sum.inr (9, mO g fForm fShift fModels fItems 0 fLow fRange fCache fPend fGoes fOuts fIns fReads fBad fIR fAsk fBAsk fCode fRL fRR fX fWrites 0)), ((g 0), Sum.inl (cI, 8, Sum.inl vMany))] H := hP
  have hD : va_D A [((g 1), Sum.inl (cI, 512, Sum.inl vCounts)), ((g 2), Sum.inl (cI, 512, Sum.inl vNow)), (o, Sum.inr (9, mO g fForm fShift fModels fItems 0 fLow fRange fCache fPend fGoes fOuts fIns fReads fBad fIR fAsk fBAsk fCode fRL fRR fX fWrites 0)), ((g 0), Sum.inl (cI, 8, Sum.inl vMany))] := hD
  refine lv_if_ne (tgt := 16) hx hb d_M_count_11 (by decide) (fun c_1 => ?_) (fun c_1 => ?_)
  · refine lv_iload_n hx hb d_M_count_16 rfl (lv_at hl 3 rfl) ?_
    refine lv_iconst (v := 0) hx hb d_M_count_17 (by decide) ?_
    refine lv_sipush (v := 4095) hx hb d_M_count_18 (by decide) ?_
    refine my_ci (wr := [((g 1), Sum.inl (cI, 512, Sum.inl vCounts)), ((g 2), Sum.inl (cI, 512, Sum.inl vNow)), (o, Sum.inr (9, mO g fForm fShift fModels fItems 0 fLow fRange fCache fPend fGoes fOuts fIns fReads fBad fIR fAsk fBAsk fCode fRL fRR fX fWrites 0)), ((g 0), Sum.inl (cI, 8, Sum.inl vMany))]) (va_runS (As := [Value.int (nI cc), Value.int 0, Value.int 4095]) (rest := []) ⟨hx, hb, hml, hown, hts⟩ (c_M_in l dC dI cI cM cO H.size (nI cc) 0 4095) (cwS 3 hts (my_gS k1062 k1063 k12 k1064) rfl rfl rfl (by decide +kernel) ⟨by rw [hR]; exact Nat.le_of_ble_eq_true rfl, by rw [hR]; exact Nat.le_of_ble_eq_true rfl⟩) (my_pre hK hN (hP.sub [] rfl) (hD.sub [] (by decide +kernel) rfl)) rfl rfl hl.1 rfl (lv_room (Nat.le_of_ble_eq_true rfl)) d_M_count_21 ⟨by rw [hR]; exact Nat.le_of_ble_eq_true rfl, by rw [hR]; exact Nat.le_of_ble_eq_true rfl⟩) hP hD hS hA [] [0, 1, 2, 3] rfl rfl (by decide +kernel) (by decide +kernel) (fun r_21 u9 H locs hw_21 hP hD hS => ?_)
    have hw_21 : r_21 = if 0 ≤ (nI cc) ∧ (nI cc) ≤ 4095 then 1 else 0 := hw_21
    have hP : va_P (dC, dI) vwCl [((g 1), Sum.inl (cI, 512, Sum.inl vCounts)), ((g 2), Sum.inl (cI, 512, Sum.inl vNow)), (o, Sum.inr (9, mO g fForm fShift fModels fItems 0 fLow fRange fCache fPend fGoes fOuts fIns fReads fBad fIR fAsk fBAsk fCode fRL fRR fX fWrites 0)), ((g 0), Sum.inl (cI, 8, Sum.inl vMany))] H := hP
    have hD : va_D A [((g 1), Sum.inl (cI, 512, Sum.inl vCounts)), ((g 2), Sum.inl (cI, 512, Sum.inl vNow)), (o, Sum.inr (9, mO g fForm fShift fModels fItems 0 fLow fRange fCache fPend fGoes fOuts fIns fReads fBad fIR fAsk fBAsk fCode fRL fRR fX fWrites 0)), ((g 0), Sum.inl (cI, 8, Sum.inl vMany))] := hD
    refine lv_if_ne (tgt := 30) hx hb d_M_count_24 (by decide) (fun c_2 => ?_) (fun c_2 => ?_)
    · refine lv_aload_n hx hb d_M_count_30 rfl (lv_at hl 0 rfl) ?_
      refine va_get (D := (dC, dI)) (ci := 9) (v := .int fItems) (C := "RangeCodersModel") (T := T_M) (N := 35) hx hb hg in_M hown hK hP 2 rfl rfl 7 (by decide) (hg _ k959) (fun _ h9 => h9) rfl d_M_count_31 ?_
      refine lv_if_le (tgt := 44) hx hb d_M_count_34 (by decide) (fun c_3 => ?_) (fun c_3 => ?_)
      · refine lv_aload_n hx hb d_M_count_44 rfl (lv_at hl 0 rfl) ?_
        refine va_get (D := (dC, dI)) (ci := 9) (v := .int fReads) (C := "RangeCodersModel") (T := T_M) (N := 35) hx hb hg in_M hown hK hP 2 rfl rfl 21 (by decide) (hg _ k973) (fun _ h9 => h9) rfl d_M_count_45 ?_
        refine lv_if_eq (tgt := 54) hx hb d_M_count_48 (by decide) (fun c_4 => ?_) (fun c_4 => ?_)
        · refine lv_aload_n hx hb d_M_count_54 rfl (lv_at hl 0 rfl) ?_
          refine va_get (D := (dC, dI)) (ci := 9) (v := .ref (g 1)) (C := "RangeCodersModel") (T := T_M) (N := 35) hx hb hg in_M hown hK hP 2 rfl rfl 4 (by decide) (hg _ k956) (fun _ h9 => h9) rfl d_M_count_55 ?_
          refine lv_bipush (v := 64) hx hb d_M_count_58 (by decide) ?_
          refine lv_iload_n hx hb d_M_count_60 rfl (lv_at hl 1 rfl) ?_
          refine lv_imul hx hb d_M_count_61 ?_
          refine lv_topi (fun v_5 ev_5 => ?_)
          refine lv_iload_n hx hb d_M_count_62 rfl (lv_at hl 2 rfl) ?_
          refine lv_iadd hx hb d_M_count_63 ?_
          refine lv_topi (fun v_6 ev_6 => ?_)
          have hix0 : v_6 = nI (64 * jj + tt) := by rw [ev_6, ev_5]; exact ix64
          refine va_iald hx hb hK hP 0 0 rfl rfl (by rw [hix0]; exact vp_in_nI (by omega) (by decide)) d_M_count_64 ?_
          refine lv_topi (fun v_7 ev_7 => ?_)
          refine lv_istore (lv' := [(4, Value.int v_7), (0, Value.ref o), (1, Value.int (nI jj)), (2, Value.int (nI tt)), (3, Value.int (nI cc))]) hx hb d_M_count_65 hl (by decide) rfl (fun ls hl => ?_)
          refine lv_aload_n hx hb d_M_count_67 rfl (lv_at hl 1 rfl) ?_
          refine va_get (D := (dC, dI)) (ci := 9) (v := .ref (g 1)) (C := "RangeCodersModel") (T := T_M) (N := 35) hx hb hg in_M hown hK hP 2 rfl rfl 4 (by decide) (hg _ k956) (fun _ h9 => h9) rfl d_M_count_68 ?_
          refine lv_bipush (v := 64) hx hb d_M_count_71 (by decide) ?_
          refine lv_iload_n hx hb d_M_count_73 rfl (lv_at hl 2 rfl) ?_
          refine lv_imul hx hb d_M_count_74 ?_
          refine lv_topi (fun v_8 ev_8 => ?_)
          refine lv_iload_n hx hb d_M_count_75 rfl (lv_at hl 3 rfl) ?_
          refine lv_iadd hx hb d_M_count_76 ?_
          refine lv_topi (fun v_9 ev_9 => ?_)
          have hix : v_9 = nI (64 * jj + tt) := by rw [ev_9, ev_8]; exact ix64
          refine lv_iload_n hx hb d_M_count_77 rfl (lv_at hl 4 rfl) ?_
          refine va_iast hx hb hK hP hD hS 0 0 rfl rfl (by rw [hix]; exact vp_in_nI (by omega) (by decide)) d_M_count_78 (fun H locs hP hD hS => ?_)
          have hP : va_P (dC, dI) vwCl [((g 1), Sum.inl (cI, 512, Sum.inl (upd vCounts v_9.toNatClampNeg (nI cc)))), ((g 2), Sum.inl (cI, 512, Sum.inl vNow)), (o, Sum.inr (9, mO g fForm fShift fModels fItems 0 fLow fRange fCache fPend fGoes fOuts fIns fReads fBad fIR fAsk fBAsk fCode fRL fRR fX fWrites 0)), ((g 0), Sum.inl (cI, 8, Sum.inl vMany))] H := hP
          have hD : va_D A [((g 1), Sum.inl (cI, 512, Sum.inl (upd vCounts v_9.toNatClampNeg (nI cc)))), ((g 2), Sum.inl (cI, 512, Sum.inl vNow)), (o, Sum.inr (9, mO g fForm fShift fModels fItems 0 fLow fRange fCache fPend fGoes fOuts fIns fReads fBad fIR fAsk fBAsk fCode fRL fRR fX fWrites 0)), ((g 0), Sum.inl (cI, 8, Sum.inl vMany))] := hD
          have hc8 : sgI (upd vCounts v_9.toNatClampNeg (nI cc)) (64 * jj) (N jj) (upN C tt cc) := (sg_up hC ht (by rw [hix]; exact nI_clamp (by omega)) rfl).1
          have hB8 : bd (upN C tt cc) (N jj) 4095 := bd_up hB hcc
          refine lv_aload_n hx hb d_M_count_79 rfl (lv_at hl 1 rfl) ?_
          refine va_get (D := (dC, dI)) (ci := 9) (v := .int 0) (C := "RangeCodersModel") (T := T_M) (N := 35) hx hb hg in_M hown hK hP 2 rfl rfl 10 (by decide) (hg _ k962) (fun _ h9 => h9) rfl d_M_count_80 ?_
          refine lv_if_ne (tgt := 95) hx hb d_M_count_83 (by decide) (fun c_10 => ?_) (fun c_10 => ?_)
          · exact absurd rfl c_10
          · refine lv_aload_n hx hb d_M_count_86 rfl (lv_at hl 1 rfl) ?_
            refine lv_aload_n hx hb d_M_count_87 rfl (lv_at hl 1 rfl) ?_
            refine va_get (D := (dC, dI)) (ci := 9) (v := .ref (g 2)) (C := "RangeCodersModel") (T := T_M) (N := 35) hx hb hg in_M hown hK hP 2 rfl rfl 5 (by decide) (hg _ k957) (fun _ h9 => h9) rfl d_M_count_88 ?_
            refine lv_iload_n hx hb d_M_count_91 rfl (lv_at hl 2 rfl) ?_
            refine my_cv (wr := []) (va_runV (As := [Value.ref (g 2), Value.int (nI jj)]) (rest := []) ⟨hx, hb, hml, hown, hts⟩ (c_M_prepare l dC dI cI cM cO H.size o g fForm fShift fModels fItems 0 fLow fRange fCache fPend fGoes fOuts fIns fReads fBad fIR fAsk fBAsk fCode fRL fRR fX fWrites 0 vMany (upd vCounts v_9.toNatClampNeg (nI cc)) (g 2) vNow jj (N jj) fm (upN C tt cc) (by omega) (hn9) (hn64) (by omega) (hfm) (hform) (hc8) (hB8)) (cwV 2 hts (my_gV k928 k930 ks19 k12 k931) rfl rfl rfl (by decide +kernel) ⟨by rw [hR]; exact Nat.le_of_ble_eq_true rfl, by rw [hR]; exact Nat.le_of_ble_eq_true rfl⟩) (my_preV hK hN (hP.sub [2, 3, 0, 1] rfl) (hD.sub [2, 3, 0, 1] (by decide +kernel) rfl) 0 rfl rfl) rfl rfl hl.1 rfl (lv_room (Nat.le_of_ble_eq_true rfl)) d_M_count_92 ⟨by rw [hR]; exact Nat.le_of_ble_eq_true rfl, by rw [hR]; exact Nat.le_of_ble_eq_true rfl⟩) hP hD hS hA [2, 3, 0, 1] [] rfl rfl (by decide +kernel) (by decide +kernel) (fun u9 H locs hw_92 hP hD hS => ?_)
            obtain ⟨f2_92, rfl⟩ : ∃ z, z = u9 := ⟨_, rfl⟩
            have hw_92 : sgI f2_92 (64 * jj) (pfN fm (N jj)) (pf fm (N jj) (upN C tt cc)) ∧ sgO f2_92 vNow (64 * jj) 64 := hw_92
            have hP : va_P (dC, dI) vwCl [(o, Sum.inr (9, mO g fForm fShift fModels fItems 0 fLow fRange fCache fPend fGoes fOuts fIns fReads fBad fIR fAsk fBAsk fCode fRL fRR fX fWrites 0)), ((g 0), Sum.inl (cI, 8, Sum.inl vMany)), ((g 1), Sum.inl (cI, 512, Sum.inl (upd vCounts v_9.toNatClampNeg (nI cc)))), ((g 2), Sum.inl (cI, 512, Sum.inl f2_92))] H := hP
            have hD : va_D A [(o, Sum.inr (9, mO g fForm fShift fModels fItems 0 fLow fRange fCache fPend fGoes fOuts fIns fReads fBad fIR fAsk fBAsk fCode fRL fRR fX fWrites 0)), ((g 0), Sum.inl (cI, 8, Sum.inl vMany)), ((g 1), Sum.inl (cI, 512, Sum.inl (upd vCounts v_9.toNatClampNeg (nI cc)))), ((g 2), Sum.inl (cI, 512, Sum.inl f2_92))] := hD
            refine lv_iload hx hb d_M_count_95 (lv_at hl 0 rfl) ?_
            exact my_iret (v := v_7) hx hb hr (rfl) hlocks hQ hK hS (Nat.le_refl _) (Nat.le_refl _) ((upd vCounts v_9.toNatClampNeg (nI cc)), f2_92) (⟨by rw [ev_7, hix0, nI_clamp (by omega)], by rw [hix, nI_clamp (by omega)], hw_92.1, hw_92.2⟩) (hP.sub [0, 1, 2, 3] rfl) (hD.sub [0, 1, 2, 3] (by decide +kernel) rfl) d_M_count_97
        · exact absurd hrd c_4
      · exact absurd (Int32.not_le.mp c_3) hfi
    · exact absurd ⟨nI_pos' (by omega), nI_le (b := 4095) hcc (by decide)⟩ (one_eq hw_21 c_2)
  · exact absurd (sg_yes hMD hj ht) (one_eq hw_8 c_1)
set_option maxHeartbeats 2000000 in
set_option maxRecDepth 100000 in
theorem m_putE (l : Launch) (dC : Nat → ClassId) (dI : Nat → Nat → Nat) (cI cM cO : ClassId) (sz : Nat) (o : Nat) (g : Nat → Nat) (fForm : Int32) (fShift : Int32) (fModels : Int32) (fItems : Int32) (fEnded : Int32) (fLow : Int64) (fRange : Int64) (fCache : Int32) (fPend : Int32) (fGoes : Int32) (fOuts : Int32) (fIns : Int32) (fReads : Int32) (fBad : Int32) (fIR : Int32) (fAsk : Int32) (fBAsk : Int32) (fCode : Int64) (fRL : Int64) (fRR : Int64) (fX : Int64) (fWrites : Int32) (fThrown : Int32) (vMany : Nat → Int32) (vCounts : Nat → Int32) (km : Nat) (N : Nat → Nat) (jj : Nat) (tt : Nat) (hmod : fModels = nI km) (hMD : MD km N vMany vCounts) (hj : jj < km) (ht : tt < N jj) (hen : ¬ fEnded = 0) : MetI l y_M_put (Cond.code y_M_put prog_14_method_29_code 3 (some .int) :: gw) ({ frames := 3, cells := 0, slots := 0, locals := 65 } : Room) (dC, dI) vwCl (kT cI cM cO) [Value.ref o, Value.int (nI jj), Value.int (nI tt)] [(o, Sum.inr (9, mO g fForm fShift fModels fItems fEnded fLow fRange fCache fPend fGoes fOuts fIns fReads fBad fIR fAsk fBAsk fCode fRL fRR fX fWrites fThrown)), ((g 0), Sum.inl (cI, 8, Sum.inl vMany)), ((g 1), Sum.inl (cI, 512, Sum.inl vCounts))] sz (fun (r : Int32) (u : Unit) => r = -3) (fun (u : Unit) => [(o, Sum.inr (9, mO g fForm fShift fModels fItems fEnded fLow fRange fCache fPend fGoes fOuts fIns fReads fBad fIR fAsk fBAsk fCode fRL fRR fX fWrites 0)), ((g 0), Sum.inl (cI, 8, Sum.inl vMany)), ((g 1), Sum.inl (cI, 512, Sum.inl vCounts))]) 0 0 := by
  refine my_ofI (cc := prog_14_method_29_code) (n := 3) (ret := (some .int)) (by decide) rfl (Nat.le_of_ble_eq_true rfl) ?_
  intro p e s m args below meth c R Q A ls H locs hx hb hr hts hown hlocks hml hnm hR hQ hA hl hP hK hN hD hS
  have hg : ∀ w ∈ gw, w.before args s = true := fun w h => hts w (List.mem_cons_of_mem _ h)
  have hown : s.vm.findClass "RangeCodersModel" = some m.cls := hown
  have hl : lv_has ls 3 [(0, Value.ref o), (1, Value.int (nI jj)), (2, Value.int (nI tt))] := hl
  refine lv_aload_n hx hb d_M_put_0 rfl (lv_at hl 0 rfl) ?_
  refine lv_iconst (v := 0) hx hb d_M_put_1 (by decide) ?_
  refine va_put (D := (dC, dI)) (ci := 9) (v := .int 0) (ty := .int) (C := "RangeCodersModel") (T := T_M) (N := 35) hx hb hg in_M t_M o_M n_M hown hK hP hD hS 0 rfl rfl 34 (by decide) (hg _ k986) (fun _ h9 => h9) rfl (by decide +kernel) rfl rfl (Nat.le_of_ble_eq_true rfl) d_M_put_2 (fun H locs hP hD hS => ?_)
  have hP : va_P (dC, dI) vwCl [(o, Sum.inr (9, mO g fForm fShift fModels fItems fEnded fLow fRange fCache fPend fGoes fOuts fIns fReads fBad fIR fAsk fBAsk fCode fRL fRR fX fWrites 0)), ((g 0), Sum.inl (cI, 8, Sum.inl vMany)), ((g 1), Sum.inl (cI, 512, Sum.inl vCounts))] H := hP
  have hD : va_D A [(o, Sum.inr (9, mO g fForm fShift fModels fItems fEnded fLow fRange fCache fPend fGoes fOuts fIns fReads fBad fIR fAsk fBAsk fCode fRL fRR fX fWrites 0)), ((g 0), Sum.inl (cI, 8, Sum.inl vMany)), ((g 1), Sum.inl (cI, 512, Sum.inl vCounts))] := hD
  refine lv_aload_n hx hb d_M_put_5 rfl (lv_at hl 0 rfl) ?_
  refine lv_iload_n hx hb d_M_put_6 rfl (lv_at hl 1 rfl) ?_
  refine lv_iload_n hx hb d_M_put_7 rfl (lv_at hl 2 rfl) ?_
  refine my_ci (wr := [((g 1), Sum.inl (cI, 512, Sum.inl vCounts))]) (va_runV (As := [Value.int (nI jj), Value.int (nI tt)]) (rest := []) ⟨hx, hb, hml, hown, hts⟩ (c_M_isSign l dC dI cI cM cO H.size o g fForm fShift fModels fItems fEnded fLow fRange fCache fPend fGoes fOuts fIns fReads fBad fIR fAsk fBAsk fCode fRL fRR fX fWrites 0 vMany km (nI jj) (nI tt) (hMD.1) (by first | assumption | omega)) (cwV 2 hts (my_gV k1069 k1071 ks25 k12 k1072) rfl rfl rfl (by decide +kernel) ⟨by rw [hR]; exact Nat.le_of_ble_eq_true rfl, by rw [hR]; exact Nat.le_of_ble_eq_true rfl⟩) (my_preV hK hN (hP.sub [0, 1] rfl) (hD.sub [0, 1] (by decide +kernel) rfl) 0 rfl rfl) rfl rfl hl.1 rfl (lv_room (Nat.le_of_ble_eq_true rfl)) d_M_put_8 ⟨by rw [hR]; exact Nat.le_of_ble_eq_true rfl, by rw [hR]; exact Nat.le_of_ble_eq_true rfl⟩) hP hD hS hA [0, 1] [2] rfl rfl (by decide +kernel) (by decide +kernel) (fun r_8 u9 H locs hw_8 hP hD hS => ?_)
  have hw_8 : r_8 = if isN km (nI jj) ∧ (0 ≤ (nI tt) ∧ (nI tt) ≤ vMany (nI jj).toNatClampNeg - 1) then 1 else 0 := hw_8
  have hP : va_P (dC, dI) vwCl [((g 1), Sum.inl (cI, 512, Sum.inl vCounts)), (o, Sum.inr (9, mO g fForm fShift fModels fItems fEnded fLow fRange fCache fPend fGoes fOuts fIns fReads fBad fIR fAsk fBAsk fCode fRL fRR fX fWrites 0)), ((g 0), Sum.inl (cI, 8, Sum.inl vMany))] H := hP
  have hD : va_D A [((g 1), Sum.inl (cI, 512, Sum.inl vCounts)), (o, Sum.inr (9, mO g fForm fShift fModels fItems fEnded fLow fRange fCache fPend fGoes fOuts fIns fReads fBad fIR fAsk fBAsk fCode fRL fRR fX fWrites 0)), ((g 0), Sum.inl (cI, 8, Sum.inl vMany))] := hD
  refine lv_if_ne (tgt := 16) hx hb d_M_put_11 (by decide) (fun c_1 => ?_) (fun c_1 => ?_)
  · refine lv_aload_n hx hb d_M_put_16 rfl (lv_at hl 0 rfl) ?_
    refine va_get (D := (dC, dI)) (ci := 9) (v := .int fEnded) (C := "RangeCodersModel") (T := T_M) (N := 35) hx hb hg in_M hown hK hP 1 rfl rfl 10 (by decide) (hg _ k962) (fun _ h9 => h9) rfl d_M_put_17 ?_
    refine lv_if_ne (tgt := 45) hx hb d_M_put_20 (by decide) (fun c_2 => ?_) (fun c_2 => ?_)
    · refine lv_bipush (v := (-3)) hx hb d_M_put_45 (by decide) ?_
      exact my_iret (v := (-3)) hx hb hr (rfl) hlocks hQ hK hS (Nat.le_refl _) (Nat.le_refl _) () (rfl) (hP.sub [1, 2, 0] rfl) (hD.sub [1, 2, 0] (by decide +kernel) rfl) d_M_put_47
    · exact absurd c_2 hen
  · exact absurd (sg_yes hMD hj ht) (one_eq hw_8 c_1)
set_option maxHeartbeats 2000000 in
set_option maxRecDepth 100000 in
theorem m_putZ (l : Launch) (dC : Nat → ClassId) (dI : Nat → Nat → Nat) (cI cM cO : ClassId) (sz : Nat) (o : Nat) (g : Nat → Nat) (fForm : Int32) (fShift : Int32) (fModels : Int32) (fItems : Int32) (fLow : Int64) (fRange : Int64) (fCache : Int32) (fPend : Int32) (fGoes : Int32) (fOuts : Int32) (fIns : Int32) (fReads : Int32) (fBad : Int32) (fIR : Int32) (fAsk : Int32) (fBAsk : Int32) (fCode : Int64) (fRL : Int64) (fRR : Int64) (fX : Int64) (fWrites : Int32) (fThrown : Int32) (vMany : Nat → Int32) (vCounts : Nat → Int32) (vNow : Nat → Int32) (km : Nat) (N : Nat → Nat) (jj : Nat) (tt : Nat) (F : Nat → Nat) (hmod : fModels = nI km) (hMD : MD km N vMany vCounts) (hj : jj < km) (ht : tt < N jj) (hF : sgI vNow (64 * jj) (N jj) F) (hFb : F tt < 2 ^ 31) (hf2 : ¬ fForm = 2) (hz : F tt = 0) : MetI l y_M_put (Cond.code y_M_put prog_14_method_29_code 3 (some .int) :: gw) ({ frames := 3, cells := 0, slots := 0, locals := 65 } : Room) (dC, dI) vwCl (kT cI cM cO) [Value.ref o, Value.int (nI jj), Value.int (nI tt)] [(o, Sum.inr (9, mO g fForm fShift fModels fItems 0 fLow fRange fCache fPend fGoes fOuts fIns fReads fBad fIR fAsk fBAsk fCode fRL fRR fX fWrites fThrown)), ((g 0), Sum.inl (cI, 8, Sum.inl vMany)), ((g 1), Sum.inl (cI, 512, Sum.inl vCounts)), ((g 2), Sum.inl (cI, 512, Sum.inl vNow))] sz (fun (r : Int32) (u : Unit) => r = -3) (fun (u : Unit) => [(o, Sum.inr (9, mO g fForm fShift fModels fItems 0 fLow fRange fCache fPend fGoes fOuts fIns fReads fBad fIR fAsk fBAsk fCode fRL fRR fX fWrites 0)), ((g 0), Sum.inl (cI, 8, Sum.inl vMany)), ((g 1), Sum.inl (cI, 512, Sum.inl vCounts)), ((g 2), Sum.inl (cI, 512, Sum.inl vNow))]) 0 0 := by
  refine my_ofI (cc := prog_14_method_29_code) (n := 3) (ret := (some .int)) (by decide) rfl (Nat.le_of_ble_eq_true rfl) ?_
  intro p e s m args below meth c R Q A ls H locs hx hb hr hts hown hlocks hml hnm hR hQ hA hl hP hK hN hD hS
  have hg : ∀ w ∈ gw, w.before args s = true := fun w h => hts w (List.mem_cons_of_mem _ h)
  have hown : s.vm.findClass "RangeCodersModel" = some m.cls := hown
  have hl : lv_has ls 3 [(0, Value.ref o), (1, Value.int (nI jj)), (2, Value.int (nI tt))] := hl
  have hk8 := hMD.1
  obtain ⟨hn9, hn2, hn64, C9, hc9, hB9⟩ := hMD.2 jj hj
  refine lv_aload_n hx hb d_M_put_0 rfl (lv_at hl 0 rfl) ?_
  refine lv_iconst (v := 0) hx hb d_M_put_1 (by decide) ?_
  refine va_put (D := (dC, dI)) (ci := 9) (v := .int 0) (ty := .int) (C := "RangeCodersModel") (T := T_M) (N := 35) hx hb hg in_M t_M o_M n_M hown hK hP hD hS 0 rfl rfl 34 (by decide) (hg _ k986) (fun _ h9 => h9) rfl (by decide +kernel) rfl rfl (Nat.le_of_ble_eq_true rfl) d_M_put_2 (fun H locs hP hD hS => ?_)
  have hP : va_P (dC, dI) vwCl [(o, Sum.inr (9, mO g fForm fShift fModels fItems 0 fLow fRange fCache fPend fGoes fOuts fIns fReads fBad fIR fAsk fBAsk fCode fRL fRR fX fWrites 0)), ((g 0), Sum.inl (cI, 8, Sum.inl vMany)), ((g 1), Sum.inl (cI, 512, Sum.inl vCounts)), ((g 2), Sum.inl (cI, 512, Sum.inl vNow))] H := hP
  have hD : va_D A [(o, Sum.inr (9, mO g fForm fShift fModels fItems 0 fLow fRange fCache fPend fGoes fOuts fIns fReads fBad fIR fAsk fBAsk fCode fRL fRR fX fWrites 0)), ((g 0), Sum.inl (cI, 8, Sum.inl vMany)), ((g 1), Sum.inl (cI, 512, Sum.inl vCounts)), ((g 2), Sum.inl (cI, 512, Sum.inl vNow))] := hD
  refine lv_aload_n hx hb d_M_put_5 rfl (lv_at hl 0 rfl) ?_
  refine lv_iload_n hx hb d_M_put_6 rfl (lv_at hl 1 rfl) ?_
  refine lv_iload_n hx hb d_M_put_7 rfl (lv_at hl 2 rfl) ?_
  refine my_ci (wr := [((g 1), Sum.inl (cI, 512, Sum.inl vCounts)), ((g 2), Sum.inl (cI, 512, Sum.inl vNow))]) (va_runV (As := [Value.int (nI jj), Value.int (nI tt)]) (rest := []) ⟨hx, hb, hml, hown, hts⟩ (c_M_isSign l dC dI cI cM cO H.size o g fForm fShift fModels fItems 0 fLow fRange fCache fPend fGoes fOuts fIns fReads fBad fIR fAsk fBAsk fCode fRL fRR fX fWrites 0 vMany km (nI jj) (nI tt) (hMD.1) (by first | assumption | omega)) (cwV 2 hts (my_gV k1069 k1071 ks25 k12 k1072) rfl rfl rfl (by decide +kernel) ⟨by rw [hR]; exact Nat.le_of_ble_eq_true rfl, by rw [hR]; exact Nat.le_of_ble_eq_true rfl⟩) (my_preV hK hN (hP.sub [0, 1] rfl) (hD.sub [0, 1] (by decide +kernel) rfl) 0 rfl rfl) rfl rfl hl.1 rfl (lv_room (Nat.le_of_ble_eq_true rfl)) d_M_put_8 ⟨by rw [hR]; exact Nat.le_of_ble_eq_true rfl, by rw [hR]; exact Nat.le_of_ble_eq_true rfl⟩) hP hD hS hA [0, 1] [2, 3] rfl rfl (by decide +kernel) (by decide +kernel) (fun r_8 u9 H locs hw_8 hP hD hS => ?_)
  have hw_8 : r_8 = if isN km (nI jj) ∧ (0 ≤ (nI tt) ∧ (nI tt) ≤ vMany (nI jj).toNatClampNeg - 1) then 1 else 0 := hw_8
  have hP : va_P (dC, dI) vwCl [((g 1), Sum.inl (cI, 512, Sum.inl vCounts)), ((g 2), Sum.inl (cI, 512, Sum.inl vNow)), (o, Sum.inr (9, mO g fForm fShift fModels fItems 0 fLow fRange fCache fPend fGoes fOuts fIns fReads fBad fIR fAsk fBAsk fCode fRL fRR fX fWrites 0)), ((g 0), Sum.inl (cI, 8, Sum.inl vMany))] H := hP
  have hD : va_D A [((g 1), Sum.inl (cI, 512, Sum.inl vCounts)), ((g 2), Sum.inl (cI, 512, Sum.inl vNow)), (o, Sum.inr (9, mO g fForm fShift fModels fItems 0 fLow fRange fCache fPend fGoes fOuts fIns fReads fBad fIR fAsk fBAsk fCode fRL fRR fX fWrites 0)), ((g 0), Sum.inl (cI, 8, Sum.inl vMany))] := hD
  refine lv_if_ne (tgt := 16) hx hb d_M_put_11 (by decide) (fun c_1 => ?_) (fun c_1 => ?_)
  · refine lv_aload_n hx hb d_M_put_16 rfl (lv_at hl 0 rfl) ?_
    refine va_get (D := (dC, dI)) (ci := 9) (v := .int 0) (C := "RangeCodersModel") (T := T_M) (N := 35) hx hb hg in_M hown hK hP 2 rfl rfl 10 (by decide) (hg _ k962) (fun _ h9 => h9) rfl d_M_put_17 ?_
    refine lv_if_ne (tgt := 45) hx hb d_M_put_20 (by decide) (fun c_2 => ?_) (fun c_2 => ?_)
    · exact absurd rfl c_2
    · refine lv_aload_n hx hb d_M_put_23 rfl (lv_at hl 0 rfl) ?_
      refine va_get (D := (dC, dI)) (ci := 9) (v := .int fForm) (C := "RangeCodersModel") (T := T_M) (N := 35) hx hb hg in_M hown hK hP 2 rfl rfl 0 (by decide) (hg _ k952) (fun _ h9 => h9) rfl d_M_put_24 ?_
      refine lv_iconst (v := 2) hx hb d_M_put_27 (by decide) ?_
      refine lv_icmp_eq (tgt := 48) hx hb d_M_put_28 (by decide) (fun c_3 => ?_) (fun c_3 => ?_)
      · exact absurd c_3 hf2
      · refine lv_aload_n hx hb d_M_put_31 rfl (lv_at hl 0 rfl) ?_
        refine va_get (D := (dC, dI)) (ci := 9) (v := .ref (g 2)) (C := "RangeCodersModel") (T := T_M) (N := 35) hx hb hg in_M hown hK hP 2 rfl rfl 5 (by decide) (hg _ k957) (fun _ h9 => h9) rfl d_M_put_32 ?_
        refine lv_bipush (v := 64) hx hb d_M_put_35 (by decide) ?_
        refine lv_iload_n hx hb d_M_put_37 rfl (lv_at hl 1 rfl) ?_
        refine lv_imul hx hb d_M_put_38 ?_
        refine lv_topi (fun v_4 ev_4 => ?_)
        refine lv_iload_n hx hb d_M_put_39 rfl (lv_at hl 2 rfl) ?_
        refine lv_iadd hx hb d_M_put_40 ?_
        refine lv_topi (fun v_5 ev_5 => ?_)
        have hix : v_5 = nI (64 * jj + tt) := by rw [ev_5, ev_4]; exact ix64
        refine va_iald hx hb hK hP 1 0 rfl rfl (by rw [hix]; exact vp_in_nI (by omega) (by decide)) d_M_put_41 ?_
        refine lv_topi (fun v_6 ev_6 => ?_)
        have z9 : v_6 = nI (F tt) := by rw [ev_6, hix, nI_clamp (by omega)]; exact hF tt ht
        subst z9
        refine lv_if_ne (tgt := 48) hx hb d_M_put_42 (by decide) (fun c_7 => ?_) (fun c_7 => ?_)
        · exact absurd (by rw [hz]; rfl) c_7
        · refine lv_bipush (v := (-3)) hx hb d_M_put_45 (by decide) ?_
          exact my_iret (v := (-3)) hx hb hr (rfl) hlocks hQ hK hS (Nat.le_refl _) (Nat.le_refl _) () (rfl) (hP.sub [2, 3, 0, 1] rfl) (hD.sub [2, 3, 0, 1] (by decide +kernel) rfl) d_M_put_47
  · exact absurd (sg_yes hMD hj ht) (one_eq hw_8 c_1)
set_option maxHeartbeats 2000000 in
set_option maxRecDepth 100000 in
theorem m_putR (l : Launch) (dC : Nat → ClassId) (dI : Nat → Nat → Nat) (cI cM cO : ClassId) (sz : Nat) (o : Nat) (g : Nat → Nat) (fForm : Int32) (fShift : Int32) (fModels : Int32) (fLow : Int64) (fRange : Int64) (fCache : Int32) (fPend : Int32) (fGoes : Int32) (fOuts : Int32) (fIns : Int32) (fReads : Int32) (fBad : Int32) (fIR : Int32) (fAsk : Int32) (fBAsk : Int32) (fCode : Int64) (fRL : Int64) (fRR : Int64) (fX : Int64) (fWrites : Int32) (fThrown : Int32) (vMany : Nat → Int32) (vCounts : Nat → Int32) (vNow : Nat → Int32) (km : Nat) (N : Nat → Nat) (jj : Nat) (tt : Nat) (F : Nat → Nat) (ki : Nat) (hmod : fModels = nI km) (hMD : MD km N vMany vCounts) (hj : jj < km) (ht : tt < N jj) (hF : sgI vNow (64 * jj) (N jj) F) (hFb : F tt < 2 ^ 31) (hf2 : ¬ fForm = 2) (hz : 0 < F tt) (hk6 : ki = 600) : MetI l y_M_put (Cond.code y_M_put prog_14_method_29_code 3 (some .int) :: gw) ({ frames := 3, cells := 0, slots := 0, locals := 65 } : Room) (dC, dI) vwCl (kT cI cM cO) [Value.ref o, Value.int (nI jj), Value.int (nI tt)] [(o, Sum.inr (9, mO g fForm fShift fModels (nI ki) 0 fLow fRange fCache fPend fGoes fOuts fIns fReads fBad fIR fAsk fBAsk fCode fRL fRR fX fWrites fThrown)), ((g 0), Sum.inl (cI, 8, Sum.inl vMany)), ((g 1), Sum.inl (cI, 512, Sum.inl vCounts)), ((g 2), Sum.inl (cI, 512, Sum.inl vNow))] sz (fun (r : Int32) (u : Unit) => r = -4) (fun (u : Unit) => [(o, Sum.inr (9, mO g fForm fShift fModels (nI ki) 0 fLow fRange fCache fPend fGoes fOuts fIns fReads fBad fIR fAsk fBAsk fCode fRL fRR fX fWrites 0)), ((g 0), Sum.inl (cI, 8, Sum.inl vMany)), ((g 1), Sum.inl (cI, 512, Sum.inl vCounts)), ((g 2), Sum.inl (cI, 512, Sum.inl vNow))]) 0 0 := by
  refine my_ofI (cc := prog_14_method_29_code) (n := 3) (ret := (some .int)) (by decide) rfl (Nat.le_of_ble_eq_true rfl) ?_
  intro p e s m args below meth c R Q A ls H locs hx hb hr hts hown hlocks hml hnm hR hQ hA hl hP hK hN hD hS
  have hg : ∀ w ∈ gw, w.before args s = true := fun w h => hts w (List.mem_cons_of_mem _ h)
  have hown : s.vm.findClass "RangeCodersModel" = some m.cls := hown
  have hl : lv_has ls 3 [(0, Value.ref o), (1, Value.int (nI jj)), (2, Value.int (nI tt))] := hl
  have hk8 := hMD.1
  obtain ⟨hn9, hn2, hn64, C9, hc9, hB9⟩ := hMD.2 jj hj
  refine lv_aload_n hx hb d_M_put_0 rfl (lv_at hl 0 rfl) ?_
  refine lv_iconst (v := 0) hx hb d_M_put_1 (by decide) ?_
  refine va_put (D := (dC, dI)) (ci := 9) (v := .int 0) (ty := .int) (C := "RangeCodersModel") (T := T_M) (N := 35) hx hb hg in_M t_M o_M n_M hown hK hP hD hS 0 rfl rfl 34 (by decide) (hg _ k986) (fun _ h9 => h9) rfl (by decide +kernel) rfl rfl (Nat.le_of_ble_eq_true rfl) d_M_put_2 (fun H locs hP hD hS => ?_)
  have hP : va_P (dC, dI) vwCl [(o, Sum.inr (9, mO g fForm fShift fModels (nI ki) 0 fLow fRange fCache fPend fGoes fOuts fIns fReads fBad fIR fAsk fBAsk fCode fRL fRR fX fWrites 0)), ((g 0), Sum.inl (cI, 8, Sum.inl vMany)), ((g 1), Sum.inl (cI, 512, Sum.inl vCounts)), ((g 2), Sum.inl (cI, 512, Sum.inl vNow))] H := hP
  have hD : va_D A [(o, Sum.inr (9, mO g fForm fShift fModels (nI ki) 0 fLow fRange fCache fPend fGoes fOuts fIns fReads fBad fIR fAsk fBAsk fCode fRL fRR fX fWrites 0)), ((g 0), Sum.inl (cI, 8, Sum.inl vMany)), ((g 1), Sum.inl (cI, 512, Sum.inl vCounts)), ((g 2), Sum.inl (cI, 512, Sum.inl vNow))] := hD
  refine lv_aload_n hx hb d_M_put_5 rfl (lv_at hl 0 rfl) ?_
  refine lv_iload_n hx hb d_M_put_6 rfl (lv_at hl 1 rfl) ?_
  refine lv_iload_n hx hb d_M_put_7 rfl (lv_at hl 2 rfl) ?_
  refine my_ci (wr := [((g 1), Sum.inl (cI, 512, Sum.inl vCounts)), ((g 2), Sum.inl (cI, 512, Sum.inl vNow))]) (va_runV (As := [Value.int (nI jj), Value.int (nI tt)]) (rest := []) ⟨hx, hb, hml, hown, hts⟩ (c_M_isSign l dC dI cI cM cO H.size o g fForm fShift fModels (nI ki) 0 fLow fRange fCache fPend fGoes fOuts fIns fReads fBad fIR fAsk fBAsk fCode fRL fRR fX fWrites 0 vMany km (nI jj) (nI tt) (hMD.1) (by first | assumption | omega)) (cwV 2 hts (my_gV k1069 k1071 ks25 k12 k1072) rfl rfl rfl (by decide +kernel) ⟨by rw [hR]; exact Nat.le_of_ble_eq_true rfl, by rw [hR]; exact Nat.le_of_ble_eq_true rfl⟩) (my_preV hK hN (hP.sub [0, 1] rfl) (hD.sub [0, 1] (by decide +kernel) rfl) 0 rfl rfl) rfl rfl hl.1 rfl (lv_room (Nat.le_of_ble_eq_true rfl)) d_M_put_8 ⟨by rw [hR]; exact Nat.le_of_ble_eq_true rfl, by rw [hR]; exact Nat.le_of_ble_eq_true rfl⟩) hP hD hS hA [0, 1] [2, 3] rfl rfl (by decide +kernel) (by decide +kernel) (fun r_8 u9 H locs hw_8 hP hD hS => ?_)
  have hw_8 : r_8 = if isN km (nI jj) ∧ (0 ≤ (nI tt) ∧ (nI tt) ≤ vMany (nI jj).toNatClampNeg - 1) then 1 else 0 := hw_8
  have hP : va_P (dC, dI) vwCl [((g 1), Sum.inl (cI, 512, Sum.inl vCounts)), ((g 2), Sum.inl (cI, 512, Sum.inl vNow)), (o, Sum.inr (9, mO g fForm fShift fModels (nI ki) 0 fLow fRange fCache fPend fGoes fOuts fIns fReads fBad fIR fAsk fBAsk fCode fRL fRR fX fWrites 0)), ((g 0), Sum.inl (cI, 8, Sum.inl vMany))] H := hP
  have hD : va_D A [((g 1), Sum.inl (cI, 512, Sum.inl vCounts)), ((g 2), Sum.inl (cI, 512, Sum.inl vNow)), (o, Sum.inr (9, mO g fForm fShift fModels (nI ki) 0 fLow fRange fCache fPend fGoes fOuts fIns fReads fBad fIR fAsk fBAsk fCode fRL fRR fX fWrites 0)), ((g 0), Sum.inl (cI, 8, Sum.inl vMany))] := hD
  refine lv_if_ne (tgt := 16) hx hb d_M_put_11 (by decide) (fun c_1 => ?_) (fun c_1 => ?_)
  · refine lv_aload_n hx hb d_M_put_16 rfl (lv_at hl 0 rfl) ?_
    refine va_get (D := (dC, dI)) (ci := 9) (v := .int 0) (C := "RangeCodersModel") (T := T_M) (N := 35) hx hb hg in_M hown hK hP 2 rfl rfl 10 (by decide) (hg _ k962) (fun _ h9 => h9) rfl d_M_put_17 ?_
    refine lv_if_ne (tgt := 45) hx hb d_M_put_20 (by decide) (fun c_2 => ?_) (fun c_2 => ?_)
    · exact absurd rfl c_2
    · refine lv_aload_n hx hb d_M_put_23 rfl (lv_at hl 0 rfl) ?_
      refine va_get (D := (dC, dI)) (ci := 9) (v := .int fForm) (C := "RangeCodersModel") (T := T_M) (N := 35) hx hb hg in_M hown hK hP 2 rfl rfl 0 (by decide) (hg _ k952) (fun _ h9 => h9) rfl d_M_put_24 ?_
      refine lv_iconst (v := 2) hx hb d_M_put_27 (by decide) ?_
      refine lv_icmp_eq (tgt := 48) hx hb d_M_put_28 (by decide) (fun c_3 => ?_) (fun c_3 => ?_)
      · exact absurd c_3 hf2
      · refine lv_aload_n hx hb d_M_put_31 rfl (lv_at hl 0 rfl) ?_
        refine va_get (D := (dC, dI)) (ci := 9) (v := .ref (g 2)) (C := "RangeCodersModel") (T := T_M) (N := 35) hx hb hg in_M hown hK hP 2 rfl rfl 5 (by decide) (hg _ k957) (fun _ h9 => h9) rfl d_M_put_32 ?_
        refine lv_bipush (v := 64) hx hb d_M_put_35 (by decide) ?_
        refine lv_iload_n hx hb d_M_put_37 rfl (lv_at hl 1 rfl) ?_
        refine lv_imul hx hb d_M_put_38 ?_
        refine lv_topi (fun v_4 ev_4 => ?_)
        refine lv_iload_n hx hb d_M_put_39 rfl (lv_at hl 2 rfl) ?_
        refine lv_iadd hx hb d_M_put_40 ?_
        refine lv_topi (fun v_5 ev_5 => ?_)
        have hix : v_5 = nI (64 * jj + tt) := by rw [ev_5, ev_4]; exact ix64
        refine va_iald hx hb hK hP 1 0 rfl rfl (by rw [hix]; exact vp_in_nI (by omega) (by decide)) d_M_put_41 ?_
        refine lv_topi (fun v_6 ev_6 => ?_)
        have z9 : v_6 = nI (F tt) := by rw [ev_6, hix, nI_clamp (by omega)]; exact hF tt ht
        subst z9
        refine lv_if_ne (tgt := 48) hx hb d_M_put_42 (by decide) (fun c_7 => ?_) (fun c_7 => ?_)
        · refine lv_aload_n hx hb d_M_put_48 rfl (lv_at hl 0 rfl) ?_
          refine va_get (D := (dC, dI)) (ci := 9) (v := .int (nI ki)) (C := "RangeCodersModel") (T := T_M) (N := 35) hx hb hg in_M hown hK hP 2 rfl rfl 7 (by decide) (hg _ k959) (fun _ h9 => h9) rfl d_M_put_49 ?_
          refine lv_sipush (v := 600) hx hb d_M_put_52 (by decide) ?_
          refine lv_icmp_ne (tgt := 61) hx hb d_M_put_55 (by decide) (fun c_8 => ?_) (fun c_8 => ?_)
          · exact absurd (by rw [hk6]; rfl) c_8
          · refine lv_bipush (v := (-4)) hx hb d_M_put_58 (by decide) ?_
            exact my_iret (v := (-4)) hx hb hr (rfl) hlocks hQ hK hS (Nat.le_refl _) (Nat.le_refl _) () (rfl) (hP.sub [2, 3, 0, 1] rfl) (hD.sub [2, 3, 0, 1] (by decide +kernel) rfl) d_M_put_60
        · exact absurd c_7 (nI_ne0 hz hFb)
  · exact absurd (sg_yes hMD hj ht) (one_eq hw_8 c_1)
set_option maxHeartbeats 2000000 in
set_option maxRecDepth 100000 in
theorem m_putR2 (l : Launch) (dC : Nat → ClassId) (dI : Nat → Nat → Nat) (cI cM cO : ClassId) (sz : Nat) (o : Nat) (g : Nat → Nat) (fShift : Int32) (fModels : Int32) (fLow : Int64) (fRange : Int64) (fCache : Int32) (fPend : Int32) (fGoes : Int32) (fOuts : Int32) (fIns : Int32) (fReads : Int32) (fBad : Int32) (fIR : Int32) (fAsk : Int32) (fBAsk : Int32) (fCode : Int64) (fRL : Int64) (fRR : Int64) (fX : Int64) (fWrites : Int32) (fThrown : Int32) (vMany : Nat → Int32) (vCounts : Nat → Int32) (km : Nat) (N : Nat → Nat) (jj : Nat) (tt : Nat) (ki : Nat) (hmod : fModels = nI km) (hMD : MD km N vMany vCounts) (hj : jj < km) (ht : tt < N jj) (hk6 : ki = 600) : MetI l y_M_put (Cond.code y_M_put prog_14_method_29_code 3 (some .int) :: gw) ({ frames := 3, cells := 0, slots := 0, locals := 65 } : Room) (dC, dI) vwCl (kT cI cM cO) [Value.ref o, Value.int (nI jj), Value.int (nI tt)] [(o, Sum.inr (9, mO g 2 fShift fModels (nI ki) 0 fLow fRange fCache fPend fGoes fOuts fIns fReads fBad fIR fAsk fBAsk fCode fRL fRR fX fWrites fThrown)), ((g 0), Sum.inl (cI, 8, Sum.inl vMany)), ((g 1), Sum.inl (cI, 512, Sum.inl vCounts))] sz (fun (r : Int32) (u : Unit) => r = -4) (fun (u : Unit) => [(o, Sum.inr (9, mO g 2 fShift fModels (nI ki) 0 fLow fRange fCache fPend fGoes fOuts fIns fReads fBad fIR fAsk fBAsk fCode fRL fRR fX fWrites 0)), ((g 0), Sum.inl (cI, 8, Sum.inl vMany)), ((g 1), Sum.inl (cI, 512, Sum.inl vCounts))]) 0 0 := by
  refine my_ofI (cc := prog_14_method_29_code) (n := 3) (ret := (some .int)) (by decide) rfl (Nat.le_of_ble_eq_true rfl) ?_
  intro p e s m args below meth c R Q A ls H locs hx hb hr hts hown hlocks hml hnm hR hQ hA hl hP hK hN hD hS
  have hg : ∀ w ∈ gw, w.before args s = true := fun w h => hts w (List.mem_cons_of_mem _ h)
  have hown : s.vm.findClass "RangeCodersModel" = some m.cls := hown
  have hl : lv_has ls 3 [(0, Value.ref o), (1, Value.int (nI jj)), (2, Value.int (nI tt))] := hl
  have hk8 := hMD.1
  obtain ⟨hn9, hn2, hn64, C9, hc9, hB9⟩ := hMD.2 jj hj
  refine lv_aload_n hx hb d_M_put_0 rfl (lv_at hl 0 rfl) ?_
  refine lv_iconst (v := 0) hx hb d_M_put_1 (by decide) ?_
  refine va_put (D := (dC, dI)) (ci := 9) (v := .int 0) (ty := .int) (C := "RangeCodersModel") (T := T_M) (N := 35) hx hb hg in_M t_M o_M n_M hown hK hP hD hS 0 rfl rfl 34 (by decide) (hg _ k986) (fun _ h9 => h9) rfl (by decide +kernel) rfl rfl (Nat.le_of_ble_eq_true rfl) d_M_put_2 (fun H locs hP hD hS => ?_)
  have hP : va_P (dC, dI) vwCl [(o, Sum.inr (9, mO g 2 fShift fModels (nI ki) 0 fLow fRange fCache fPend fGoes fOuts fIns fReads fBad fIR fAsk fBAsk fCode fRL fRR fX fWrites 0)), ((g 0), Sum.inl (cI, 8, Sum.inl vMany)), ((g 1), Sum.inl (cI, 512, Sum.inl vCounts))] H := hP
  have hD : va_D A [(o, Sum.inr (9, mO g 2 fShift fModels (nI ki) 0 fLow fRange fCache fPend fGoes fOuts fIns fReads fBad fIR fAsk fBAsk fCode fRL fRR fX fWrites 0)), ((g 0), Sum.inl (cI, 8, Sum.inl vMany)), ((g 1), Sum.inl (cI, 512, Sum.inl vCounts))] := hD
  refine lv_aload_n hx hb d_M_put_5 rfl (lv_at hl 0 rfl) ?_
  refine lv_iload_n hx hb d_M_put_6 rfl (lv_at hl 1 rfl) ?_
  refine lv_iload_n hx hb d_M_put_7 rfl (lv_at hl 2 rfl) ?_
  refine my_ci (wr := [((g 1), Sum.inl (cI, 512, Sum.inl vCounts))]) (va_runV (As := [Value.int (nI jj), Value.int (nI tt)]) (rest := []) ⟨hx, hb, hml, hown, hts⟩ (c_M_isSign l dC dI cI cM cO H.size o g 2 fShift fModels (nI ki) 0 fLow fRange fCache fPend fGoes fOuts fIns fReads fBad fIR fAsk fBAsk fCode fRL fRR fX fWrites 0 vMany km (nI jj) (nI tt) (hMD.1) (by first | assumption | omega)) (cwV 2 hts (my_gV k1069 k1071 ks25 k12 k1072) rfl rfl rfl (by decide +kernel) ⟨by rw [hR]; exact Nat.le_of_ble_eq_true rfl, by rw [hR]; exact Nat.le_of_ble_eq_true rfl⟩) (my_preV hK hN (hP.sub [0, 1] rfl) (hD.sub [0, 1] (by decide +kernel) rfl) 0 rfl rfl) rfl rfl hl.1 rfl (lv_room (Nat.le_of_ble_eq_true rfl)) d_M_put_8 ⟨by rw [hR]; exact Nat.le_of_ble_eq_true rfl, by rw [hR]; exact Nat.le_of_ble_eq_true rfl⟩) hP hD hS hA [0, 1] [2] rfl rfl (by decide +kernel) (by decide +kernel) (fun r_8 u9 H locs hw_8 hP hD hS => ?_)
  have hw_8 : r_8 = if isN km (nI jj) ∧ (0 ≤ (nI tt) ∧ (nI tt) ≤ vMany (nI jj).toNatClampNeg - 1) then 1 else 0 := hw_8
  have hP : va_P (dC, dI) vwCl [((g 1), Sum.inl (cI, 512, Sum.inl vCounts)), (o, Sum.inr (9, mO g 2 fShift fModels (nI ki) 0 fLow fRange fCache fPend fGoes fOuts fIns fReads fBad fIR fAsk fBAsk fCode fRL fRR fX fWrites 0)), ((g 0), Sum.inl (cI, 8, Sum.inl vMany))] H := hP
  have hD : va_D A [((g 1), Sum.inl (cI, 512, Sum.inl vCounts)), (o, Sum.inr (9, mO g 2 fShift fModels (nI ki) 0 fLow fRange fCache fPend fGoes fOuts fIns fReads fBad fIR fAsk fBAsk fCode fRL fRR fX fWrites 0)), ((g 0), Sum.inl (cI, 8, Sum.inl vMany))] := hD
  refine lv_if_ne (tgt := 16) hx hb d_M_put_11 (by decide) (fun c_1 => ?_) (fun c_1 => ?_)
  · refine lv_aload_n hx hb d_M_put_16 rfl (lv_at hl 0 rfl) ?_
    refine va_get (D := (dC, dI)) (ci := 9) (v := .int 0) (C := "RangeCodersModel") (T := T_M) (N := 35) hx hb hg in_M hown hK hP 1 rfl rfl 10 (by decide) (hg _ k962) (fun _ h9 => h9) rfl d_M_put_17 ?_
    refine lv_if_ne (tgt := 45) hx hb d_M_put_20 (by decide) (fun c_2 => ?_) (fun c_2 => ?_)
    · exact absurd rfl c_2
    · refine lv_aload_n hx hb d_M_put_23 rfl (lv_at hl 0 rfl) ?_
      refine va_get (D := (dC, dI)) (ci := 9) (v := .int 2) (C := "RangeCodersModel") (T := T_M) (N := 35) hx hb hg in_M hown hK hP 1 rfl rfl 0 (by decide) (hg _ k952) (fun _ h9 => h9) rfl d_M_put_24 ?_
      refine lv_iconst (v := 2) hx hb d_M_put_27 (by decide) ?_
      refine lv_icmp_eq (tgt := 48) hx hb d_M_put_28 (by decide) (fun c_3 => ?_) (fun c_3 => ?_)
      · refine lv_aload_n hx hb d_M_put_48 rfl (lv_at hl 0 rfl) ?_
        refine va_get (D := (dC, dI)) (ci := 9) (v := .int (nI ki)) (C := "RangeCodersModel") (T := T_M) (N := 35) hx hb hg in_M hown hK hP 1 rfl rfl 7 (by decide) (hg _ k959) (fun _ h9 => h9) rfl d_M_put_49 ?_
        refine lv_sipush (v := 600) hx hb d_M_put_52 (by decide) ?_
        refine lv_icmp_ne (tgt := 61) hx hb d_M_put_55 (by decide) (fun c_4 => ?_) (fun c_4 => ?_)
        · exact absurd (by rw [hk6]; rfl) c_4
        · refine lv_bipush (v := (-4)) hx hb d_M_put_58 (by decide) ?_
          exact my_iret (v := (-4)) hx hb hr (rfl) hlocks hQ hK hS (Nat.le_refl _) (Nat.le_refl _) () (rfl) (hP.sub [1, 2, 0] rfl) (hD.sub [1, 2, 0] (by decide +kernel) rfl) d_M_put_60
      · exact absurd rfl c_3
  · exact absurd (sg_yes hMD hj ht) (one_eq hw_8 c_1)

