set_option maxHeartbeats 2000000 in
set_option maxRecDepth 100000 in
theorem c_M_end4 (l : Launch) (dC : Nat → ClassId) (dI : Nat → Nat → Nat) (cI cM cO : ClassId) (sz : Nat) (o : Nat) (g : Nat → Nat) (fForm : Int32) (fShift : Int32) (fModels : Int32) (fItems : Int32) (fEnded : Int32) (fLow : Int64) (fRange : Int64) (fCache : Int32) (fPend : Int32) (fGoes : Int32) (fOuts : Int32) (fIns : Int32) (fReads : Int32) (fBad : Int32) (fIR : Int32) (fAsk : Int32) (fBAsk : Int32) (fCode : Int64) (fRL : Int64) (fRR : Int64) (fX : Int64) (fWrites : Int32) (fThrown : Int32) (vMany : Nat → Int32) (vCounts : Nat → Int32) (vNow : Nat → Int32) (vIM : Nat → Int32) (vIW : Nat → Int32) (vGoing : Nat → Int32) (vSO : Nat → Int32) (vNO : Nat → Int32) (vWr : Nat → Int32) (vOut : Nat → Int32) (km : Nat) (N : Nat → Nat) (hfo : fForm = 4) (hen : fEnded = 0) (hmod : fModels = nI km) (hMD : MD km N vMany vCounts) (hI : MI3 512 9 km N fItems fGoes vIM vIW vNow) : MetI l y_M_end (Cond.code y_M_end prog_14_method_31_code 2 (some .int) :: gw) ({ frames := 2, cells := 0, slots := 0, locals := 54 } : Room) (dC, dI) vwCl (kT cI cM cO) [.ref o] [(o, .inr (9, mO g fForm fShift fModels fItems fEnded fLow fRange fCache fPend fGoes fOuts fIns fReads fBad fIR fAsk fBAsk fCode fRL fRR fX fWrites fThrown)), ((g 0), .inl (cI, 8, .inl vMany)), ((g 1), .inl (cI, 512, .inl vCounts)), ((g 2), .inl (cI, 512, .inl vNow)), ((g 4), .inl (cI, 600, .inl vIM)), ((g 5), .inl (cI, 600, .inl vIW)), ((g 6), .inl (cI, 9000, .inl vGoing)), ((g 9), .inl (cI, 512, .inl vSO)), ((g 10), .inl (cI, 512, .inl vNO)), ((g 11), .inl (cI, 20000, .inl vWr)), ((g 7), .inl (cI, 9000, .inl vOut))] sz (fun (r : Int32) (u : Int32 × Int32 × Int32 × Int32 × Int32 × (Nat → Int32) × (Nat → Int32) × (Nat → Int32) × (Nat → Int32) × (Nat → Int32)) => OU u.2.2.1 u.2.2.2.2.2.2.2.2.2 ∧ ¬ u.1 = 0) (fun (u : Int32 × Int32 × Int32 × Int32 × Int32 × (Nat → Int32) × (Nat → Int32) × (Nat → Int32) × (Nat → Int32) × (Nat → Int32)) => [(o, .inr (9, mO g fForm fShift fModels fItems u.1 fLow fRange fCache fPend u.2.1 u.2.2.1 fIns fReads fBad fIR fAsk fBAsk fCode fRL fRR fX u.2.2.2.1 u.2.2.2.2.1)), ((g 0), .inl (cI, 8, .inl vMany)), ((g 1), .inl (cI, 512, .inl vCounts)), ((g 2), .inl (cI, 512, .inl vNow)), ((g 4), .inl (cI, 600, .inl vIM)), ((g 5), .inl (cI, 600, .inl vIW)), ((g 6), .inl (cI, 9000, .inl u.2.2.2.2.2.1)), ((g 9), .inl (cI, 512, .inl u.2.2.2.2.2.2.1)), ((g 10), .inl (cI, 512, .inl u.2.2.2.2.2.2.2.1)), ((g 11), .inl (cI, 20000, .inl u.2.2.2.2.2.2.2.2.1)), ((g 7), .inl (cI, 9000, .inl u.2.2.2.2.2.2.2.2.2))]) 0 0 := by
  refine my_ofI (cc := prog_14_method_31_code) (n := 2) (ret := (some .int)) (by decide) rfl (Nat.le_of_ble_eq_true rfl) ?_
  intro p e s m args below meth c R Q A ls H locs hx hb hr hts hown hlocks hml hnm hR hQ hA hl hP hK hN hD hS
  have hg : ∀ w ∈ gw, w.before args s = true := fun w h => hts w (List.mem_cons_of_mem _ h)
  have hown : s.vm.findClass "RangeCodersModel" = some m.cls := hown
  replace hl : lv_has ls 2 [(0, .ref o)] := hl
  subst hfo
  subst hen
  obtain ⟨its, hki, rfl, rfl, hit, hok⟩ := hI
  replace hP : va_P (dC, dI) vwCl [(o, .inr (9, mO g 4 fShift fModels (nI its.length) 0 fLow fRange fCache fPend 0 fOuts fIns fReads fBad fIR fAsk fBAsk fCode fRL fRR fX fWrites fThrown)), ((g 0), .inl (cI, 8, .inl vMany)), ((g 1), .inl (cI, 512, .inl vCounts)), ((g 2), .inl (cI, 512, .inl vNow)), ((g 4), .inl (cI, 600, .inl vIM)), ((g 5), .inl (cI, 600, .inl vIW)), ((g 6), .inl (cI, 9000, .inl vGoing)), ((g 9), .inl (cI, 512, .inl vSO)), ((g 10), .inl (cI, 512, .inl vNO)), ((g 11), .inl (cI, 20000, .inl vWr)), ((g 7), .inl (cI, 9000, .inl vOut))] H := hP
  replace hD : va_D A [(o, .inr (9, mO g 4 fShift fModels (nI its.length) 0 fLow fRange fCache fPend 0 fOuts fIns fReads fBad fIR fAsk fBAsk fCode fRL fRR fX fWrites fThrown)), ((g 0), .inl (cI, 8, .inl vMany)), ((g 1), .inl (cI, 512, .inl vCounts)), ((g 2), .inl (cI, 512, .inl vNow)), ((g 4), .inl (cI, 600, .inl vIM)), ((g 5), .inl (cI, 600, .inl vIW)), ((g 6), .inl (cI, 9000, .inl vGoing)), ((g 9), .inl (cI, 512, .inl vSO)), ((g 10), .inl (cI, 512, .inl vNO)), ((g 11), .inl (cI, 20000, .inl vWr)), ((g 7), .inl (cI, 9000, .inl vOut))] := hD
  replace hl : lv_has ls 2 [(0, .ref o)] := hl
  refine lv_aload_n hx hb d_M_end_0 rfl (lv_at hl 0 rfl) ?_
  refine lv_iconst (v := 0) hx hb d_M_end_1 (by decide) ?_
  refine va_put (D := (dC, dI)) (ci := 9) (v := .int 0) (ty := .int) (C := "RangeCodersModel") (T := T_M) (N := 35) hx hb hg in_M t_M o_M n_M hown hK hP hD hS 0 rfl rfl 34 (by decide) (hg _ k986) (fun _ h9 => h9) rfl (by decide +kernel) rfl rfl (Nat.le_of_ble_eq_true rfl) d_M_end_2 (fun _ _ _ _ _ => ?_)
  clear hP hD hS
  rename_i H locs hP hD hS
  replace hP : va_P (dC, dI) vwCl [(o, .inr (9, mO g 4 fShift fModels (nI its.length) 0 fLow fRange fCache fPend 0 fOuts fIns fReads fBad fIR fAsk fBAsk fCode fRL fRR fX fWrites 0)), ((g 0), .inl (cI, 8, .inl vMany)), ((g 1), .inl (cI, 512, .inl vCounts)), ((g 2), .inl (cI, 512, .inl vNow)), ((g 4), .inl (cI, 600, .inl vIM)), ((g 5), .inl (cI, 600, .inl vIW)), ((g 6), .inl (cI, 9000, .inl vGoing)), ((g 9), .inl (cI, 512, .inl vSO)), ((g 10), .inl (cI, 512, .inl vNO)), ((g 11), .inl (cI, 20000, .inl vWr)), ((g 7), .inl (cI, 9000, .inl vOut))] H := hP
  replace hD : va_D A [(o, .inr (9, mO g 4 fShift fModels (nI its.length) 0 fLow fRange fCache fPend 0 fOuts fIns fReads fBad fIR fAsk fBAsk fCode fRL fRR fX fWrites 0)), ((g 0), .inl (cI, 8, .inl vMany)), ((g 1), .inl (cI, 512, .inl vCounts)), ((g 2), .inl (cI, 512, .inl vNow)), ((g 4), .inl (cI, 600, .inl vIM)), ((g 5), .inl (cI, 600, .inl vIW)), ((g 6), .inl (cI, 9000, .inl vGoing)), ((g 9), .inl (cI, 512, .inl vSO)), ((g 10), .inl (cI, 512, .inl vNO)), ((g 11), .inl (cI, 20000, .inl vWr)), ((g 7), .inl (cI, 9000, .inl vOut))] := hD
  refine lv_aload_n hx hb d_M_end_5 rfl (lv_at hl 0 rfl) ?_
  refine va_get (D := (dC, dI)) (ci := 9) (v := .int 0) (C := "RangeCodersModel") (T := T_M) (N := 35) hx hb hg in_M hown hK hP 0 rfl rfl 10 (by decide) (hg _ k962) (fun _ h9 => h9) rfl d_M_end_6 ?_
  refine lv_if_eq (tgt := 15) hx hb d_M_end_9 (by decide) (fun c_1 => ?_) (fun c_1 => ?_)
  · refine lv_aload_n hx hb d_M_end_15 rfl (lv_at hl 0 rfl) ?_
    refine lv_iconst (v := 1) hx hb d_M_end_16 (by decide) ?_
    refine va_put (D := (dC, dI)) (ci := 9) (v := .int 1) (ty := .boolean) (C := "RangeCodersModel") (T := T_M) (N := 35) hx hb hg in_M t_M o_M n_M hown hK hP hD hS 0 rfl rfl 10 (by decide) (hg _ k962) (fun _ h9 => h9) rfl (by decide +kernel) rfl rfl (Nat.le_of_ble_eq_true rfl) d_M_end_17 (fun _ _ _ _ _ => ?_)
    clear hP hD hS
    rename_i H locs hP hD hS
    replace hP : va_P (dC, dI) vwCl [(o, .inr (9, mO g 4 fShift fModels (nI its.length) 1 fLow fRange fCache fPend 0 fOuts fIns fReads fBad fIR fAsk fBAsk fCode fRL fRR fX fWrites 0)), ((g 0), .inl (cI, 8, .inl vMany)), ((g 1), .inl (cI, 512, .inl vCounts)), ((g 2), .inl (cI, 512, .inl vNow)), ((g 4), .inl (cI, 600, .inl vIM)), ((g 5), .inl (cI, 600, .inl vIW)), ((g 6), .inl (cI, 9000, .inl vGoing)), ((g 9), .inl (cI, 512, .inl vSO)), ((g 10), .inl (cI, 512, .inl vNO)), ((g 11), .inl (cI, 20000, .inl vWr)), ((g 7), .inl (cI, 9000, .inl vOut))] H := hP
    replace hD : va_D A [(o, .inr (9, mO g 4 fShift fModels (nI its.length) 1 fLow fRange fCache fPend 0 fOuts fIns fReads fBad fIR fAsk fBAsk fCode fRL fRR fX fWrites 0)), ((g 0), .inl (cI, 8, .inl vMany)), ((g 1), .inl (cI, 512, .inl vCounts)), ((g 2), .inl (cI, 512, .inl vNow)), ((g 4), .inl (cI, 600, .inl vIM)), ((g 5), .inl (cI, 600, .inl vIW)), ((g 6), .inl (cI, 9000, .inl vGoing)), ((g 9), .inl (cI, 512, .inl vSO)), ((g 10), .inl (cI, 512, .inl vNO)), ((g 11), .inl (cI, 20000, .inl vWr)), ((g 7), .inl (cI, 9000, .inl vOut))] := hD
    refine lv_aload_n hx hb d_M_end_20 rfl (lv_at hl 0 rfl) ?_
    refine va_get (D := (dC, dI)) (ci := 9) (v := .int 4) (C := "RangeCodersModel") (T := T_M) (N := 35) hx hb hg in_M hown hK hP 0 rfl rfl 0 (by decide) (hg _ k952) (fun _ h9 => h9) rfl d_M_end_21 ?_
    refine lv_if_eq (tgt := 35) hx hb d_M_end_24 (by decide) (fun c_2 => ?_) (fun c_2 => ?_)
    · exact absurd c_2 (by decide)
    · refine lv_aload_n hx hb d_M_end_27 rfl (lv_at hl 0 rfl) ?_
      refine va_get (D := (dC, dI)) (ci := 9) (v := .int 4) (C := "RangeCodersModel") (T := T_M) (N := 35) hx hb hg in_M hown hK hP 0 rfl rfl 0 (by decide) (hg _ k952) (fun _ h9 => h9) rfl d_M_end_28 ?_
      refine lv_iconst (v := 2) hx hb d_M_end_31 (by decide) ?_
      refine lv_icmp_ne (tgt := 55) hx hb d_M_end_32 (by decide) (fun c_3 => ?_) (fun c_3 => ?_)
      · refine lv_aload_n hx hb d_M_end_55 rfl (lv_at hl 0 rfl) ?_
        refine va_get (D := (dC, dI)) (ci := 9) (v := .int 4) (C := "RangeCodersModel") (T := T_M) (N := 35) hx hb hg in_M hown hK hP 0 rfl rfl 0 (by decide) (hg _ k952) (fun _ h9 => h9) rfl d_M_end_56 ?_
        refine lv_iconst (v := 1) hx hb d_M_end_59 (by decide) ?_
        refine lv_icmp_ne (tgt := 106) hx hb d_M_end_60 (by decide) (fun c_4 => ?_) (fun c_4 => ?_)
        · refine lv_aload_n hx hb d_M_end_106 rfl (lv_at hl 0 rfl) ?_
          refine va_get (D := (dC, dI)) (ci := 9) (v := .int 4) (C := "RangeCodersModel") (T := T_M) (N := 35) hx hb hg in_M hown hK hP 0 rfl rfl 0 (by decide) (hg _ k952) (fun _ h9 => h9) rfl d_M_end_107 ?_
          refine lv_iconst (v := 3) hx hb d_M_end_110 (by decide) ?_
          refine lv_icmp_ne (tgt := 121) hx hb d_M_end_111 (by decide) (fun c_5 => ?_) (fun c_5 => ?_)
          · refine lv_aload_n hx hb d_M_end_121 rfl (lv_at hl 0 rfl) ?_
            refine my_cv (wr := [((g 7), .inl (cI, 9000, .inl vOut))]) (va_runV (As := []) (rest := []) ⟨hx, hb, hml, hown, hts⟩ (c_M_endTable l dC dI cI cM cO H.size o g 4 fShift fModels (nI its.length) 1 fLow fRange fCache fPend 0 fOuts fIns fReads fBad fIR fAsk fBAsk fCode fRL fRR fX fWrites 0 vMany vCounts vNow vIM vIW vGoing vSO vNO vWr km N its (hMD) (hki) (rfl) (rfl) (hit) (hok)) (cwV 0 hts (my_gV k1156 k1158 ks41 k12 k1159) rfl rfl rfl (by decide +kernel) ⟨by rw [hR]; exact Nat.le_of_ble_eq_true rfl, by rw [hR]; exact Nat.le_of_ble_eq_true rfl⟩) (my_preV hK hN (hP.sub [0, 1, 2, 3, 4, 5, 6, 7, 8, 9] rfl) (hD.sub [0, 1, 2, 3, 4, 5, 6, 7, 8, 9] (by decide) rfl) 0 rfl rfl) rfl rfl hl.1 rfl (lv_room (Nat.le_of_ble_eq_true rfl)) d_M_end_122 ⟨by rw [hR]; exact Nat.le_of_ble_eq_true rfl, by rw [hR]; exact Nat.le_of_ble_eq_true rfl⟩) hP hD hS hA [0, 1, 2, 3, 4, 5, 6, 7, 8, 9] [10] rfl rfl (by decide) (by decide) (fun u9 _ _ hw_122 _ _ _ => ?_)
            clear hP hD hS
            rename_i H locs hP hD hS
            obtain ⟨fGoesq_122, fWritesq_122, vGoingq_122, vSOq_122, vNOq_122, vWrq_122⟩ := u9
            have hGO_122 : GO fGoesq_122 vGoingq_122 := hw_122
            replace hP : va_P (dC, dI) vwCl [((g 7), .inl (cI, 9000, .inl vOut)), (o, .inr (9, mO g 4 fShift fModels (nI its.length) 1 fLow fRange fCache fPend fGoesq_122 fOuts fIns fReads fBad fIR fAsk fBAsk fCode fRL fRR fX fWritesq_122 0)), ((g 0), .inl (cI, 8, .inl vMany)), ((g 1), .inl (cI, 512, .inl vCounts)), ((g 2), .inl (cI, 512, .inl vNow)), ((g 4), .inl (cI, 600, .inl vIM)), ((g 5), .inl (cI, 600, .inl vIW)), ((g 6), .inl (cI, 9000, .inl vGoingq_122)), ((g 9), .inl (cI, 512, .inl vSOq_122)), ((g 10), .inl (cI, 512, .inl vNOq_122)), ((g 11), .inl (cI, 20000, .inl vWrq_122))] H := hP
            replace hD : va_D A [((g 7), .inl (cI, 9000, .inl vOut)), (o, .inr (9, mO g 4 fShift fModels (nI its.length) 1 fLow fRange fCache fPend fGoesq_122 fOuts fIns fReads fBad fIR fAsk fBAsk fCode fRL fRR fX fWritesq_122 0)), ((g 0), .inl (cI, 8, .inl vMany)), ((g 1), .inl (cI, 512, .inl vCounts)), ((g 2), .inl (cI, 512, .inl vNow)), ((g 4), .inl (cI, 600, .inl vIM)), ((g 5), .inl (cI, 600, .inl vIW)), ((g 6), .inl (cI, 9000, .inl vGoingq_122)), ((g 9), .inl (cI, 512, .inl vSOq_122)), ((g 10), .inl (cI, 512, .inl vNOq_122)), ((g 11), .inl (cI, 20000, .inl vWrq_122))] := hD
            obtain ⟨b9, eb9, hG9, ho9, hl9⟩ := hGO_122
            subst eb9
            replace hP : va_P (dC, dI) vwCl [((g 7), .inl (cI, 9000, .inl vOut)), (o, .inr (9, mO g 4 fShift fModels (nI its.length) 1 fLow fRange fCache fPend (nI b9.length) fOuts fIns fReads fBad fIR fAsk fBAsk fCode fRL fRR fX fWritesq_122 0)), ((g 0), .inl (cI, 8, .inl vMany)), ((g 1), .inl (cI, 512, .inl vCounts)), ((g 2), .inl (cI, 512, .inl vNow)), ((g 4), .inl (cI, 600, .inl vIM)), ((g 5), .inl (cI, 600, .inl vIW)), ((g 6), .inl (cI, 9000, .inl vGoingq_122)), ((g 9), .inl (cI, 512, .inl vSOq_122)), ((g 10), .inl (cI, 512, .inl vNOq_122)), ((g 11), .inl (cI, 20000, .inl vWrq_122))] H := hP
            replace hD : va_D A [((g 7), .inl (cI, 9000, .inl vOut)), (o, .inr (9, mO g 4 fShift fModels (nI its.length) 1 fLow fRange fCache fPend (nI b9.length) fOuts fIns fReads fBad fIR fAsk fBAsk fCode fRL fRR fX fWritesq_122 0)), ((g 0), .inl (cI, 8, .inl vMany)), ((g 1), .inl (cI, 512, .inl vCounts)), ((g 2), .inl (cI, 512, .inl vNow)), ((g 4), .inl (cI, 600, .inl vIM)), ((g 5), .inl (cI, 600, .inl vIW)), ((g 6), .inl (cI, 9000, .inl vGoingq_122)), ((g 9), .inl (cI, 512, .inl vSOq_122)), ((g 10), .inl (cI, 512, .inl vNOq_122)), ((g 11), .inl (cI, 20000, .inl vWrq_122))] := hD
            refine lv_aload_n hx hb d_M_end_125 rfl (lv_at hl 0 rfl) ?_
            refine lv_aload_n hx hb d_M_end_126 rfl (lv_at hl 0 rfl) ?_
            refine va_get (D := (dC, dI)) (ci := 9) (v := .int (nI b9.length)) (C := "RangeCodersModel") (T := T_M) (N := 35) hx hb hg in_M hown hK hP 1 rfl rfl 16 (by decide) (hg _ k968) (fun _ h9 => h9) rfl d_M_end_127 ?_
            refine va_put (D := (dC, dI)) (ci := 9) (v := .int (nI b9.length)) (ty := .int) (C := "RangeCodersModel") (T := T_M) (N := 35) hx hb hg in_M t_M o_M n_M hown hK hP hD hS 1 rfl rfl 18 (by decide) (hg _ k970) (fun _ h9 => h9) rfl (by decide +kernel) rfl rfl (Nat.le_of_ble_eq_true rfl) d_M_end_130 (fun _ _ _ _ _ => ?_)
            clear hP hD hS
            rename_i H locs hP hD hS
            replace hP : va_P (dC, dI) vwCl [((g 7), .inl (cI, 9000, .inl vOut)), (o, .inr (9, mO g 4 fShift fModels (nI its.length) 1 fLow fRange fCache fPend (nI b9.length) (nI b9.length) fIns fReads fBad fIR fAsk fBAsk fCode fRL fRR fX fWritesq_122 0)), ((g 0), .inl (cI, 8, .inl vMany)), ((g 1), .inl (cI, 512, .inl vCounts)), ((g 2), .inl (cI, 512, .inl vNow)), ((g 4), .inl (cI, 600, .inl vIM)), ((g 5), .inl (cI, 600, .inl vIW)), ((g 6), .inl (cI, 9000, .inl vGoingq_122)), ((g 9), .inl (cI, 512, .inl vSOq_122)), ((g 10), .inl (cI, 512, .inl vNOq_122)), ((g 11), .inl (cI, 20000, .inl vWrq_122))] H := hP
            replace hD : va_D A [((g 7), .inl (cI, 9000, .inl vOut)), (o, .inr (9, mO g 4 fShift fModels (nI its.length) 1 fLow fRange fCache fPend (nI b9.length) (nI b9.length) fIns fReads fBad fIR fAsk fBAsk fCode fRL fRR fX fWritesq_122 0)), ((g 0), .inl (cI, 8, .inl vMany)), ((g 1), .inl (cI, 512, .inl vCounts)), ((g 2), .inl (cI, 512, .inl vNow)), ((g 4), .inl (cI, 600, .inl vIM)), ((g 5), .inl (cI, 600, .inl vIW)), ((g 6), .inl (cI, 9000, .inl vGoingq_122)), ((g 9), .inl (cI, 512, .inl vSOq_122)), ((g 10), .inl (cI, 512, .inl vNOq_122)), ((g 11), .inl (cI, 20000, .inl vWrq_122))] := hD
            refine lv_iconst (v := 0) hx hb d_M_end_133 (by decide) ?_
            refine lv_istore_n (lv' := [(1, .int 0), (0, .ref o)]) hx hb d_M_end_134 rfl hl (by decide) rfl (fun _ _ => ?_)
            clear hl
            rename_i ls hl
            have J_135 : ∀ (n9_135 : Nat) (kk : Nat) (fO : Nat → Int32) (hn9_135 : (b9).length - kk = n9_135) (hkk : kk ≤ (b9).length) (hc : ∀ i, i < kk → fO i = vGoingq_122 i) (H : Heap) (locs : List Loc) (ls : Array Slot), va_P (dC, dI) vwCl [((g 7), .inl (cI, 9000, .inl fO)), (o, .inr (9, mO g 4 fShift fModels (nI its.length) 1 fLow fRange fCache fPend (nI b9.length) (nI b9.length) fIns fReads fBad fIR fAsk fBAsk fCode fRL fRR fX fWritesq_122 0)), ((g 0), .inl (cI, 8, .inl vMany)), ((g 1), .inl (cI, 512, .inl vCounts)), ((g 2), .inl (cI, 512, .inl vNow)), ((g 4), .inl (cI, 600, .inl vIM)), ((g 5), .inl (cI, 600, .inl vIW)), ((g 6), .inl (cI, 9000, .inl vGoingq_122)), ((g 9), .inl (cI, 512, .inl vSOq_122)), ((g 10), .inl (cI, 512, .inl vNOq_122)), ((g 11), .inl (cI, 20000, .inl vWrq_122))] H → va_D A [((g 7), .inl (cI, 9000, .inl fO)), (o, .inr (9, mO g 4 fShift fModels (nI its.length) 1 fLow fRange fCache fPend (nI b9.length) (nI b9.length) fIns fReads fBad fIR fAsk fBAsk fCode fRL fRR fX fWritesq_122 0)), ((g 0), .inl (cI, 8, .inl vMany)), ((g 1), .inl (cI, 512, .inl vCounts)), ((g 2), .inl (cI, 512, .inl vNow)), ((g 4), .inl (cI, 600, .inl vIM)), ((g 5), .inl (cI, 600, .inl vIW)), ((g 6), .inl (cI, 9000, .inl vGoingq_122)), ((g 9), .inl (cI, 512, .inl vSOq_122)), ((g 10), .inl (cI, 512, .inl vNOq_122)), ((g 11), .inl (cI, 20000, .inl vWrq_122))] → va_S A s.heap H locs → lv_has ls 2 [(1, .int (nI kk)), (0, .ref o)] → W p l e R s m args below meth c H locs 0 0 Q (F0 m 135 ls []) := by
              intro n9_135
              induction n9_135 using Nat.strongRecOn with
              | ind n9_135 ih9_135 =>
                intro kk fO hn9_135 hkk hc H locs ls hP hD hS hl
                refine lv_iload_n hx hb d_M_end_135 rfl (lv_at hl 0 rfl) ?_
                refine lv_aload_n hx hb d_M_end_136 rfl (lv_at hl 1 rfl) ?_
                refine va_get (D := (dC, dI)) (ci := 9) (v := .int (nI b9.length)) (C := "RangeCodersModel") (T := T_M) (N := 35) hx hb hg in_M hown hK hP 1 rfl rfl 16 (by decide) (hg _ k968) (fun _ h9 => h9) rfl d_M_end_137 ?_
                refine lv_icmp_ge (tgt := 161) hx hb d_M_end_140 (by decide) (fun c_6 => ?_) (fun c_6 => ?_)
                · have hkn : kk = (b9).length := by have := (nI_cmp (a := (b9).length) (b := kk) (by omega) (by omega)).mp c_6; omega
                  subst hkn
                  refine lv_aload_n hx hb d_M_end_161 rfl (lv_at hl 1 rfl) ?_
                  refine va_get (D := (dC, dI)) (ci := 9) (v := .int (nI b9.length)) (C := "RangeCodersModel") (T := T_M) (N := 35) hx hb hg in_M hown hK hP 1 rfl rfl 18 (by decide) (hg _ k970) (fun _ h9 => h9) rfl d_M_end_162 ?_
                  exact my_iret (v := (nI b9.length)) hx hb hr (rfl) hlocks hQ hK hS (Nat.le_refl _) (Nat.le_refl _) ((1 : Int32), (nI b9.length), (nI b9.length), fWritesq_122, (0 : Int32), vGoingq_122, vSOq_122, vNOq_122, vWrq_122, fO) (⟨OU_cp hG9 ho9 (by omega) hc, (show ¬ (1 : Int32) = 0 from by decide)⟩) (hP.sub [1, 2, 3, 4, 5, 6, 7, 8, 9, 10, 0] rfl) (hD.sub [1, 2, 3, 4, 5, 6, 7, 8, 9, 10, 0] (by decide) rfl) d_M_end_165
                · have hkl : kk < (b9).length := by
                    rcases Nat.lt_or_ge kk (b9).length with z | z
                    · exact z
                    · exact absurd (nI_le z (by omega)) c_6
                  refine lv_aload_n hx hb d_M_end_143 rfl (lv_at hl 1 rfl) ?_
                  refine va_get (D := (dC, dI)) (ci := 9) (v := .ref (g 7)) (C := "RangeCodersModel") (T := T_M) (N := 35) hx hb hg in_M hown hK hP 1 rfl rfl 17 (by decide) (hg _ k969) (fun _ h9 => h9) rfl d_M_end_144 ?_
                  refine lv_iload_n hx hb d_M_end_147 rfl (lv_at hl 0 rfl) ?_
                  refine lv_aload_n hx hb d_M_end_148 rfl (lv_at hl 1 rfl) ?_
                  refine va_get (D := (dC, dI)) (ci := 9) (v := .ref (g 6)) (C := "RangeCodersModel") (T := T_M) (N := 35) hx hb hg in_M hown hK hP 1 rfl rfl 15 (by decide) (hg _ k967) (fun _ h9 => h9) rfl d_M_end_149 ?_
                  refine lv_iload_n hx hb d_M_end_152 rfl (lv_at hl 0 rfl) ?_
                  refine va_iald hx hb hK hP 7 0 rfl rfl (vp_in_nI (by omega) (by decide)) d_M_end_153 ?_
                  refine lv_topi (fun v_7 ev_7 => ?_)
                  refine va_iast hx hb hK hP hD hS 0 0 rfl rfl (vp_in_nI (by omega) (by decide)) d_M_end_154 (fun _ _ _ _ _ => ?_)
                  clear hP hD hS
                  rename_i H locs hP hD hS
                  replace hP : va_P (dC, dI) vwCl [((g 7), .inl (cI, 9000, .inl (upd fO (nI kk).toNatClampNeg v_7))), (o, .inr (9, mO g 4 fShift fModels (nI its.length) 1 fLow fRange fCache fPend (nI b9.length) (nI b9.length) fIns fReads fBad fIR fAsk fBAsk fCode fRL fRR fX fWritesq_122 0)), ((g 0), .inl (cI, 8, .inl vMany)), ((g 1), .inl (cI, 512, .inl vCounts)), ((g 2), .inl (cI, 512, .inl vNow)), ((g 4), .inl (cI, 600, .inl vIM)), ((g 5), .inl (cI, 600, .inl vIW)), ((g 6), .inl (cI, 9000, .inl vGoingq_122)), ((g 9), .inl (cI, 512, .inl vSOq_122)), ((g 10), .inl (cI, 512, .inl vNOq_122)), ((g 11), .inl (cI, 20000, .inl vWrq_122))] H := hP
                  replace hD : va_D A [((g 7), .inl (cI, 9000, .inl (upd fO (nI kk).toNatClampNeg v_7))), (o, .inr (9, mO g 4 fShift fModels (nI its.length) 1 fLow fRange fCache fPend (nI b9.length) (nI b9.length) fIns fReads fBad fIR fAsk fBAsk fCode fRL fRR fX fWritesq_122 0)), ((g 0), .inl (cI, 8, .inl vMany)), ((g 1), .inl (cI, 512, .inl vCounts)), ((g 2), .inl (cI, 512, .inl vNow)), ((g 4), .inl (cI, 600, .inl vIM)), ((g 5), .inl (cI, 600, .inl vIW)), ((g 6), .inl (cI, 9000, .inl vGoingq_122)), ((g 9), .inl (cI, 512, .inl vSOq_122)), ((g 10), .inl (cI, 512, .inl vNOq_122)), ((g 11), .inl (cI, 20000, .inl vWrq_122))] := hD
                  have hc8 : ∀ i, i < kk + 1 → (upd fO (nI kk).toNatClampNeg v_7) i = vGoingq_122 i := cp_st hc (nI_clamp (by omega)) (by rw [ev_7, nI_clamp (by omega)])
                  obtain ⟨v_8, ev_8⟩ : ∃ y : Int32, y = (nI kk) + (1) := ⟨_, rfl⟩
                  refine lv_iinc (v := v_8) (lv' := [(1, .int v_8), (0, .ref o)]) hx hb d_M_end_155 hl (k := 0) rfl (by rw [ev_8]; rfl) (by decide) rfl (fun _ _ => ?_)
                  clear hl
                  rename_i ls hl
                  have z9 : v_8 = nI (kk + 1) := by rw [ev_8]; exact nI_1 _
                  subst z9
                  refine lv_goto (tgt := 135) hx hb d_M_end_158 (by decide) ?_
                  exact ih9_135 _ (by first | omega | (omega)) (kk + 1) (upd fO (nI kk).toNatClampNeg v_7) rfl (by omega) (hc8) H locs ls (hP.sub [0, 1, 2, 3, 4, 5, 6, 7, 8, 9, 10] rfl) (hD.sub [0, 1, 2, 3, 4, 5, 6, 7, 8, 9, 10] (by decide) rfl) hS (lv_sub hl [0, 1] rfl)
            exact J_135 _ (0 : Nat) vOut rfl (Nat.zero_le _) (fun _ z => absurd z (Nat.not_lt_zero _)) H locs ls (hP.sub [0, 1, 2, 3, 4, 5, 6, 7, 8, 9, 10] rfl) (hD.sub [0, 1, 2, 3, 4, 5, 6, 7, 8, 9, 10] (by decide) rfl) hS (lv_sub hl [0, 1] rfl)
          · exact absurd c_5 (by decide)
        · exact absurd c_4 (by decide)
      · exact absurd c_3 (by decide)
  · exact absurd (by decide) c_1
