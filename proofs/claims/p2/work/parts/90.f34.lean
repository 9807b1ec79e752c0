set_option maxHeartbeats 2000000 in
set_option maxRecDepth 100000 in
theorem c_M_get4 (l : Launch) (dC : Nat → ClassId) (dI : Nat → Nat → Nat) (cI cM cO : ClassId) (sz : Nat) (o : Nat) (g : Nat → Nat) (fForm : Int32) (fShift : Int32) (fModels : Int32) (fItems : Int32) (fEnded : Int32) (fLow : Int64) (fRange : Int64) (fCache : Int32) (fPend : Int32) (fGoes : Int32) (fOuts : Int32) (fIns : Int32) (fReads : Int32) (fBad : Int32) (fIR : Int32) (fAsk : Int32) (fBAsk : Int32) (fCode : Int64) (fRL : Int64) (fRR : Int64) (fX : Int64) (fWrites : Int32) (fThrown : Int32) (vMany : Nat → Int32) (vCounts : Nat → Int32) (vThen : Nat → Int32) (vIn : Nat → Int32) (vSO : Nat → Int32) (vNO : Nat → Int32) (km : Nat) (N : Nat → Nat) (cn : Nat) (p1 : Int32) (hfo : fForm = 4) (hmod : fModels = nI km) (hMD : MD km N vMany vCounts) (hIN : IN fIns vIn) (hcn : cn ≤ 1000) (hU : TB 4 km N vThen) (hRD : ¬ fReads = 0 → fBad = 0 → RD4 cn fAsk fBAsk fX) : MetI l y_M_get (Cond.code y_M_get prog_14_method_56_code 3 (some .int) :: gw) ({ frames := 2, cells := 0, slots := 0, locals := 49 } : Room) (dC, dI) vwCl (kT cI cM cO) [.ref o, .int p1] [(o, .inr (9, mO g fForm fShift fModels fItems fEnded fLow fRange fCache fPend fGoes fOuts fIns fReads fBad fIR fAsk fBAsk fCode fRL fRR fX fWrites fThrown)), ((g 0), .inl (cI, 8, .inl vMany)), ((g 1), .inl (cI, 512, .inl vCounts)), ((g 3), .inl (cI, 512, .inl vThen)), ((g 8), .inl (cI, 6000, .inl vIn)), ((g 9), .inl (cI, 512, .inl vSO)), ((g 10), .inl (cI, 512, .inl vNO))] sz (fun (r : Int32) (u : Int32 × Int32 × Int32 × Int32 × Int64 × Int32 × (Nat → Int32) × (Nat → Int32)) => ¬ fReads = 0 → u.1 = 0 → RD4 (cn + 1) u.2.2.1 u.2.2.2.1 u.2.2.2.2.1) (fun (u : Int32 × Int32 × Int32 × Int32 × Int64 × Int32 × (Nat → Int32) × (Nat → Int32)) => [(o, .inr (9, mO g fForm fShift fModels fItems fEnded fLow fRange fCache fPend fGoes fOuts fIns fReads u.1 u.2.1 u.2.2.1 u.2.2.2.1 fCode fRL fRR u.2.2.2.2.1 fWrites u.2.2.2.2.2.1)), ((g 0), .inl (cI, 8, .inl vMany)), ((g 1), .inl (cI, 512, .inl vCounts)), ((g 3), .inl (cI, 512, .inl vThen)), ((g 8), .inl (cI, 6000, .inl vIn)), ((g 9), .inl (cI, 512, .inl u.2.2.2.2.2.2.1)), ((g 10), .inl (cI, 512, .inl u.2.2.2.2.2.2.2))]) 0 0 := by
  refine my_ofI (cc := prog_14_method_56_code) (n := 3) (ret := (some .int)) (by decide) rfl (Nat.le_of_ble_eq_true rfl) ?_
  intro p e s m args below meth c R Q A ls H locs hx hb hr hts hown hlocks hml hnm hR hQ hA hl hP hK hN hD hS
  have hg : ∀ w ∈ gw, w.before args s = true := fun w h => hts w (List.mem_cons_of_mem _ h)
  have hown : s.vm.findClass "RangeCodersModel" = some m.cls := hown
  have hl : lv_has ls 3 [(0, .ref o), (1, .int p1)] := hl
  subst hfo
  obtain ⟨is, rfl, hIn, hlen, hoct⟩ := hIN
  have hP : va_P (dC, dI) vwCl [(o, .inr (9, mO g 4 fShift fModels fItems fEnded fLow fRange fCache fPend fGoes fOuts (nI is.length) fReads fBad fIR fAsk fBAsk fCode fRL fRR fX fWrites fThrown)), ((g 0), .inl (cI, 8, .inl vMany)), ((g 1), .inl (cI, 512, .inl vCounts)), ((g 3), .inl (cI, 512, .inl vThen)), ((g 8), .inl (cI, 6000, .inl vIn)), ((g 9), .inl (cI, 512, .inl vSO)), ((g 10), .inl (cI, 512, .inl vNO))] H := hP
  have hD : va_D A [(o, .inr (9, mO g 4 fShift fModels fItems fEnded fLow fRange fCache fPend fGoes fOuts (nI is.length) fReads fBad fIR fAsk fBAsk fCode fRL fRR fX fWrites fThrown)), ((g 0), .inl (cI, 8, .inl vMany)), ((g 1), .inl (cI, 512, .inl vCounts)), ((g 3), .inl (cI, 512, .inl vThen)), ((g 8), .inl (cI, 6000, .inl vIn)), ((g 9), .inl (cI, 512, .inl vSO)), ((g 10), .inl (cI, 512, .inl vNO))] := hD
  have hl : lv_has ls 3 [(0, .ref o), (1, .int p1)] := hl
  refine lv_aload_n hx hb d_M_get_0 rfl (lv_at hl 0 rfl) ?_
  refine lv_iconst (v := 0) hx hb d_M_get_1 (by decide) ?_
  refine va_put (D := (dC, dI)) (ci := 9) (v := .int 0) (ty := .int) (C := "RangeCodersModel") (T := T_M) (N := 35) hx hb hg in_M t_M o_M n_M hown hK hP hD hS 0 rfl rfl 34 (by decide) (hg _ k986) (fun _ h9 => h9) rfl (by decide +kernel) rfl rfl (Nat.le_of_ble_eq_true rfl) d_M_get_2 (fun H locs hP hD hS => ?_)
  have hP : va_P (dC, dI) vwCl [(o, .inr (9, mO g 4 fShift fModels fItems fEnded fLow fRange fCache fPend fGoes fOuts (nI is.length) fReads fBad fIR fAsk fBAsk fCode fRL fRR fX fWrites 0)), ((g 0), .inl (cI, 8, .inl vMany)), ((g 1), .inl (cI, 512, .inl vCounts)), ((g 3), .inl (cI, 512, .inl vThen)), ((g 8), .inl (cI, 6000, .inl vIn)), ((g 9), .inl (cI, 512, .inl vSO)), ((g 10), .inl (cI, 512, .inl vNO))] H := hP
  have hD : va_D A [(o, .inr (9, mO g 4 fShift fModels fItems fEnded fLow fRange fCache fPend fGoes fOuts (nI is.length) fReads fBad fIR fAsk fBAsk fCode fRL fRR fX fWrites 0)), ((g 0), .inl (cI, 8, .inl vMany)), ((g 1), .inl (cI, 512, .inl vCounts)), ((g 3), .inl (cI, 512, .inl vThen)), ((g 8), .inl (cI, 6000, .inl vIn)), ((g 9), .inl (cI, 512, .inl vSO)), ((g 10), .inl (cI, 512, .inl vNO))] := hD
  refine lv_aload_n hx hb d_M_get_5 rfl (lv_at hl 0 rfl) ?_
  refine lv_iload_n hx hb d_M_get_6 rfl (lv_at hl 1 rfl) ?_
  refine my_ci (wr := [((g 0), .inl (cI, 8, .inl vMany)), ((g 1), .inl (cI, 512, .inl vCounts)), ((g 3), .inl (cI, 512, .inl vThen)), ((g 8), .inl (cI, 6000, .inl vIn)), ((g 9), .inl (cI, 512, .inl vSO)), ((g 10), .inl (cI, 512, .inl vNO))]) (va_runV (As := [.int p1]) (rest := []) ⟨hx, hb, hml, hown, hts⟩ (c_M_isModel l dC dI cI cM cO H.size o g 4 fShift fModels fItems fEnded fLow fRange fCache fPend fGoes fOuts (nI is.length) fReads fBad fIR fAsk fBAsk fCode fRL fRR fX fWrites 0 p1) (cwV 1 hts (my_gV k1073 k1075 ks26 k12 k1076) rfl rfl rfl (by decide +kernel) ⟨by rw [hR]; exact Nat.le_of_ble_eq_true rfl, by rw [hR]; exact Nat.le_of_ble_eq_true rfl⟩) (my_preV hK hN (hP.sub [0] rfl) (hD.sub [0] (by decide) rfl) 0 rfl rfl) rfl rfl hl.1 rfl (lv_room (Nat.le_of_ble_eq_true rfl)) d_M_get_7 ⟨by rw [hR]; exact Nat.le_of_ble_eq_true rfl, by rw [hR]; exact Nat.le_of_ble_eq_true rfl⟩) hP hD hS hA [0] [1, 2, 3, 4, 5, 6] rfl rfl (by decide) (by decide) (fun r_7 u9 H locs hw_7 hP hD hS => ?_)
  have hw_7 : r_7 = if 0 ≤ p1 ∧ p1 ≤ fModels - 1 then 1 else 0 := hw_7
  have hP : va_P (dC, dI) vwCl [((g 0), .inl (cI, 8, .inl vMany)), ((g 1), .inl (cI, 512, .inl vCounts)), ((g 3), .inl (cI, 512, .inl vThen)), ((g 8), .inl (cI, 6000, .inl vIn)), ((g 9), .inl (cI, 512, .inl vSO)), ((g 10), .inl (cI, 512, .inl vNO)), (o, .inr (9, mO g 4 fShift fModels fItems fEnded fLow fRange fCache fPend fGoes fOuts (nI is.length) fReads fBad fIR fAsk fBAsk fCode fRL fRR fX fWrites 0))] H := hP
  have hD : va_D A [((g 0), .inl (cI, 8, .inl vMany)), ((g 1), .inl (cI, 512, .inl vCounts)), ((g 3), .inl (cI, 512, .inl vThen)), ((g 8), .inl (cI, 6000, .inl vIn)), ((g 9), .inl (cI, 512, .inl vSO)), ((g 10), .inl (cI, 512, .inl vNO)), (o, .inr (9, mO g 4 fShift fModels fItems fEnded fLow fRange fCache fPend fGoes fOuts (nI is.length) fReads fBad fIR fAsk fBAsk fCode fRL fRR fX fWrites 0))] := hD
  refine lv_if_ne (tgt := 15) hx hb d_M_get_10 (by decide) (fun c_1 => ?_) (fun c_1 => ?_)
  · refine lv_aload_n hx hb d_M_get_15 rfl (lv_at hl 0 rfl) ?_
    refine va_get (D := (dC, dI)) (ci := 9) (v := .int fReads) (C := "RangeCodersModel") (T := T_M) (N := 35) hx hb hg in_M hown hK hP 6 rfl rfl 21 (by decide) (hg _ k973) (fun _ h9 => h9) rfl d_M_get_16 ?_
    refine lv_if_ne (tgt := 25) hx hb d_M_get_19 (by decide) (fun c_2 => ?_) (fun c_2 => ?_)
    · refine lv_aload_n hx hb d_M_get_25 rfl (lv_at hl 0 rfl) ?_
      refine va_get (D := (dC, dI)) (ci := 9) (v := .int fBad) (C := "RangeCodersModel") (T := T_M) (N := 35) hx hb hg in_M hown hK hP 6 rfl rfl 22 (by decide) (hg _ k974) (fun _ h9 => h9) rfl d_M_get_26 ?_
      refine lv_if_eq (tgt := 35) hx hb d_M_get_29 (by decide) (fun c_3 => ?_) (fun c_3 => ?_)
      · have hT := hU
        rw [hmod] at hw_7
        obtain ⟨jj, hj, ej⟩ := md_of hMD.1 (one_ne hw_7 c_1)
        subst ej
        have hk8 := hMD.1
        obtain ⟨hn9, hn2, hn64, C9, hc9, hB9⟩ := hMD.2 jj hj
        obtain ⟨X, t, rfl, rfl, rfl, hX0, hX1, hq⟩ := hRD c_2 c_3
        have hP : va_P (dC, dI) vwCl [((g 0), .inl (cI, 8, .inl vMany)), ((g 1), .inl (cI, 512, .inl vCounts)), ((g 3), .inl (cI, 512, .inl vThen)), ((g 8), .inl (cI, 6000, .inl vIn)), ((g 9), .inl (cI, 512, .inl vSO)), ((g 10), .inl (cI, 512, .inl vNO)), (o, .inr (9, mO g 4 fShift fModels fItems fEnded fLow fRange fCache fPend fGoes fOuts (nI is.length) fReads fBad fIR (nI ((t + 7) / 8)) (nI t) fCode fRL fRR (lN X) fWrites 0))] H := hP
        have hD : va_D A [((g 0), .inl (cI, 8, .inl vMany)), ((g 1), .inl (cI, 512, .inl vCounts)), ((g 3), .inl (cI, 512, .inl vThen)), ((g 8), .inl (cI, 6000, .inl vIn)), ((g 9), .inl (cI, 512, .inl vSO)), ((g 10), .inl (cI, 512, .inl vNO)), (o, .inr (9, mO g 4 fShift fModels fItems fEnded fLow fRange fCache fPend fGoes fOuts (nI is.length) fReads fBad fIR (nI ((t + 7) / 8)) (nI t) fCode fRL fRR (lN X) fWrites 0))] := hD
        obtain ⟨F9, hF⟩ := hT jj hj
        obtain ⟨hF9, hs9⟩ := tab_4 hF
        refine lv_aload_n hx hb d_M_get_35 rfl (lv_at hl 0 rfl) ?_
        refine va_get (D := (dC, dI)) (ci := 9) (v := .int 4) (C := "RangeCodersModel") (T := T_M) (N := 35) hx hb hg in_M hown hK hP 6 rfl rfl 0 (by decide) (hg _ k952) (fun _ h9 => h9) rfl d_M_get_36 ?_
        refine lv_iconst (v := 2) hx hb d_M_get_39 (by decide) ?_
        refine lv_icmp_ge (tgt := 51) hx hb d_M_get_40 (by decide) (fun c_4 => ?_) (fun c_4 => ?_)
        · refine lv_aload_n hx hb d_M_get_51 rfl (lv_at hl 0 rfl) ?_
          refine va_get (D := (dC, dI)) (ci := 9) (v := .int 4) (C := "RangeCodersModel") (T := T_M) (N := 35) hx hb hg in_M hown hK hP 6 rfl rfl 0 (by decide) (hg _ k952) (fun _ h9 => h9) rfl d_M_get_52 ?_
          refine lv_iconst (v := 2) hx hb d_M_get_55 (by decide) ?_
          refine lv_icmp_ne (tgt := 67) hx hb d_M_get_56 (by decide) (fun c_5 => ?_) (fun c_5 => ?_)
          · refine lv_aload_n hx hb d_M_get_67 rfl (lv_at hl 0 rfl) ?_
            refine va_get (D := (dC, dI)) (ci := 9) (v := .int 4) (C := "RangeCodersModel") (T := T_M) (N := 35) hx hb hg in_M hown hK hP 6 rfl rfl 0 (by decide) (hg _ k952) (fun _ h9 => h9) rfl d_M_get_68 ?_
            refine lv_iconst (v := 3) hx hb d_M_get_71 (by decide) ?_
            refine lv_icmp_ne (tgt := 83) hx hb d_M_get_72 (by decide) (fun c_6 => ?_) (fun c_6 => ?_)
            · refine lv_aload_n hx hb d_M_get_83 rfl (lv_at hl 0 rfl) ?_
              refine lv_iload_n hx hb d_M_get_84 rfl (lv_at hl 1 rfl) ?_
              refine my_ci (wr := [((g 1), .inl (cI, 512, .inl vCounts))]) (va_runV (As := [.int (nI jj)]) (rest := []) ⟨hx, hb, hml, hown, hts⟩ (c_M_getTabled l dC dI cI cM cO H.size o g 4 fShift fModels fItems fEnded fLow fRange fCache fPend fGoes fOuts fReads fBad fIR fCode fRL fRR fWrites 0 vMany vThen vIn vSO vNO jj (N jj) F9 X t is (by omega) (hn9) (hn64) (hIn) (hlen) (hoct) (by omega) (hF9) (hs9) (hX0) (hX1) (gt4_F hX1)) (cwV 1 hts (my_gV k1248 k1250 ks57 k12 k1251) rfl rfl rfl (by decide +kernel) ⟨by rw [hR]; exact Nat.le_of_ble_eq_true rfl, by rw [hR]; exact Nat.le_of_ble_eq_true rfl⟩) (my_preV hK hN (hP.sub [6, 0, 2, 3, 4, 5] rfl) (hD.sub [6, 0, 2, 3, 4, 5] (by decide) rfl) 0 rfl rfl) rfl rfl hl.1 rfl (lv_room (Nat.le_of_ble_eq_true rfl)) d_M_get_85 ⟨by rw [hR]; exact Nat.le_of_ble_eq_true rfl, by rw [hR]; exact Nat.le_of_ble_eq_true rfl⟩) hP hD hS hA [6, 0, 2, 3, 4, 5] [1] rfl rfl (by decide) (by decide) (fun r_85 u9 H locs hw_85 hP hD hS => ?_)
              obtain ⟨so2_85, no2_85⟩ := u9
              have hw_85 : r_85 = oI (gt4 is (N jj) F9 X t).1 := hw_85
              have hP : va_P (dC, dI) vwCl [((g 1), .inl (cI, 512, .inl vCounts)), (o, .inr (9, mO g 4 fShift fModels fItems fEnded fLow fRange fCache fPend fGoes fOuts (nI is.length) fReads fBad fIR (nI (((gt4 is (N jj) F9 X t).2.2 + 7) / 8)) (nI (gt4 is (N jj) F9 X t).2.2) fCode fRL fRR (lN (gt4 is (N jj) F9 X t).2.1) fWrites 0)), ((g 0), .inl (cI, 8, .inl vMany)), ((g 3), .inl (cI, 512, .inl vThen)), ((g 8), .inl (cI, 6000, .inl vIn)), ((g 9), .inl (cI, 512, .inl so2_85)), ((g 10), .inl (cI, 512, .inl no2_85))] H := hP
              have hD : va_D A [((g 1), .inl (cI, 512, .inl vCounts)), (o, .inr (9, mO g 4 fShift fModels fItems fEnded fLow fRange fCache fPend fGoes fOuts (nI is.length) fReads fBad fIR (nI (((gt4 is (N jj) F9 X t).2.2 + 7) / 8)) (nI (gt4 is (N jj) F9 X t).2.2) fCode fRL fRR (lN (gt4 is (N jj) F9 X t).2.1) fWrites 0)), ((g 0), .inl (cI, 8, .inl vMany)), ((g 3), .inl (cI, 512, .inl vThen)), ((g 8), .inl (cI, 6000, .inl vIn)), ((g 9), .inl (cI, 512, .inl so2_85)), ((g 10), .inl (cI, 512, .inl no2_85))] := hD
              have hg9 := gt4_ok (is := is) (t := t) hs9 hX0 hX1
              refine lv_istore_n (lv' := [(2, .int r_85), (0, .ref o), (1, .int (nI jj))]) hx hb d_M_get_88 rfl hl (by decide) rfl (fun ls hl => ?_)
              refine lv_iload_n hx hb d_M_get_89 rfl (lv_at hl 0 rfl) ?_
              refine lv_if_ge (tgt := 98) hx hb d_M_get_90 (by decide) (fun c_7 => ?_) (fun c_7 => ?_)
              · refine lv_aload_n hx hb d_M_get_98 rfl (lv_at hl 1 rfl) ?_
                refine lv_dup hx hb d_M_get_99 rfl ?_
                refine va_get (D := (dC, dI)) (ci := 9) (v := .int fIR) (C := "RangeCodersModel") (T := T_M) (N := 35) hx hb hg in_M hown hK hP 1 rfl rfl 23 (by decide) (hg _ k975) (fun _ h9 => h9) rfl d_M_get_100 ?_
                refine lv_iconst (v := 1) hx hb d_M_get_103 (by decide) ?_
                refine lv_iadd hx hb d_M_get_104 ?_
                refine lv_topi (fun v_8 ev_8 => ?_)
                refine va_put (D := (dC, dI)) (ci := 9) (v := .int v_8) (ty := .int) (C := "RangeCodersModel") (T := T_M) (N := 35) hx hb hg in_M t_M o_M n_M hown hK hP hD hS 1 rfl rfl 23 (by decide) (hg _ k975) (fun _ h9 => h9) rfl (by decide +kernel) rfl rfl (Nat.le_of_ble_eq_true rfl) d_M_get_105 (fun H locs hP hD hS => ?_)
                have hP : va_P (dC, dI) vwCl [((g 1), .inl (cI, 512, .inl vCounts)), (o, .inr (9, mO g 4 fShift fModels fItems fEnded fLow fRange fCache fPend fGoes fOuts (nI is.length) fReads fBad v_8 (nI (((gt4 is (N jj) F9 X t).2.2 + 7) / 8)) (nI (gt4 is (N jj) F9 X t).2.2) fCode fRL fRR (lN (gt4 is (N jj) F9 X t).2.1) fWrites 0)), ((g 0), .inl (cI, 8, .inl vMany)), ((g 3), .inl (cI, 512, .inl vThen)), ((g 8), .inl (cI, 6000, .inl vIn)), ((g 9), .inl (cI, 512, .inl so2_85)), ((g 10), .inl (cI, 512, .inl no2_85))] H := hP
                have hD : va_D A [((g 1), .inl (cI, 512, .inl vCounts)), (o, .inr (9, mO g 4 fShift fModels fItems fEnded fLow fRange fCache fPend fGoes fOuts (nI is.length) fReads fBad v_8 (nI (((gt4 is (N jj) F9 X t).2.2 + 7) / 8)) (nI (gt4 is (N jj) F9 X t).2.2) fCode fRL fRR (lN (gt4 is (N jj) F9 X t).2.1) fWrites 0)), ((g 0), .inl (cI, 8, .inl vMany)), ((g 3), .inl (cI, 512, .inl vThen)), ((g 8), .inl (cI, 6000, .inl vIn)), ((g 9), .inl (cI, 512, .inl so2_85)), ((g 10), .inl (cI, 512, .inl no2_85))] := hD
                refine lv_iload_n hx hb d_M_get_108 rfl (lv_at hl 0 rfl) ?_
                exact my_iret (v := r_85) hx hb hr (rfl) hlocks hQ hK hS (Nat.le_refl _) (Nat.le_refl _) (fBad, v_8, nI (((gt4 is (N jj) F9 X t).2.2 + 7) / 8), nI (gt4 is (N jj) F9 X t).2.2, lN (gt4 is (N jj) F9 X t).2.1, (0 : Int32), so2_85, no2_85) (fun _ _ => ⟨_, _, rfl, rfl, rfl, hg9.1, hg9.2.1, by omega⟩) (hP.sub [1, 2, 0, 3, 4, 5, 6] rfl) (hD.sub [1, 2, 0, 3, 4, 5, 6] (by decide) rfl) d_M_get_109
              · refine lv_aload_n hx hb d_M_get_93 rfl (lv_at hl 1 rfl) ?_
                refine my_ci (wr := [((g 1), .inl (cI, 512, .inl vCounts)), ((g 0), .inl (cI, 8, .inl vMany)), ((g 3), .inl (cI, 512, .inl vThen)), ((g 8), .inl (cI, 6000, .inl vIn)), ((g 9), .inl (cI, 512, .inl so2_85)), ((g 10), .inl (cI, 512, .inl no2_85))]) (va_runV (As := []) (rest := []) ⟨hx, hb, hml, hown, hts⟩ (c_M_spoiled l dC dI cI cM cO H.size o g 4 fShift fModels fItems fEnded fLow fRange fCache fPend fGoes fOuts (nI is.length) fReads fBad fIR (nI (((gt4 is (N jj) F9 X t).2.2 + 7) / 8)) (nI (gt4 is (N jj) F9 X t).2.2) fCode fRL fRR (lN (gt4 is (N jj) F9 X t).2.1) fWrites 0) (cwV 0 hts (my_gV k1252 k1254 ks58 k12 k1255) rfl rfl rfl (by decide +kernel) ⟨by rw [hR]; exact Nat.le_of_ble_eq_true rfl, by rw [hR]; exact Nat.le_of_ble_eq_true rfl⟩) (my_preV hK hN (hP.sub [1] rfl) (hD.sub [1] (by decide) rfl) 0 rfl rfl) rfl rfl hl.1 rfl (lv_room (Nat.le_of_ble_eq_true rfl)) d_M_get_94 ⟨by rw [hR]; exact Nat.le_of_ble_eq_true rfl, by rw [hR]; exact Nat.le_of_ble_eq_true rfl⟩) hP hD hS hA [1] [0, 2, 3, 4, 5, 6] rfl rfl (by decide) (by decide) (fun r_94 u9 H locs hw_94 hP hD hS => ?_)
                have hw_94 : r_94 = -5 := hw_94
                have hP : va_P (dC, dI) vwCl [((g 1), .inl (cI, 512, .inl vCounts)), ((g 0), .inl (cI, 8, .inl vMany)), ((g 3), .inl (cI, 512, .inl vThen)), ((g 8), .inl (cI, 6000, .inl vIn)), ((g 9), .inl (cI, 512, .inl so2_85)), ((g 10), .inl (cI, 512, .inl no2_85)), (o, .inr (9, mO g 4 fShift fModels fItems fEnded fLow fRange fCache fPend fGoes fOuts (nI is.length) fReads 1 fIR (nI (((gt4 is (N jj) F9 X t).2.2 + 7) / 8)) (nI (gt4 is (N jj) F9 X t).2.2) fCode fRL fRR (lN (gt4 is (N jj) F9 X t).2.1) fWrites 0))] H := hP
                have hD : va_D A [((g 1), .inl (cI, 512, .inl vCounts)), ((g 0), .inl (cI, 8, .inl vMany)), ((g 3), .inl (cI, 512, .inl vThen)), ((g 8), .inl (cI, 6000, .inl vIn)), ((g 9), .inl (cI, 512, .inl so2_85)), ((g 10), .inl (cI, 512, .inl no2_85)), (o, .inr (9, mO g 4 fShift fModels fItems fEnded fLow fRange fCache fPend fGoes fOuts (nI is.length) fReads 1 fIR (nI (((gt4 is (N jj) F9 X t).2.2 + 7) / 8)) (nI (gt4 is (N jj) F9 X t).2.2) fCode fRL fRR (lN (gt4 is (N jj) F9 X t).2.1) fWrites 0))] := hD
                exact my_iret (v := r_94) hx hb hr (rfl) hlocks hQ hK hS (Nat.le_refl _) (Nat.le_refl _) ((1 : Int32), fIR, (nI (((gt4 is (N jj) F9 X t).2.2 + 7) / 8)), (nI (gt4 is (N jj) F9 X t).2.2), (lN (gt4 is (N jj) F9 X t).2.1), (0 : Int32), so2_85, no2_85) (fun z1 z2 => absurd z2 (show ¬ (1 : Int32) = 0 by decide)) (hP.sub [6, 1, 0, 2, 3, 4, 5] rfl) (hD.sub [6, 1, 0, 2, 3, 4, 5] (by decide) rfl) d_M_get_97
            · exact absurd c_6 (by decide)
          · exact absurd c_5 (by decide)
        · exact absurd (by decide) c_4
      · refine lv_bipush (v := (-5)) hx hb d_M_get_32 (by decide) ?_
        exact my_iret (v := (-5)) hx hb hr (rfl) hlocks hQ hK hS (Nat.le_refl _) (Nat.le_refl _) (fBad, fIR, fAsk, fBAsk, fX, (0 : Int32), vSO, vNO) (fun z1 z2 => absurd z2 c_3) (hP.sub [6, 0, 1, 2, 3, 4, 5] rfl) (hD.sub [6, 0, 1, 2, 3, 4, 5] (by decide) rfl) d_M_get_34
    · refine lv_bipush (v := (-3)) hx hb d_M_get_22 (by decide) ?_
      exact my_iret (v := (-3)) hx hb hr (rfl) hlocks hQ hK hS (Nat.le_refl _) (Nat.le_refl _) (fBad, fIR, fAsk, fBAsk, fX, (0 : Int32), vSO, vNO) (fun z1 z2 => absurd c_2 z1) (hP.sub [6, 0, 1, 2, 3, 4, 5] rfl) (hD.sub [6, 0, 1, 2, 3, 4, 5] (by decide) rfl) d_M_get_24
  · refine lv_iconst (v := (-1)) hx hb d_M_get_13 (by decide) ?_
    exact my_iret (v := (-1)) hx hb hr (rfl) hlocks hQ hK hS (Nat.le_refl _) (Nat.le_refl _) (fBad, fIR, fAsk, fBAsk, fX, (0 : Int32), vSO, vNO) (fun z1 z2 => RD4_up (hRD z1 z2)) (hP.sub [6, 0, 1, 2, 3, 4, 5] rfl) (hD.sub [6, 0, 1, 2, 3, 4, 5] (by decide) rfl) d_M_get_14
set_option maxHeartbeats 2000000 in
set_option maxRecDepth 100000 in
theorem c_M_put3 (l : Launch) (dC : Nat → ClassId) (dI : Nat → Nat → Nat) (cI cM cO : ClassId) (sz : Nat) (o : Nat) (g : Nat → Nat) (fForm : Int32) (fShift : Int32) (fModels : Int32) (fItems : Int32) (fEnded : Int32) (fLow : Int64) (fRange : Int64) (fCache : Int32) (fPend : Int32) (fGoes : Int32) (fOuts : Int32) (fIns : Int32) (fReads : Int32) (fBad : Int32) (fIR : Int32) (fAsk : Int32) (fBAsk : Int32) (fCode : Int64) (fRL : Int64) (fRR : Int64) (fX : Int64) (fWrites : Int32) (fThrown : Int32) (vMany : Nat → Int32) (vCounts : Nat → Int32) (vNow : Nat → Int32) (vIM : Nat → Int32) (vIW : Nat → Int32) (km : Nat) (N : Nat → Nat) (p1 : Int32) (p2 : Int32) (hfo : fForm = 3) (hen : fEnded = 0) (hmod : fModels = nI km) (hMD : MD km N vMany vCounts) (hT : TB 3 km N vNow) (hI : MI3 4096 12 km N fItems fGoes vIM vIW vNow) : MetI l y_M_put (Cond.code y_M_put prog_14_method_29_code 3 (some .int) :: gw) ({ frames := 3, cells := 0, slots := 0, locals := 65 } : Room) (dC, dI) vwCl (kT cI cM cO) [.ref o, .int p1, .int p2] [(o, .inr (9, mO g fForm fShift fModels fItems fEnded fLow fRange fCache fPend fGoes fOuts fIns fReads fBad fIR fAsk fBAsk fCode fRL fRR fX fWrites fThrown)), ((g 0), .inl (cI, 8, .inl vMany)), ((g 1), .inl (cI, 512, .inl vCounts)), ((g 2), .inl (cI, 512, .inl vNow)), ((g 4), .inl (cI, 600, .inl vIM)), ((g 5), .inl (cI, 600, .inl vIW))] sz (fun (r : Int32) (u : Int32 × Int32 × (Nat → Int32) × (Nat → Int32)) => MI3 4096 12 km N u.1 fGoes u.2.2.1 u.2.2.2 vNow) (fun (u : Int32 × Int32 × (Nat → Int32) × (Nat → Int32)) => [(o, .inr (9, mO g fForm fShift fModels u.1 fEnded fLow fRange fCache fPend fGoes fOuts fIns fReads fBad fIR fAsk fBAsk fCode fRL fRR fX fWrites u.2.1)), ((g 0), .inl (cI, 8, .inl vMany)), ((g 1), .inl (cI, 512, .inl vCounts)), ((g 2), .inl (cI, 512, .inl vNow)), ((g 4), .inl (cI, 600, .inl u.2.2.1)), ((g 5), .inl (cI, 600, .inl u.2.2.2))]) 0 0 := by
  refine my_ofI (cc := prog_14_method_29_code) (n := 3) (ret := (some .int)) (by decide) rfl (Nat.le_of_ble_eq_true rfl) ?_
  intro p e s m args below meth c R Q A ls H locs hx hb hr hts hown hlocks hml hnm hR hQ hA hl hP hK hN hD hS
  have hg : ∀ w ∈ gw, w.before args s = true := fun w h => hts w (List.mem_cons_of_mem _ h)
  have hown : s.vm.findClass "RangeCodersModel" = some m.cls := hown
  have hl : lv_has ls 3 [(0, .ref o), (1, .int p1), (2, .int p2)] := hl
  subst hfo
  subst hen
  obtain ⟨its, hki, rfl, rfl, hit, hok⟩ := hI
  have hP : va_P (dC, dI) vwCl [(o, .inr (9, mO g 3 fShift fModels (nI its.length) 0 fLow fRange fCache fPend 0 fOuts fIns fReads fBad fIR fAsk fBAsk fCode fRL fRR fX fWrites fThrown)), ((g 0), .inl (cI, 8, .inl vMany)), ((g 1), .inl (cI, 512, .inl vCounts)), ((g 2), .inl (cI, 512, .inl vNow)), ((g 4), .inl (cI, 600, .inl vIM)), ((g 5), .inl (cI, 600, .inl vIW))] H := hP
  have hD : va_D A [(o, .inr (9, mO g 3 fShift fModels (nI its.length) 0 fLow fRange fCache fPend 0 fOuts fIns fReads fBad fIR fAsk fBAsk fCode fRL fRR fX fWrites fThrown)), ((g 0), .inl (cI, 8, .inl vMany)), ((g 1), .inl (cI, 512, .inl vCounts)), ((g 2), .inl (cI, 512, .inl vNow)), ((g 4), .inl (cI, 600, .inl vIM)), ((g 5), .inl (cI, 600, .inl vIW))] := hD
  have hl : lv_has ls 3 [(0, .ref o), (1, .int p1), (2, .int p2)] := hl
  refine lv_aload_n hx hb d_M_put_0 rfl (lv_at hl 0 rfl) ?_
  refine lv_iconst (v := 0) hx hb d_M_put_1 (by decide) ?_
  refine va_put (D := (dC, dI)) (ci := 9) (v := .int 0) (ty := .int) (C := "RangeCodersModel") (T := T_M) (N := 35) hx hb hg in_M t_M o_M n_M hown hK hP hD hS 0 rfl rfl 34 (by decide) (hg _ k986) (fun _ h9 => h9) rfl (by decide +kernel) rfl rfl (Nat.le_of_ble_eq_true rfl) d_M_put_2 (fun H locs hP hD hS => ?_)
  have hP : va_P (dC, dI) vwCl [(o, .inr (9, mO g 3 fShift fModels (nI its.length) 0 fLow fRange fCache fPend 0 fOuts fIns fReads fBad fIR fAsk fBAsk fCode fRL fRR fX fWrites 0)), ((g 0), .inl (cI, 8, .inl vMany)), ((g 1), .inl (cI, 512, .inl vCounts)), ((g 2), .inl (cI, 512, .inl vNow)), ((g 4), .inl (cI, 600, .inl vIM)), ((g 5), .inl (cI, 600, .inl vIW))] H := hP
  have hD : va_D A [(o, .inr (9, mO g 3 fShift fModels (nI its.length) 0 fLow fRange fCache fPend 0 fOuts fIns fReads fBad fIR fAsk fBAsk fCode fRL fRR fX fWrites 0)), ((g 0), .inl (cI, 8, .inl vMany)), ((g 1), .inl (cI, 512, .inl vCounts)), ((g 2), .inl (cI, 512, .inl vNow)), ((g 4), .inl (cI, 600, .inl vIM)), ((g 5), .inl (cI, 600, .inl vIW))] := hD
  refine lv_aload_n hx hb d_M_put_5 rfl (lv_at hl 0 rfl) ?_
  refine lv_iload_n hx hb d_M_put_6 rfl (lv_at hl 1 rfl) ?_
  refine lv_iload_n hx hb d_M_put_7 rfl (lv_at hl 2 rfl) ?_
  refine my_ci (wr := [((g 1), .inl (cI, 512, .inl vCounts)), ((g 2), .inl (cI, 512, .inl vNow)), ((g 4), .inl (cI, 600, .inl vIM)), ((g 5), .inl (cI, 600, .inl vIW))]) (va_runV (As := [.int p1, .int p2]) (rest := []) ⟨hx, hb, hml, hown, hts⟩ (c_M_isSign l dC dI cI cM cO H.size o g 3 fShift fModels (nI its.length) 0 fLow fRange fCache fPend 0 fOuts fIns fReads fBad fIR fAsk fBAsk fCode fRL fRR fX fWrites 0 vMany km p1 p2 (hMD.1) (by first | assumption | omega)) (cwV 2 hts (my_gV k1069 k1071 ks25 k12 k1072) rfl rfl rfl (by decide +kernel) ⟨by rw [hR]; exact Nat.le_of_ble_eq_true rfl, by rw [hR]; exact Nat.le_of_ble_eq_true rfl⟩) (my_preV hK hN (hP.sub [0, 1] rfl) (hD.sub [0, 1] (by decide) rfl) 0 rfl rfl) rfl rfl hl.1 rfl (lv_room (Nat.le_of_ble_eq_true rfl)) d_M_put_8 ⟨by rw [hR]; exact Nat.le_of_ble_eq_true rfl, by rw [hR]; exact Nat.le_of_ble_eq_true rfl⟩) hP hD hS hA [0, 1] [2, 3, 4, 5] rfl rfl (by decide) (by decide) (fun r_8 u9 H locs hw_8 hP hD hS => ?_)
  have hw_8 : r_8 = if isN km p1 ∧ (0 ≤ p2 ∧ p2 ≤ vMany p1.toNatClampNeg - 1) then 1 else 0 := hw_8
  have hP : va_P (dC, dI) vwCl [((g 1), .inl (cI, 512, .inl vCounts)), ((g 2), .inl (cI, 512, .inl vNow)), ((g 4), .inl (cI, 600, .inl vIM)), ((g 5), .inl (cI, 600, .inl vIW)), (o, .inr (9, mO g 3 fShift fModels (nI its.length) 0 fLow fRange fCache fPend 0 fOuts fIns fReads fBad fIR fAsk fBAsk fCode fRL fRR fX fWrites 0)), ((g 0), .inl (cI, 8, .inl vMany))] H := hP
  have hD : va_D A [((g 1), .inl (cI, 512, .inl vCounts)), ((g 2), .inl (cI, 512, .inl vNow)), ((g 4), .inl (cI, 600, .inl vIM)), ((g 5), .inl (cI, 600, .inl vIW)), (o, .inr (9, mO g 3 fShift fModels (nI its.length) 0 fLow fRange fCache fPend 0 fOuts fIns fReads fBad fIR fAsk fBAsk fCode fRL fRR fX fWrites 0)), ((g 0), .inl (cI, 8, .inl vMany))] := hD
  refine lv_if_ne (tgt := 16) hx hb d_M_put_11 (by decide) (fun c_1 => ?_) (fun c_1 => ?_)
  · obtain ⟨jj, tt, hj, ej, ht, et⟩ := sg_of hMD (one_ne hw_8 c_1)
    subst ej
    subst et
    have hk8 := hMD.1
    obtain ⟨hn9, hn2, hn64, C9, hc9, hB9⟩ := hMD.2 jj hj
    refine lv_aload_n hx hb d_M_put_16 rfl (lv_at hl 0 rfl) ?_
    refine va_get (D := (dC, dI)) (ci := 9) (v := .int 0) (C := "RangeCodersModel") (T := T_M) (N := 35) hx hb hg in_M hown hK hP 4 rfl rfl 10 (by decide) (hg _ k962) (fun _ h9 => h9) rfl d_M_put_17 ?_
    refine lv_if_ne (tgt := 45) hx hb d_M_put_20 (by decide) (fun c_2 => ?_) (fun c_2 => ?_)
    · exact absurd rfl c_2
    · refine lv_aload_n hx hb d_M_put_23 rfl (lv_at hl 0 rfl) ?_
      refine va_get (D := (dC, dI)) (ci := 9) (v := .int 3) (C := "RangeCodersModel") (T := T_M) (N := 35) hx hb hg in_M hown hK hP 4 rfl rfl 0 (by decide) (hg _ k952) (fun _ h9 => h9) rfl d_M_put_24 ?_
      refine lv_iconst (v := 2) hx hb d_M_put_27 (by decide) ?_
      refine lv_icmp_eq (tgt := 48) hx hb d_M_put_28 (by decide) (fun c_3 => ?_) (fun c_3 => ?_)
      · exact absurd c_3 (by decide)
      · refine lv_aload_n hx hb d_M_put_31 rfl (lv_at hl 0 rfl) ?_
        refine va_get (D := (dC, dI)) (ci := 9) (v := .ref (g 2)) (C := "RangeCodersModel") (T := T_M) (N := 35) hx hb hg in_M hown hK hP 4 rfl rfl 5 (by decide) (hg _ k957) (fun _ h9 => h9) rfl d_M_put_32 ?_
        refine lv_bipush (v := 64) hx hb d_M_put_35 (by decide) ?_
        refine lv_iload_n hx hb d_M_put_37 rfl (lv_at hl 1 rfl) ?_
        refine lv_imul hx hb d_M_put_38 ?_
        refine lv_topi (fun v_4 ev_4 => ?_)
        refine lv_iload_n hx hb d_M_put_39 rfl (lv_at hl 2 rfl) ?_
        refine lv_iadd hx hb d_M_put_40 ?_
        refine lv_topi (fun v_5 ev_5 => ?_)
        have hix : v_5 = nI (64 * jj + tt) := by rw [ev_5, ev_4]; exact ix64
        refine va_iald hx hb hK hP 1 0 rfl rfl (by rw [hix]; exact vp_in_nI (by omega) (by decide)) d_M_put_41 ?_
        refine lv_topi (fun v_6 ev_6 => ?_)
        obtain ⟨F9, hF⟩ := hT jj hj
        obtain ⟨hF9, hs9⟩ := tab_3 hF
        have z9 : v_6 = nI (F9 tt) := by rw [ev_6, hix, nI_clamp (by omega)]; exact hF9 tt ht
        subst z9
        refine lv_if_ne (tgt := 48) hx hb d_M_put_42 (by decide) (fun c_7 => ?_) (fun c_7 => ?_)
        · have hFp : 0 < F9 tt := nI_nz c_7
          refine lv_aload_n hx hb d_M_put_48 rfl (lv_at hl 0 rfl) ?_
          refine va_get (D := (dC, dI)) (ci := 9) (v := .int (nI its.length)) (C := "RangeCodersModel") (T := T_M) (N := 35) hx hb hg in_M hown hK hP 4 rfl rfl 7 (by decide) (hg _ k959) (fun _ h9 => h9) rfl d_M_put_49 ?_
          refine lv_sipush (v := 600) hx hb d_M_put_52 (by decide) ?_
          refine lv_icmp_ne (tgt := 61) hx hb d_M_put_55 (by decide) (fun c_8 => ?_) (fun c_8 => ?_)
          · have hk6 : its.length < 600 := nI_600 hki c_8
            refine lv_aload_n hx hb d_M_put_61 rfl (lv_at hl 0 rfl) ?_
            refine lv_iload_n hx hb d_M_put_62 rfl (lv_at hl 1 rfl) ?_
            refine lv_iload_n hx hb d_M_put_63 rfl (lv_at hl 2 rfl) ?_
            refine my_cv (wr := [((g 1), .inl (cI, 512, .inl vCounts)), ((g 2), .inl (cI, 512, .inl vNow)), ((g 4), .inl (cI, 600, .inl vIM)), ((g 5), .inl (cI, 600, .inl vIW)), ((g 0), .inl (cI, 8, .inl vMany))]) (va_runV (As := [.int (nI jj), .int (nI tt)]) (rest := []) ⟨hx, hb, hml, hown, hts⟩ (c_M_putSign3 l dC dI cI cM cO H.size o g fShift fModels (nI its.length) 0 fLow fRange fCache fPend 0 fOuts fIns fReads fBad fIR fAsk fBAsk fCode fRL fRR fX fWrites 0 (nI jj) (nI tt)) (cwV 2 hts (my_gV k1085 k1087 ks27 k12 k1088) rfl rfl rfl (by decide +kernel) ⟨by rw [hR]; exact Nat.le_of_ble_eq_true rfl, by rw [hR]; exact Nat.le_of_ble_eq_true rfl⟩) (my_preV hK hN (hP.sub [4] rfl) (hD.sub [4] (by decide) rfl) 0 rfl rfl) rfl rfl hl.1 rfl (lv_room (Nat.le_of_ble_eq_true rfl)) d_M_put_64 ⟨by rw [hR]; exact Nat.le_of_ble_eq_true rfl, by rw [hR]; exact Nat.le_of_ble_eq_true rfl⟩) hP hD hS hA [4] [0, 1, 2, 3, 5] rfl rfl (by decide) (by decide) (fun u9 H locs hw_64 hP hD hS => ?_)
            have hw_64 : True := hw_64
            have hP : va_P (dC, dI) vwCl [((g 1), .inl (cI, 512, .inl vCounts)), ((g 2), .inl (cI, 512, .inl vNow)), ((g 4), .inl (cI, 600, .inl vIM)), ((g 5), .inl (cI, 600, .inl vIW)), ((g 0), .inl (cI, 8, .inl vMany)), (o, .inr (9, mO g 3 fShift fModels (nI its.length) 0 fLow fRange fCache fPend 0 fOuts fIns fReads fBad fIR fAsk fBAsk fCode fRL fRR fX fWrites 0))] H := hP
            have hD : va_D A [((g 1), .inl (cI, 512, .inl vCounts)), ((g 2), .inl (cI, 512, .inl vNow)), ((g 4), .inl (cI, 600, .inl vIM)), ((g 5), .inl (cI, 600, .inl vIW)), ((g 0), .inl (cI, 8, .inl vMany)), (o, .inr (9, mO g 3 fShift fModels (nI its.length) 0 fLow fRange fCache fPend 0 fOuts fIns fReads fBad fIR fAsk fBAsk fCode fRL fRR fX fWrites 0))] := hD
            refine lv_aload_n hx hb d_M_put_67 rfl (lv_at hl 0 rfl) ?_
            refine lv_iload_n hx hb d_M_put_68 rfl (lv_at hl 1 rfl) ?_
            refine lv_iload_n hx hb d_M_put_69 rfl (lv_at hl 2 rfl) ?_
            refine my_ci (wr := [((g 1), .inl (cI, 512, .inl vCounts)), ((g 2), .inl (cI, 512, .inl vNow)), ((g 0), .inl (cI, 8, .inl vMany))]) (va_runV (As := [.int (nI jj), .int (nI tt)]) (rest := []) ⟨hx, hb, hml, hown, hts⟩ (c_M_addItem l dC dI cI cM cO H.size o g 3 fShift fModels 0 fLow fRange fCache fPend 0 fOuts fIns fReads fBad fIR fAsk fBAsk fCode fRL fRR fX fWrites 0 vIM vIW its.length (nI jj) (nI tt) (hk6)) (cwV 2 hts (my_gV k1135 k1137 ks38 k12 k1138) rfl rfl rfl (by decide +kernel) ⟨by rw [hR]; exact Nat.le_of_ble_eq_true rfl, by rw [hR]; exact Nat.le_of_ble_eq_true rfl⟩) (my_preV hK hN (hP.sub [5, 2, 3] rfl) (hD.sub [5, 2, 3] (by decide) rfl) 0 rfl rfl) rfl rfl hl.1 rfl (lv_room (Nat.le_of_ble_eq_true rfl)) d_M_put_70 ⟨by rw [hR]; exact Nat.le_of_ble_eq_true rfl, by rw [hR]; exact Nat.le_of_ble_eq_true rfl⟩) hP hD hS hA [5, 2, 3] [0, 1, 4] rfl rfl (by decide) (by decide) (fun r_70 u9 H locs hw_70 hP hD hS => ?_)
            obtain ⟨f2_70, v2_70⟩ := u9
            have hw_70 : r_70 = nI (its.length + 1) ∧ f2_70 = upd vIM its.length (nI jj) ∧ v2_70 = upd vIW its.length (nI tt) := hw_70
            have hP : va_P (dC, dI) vwCl [((g 1), .inl (cI, 512, .inl vCounts)), ((g 2), .inl (cI, 512, .inl vNow)), ((g 0), .inl (cI, 8, .inl vMany)), (o, .inr (9, mO g 3 fShift fModels (nI (its.length + 1)) 0 fLow fRange fCache fPend 0 fOuts fIns fReads fBad fIR fAsk fBAsk fCode fRL fRR fX fWrites 0)), ((g 4), .inl (cI, 600, .inl f2_70)), ((g 5), .inl (cI, 600, .inl v2_70))] H := hP
            have hD : va_D A [((g 1), .inl (cI, 512, .inl vCounts)), ((g 2), .inl (cI, 512, .inl vNow)), ((g 0), .inl (cI, 8, .inl vMany)), (o, .inr (9, mO g 3 fShift fModels (nI (its.length + 1)) 0 fLow fRange fCache fPend 0 fOuts fIns fReads fBad fIR fAsk fBAsk fCode fRL fRR fX fWrites 0)), ((g 4), .inl (cI, 600, .inl f2_70)), ((g 5), .inl (cI, 600, .inl v2_70))] := hD
            exact my_iret (v := r_70) hx hb hr (rfl) hlocks hQ hK hS (Nat.le_refl _) (Nat.le_refl _) (nI (its.length + 1), (0 : Int32), f2_70, v2_70) (MI3_add (it := (1, jj, tt)) hk6 hit hok hw_70.2.1 hw_70.2.2 rfl rfl (it_sign (by decide) hj ht hF9 hs9 hFp)) (hP.sub [3, 2, 0, 1, 4, 5] rfl) (hD.sub [3, 2, 0, 1, 4, 5] (by decide) rfl) d_M_put_73
          · refine lv_bipush (v := (-4)) hx hb d_M_put_58 (by decide) ?_
            exact my_iret (v := (-4)) hx hb hr (rfl) hlocks hQ hK hS (Nat.le_refl _) (Nat.le_refl _) ((nI its.length), (0 : Int32), vIM, vIW) (⟨its, hki, rfl, rfl, hit, hok⟩) (hP.sub [4, 5, 0, 1, 2, 3] rfl) (hD.sub [4, 5, 0, 1, 2, 3] (by decide) rfl) d_M_put_60
        · refine lv_bipush (v := (-3)) hx hb d_M_put_45 (by decide) ?_
          exact my_iret (v := (-3)) hx hb hr (rfl) hlocks hQ hK hS (Nat.le_refl _) (Nat.le_refl _) ((nI its.length), (0 : Int32), vIM, vIW) (⟨its, hki, rfl, rfl, hit, hok⟩) (hP.sub [4, 5, 0, 1, 2, 3] rfl) (hD.sub [4, 5, 0, 1, 2, 3] (by decide) rfl) d_M_put_47
  · refine lv_iconst (v := (-1)) hx hb d_M_put_14 (by decide) ?_
    exact my_iret (v := (-1)) hx hb hr (rfl) hlocks hQ hK hS (Nat.le_refl _) (Nat.le_refl _) ((nI its.length), (0 : Int32), vIM, vIW) (⟨its, hki, rfl, rfl, hit, hok⟩) (hP.sub [4, 5, 0, 1, 2, 3] rfl) (hD.sub [4, 5, 0, 1, 2, 3] (by decide) rfl) d_M_put_15
set_option maxHeartbeats 2000000 in
set_option maxRecDepth 100000 in
theorem c_M_bits3 (l : Launch) (dC : Nat → ClassId) (dI : Nat → Nat → Nat) (cI cM cO : ClassId) (sz : Nat) (o : Nat) (g : Nat → Nat) (fForm : Int32) (fShift : Int32) (fModels : Int32) (fItems : Int32) (fEnded : Int32) (fLow : Int64) (fRange : Int64) (fCache : Int32) (fPend : Int32) (fGoes : Int32) (fOuts : Int32) (fIns : Int32) (fReads : Int32) (fBad : Int32) (fIR : Int32) (fAsk : Int32) (fBAsk : Int32) (fCode : Int64) (fRL : Int64) (fRR : Int64) (fX : Int64) (fWrites : Int32) (fThrown : Int32) (vNow : Nat → Int32) (vIM : Nat → Int32) (vIW : Nat → Int32) (km : Nat) (N : Nat → Nat) (p1 : Int32) (p2 : Int32) (hfo : fForm = 3) (hen : fEnded = 0) (hI : MI3 4096 12 km N fItems fGoes vIM vIW vNow) : MetI l y_M_bits (Cond.code y_M_bits prog_14_method_30_code 3 (some .int) :: gw) ({ frames := 1, cells := 0, slots := 0, locals := 23 } : Room) (dC, dI) vwCl (kT cI cM cO) [.ref o, .int p1, .int p2] [(o, .inr (9, mO g fForm fShift fModels fItems fEnded fLow fRange fCache fPend fGoes fOuts fIns fReads fBad fIR fAsk fBAsk fCode fRL fRR fX fWrites fThrown)), ((g 2), .inl (cI, 512, .inl vNow)), ((g 4), .inl (cI, 600, .inl vIM)), ((g 5), .inl (cI, 600, .inl vIW))] sz (fun (r : Int32) (u : Int32 × Int32 × (Nat → Int32) × (Nat → Int32)) => MI3 4096 12 km N u.1 fGoes u.2.2.1 u.2.2.2 vNow) (fun (u : Int32 × Int32 × (Nat → Int32) × (Nat → Int32)) => [(o, .inr (9, mO g fForm fShift fModels u.1 fEnded fLow fRange fCache fPend fGoes fOuts fIns fReads fBad fIR fAsk fBAsk fCode fRL fRR fX fWrites u.2.1)), ((g 2), .inl (cI, 512, .inl vNow)), ((g 4), .inl (cI, 600, .inl u.2.2.1)), ((g 5), .inl (cI, 600, .inl u.2.2.2))]) 0 0 := by
  refine my_ofI (cc := prog_14_method_30_code) (n := 3) (ret := (some .int)) (by decide) rfl (Nat.le_of_ble_eq_true rfl) ?_
  intro p e s m args below meth c R Q A ls H locs hx hb hr hts hown hlocks hml hnm hR hQ hA hl hP hK hN hD hS
  have hg : ∀ w ∈ gw, w.before args s = true := fun w h => hts w (List.mem_cons_of_mem _ h)
  have hown : s.vm.findClass "RangeCodersModel" = some m.cls := hown
  have hl : lv_has ls 3 [(0, .ref o), (1, .int p1), (2, .int p2)] := hl
  subst hfo
  subst hen
  obtain ⟨its, hki, rfl, rfl, hit, hok⟩ := hI
  have hP : va_P (dC, dI) vwCl [(o, .inr (9, mO g 3 fShift fModels (nI its.length) 0 fLow fRange fCache fPend 0 fOuts fIns fReads fBad fIR fAsk fBAsk fCode fRL fRR fX fWrites fThrown)), ((g 2), .inl (cI, 512, .inl vNow)), ((g 4), .inl (cI, 600, .inl vIM)), ((g 5), .inl (cI, 600, .inl vIW))] H := hP
  have hD : va_D A [(o, .inr (9, mO g 3 fShift fModels (nI its.length) 0 fLow fRange fCache fPend 0 fOuts fIns fReads fBad fIR fAsk fBAsk fCode fRL fRR fX fWrites fThrown)), ((g 2), .inl (cI, 512, .inl vNow)), ((g 4), .inl (cI, 600, .inl vIM)), ((g 5), .inl (cI, 600, .inl vIW))] := hD
  have hl : lv_has ls 3 [(0, .ref o), (1, .int p1), (2, .int p2)] := hl
  refine lv_aload_n hx hb d_M_bits_0 rfl (lv_at hl 0 rfl) ?_
  refine lv_iconst (v := 0) hx hb d_M_bits_1 (by decide) ?_
  refine va_put (D := (dC, dI)) (ci := 9) (v := .int 0) (ty := .int) (C := "RangeCodersModel") (T := T_M) (N := 35) hx hb hg in_M t_M o_M n_M hown hK hP hD hS 0 rfl rfl 34 (by decide) (hg _ k986) (fun _ h9 => h9) rfl (by decide +kernel) rfl rfl (Nat.le_of_ble_eq_true rfl) d_M_bits_2 (fun H locs hP hD hS => ?_)
  have hP : va_P (dC, dI) vwCl [(o, .inr (9, mO g 3 fShift fModels (nI its.length) 0 fLow fRange fCache fPend 0 fOuts fIns fReads fBad fIR fAsk fBAsk fCode fRL fRR fX fWrites 0)), ((g 2), .inl (cI, 512, .inl vNow)), ((g 4), .inl (cI, 600, .inl vIM)), ((g 5), .inl (cI, 600, .inl vIW))] H := hP
  have hD : va_D A [(o, .inr (9, mO g 3 fShift fModels (nI its.length) 0 fLow fRange fCache fPend 0 fOuts fIns fReads fBad fIR fAsk fBAsk fCode fRL fRR fX fWrites 0)), ((g 2), .inl (cI, 512, .inl vNow)), ((g 4), .inl (cI, 600, .inl vIM)), ((g 5), .inl (cI, 600, .inl vIW))] := hD
  refine lv_iload_n hx hb d_M_bits_5 rfl (lv_at hl 2 rfl) ?_
  refine lv_iconst (v := 1) hx hb d_M_bits_6 (by decide) ?_
  refine lv_aload_n hx hb d_M_bits_7 rfl (lv_at hl 0 rfl) ?_
  refine va_get (D := (dC, dI)) (ci := 9) (v := .int 3) (C := "RangeCodersModel") (T := T_M) (N := 35) hx hb hg in_M hown hK hP 0 rfl rfl 0 (by decide) (hg _ k952) (fun _ h9 => h9) rfl d_M_bits_8 ?_
  refine lv_iconst (v := 4) hx hb d_M_bits_11 (by decide) ?_
  refine lv_icmp_ne (tgt := 20) hx hb d_M_bits_12 (by decide) (fun c_1 => ?_) (fun c_1 => ?_)
  · refine lv_bipush (v := 12) hx hb d_M_bits_20 (by decide) ?_
    refine my_ci (wr := [(o, .inr (9, mO g 3 fShift fModels (nI its.length) 0 fLow fRange fCache fPend 0 fOuts fIns fReads fBad fIR fAsk fBAsk fCode fRL fRR fX fWrites 0)), ((g 2), .inl (cI, 512, .inl vNow)), ((g 4), .inl (cI, 600, .inl vIM)), ((g 5), .inl (cI, 600, .inl vIW))]) (va_runS (As := [.int p2, .int 1, .int 12]) (rest := []) ⟨hx, hb, hml, hown, hts⟩ (c_M_in l dC dI cI cM cO H.size p2 1 12) (cwS 3 hts (my_gS k1062 k1063 k12 k1064) rfl rfl rfl (by decide +kernel) ⟨by rw [hR]; exact Nat.le_of_ble_eq_true rfl, by rw [hR]; exact Nat.le_of_ble_eq_true rfl⟩) (my_pre hK hN (hP.sub [] rfl) (hD.sub [] (by decide) rfl)) rfl rfl hl.1 rfl (lv_room (Nat.le_of_ble_eq_true rfl)) d_M_bits_22 ⟨by rw [hR]; exact Nat.le_of_ble_eq_true rfl, by rw [hR]; exact Nat.le_of_ble_eq_true rfl⟩) hP hD hS hA [] [0, 1, 2, 3] rfl rfl (by decide) (by decide) (fun r_22 u9 H locs hw_22 hP hD hS => ?_)
    have hw_22 : r_22 = if 1 ≤ p2 ∧ p2 ≤ 12 then 1 else 0 := hw_22
    have hP : va_P (dC, dI) vwCl [(o, .inr (9, mO g 3 fShift fModels (nI its.length) 0 fLow fRange fCache fPend 0 fOuts fIns fReads fBad fIR fAsk fBAsk fCode fRL fRR fX fWrites 0)), ((g 2), .inl (cI, 512, .inl vNow)), ((g 4), .inl (cI, 600, .inl vIM)), ((g 5), .inl (cI, 600, .inl vIW))] H := hP
    have hD : va_D A [(o, .inr (9, mO g 3 fShift fModels (nI its.length) 0 fLow fRange fCache fPend 0 fOuts fIns fReads fBad fIR fAsk fBAsk fCode fRL fRR fX fWrites 0)), ((g 2), .inl (cI, 512, .inl vNow)), ((g 4), .inl (cI, 600, .inl vIM)), ((g 5), .inl (cI, 600, .inl vIW))] := hD
    refine lv_if_eq (tgt := 41) hx hb d_M_bits_25 (by decide) (fun c_2 => ?_) (fun c_2 => ?_)
    · refine lv_bipush (v := (-2)) hx hb d_M_bits_41 (by decide) ?_
      exact my_iret (v := (-2)) hx hb hr (rfl) hlocks hQ hK hS (Nat.le_refl _) (Nat.le_refl _) ((nI its.length), (0 : Int32), vIM, vIW) (⟨its, hki, rfl, rfl, hit, hok⟩) (hP.sub [0, 1, 2, 3] rfl) (hD.sub [0, 1, 2, 3] (by decide) rfl) d_M_bits_43
    · obtain ⟨bb, hb1, hb2, eb⟩ := in_of2 (a := 1) (b := 12) (by decide) (by decide) (one_ne hw_22 c_2)
      subst eb
      refine lv_iload_n hx hb d_M_bits_28 rfl (lv_at hl 1 rfl) ?_
      refine lv_iconst (v := 0) hx hb d_M_bits_29 (by decide) ?_
      refine lv_iconst (v := 1) hx hb d_M_bits_30 (by decide) ?_
      refine lv_iload_n hx hb d_M_bits_31 rfl (lv_at hl 2 rfl) ?_
      refine lv_ishl hx hb d_M_bits_32 ?_
      refine lv_topi (fun v_3 ev_3 => ?_)
      have z9 : v_3 = nI (2 ^ bb) := by rw [ev_3]; exact shl1 _ (by omega)
      subst z9
      refine lv_iconst (v := 1) hx hb d_M_bits_33 (by decide) ?_
      refine lv_isub hx hb d_M_bits_34 ?_
      refine lv_topi (fun v_4 ev_4 => ?_)
      have z9 : v_4 = nI (2 ^ bb - 1) := by rw [ev_4]; exact nI_pred9 (Nat.two_pow_pos _)
      subst z9
      refine my_ci (wr := [(o, .inr (9, mO g 3 fShift fModels (nI its.length) 0 fLow fRange fCache fPend 0 fOuts fIns fReads fBad fIR fAsk fBAsk fCode fRL fRR fX fWrites 0)), ((g 2), .inl (cI, 512, .inl vNow)), ((g 4), .inl (cI, 600, .inl vIM)), ((g 5), .inl (cI, 600, .inl vIW))]) (va_runS (As := [.int p1, .int 0, .int (nI (2 ^ bb - 1))]) (rest := []) ⟨hx, hb, hml, hown, hts⟩ (c_M_in l dC dI cI cM cO H.size p1 0 (nI (2 ^ bb - 1))) (cwS 3 hts (my_gS k1062 k1063 k12 k1064) rfl rfl rfl (by decide +kernel) ⟨by rw [hR]; exact Nat.le_of_ble_eq_true rfl, by rw [hR]; exact Nat.le_of_ble_eq_true rfl⟩) (my_pre hK hN (hP.sub [] rfl) (hD.sub [] (by decide) rfl)) rfl rfl hl.1 rfl (lv_room (Nat.le_of_ble_eq_true rfl)) d_M_bits_35 ⟨by rw [hR]; exact Nat.le_of_ble_eq_true rfl, by rw [hR]; exact Nat.le_of_ble_eq_true rfl⟩) hP hD hS hA [] [0, 1, 2, 3] rfl rfl (by decide) (by decide) (fun r_35 u9 H locs hw_35 hP hD hS => ?_)
      have hw_35 : r_35 = if 0 ≤ p1 ∧ p1 ≤ (nI (2 ^ bb - 1)) then 1 else 0 := hw_35
      have hP : va_P (dC, dI) vwCl [(o, .inr (9, mO g 3 fShift fModels (nI its.length) 0 fLow fRange fCache fPend 0 fOuts fIns fReads fBad fIR fAsk fBAsk fCode fRL fRR fX fWrites 0)), ((g 2), .inl (cI, 512, .inl vNow)), ((g 4), .inl (cI, 600, .inl vIM)), ((g 5), .inl (cI, 600, .inl vIW))] H := hP
      have hD : va_D A [(o, .inr (9, mO g 3 fShift fModels (nI its.length) 0 fLow fRange fCache fPend 0 fOuts fIns fReads fBad fIR fAsk fBAsk fCode fRL fRR fX fWrites 0)), ((g 2), .inl (cI, 512, .inl vNow)), ((g 4), .inl (cI, 600, .inl vIM)), ((g 5), .inl (cI, 600, .inl vIW))] := hD
      refine lv_if_ne (tgt := 44) hx hb d_M_bits_38 (by decide) (fun c_5 => ?_) (fun c_5 => ?_)
      · obtain ⟨vv, -, hv9, ev9⟩ := in_of2 (a := 0) (b := 2 ^ bb - 1) (by decide) (by have := pw12 (show bb ≤ 12 by omega); omega) (one_ne hw_35 c_5)
        subst ev9
        have hp2 := Nat.two_pow_pos bb
        have hvl : vv < 2 ^ bb := by omega
        have hp12 := pw12 (show bb ≤ 12 by omega)
        refine lv_aload_n hx hb d_M_bits_44 rfl (lv_at hl 0 rfl) ?_
        refine va_get (D := (dC, dI)) (ci := 9) (v := .int 0) (C := "RangeCodersModel") (T := T_M) (N := 35) hx hb hg in_M hown hK hP 0 rfl rfl 10 (by decide) (hg _ k962) (fun _ h9 => h9) rfl d_M_bits_45 ?_
        refine lv_if_eq (tgt := 54) hx hb d_M_bits_48 (by decide) (fun c_6 => ?_) (fun c_6 => ?_)
        · refine lv_aload_n hx hb d_M_bits_54 rfl (lv_at hl 0 rfl) ?_
          refine va_get (D := (dC, dI)) (ci := 9) (v := .int (nI its.length)) (C := "RangeCodersModel") (T := T_M) (N := 35) hx hb hg in_M hown hK hP 0 rfl rfl 7 (by decide) (hg _ k959) (fun _ h9 => h9) rfl d_M_bits_55 ?_
          refine lv_sipush (v := 600) hx hb d_M_bits_58 (by decide) ?_
          refine lv_icmp_ne (tgt := 67) hx hb d_M_bits_61 (by decide) (fun c_7 => ?_) (fun c_7 => ?_)
          · have hk6 : its.length < 600 := nI_600 hki c_7
            refine lv_aload_n hx hb d_M_bits_67 rfl (lv_at hl 0 rfl) ?_
            refine lv_iload_n hx hb d_M_bits_68 rfl (lv_at hl 1 rfl) ?_
            refine lv_iload_n hx hb d_M_bits_69 rfl (lv_at hl 2 rfl) ?_
            refine my_cv (wr := [((g 2), .inl (cI, 512, .inl vNow)), ((g 4), .inl (cI, 600, .inl vIM)), ((g 5), .inl (cI, 600, .inl vIW))]) (va_runV (As := [.int (nI vv), .int (nI bb)]) (rest := []) ⟨hx, hb, hml, hown, hts⟩ (c_M_putValue3 l dC dI cI cM cO H.size o g fShift fModels (nI its.length) 0 fLow fRange fCache fPend 0 fOuts fIns fReads fBad fIR fAsk fBAsk fCode fRL fRR fX fWrites 0 (nI vv) (nI bb)) (cwV 2 hts (my_gV k1143 k1145 ks39 k12 k1146) rfl rfl rfl (by decide +kernel) ⟨by rw [hR]; exact Nat.le_of_ble_eq_true rfl, by rw [hR]; exact Nat.le_of_ble_eq_true rfl⟩) (my_preV hK hN (hP.sub [0] rfl) (hD.sub [0] (by decide) rfl) 0 rfl rfl) rfl rfl hl.1 rfl (lv_room (Nat.le_of_ble_eq_true rfl)) d_M_bits_70 ⟨by rw [hR]; exact Nat.le_of_ble_eq_true rfl, by rw [hR]; exact Nat.le_of_ble_eq_true rfl⟩) hP hD hS hA [0] [1, 2, 3] rfl rfl (by decide) (by decide) (fun u9 H locs hw_70 hP hD hS => ?_)
            have hw_70 : True := hw_70
            have hP : va_P (dC, dI) vwCl [((g 2), .inl (cI, 512, .inl vNow)), ((g 4), .inl (cI, 600, .inl vIM)), ((g 5), .inl (cI, 600, .inl vIW)), (o, .inr (9, mO g 3 fShift fModels (nI its.length) 0 fLow fRange fCache fPend 0 fOuts fIns fReads fBad fIR fAsk fBAsk fCode fRL fRR fX fWrites 0))] H := hP
            have hD : va_D A [((g 2), .inl (cI, 512, .inl vNow)), ((g 4), .inl (cI, 600, .inl vIM)), ((g 5), .inl (cI, 600, .inl vIW)), (o, .inr (9, mO g 3 fShift fModels (nI its.length) 0 fLow fRange fCache fPend 0 fOuts fIns fReads fBad fIR fAsk fBAsk fCode fRL fRR fX fWrites 0))] := hD
            refine lv_aload_n hx hb d_M_bits_73 rfl (lv_at hl 0 rfl) ?_
            refine lv_iload_n hx hb d_M_bits_74 rfl (lv_at hl 2 rfl) ?_
            refine lv_ineg hx hb d_M_bits_75 ?_
            refine lv_topi (fun v_8 ev_8 => ?_)
            refine lv_iload_n hx hb d_M_bits_76 rfl (lv_at hl 1 rfl) ?_
            refine my_ci (wr := [((g 2), .inl (cI, 512, .inl vNow))]) (va_runV (As := [.int v_8, .int (nI vv)]) (rest := []) ⟨hx, hb, hml, hown, hts⟩ (c_M_addItem l dC dI cI cM cO H.size o g 3 fShift fModels 0 fLow fRange fCache fPend 0 fOuts fIns fReads fBad fIR fAsk fBAsk fCode fRL fRR fX fWrites 0 vIM vIW its.length v_8 (nI vv) (hk6)) (cwV 2 hts (my_gV k1135 k1137 ks38 k12 k1138) rfl rfl rfl (by decide +kernel) ⟨by rw [hR]; exact Nat.le_of_ble_eq_true rfl, by rw [hR]; exact Nat.le_of_ble_eq_true rfl⟩) (my_preV hK hN (hP.sub [3, 1, 2] rfl) (hD.sub [3, 1, 2] (by decide) rfl) 0 rfl rfl) rfl rfl hl.1 rfl (lv_room (Nat.le_of_ble_eq_true rfl)) d_M_bits_77 ⟨by rw [hR]; exact Nat.le_of_ble_eq_true rfl, by rw [hR]; exact Nat.le_of_ble_eq_true rfl⟩) hP hD hS hA [3, 1, 2] [0] rfl rfl (by decide) (by decide) (fun r_77 u9 H locs hw_77 hP hD hS => ?_)
            obtain ⟨f2_77, v2_77⟩ := u9
            have hw_77 : r_77 = nI (its.length + 1) ∧ f2_77 = upd vIM its.length v_8 ∧ v2_77 = upd vIW its.length (nI vv) := hw_77
            have hP : va_P (dC, dI) vwCl [((g 2), .inl (cI, 512, .inl vNow)), (o, .inr (9, mO g 3 fShift fModels (nI (its.length + 1)) 0 fLow fRange fCache fPend 0 fOuts fIns fReads fBad fIR fAsk fBAsk fCode fRL fRR fX fWrites 0)), ((g 4), .inl (cI, 600, .inl f2_77)), ((g 5), .inl (cI, 600, .inl v2_77))] H := hP
            have hD : va_D A [((g 2), .inl (cI, 512, .inl vNow)), (o, .inr (9, mO g 3 fShift fModels (nI (its.length + 1)) 0 fLow fRange fCache fPend 0 fOuts fIns fReads fBad fIR fAsk fBAsk fCode fRL fRR fX fWrites 0)), ((g 4), .inl (cI, 600, .inl f2_77)), ((g 5), .inl (cI, 600, .inl v2_77))] := hD
            exact my_iret (v := r_77) hx hb hr (rfl) hlocks hQ hK hS (Nat.le_refl _) (Nat.le_refl _) (nI (its.length + 1), (0 : Int32), f2_77, v2_77) (MI3_add (it := (0, bb, vv)) hk6 hit hok hw_77.2.1 hw_77.2.2 (by rw [ev_8]; rfl) rfl (it_val hb1 hb2 hvl)) (hP.sub [1, 0, 2, 3] rfl) (hD.sub [1, 0, 2, 3] (by decide) rfl) d_M_bits_80
          · refine lv_bipush (v := (-4)) hx hb d_M_bits_64 (by decide) ?_
            exact my_iret (v := (-4)) hx hb hr (rfl) hlocks hQ hK hS (Nat.le_refl _) (Nat.le_refl _) ((nI its.length), (0 : Int32), vIM, vIW) (⟨its, hki, rfl, rfl, hit, hok⟩) (hP.sub [0, 1, 2, 3] rfl) (hD.sub [0, 1, 2, 3] (by decide) rfl) d_M_bits_66
        · exact absurd (by decide) c_6
      · refine lv_bipush (v := (-2)) hx hb d_M_bits_41 (by decide) ?_
        exact my_iret (v := (-2)) hx hb hr (rfl) hlocks hQ hK hS (Nat.le_refl _) (Nat.le_refl _) ((nI its.length), (0 : Int32), vIM, vIW) (⟨its, hki, rfl, rfl, hit, hok⟩) (hP.sub [0, 1, 2, 3] rfl) (hD.sub [0, 1, 2, 3] (by decide) rfl) d_M_bits_43
  · exact absurd c_1 (by decide)
set_option maxHeartbeats 2000000 in
set_option maxRecDepth 100000 in
theorem c_M_put4 (l : Launch) (dC : Nat → ClassId) (dI : Nat → Nat → Nat) (cI cM cO : ClassId) (sz : Nat) (o : Nat) (g : Nat → Nat) (fForm : Int32) (fShift : Int32) (fModels : Int32) (fItems : Int32) (fEnded : Int32) (fLow : Int64) (fRange : Int64) (fCache : Int32) (fPend : Int32) (fGoes : Int32) (fOuts : Int32) (fIns : Int32) (fReads : Int32) (fBad : Int32) (fIR : Int32) (fAsk : Int32) (fBAsk : Int32) (fCode : Int64) (fRL : Int64) (fRR : Int64) (fX : Int64) (fWrites : Int32) (fThrown : Int32) (vMany : Nat → Int32) (vCounts : Nat → Int32) (vNow : Nat → Int32) (vIM : Nat → Int32) (vIW : Nat → Int32) (km : Nat) (N : Nat → Nat) (p1 : Int32) (p2 : Int32) (hfo : fForm = 4) (hen : fEnded = 0) (hmod : fModels = nI km) (hMD : MD km N vMany vCounts) (hT : TB 4 km N vNow) (hI : MI3 512 9 km N fItems fGoes vIM vIW vNow) : MetI l y_M_put (Cond.code y_M_put prog_14_method_29_code 3 (some .int) :: gw) ({ frames := 3, cells := 0, slots := 0, locals := 65 } : Room) (dC, dI) vwCl (kT cI cM cO) [.ref o, .int p1, .int p2] [(o, .inr (9, mO g fForm fShift fModels fItems fEnded fLow fRange fCache fPend fGoes fOuts fIns fReads fBad fIR fAsk fBAsk fCode fRL fRR fX fWrites fThrown)), ((g 0), .inl (cI, 8, .inl vMany)), ((g 1), .inl (cI, 512, .inl vCounts)), ((g 2), .inl (cI, 512, .inl vNow)), ((g 4), .inl (cI, 600, .inl vIM)), ((g 5), .inl (cI, 600, .inl vIW))] sz (fun (r : Int32) (u : Int32 × Int32 × (Nat → Int32) × (Nat → Int32)) => MI3 512 9 km N u.1 fGoes u.2.2.1 u.2.2.2 vNow) (fun (u : Int32 × Int32 × (Nat → Int32) × (Nat → Int32)) => [(o, .inr (9, mO g fForm fShift fModels u.1 fEnded fLow fRange fCache fPend fGoes fOuts fIns fReads fBad fIR fAsk fBAsk fCode fRL fRR fX fWrites u.2.1)), ((g 0), .inl (cI, 8, .inl vMany)), ((g 1), .inl (cI, 512, .inl vCounts)), ((g 2), .inl (cI, 512, .inl vNow)), ((g 4), .inl (cI, 600, .inl u.2.2.1)), ((g 5), .inl (cI, 600, .inl u.2.2.2))]) 0 0 := by
  refine my_ofI (cc := prog_14_method_29_code) (n := 3) (ret := (some .int)) (by decide) rfl (Nat.le_of_ble_eq_true rfl) ?_
  intro p e s m args below meth c R Q A ls H locs hx hb hr hts hown hlocks hml hnm hR hQ hA hl hP hK hN hD hS
  have hg : ∀ w ∈ gw, w.before args s = true := fun w h => hts w (List.mem_cons_of_mem _ h)
  have hown : s.vm.findClass "RangeCodersModel" = some m.cls := hown
  have hl : lv_has ls 3 [(0, .ref o), (1, .int p1), (2, .int p2)] := hl
  subst hfo
  subst hen
  obtain ⟨its, hki, rfl, rfl, hit, hok⟩ := hI
  have hP : va_P (dC, dI) vwCl [(o, .inr (9, mO g 4 fShift fModels (nI its.length) 0 fLow fRange fCache fPend 0 fOuts fIns fReads fBad fIR fAsk fBAsk fCode fRL fRR fX fWrites fThrown)), ((g 0), .inl (cI, 8, .inl vMany)), ((g 1), .inl (cI, 512, .inl vCounts)), ((g 2), .inl (cI, 512, .inl vNow)), ((g 4), .inl (cI, 600, .inl vIM)), ((g 5), .inl (cI, 600, .inl vIW))] H := hP
  have hD : va_D A [(o, .inr (9, mO g 4 fShift fModels (nI its.length) 0 fLow fRange fCache fPend 0 fOuts fIns fReads fBad fIR fAsk fBAsk fCode fRL fRR fX fWrites fThrown)), ((g 0), .inl (cI, 8, .inl vMany)), ((g 1), .inl (cI, 512, .inl vCounts)), ((g 2), .inl (cI, 512, .inl vNow)), ((g 4), .inl (cI, 600, .inl vIM)), ((g 5), .inl (cI, 600, .inl vIW))] := hD
  have hl : lv_has ls 3 [(0, .ref o), (1, .int p1), (2, .int p2)] := hl
  refine lv_aload_n hx hb d_M_put_0 rfl (lv_at hl 0 rfl) ?_
  refine lv_iconst (v := 0) hx hb d_M_put_1 (by decide) ?_
  refine va_put (D := (dC, dI)) (ci := 9) (v := .int 0) (ty := .int) (C := "RangeCodersModel") (T := T_M) (N := 35) hx hb hg in_M t_M o_M n_M hown hK hP hD hS 0 rfl rfl 34 (by decide) (hg _ k986) (fun _ h9 => h9) rfl (by decide +kernel) rfl rfl (Nat.le_of_ble_eq_true rfl) d_M_put_2 (fun H locs hP hD hS => ?_)
  have hP : va_P (dC, dI) vwCl [(o, .inr (9, mO g 4 fShift fModels (nI its.length) 0 fLow fRange fCache fPend 0 fOuts fIns fReads fBad fIR fAsk fBAsk fCode fRL fRR fX fWrites 0)), ((g 0), .inl (cI, 8, .inl vMany)), ((g 1), .inl (cI, 512, .inl vCounts)), ((g 2), .inl (cI, 512, .inl vNow)), ((g 4), .inl (cI, 600, .inl vIM)), ((g 5), .inl (cI, 600, .inl vIW))] H := hP
  have hD : va_D A [(o, .inr (9, mO g 4 fShift fModels (nI its.length) 0 fLow fRange fCache fPend 0 fOuts fIns fReads fBad fIR fAsk fBAsk fCode fRL fRR fX fWrites 0)), ((g 0), .inl (cI, 8, .inl vMany)), ((g 1), .inl (cI, 512, .inl vCounts)), ((g 2), .inl (cI, 512, .inl vNow)), ((g 4), .inl (cI, 600, .inl vIM)), ((g 5), .inl (cI, 600, .inl vIW))] := hD
  refine lv_aload_n hx hb d_M_put_5 rfl (lv_at hl 0 rfl) ?_
  refine lv_iload_n hx hb d_M_put_6 rfl (lv_at hl 1 rfl) ?_
  refine lv_iload_n hx hb d_M_put_7 rfl (lv_at hl 2 rfl) ?_
  refine my_ci (wr := [((g 1), .inl (cI, 512, .inl vCounts)), ((g 2), .inl (cI, 512, .inl vNow)), ((g 4), .inl (cI, 600, .inl vIM)), ((g 5), .inl (cI, 600, .inl vIW))]) (va_runV (As := [.int p1, .int p2]) (rest := []) ⟨hx, hb, hml, hown, hts⟩ (c_M_isSign l dC dI cI cM cO H.size o g 4 fShift fModels (nI its.length) 0 fLow fRange fCache fPend 0 fOuts fIns fReads fBad fIR fAsk fBAsk fCode fRL fRR fX fWrites 0 vMany km p1 p2 (hMD.1) (by first | assumption | omega)) (cwV 2 hts (my_gV k1069 k1071 ks25 k12 k1072) rfl rfl rfl (by decide +kernel) ⟨by rw [hR]; exact Nat.le_of_ble_eq_true rfl, by rw [hR]; exact Nat.le_of_ble_eq_true rfl⟩) (my_preV hK hN (hP.sub [0, 1] rfl) (hD.sub [0, 1] (by decide) rfl) 0 rfl rfl) rfl rfl hl.1 rfl (lv_room (Nat.le_of_ble_eq_true rfl)) d_M_put_8 ⟨by rw [hR]; exact Nat.le_of_ble_eq_true rfl, by rw [hR]; exact Nat.le_of_ble_eq_true rfl⟩) hP hD hS hA [0, 1] [2, 3, 4, 5] rfl rfl (by decide) (by decide) (fun r_8 u9 H locs hw_8 hP hD hS => ?_)
  have hw_8 : r_8 = if isN km p1 ∧ (0 ≤ p2 ∧ p2 ≤ vMany p1.toNatClampNeg - 1) then 1 else 0 := hw_8
  have hP : va_P (dC, dI) vwCl [((g 1), .inl (cI, 512, .inl vCounts)), ((g 2), .inl (cI, 512, .inl vNow)), ((g 4), .inl (cI, 600, .inl vIM)), ((g 5), .inl (cI, 600, .inl vIW)), (o, .inr (9, mO g 4 fShift fModels (nI its.length) 0 fLow fRange fCache fPend 0 fOuts fIns fReads fBad fIR fAsk fBAsk fCode fRL fRR fX fWrites 0)), ((g 0), .inl (cI, 8, .inl vMany))] H := hP
  have hD : va_D A [((g 1), .inl (cI, 512, .inl vCounts)), ((g 2), .inl (cI, 512, .inl vNow)), ((g 4), .inl (cI, 600, .inl vIM)), ((g 5), .inl (cI, 600, .inl vIW)), (o, .inr (9, mO g 4 fShift fModels (nI its.length) 0 fLow fRange fCache fPend 0 fOuts fIns fReads fBad fIR fAsk fBAsk fCode fRL fRR fX fWrites 0)), ((g 0), .inl (cI, 8, .inl vMany))] := hD
  refine lv_if_ne (tgt := 16) hx hb d_M_put_11 (by decide) (fun c_1 => ?_) (fun c_1 => ?_)
  · obtain ⟨jj, tt, hj, ej, ht, et⟩ := sg_of hMD (one_ne hw_8 c_1)
    subst ej
    subst et
    have hk8 := hMD.1
    obtain ⟨hn9, hn2, hn64, C9, hc9, hB9⟩ := hMD.2 jj hj
    refine lv_aload_n hx hb d_M_put_16 rfl (lv_at hl 0 rfl) ?_
    refine va_get (D := (dC, dI)) (ci := 9) (v := .int 0) (C := "RangeCodersModel") (T := T_M) (N := 35) hx hb hg in_M hown hK hP 4 rfl rfl 10 (by decide) (hg _ k962) (fun _ h9 => h9) rfl d_M_put_17 ?_
    refine lv_if_ne (tgt := 45) hx hb d_M_put_20 (by decide) (fun c_2 => ?_) (fun c_2 => ?_)
    · exact absurd rfl c_2
    · refine lv_aload_n hx hb d_M_put_23 rfl (lv_at hl 0 rfl) ?_
      refine va_get (D := (dC, dI)) (ci := 9) (v := .int 4) (C := "RangeCodersModel") (T := T_M) (N := 35) hx hb hg in_M hown hK hP 4 rfl rfl 0 (by decide) (hg _ k952) (fun _ h9 => h9) rfl d_M_put_24 ?_
      refine lv_iconst (v := 2) hx hb d_M_put_27 (by decide) ?_
      refine lv_icmp_eq (tgt := 48) hx hb d_M_put_28 (by decide) (fun c_3 => ?_) (fun c_3 => ?_)
      · exact absurd c_3 (by decide)
      · refine lv_aload_n hx hb d_M_put_31 rfl (lv_at hl 0 rfl) ?_
        refine va_get (D := (dC, dI)) (ci := 9) (v := .ref (g 2)) (C := "RangeCodersModel") (T := T_M) (N := 35) hx hb hg in_M hown hK hP 4 rfl rfl 5 (by decide) (hg _ k957) (fun _ h9 => h9) rfl d_M_put_32 ?_
        refine lv_bipush (v := 64) hx hb d_M_put_35 (by decide) ?_
        refine lv_iload_n hx hb d_M_put_37 rfl (lv_at hl 1 rfl) ?_
        refine lv_imul hx hb d_M_put_38 ?_
        refine lv_topi (fun v_4 ev_4 => ?_)
        refine lv_iload_n hx hb d_M_put_39 rfl (lv_at hl 2 rfl) ?_
        refine lv_iadd hx hb d_M_put_40 ?_
        refine lv_topi (fun v_5 ev_5 => ?_)
        have hix : v_5 = nI (64 * jj + tt) := by rw [ev_5, ev_4]; exact ix64
        refine va_iald hx hb hK hP 1 0 rfl rfl (by rw [hix]; exact vp_in_nI (by omega) (by decide)) d_M_put_41 ?_
        refine lv_topi (fun v_6 ev_6 => ?_)
        obtain ⟨F9, hF⟩ := hT jj hj
        obtain ⟨hF9, hs9⟩ := tab_4 hF
        have z9 : v_6 = nI (F9 tt) := by rw [ev_6, hix, nI_clamp (by omega)]; exact hF9 tt ht
        subst z9
        refine lv_if_ne (tgt := 48) hx hb d_M_put_42 (by decide) (fun c_7 => ?_) (fun c_7 => ?_)
        · have hFp : 0 < F9 tt := nI_nz c_7
          refine lv_aload_n hx hb d_M_put_48 rfl (lv_at hl 0 rfl) ?_
          refine va_get (D := (dC, dI)) (ci := 9) (v := .int (nI its.length)) (C := "RangeCodersModel") (T := T_M) (N := 35) hx hb hg in_M hown hK hP 4 rfl rfl 7 (by decide) (hg _ k959) (fun _ h9 => h9) rfl d_M_put_49 ?_
          refine lv_sipush (v := 600) hx hb d_M_put_52 (by decide) ?_
          refine lv_icmp_ne (tgt := 61) hx hb d_M_put_55 (by decide) (fun c_8 => ?_) (fun c_8 => ?_)
          · have hk6 : its.length < 600 := nI_600 hki c_8
            refine lv_aload_n hx hb d_M_put_61 rfl (lv_at hl 0 rfl) ?_
            refine lv_iload_n hx hb d_M_put_62 rfl (lv_at hl 1 rfl) ?_
            refine lv_iload_n hx hb d_M_put_63 rfl (lv_at hl 2 rfl) ?_
            refine my_cv (wr := [((g 1), .inl (cI, 512, .inl vCounts)), ((g 2), .inl (cI, 512, .inl vNow)), ((g 4), .inl (cI, 600, .inl vIM)), ((g 5), .inl (cI, 600, .inl vIW)), ((g 0), .inl (cI, 8, .inl vMany))]) (va_runV (As := [.int (nI jj), .int (nI tt)]) (rest := []) ⟨hx, hb, hml, hown, hts⟩ (c_M_putSign4 l dC dI cI cM cO H.size o g fShift fModels (nI its.length) 0 fLow fRange fCache fPend 0 fOuts fIns fReads fBad fIR fAsk fBAsk fCode fRL fRR fX fWrites 0 (nI jj) (nI tt)) (cwV 2 hts (my_gV k1085 k1087 ks27 k12 k1088) rfl rfl rfl (by decide +kernel) ⟨by rw [hR]; exact Nat.le_of_ble_eq_true rfl, by rw [hR]; exact Nat.le_of_ble_eq_true rfl⟩) (my_preV hK hN (hP.sub [4] rfl) (hD.sub [4] (by decide) rfl) 0 rfl rfl) rfl rfl hl.1 rfl (lv_room (Nat.le_of_ble_eq_true rfl)) d_M_put_64 ⟨by rw [hR]; exact Nat.le_of_ble_eq_true rfl, by rw [hR]; exact Nat.le_of_ble_eq_true rfl⟩) hP hD hS hA [4] [0, 1, 2, 3, 5] rfl rfl (by decide) (by decide) (fun u9 H locs hw_64 hP hD hS => ?_)
            have hw_64 : True := hw_64
            have hP : va_P (dC, dI) vwCl [((g 1), .inl (cI, 512, .inl vCounts)), ((g 2), .inl (cI, 512, .inl vNow)), ((g 4), .inl (cI, 600, .inl vIM)), ((g 5), .inl (cI, 600, .inl vIW)), ((g 0), .inl (cI, 8, .inl vMany)), (o, .inr (9, mO g 4 fShift fModels (nI its.length) 0 fLow fRange fCache fPend 0 fOuts fIns fReads fBad fIR fAsk fBAsk fCode fRL fRR fX fWrites 0))] H := hP
            have hD : va_D A [((g 1), .inl (cI, 512, .inl vCounts)), ((g 2), .inl (cI, 512, .inl vNow)), ((g 4), .inl (cI, 600, .inl vIM)), ((g 5), .inl (cI, 600, .inl vIW)), ((g 0), .inl (cI, 8, .inl vMany)), (o, .inr (9, mO g 4 fShift fModels (nI its.length) 0 fLow fRange fCache fPend 0 fOuts fIns fReads fBad fIR fAsk fBAsk fCode fRL fRR fX fWrites 0))] := hD
            refine lv_aload_n hx hb d_M_put_67 rfl (lv_at hl 0 rfl) ?_
            refine lv_iload_n hx hb d_M_put_68 rfl (lv_at hl 1 rfl) ?_
            refine lv_iload_n hx hb d_M_put_69 rfl (lv_at hl 2 rfl) ?_
            refine my_ci (wr := [((g 1), .inl (cI, 512, .inl vCounts)), ((g 2), .inl (cI, 512, .inl vNow)), ((g 0), .inl (cI, 8, .inl vMany))]) (va_runV (As := [.int (nI jj), .int (nI tt)]) (rest := []) ⟨hx, hb, hml, hown, hts⟩ (c_M_addItem l dC dI cI cM cO H.size o g 4 fShift fModels 0 fLow fRange fCache fPend 0 fOuts fIns fReads fBad fIR fAsk fBAsk fCode fRL fRR fX fWrites 0 vIM vIW its.length (nI jj) (nI tt) (hk6)) (cwV 2 hts (my_gV k1135 k1137 ks38 k12 k1138) rfl rfl rfl (by decide +kernel) ⟨by rw [hR]; exact Nat.le_of_ble_eq_true rfl, by rw [hR]; exact Nat.le_of_ble_eq_true rfl⟩) (my_preV hK hN (hP.sub [5, 2, 3] rfl) (hD.sub [5, 2, 3] (by decide) rfl) 0 rfl rfl) rfl rfl hl.1 rfl (lv_room (Nat.le_of_ble_eq_true rfl)) d_M_put_70 ⟨by rw [hR]; exact Nat.le_of_ble_eq_true rfl, by rw [hR]; exact Nat.le_of_ble_eq_true rfl⟩) hP hD hS hA [5, 2, 3] [0, 1, 4] rfl rfl (by decide) (by decide) (fun r_70 u9 H locs hw_70 hP hD hS => ?_)
            obtain ⟨f2_70, v2_70⟩ := u9
            have hw_70 : r_70 = nI (its.length + 1) ∧ f2_70 = upd vIM its.length (nI jj) ∧ v2_70 = upd vIW its.length (nI tt) := hw_70
            have hP : va_P (dC, dI) vwCl [((g 1), .inl (cI, 512, .inl vCounts)), ((g 2), .inl (cI, 512, .inl vNow)), ((g 0), .inl (cI, 8, .inl vMany)), (o, .inr (9, mO g 4 fShift fModels (nI (its.length + 1)) 0 fLow fRange fCache fPend 0 fOuts fIns fReads fBad fIR fAsk fBAsk fCode fRL fRR fX fWrites 0)), ((g 4), .inl (cI, 600, .inl f2_70)), ((g 5), .inl (cI, 600, .inl v2_70))] H := hP
            have hD : va_D A [((g 1), .inl (cI, 512, .inl vCounts)), ((g 2), .inl (cI, 512, .inl vNow)), ((g 0), .inl (cI, 8, .inl vMany)), (o, .inr (9, mO g 4 fShift fModels (nI (its.length + 1)) 0 fLow fRange fCache fPend 0 fOuts fIns fReads fBad fIR fAsk fBAsk fCode fRL fRR fX fWrites 0)), ((g 4), .inl (cI, 600, .inl f2_70)), ((g 5), .inl (cI, 600, .inl v2_70))] := hD
            exact my_iret (v := r_70) hx hb hr (rfl) hlocks hQ hK hS (Nat.le_refl _) (Nat.le_refl _) (nI (its.length + 1), (0 : Int32), f2_70, v2_70) (MI3_add (it := (1, jj, tt)) hk6 hit hok hw_70.2.1 hw_70.2.2 rfl rfl (it_sign (by decide) hj ht hF9 hs9 hFp)) (hP.sub [3, 2, 0, 1, 4, 5] rfl) (hD.sub [3, 2, 0, 1, 4, 5] (by decide) rfl) d_M_put_73
          · refine lv_bipush (v := (-4)) hx hb d_M_put_58 (by decide) ?_
            exact my_iret (v := (-4)) hx hb hr (rfl) hlocks hQ hK hS (Nat.le_refl _) (Nat.le_refl _) ((nI its.length), (0 : Int32), vIM, vIW) (⟨its, hki, rfl, rfl, hit, hok⟩) (hP.sub [4, 5, 0, 1, 2, 3] rfl) (hD.sub [4, 5, 0, 1, 2, 3] (by decide) rfl) d_M_put_60
        · refine lv_bipush (v := (-3)) hx hb d_M_put_45 (by decide) ?_
          exact my_iret (v := (-3)) hx hb hr (rfl) hlocks hQ hK hS (Nat.le_refl _) (Nat.le_refl _) ((nI its.length), (0 : Int32), vIM, vIW) (⟨its, hki, rfl, rfl, hit, hok⟩) (hP.sub [4, 5, 0, 1, 2, 3] rfl) (hD.sub [4, 5, 0, 1, 2, 3] (by decide) rfl) d_M_put_47
  · refine lv_iconst (v := (-1)) hx hb d_M_put_14 (by decide) ?_
    exact my_iret (v := (-1)) hx hb hr (rfl) hlocks hQ hK hS (Nat.le_refl _) (Nat.le_refl _) ((nI its.length), (0 : Int32), vIM, vIW) (⟨its, hki, rfl, rfl, hit, hok⟩) (hP.sub [4, 5, 0, 1, 2, 3] rfl) (hD.sub [4, 5, 0, 1, 2, 3] (by decide) rfl) d_M_put_15
set_option maxHeartbeats 2000000 in
set_option maxRecDepth 100000 in
theorem c_M_bits4 (l : Launch) (dC : Nat → ClassId) (dI : Nat → Nat → Nat) (cI cM cO : ClassId) (sz : Nat) (o : Nat) (g : Nat → Nat) (fForm : Int32) (fShift : Int32) (fModels : Int32) (fItems : Int32) (fEnded : Int32) (fLow : Int64) (fRange : Int64) (fCache : Int32) (fPend : Int32) (fGoes : Int32) (fOuts : Int32) (fIns : Int32) (fReads : Int32) (fBad : Int32) (fIR : Int32) (fAsk : Int32) (fBAsk : Int32) (fCode : Int64) (fRL : Int64) (fRR : Int64) (fX : Int64) (fWrites : Int32) (fThrown : Int32) (vNow : Nat → Int32) (vIM : Nat → Int32) (vIW : Nat → Int32) (km : Nat) (N : Nat → Nat) (p1 : Int32) (p2 : Int32) (hfo : fForm = 4) (hen : fEnded = 0) (hI : MI3 512 9 km N fItems fGoes vIM vIW vNow) : MetI l y_M_bits (Cond.code y_M_bits prog_14_method_30_code 3 (some .int) :: gw) ({ frames := 1, cells := 0, slots := 0, locals := 23 } : Room) (dC, dI) vwCl (kT cI cM cO) [.ref o, .int p1, .int p2] [(o, .inr (9, mO g fForm fShift fModels fItems fEnded fLow fRange fCache fPend fGoes fOuts fIns fReads fBad fIR fAsk fBAsk fCode fRL fRR fX fWrites fThrown)), ((g 2), .inl (cI, 512, .inl vNow)), ((g 4), .inl (cI, 600, .inl vIM)), ((g 5), .inl (cI, 600, .inl vIW))] sz (fun (r : Int32) (u : Int32 × Int32 × (Nat → Int32) × (Nat → Int32)) => MI3 512 9 km N u.1 fGoes u.2.2.1 u.2.2.2 vNow) (fun (u : Int32 × Int32 × (Nat → Int32) × (Nat → Int32)) => [(o, .inr (9, mO g fForm fShift fModels u.1 fEnded fLow fRange fCache fPend fGoes fOuts fIns fReads fBad fIR fAsk fBAsk fCode fRL fRR fX fWrites u.2.1)), ((g 2), .inl (cI, 512, .inl vNow)), ((g 4), .inl (cI, 600, .inl u.2.2.1)), ((g 5), .inl (cI, 600, .inl u.2.2.2))]) 0 0 := by
  refine my_ofI (cc := prog_14_method_30_code) (n := 3) (ret := (some .int)) (by decide) rfl (Nat.le_of_ble_eq_true rfl) ?_
  intro p e s m args below meth c R Q A ls H locs hx hb hr hts hown hlocks hml hnm hR hQ hA hl hP hK hN hD hS
  have hg : ∀ w ∈ gw, w.before args s = true := fun w h => hts w (List.mem_cons_of_mem _ h)
  have hown : s.vm.findClass "RangeCodersModel" = some m.cls := hown
  have hl : lv_has ls 3 [(0, .ref o), (1, .int p1), (2, .int p2)] := hl
  subst hfo
  subst hen
  obtain ⟨its, hki, rfl, rfl, hit, hok⟩ := hI
  have hP : va_P (dC, dI) vwCl [(o, .inr (9, mO g 4 fShift fModels (nI its.length) 0 fLow fRange fCache fPend 0 fOuts fIns fReads fBad fIR fAsk fBAsk fCode fRL fRR fX fWrites fThrown)), ((g 2), .inl (cI, 512, .inl vNow)), ((g 4), .inl (cI, 600, .inl vIM)), ((g 5), .inl (cI, 600, .inl vIW))] H := hP
  have hD : va_D A [(o, .inr (9, mO g 4 fShift fModels (nI its.length) 0 fLow fRange fCache fPend 0 fOuts fIns fReads fBad fIR fAsk fBAsk fCode fRL fRR fX fWrites fThrown)), ((g 2), .inl (cI, 512, .inl vNow)), ((g 4), .inl (cI, 600, .inl vIM)), ((g 5), .inl (cI, 600, .inl vIW))] := hD
  have hl : lv_has ls 3 [(0, .ref o), (1, .int p1), (2, .int p2)] := hl
  refine lv_aload_n hx hb d_M_bits_0 rfl (lv_at hl 0 rfl) ?_
  refine lv_iconst (v := 0) hx hb d_M_bits_1 (by decide) ?_
  refine va_put (D := (dC, dI)) (ci := 9) (v := .int 0) (ty := .int) (C := "RangeCodersModel") (T := T_M) (N := 35) hx hb hg in_M t_M o_M n_M hown hK hP hD hS 0 rfl rfl 34 (by decide) (hg _ k986) (fun _ h9 => h9) rfl (by decide +kernel) rfl rfl (Nat.le_of_ble_eq_true rfl) d_M_bits_2 (fun H locs hP hD hS => ?_)
  have hP : va_P (dC, dI) vwCl [(o, .inr (9, mO g 4 fShift fModels (nI its.length) 0 fLow fRange fCache fPend 0 fOuts fIns fReads fBad fIR fAsk fBAsk fCode fRL fRR fX fWrites 0)), ((g 2), .inl (cI, 512, .inl vNow)), ((g 4), .inl (cI, 600, .inl vIM)), ((g 5), .inl (cI, 600, .inl vIW))] H := hP
  have hD : va_D A [(o, .inr (9, mO g 4 fShift fModels (nI its.length) 0 fLow fRange fCache fPend 0 fOuts fIns fReads fBad fIR fAsk fBAsk fCode fRL fRR fX fWrites 0)), ((g 2), .inl (cI, 512, .inl vNow)), ((g 4), .inl (cI, 600, .inl vIM)), ((g 5), .inl (cI, 600, .inl vIW))] := hD
  refine lv_iload_n hx hb d_M_bits_5 rfl (lv_at hl 2 rfl) ?_
  refine lv_iconst (v := 1) hx hb d_M_bits_6 (by decide) ?_
  refine lv_aload_n hx hb d_M_bits_7 rfl (lv_at hl 0 rfl) ?_
  refine va_get (D := (dC, dI)) (ci := 9) (v := .int 4) (C := "RangeCodersModel") (T := T_M) (N := 35) hx hb hg in_M hown hK hP 0 rfl rfl 0 (by decide) (hg _ k952) (fun _ h9 => h9) rfl d_M_bits_8 ?_
  refine lv_iconst (v := 4) hx hb d_M_bits_11 (by decide) ?_
  refine lv_icmp_ne (tgt := 20) hx hb d_M_bits_12 (by decide) (fun c_1 => ?_) (fun c_1 => ?_)
  · exact absurd rfl c_1
  · refine lv_bipush (v := 9) hx hb d_M_bits_15 (by decide) ?_
    refine lv_goto (tgt := 22) hx hb d_M_bits_17 (by decide) ?_
    refine my_ci (wr := [(o, .inr (9, mO g 4 fShift fModels (nI its.length) 0 fLow fRange fCache fPend 0 fOuts fIns fReads fBad fIR fAsk fBAsk fCode fRL fRR fX fWrites 0)), ((g 2), .inl (cI, 512, .inl vNow)), ((g 4), .inl (cI, 600, .inl vIM)), ((g 5), .inl (cI, 600, .inl vIW))]) (va_runS (As := [.int p2, .int 1, .int 9]) (rest := []) ⟨hx, hb, hml, hown, hts⟩ (c_M_in l dC dI cI cM cO H.size p2 1 9) (cwS 3 hts (my_gS k1062 k1063 k12 k1064) rfl rfl rfl (by decide +kernel) ⟨by rw [hR]; exact Nat.le_of_ble_eq_true rfl, by rw [hR]; exact Nat.le_of_ble_eq_true rfl⟩) (my_pre hK hN (hP.sub [] rfl) (hD.sub [] (by decide) rfl)) rfl rfl hl.1 rfl (lv_room (Nat.le_of_ble_eq_true rfl)) d_M_bits_22 ⟨by rw [hR]; exact Nat.le_of_ble_eq_true rfl, by rw [hR]; exact Nat.le_of_ble_eq_true rfl⟩) hP hD hS hA [] [0, 1, 2, 3] rfl rfl (by decide) (by decide) (fun r_22 u9 H locs hw_22 hP hD hS => ?_)
    have hw_22 : r_22 = if 1 ≤ p2 ∧ p2 ≤ 9 then 1 else 0 := hw_22
    have hP : va_P (dC, dI) vwCl [(o, .inr (9, mO g 4 fShift fModels (nI its.length) 0 fLow fRange fCache fPend 0 fOuts fIns fReads fBad fIR fAsk fBAsk fCode fRL fRR fX fWrites 0)), ((g 2), .inl (cI, 512, .inl vNow)), ((g 4), .inl (cI, 600, .inl vIM)), ((g 5), .inl (cI, 600, .inl vIW))] H := hP
    have hD : va_D A [(o, .inr (9, mO g 4 fShift fModels (nI its.length) 0 fLow fRange fCache fPend 0 fOuts fIns fReads fBad fIR fAsk fBAsk fCode fRL fRR fX fWrites 0)), ((g 2), .inl (cI, 512, .inl vNow)), ((g 4), .inl (cI, 600, .inl vIM)), ((g 5), .inl (cI, 600, .inl vIW))] := hD
    refine lv_if_eq (tgt := 41) hx hb d_M_bits_25 (by decide) (fun c_2 => ?_) (fun c_2 => ?_)
    · refine lv_bipush (v := (-2)) hx hb d_M_bits_41 (by decide) ?_
      exact my_iret (v := (-2)) hx hb hr (rfl) hlocks hQ hK hS (Nat.le_refl _) (Nat.le_refl _) ((nI its.length), (0 : Int32), vIM, vIW) (⟨its, hki, rfl, rfl, hit, hok⟩) (hP.sub [0, 1, 2, 3] rfl) (hD.sub [0, 1, 2, 3] (by decide) rfl) d_M_bits_43
    · obtain ⟨bb, hb1, hb2, eb⟩ := in_of2 (a := 1) (b := 9) (by decide) (by decide) (one_ne hw_22 c_2)
      subst eb
      refine lv_iload_n hx hb d_M_bits_28 rfl (lv_at hl 1 rfl) ?_
      refine lv_iconst (v := 0) hx hb d_M_bits_29 (by decide) ?_
      refine lv_iconst (v := 1) hx hb d_M_bits_30 (by decide) ?_
      refine lv_iload_n hx hb d_M_bits_31 rfl (lv_at hl 2 rfl) ?_
      refine lv_ishl hx hb d_M_bits_32 ?_
      refine lv_topi (fun v_3 ev_3 => ?_)
      have z9 : v_3 = nI (2 ^ bb) := by rw [ev_3]; exact shl1 _ (by omega)
      subst z9
      refine lv_iconst (v := 1) hx hb d_M_bits_33 (by decide) ?_
      refine lv_isub hx hb d_M_bits_34 ?_
      refine lv_topi (fun v_4 ev_4 => ?_)
      have z9 : v_4 = nI (2 ^ bb - 1) := by rw [ev_4]; exact nI_pred9 (Nat.two_pow_pos _)
      subst z9
      refine my_ci (wr := [(o, .inr (9, mO g 4 fShift fModels (nI its.length) 0 fLow fRange fCache fPend 0 fOuts fIns fReads fBad fIR fAsk fBAsk fCode fRL fRR fX fWrites 0)), ((g 2), .inl (cI, 512, .inl vNow)), ((g 4), .inl (cI, 600, .inl vIM)), ((g 5), .inl (cI, 600, .inl vIW))]) (va_runS (As := [.int p1, .int 0, .int (nI (2 ^ bb - 1))]) (rest := []) ⟨hx, hb, hml, hown, hts⟩ (c_M_in l dC dI cI cM cO H.size p1 0 (nI (2 ^ bb - 1))) (cwS 3 hts (my_gS k1062 k1063 k12 k1064) rfl rfl rfl (by decide +kernel) ⟨by rw [hR]; exact Nat.le_of_ble_eq_true rfl, by rw [hR]; exact Nat.le_of_ble_eq_true rfl⟩) (my_pre hK hN (hP.sub [] rfl) (hD.sub [] (by decide) rfl)) rfl rfl hl.1 rfl (lv_room (Nat.le_of_ble_eq_true rfl)) d_M_bits_35 ⟨by rw [hR]; exact Nat.le_of_ble_eq_true rfl, by rw [hR]; exact Nat.le_of_ble_eq_true rfl⟩) hP hD hS hA [] [0, 1, 2, 3] rfl rfl (by decide) (by decide) (fun r_35 u9 H locs hw_35 hP hD hS => ?_)
      have hw_35 : r_35 = if 0 ≤ p1 ∧ p1 ≤ (nI (2 ^ bb - 1)) then 1 else 0 := hw_35
      have hP : va_P (dC, dI) vwCl [(o, .inr (9, mO g 4 fShift fModels (nI its.length) 0 fLow fRange fCache fPend 0 fOuts fIns fReads fBad fIR fAsk fBAsk fCode fRL fRR fX fWrites 0)), ((g 2), .inl (cI, 512, .inl vNow)), ((g 4), .inl (cI, 600, .inl vIM)), ((g 5), .inl (cI, 600, .inl vIW))] H := hP
      have hD : va_D A [(o, .inr (9, mO g 4 fShift fModels (nI its.length) 0 fLow fRange fCache fPend 0 fOuts fIns fReads fBad fIR fAsk fBAsk fCode fRL fRR fX fWrites 0)), ((g 2), .inl (cI, 512, .inl vNow)), ((g 4), .inl (cI, 600, .inl vIM)), ((g 5), .inl (cI, 600, .inl vIW))] := hD
      refine lv_if_ne (tgt := 44) hx hb d_M_bits_38 (by decide) (fun c_5 => ?_) (fun c_5 => ?_)
      · obtain ⟨vv, -, hv9, ev9⟩ := in_of2 (a := 0) (b := 2 ^ bb - 1) (by decide) (by have := pw12 (show bb ≤ 12 by omega); omega) (one_ne hw_35 c_5)
        subst ev9
        have hp2 := Nat.two_pow_pos bb
        have hvl : vv < 2 ^ bb := by omega
        have hp12 := pw12 (show bb ≤ 12 by omega)
        refine lv_aload_n hx hb d_M_bits_44 rfl (lv_at hl 0 rfl) ?_
        refine va_get (D := (dC, dI)) (ci := 9) (v := .int 0) (C := "RangeCodersModel") (T := T_M) (N := 35) hx hb hg in_M hown hK hP 0 rfl rfl 10 (by decide) (hg _ k962) (fun _ h9 => h9) rfl d_M_bits_45 ?_
        refine lv_if_eq (tgt := 54) hx hb d_M_bits_48 (by decide) (fun c_6 => ?_) (fun c_6 => ?_)
        · refine lv_aload_n hx hb d_M_bits_54 rfl (lv_at hl 0 rfl) ?_
          refine va_get (D := (dC, dI)) (ci := 9) (v := .int (nI its.length)) (C := "RangeCodersModel") (T := T_M) (N := 35) hx hb hg in_M hown hK hP 0 rfl rfl 7 (by decide) (hg _ k959) (fun _ h9 => h9) rfl d_M_bits_55 ?_
          refine lv_sipush (v := 600) hx hb d_M_bits_58 (by decide) ?_
          refine lv_icmp_ne (tgt := 67) hx hb d_M_bits_61 (by decide) (fun c_7 => ?_) (fun c_7 => ?_)
          · have hk6 : its.length < 600 := nI_600 hki c_7
            refine lv_aload_n hx hb d_M_bits_67 rfl (lv_at hl 0 rfl) ?_
            refine lv_iload_n hx hb d_M_bits_68 rfl (lv_at hl 1 rfl) ?_
            refine lv_iload_n hx hb d_M_bits_69 rfl (lv_at hl 2 rfl) ?_
            refine my_cv (wr := [((g 2), .inl (cI, 512, .inl vNow)), ((g 4), .inl (cI, 600, .inl vIM)), ((g 5), .inl (cI, 600, .inl vIW))]) (va_runV (As := [.int (nI vv), .int (nI bb)]) (rest := []) ⟨hx, hb, hml, hown, hts⟩ (c_M_putValue4 l dC dI cI cM cO H.size o g fShift fModels (nI its.length) 0 fLow fRange fCache fPend 0 fOuts fIns fReads fBad fIR fAsk fBAsk fCode fRL fRR fX fWrites 0 (nI vv) (nI bb)) (cwV 2 hts (my_gV k1143 k1145 ks39 k12 k1146) rfl rfl rfl (by decide +kernel) ⟨by rw [hR]; exact Nat.le_of_ble_eq_true rfl, by rw [hR]; exact Nat.le_of_ble_eq_true rfl⟩) (my_preV hK hN (hP.sub [0] rfl) (hD.sub [0] (by decide) rfl) 0 rfl rfl) rfl rfl hl.1 rfl (lv_room (Nat.le_of_ble_eq_true rfl)) d_M_bits_70 ⟨by rw [hR]; exact Nat.le_of_ble_eq_true rfl, by rw [hR]; exact Nat.le_of_ble_eq_true rfl⟩) hP hD hS hA [0] [1, 2, 3] rfl rfl (by decide) (by decide) (fun u9 H locs hw_70 hP hD hS => ?_)
            have hw_70 : True := hw_70
            have hP : va_P (dC, dI) vwCl [((g 2), .inl (cI, 512, .inl vNow)), ((g 4), .inl (cI, 600, .inl vIM)), ((g 5), .inl (cI, 600, .inl vIW)), (o, .inr (9, mO g 4 fShift fModels (nI its.length) 0 fLow fRange fCache fPend 0 fOuts fIns fReads fBad fIR fAsk fBAsk fCode fRL fRR fX fWrites 0))] H := hP
            have hD : va_D A [((g 2), .inl (cI, 512, .inl vNow)), ((g 4), .inl (cI, 600, .inl vIM)), ((g 5), .inl (cI, 600, .inl vIW)), (o, .inr (9, mO g 4 fShift fModels (nI its.length) 0 fLow fRange fCache fPend 0 fOuts fIns fReads fBad fIR fAsk fBAsk fCode fRL fRR fX fWrites 0))] := hD
            refine lv_aload_n hx hb d_M_bits_73 rfl (lv_at hl 0 rfl) ?_
            refine lv_iload_n hx hb d_M_bits_74 rfl (lv_at hl 2 rfl) ?_
            refine lv_ineg hx hb d_M_bits_75 ?_
            refine lv_topi (fun v_8 ev_8 => ?_)
            refine lv_iload_n hx hb d_M_bits_76 rfl (lv_at hl 1 rfl) ?_
            refine my_ci (wr := [((g 2), .inl (cI, 512, .inl vNow))]) (va_runV (As := [.int v_8, .int (nI vv)]) (rest := []) ⟨hx, hb, hml, hown, hts⟩ (c_M_addItem l dC dI cI cM cO H.size o g 4 fShift fModels 0 fLow fRange fCache fPend 0 fOuts fIns fReads fBad fIR fAsk fBAsk fCode fRL fRR fX fWrites 0 vIM vIW its.length v_8 (nI vv) (hk6)) (cwV 2 hts (my_gV k1135 k1137 ks38 k12 k1138) rfl rfl rfl (by decide +kernel) ⟨by rw [hR]; exact Nat.le_of_ble_eq_true rfl, by rw [hR]; exact Nat.le_of_ble_eq_true rfl⟩) (my_preV hK hN (hP.sub [3, 1, 2] rfl) (hD.sub [3, 1, 2] (by decide) rfl) 0 rfl rfl) rfl rfl hl.1 rfl (lv_room (Nat.le_of_ble_eq_true rfl)) d_M_bits_77 ⟨by rw [hR]; exact Nat.le_of_ble_eq_true rfl, by rw [hR]; exact Nat.le_of_ble_eq_true rfl⟩) hP hD hS hA [3, 1, 2] [0] rfl rfl (by decide) (by decide) (fun r_77 u9 H locs hw_77 hP hD hS => ?_)
            obtain ⟨f2_77, v2_77⟩ := u9
            have hw_77 : r_77 = nI (its.length + 1) ∧ f2_77 = upd vIM its.length v_8 ∧ v2_77 = upd vIW its.length (nI vv) := hw_77
            have hP : va_P (dC, dI) vwCl [((g 2), .inl (cI, 512, .inl vNow)), (o, .inr (9, mO g 4 fShift fModels (nI (its.length + 1)) 0 fLow fRange fCache fPend 0 fOuts fIns fReads fBad fIR fAsk fBAsk fCode fRL fRR fX fWrites 0)), ((g 4), .inl (cI, 600, .inl f2_77)), ((g 5), .inl (cI, 600, .inl v2_77))] H := hP
            have hD : va_D A [((g 2), .inl (cI, 512, .inl vNow)), (o, .inr (9, mO g 4 fShift fModels (nI (its.length + 1)) 0 fLow fRange fCache fPend 0 fOuts fIns fReads fBad fIR fAsk fBAsk fCode fRL fRR fX fWrites 0)), ((g 4), .inl (cI, 600, .inl f2_77)), ((g 5), .inl (cI, 600, .inl v2_77))] := hD
            exact my_iret (v := r_77) hx hb hr (rfl) hlocks hQ hK hS (Nat.le_refl _) (Nat.le_refl _) (nI (its.length + 1), (0 : Int32), f2_77, v2_77) (MI3_add (it := (0, bb, vv)) hk6 hit hok hw_77.2.1 hw_77.2.2 (by rw [ev_8]; rfl) rfl (it_val hb1 hb2 hvl)) (hP.sub [1, 0, 2, 3] rfl) (hD.sub [1, 0, 2, 3] (by decide) rfl) d_M_bits_80
          · refine lv_bipush (v := (-4)) hx hb d_M_bits_64 (by decide) ?_
            exact my_iret (v := (-4)) hx hb hr (rfl) hlocks hQ hK hS (Nat.le_refl _) (Nat.le_refl _) ((nI its.length), (0 : Int32), vIM, vIW) (⟨its, hki, rfl, rfl, hit, hok⟩) (hP.sub [0, 1, 2, 3] rfl) (hD.sub [0, 1, 2, 3] (by decide) rfl) d_M_bits_66
        · exact absurd (by decide) c_6
      · refine lv_bipush (v := (-2)) hx hb d_M_bits_41 (by decide) ?_
        exact my_iret (v := (-2)) hx hb hr (rfl) hlocks hQ hK hS (Nat.le_refl _) (Nat.le_refl _) ((nI its.length), (0 : Int32), vIM, vIW) (⟨its, hki, rfl, rfl, hit, hok⟩) (hP.sub [0, 1, 2, 3] rfl) (hD.sub [0, 1, 2, 3] (by decide) rfl) d_M_bits_43
