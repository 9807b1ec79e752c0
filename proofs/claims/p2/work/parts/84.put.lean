set_option maxHeartbeats 2000000 in
set_option maxRecDepth 100000 in
theorem c_M_put0 (l : Launch) (dC : Nat → ClassId) (dI : Nat → Nat → Nat) (cI cM cO : ClassId) (sz : Nat) (o : Nat) (g : Nat → Nat) (fForm : Int32) (fShift : Int32) (fModels : Int32) (fItems : Int32) (fEnded : Int32) (fLow : Int64) (fRange : Int64) (fCache : Int32) (fPend : Int32) (fGoes : Int32) (fOuts : Int32) (fIns : Int32) (fReads : Int32) (fBad : Int32) (fIR : Int32) (fAsk : Int32) (fBAsk : Int32) (fCode : Int64) (fRL : Int64) (fRR : Int64) (fX : Int64) (fWrites : Int32) (fThrown : Int32) (vMany : Nat → Int32) (vCounts : Nat → Int32) (vNow : Nat → Int32) (vIM : Nat → Int32) (vIW : Nat → Int32) (vGoing : Nat → Int32) (km : Nat) (N : Nat → Nat) (p1 : Int32) (p2 : Int32) (hfo : fForm = 0) (hen : fEnded = 0) (hmod : fModels = nI km) (hMD : MD km N vMany vCounts) (hT : TB 0 km N vNow) (hI : MI0 fItems fLow fRange fCache fPend fGoes vGoing) : MetI l y_M_put (Cond.code y_M_put prog_14_method_29_code 3 (some .int) :: gw) ({ frames := 5, cells := 0, slots := 0, locals := 112 } : Room) (dC, dI) vwCl (kT cI cM cO) [.ref o, .int p1, .int p2] [(o, .inr (9, mO g fForm fShift fModels fItems fEnded fLow fRange fCache fPend fGoes fOuts fIns fReads fBad fIR fAsk fBAsk fCode fRL fRR fX fWrites fThrown)), ((g 0), .inl (cI, 8, .inl vMany)), ((g 1), .inl (cI, 512, .inl vCounts)), ((g 2), .inl (cI, 512, .inl vNow)), ((g 4), .inl (cI, 600, .inl vIM)), ((g 5), .inl (cI, 600, .inl vIW)), ((g 6), .inl (cI, 9000, .inl vGoing))] sz (fun (r : Int32) (u : Int32 × Int64 × Int64 × Int32 × Int32 × Int32 × Int32 × (Nat → Int32) × (Nat → Int32) × (Nat → Int32) × (Nat → Int32)) => MI0 u.1 u.2.1 u.2.2.1 u.2.2.2.1 u.2.2.2.2.1 u.2.2.2.2.2.1 u.2.2.2.2.2.2.2.2.2.2 ∧ TB 0 km N u.2.2.2.2.2.2.2.1) (fun (u : Int32 × Int64 × Int64 × Int32 × Int32 × Int32 × Int32 × (Nat → Int32) × (Nat → Int32) × (Nat → Int32) × (Nat → Int32)) => [(o, .inr (9, mO g fForm fShift fModels u.1 fEnded u.2.1 u.2.2.1 u.2.2.2.1 u.2.2.2.2.1 u.2.2.2.2.2.1 fOuts fIns fReads fBad fIR fAsk fBAsk fCode fRL fRR fX fWrites u.2.2.2.2.2.2.1)), ((g 0), .inl (cI, 8, .inl vMany)), ((g 1), .inl (cI, 512, .inl vCounts)), ((g 2), .inl (cI, 512, .inl u.2.2.2.2.2.2.2.1)), ((g 4), .inl (cI, 600, .inl u.2.2.2.2.2.2.2.2.1)), ((g 5), .inl (cI, 600, .inl u.2.2.2.2.2.2.2.2.2.1)), ((g 6), .inl (cI, 9000, .inl u.2.2.2.2.2.2.2.2.2.2))]) 0 0 := by
  refine my_ofI (cc := prog_14_method_29_code) (n := 3) (ret := (some .int)) (by decide) rfl (Nat.le_of_ble_eq_true rfl) ?_
  intro p e s m args below meth c R Q A ls H locs hx hb hr hts hown hlocks hml hnm hR hQ hA hl hP hK hN hD hS
  have hg : ∀ w ∈ gw, w.before args s = true := fun w h => hts w (List.mem_cons_of_mem _ h)
  have hown : s.vm.findClass "RangeCodersModel" = some m.cls := hown
  have hl : lv_has ls 3 [(0, .ref o), (1, .int p1), (2, .int p2)] := hl
  subst hfo
  subst hen
  obtain ⟨ki, hki, rfl, Rg, L, ca, Pn, bs, rfl, rfl, rfl, rfl, rfl, hE, hG, ho, hlb⟩ := hI
  have hP : va_P (dC, dI) vwCl [(o, .inr (9, mO g 0 fShift fModels (nI ki) 0 (lN L) (lN Rg) (caI ca) (nI Pn) (nI bs.length) fOuts fIns fReads fBad fIR fAsk fBAsk fCode fRL fRR fX fWrites fThrown)), ((g 0), .inl (cI, 8, .inl vMany)), ((g 1), .inl (cI, 512, .inl vCounts)), ((g 2), .inl (cI, 512, .inl vNow)), ((g 4), .inl (cI, 600, .inl vIM)), ((g 5), .inl (cI, 600, .inl vIW)), ((g 6), .inl (cI, 9000, .inl vGoing))] H := hP
  have hD : va_D A [(o, .inr (9, mO g 0 fShift fModels (nI ki) 0 (lN L) (lN Rg) (caI ca) (nI Pn) (nI bs.length) fOuts fIns fReads fBad fIR fAsk fBAsk fCode fRL fRR fX fWrites fThrown)), ((g 0), .inl (cI, 8, .inl vMany)), ((g 1), .inl (cI, 512, .inl vCounts)), ((g 2), .inl (cI, 512, .inl vNow)), ((g 4), .inl (cI, 600, .inl vIM)), ((g 5), .inl (cI, 600, .inl vIW)), ((g 6), .inl (cI, 9000, .inl vGoing))] := hD
  have hl : lv_has ls 3 [(0, .ref o), (1, .int p1), (2, .int p2)] := hl
  refine lv_aload_n hx hb d_M_put_0 rfl (lv_at hl 0 rfl) ?_
  refine lv_iconst (v := 0) hx hb d_M_put_1 (by decide) ?_
  refine va_put (D := (dC, dI)) (ci := 9) (v := .int 0) (ty := .int) (C := "RangeCodersModel") (T := T_M) (N := 35) hx hb hg in_M t_M o_M n_M hown hK hP hD hS 0 rfl rfl 34 (by decide) (hg _ k986) (fun _ h9 => h9) rfl (by decide +kernel) rfl rfl (Nat.le_of_ble_eq_true rfl) d_M_put_2 (fun H locs hP hD hS => ?_)
  have hP : va_P (dC, dI) vwCl [(o, .inr (9, mO g 0 fShift fModels (nI ki) 0 (lN L) (lN Rg) (caI ca) (nI Pn) (nI bs.length) fOuts fIns fReads fBad fIR fAsk fBAsk fCode fRL fRR fX fWrites 0)), ((g 0), .inl (cI, 8, .inl vMany)), ((g 1), .inl (cI, 512, .inl vCounts)), ((g 2), .inl (cI, 512, .inl vNow)), ((g 4), .inl (cI, 600, .inl vIM)), ((g 5), .inl (cI, 600, .inl vIW)), ((g 6), .inl (cI, 9000, .inl vGoing))] H := hP
  have hD : va_D A [(o, .inr (9, mO g 0 fShift fModels (nI ki) 0 (lN L) (lN Rg) (caI ca) (nI Pn) (nI bs.length) fOuts fIns fReads fBad fIR fAsk fBAsk fCode fRL fRR fX fWrites 0)), ((g 0), .inl (cI, 8, .inl vMany)), ((g 1), .inl (cI, 512, .inl vCounts)), ((g 2), .inl (cI, 512, .inl vNow)), ((g 4), .inl (cI, 600, .inl vIM)), ((g 5), .inl (cI, 600, .inl vIW)), ((g 6), .inl (cI, 9000, .inl vGoing))] := hD
  refine lv_aload_n hx hb d_M_put_5 rfl (lv_at hl 0 rfl) ?_
  refine lv_iload_n hx hb d_M_put_6 rfl (lv_at hl 1 rfl) ?_
  refine lv_iload_n hx hb d_M_put_7 rfl (lv_at hl 2 rfl) ?_
  refine my_ci (wr := [((g 1), .inl (cI, 512, .inl vCounts)), ((g 2), .inl (cI, 512, .inl vNow)), ((g 4), .inl (cI, 600, .inl vIM)), ((g 5), .inl (cI, 600, .inl vIW)), ((g 6), .inl (cI, 9000, .inl vGoing))]) (va_runV (As := [.int p1, .int p2]) (rest := []) ⟨hx, hb, hml, hown, hts⟩ (c_M_isSign l dC dI cI cM cO H.size o g 0 fShift fModels (nI ki) 0 (lN L) (lN Rg) (caI ca) (nI Pn) (nI bs.length) fOuts fIns fReads fBad fIR fAsk fBAsk fCode fRL fRR fX fWrites 0 vMany km p1 p2 (hMD.1) (by first | assumption | omega)) (cwV 2 hts (my_gV k1069 k1071 ks25 k12 k1072) rfl rfl rfl (by decide +kernel) ⟨by rw [hR]; exact Nat.le_of_ble_eq_true rfl, by rw [hR]; exact Nat.le_of_ble_eq_true rfl⟩) (my_preV hK hN (hP.sub [0, 1] rfl) (hD.sub [0, 1] (by decide) rfl) 0 rfl rfl) rfl rfl hl.1 rfl (lv_room (Nat.le_of_ble_eq_true rfl)) d_M_put_8 ⟨by rw [hR]; exact Nat.le_of_ble_eq_true rfl, by rw [hR]; exact Nat.le_of_ble_eq_true rfl⟩) hP hD hS hA [0, 1] [2, 3, 4, 5, 6] rfl rfl (by decide) (by decide) (fun r_8 u9 H locs hw_8 hP hD hS => ?_)
  have hw_8 : r_8 = if isN km p1 ∧ (0 ≤ p2 ∧ p2 ≤ vMany p1.toNatClampNeg - 1) then 1 else 0 := hw_8
  have hP : va_P (dC, dI) vwCl [((g 1), .inl (cI, 512, .inl vCounts)), ((g 2), .inl (cI, 512, .inl vNow)), ((g 4), .inl (cI, 600, .inl vIM)), ((g 5), .inl (cI, 600, .inl vIW)), ((g 6), .inl (cI, 9000, .inl vGoing)), (o, .inr (9, mO g 0 fShift fModels (nI ki) 0 (lN L) (lN Rg) (caI ca) (nI Pn) (nI bs.length) fOuts fIns fReads fBad fIR fAsk fBAsk fCode fRL fRR fX fWrites 0)), ((g 0), .inl (cI, 8, .inl vMany))] H := hP
  have hD : va_D A [((g 1), .inl (cI, 512, .inl vCounts)), ((g 2), .inl (cI, 512, .inl vNow)), ((g 4), .inl (cI, 600, .inl vIM)), ((g 5), .inl (cI, 600, .inl vIW)), ((g 6), .inl (cI, 9000, .inl vGoing)), (o, .inr (9, mO g 0 fShift fModels (nI ki) 0 (lN L) (lN Rg) (caI ca) (nI Pn) (nI bs.length) fOuts fIns fReads fBad fIR fAsk fBAsk fCode fRL fRR fX fWrites 0)), ((g 0), .inl (cI, 8, .inl vMany))] := hD
  refine lv_if_ne (tgt := 16) hx hb d_M_put_11 (by decide) (fun c_1 => ?_) (fun c_1 => ?_)
  · obtain ⟨jj, tt, hj, ej, ht, et⟩ := sg_of hMD (one_ne hw_8 c_1)
    subst ej
    subst et
    have hk8 := hMD.1
    obtain ⟨hn9, hn2, hn64, C9, hc9, hB9⟩ := hMD.2 jj hj
    refine lv_aload_n hx hb d_M_put_16 rfl (lv_at hl 0 rfl) ?_
    refine va_get (D := (dC, dI)) (ci := 9) (v := .int 0) (C := "RangeCodersModel") (T := T_M) (N := 35) hx hb hg in_M hown hK hP 5 rfl rfl 10 (by decide) (hg _ k962) (fun _ h9 => h9) rfl d_M_put_17 ?_
    refine lv_if_ne (tgt := 45) hx hb d_M_put_20 (by decide) (fun c_2 => ?_) (fun c_2 => ?_)
    · exact absurd rfl c_2
    · refine lv_aload_n hx hb d_M_put_23 rfl (lv_at hl 0 rfl) ?_
      refine va_get (D := (dC, dI)) (ci := 9) (v := .int 0) (C := "RangeCodersModel") (T := T_M) (N := 35) hx hb hg in_M hown hK hP 5 rfl rfl 0 (by decide) (hg _ k952) (fun _ h9 => h9) rfl d_M_put_24 ?_
      refine lv_iconst (v := 2) hx hb d_M_put_27 (by decide) ?_
      refine lv_icmp_eq (tgt := 48) hx hb d_M_put_28 (by decide) (fun c_3 => ?_) (fun c_3 => ?_)
      · exact absurd c_3 (by decide)
      · refine lv_aload_n hx hb d_M_put_31 rfl (lv_at hl 0 rfl) ?_
        refine va_get (D := (dC, dI)) (ci := 9) (v := .ref (g 2)) (C := "RangeCodersModel") (T := T_M) (N := 35) hx hb hg in_M hown hK hP 5 rfl rfl 5 (by decide) (hg _ k957) (fun _ h9 => h9) rfl d_M_put_32 ?_
        refine lv_bipush (v := 64) hx hb d_M_put_35 (by decide) ?_
        refine lv_iload_n hx hb d_M_put_37 rfl (lv_at hl 1 rfl) ?_
        refine lv_imul hx hb d_M_put_38 ?_
        refine lv_topi (fun v_4 ev_4 => ?_)
        refine lv_iload_n hx hb d_M_put_39 rfl (lv_at hl 2 rfl) ?_
        refine lv_iadd hx hb d_M_put_40 ?_
        refine lv_topi (fun v_5 ev_5 => ?_)
        have hix : v_5 = nI (64 * jj + tt) := by rw [ev_5, ev_4]; exact ix64
        refine va_iald hx hb hK hP 1 0 rfl rfl (by rw [hix]; exact vp_in_nI (by omega) (by decide)) d_M_put_41 ?_
        refine lv_topi (fun v_6 ev_6 => ?_)
        obtain ⟨F9, hF⟩ := hT jj hj
        obtain ⟨hF9, hs9⟩ := tab_01 (by decide) hF
        have z9 : v_6 = nI (F9 tt) := by rw [ev_6, hix, nI_clamp (by omega)]; exact hF9 tt ht
        subst z9
        refine lv_if_ne (tgt := 48) hx hb d_M_put_42 (by decide) (fun c_7 => ?_) (fun c_7 => ?_)
        · have hFp : 0 < F9 tt := nI_nz c_7
          refine lv_aload_n hx hb d_M_put_48 rfl (lv_at hl 0 rfl) ?_
          refine va_get (D := (dC, dI)) (ci := 9) (v := .int (nI ki)) (C := "RangeCodersModel") (T := T_M) (N := 35) hx hb hg in_M hown hK hP 5 rfl rfl 7 (by decide) (hg _ k959) (fun _ h9 => h9) rfl d_M_put_49 ?_
          refine lv_sipush (v := 600) hx hb d_M_put_52 (by decide) ?_
          refine lv_icmp_ne (tgt := 61) hx hb d_M_put_55 (by decide) (fun c_8 => ?_) (fun c_8 => ?_)
          · have hk6 : ki < 600 := nI_600 hki c_8
            refine lv_aload_n hx hb d_M_put_61 rfl (lv_at hl 0 rfl) ?_
            refine lv_iload_n hx hb d_M_put_62 rfl (lv_at hl 1 rfl) ?_
            refine lv_iload_n hx hb d_M_put_63 rfl (lv_at hl 2 rfl) ?_
            refine my_cv (wr := [((g 1), .inl (cI, 512, .inl vCounts)), ((g 4), .inl (cI, 600, .inl vIM)), ((g 5), .inl (cI, 600, .inl vIW))]) (va_runV (As := [.int (nI jj), .int (nI tt)]) (rest := []) ⟨hx, hb, hml, hown, hts⟩ (c_M_putSign0 l dC dI cI cM cO H.size o g fShift fModels (nI ki) 0 fOuts fIns fReads fBad fIR fAsk fBAsk fCode fRL fRR fX fWrites 0 vMany vNow vGoing jj (N jj) tt F9 Rg L ca Pn bs (by omega) (hn9) (hn64) (ht) (hF9) (hFp) (hs9) (hE) (hG) (by omega)) (cwV 2 hts (my_gV k1085 k1087 ks27 k12 k1088) rfl rfl rfl (by decide +kernel) ⟨by rw [hR]; exact Nat.le_of_ble_eq_true rfl, by rw [hR]; exact Nat.le_of_ble_eq_true rfl⟩) (my_preV hK hN (hP.sub [5, 6, 1, 4] rfl) (hD.sub [5, 6, 1, 4] (by decide) rfl) 0 rfl rfl) rfl rfl hl.1 rfl (lv_room (Nat.le_of_ble_eq_true rfl)) d_M_put_64 ⟨by rw [hR]; exact Nat.le_of_ble_eq_true rfl, by rw [hR]; exact Nat.le_of_ble_eq_true rfl⟩) hP hD hS hA [5, 6, 1, 4] [0, 2, 3] rfl rfl (by decide) (by decide) (fun u9 H locs hw_64 hP hD hS => ?_)
            obtain ⟨f2_64, v2_64⟩ := u9
            have hw_64 : sgI f2_64 (64 * jj) (N jj) (lrn (N jj) tt F9) ∧ sgO f2_64 vNow (64 * jj) (N jj) ∧ gIs v2_64 (eB (wdS (Rg / ns F9 (N jj) * F9 tt, L + Rg / ns F9 (N jj) * ns F9 tt, ca, Pn, bs))) := hw_64
            have hP : va_P (dC, dI) vwCl [((g 1), .inl (cI, 512, .inl vCounts)), ((g 4), .inl (cI, 600, .inl vIM)), ((g 5), .inl (cI, 600, .inl vIW)), (o, .inr (9, mO g 0 fShift fModels (nI ki) 0 (lN (eL (wdS (Rg / ns F9 (N jj) * F9 tt, L + Rg / ns F9 (N jj) * ns F9 tt, ca, Pn, bs)))) (lN (eR (wdS (Rg / ns F9 (N jj) * F9 tt, L + Rg / ns F9 (N jj) * ns F9 tt, ca, Pn, bs)))) (caI (eC (wdS (Rg / ns F9 (N jj) * F9 tt, L + Rg / ns F9 (N jj) * ns F9 tt, ca, Pn, bs)))) (nI (eP (wdS (Rg / ns F9 (N jj) * F9 tt, L + Rg / ns F9 (N jj) * ns F9 tt, ca, Pn, bs)))) (nI (eB (wdS (Rg / ns F9 (N jj) * F9 tt, L + Rg / ns F9 (N jj) * ns F9 tt, ca, Pn, bs))).length) fOuts fIns fReads fBad fIR fAsk fBAsk fCode fRL fRR fX fWrites 0)), ((g 0), .inl (cI, 8, .inl vMany)), ((g 2), .inl (cI, 512, .inl f2_64)), ((g 6), .inl (cI, 9000, .inl v2_64))] H := hP
            have hD : va_D A [((g 1), .inl (cI, 512, .inl vCounts)), ((g 4), .inl (cI, 600, .inl vIM)), ((g 5), .inl (cI, 600, .inl vIW)), (o, .inr (9, mO g 0 fShift fModels (nI ki) 0 (lN (eL (wdS (Rg / ns F9 (N jj) * F9 tt, L + Rg / ns F9 (N jj) * ns F9 tt, ca, Pn, bs)))) (lN (eR (wdS (Rg / ns F9 (N jj) * F9 tt, L + Rg / ns F9 (N jj) * ns F9 tt, ca, Pn, bs)))) (caI (eC (wdS (Rg / ns F9 (N jj) * F9 tt, L + Rg / ns F9 (N jj) * ns F9 tt, ca, Pn, bs)))) (nI (eP (wdS (Rg / ns F9 (N jj) * F9 tt, L + Rg / ns F9 (N jj) * ns F9 tt, ca, Pn, bs)))) (nI (eB (wdS (Rg / ns F9 (N jj) * F9 tt, L + Rg / ns F9 (N jj) * ns F9 tt, ca, Pn, bs))).length) fOuts fIns fReads fBad fIR fAsk fBAsk fCode fRL fRR fX fWrites 0)), ((g 0), .inl (cI, 8, .inl vMany)), ((g 2), .inl (cI, 512, .inl f2_64)), ((g 6), .inl (cI, 9000, .inl v2_64))] := hD
            refine lv_aload_n hx hb d_M_put_67 rfl (lv_at hl 0 rfl) ?_
            refine lv_iload_n hx hb d_M_put_68 rfl (lv_at hl 1 rfl) ?_
            refine lv_iload_n hx hb d_M_put_69 rfl (lv_at hl 2 rfl) ?_
            refine my_ci (wr := [((g 1), .inl (cI, 512, .inl vCounts)), ((g 0), .inl (cI, 8, .inl vMany)), ((g 2), .inl (cI, 512, .inl f2_64)), ((g 6), .inl (cI, 9000, .inl v2_64))]) (va_runV (As := [.int (nI jj), .int (nI tt)]) (rest := []) ⟨hx, hb, hml, hown, hts⟩ (c_M_addItem l dC dI cI cM cO H.size o g 0 fShift fModels 0 (lN (eL (wdS (Rg / ns F9 (N jj) * F9 tt, L + Rg / ns F9 (N jj) * ns F9 tt, ca, Pn, bs)))) (lN (eR (wdS (Rg / ns F9 (N jj) * F9 tt, L + Rg / ns F9 (N jj) * ns F9 tt, ca, Pn, bs)))) (caI (eC (wdS (Rg / ns F9 (N jj) * F9 tt, L + Rg / ns F9 (N jj) * ns F9 tt, ca, Pn, bs)))) (nI (eP (wdS (Rg / ns F9 (N jj) * F9 tt, L + Rg / ns F9 (N jj) * ns F9 tt, ca, Pn, bs)))) (nI (eB (wdS (Rg / ns F9 (N jj) * F9 tt, L + Rg / ns F9 (N jj) * ns F9 tt, ca, Pn, bs))).length) fOuts fIns fReads fBad fIR fAsk fBAsk fCode fRL fRR fX fWrites 0 vIM vIW ki (nI jj) (nI tt) (hk6)) (cwV 2 hts (my_gV k1135 k1137 ks38 k12 k1138) rfl rfl rfl (by decide +kernel) ⟨by rw [hR]; exact Nat.le_of_ble_eq_true rfl, by rw [hR]; exact Nat.le_of_ble_eq_true rfl⟩) (my_preV hK hN (hP.sub [3, 1, 2] rfl) (hD.sub [3, 1, 2] (by decide) rfl) 0 rfl rfl) rfl rfl hl.1 rfl (lv_room (Nat.le_of_ble_eq_true rfl)) d_M_put_70 ⟨by rw [hR]; exact Nat.le_of_ble_eq_true rfl, by rw [hR]; exact Nat.le_of_ble_eq_true rfl⟩) hP hD hS hA [3, 1, 2] [0, 4, 5, 6] rfl rfl (by decide) (by decide) (fun r_70 u9 H locs hw_70 hP hD hS => ?_)
            obtain ⟨f2_70, v2_70⟩ := u9
            have hw_70 : r_70 = nI (ki + 1) ∧ f2_70 = upd vIM ki (nI jj) ∧ v2_70 = upd vIW ki (nI tt) := hw_70
            have hP : va_P (dC, dI) vwCl [((g 1), .inl (cI, 512, .inl vCounts)), ((g 0), .inl (cI, 8, .inl vMany)), ((g 2), .inl (cI, 512, .inl f2_64)), ((g 6), .inl (cI, 9000, .inl v2_64)), (o, .inr (9, mO g 0 fShift fModels (nI (ki + 1)) 0 (lN (eL (wdS (Rg / ns F9 (N jj) * F9 tt, L + Rg / ns F9 (N jj) * ns F9 tt, ca, Pn, bs)))) (lN (eR (wdS (Rg / ns F9 (N jj) * F9 tt, L + Rg / ns F9 (N jj) * ns F9 tt, ca, Pn, bs)))) (caI (eC (wdS (Rg / ns F9 (N jj) * F9 tt, L + Rg / ns F9 (N jj) * ns F9 tt, ca, Pn, bs)))) (nI (eP (wdS (Rg / ns F9 (N jj) * F9 tt, L + Rg / ns F9 (N jj) * ns F9 tt, ca, Pn, bs)))) (nI (eB (wdS (Rg / ns F9 (N jj) * F9 tt, L + Rg / ns F9 (N jj) * ns F9 tt, ca, Pn, bs))).length) fOuts fIns fReads fBad fIR fAsk fBAsk fCode fRL fRR fX fWrites 0)), ((g 4), .inl (cI, 600, .inl f2_70)), ((g 5), .inl (cI, 600, .inl v2_70))] H := hP
            have hD : va_D A [((g 1), .inl (cI, 512, .inl vCounts)), ((g 0), .inl (cI, 8, .inl vMany)), ((g 2), .inl (cI, 512, .inl f2_64)), ((g 6), .inl (cI, 9000, .inl v2_64)), (o, .inr (9, mO g 0 fShift fModels (nI (ki + 1)) 0 (lN (eL (wdS (Rg / ns F9 (N jj) * F9 tt, L + Rg / ns F9 (N jj) * ns F9 tt, ca, Pn, bs)))) (lN (eR (wdS (Rg / ns F9 (N jj) * F9 tt, L + Rg / ns F9 (N jj) * ns F9 tt, ca, Pn, bs)))) (caI (eC (wdS (Rg / ns F9 (N jj) * F9 tt, L + Rg / ns F9 (N jj) * ns F9 tt, ca, Pn, bs)))) (nI (eP (wdS (Rg / ns F9 (N jj) * F9 tt, L + Rg / ns F9 (N jj) * ns F9 tt, ca, Pn, bs)))) (nI (eB (wdS (Rg / ns F9 (N jj) * F9 tt, L + Rg / ns F9 (N jj) * ns F9 tt, ca, Pn, bs))).length) fOuts fIns fReads fBad fIR fAsk fBAsk fCode fRL fRR fX fWrites 0)), ((g 4), .inl (cI, 600, .inl f2_70)), ((g 5), .inl (cI, 600, .inl v2_70))] := hD
            have hTP : 0 < ns F9 (N jj) := Nat.lt_of_lt_of_le hFp (ns_ge ht)
            exact my_iret (v := r_70) hx hb hr (rfl) hlocks hQ hK hS (Nat.le_refl _) (Nat.le_refl _) (nI (ki + 1), (lN (eL (wdS (Rg / ns F9 (N jj) * F9 tt, L + Rg / ns F9 (N jj) * ns F9 tt, ca, Pn, bs)))), (lN (eR (wdS (Rg / ns F9 (N jj) * F9 tt, L + Rg / ns F9 (N jj) * ns F9 tt, ca, Pn, bs)))), (caI (eC (wdS (Rg / ns F9 (N jj) * F9 tt, L + Rg / ns F9 (N jj) * ns F9 tt, ca, Pn, bs)))), (nI (eP (wdS (Rg / ns F9 (N jj) * F9 tt, L + Rg / ns F9 (N jj) * ns F9 tt, ca, Pn, bs)))), (nI (eB (wdS (Rg / ns F9 (N jj) * F9 tt, L + Rg / ns F9 (N jj) * ns F9 tt, ca, Pn, bs))).length), (0 : Int32), f2_64, f2_70, v2_70, v2_64) (⟨MI0_of hk6 (nr_inv hE hTP (ns_m1 F9 ht) hFp (by have := hE.1; have : 16777216 ≤ Rg := this; omega)).1 (oct_wd ho) hw_64.2.2 (Nat.le_trans (nr_inv hE hTP (ns_m1 F9 ht) hFp (by have := hE.1; have : 16777216 ≤ Rg := this; omega)).2 (by omega)), TB_set hT (MD_N hMD) (sgO_w hw_64.2.1 hn64) (F := lrn (N jj) tt F9) (Or.inl ⟨by decide, hw_64.1, lrn_ok hn64 ht hs9⟩)⟩) (hP.sub [4, 1, 0, 2, 5, 6, 3] rfl) (hD.sub [4, 1, 0, 2, 5, 6, 3] (by decide) rfl) d_M_put_73
          · refine lv_bipush (v := (-4)) hx hb d_M_put_58 (by decide) ?_
            exact my_iret (v := (-4)) hx hb hr (rfl) hlocks hQ hK hS (Nat.le_refl _) (Nat.le_refl _) ((nI ki), (lN L), (lN Rg), (caI ca), (nI Pn), (nI bs.length), (0 : Int32), vNow, vIM, vIW, vGoing) (⟨⟨ki, hki, rfl, Rg, L, ca, Pn, bs, rfl, rfl, rfl, rfl, rfl, hE, hG, ho, hlb⟩, hT⟩) (hP.sub [5, 6, 0, 1, 2, 3, 4] rfl) (hD.sub [5, 6, 0, 1, 2, 3, 4] (by decide) rfl) d_M_put_60
        · refine lv_bipush (v := (-3)) hx hb d_M_put_45 (by decide) ?_
          exact my_iret (v := (-3)) hx hb hr (rfl) hlocks hQ hK hS (Nat.le_refl _) (Nat.le_refl _) ((nI ki), (lN L), (lN Rg), (caI ca), (nI Pn), (nI bs.length), (0 : Int32), vNow, vIM, vIW, vGoing) (⟨⟨ki, hki, rfl, Rg, L, ca, Pn, bs, rfl, rfl, rfl, rfl, rfl, hE, hG, ho, hlb⟩, hT⟩) (hP.sub [5, 6, 0, 1, 2, 3, 4] rfl) (hD.sub [5, 6, 0, 1, 2, 3, 4] (by decide) rfl) d_M_put_47
  · refine lv_iconst (v := (-1)) hx hb d_M_put_14 (by decide) ?_
    exact my_iret (v := (-1)) hx hb hr (rfl) hlocks hQ hK hS (Nat.le_refl _) (Nat.le_refl _) ((nI ki), (lN L), (lN Rg), (caI ca), (nI Pn), (nI bs.length), (0 : Int32), vNow, vIM, vIW, vGoing) (⟨⟨ki, hki, rfl, Rg, L, ca, Pn, bs, rfl, rfl, rfl, rfl, rfl, hE, hG, ho, hlb⟩, hT⟩) (hP.sub [5, 6, 0, 1, 2, 3, 4] rfl) (hD.sub [5, 6, 0, 1, 2, 3, 4] (by decide) rfl) d_M_put_15
set_option maxHeartbeats 2000000 in
set_option maxRecDepth 100000 in
theorem c_M_put1 (l : Launch) (dC : Nat → ClassId) (dI : Nat → Nat → Nat) (cI cM cO : ClassId) (sz : Nat) (o : Nat) (g : Nat → Nat) (fForm : Int32) (fShift : Int32) (fModels : Int32) (fItems : Int32) (fEnded : Int32) (fLow : Int64) (fRange : Int64) (fCache : Int32) (fPend : Int32) (fGoes : Int32) (fOuts : Int32) (fIns : Int32) (fReads : Int32) (fBad : Int32) (fIR : Int32) (fAsk : Int32) (fBAsk : Int32) (fCode : Int64) (fRL : Int64) (fRR : Int64) (fX : Int64) (fWrites : Int32) (fThrown : Int32) (vMany : Nat → Int32) (vCounts : Nat → Int32) (vNow : Nat → Int32) (vIM : Nat → Int32) (vIW : Nat → Int32) (vGoing : Nat → Int32) (km : Nat) (N : Nat → Nat) (p1 : Int32) (p2 : Int32) (hfo : fForm = 1) (hen : fEnded = 0) (hmod : fModels = nI km) (hMD : MD km N vMany vCounts) (hT : TB 1 km N vNow) (hI : MI1 fItems fLow fRange fGoes vGoing) : MetI l y_M_put (Cond.code y_M_put prog_14_method_29_code 3 (some .int) :: gw) ({ frames := 4, cells := 0, slots := 0, locals := 93 } : Room) (dC, dI) vwCl (kT cI cM cO) [.ref o, .int p1, .int p2] [(o, .inr (9, mO g fForm fShift fModels fItems fEnded fLow fRange fCache fPend fGoes fOuts fIns fReads fBad fIR fAsk fBAsk fCode fRL fRR fX fWrites fThrown)), ((g 0), .inl (cI, 8, .inl vMany)), ((g 1), .inl (cI, 512, .inl vCounts)), ((g 2), .inl (cI, 512, .inl vNow)), ((g 4), .inl (cI, 600, .inl vIM)), ((g 5), .inl (cI, 600, .inl vIW)), ((g 6), .inl (cI, 9000, .inl vGoing))] sz (fun (r : Int32) (u : Int32 × Int64 × Int64 × Int32 × Int32 × (Nat → Int32) × (Nat → Int32) × (Nat → Int32) × (Nat → Int32)) => MI1 u.1 u.2.1 u.2.2.1 u.2.2.2.1 u.2.2.2.2.2.2.2.2 ∧ TB 1 km N u.2.2.2.2.2.1) (fun (u : Int32 × Int64 × Int64 × Int32 × Int32 × (Nat → Int32) × (Nat → Int32) × (Nat → Int32) × (Nat → Int32)) => [(o, .inr (9, mO g fForm fShift fModels u.1 fEnded u.2.1 u.2.2.1 fCache fPend u.2.2.2.1 fOuts fIns fReads fBad fIR fAsk fBAsk fCode fRL fRR fX fWrites u.2.2.2.2.1)), ((g 0), .inl (cI, 8, .inl vMany)), ((g 1), .inl (cI, 512, .inl vCounts)), ((g 2), .inl (cI, 512, .inl u.2.2.2.2.2.1)), ((g 4), .inl (cI, 600, .inl u.2.2.2.2.2.2.1)), ((g 5), .inl (cI, 600, .inl u.2.2.2.2.2.2.2.1)), ((g 6), .inl (cI, 9000, .inl u.2.2.2.2.2.2.2.2))]) 0 0 := by
  refine my_ofI (cc := prog_14_method_29_code) (n := 3) (ret := (some .int)) (by decide) rfl (Nat.le_of_ble_eq_true rfl) ?_
  intro p e s m args below meth c R Q A ls H locs hx hb hr hts hown hlocks hml hnm hR hQ hA hl hP hK hN hD hS
  have hg : ∀ w ∈ gw, w.before args s = true := fun w h => hts w (List.mem_cons_of_mem _ h)
  have hown : s.vm.findClass "RangeCodersModel" = some m.cls := hown
  have hl : lv_has ls 3 [(0, .ref o), (1, .int p1), (2, .int p2)] := hl
  subst hfo
  subst hen
  obtain ⟨ki, hki, rfl, Rg, L, bs, rfl, rfl, rfl, hp, hR6, hG, ho, hlb⟩ := hI
  have hP : va_P (dC, dI) vwCl [(o, .inr (9, mO g 1 fShift fModels (nI ki) 0 (lN L) (lN Rg) fCache fPend (nI bs.length) fOuts fIns fReads fBad fIR fAsk fBAsk fCode fRL fRR fX fWrites fThrown)), ((g 0), .inl (cI, 8, .inl vMany)), ((g 1), .inl (cI, 512, .inl vCounts)), ((g 2), .inl (cI, 512, .inl vNow)), ((g 4), .inl (cI, 600, .inl vIM)), ((g 5), .inl (cI, 600, .inl vIW)), ((g 6), .inl (cI, 9000, .inl vGoing))] H := hP
  have hD : va_D A [(o, .inr (9, mO g 1 fShift fModels (nI ki) 0 (lN L) (lN Rg) fCache fPend (nI bs.length) fOuts fIns fReads fBad fIR fAsk fBAsk fCode fRL fRR fX fWrites fThrown)), ((g 0), .inl (cI, 8, .inl vMany)), ((g 1), .inl (cI, 512, .inl vCounts)), ((g 2), .inl (cI, 512, .inl vNow)), ((g 4), .inl (cI, 600, .inl vIM)), ((g 5), .inl (cI, 600, .inl vIW)), ((g 6), .inl (cI, 9000, .inl vGoing))] := hD
  have hl : lv_has ls 3 [(0, .ref o), (1, .int p1), (2, .int p2)] := hl
  refine lv_aload_n hx hb d_M_put_0 rfl (lv_at hl 0 rfl) ?_
  refine lv_iconst (v := 0) hx hb d_M_put_1 (by decide) ?_
  refine va_put (D := (dC, dI)) (ci := 9) (v := .int 0) (ty := .int) (C := "RangeCodersModel") (T := T_M) (N := 35) hx hb hg in_M t_M o_M n_M hown hK hP hD hS 0 rfl rfl 34 (by decide) (hg _ k986) (fun _ h9 => h9) rfl (by decide +kernel) rfl rfl (Nat.le_of_ble_eq_true rfl) d_M_put_2 (fun H locs hP hD hS => ?_)
  have hP : va_P (dC, dI) vwCl [(o, .inr (9, mO g 1 fShift fModels (nI ki) 0 (lN L) (lN Rg) fCache fPend (nI bs.length) fOuts fIns fReads fBad fIR fAsk fBAsk fCode fRL fRR fX fWrites 0)), ((g 0), .inl (cI, 8, .inl vMany)), ((g 1), .inl (cI, 512, .inl vCounts)), ((g 2), .inl (cI, 512, .inl vNow)), ((g 4), .inl (cI, 600, .inl vIM)), ((g 5), .inl (cI, 600, .inl vIW)), ((g 6), .inl (cI, 9000, .inl vGoing))] H := hP
  have hD : va_D A [(o, .inr (9, mO g 1 fShift fModels (nI ki) 0 (lN L) (lN Rg) fCache fPend (nI bs.length) fOuts fIns fReads fBad fIR fAsk fBAsk fCode fRL fRR fX fWrites 0)), ((g 0), .inl (cI, 8, .inl vMany)), ((g 1), .inl (cI, 512, .inl vCounts)), ((g 2), .inl (cI, 512, .inl vNow)), ((g 4), .inl (cI, 600, .inl vIM)), ((g 5), .inl (cI, 600, .inl vIW)), ((g 6), .inl (cI, 9000, .inl vGoing))] := hD
  refine lv_aload_n hx hb d_M_put_5 rfl (lv_at hl 0 rfl) ?_
  refine lv_iload_n hx hb d_M_put_6 rfl (lv_at hl 1 rfl) ?_
  refine lv_iload_n hx hb d_M_put_7 rfl (lv_at hl 2 rfl) ?_
  refine my_ci (wr := [((g 1), .inl (cI, 512, .inl vCounts)), ((g 2), .inl (cI, 512, .inl vNow)), ((g 4), .inl (cI, 600, .inl vIM)), ((g 5), .inl (cI, 600, .inl vIW)), ((g 6), .inl (cI, 9000, .inl vGoing))]) (va_runV (As := [.int p1, .int p2]) (rest := []) ⟨hx, hb, hml, hown, hts⟩ (c_M_isSign l dC dI cI cM cO H.size o g 1 fShift fModels (nI ki) 0 (lN L) (lN Rg) fCache fPend (nI bs.length) fOuts fIns fReads fBad fIR fAsk fBAsk fCode fRL fRR fX fWrites 0 vMany km p1 p2 (hMD.1) (by first | assumption | omega)) (cwV 2 hts (my_gV k1069 k1071 ks25 k12 k1072) rfl rfl rfl (by decide +kernel) ⟨by rw [hR]; exact Nat.le_of_ble_eq_true rfl, by rw [hR]; exact Nat.le_of_ble_eq_true rfl⟩) (my_preV hK hN (hP.sub [0, 1] rfl) (hD.sub [0, 1] (by decide) rfl) 0 rfl rfl) rfl rfl hl.1 rfl (lv_room (Nat.le_of_ble_eq_true rfl)) d_M_put_8 ⟨by rw [hR]; exact Nat.le_of_ble_eq_true rfl, by rw [hR]; exact Nat.le_of_ble_eq_true rfl⟩) hP hD hS hA [0, 1] [2, 3, 4, 5, 6] rfl rfl (by decide) (by decide) (fun r_8 u9 H locs hw_8 hP hD hS => ?_)
  have hw_8 : r_8 = if isN km p1 ∧ (0 ≤ p2 ∧ p2 ≤ vMany p1.toNatClampNeg - 1) then 1 else 0 := hw_8
  have hP : va_P (dC, dI) vwCl [((g 1), .inl (cI, 512, .inl vCounts)), ((g 2), .inl (cI, 512, .inl vNow)), ((g 4), .inl (cI, 600, .inl vIM)), ((g 5), .inl (cI, 600, .inl vIW)), ((g 6), .inl (cI, 9000, .inl vGoing)), (o, .inr (9, mO g 1 fShift fModels (nI ki) 0 (lN L) (lN Rg) fCache fPend (nI bs.length) fOuts fIns fReads fBad fIR fAsk fBAsk fCode fRL fRR fX fWrites 0)), ((g 0), .inl (cI, 8, .inl vMany))] H := hP
  have hD : va_D A [((g 1), .inl (cI, 512, .inl vCounts)), ((g 2), .inl (cI, 512, .inl vNow)), ((g 4), .inl (cI, 600, .inl vIM)), ((g 5), .inl (cI, 600, .inl vIW)), ((g 6), .inl (cI, 9000, .inl vGoing)), (o, .inr (9, mO g 1 fShift fModels (nI ki) 0 (lN L) (lN Rg) fCache fPend (nI bs.length) fOuts fIns fReads fBad fIR fAsk fBAsk fCode fRL fRR fX fWrites 0)), ((g 0), .inl (cI, 8, .inl vMany))] := hD
  refine lv_if_ne (tgt := 16) hx hb d_M_put_11 (by decide) (fun c_1 => ?_) (fun c_1 => ?_)
  · obtain ⟨jj, tt, hj, ej, ht, et⟩ := sg_of hMD (one_ne hw_8 c_1)
    subst ej
    subst et
    have hk8 := hMD.1
    obtain ⟨hn9, hn2, hn64, C9, hc9, hB9⟩ := hMD.2 jj hj
    refine lv_aload_n hx hb d_M_put_16 rfl (lv_at hl 0 rfl) ?_
    refine va_get (D := (dC, dI)) (ci := 9) (v := .int 0) (C := "RangeCodersModel") (T := T_M) (N := 35) hx hb hg in_M hown hK hP 5 rfl rfl 10 (by decide) (hg _ k962) (fun _ h9 => h9) rfl d_M_put_17 ?_
    refine lv_if_ne (tgt := 45) hx hb d_M_put_20 (by decide) (fun c_2 => ?_) (fun c_2 => ?_)
    · exact absurd rfl c_2
    · refine lv_aload_n hx hb d_M_put_23 rfl (lv_at hl 0 rfl) ?_
      refine va_get (D := (dC, dI)) (ci := 9) (v := .int 1) (C := "RangeCodersModel") (T := T_M) (N := 35) hx hb hg in_M hown hK hP 5 rfl rfl 0 (by decide) (hg _ k952) (fun _ h9 => h9) rfl d_M_put_24 ?_
      refine lv_iconst (v := 2) hx hb d_M_put_27 (by decide) ?_
      refine lv_icmp_eq (tgt := 48) hx hb d_M_put_28 (by decide) (fun c_3 => ?_) (fun c_3 => ?_)
      · exact absurd c_3 (by decide)
      · refine lv_aload_n hx hb d_M_put_31 rfl (lv_at hl 0 rfl) ?_
        refine va_get (D := (dC, dI)) (ci := 9) (v := .ref (g 2)) (C := "RangeCodersModel") (T := T_M) (N := 35) hx hb hg in_M hown hK hP 5 rfl rfl 5 (by decide) (hg _ k957) (fun _ h9 => h9) rfl d_M_put_32 ?_
        refine lv_bipush (v := 64) hx hb d_M_put_35 (by decide) ?_
        refine lv_iload_n hx hb d_M_put_37 rfl (lv_at hl 1 rfl) ?_
        refine lv_imul hx hb d_M_put_38 ?_
        refine lv_topi (fun v_4 ev_4 => ?_)
        refine lv_iload_n hx hb d_M_put_39 rfl (lv_at hl 2 rfl) ?_
        refine lv_iadd hx hb d_M_put_40 ?_
        refine lv_topi (fun v_5 ev_5 => ?_)
        have hix : v_5 = nI (64 * jj + tt) := by rw [ev_5, ev_4]; exact ix64
        refine va_iald hx hb hK hP 1 0 rfl rfl (by rw [hix]; exact vp_in_nI (by omega) (by decide)) d_M_put_41 ?_
        refine lv_topi (fun v_6 ev_6 => ?_)
        obtain ⟨F9, hF⟩ := hT jj hj
        obtain ⟨hF9, hs9⟩ := tab_01 (by decide) hF
        have z9 : v_6 = nI (F9 tt) := by rw [ev_6, hix, nI_clamp (by omega)]; exact hF9 tt ht
        subst z9
        refine lv_if_ne (tgt := 48) hx hb d_M_put_42 (by decide) (fun c_7 => ?_) (fun c_7 => ?_)
        · have hFp : 0 < F9 tt := nI_nz c_7
          refine lv_aload_n hx hb d_M_put_48 rfl (lv_at hl 0 rfl) ?_
          refine va_get (D := (dC, dI)) (ci := 9) (v := .int (nI ki)) (C := "RangeCodersModel") (T := T_M) (N := 35) hx hb hg in_M hown hK hP 5 rfl rfl 7 (by decide) (hg _ k959) (fun _ h9 => h9) rfl d_M_put_49 ?_
          refine lv_sipush (v := 600) hx hb d_M_put_52 (by decide) ?_
          refine lv_icmp_ne (tgt := 61) hx hb d_M_put_55 (by decide) (fun c_8 => ?_) (fun c_8 => ?_)
          · have hk6 : ki < 600 := nI_600 hki c_8
            refine lv_aload_n hx hb d_M_put_61 rfl (lv_at hl 0 rfl) ?_
            refine lv_iload_n hx hb d_M_put_62 rfl (lv_at hl 1 rfl) ?_
            refine lv_iload_n hx hb d_M_put_63 rfl (lv_at hl 2 rfl) ?_
            refine my_cv (wr := [((g 1), .inl (cI, 512, .inl vCounts)), ((g 4), .inl (cI, 600, .inl vIM)), ((g 5), .inl (cI, 600, .inl vIW))]) (va_runV (As := [.int (nI jj), .int (nI tt)]) (rest := []) ⟨hx, hb, hml, hown, hts⟩ (c_M_putSign1 l dC dI cI cM cO H.size o g fShift fModels (nI ki) 0 fCache fPend fOuts fIns fReads fBad fIR fAsk fBAsk fCode fRL fRR fX fWrites 0 vMany vNow vGoing jj (N jj) tt F9 Rg L bs (by omega) (hn9) (hn64) (ht) (hF9) (hFp) (hs9) (hp) (hR6) (hG) (by omega)) (cwV 2 hts (my_gV k1085 k1087 ks27 k12 k1088) rfl rfl rfl (by decide +kernel) ⟨by rw [hR]; exact Nat.le_of_ble_eq_true rfl, by rw [hR]; exact Nat.le_of_ble_eq_true rfl⟩) (my_preV hK hN (hP.sub [5, 6, 1, 4] rfl) (hD.sub [5, 6, 1, 4] (by decide) rfl) 0 rfl rfl) rfl rfl hl.1 rfl (lv_room (Nat.le_of_ble_eq_true rfl)) d_M_put_64 ⟨by rw [hR]; exact Nat.le_of_ble_eq_true rfl, by rw [hR]; exact Nat.le_of_ble_eq_true rfl⟩) hP hD hS hA [5, 6, 1, 4] [0, 2, 3] rfl rfl (by decide) (by decide) (fun u9 H locs hw_64 hP hD hS => ?_)
            obtain ⟨f2_64, v2_64⟩ := u9
            have hw_64 : sgI f2_64 (64 * jj) (N jj) (lrn (N jj) tt F9) ∧ sgO f2_64 vNow (64 * jj) (N jj) ∧ gIs v2_64 (plS (Rg / ns F9 (N jj) * F9 tt, L + Rg / ns F9 (N jj) * ns F9 tt, bs)).2.2 := hw_64
            have hP : va_P (dC, dI) vwCl [((g 1), .inl (cI, 512, .inl vCounts)), ((g 4), .inl (cI, 600, .inl vIM)), ((g 5), .inl (cI, 600, .inl vIW)), (o, .inr (9, mO g 1 fShift fModels (nI ki) 0 (lN (plS (Rg / ns F9 (N jj) * F9 tt, L + Rg / ns F9 (N jj) * ns F9 tt, bs)).2.1) (lN (plS (Rg / ns F9 (N jj) * F9 tt, L + Rg / ns F9 (N jj) * ns F9 tt, bs)).1) fCache fPend (nI (plS (Rg / ns F9 (N jj) * F9 tt, L + Rg / ns F9 (N jj) * ns F9 tt, bs)).2.2.length) fOuts fIns fReads fBad fIR fAsk fBAsk fCode fRL fRR fX fWrites 0)), ((g 0), .inl (cI, 8, .inl vMany)), ((g 2), .inl (cI, 512, .inl f2_64)), ((g 6), .inl (cI, 9000, .inl v2_64))] H := hP
            have hD : va_D A [((g 1), .inl (cI, 512, .inl vCounts)), ((g 4), .inl (cI, 600, .inl vIM)), ((g 5), .inl (cI, 600, .inl vIW)), (o, .inr (9, mO g 1 fShift fModels (nI ki) 0 (lN (plS (Rg / ns F9 (N jj) * F9 tt, L + Rg / ns F9 (N jj) * ns F9 tt, bs)).2.1) (lN (plS (Rg / ns F9 (N jj) * F9 tt, L + Rg / ns F9 (N jj) * ns F9 tt, bs)).1) fCache fPend (nI (plS (Rg / ns F9 (N jj) * F9 tt, L + Rg / ns F9 (N jj) * ns F9 tt, bs)).2.2.length) fOuts fIns fReads fBad fIR fAsk fBAsk fCode fRL fRR fX fWrites 0)), ((g 0), .inl (cI, 8, .inl vMany)), ((g 2), .inl (cI, 512, .inl f2_64)), ((g 6), .inl (cI, 9000, .inl v2_64))] := hD
            refine lv_aload_n hx hb d_M_put_67 rfl (lv_at hl 0 rfl) ?_
            refine lv_iload_n hx hb d_M_put_68 rfl (lv_at hl 1 rfl) ?_
            refine lv_iload_n hx hb d_M_put_69 rfl (lv_at hl 2 rfl) ?_
            refine my_ci (wr := [((g 1), .inl (cI, 512, .inl vCounts)), ((g 0), .inl (cI, 8, .inl vMany)), ((g 2), .inl (cI, 512, .inl f2_64)), ((g 6), .inl (cI, 9000, .inl v2_64))]) (va_runV (As := [.int (nI jj), .int (nI tt)]) (rest := []) ⟨hx, hb, hml, hown, hts⟩ (c_M_addItem l dC dI cI cM cO H.size o g 1 fShift fModels 0 (lN (plS (Rg / ns F9 (N jj) * F9 tt, L + Rg / ns F9 (N jj) * ns F9 tt, bs)).2.1) (lN (plS (Rg / ns F9 (N jj) * F9 tt, L + Rg / ns F9 (N jj) * ns F9 tt, bs)).1) fCache fPend (nI (plS (Rg / ns F9 (N jj) * F9 tt, L + Rg / ns F9 (N jj) * ns F9 tt, bs)).2.2.length) fOuts fIns fReads fBad fIR fAsk fBAsk fCode fRL fRR fX fWrites 0 vIM vIW ki (nI jj) (nI tt) (hk6)) (cwV 2 hts (my_gV k1135 k1137 ks38 k12 k1138) rfl rfl rfl (by decide +kernel) ⟨by rw [hR]; exact Nat.le_of_ble_eq_true rfl, by rw [hR]; exact Nat.le_of_ble_eq_true rfl⟩) (my_preV hK hN (hP.sub [3, 1, 2] rfl) (hD.sub [3, 1, 2] (by decide) rfl) 0 rfl rfl) rfl rfl hl.1 rfl (lv_room (Nat.le_of_ble_eq_true rfl)) d_M_put_70 ⟨by rw [hR]; exact Nat.le_of_ble_eq_true rfl, by rw [hR]; exact Nat.le_of_ble_eq_true rfl⟩) hP hD hS hA [3, 1, 2] [0, 4, 5, 6] rfl rfl (by decide) (by decide) (fun r_70 u9 H locs hw_70 hP hD hS => ?_)
            obtain ⟨f2_70, v2_70⟩ := u9
            have hw_70 : r_70 = nI (ki + 1) ∧ f2_70 = upd vIM ki (nI jj) ∧ v2_70 = upd vIW ki (nI tt) := hw_70
            have hP : va_P (dC, dI) vwCl [((g 1), .inl (cI, 512, .inl vCounts)), ((g 0), .inl (cI, 8, .inl vMany)), ((g 2), .inl (cI, 512, .inl f2_64)), ((g 6), .inl (cI, 9000, .inl v2_64)), (o, .inr (9, mO g 1 fShift fModels (nI (ki + 1)) 0 (lN (plS (Rg / ns F9 (N jj) * F9 tt, L + Rg / ns F9 (N jj) * ns F9 tt, bs)).2.1) (lN (plS (Rg / ns F9 (N jj) * F9 tt, L + Rg / ns F9 (N jj) * ns F9 tt, bs)).1) fCache fPend (nI (plS (Rg / ns F9 (N jj) * F9 tt, L + Rg / ns F9 (N jj) * ns F9 tt, bs)).2.2.length) fOuts fIns fReads fBad fIR fAsk fBAsk fCode fRL fRR fX fWrites 0)), ((g 4), .inl (cI, 600, .inl f2_70)), ((g 5), .inl (cI, 600, .inl v2_70))] H := hP
            have hD : va_D A [((g 1), .inl (cI, 512, .inl vCounts)), ((g 0), .inl (cI, 8, .inl vMany)), ((g 2), .inl (cI, 512, .inl f2_64)), ((g 6), .inl (cI, 9000, .inl v2_64)), (o, .inr (9, mO g 1 fShift fModels (nI (ki + 1)) 0 (lN (plS (Rg / ns F9 (N jj) * F9 tt, L + Rg / ns F9 (N jj) * ns F9 tt, bs)).2.1) (lN (plS (Rg / ns F9 (N jj) * F9 tt, L + Rg / ns F9 (N jj) * ns F9 tt, bs)).1) fCache fPend (nI (plS (Rg / ns F9 (N jj) * F9 tt, L + Rg / ns F9 (N jj) * ns F9 tt, bs)).2.2.length) fOuts fIns fReads fBad fIR fAsk fBAsk fCode fRL fRR fX fWrites 0)), ((g 4), .inl (cI, 600, .inl f2_70)), ((g 5), .inl (cI, 600, .inl v2_70))] := hD
            have hTP : 0 < ns F9 (N jj) := Nat.lt_of_lt_of_le hFp (ns_ge ht)
            have hq9 := pl_inv (bs := bs) (pOk_nr hp hTP (ns_m1 F9 ht) hFp (by omega))
            exact my_iret (v := r_70) hx hb hr (rfl) hlocks hQ hK hS (Nat.le_refl _) (Nat.le_refl _) (nI (ki + 1), (lN (plS (Rg / ns F9 (N jj) * F9 tt, L + Rg / ns F9 (N jj) * ns F9 tt, bs)).2.1), (lN (plS (Rg / ns F9 (N jj) * F9 tt, L + Rg / ns F9 (N jj) * ns F9 tt, bs)).1), (nI (plS (Rg / ns F9 (N jj) * F9 tt, L + Rg / ns F9 (N jj) * ns F9 tt, bs)).2.2.length), (0 : Int32), f2_64, f2_70, v2_70, v2_64) (⟨MI1_of hk6 hq9.1 hq9.2.1 (oct_pl ho) hw_64.2.2 (by omega), TB_set hT (MD_N hMD) (sgO_w hw_64.2.1 hn64) (F := lrn (N jj) tt F9) (Or.inl ⟨by decide, hw_64.1, lrn_ok hn64 ht hs9⟩)⟩) (hP.sub [4, 1, 0, 2, 5, 6, 3] rfl) (hD.sub [4, 1, 0, 2, 5, 6, 3] (by decide) rfl) d_M_put_73
          · refine lv_bipush (v := (-4)) hx hb d_M_put_58 (by decide) ?_
            exact my_iret (v := (-4)) hx hb hr (rfl) hlocks hQ hK hS (Nat.le_refl _) (Nat.le_refl _) ((nI ki), (lN L), (lN Rg), (nI bs.length), (0 : Int32), vNow, vIM, vIW, vGoing) (⟨⟨ki, hki, rfl, Rg, L, bs, rfl, rfl, rfl, hp, hR6, hG, ho, hlb⟩, hT⟩) (hP.sub [5, 6, 0, 1, 2, 3, 4] rfl) (hD.sub [5, 6, 0, 1, 2, 3, 4] (by decide) rfl) d_M_put_60
        · refine lv_bipush (v := (-3)) hx hb d_M_put_45 (by decide) ?_
          exact my_iret (v := (-3)) hx hb hr (rfl) hlocks hQ hK hS (Nat.le_refl _) (Nat.le_refl _) ((nI ki), (lN L), (lN Rg), (nI bs.length), (0 : Int32), vNow, vIM, vIW, vGoing) (⟨⟨ki, hki, rfl, Rg, L, bs, rfl, rfl, rfl, hp, hR6, hG, ho, hlb⟩, hT⟩) (hP.sub [5, 6, 0, 1, 2, 3, 4] rfl) (hD.sub [5, 6, 0, 1, 2, 3, 4] (by decide) rfl) d_M_put_47
  · refine lv_iconst (v := (-1)) hx hb d_M_put_14 (by decide) ?_
    exact my_iret (v := (-1)) hx hb hr (rfl) hlocks hQ hK hS (Nat.le_refl _) (Nat.le_refl _) ((nI ki), (lN L), (lN Rg), (nI bs.length), (0 : Int32), vNow, vIM, vIW, vGoing) (⟨⟨ki, hki, rfl, Rg, L, bs, rfl, rfl, rfl, hp, hR6, hG, ho, hlb⟩, hT⟩) (hP.sub [5, 6, 0, 1, 2, 3, 4] rfl) (hD.sub [5, 6, 0, 1, 2, 3, 4] (by decide) rfl) d_M_put_15
set_option maxHeartbeats 2000000 in
set_option maxRecDepth 100000 in
theorem c_M_put2 (l : Launch) (dC : Nat → ClassId) (dI : Nat → Nat → Nat) (cI cM cO : ClassId) (sz : Nat) (o : Nat) (g : Nat → Nat) (fForm : Int32) (fShift : Int32) (fModels : Int32) (fItems : Int32) (fEnded : Int32) (fLow : Int64) (fRange : Int64) (fCache : Int32) (fPend : Int32) (fGoes : Int32) (fOuts : Int32) (fIns : Int32) (fReads : Int32) (fBad : Int32) (fIR : Int32) (fAsk : Int32) (fBAsk : Int32) (fCode : Int64) (fRL : Int64) (fRR : Int64) (fX : Int64) (fWrites : Int32) (fThrown : Int32) (vMany : Nat → Int32) (vCounts : Nat → Int32) (vNow : Nat → Int32) (vIM : Nat → Int32) (vIW : Nat → Int32) (vGoing : Nat → Int32) (km : Nat) (N : Nat → Nat) (sh : Nat) (p1 : Int32) (p2 : Int32) (hfo : fForm = 2) (hen : fEnded = 0) (hsh : fShift = nI sh) (hs1 : 1 ≤ sh) (hs2 : sh ≤ 10) (hmod : fModels = nI km) (hMD : MD km N vMany vCounts) (hT : TB 2 km N vNow) (hI : MI0 fItems fLow fRange fCache fPend fGoes vGoing) : MetI l y_M_put (Cond.code y_M_put prog_14_method_29_code 3 (some .int) :: gw) ({ frames := 5, cells := 0, slots := 0, locals := 111 } : Room) (dC, dI) vwCl (kT cI cM cO) [.ref o, .int p1, .int p2] [(o, .inr (9, mO g fForm fShift fModels fItems fEnded fLow fRange fCache fPend fGoes fOuts fIns fReads fBad fIR fAsk fBAsk fCode fRL fRR fX fWrites fThrown)), ((g 0), .inl (cI, 8, .inl vMany)), ((g 1), .inl (cI, 512, .inl vCounts)), ((g 2), .inl (cI, 512, .inl vNow)), ((g 4), .inl (cI, 600, .inl vIM)), ((g 5), .inl (cI, 600, .inl vIW)), ((g 6), .inl (cI, 9000, .inl vGoing))] sz (fun (r : Int32) (u : Int32 × Int64 × Int64 × Int32 × Int32 × Int32 × Int32 × (Nat → Int32) × (Nat → Int32) × (Nat → Int32) × (Nat → Int32)) => MI0 u.1 u.2.1 u.2.2.1 u.2.2.2.1 u.2.2.2.2.1 u.2.2.2.2.2.1 u.2.2.2.2.2.2.2.2.2.2 ∧ TB 2 km N u.2.2.2.2.2.2.2.1) (fun (u : Int32 × Int64 × Int64 × Int32 × Int32 × Int32 × Int32 × (Nat → Int32) × (Nat → Int32) × (Nat → Int32) × (Nat → Int32)) => [(o, .inr (9, mO g fForm fShift fModels u.1 fEnded u.2.1 u.2.2.1 u.2.2.2.1 u.2.2.2.2.1 u.2.2.2.2.2.1 fOuts fIns fReads fBad fIR fAsk fBAsk fCode fRL fRR fX fWrites u.2.2.2.2.2.2.1)), ((g 0), .inl (cI, 8, .inl vMany)), ((g 1), .inl (cI, 512, .inl vCounts)), ((g 2), .inl (cI, 512, .inl u.2.2.2.2.2.2.2.1)), ((g 4), .inl (cI, 600, .inl u.2.2.2.2.2.2.2.2.1)), ((g 5), .inl (cI, 600, .inl u.2.2.2.2.2.2.2.2.2.1)), ((g 6), .inl (cI, 9000, .inl u.2.2.2.2.2.2.2.2.2.2))]) 0 0 := by
  refine my_ofI (cc := prog_14_method_29_code) (n := 3) (ret := (some .int)) (by decide) rfl (Nat.le_of_ble_eq_true rfl) ?_
  intro p e s m args below meth c R Q A ls H locs hx hb hr hts hown hlocks hml hnm hR hQ hA hl hP hK hN hD hS
  have hg : ∀ w ∈ gw, w.before args s = true := fun w h => hts w (List.mem_cons_of_mem _ h)
  have hown : s.vm.findClass "RangeCodersModel" = some m.cls := hown
  have hl : lv_has ls 3 [(0, .ref o), (1, .int p1), (2, .int p2)] := hl
  subst hfo
  subst hen
  subst hsh
  obtain ⟨ki, hki, rfl, Rg, L, ca, Pn, bs, rfl, rfl, rfl, rfl, rfl, hE, hG, ho, hlb⟩ := hI
  have hP : va_P (dC, dI) vwCl [(o, .inr (9, mO g 2 (nI sh) fModels (nI ki) 0 (lN L) (lN Rg) (caI ca) (nI Pn) (nI bs.length) fOuts fIns fReads fBad fIR fAsk fBAsk fCode fRL fRR fX fWrites fThrown)), ((g 0), .inl (cI, 8, .inl vMany)), ((g 1), .inl (cI, 512, .inl vCounts)), ((g 2), .inl (cI, 512, .inl vNow)), ((g 4), .inl (cI, 600, .inl vIM)), ((g 5), .inl (cI, 600, .inl vIW)), ((g 6), .inl (cI, 9000, .inl vGoing))] H := hP
  have hD : va_D A [(o, .inr (9, mO g 2 (nI sh) fModels (nI ki) 0 (lN L) (lN Rg) (caI ca) (nI Pn) (nI bs.length) fOuts fIns fReads fBad fIR fAsk fBAsk fCode fRL fRR fX fWrites fThrown)), ((g 0), .inl (cI, 8, .inl vMany)), ((g 1), .inl (cI, 512, .inl vCounts)), ((g 2), .inl (cI, 512, .inl vNow)), ((g 4), .inl (cI, 600, .inl vIM)), ((g 5), .inl (cI, 600, .inl vIW)), ((g 6), .inl (cI, 9000, .inl vGoing))] := hD
  have hl : lv_has ls 3 [(0, .ref o), (1, .int p1), (2, .int p2)] := hl
  refine lv_aload_n hx hb d_M_put_0 rfl (lv_at hl 0 rfl) ?_
  refine lv_iconst (v := 0) hx hb d_M_put_1 (by decide) ?_
  refine va_put (D := (dC, dI)) (ci := 9) (v := .int 0) (ty := .int) (C := "RangeCodersModel") (T := T_M) (N := 35) hx hb hg in_M t_M o_M n_M hown hK hP hD hS 0 rfl rfl 34 (by decide) (hg _ k986) (fun _ h9 => h9) rfl (by decide +kernel) rfl rfl (Nat.le_of_ble_eq_true rfl) d_M_put_2 (fun H locs hP hD hS => ?_)
  have hP : va_P (dC, dI) vwCl [(o, .inr (9, mO g 2 (nI sh) fModels (nI ki) 0 (lN L) (lN Rg) (caI ca) (nI Pn) (nI bs.length) fOuts fIns fReads fBad fIR fAsk fBAsk fCode fRL fRR fX fWrites 0)), ((g 0), .inl (cI, 8, .inl vMany)), ((g 1), .inl (cI, 512, .inl vCounts)), ((g 2), .inl (cI, 512, .inl vNow)), ((g 4), .inl (cI, 600, .inl vIM)), ((g 5), .inl (cI, 600, .inl vIW)), ((g 6), .inl (cI, 9000, .inl vGoing))] H := hP
  have hD : va_D A [(o, .inr (9, mO g 2 (nI sh) fModels (nI ki) 0 (lN L) (lN Rg) (caI ca) (nI Pn) (nI bs.length) fOuts fIns fReads fBad fIR fAsk fBAsk fCode fRL fRR fX fWrites 0)), ((g 0), .inl (cI, 8, .inl vMany)), ((g 1), .inl (cI, 512, .inl vCounts)), ((g 2), .inl (cI, 512, .inl vNow)), ((g 4), .inl (cI, 600, .inl vIM)), ((g 5), .inl (cI, 600, .inl vIW)), ((g 6), .inl (cI, 9000, .inl vGoing))] := hD
  refine lv_aload_n hx hb d_M_put_5 rfl (lv_at hl 0 rfl) ?_
  refine lv_iload_n hx hb d_M_put_6 rfl (lv_at hl 1 rfl) ?_
  refine lv_iload_n hx hb d_M_put_7 rfl (lv_at hl 2 rfl) ?_
  refine my_ci (wr := [((g 1), .inl (cI, 512, .inl vCounts)), ((g 2), .inl (cI, 512, .inl vNow)), ((g 4), .inl (cI, 600, .inl vIM)), ((g 5), .inl (cI, 600, .inl vIW)), ((g 6), .inl (cI, 9000, .inl vGoing))]) (va_runV (As := [.int p1, .int p2]) (rest := []) ⟨hx, hb, hml, hown, hts⟩ (c_M_isSign l dC dI cI cM cO H.size o g 2 (nI sh) fModels (nI ki) 0 (lN L) (lN Rg) (caI ca) (nI Pn) (nI bs.length) fOuts fIns fReads fBad fIR fAsk fBAsk fCode fRL fRR fX fWrites 0 vMany km p1 p2 (hMD.1) (by first | assumption | omega)) (cwV 2 hts (my_gV k1069 k1071 ks25 k12 k1072) rfl rfl rfl (by decide +kernel) ⟨by rw [hR]; exact Nat.le_of_ble_eq_true rfl, by rw [hR]; exact Nat.le_of_ble_eq_true rfl⟩) (my_preV hK hN (hP.sub [0, 1] rfl) (hD.sub [0, 1] (by decide) rfl) 0 rfl rfl) rfl rfl hl.1 rfl (lv_room (Nat.le_of_ble_eq_true rfl)) d_M_put_8 ⟨by rw [hR]; exact Nat.le_of_ble_eq_true rfl, by rw [hR]; exact Nat.le_of_ble_eq_true rfl⟩) hP hD hS hA [0, 1] [2, 3, 4, 5, 6] rfl rfl (by decide) (by decide) (fun r_8 u9 H locs hw_8 hP hD hS => ?_)
  have hw_8 : r_8 = if isN km p1 ∧ (0 ≤ p2 ∧ p2 ≤ vMany p1.toNatClampNeg - 1) then 1 else 0 := hw_8
  have hP : va_P (dC, dI) vwCl [((g 1), .inl (cI, 512, .inl vCounts)), ((g 2), .inl (cI, 512, .inl vNow)), ((g 4), .inl (cI, 600, .inl vIM)), ((g 5), .inl (cI, 600, .inl vIW)), ((g 6), .inl (cI, 9000, .inl vGoing)), (o, .inr (9, mO g 2 (nI sh) fModels (nI ki) 0 (lN L) (lN Rg) (caI ca) (nI Pn) (nI bs.length) fOuts fIns fReads fBad fIR fAsk fBAsk fCode fRL fRR fX fWrites 0)), ((g 0), .inl (cI, 8, .inl vMany))] H := hP
  have hD : va_D A [((g 1), .inl (cI, 512, .inl vCounts)), ((g 2), .inl (cI, 512, .inl vNow)), ((g 4), .inl (cI, 600, .inl vIM)), ((g 5), .inl (cI, 600, .inl vIW)), ((g 6), .inl (cI, 9000, .inl vGoing)), (o, .inr (9, mO g 2 (nI sh) fModels (nI ki) 0 (lN L) (lN Rg) (caI ca) (nI Pn) (nI bs.length) fOuts fIns fReads fBad fIR fAsk fBAsk fCode fRL fRR fX fWrites 0)), ((g 0), .inl (cI, 8, .inl vMany))] := hD
  refine lv_if_ne (tgt := 16) hx hb d_M_put_11 (by decide) (fun c_1 => ?_) (fun c_1 => ?_)
  · obtain ⟨jj, tt, hj, ej, ht, et⟩ := sg_of hMD (one_ne hw_8 c_1)
    subst ej
    subst et
    have hk8 := hMD.1
    obtain ⟨hn9, hn2, hn64, C9, hc9, hB9⟩ := hMD.2 jj hj
    refine lv_aload_n hx hb d_M_put_16 rfl (lv_at hl 0 rfl) ?_
    refine va_get (D := (dC, dI)) (ci := 9) (v := .int 0) (C := "RangeCodersModel") (T := T_M) (N := 35) hx hb hg in_M hown hK hP 5 rfl rfl 10 (by decide) (hg _ k962) (fun _ h9 => h9) rfl d_M_put_17 ?_
    refine lv_if_ne (tgt := 45) hx hb d_M_put_20 (by decide) (fun c_2 => ?_) (fun c_2 => ?_)
    · exact absurd rfl c_2
    · refine lv_aload_n hx hb d_M_put_23 rfl (lv_at hl 0 rfl) ?_
      refine va_get (D := (dC, dI)) (ci := 9) (v := .int 2) (C := "RangeCodersModel") (T := T_M) (N := 35) hx hb hg in_M hown hK hP 5 rfl rfl 0 (by decide) (hg _ k952) (fun _ h9 => h9) rfl d_M_put_24 ?_
      refine lv_iconst (v := 2) hx hb d_M_put_27 (by decide) ?_
      refine lv_icmp_eq (tgt := 48) hx hb d_M_put_28 (by decide) (fun c_3 => ?_) (fun c_3 => ?_)
      · refine lv_aload_n hx hb d_M_put_48 rfl (lv_at hl 0 rfl) ?_
        refine va_get (D := (dC, dI)) (ci := 9) (v := .int (nI ki)) (C := "RangeCodersModel") (T := T_M) (N := 35) hx hb hg in_M hown hK hP 5 rfl rfl 7 (by decide) (hg _ k959) (fun _ h9 => h9) rfl d_M_put_49 ?_
        refine lv_sipush (v := 600) hx hb d_M_put_52 (by decide) ?_
        refine lv_icmp_ne (tgt := 61) hx hb d_M_put_55 (by decide) (fun c_4 => ?_) (fun c_4 => ?_)
        · have hk6 : ki < 600 := nI_600 hki c_4
          obtain ⟨F9, hF⟩ := hT jj hj
          obtain ⟨hF9, hc64⟩ := tab_2 hF
          have hq9 := sp_all sh tt hs1 (lev (N jj)) 1 (Rg, L, ca, Pn, bs) F9 (lev_6 _) (Nat.lt_of_lt_of_le (by decide : 1 < 2 ^ 1) (Nat.pow_le_pow_right (by decide) (by have := lev_6 (N jj); omega))) hE ho hc64
          have hl6 := lev_6 (N jj)
          refine lv_aload_n hx hb d_M_put_61 rfl (lv_at hl 0 rfl) ?_
          refine lv_iload_n hx hb d_M_put_62 rfl (lv_at hl 1 rfl) ?_
          refine lv_iload_n hx hb d_M_put_63 rfl (lv_at hl 2 rfl) ?_
          refine my_cv (wr := [((g 1), .inl (cI, 512, .inl vCounts)), ((g 4), .inl (cI, 600, .inl vIM)), ((g 5), .inl (cI, 600, .inl vIW))]) (va_runV (As := [.int (nI jj), .int (nI tt)]) (rest := []) ⟨hx, hb, hml, hown, hts⟩ (c_M_putSign2 l dC dI cI cM cO H.size o g fModels (nI ki) 0 fOuts fIns fReads fBad fIR fAsk fBAsk fCode fRL fRR fX fWrites 0 vMany vNow vGoing jj (N jj) tt F9 sh Rg L ca Pn bs (by omega) (hn9) (hn64) (hn2) (ht) (hF9) (hc64) (hs1) (hs2) (hE) (hG) (by omega)) (cwV 2 hts (my_gV k1085 k1087 ks27 k12 k1088) rfl rfl rfl (by decide +kernel) ⟨by rw [hR]; exact Nat.le_of_ble_eq_true rfl, by rw [hR]; exact Nat.le_of_ble_eq_true rfl⟩) (my_preV hK hN (hP.sub [5, 6, 1, 4] rfl) (hD.sub [5, 6, 1, 4] (by decide) rfl) 0 rfl rfl) rfl rfl hl.1 rfl (lv_room (Nat.le_of_ble_eq_true rfl)) d_M_put_64 ⟨by rw [hR]; exact Nat.le_of_ble_eq_true rfl, by rw [hR]; exact Nat.le_of_ble_eq_true rfl⟩) hP hD hS hA [5, 6, 1, 4] [0, 2, 3] rfl rfl (by decide) (by decide) (fun u9 H locs hw_64 hP hD hS => ?_)
          obtain ⟨f2_64, v2_64⟩ := u9
          have hw_64 : sgI f2_64 (64 * jj) 64 (spN sh tt (lev (N jj)) 1 (Rg, L, ca, Pn, bs) F9).2 ∧ sgO f2_64 vNow (64 * jj) 64 ∧ gIs v2_64 (eB (spN sh tt (lev (N jj)) 1 (Rg, L, ca, Pn, bs) F9).1) := hw_64
          have hP : va_P (dC, dI) vwCl [((g 1), .inl (cI, 512, .inl vCounts)), ((g 4), .inl (cI, 600, .inl vIM)), ((g 5), .inl (cI, 600, .inl vIW)), (o, .inr (9, mO g 2 (nI sh) fModels (nI ki) 0 (lN (eL ((spN sh tt (lev (N jj)) 1 (Rg, L, ca, Pn, bs) F9).1))) (lN (eR ((spN sh tt (lev (N jj)) 1 (Rg, L, ca, Pn, bs) F9).1))) (caI (eC ((spN sh tt (lev (N jj)) 1 (Rg, L, ca, Pn, bs) F9).1))) (nI (eP ((spN sh tt (lev (N jj)) 1 (Rg, L, ca, Pn, bs) F9).1))) (nI (eB ((spN sh tt (lev (N jj)) 1 (Rg, L, ca, Pn, bs) F9).1)).length) fOuts fIns fReads fBad fIR fAsk fBAsk fCode fRL fRR fX fWrites 0)), ((g 0), .inl (cI, 8, .inl vMany)), ((g 2), .inl (cI, 512, .inl f2_64)), ((g 6), .inl (cI, 9000, .inl v2_64))] H := hP
          have hD : va_D A [((g 1), .inl (cI, 512, .inl vCounts)), ((g 4), .inl (cI, 600, .inl vIM)), ((g 5), .inl (cI, 600, .inl vIW)), (o, .inr (9, mO g 2 (nI sh) fModels (nI ki) 0 (lN (eL ((spN sh tt (lev (N jj)) 1 (Rg, L, ca, Pn, bs) F9).1))) (lN (eR ((spN sh tt (lev (N jj)) 1 (Rg, L, ca, Pn, bs) F9).1))) (caI (eC ((spN sh tt (lev (N jj)) 1 (Rg, L, ca, Pn, bs) F9).1))) (nI (eP ((spN sh tt (lev (N jj)) 1 (Rg, L, ca, Pn, bs) F9).1))) (nI (eB ((spN sh tt (lev (N jj)) 1 (Rg, L, ca, Pn, bs) F9).1)).length) fOuts fIns fReads fBad fIR fAsk fBAsk fCode fRL fRR fX fWrites 0)), ((g 0), .inl (cI, 8, .inl vMany)), ((g 2), .inl (cI, 512, .inl f2_64)), ((g 6), .inl (cI, 9000, .inl v2_64))] := hD
          refine lv_aload_n hx hb d_M_put_67 rfl (lv_at hl 0 rfl) ?_
          refine lv_iload_n hx hb d_M_put_68 rfl (lv_at hl 1 rfl) ?_
          refine lv_iload_n hx hb d_M_put_69 rfl (lv_at hl 2 rfl) ?_
          refine my_ci (wr := [((g 1), .inl (cI, 512, .inl vCounts)), ((g 0), .inl (cI, 8, .inl vMany)), ((g 2), .inl (cI, 512, .inl f2_64)), ((g 6), .inl (cI, 9000, .inl v2_64))]) (va_runV (As := [.int (nI jj), .int (nI tt)]) (rest := []) ⟨hx, hb, hml, hown, hts⟩ (c_M_addItem l dC dI cI cM cO H.size o g 2 (nI sh) fModels 0 (lN (eL ((spN sh tt (lev (N jj)) 1 (Rg, L, ca, Pn, bs) F9).1))) (lN (eR ((spN sh tt (lev (N jj)) 1 (Rg, L, ca, Pn, bs) F9).1))) (caI (eC ((spN sh tt (lev (N jj)) 1 (Rg, L, ca, Pn, bs) F9).1))) (nI (eP ((spN sh tt (lev (N jj)) 1 (Rg, L, ca, Pn, bs) F9).1))) (nI (eB ((spN sh tt (lev (N jj)) 1 (Rg, L, ca, Pn, bs) F9).1)).length) fOuts fIns fReads fBad fIR fAsk fBAsk fCode fRL fRR fX fWrites 0 vIM vIW ki (nI jj) (nI tt) (hk6)) (cwV 2 hts (my_gV k1135 k1137 ks38 k12 k1138) rfl rfl rfl (by decide +kernel) ⟨by rw [hR]; exact Nat.le_of_ble_eq_true rfl, by rw [hR]; exact Nat.le_of_ble_eq_true rfl⟩) (my_preV hK hN (hP.sub [3, 1, 2] rfl) (hD.sub [3, 1, 2] (by decide) rfl) 0 rfl rfl) rfl rfl hl.1 rfl (lv_room (Nat.le_of_ble_eq_true rfl)) d_M_put_70 ⟨by rw [hR]; exact Nat.le_of_ble_eq_true rfl, by rw [hR]; exact Nat.le_of_ble_eq_true rfl⟩) hP hD hS hA [3, 1, 2] [0, 4, 5, 6] rfl rfl (by decide) (by decide) (fun r_70 u9 H locs hw_70 hP hD hS => ?_)
          obtain ⟨f2_70, v2_70⟩ := u9
          have hw_70 : r_70 = nI (ki + 1) ∧ f2_70 = upd vIM ki (nI jj) ∧ v2_70 = upd vIW ki (nI tt) := hw_70
          have hP : va_P (dC, dI) vwCl [((g 1), .inl (cI, 512, .inl vCounts)), ((g 0), .inl (cI, 8, .inl vMany)), ((g 2), .inl (cI, 512, .inl f2_64)), ((g 6), .inl (cI, 9000, .inl v2_64)), (o, .inr (9, mO g 2 (nI sh) fModels (nI (ki + 1)) 0 (lN (eL ((spN sh tt (lev (N jj)) 1 (Rg, L, ca, Pn, bs) F9).1))) (lN (eR ((spN sh tt (lev (N jj)) 1 (Rg, L, ca, Pn, bs) F9).1))) (caI (eC ((spN sh tt (lev (N jj)) 1 (Rg, L, ca, Pn, bs) F9).1))) (nI (eP ((spN sh tt (lev (N jj)) 1 (Rg, L, ca, Pn, bs) F9).1))) (nI (eB ((spN sh tt (lev (N jj)) 1 (Rg, L, ca, Pn, bs) F9).1)).length) fOuts fIns fReads fBad fIR fAsk fBAsk fCode fRL fRR fX fWrites 0)), ((g 4), .inl (cI, 600, .inl f2_70)), ((g 5), .inl (cI, 600, .inl v2_70))] H := hP
          have hD : va_D A [((g 1), .inl (cI, 512, .inl vCounts)), ((g 0), .inl (cI, 8, .inl vMany)), ((g 2), .inl (cI, 512, .inl f2_64)), ((g 6), .inl (cI, 9000, .inl v2_64)), (o, .inr (9, mO g 2 (nI sh) fModels (nI (ki + 1)) 0 (lN (eL ((spN sh tt (lev (N jj)) 1 (Rg, L, ca, Pn, bs) F9).1))) (lN (eR ((spN sh tt (lev (N jj)) 1 (Rg, L, ca, Pn, bs) F9).1))) (caI (eC ((spN sh tt (lev (N jj)) 1 (Rg, L, ca, Pn, bs) F9).1))) (nI (eP ((spN sh tt (lev (N jj)) 1 (Rg, L, ca, Pn, bs) F9).1))) (nI (eB ((spN sh tt (lev (N jj)) 1 (Rg, L, ca, Pn, bs) F9).1)).length) fOuts fIns fReads fBad fIR fAsk fBAsk fCode fRL fRR fX fWrites 0)), ((g 4), .inl (cI, 600, .inl f2_70)), ((g 5), .inl (cI, 600, .inl v2_70))] := hD
          exact my_iret (v := r_70) hx hb hr (rfl) hlocks hQ hK hS (Nat.le_refl _) (Nat.le_refl _) (nI (ki + 1), (lN (eL ((spN sh tt (lev (N jj)) 1 (Rg, L, ca, Pn, bs) F9).1))), (lN (eR ((spN sh tt (lev (N jj)) 1 (Rg, L, ca, Pn, bs) F9).1))), (caI (eC ((spN sh tt (lev (N jj)) 1 (Rg, L, ca, Pn, bs) F9).1))), (nI (eP ((spN sh tt (lev (N jj)) 1 (Rg, L, ca, Pn, bs) F9).1))), (nI (eB ((spN sh tt (lev (N jj)) 1 (Rg, L, ca, Pn, bs) F9).1)).length), (0 : Int32), f2_64, f2_70, v2_70, v2_64) (⟨MI0_of hk6 hq9.1 hq9.2.2.1 hw_64.2.2 (Nat.le_trans hq9.2.1 (show bs.length + Pn + 1 + 2 * lev (N jj) ≤ 12 * ki + 13 by omega)), TB_set hT (MD_N hMD) hw_64.2.1 (F := (spN sh tt (lev (N jj)) 1 (Rg, L, ca, Pn, bs) F9).2) (Or.inr (Or.inl ⟨rfl, hw_64.1, hq9.2.2.2⟩))⟩) (hP.sub [4, 1, 0, 2, 5, 6, 3] rfl) (hD.sub [4, 1, 0, 2, 5, 6, 3] (by decide) rfl) d_M_put_73
        · refine lv_bipush (v := (-4)) hx hb d_M_put_58 (by decide) ?_
          exact my_iret (v := (-4)) hx hb hr (rfl) hlocks hQ hK hS (Nat.le_refl _) (Nat.le_refl _) ((nI ki), (lN L), (lN Rg), (caI ca), (nI Pn), (nI bs.length), (0 : Int32), vNow, vIM, vIW, vGoing) (⟨⟨ki, hki, rfl, Rg, L, ca, Pn, bs, rfl, rfl, rfl, rfl, rfl, hE, hG, ho, hlb⟩, hT⟩) (hP.sub [5, 6, 0, 1, 2, 3, 4] rfl) (hD.sub [5, 6, 0, 1, 2, 3, 4] (by decide) rfl) d_M_put_60
      · exact absurd (by decide) c_3
  · refine lv_iconst (v := (-1)) hx hb d_M_put_14 (by decide) ?_
    exact my_iret (v := (-1)) hx hb hr (rfl) hlocks hQ hK hS (Nat.le_refl _) (Nat.le_refl _) ((nI ki), (lN L), (lN Rg), (caI ca), (nI Pn), (nI bs.length), (0 : Int32), vNow, vIM, vIW, vGoing) (⟨⟨ki, hki, rfl, Rg, L, ca, Pn, bs, rfl, rfl, rfl, rfl, rfl, hE, hG, ho, hlb⟩, hT⟩) (hP.sub [5, 6, 0, 1, 2, 3, 4] rfl) (hD.sub [5, 6, 0, 1, 2, 3, 4] (by decide) rfl) d_M_put_15
set_option maxHeartbeats 2000000 in
set_option maxRecDepth 100000 in
theorem c_M_putE (l : Launch) (dC : Nat → ClassId) (dI : Nat → Nat → Nat) (cI cM cO : ClassId) (sz : Nat) (o : Nat) (g : Nat → Nat) (fForm : Int32) (fShift : Int32) (fModels : Int32) (fItems : Int32) (fEnded : Int32) (fLow : Int64) (fRange : Int64) (fCache : Int32) (fPend : Int32) (fGoes : Int32) (fOuts : Int32) (fIns : Int32) (fReads : Int32) (fBad : Int32) (fIR : Int32) (fAsk : Int32) (fBAsk : Int32) (fCode : Int64) (fRL : Int64) (fRR : Int64) (fX : Int64) (fWrites : Int32) (fThrown : Int32) (vMany : Nat → Int32) (vCounts : Nat → Int32) (km : Nat) (N : Nat → Nat) (p1 : Int32) (p2 : Int32) (hen : ¬ fEnded = 0) (hmod : fModels = nI km) (hMD : MD km N vMany vCounts) : MetI l y_M_put (Cond.code y_M_put prog_14_method_29_code 3 (some .int) :: gw) ({ frames := 3, cells := 0, slots := 0, locals := 65 } : Room) (dC, dI) vwCl (kT cI cM cO) [.ref o, .int p1, .int p2] [(o, .inr (9, mO g fForm fShift fModels fItems fEnded fLow fRange fCache fPend fGoes fOuts fIns fReads fBad fIR fAsk fBAsk fCode fRL fRR fX fWrites fThrown)), ((g 0), .inl (cI, 8, .inl vMany)), ((g 1), .inl (cI, 512, .inl vCounts))] sz (fun (r : Int32) (u : Int32) => True) (fun (u : Int32) => [(o, .inr (9, mO g fForm fShift fModels fItems fEnded fLow fRange fCache fPend fGoes fOuts fIns fReads fBad fIR fAsk fBAsk fCode fRL fRR fX fWrites u)), ((g 0), .inl (cI, 8, .inl vMany)), ((g 1), .inl (cI, 512, .inl vCounts))]) 0 0 := by
  refine my_ofI (cc := prog_14_method_29_code) (n := 3) (ret := (some .int)) (by decide) rfl (Nat.le_of_ble_eq_true rfl) ?_
  intro p e s m args below meth c R Q A ls H locs hx hb hr hts hown hlocks hml hnm hR hQ hA hl hP hK hN hD hS
  have hg : ∀ w ∈ gw, w.before args s = true := fun w h => hts w (List.mem_cons_of_mem _ h)
  have hown : s.vm.findClass "RangeCodersModel" = some m.cls := hown
  have hl : lv_has ls 3 [(0, .ref o), (1, .int p1), (2, .int p2)] := hl
  refine lv_aload_n hx hb d_M_put_0 rfl (lv_at hl 0 rfl) ?_
  refine lv_iconst (v := 0) hx hb d_M_put_1 (by decide) ?_
  refine va_put (D := (dC, dI)) (ci := 9) (v := .int 0) (ty := .int) (C := "RangeCodersModel") (T := T_M) (N := 35) hx hb hg in_M t_M o_M n_M hown hK hP hD hS 0 rfl rfl 34 (by decide) (hg _ k986) (fun _ h9 => h9) rfl (by decide +kernel) rfl rfl (Nat.le_of_ble_eq_true rfl) d_M_put_2 (fun H locs hP hD hS => ?_)
  have hP : va_P (dC, dI) vwCl [(o, .inr (9, mO g fForm fShift fModels fItems fEnded fLow fRange fCache fPend fGoes fOuts fIns fReads fBad fIR fAsk fBAsk fCode fRL fRR fX fWrites 0)), ((g 0), .inl (cI, 8, .inl vMany)), ((g 1), .inl (cI, 512, .inl vCounts))] H := hP
  have hD : va_D A [(o, .inr (9, mO g fForm fShift fModels fItems fEnded fLow fRange fCache fPend fGoes fOuts fIns fReads fBad fIR fAsk fBAsk fCode fRL fRR fX fWrites 0)), ((g 0), .inl (cI, 8, .inl vMany)), ((g 1), .inl (cI, 512, .inl vCounts))] := hD
  refine lv_aload_n hx hb d_M_put_5 rfl (lv_at hl 0 rfl) ?_
  refine lv_iload_n hx hb d_M_put_6 rfl (lv_at hl 1 rfl) ?_
  refine lv_iload_n hx hb d_M_put_7 rfl (lv_at hl 2 rfl) ?_
  refine my_ci (wr := [((g 1), .inl (cI, 512, .inl vCounts))]) (va_runV (As := [.int p1, .int p2]) (rest := []) ⟨hx, hb, hml, hown, hts⟩ (c_M_isSign l dC dI cI cM cO H.size o g fForm fShift fModels fItems fEnded fLow fRange fCache fPend fGoes fOuts fIns fReads fBad fIR fAsk fBAsk fCode fRL fRR fX fWrites 0 vMany km p1 p2 (hMD.1) (by first | assumption | omega)) (cwV 2 hts (my_gV k1069 k1071 ks25 k12 k1072) rfl rfl rfl (by decide +kernel) ⟨by rw [hR]; exact Nat.le_of_ble_eq_true rfl, by rw [hR]; exact Nat.le_of_ble_eq_true rfl⟩) (my_preV hK hN (hP.sub [0, 1] rfl) (hD.sub [0, 1] (by decide) rfl) 0 rfl rfl) rfl rfl hl.1 rfl (lv_room (Nat.le_of_ble_eq_true rfl)) d_M_put_8 ⟨by rw [hR]; exact Nat.le_of_ble_eq_true rfl, by rw [hR]; exact Nat.le_of_ble_eq_true rfl⟩) hP hD hS hA [0, 1] [2] rfl rfl (by decide) (by decide) (fun r_8 u9 H locs hw_8 hP hD hS => ?_)
  have hw_8 : r_8 = if isN km p1 ∧ (0 ≤ p2 ∧ p2 ≤ vMany p1.toNatClampNeg - 1) then 1 else 0 := hw_8
  have hP : va_P (dC, dI) vwCl [((g 1), .inl (cI, 512, .inl vCounts)), (o, .inr (9, mO g fForm fShift fModels fItems fEnded fLow fRange fCache fPend fGoes fOuts fIns fReads fBad fIR fAsk fBAsk fCode fRL fRR fX fWrites 0)), ((g 0), .inl (cI, 8, .inl vMany))] H := hP
  have hD : va_D A [((g 1), .inl (cI, 512, .inl vCounts)), (o, .inr (9, mO g fForm fShift fModels fItems fEnded fLow fRange fCache fPend fGoes fOuts fIns fReads fBad fIR fAsk fBAsk fCode fRL fRR fX fWrites 0)), ((g 0), .inl (cI, 8, .inl vMany))] := hD
  refine lv_if_ne (tgt := 16) hx hb d_M_put_11 (by decide) (fun c_1 => ?_) (fun c_1 => ?_)
  · refine lv_aload_n hx hb d_M_put_16 rfl (lv_at hl 0 rfl) ?_
    refine va_get (D := (dC, dI)) (ci := 9) (v := .int fEnded) (C := "RangeCodersModel") (T := T_M) (N := 35) hx hb hg in_M hown hK hP 1 rfl rfl 10 (by decide) (hg _ k962) (fun _ h9 => h9) rfl d_M_put_17 ?_
    refine lv_if_ne (tgt := 45) hx hb d_M_put_20 (by decide) (fun c_2 => ?_) (fun c_2 => ?_)
    · refine lv_bipush (v := (-3)) hx hb d_M_put_45 (by decide) ?_
      exact my_iret (v := (-3)) hx hb hr (rfl) hlocks hQ hK hS (Nat.le_refl _) (Nat.le_refl _) ((0 : Int32)) (trivial) (hP.sub [1, 2, 0] rfl) (hD.sub [1, 2, 0] (by decide) rfl) d_M_put_47
    · exact absurd c_2 hen
  · refine lv_iconst (v := (-1)) hx hb d_M_put_14 (by decide) ?_
    exact my_iret (v := (-1)) hx hb hr (rfl) hlocks hQ hK hS (Nat.le_refl _) (Nat.le_refl _) ((0 : Int32)) (trivial) (hP.sub [1, 2, 0] rfl) (hD.sub [1, 2, 0] (by decide) rfl) d_M_put_15
set_option maxHeartbeats 2000000 in
set_option maxRecDepth 100000 in
theorem c_M_bits0 (l : Launch) (dC : Nat → ClassId) (dI : Nat → Nat → Nat) (cI cM cO : ClassId) (sz : Nat) (o : Nat) (g : Nat → Nat) (fForm : Int32) (fShift : Int32) (fModels : Int32) (fItems : Int32) (fEnded : Int32) (fLow : Int64) (fRange : Int64) (fCache : Int32) (fPend : Int32) (fGoes : Int32) (fOuts : Int32) (fIns : Int32) (fReads : Int32) (fBad : Int32) (fIR : Int32) (fAsk : Int32) (fBAsk : Int32) (fCode : Int64) (fRL : Int64) (fRR : Int64) (fX : Int64) (fWrites : Int32) (fThrown : Int32) (vIM : Nat → Int32) (vIW : Nat → Int32) (vGoing : Nat → Int32) (p1 : Int32) (p2 : Int32) (hfo : fForm = 0) (hen : fEnded = 0) (hI : MI0 fItems fLow fRange fCache fPend fGoes vGoing) : MetI l y_M_bits (Cond.code y_M_bits prog_14_method_30_code 3 (some .int) :: gw) ({ frames := 5, cells := 0, slots := 0, locals := 110 } : Room) (dC, dI) vwCl (kT cI cM cO) [.ref o, .int p1, .int p2] [(o, .inr (9, mO g fForm fShift fModels fItems fEnded fLow fRange fCache fPend fGoes fOuts fIns fReads fBad fIR fAsk fBAsk fCode fRL fRR fX fWrites fThrown)), ((g 4), .inl (cI, 600, .inl vIM)), ((g 5), .inl (cI, 600, .inl vIW)), ((g 6), .inl (cI, 9000, .inl vGoing))] sz (fun (r : Int32) (u : Int32 × Int64 × Int64 × Int32 × Int32 × Int32 × Int32 × (Nat → Int32) × (Nat → Int32) × (Nat → Int32)) => MI0 u.1 u.2.1 u.2.2.1 u.2.2.2.1 u.2.2.2.2.1 u.2.2.2.2.2.1 u.2.2.2.2.2.2.2.2.2) (fun (u : Int32 × Int64 × Int64 × Int32 × Int32 × Int32 × Int32 × (Nat → Int32) × (Nat → Int32) × (Nat → Int32)) => [(o, .inr (9, mO g fForm fShift fModels u.1 fEnded u.2.1 u.2.2.1 u.2.2.2.1 u.2.2.2.2.1 u.2.2.2.2.2.1 fOuts fIns fReads fBad fIR fAsk fBAsk fCode fRL fRR fX fWrites u.2.2.2.2.2.2.1)), ((g 4), .inl (cI, 600, .inl u.2.2.2.2.2.2.2.1)), ((g 5), .inl (cI, 600, .inl u.2.2.2.2.2.2.2.2.1)), ((g 6), .inl (cI, 9000, .inl u.2.2.2.2.2.2.2.2.2))]) 0 0 := by
  refine my_ofI (cc := prog_14_method_30_code) (n := 3) (ret := (some .int)) (by decide) rfl (Nat.le_of_ble_eq_true rfl) ?_
  intro p e s m args below meth c R Q A ls H locs hx hb hr hts hown hlocks hml hnm hR hQ hA hl hP hK hN hD hS
  have hg : ∀ w ∈ gw, w.before args s = true := fun w h => hts w (List.mem_cons_of_mem _ h)
  have hown : s.vm.findClass "RangeCodersModel" = some m.cls := hown
  have hl : lv_has ls 3 [(0, .ref o), (1, .int p1), (2, .int p2)] := hl
  subst hfo
  subst hen
  obtain ⟨ki, hki, rfl, Rg, L, ca, Pn, bs, rfl, rfl, rfl, rfl, rfl, hE, hG, ho, hlb⟩ := hI
  have hP : va_P (dC, dI) vwCl [(o, .inr (9, mO g 0 fShift fModels (nI ki) 0 (lN L) (lN Rg) (caI ca) (nI Pn) (nI bs.length) fOuts fIns fReads fBad fIR fAsk fBAsk fCode fRL fRR fX fWrites fThrown)), ((g 4), .inl (cI, 600, .inl vIM)), ((g 5), .inl (cI, 600, .inl vIW)), ((g 6), .inl (cI, 9000, .inl vGoing))] H := hP
  have hD : va_D A [(o, .inr (9, mO g 0 fShift fModels (nI ki) 0 (lN L) (lN Rg) (caI ca) (nI Pn) (nI bs.length) fOuts fIns fReads fBad fIR fAsk fBAsk fCode fRL fRR fX fWrites fThrown)), ((g 4), .inl (cI, 600, .inl vIM)), ((g 5), .inl (cI, 600, .inl vIW)), ((g 6), .inl (cI, 9000, .inl vGoing))] := hD
  have hl : lv_has ls 3 [(0, .ref o), (1, .int p1), (2, .int p2)] := hl
  refine lv_aload_n hx hb d_M_bits_0 rfl (lv_at hl 0 rfl) ?_
  refine lv_iconst (v := 0) hx hb d_M_bits_1 (by decide) ?_
  refine va_put (D := (dC, dI)) (ci := 9) (v := .int 0) (ty := .int) (C := "RangeCodersModel") (T := T_M) (N := 35) hx hb hg in_M t_M o_M n_M hown hK hP hD hS 0 rfl rfl 34 (by decide) (hg _ k986) (fun _ h9 => h9) rfl (by decide +kernel) rfl rfl (Nat.le_of_ble_eq_true rfl) d_M_bits_2 (fun H locs hP hD hS => ?_)
  have hP : va_P (dC, dI) vwCl [(o, .inr (9, mO g 0 fShift fModels (nI ki) 0 (lN L) (lN Rg) (caI ca) (nI Pn) (nI bs.length) fOuts fIns fReads fBad fIR fAsk fBAsk fCode fRL fRR fX fWrites 0)), ((g 4), .inl (cI, 600, .inl vIM)), ((g 5), .inl (cI, 600, .inl vIW)), ((g 6), .inl (cI, 9000, .inl vGoing))] H := hP
  have hD : va_D A [(o, .inr (9, mO g 0 fShift fModels (nI ki) 0 (lN L) (lN Rg) (caI ca) (nI Pn) (nI bs.length) fOuts fIns fReads fBad fIR fAsk fBAsk fCode fRL fRR fX fWrites 0)), ((g 4), .inl (cI, 600, .inl vIM)), ((g 5), .inl (cI, 600, .inl vIW)), ((g 6), .inl (cI, 9000, .inl vGoing))] := hD
  refine lv_iload_n hx hb d_M_bits_5 rfl (lv_at hl 2 rfl) ?_
  refine lv_iconst (v := 1) hx hb d_M_bits_6 (by decide) ?_
  refine lv_aload_n hx hb d_M_bits_7 rfl (lv_at hl 0 rfl) ?_
  refine va_get (D := (dC, dI)) (ci := 9) (v := .int 0) (C := "RangeCodersModel") (T := T_M) (N := 35) hx hb hg in_M hown hK hP 0 rfl rfl 0 (by decide) (hg _ k952) (fun _ h9 => h9) rfl d_M_bits_8 ?_
  refine lv_iconst (v := 4) hx hb d_M_bits_11 (by decide) ?_
  refine lv_icmp_ne (tgt := 20) hx hb d_M_bits_12 (by decide) (fun c_1 => ?_) (fun c_1 => ?_)
  · refine lv_bipush (v := 12) hx hb d_M_bits_20 (by decide) ?_
    refine my_ci (wr := [(o, .inr (9, mO g 0 fShift fModels (nI ki) 0 (lN L) (lN Rg) (caI ca) (nI Pn) (nI bs.length) fOuts fIns fReads fBad fIR fAsk fBAsk fCode fRL fRR fX fWrites 0)), ((g 4), .inl (cI, 600, .inl vIM)), ((g 5), .inl (cI, 600, .inl vIW)), ((g 6), .inl (cI, 9000, .inl vGoing))]) (va_runS (As := [.int p2, .int 1, .int 12]) (rest := []) ⟨hx, hb, hml, hown, hts⟩ (c_M_in l dC dI cI cM cO H.size p2 1 12) (cwS 3 hts (my_gS k1062 k1063 k12 k1064) rfl rfl rfl (by decide +kernel) ⟨by rw [hR]; exact Nat.le_of_ble_eq_true rfl, by rw [hR]; exact Nat.le_of_ble_eq_true rfl⟩) (my_pre hK hN (hP.sub [] rfl) (hD.sub [] (by decide) rfl)) rfl rfl hl.1 rfl (lv_room (Nat.le_of_ble_eq_true rfl)) d_M_bits_22 ⟨by rw [hR]; exact Nat.le_of_ble_eq_true rfl, by rw [hR]; exact Nat.le_of_ble_eq_true rfl⟩) hP hD hS hA [] [0, 1, 2, 3] rfl rfl (by decide) (by decide) (fun r_22 u9 H locs hw_22 hP hD hS => ?_)
    have hw_22 : r_22 = if 1 ≤ p2 ∧ p2 ≤ 12 then 1 else 0 := hw_22
    have hP : va_P (dC, dI) vwCl [(o, .inr (9, mO g 0 fShift fModels (nI ki) 0 (lN L) (lN Rg) (caI ca) (nI Pn) (nI bs.length) fOuts fIns fReads fBad fIR fAsk fBAsk fCode fRL fRR fX fWrites 0)), ((g 4), .inl (cI, 600, .inl vIM)), ((g 5), .inl (cI, 600, .inl vIW)), ((g 6), .inl (cI, 9000, .inl vGoing))] H := hP
    have hD : va_D A [(o, .inr (9, mO g 0 fShift fModels (nI ki) 0 (lN L) (lN Rg) (caI ca) (nI Pn) (nI bs.length) fOuts fIns fReads fBad fIR fAsk fBAsk fCode fRL fRR fX fWrites 0)), ((g 4), .inl (cI, 600, .inl vIM)), ((g 5), .inl (cI, 600, .inl vIW)), ((g 6), .inl (cI, 9000, .inl vGoing))] := hD
    refine lv_if_eq (tgt := 41) hx hb d_M_bits_25 (by decide) (fun c_2 => ?_) (fun c_2 => ?_)
    · refine lv_bipush (v := (-2)) hx hb d_M_bits_41 (by decide) ?_
      exact my_iret (v := (-2)) hx hb hr (rfl) hlocks hQ hK hS (Nat.le_refl _) (Nat.le_refl _) ((nI ki), (lN L), (lN Rg), (caI ca), (nI Pn), (nI bs.length), (0 : Int32), vIM, vIW, vGoing) (⟨ki, hki, rfl, Rg, L, ca, Pn, bs, rfl, rfl, rfl, rfl, rfl, hE, hG, ho, hlb⟩) (hP.sub [0, 1, 2, 3] rfl) (hD.sub [0, 1, 2, 3] (by decide) rfl) d_M_bits_43
    · obtain ⟨bb, hb1, hb2, eb⟩ := in_of2 (a := 1) (b := 12) (by decide) (by decide) (one_ne hw_22 c_2)
      subst eb
      refine lv_iload_n hx hb d_M_bits_28 rfl (lv_at hl 1 rfl) ?_
      refine lv_iconst (v := 0) hx hb d_M_bits_29 (by decide) ?_
      refine lv_iconst (v := 1) hx hb d_M_bits_30 (by decide) ?_
      refine lv_iload_n hx hb d_M_bits_31 rfl (lv_at hl 2 rfl) ?_
      refine lv_ishl hx hb d_M_bits_32 ?_
      refine lv_topi (fun v_3 ev_3 => ?_)
      have z9 : v_3 = nI (2 ^ bb) := by rw [ev_3]; exact shl1 _ (by omega)
      subst z9
      refine lv_iconst (v := 1) hx hb d_M_bits_33 (by decide) ?_
      refine lv_isub hx hb d_M_bits_34 ?_
      refine lv_topi (fun v_4 ev_4 => ?_)
      have z9 : v_4 = nI (2 ^ bb - 1) := by rw [ev_4]; exact nI_pred9 (Nat.two_pow_pos _)
      subst z9
      refine my_ci (wr := [(o, .inr (9, mO g 0 fShift fModels (nI ki) 0 (lN L) (lN Rg) (caI ca) (nI Pn) (nI bs.length) fOuts fIns fReads fBad fIR fAsk fBAsk fCode fRL fRR fX fWrites 0)), ((g 4), .inl (cI, 600, .inl vIM)), ((g 5), .inl (cI, 600, .inl vIW)), ((g 6), .inl (cI, 9000, .inl vGoing))]) (va_runS (As := [.int p1, .int 0, .int (nI (2 ^ bb - 1))]) (rest := []) ⟨hx, hb, hml, hown, hts⟩ (c_M_in l dC dI cI cM cO H.size p1 0 (nI (2 ^ bb - 1))) (cwS 3 hts (my_gS k1062 k1063 k12 k1064) rfl rfl rfl (by decide +kernel) ⟨by rw [hR]; exact Nat.le_of_ble_eq_true rfl, by rw [hR]; exact Nat.le_of_ble_eq_true rfl⟩) (my_pre hK hN (hP.sub [] rfl) (hD.sub [] (by decide) rfl)) rfl rfl hl.1 rfl (lv_room (Nat.le_of_ble_eq_true rfl)) d_M_bits_35 ⟨by rw [hR]; exact Nat.le_of_ble_eq_true rfl, by rw [hR]; exact Nat.le_of_ble_eq_true rfl⟩) hP hD hS hA [] [0, 1, 2, 3] rfl rfl (by decide) (by decide) (fun r_35 u9 H locs hw_35 hP hD hS => ?_)
      have hw_35 : r_35 = if 0 ≤ p1 ∧ p1 ≤ (nI (2 ^ bb - 1)) then 1 else 0 := hw_35
      have hP : va_P (dC, dI) vwCl [(o, .inr (9, mO g 0 fShift fModels (nI ki) 0 (lN L) (lN Rg) (caI ca) (nI Pn) (nI bs.length) fOuts fIns fReads fBad fIR fAsk fBAsk fCode fRL fRR fX fWrites 0)), ((g 4), .inl (cI, 600, .inl vIM)), ((g 5), .inl (cI, 600, .inl vIW)), ((g 6), .inl (cI, 9000, .inl vGoing))] H := hP
      have hD : va_D A [(o, .inr (9, mO g 0 fShift fModels (nI ki) 0 (lN L) (lN Rg) (caI ca) (nI Pn) (nI bs.length) fOuts fIns fReads fBad fIR fAsk fBAsk fCode fRL fRR fX fWrites 0)), ((g 4), .inl (cI, 600, .inl vIM)), ((g 5), .inl (cI, 600, .inl vIW)), ((g 6), .inl (cI, 9000, .inl vGoing))] := hD
      refine lv_if_ne (tgt := 44) hx hb d_M_bits_38 (by decide) (fun c_5 => ?_) (fun c_5 => ?_)
      · obtain ⟨vv, -, hv9, ev9⟩ := in_of2 (a := 0) (b := 2 ^ bb - 1) (by decide) (by have := pw12 (show bb ≤ 12 by omega); omega) (one_ne hw_35 c_5)
        subst ev9
        have hp2 := Nat.two_pow_pos bb
        have hvl : vv < 2 ^ bb := by omega
        have hp12 := pw12 (show bb ≤ 12 by omega)
        refine lv_aload_n hx hb d_M_bits_44 rfl (lv_at hl 0 rfl) ?_
        refine va_get (D := (dC, dI)) (ci := 9) (v := .int 0) (C := "RangeCodersModel") (T := T_M) (N := 35) hx hb hg in_M hown hK hP 0 rfl rfl 10 (by decide) (hg _ k962) (fun _ h9 => h9) rfl d_M_bits_45 ?_
        refine lv_if_eq (tgt := 54) hx hb d_M_bits_48 (by decide) (fun c_6 => ?_) (fun c_6 => ?_)
        · refine lv_aload_n hx hb d_M_bits_54 rfl (lv_at hl 0 rfl) ?_
          refine va_get (D := (dC, dI)) (ci := 9) (v := .int (nI ki)) (C := "RangeCodersModel") (T := T_M) (N := 35) hx hb hg in_M hown hK hP 0 rfl rfl 7 (by decide) (hg _ k959) (fun _ h9 => h9) rfl d_M_bits_55 ?_
          refine lv_sipush (v := 600) hx hb d_M_bits_58 (by decide) ?_
          refine lv_icmp_ne (tgt := 67) hx hb d_M_bits_61 (by decide) (fun c_7 => ?_) (fun c_7 => ?_)
          · have hk6 : ki < 600 := nI_600 hki c_7
            refine lv_aload_n hx hb d_M_bits_67 rfl (lv_at hl 0 rfl) ?_
            refine lv_iload_n hx hb d_M_bits_68 rfl (lv_at hl 1 rfl) ?_
            refine lv_iload_n hx hb d_M_bits_69 rfl (lv_at hl 2 rfl) ?_
            refine my_cv (wr := [((g 4), .inl (cI, 600, .inl vIM)), ((g 5), .inl (cI, 600, .inl vIW))]) (va_runV (As := [.int (nI vv), .int (nI bb)]) (rest := []) ⟨hx, hb, hml, hown, hts⟩ (c_M_putValue0 l dC dI cI cM cO H.size o g fShift fModels (nI ki) 0 fOuts fIns fReads fBad fIR fAsk fBAsk fCode fRL fRR fX fWrites 0 vGoing vv bb Rg L ca Pn bs (hb1) (hb2) (hvl) (hE) (hG) (by omega)) (cwV 2 hts (my_gV k1143 k1145 ks39 k12 k1146) rfl rfl rfl (by decide +kernel) ⟨by rw [hR]; exact Nat.le_of_ble_eq_true rfl, by rw [hR]; exact Nat.le_of_ble_eq_true rfl⟩) (my_preV hK hN (hP.sub [0, 3] rfl) (hD.sub [0, 3] (by decide) rfl) 0 rfl rfl) rfl rfl hl.1 rfl (lv_room (Nat.le_of_ble_eq_true rfl)) d_M_bits_70 ⟨by rw [hR]; exact Nat.le_of_ble_eq_true rfl, by rw [hR]; exact Nat.le_of_ble_eq_true rfl⟩) hP hD hS hA [0, 3] [1, 2] rfl rfl (by decide) (by decide) (fun u9 H locs hw_70 hP hD hS => ?_)
            obtain ⟨v2_70, rfl⟩ : ∃ z, z = u9 := ⟨_, rfl⟩
            have hw_70 : gIs v2_70 (eB (wdS (Rg / 2 ^ bb * 1, L + Rg / 2 ^ bb * vv, ca, Pn, bs))) := hw_70
            have hP : va_P (dC, dI) vwCl [((g 4), .inl (cI, 600, .inl vIM)), ((g 5), .inl (cI, 600, .inl vIW)), (o, .inr (9, mO g 0 fShift fModels (nI ki) 0 (lN (eL (wdS (Rg / 2 ^ bb * 1, L + Rg / 2 ^ bb * vv, ca, Pn, bs)))) (lN (eR (wdS (Rg / 2 ^ bb * 1, L + Rg / 2 ^ bb * vv, ca, Pn, bs)))) (caI (eC (wdS (Rg / 2 ^ bb * 1, L + Rg / 2 ^ bb * vv, ca, Pn, bs)))) (nI (eP (wdS (Rg / 2 ^ bb * 1, L + Rg / 2 ^ bb * vv, ca, Pn, bs)))) (nI (eB (wdS (Rg / 2 ^ bb * 1, L + Rg / 2 ^ bb * vv, ca, Pn, bs))).length) fOuts fIns fReads fBad fIR fAsk fBAsk fCode fRL fRR fX fWrites 0)), ((g 6), .inl (cI, 9000, .inl v2_70))] H := hP
            have hD : va_D A [((g 4), .inl (cI, 600, .inl vIM)), ((g 5), .inl (cI, 600, .inl vIW)), (o, .inr (9, mO g 0 fShift fModels (nI ki) 0 (lN (eL (wdS (Rg / 2 ^ bb * 1, L + Rg / 2 ^ bb * vv, ca, Pn, bs)))) (lN (eR (wdS (Rg / 2 ^ bb * 1, L + Rg / 2 ^ bb * vv, ca, Pn, bs)))) (caI (eC (wdS (Rg / 2 ^ bb * 1, L + Rg / 2 ^ bb * vv, ca, Pn, bs)))) (nI (eP (wdS (Rg / 2 ^ bb * 1, L + Rg / 2 ^ bb * vv, ca, Pn, bs)))) (nI (eB (wdS (Rg / 2 ^ bb * 1, L + Rg / 2 ^ bb * vv, ca, Pn, bs))).length) fOuts fIns fReads fBad fIR fAsk fBAsk fCode fRL fRR fX fWrites 0)), ((g 6), .inl (cI, 9000, .inl v2_70))] := hD
            refine lv_aload_n hx hb d_M_bits_73 rfl (lv_at hl 0 rfl) ?_
            refine lv_iload_n hx hb d_M_bits_74 rfl (lv_at hl 2 rfl) ?_
            refine lv_ineg hx hb d_M_bits_75 ?_
            refine lv_topi (fun v_8 ev_8 => ?_)
            refine lv_iload_n hx hb d_M_bits_76 rfl (lv_at hl 1 rfl) ?_
            refine my_ci (wr := [((g 6), .inl (cI, 9000, .inl v2_70))]) (va_runV (As := [.int v_8, .int (nI vv)]) (rest := []) ⟨hx, hb, hml, hown, hts⟩ (c_M_addItem l dC dI cI cM cO H.size o g 0 fShift fModels 0 (lN (eL (wdS (Rg / 2 ^ bb * 1, L + Rg / 2 ^ bb * vv, ca, Pn, bs)))) (lN (eR (wdS (Rg / 2 ^ bb * 1, L + Rg / 2 ^ bb * vv, ca, Pn, bs)))) (caI (eC (wdS (Rg / 2 ^ bb * 1, L + Rg / 2 ^ bb * vv, ca, Pn, bs)))) (nI (eP (wdS (Rg / 2 ^ bb * 1, L + Rg / 2 ^ bb * vv, ca, Pn, bs)))) (nI (eB (wdS (Rg / 2 ^ bb * 1, L + Rg / 2 ^ bb * vv, ca, Pn, bs))).length) fOuts fIns fReads fBad fIR fAsk fBAsk fCode fRL fRR fX fWrites 0 vIM vIW ki v_8 (nI vv) (hk6)) (cwV 2 hts (my_gV k1135 k1137 ks38 k12 k1138) rfl rfl rfl (by decide +kernel) ⟨by rw [hR]; exact Nat.le_of_ble_eq_true rfl, by rw [hR]; exact Nat.le_of_ble_eq_true rfl⟩) (my_preV hK hN (hP.sub [2, 0, 1] rfl) (hD.sub [2, 0, 1] (by decide) rfl) 0 rfl rfl) rfl rfl hl.1 rfl (lv_room (Nat.le_of_ble_eq_true rfl)) d_M_bits_77 ⟨by rw [hR]; exact Nat.le_of_ble_eq_true rfl, by rw [hR]; exact Nat.le_of_ble_eq_true rfl⟩) hP hD hS hA [2, 0, 1] [3] rfl rfl (by decide) (by decide) (fun r_77 u9 H locs hw_77 hP hD hS => ?_)
            obtain ⟨f2_77, v2_77⟩ := u9
            have hw_77 : r_77 = nI (ki + 1) ∧ f2_77 = upd vIM ki v_8 ∧ v2_77 = upd vIW ki (nI vv) := hw_77
            have hP : va_P (dC, dI) vwCl [((g 6), .inl (cI, 9000, .inl v2_70)), (o, .inr (9, mO g 0 fShift fModels (nI (ki + 1)) 0 (lN (eL (wdS (Rg / 2 ^ bb * 1, L + Rg / 2 ^ bb * vv, ca, Pn, bs)))) (lN (eR (wdS (Rg / 2 ^ bb * 1, L + Rg / 2 ^ bb * vv, ca, Pn, bs)))) (caI (eC (wdS (Rg / 2 ^ bb * 1, L + Rg / 2 ^ bb * vv, ca, Pn, bs)))) (nI (eP (wdS (Rg / 2 ^ bb * 1, L + Rg / 2 ^ bb * vv, ca, Pn, bs)))) (nI (eB (wdS (Rg / 2 ^ bb * 1, L + Rg / 2 ^ bb * vv, ca, Pn, bs))).length) fOuts fIns fReads fBad fIR fAsk fBAsk fCode fRL fRR fX fWrites 0)), ((g 4), .inl (cI, 600, .inl f2_77)), ((g 5), .inl (cI, 600, .inl v2_77))] H := hP
            have hD : va_D A [((g 6), .inl (cI, 9000, .inl v2_70)), (o, .inr (9, mO g 0 fShift fModels (nI (ki + 1)) 0 (lN (eL (wdS (Rg / 2 ^ bb * 1, L + Rg / 2 ^ bb * vv, ca, Pn, bs)))) (lN (eR (wdS (Rg / 2 ^ bb * 1, L + Rg / 2 ^ bb * vv, ca, Pn, bs)))) (caI (eC (wdS (Rg / 2 ^ bb * 1, L + Rg / 2 ^ bb * vv, ca, Pn, bs)))) (nI (eP (wdS (Rg / 2 ^ bb * 1, L + Rg / 2 ^ bb * vv, ca, Pn, bs)))) (nI (eB (wdS (Rg / 2 ^ bb * 1, L + Rg / 2 ^ bb * vv, ca, Pn, bs))).length) fOuts fIns fReads fBad fIR fAsk fBAsk fCode fRL fRR fX fWrites 0)), ((g 4), .inl (cI, 600, .inl f2_77)), ((g 5), .inl (cI, 600, .inl v2_77))] := hD
            exact my_iret (v := r_77) hx hb hr (rfl) hlocks hQ hK hS (Nat.le_refl _) (Nat.le_refl _) (nI (ki + 1), (lN (eL (wdS (Rg / 2 ^ bb * 1, L + Rg / 2 ^ bb * vv, ca, Pn, bs)))), (lN (eR (wdS (Rg / 2 ^ bb * 1, L + Rg / 2 ^ bb * vv, ca, Pn, bs)))), (caI (eC (wdS (Rg / 2 ^ bb * 1, L + Rg / 2 ^ bb * vv, ca, Pn, bs)))), (nI (eP (wdS (Rg / 2 ^ bb * 1, L + Rg / 2 ^ bb * vv, ca, Pn, bs)))), (nI (eB (wdS (Rg / 2 ^ bb * 1, L + Rg / 2 ^ bb * vv, ca, Pn, bs))).length), (0 : Int32), f2_77, v2_77, v2_70) (MI0_of hk6 (nr_inv hE hp2 (show vv + 1 ≤ 2 ^ bb by omega) (by decide) (by have := hE.1; have : 16777216 ≤ Rg := this; omega)).1 (oct_wd ho) hw_70 (Nat.le_trans (nr_inv hE hp2 (show vv + 1 ≤ 2 ^ bb by omega) (by decide) (by have := hE.1; have : 16777216 ≤ Rg := this; omega)).2 (by omega))) (hP.sub [1, 2, 3, 0] rfl) (hD.sub [1, 2, 3, 0] (by decide) rfl) d_M_bits_80
          · refine lv_bipush (v := (-4)) hx hb d_M_bits_64 (by decide) ?_
            exact my_iret (v := (-4)) hx hb hr (rfl) hlocks hQ hK hS (Nat.le_refl _) (Nat.le_refl _) ((nI ki), (lN L), (lN Rg), (caI ca), (nI Pn), (nI bs.length), (0 : Int32), vIM, vIW, vGoing) (⟨ki, hki, rfl, Rg, L, ca, Pn, bs, rfl, rfl, rfl, rfl, rfl, hE, hG, ho, hlb⟩) (hP.sub [0, 1, 2, 3] rfl) (hD.sub [0, 1, 2, 3] (by decide) rfl) d_M_bits_66
        · exact absurd (by decide) c_6
      · refine lv_bipush (v := (-2)) hx hb d_M_bits_41 (by decide) ?_
        exact my_iret (v := (-2)) hx hb hr (rfl) hlocks hQ hK hS (Nat.le_refl _) (Nat.le_refl _) ((nI ki), (lN L), (lN Rg), (caI ca), (nI Pn), (nI bs.length), (0 : Int32), vIM, vIW, vGoing) (⟨ki, hki, rfl, Rg, L, ca, Pn, bs, rfl, rfl, rfl, rfl, rfl, hE, hG, ho, hlb⟩) (hP.sub [0, 1, 2, 3] rfl) (hD.sub [0, 1, 2, 3] (by decide) rfl) d_M_bits_43
  · exact absurd c_1 (by decide)
set_option maxHeartbeats 2000000 in
set_option maxRecDepth 100000 in
theorem c_M_bits1 (l : Launch) (dC : Nat → ClassId) (dI : Nat → Nat → Nat) (cI cM cO : ClassId) (sz : Nat) (o : Nat) (g : Nat → Nat) (fForm : Int32) (fShift : Int32) (fModels : Int32) (fItems : Int32) (fEnded : Int32) (fLow : Int64) (fRange : Int64) (fCache : Int32) (fPend : Int32) (fGoes : Int32) (fOuts : Int32) (fIns : Int32) (fReads : Int32) (fBad : Int32) (fIR : Int32) (fAsk : Int32) (fBAsk : Int32) (fCode : Int64) (fRL : Int64) (fRR : Int64) (fX : Int64) (fWrites : Int32) (fThrown : Int32) (vIM : Nat → Int32) (vIW : Nat → Int32) (vGoing : Nat → Int32) (p1 : Int32) (p2 : Int32) (hfo : fForm = 1) (hen : fEnded = 0) (hI : MI1 fItems fLow fRange fGoes vGoing) : MetI l y_M_bits (Cond.code y_M_bits prog_14_method_30_code 3 (some .int) :: gw) ({ frames := 4, cells := 0, slots := 0, locals := 91 } : Room) (dC, dI) vwCl (kT cI cM cO) [.ref o, .int p1, .int p2] [(o, .inr (9, mO g fForm fShift fModels fItems fEnded fLow fRange fCache fPend fGoes fOuts fIns fReads fBad fIR fAsk fBAsk fCode fRL fRR fX fWrites fThrown)), ((g 4), .inl (cI, 600, .inl vIM)), ((g 5), .inl (cI, 600, .inl vIW)), ((g 6), .inl (cI, 9000, .inl vGoing))] sz (fun (r : Int32) (u : Int32 × Int64 × Int64 × Int32 × Int32 × (Nat → Int32) × (Nat → Int32) × (Nat → Int32)) => MI1 u.1 u.2.1 u.2.2.1 u.2.2.2.1 u.2.2.2.2.2.2.2) (fun (u : Int32 × Int64 × Int64 × Int32 × Int32 × (Nat → Int32) × (Nat → Int32) × (Nat → Int32)) => [(o, .inr (9, mO g fForm fShift fModels u.1 fEnded u.2.1 u.2.2.1 fCache fPend u.2.2.2.1 fOuts fIns fReads fBad fIR fAsk fBAsk fCode fRL fRR fX fWrites u.2.2.2.2.1)), ((g 4), .inl (cI, 600, .inl u.2.2.2.2.2.1)), ((g 5), .inl (cI, 600, .inl u.2.2.2.2.2.2.1)), ((g 6), .inl (cI, 9000, .inl u.2.2.2.2.2.2.2))]) 0 0 := by
  refine my_ofI (cc := prog_14_method_30_code) (n := 3) (ret := (some .int)) (by decide) rfl (Nat.le_of_ble_eq_true rfl) ?_
  intro p e s m args below meth c R Q A ls H locs hx hb hr hts hown hlocks hml hnm hR hQ hA hl hP hK hN hD hS
  have hg : ∀ w ∈ gw, w.before args s = true := fun w h => hts w (List.mem_cons_of_mem _ h)
  have hown : s.vm.findClass "RangeCodersModel" = some m.cls := hown
  have hl : lv_has ls 3 [(0, .ref o), (1, .int p1), (2, .int p2)] := hl
  subst hfo
  subst hen
  obtain ⟨ki, hki, rfl, Rg, L, bs, rfl, rfl, rfl, hp, hR6, hG, ho, hlb⟩ := hI
  have hP : va_P (dC, dI) vwCl [(o, .inr (9, mO g 1 fShift fModels (nI ki) 0 (lN L) (lN Rg) fCache fPend (nI bs.length) fOuts fIns fReads fBad fIR fAsk fBAsk fCode fRL fRR fX fWrites fThrown)), ((g 4), .inl (cI, 600, .inl vIM)), ((g 5), .inl (cI, 600, .inl vIW)), ((g 6), .inl (cI, 9000, .inl vGoing))] H := hP
  have hD : va_D A [(o, .inr (9, mO g 1 fShift fModels (nI ki) 0 (lN L) (lN Rg) fCache fPend (nI bs.length) fOuts fIns fReads fBad fIR fAsk fBAsk fCode fRL fRR fX fWrites fThrown)), ((g 4), .inl (cI, 600, .inl vIM)), ((g 5), .inl (cI, 600, .inl vIW)), ((g 6), .inl (cI, 9000, .inl vGoing))] := hD
  have hl : lv_has ls 3 [(0, .ref o), (1, .int p1), (2, .int p2)] := hl
  refine lv_aload_n hx hb d_M_bits_0 rfl (lv_at hl 0 rfl) ?_
  refine lv_iconst (v := 0) hx hb d_M_bits_1 (by decide) ?_
  refine va_put (D := (dC, dI)) (ci := 9) (v := .int 0) (ty := .int) (C := "RangeCodersModel") (T := T_M) (N := 35) hx hb hg in_M t_M o_M n_M hown hK hP hD hS 0 rfl rfl 34 (by decide) (hg _ k986) (fun _ h9 => h9) rfl (by decide +kernel) rfl rfl (Nat.le_of_ble_eq_true rfl) d_M_bits_2 (fun H locs hP hD hS => ?_)
  have hP : va_P (dC, dI) vwCl [(o, .inr (9, mO g 1 fShift fModels (nI ki) 0 (lN L) (lN Rg) fCache fPend (nI bs.length) fOuts fIns fReads fBad fIR fAsk fBAsk fCode fRL fRR fX fWrites 0)), ((g 4), .inl (cI, 600, .inl vIM)), ((g 5), .inl (cI, 600, .inl vIW)), ((g 6), .inl (cI, 9000, .inl vGoing))] H := hP
  have hD : va_D A [(o, .inr (9, mO g 1 fShift fModels (nI ki) 0 (lN L) (lN Rg) fCache fPend (nI bs.length) fOuts fIns fReads fBad fIR fAsk fBAsk fCode fRL fRR fX fWrites 0)), ((g 4), .inl (cI, 600, .inl vIM)), ((g 5), .inl (cI, 600, .inl vIW)), ((g 6), .inl (cI, 9000, .inl vGoing))] := hD
  refine lv_iload_n hx hb d_M_bits_5 rfl (lv_at hl 2 rfl) ?_
  refine lv_iconst (v := 1) hx hb d_M_bits_6 (by decide) ?_
  refine lv_aload_n hx hb d_M_bits_7 rfl (lv_at hl 0 rfl) ?_
  refine va_get (D := (dC, dI)) (ci := 9) (v := .int 1) (C := "RangeCodersModel") (T := T_M) (N := 35) hx hb hg in_M hown hK hP 0 rfl rfl 0 (by decide) (hg _ k952) (fun _ h9 => h9) rfl d_M_bits_8 ?_
  refine lv_iconst (v := 4) hx hb d_M_bits_11 (by decide) ?_
  refine lv_icmp_ne (tgt := 20) hx hb d_M_bits_12 (by decide) (fun c_1 => ?_) (fun c_1 => ?_)
  · refine lv_bipush (v := 12) hx hb d_M_bits_20 (by decide) ?_
    refine my_ci (wr := [(o, .inr (9, mO g 1 fShift fModels (nI ki) 0 (lN L) (lN Rg) fCache fPend (nI bs.length) fOuts fIns fReads fBad fIR fAsk fBAsk fCode fRL fRR fX fWrites 0)), ((g 4), .inl (cI, 600, .inl vIM)), ((g 5), .inl (cI, 600, .inl vIW)), ((g 6), .inl (cI, 9000, .inl vGoing))]) (va_runS (As := [.int p2, .int 1, .int 12]) (rest := []) ⟨hx, hb, hml, hown, hts⟩ (c_M_in l dC dI cI cM cO H.size p2 1 12) (cwS 3 hts (my_gS k1062 k1063 k12 k1064) rfl rfl rfl (by decide +kernel) ⟨by rw [hR]; exact Nat.le_of_ble_eq_true rfl, by rw [hR]; exact Nat.le_of_ble_eq_true rfl⟩) (my_pre hK hN (hP.sub [] rfl) (hD.sub [] (by decide) rfl)) rfl rfl hl.1 rfl (lv_room (Nat.le_of_ble_eq_true rfl)) d_M_bits_22 ⟨by rw [hR]; exact Nat.le_of_ble_eq_true rfl, by rw [hR]; exact Nat.le_of_ble_eq_true rfl⟩) hP hD hS hA [] [0, 1, 2, 3] rfl rfl (by decide) (by decide) (fun r_22 u9 H locs hw_22 hP hD hS => ?_)
    have hw_22 : r_22 = if 1 ≤ p2 ∧ p2 ≤ 12 then 1 else 0 := hw_22
    have hP : va_P (dC, dI) vwCl [(o, .inr (9, mO g 1 fShift fModels (nI ki) 0 (lN L) (lN Rg) fCache fPend (nI bs.length) fOuts fIns fReads fBad fIR fAsk fBAsk fCode fRL fRR fX fWrites 0)), ((g 4), .inl (cI, 600, .inl vIM)), ((g 5), .inl (cI, 600, .inl vIW)), ((g 6), .inl (cI, 9000, .inl vGoing))] H := hP
    have hD : va_D A [(o, .inr (9, mO g 1 fShift fModels (nI ki) 0 (lN L) (lN Rg) fCache fPend (nI bs.length) fOuts fIns fReads fBad fIR fAsk fBAsk fCode fRL fRR fX fWrites 0)), ((g 4), .inl (cI, 600, .inl vIM)), ((g 5), .inl (cI, 600, .inl vIW)), ((g 6), .inl (cI, 9000, .inl vGoing))] := hD
    refine lv_if_eq (tgt := 41) hx hb d_M_bits_25 (by decide) (fun c_2 => ?_) (fun c_2 => ?_)
    · refine lv_bipush (v := (-2)) hx hb d_M_bits_41 (by decide) ?_
      exact my_iret (v := (-2)) hx hb hr (rfl) hlocks hQ hK hS (Nat.le_refl _) (Nat.le_refl _) ((nI ki), (lN L), (lN Rg), (nI bs.length), (0 : Int32), vIM, vIW, vGoing) (⟨ki, hki, rfl, Rg, L, bs, rfl, rfl, rfl, hp, hR6, hG, ho, hlb⟩) (hP.sub [0, 1, 2, 3] rfl) (hD.sub [0, 1, 2, 3] (by decide) rfl) d_M_bits_43
    · obtain ⟨bb, hb1, hb2, eb⟩ := in_of2 (a := 1) (b := 12) (by decide) (by decide) (one_ne hw_22 c_2)
      subst eb
      refine lv_iload_n hx hb d_M_bits_28 rfl (lv_at hl 1 rfl) ?_
      refine lv_iconst (v := 0) hx hb d_M_bits_29 (by decide) ?_
      refine lv_iconst (v := 1) hx hb d_M_bits_30 (by decide) ?_
      refine lv_iload_n hx hb d_M_bits_31 rfl (lv_at hl 2 rfl) ?_
      refine lv_ishl hx hb d_M_bits_32 ?_
      refine lv_topi (fun v_3 ev_3 => ?_)
      have z9 : v_3 = nI (2 ^ bb) := by rw [ev_3]; exact shl1 _ (by omega)
      subst z9
      refine lv_iconst (v := 1) hx hb d_M_bits_33 (by decide) ?_
      refine lv_isub hx hb d_M_bits_34 ?_
      refine lv_topi (fun v_4 ev_4 => ?_)
      have z9 : v_4 = nI (2 ^ bb - 1) := by rw [ev_4]; exact nI_pred9 (Nat.two_pow_pos _)
      subst z9
      refine my_ci (wr := [(o, .inr (9, mO g 1 fShift fModels (nI ki) 0 (lN L) (lN Rg) fCache fPend (nI bs.length) fOuts fIns fReads fBad fIR fAsk fBAsk fCode fRL fRR fX fWrites 0)), ((g 4), .inl (cI, 600, .inl vIM)), ((g 5), .inl (cI, 600, .inl vIW)), ((g 6), .inl (cI, 9000, .inl vGoing))]) (va_runS (As := [.int p1, .int 0, .int (nI (2 ^ bb - 1))]) (rest := []) ⟨hx, hb, hml, hown, hts⟩ (c_M_in l dC dI cI cM cO H.size p1 0 (nI (2 ^ bb - 1))) (cwS 3 hts (my_gS k1062 k1063 k12 k1064) rfl rfl rfl (by decide +kernel) ⟨by rw [hR]; exact Nat.le_of_ble_eq_true rfl, by rw [hR]; exact Nat.le_of_ble_eq_true rfl⟩) (my_pre hK hN (hP.sub [] rfl) (hD.sub [] (by decide) rfl)) rfl rfl hl.1 rfl (lv_room (Nat.le_of_ble_eq_true rfl)) d_M_bits_35 ⟨by rw [hR]; exact Nat.le_of_ble_eq_true rfl, by rw [hR]; exact Nat.le_of_ble_eq_true rfl⟩) hP hD hS hA [] [0, 1, 2, 3] rfl rfl (by decide) (by decide) (fun r_35 u9 H locs hw_35 hP hD hS => ?_)
      have hw_35 : r_35 = if 0 ≤ p1 ∧ p1 ≤ (nI (2 ^ bb - 1)) then 1 else 0 := hw_35
      have hP : va_P (dC, dI) vwCl [(o, .inr (9, mO g 1 fShift fModels (nI ki) 0 (lN L) (lN Rg) fCache fPend (nI bs.length) fOuts fIns fReads fBad fIR fAsk fBAsk fCode fRL fRR fX fWrites 0)), ((g 4), .inl (cI, 600, .inl vIM)), ((g 5), .inl (cI, 600, .inl vIW)), ((g 6), .inl (cI, 9000, .inl vGoing))] H := hP
      have hD : va_D A [(o, .inr (9, mO g 1 fShift fModels (nI ki) 0 (lN L) (lN Rg) fCache fPend (nI bs.length) fOuts fIns fReads fBad fIR fAsk fBAsk fCode fRL fRR fX fWrites 0)), ((g 4), .inl (cI, 600, .inl vIM)), ((g 5), .inl (cI, 600, .inl vIW)), ((g 6), .inl (cI, 9000, .inl vGoing))] := hD
      refine lv_if_ne (tgt := 44) hx hb d_M_bits_38 (by decide) (fun c_5 => ?_) (fun c_5 => ?_)
      · obtain ⟨vv, -, hv9, ev9⟩ := in_of2 (a := 0) (b := 2 ^ bb - 1) (by decide) (by have := pw12 (show bb ≤ 12 by omega); omega) (one_ne hw_35 c_5)
        subst ev9
        have hp2 := Nat.two_pow_pos bb
        have hvl : vv < 2 ^ bb := by omega
        have hp12 := pw12 (show bb ≤ 12 by omega)
        refine lv_aload_n hx hb d_M_bits_44 rfl (lv_at hl 0 rfl) ?_
        refine va_get (D := (dC, dI)) (ci := 9) (v := .int 0) (C := "RangeCodersModel") (T := T_M) (N := 35) hx hb hg in_M hown hK hP 0 rfl rfl 10 (by decide) (hg _ k962) (fun _ h9 => h9) rfl d_M_bits_45 ?_
        refine lv_if_eq (tgt := 54) hx hb d_M_bits_48 (by decide) (fun c_6 => ?_) (fun c_6 => ?_)
        · refine lv_aload_n hx hb d_M_bits_54 rfl (lv_at hl 0 rfl) ?_
          refine va_get (D := (dC, dI)) (ci := 9) (v := .int (nI ki)) (C := "RangeCodersModel") (T := T_M) (N := 35) hx hb hg in_M hown hK hP 0 rfl rfl 7 (by decide) (hg _ k959) (fun _ h9 => h9) rfl d_M_bits_55 ?_
          refine lv_sipush (v := 600) hx hb d_M_bits_58 (by decide) ?_
          refine lv_icmp_ne (tgt := 67) hx hb d_M_bits_61 (by decide) (fun c_7 => ?_) (fun c_7 => ?_)
          · have hk6 : ki < 600 := nI_600 hki c_7
            refine lv_aload_n hx hb d_M_bits_67 rfl (lv_at hl 0 rfl) ?_
            refine lv_iload_n hx hb d_M_bits_68 rfl (lv_at hl 1 rfl) ?_
            refine lv_iload_n hx hb d_M_bits_69 rfl (lv_at hl 2 rfl) ?_
            refine my_cv (wr := [((g 4), .inl (cI, 600, .inl vIM)), ((g 5), .inl (cI, 600, .inl vIW))]) (va_runV (As := [.int (nI vv), .int (nI bb)]) (rest := []) ⟨hx, hb, hml, hown, hts⟩ (c_M_putValue1 l dC dI cI cM cO H.size o g fShift fModels (nI ki) 0 fCache fPend fOuts fIns fReads fBad fIR fAsk fBAsk fCode fRL fRR fX fWrites 0 vGoing vv bb Rg L bs (hb1) (hb2) (hvl) (hp) (hR6) (hG) (by omega)) (cwV 2 hts (my_gV k1143 k1145 ks39 k12 k1146) rfl rfl rfl (by decide +kernel) ⟨by rw [hR]; exact Nat.le_of_ble_eq_true rfl, by rw [hR]; exact Nat.le_of_ble_eq_true rfl⟩) (my_preV hK hN (hP.sub [0, 3] rfl) (hD.sub [0, 3] (by decide) rfl) 0 rfl rfl) rfl rfl hl.1 rfl (lv_room (Nat.le_of_ble_eq_true rfl)) d_M_bits_70 ⟨by rw [hR]; exact Nat.le_of_ble_eq_true rfl, by rw [hR]; exact Nat.le_of_ble_eq_true rfl⟩) hP hD hS hA [0, 3] [1, 2] rfl rfl (by decide) (by decide) (fun u9 H locs hw_70 hP hD hS => ?_)
            obtain ⟨v2_70, rfl⟩ : ∃ z, z = u9 := ⟨_, rfl⟩
            have hw_70 : gIs v2_70 (plS (Rg / 2 ^ bb * 1, L + Rg / 2 ^ bb * vv, bs)).2.2 := hw_70
            have hP : va_P (dC, dI) vwCl [((g 4), .inl (cI, 600, .inl vIM)), ((g 5), .inl (cI, 600, .inl vIW)), (o, .inr (9, mO g 1 fShift fModels (nI ki) 0 (lN (plS (Rg / 2 ^ bb * 1, L + Rg / 2 ^ bb * vv, bs)).2.1) (lN (plS (Rg / 2 ^ bb * 1, L + Rg / 2 ^ bb * vv, bs)).1) fCache fPend (nI (plS (Rg / 2 ^ bb * 1, L + Rg / 2 ^ bb * vv, bs)).2.2.length) fOuts fIns fReads fBad fIR fAsk fBAsk fCode fRL fRR fX fWrites 0)), ((g 6), .inl (cI, 9000, .inl v2_70))] H := hP
            have hD : va_D A [((g 4), .inl (cI, 600, .inl vIM)), ((g 5), .inl (cI, 600, .inl vIW)), (o, .inr (9, mO g 1 fShift fModels (nI ki) 0 (lN (plS (Rg / 2 ^ bb * 1, L + Rg / 2 ^ bb * vv, bs)).2.1) (lN (plS (Rg / 2 ^ bb * 1, L + Rg / 2 ^ bb * vv, bs)).1) fCache fPend (nI (plS (Rg / 2 ^ bb * 1, L + Rg / 2 ^ bb * vv, bs)).2.2.length) fOuts fIns fReads fBad fIR fAsk fBAsk fCode fRL fRR fX fWrites 0)), ((g 6), .inl (cI, 9000, .inl v2_70))] := hD
            refine lv_aload_n hx hb d_M_bits_73 rfl (lv_at hl 0 rfl) ?_
            refine lv_iload_n hx hb d_M_bits_74 rfl (lv_at hl 2 rfl) ?_
            refine lv_ineg hx hb d_M_bits_75 ?_
            refine lv_topi (fun v_8 ev_8 => ?_)
            refine lv_iload_n hx hb d_M_bits_76 rfl (lv_at hl 1 rfl) ?_
            refine my_ci (wr := [((g 6), .inl (cI, 9000, .inl v2_70))]) (va_runV (As := [.int v_8, .int (nI vv)]) (rest := []) ⟨hx, hb, hml, hown, hts⟩ (c_M_addItem l dC dI cI cM cO H.size o g 1 fShift fModels 0 (lN (plS (Rg / 2 ^ bb * 1, L + Rg / 2 ^ bb * vv, bs)).2.1) (lN (plS (Rg / 2 ^ bb * 1, L + Rg / 2 ^ bb * vv, bs)).1) fCache fPend (nI (plS (Rg / 2 ^ bb * 1, L + Rg / 2 ^ bb * vv, bs)).2.2.length) fOuts fIns fReads fBad fIR fAsk fBAsk fCode fRL fRR fX fWrites 0 vIM vIW ki v_8 (nI vv) (hk6)) (cwV 2 hts (my_gV k1135 k1137 ks38 k12 k1138) rfl rfl rfl (by decide +kernel) ⟨by rw [hR]; exact Nat.le_of_ble_eq_true rfl, by rw [hR]; exact Nat.le_of_ble_eq_true rfl⟩) (my_preV hK hN (hP.sub [2, 0, 1] rfl) (hD.sub [2, 0, 1] (by decide) rfl) 0 rfl rfl) rfl rfl hl.1 rfl (lv_room (Nat.le_of_ble_eq_true rfl)) d_M_bits_77 ⟨by rw [hR]; exact Nat.le_of_ble_eq_true rfl, by rw [hR]; exact Nat.le_of_ble_eq_true rfl⟩) hP hD hS hA [2, 0, 1] [3] rfl rfl (by decide) (by decide) (fun r_77 u9 H locs hw_77 hP hD hS => ?_)
            obtain ⟨f2_77, v2_77⟩ := u9
            have hw_77 : r_77 = nI (ki + 1) ∧ f2_77 = upd vIM ki v_8 ∧ v2_77 = upd vIW ki (nI vv) := hw_77
            have hP : va_P (dC, dI) vwCl [((g 6), .inl (cI, 9000, .inl v2_70)), (o, .inr (9, mO g 1 fShift fModels (nI (ki + 1)) 0 (lN (plS (Rg / 2 ^ bb * 1, L + Rg / 2 ^ bb * vv, bs)).2.1) (lN (plS (Rg / 2 ^ bb * 1, L + Rg / 2 ^ bb * vv, bs)).1) fCache fPend (nI (plS (Rg / 2 ^ bb * 1, L + Rg / 2 ^ bb * vv, bs)).2.2.length) fOuts fIns fReads fBad fIR fAsk fBAsk fCode fRL fRR fX fWrites 0)), ((g 4), .inl (cI, 600, .inl f2_77)), ((g 5), .inl (cI, 600, .inl v2_77))] H := hP
            have hD : va_D A [((g 6), .inl (cI, 9000, .inl v2_70)), (o, .inr (9, mO g 1 fShift fModels (nI (ki + 1)) 0 (lN (plS (Rg / 2 ^ bb * 1, L + Rg / 2 ^ bb * vv, bs)).2.1) (lN (plS (Rg / 2 ^ bb * 1, L + Rg / 2 ^ bb * vv, bs)).1) fCache fPend (nI (plS (Rg / 2 ^ bb * 1, L + Rg / 2 ^ bb * vv, bs)).2.2.length) fOuts fIns fReads fBad fIR fAsk fBAsk fCode fRL fRR fX fWrites 0)), ((g 4), .inl (cI, 600, .inl f2_77)), ((g 5), .inl (cI, 600, .inl v2_77))] := hD
            have hq9 := pl_inv (bs := bs) (pOk_nr hp hp2 (show vv + 1 ≤ 2 ^ bb by omega) (by decide) (by omega))
            exact my_iret (v := r_77) hx hb hr (rfl) hlocks hQ hK hS (Nat.le_refl _) (Nat.le_refl _) (nI (ki + 1), (lN (plS (Rg / 2 ^ bb * 1, L + Rg / 2 ^ bb * vv, bs)).2.1), (lN (plS (Rg / 2 ^ bb * 1, L + Rg / 2 ^ bb * vv, bs)).1), (nI (plS (Rg / 2 ^ bb * 1, L + Rg / 2 ^ bb * vv, bs)).2.2.length), (0 : Int32), f2_77, v2_77, v2_70) (MI1_of hk6 hq9.1 hq9.2.1 (oct_pl ho) hw_70 (by omega)) (hP.sub [1, 2, 3, 0] rfl) (hD.sub [1, 2, 3, 0] (by decide) rfl) d_M_bits_80
          · refine lv_bipush (v := (-4)) hx hb d_M_bits_64 (by decide) ?_
            exact my_iret (v := (-4)) hx hb hr (rfl) hlocks hQ hK hS (Nat.le_refl _) (Nat.le_refl _) ((nI ki), (lN L), (lN Rg), (nI bs.length), (0 : Int32), vIM, vIW, vGoing) (⟨ki, hki, rfl, Rg, L, bs, rfl, rfl, rfl, hp, hR6, hG, ho, hlb⟩) (hP.sub [0, 1, 2, 3] rfl) (hD.sub [0, 1, 2, 3] (by decide) rfl) d_M_bits_66
        · exact absurd (by decide) c_6
      · refine lv_bipush (v := (-2)) hx hb d_M_bits_41 (by decide) ?_
        exact my_iret (v := (-2)) hx hb hr (rfl) hlocks hQ hK hS (Nat.le_refl _) (Nat.le_refl _) ((nI ki), (lN L), (lN Rg), (nI bs.length), (0 : Int32), vIM, vIW, vGoing) (⟨ki, hki, rfl, Rg, L, bs, rfl, rfl, rfl, hp, hR6, hG, ho, hlb⟩) (hP.sub [0, 1, 2, 3] rfl) (hD.sub [0, 1, 2, 3] (by decide) rfl) d_M_bits_43
  · exact absurd c_1 (by decide)
set_option maxHeartbeats 2000000 in
set_option maxRecDepth 100000 in
theorem c_M_bits2 (l : Launch) (dC : Nat → ClassId) (dI : Nat → Nat → Nat) (cI cM cO : ClassId) (sz : Nat) (o : Nat) (g : Nat → Nat) (fForm : Int32) (fShift : Int32) (fModels : Int32) (fItems : Int32) (fEnded : Int32) (fLow : Int64) (fRange : Int64) (fCache : Int32) (fPend : Int32) (fGoes : Int32) (fOuts : Int32) (fIns : Int32) (fReads : Int32) (fBad : Int32) (fIR : Int32) (fAsk : Int32) (fBAsk : Int32) (fCode : Int64) (fRL : Int64) (fRR : Int64) (fX : Int64) (fWrites : Int32) (fThrown : Int32) (vIM : Nat → Int32) (vIW : Nat → Int32) (vGoing : Nat → Int32) (p1 : Int32) (p2 : Int32) (hfo : fForm = 2) (hen : fEnded = 0) (hI : MI0 fItems fLow fRange fCache fPend fGoes vGoing) : MetI l y_M_bits (Cond.code y_M_bits prog_14_method_30_code 3 (some .int) :: gw) ({ frames := 4, cells := 0, slots := 0, locals := 85 } : Room) (dC, dI) vwCl (kT cI cM cO) [.ref o, .int p1, .int p2] [(o, .inr (9, mO g fForm fShift fModels fItems fEnded fLow fRange fCache fPend fGoes fOuts fIns fReads fBad fIR fAsk fBAsk fCode fRL fRR fX fWrites fThrown)), ((g 4), .inl (cI, 600, .inl vIM)), ((g 5), .inl (cI, 600, .inl vIW)), ((g 6), .inl (cI, 9000, .inl vGoing))] sz (fun (r : Int32) (u : Int32 × Int64 × Int64 × Int32 × Int32 × Int32 × Int32 × (Nat → Int32) × (Nat → Int32) × (Nat → Int32)) => MI0 u.1 u.2.1 u.2.2.1 u.2.2.2.1 u.2.2.2.2.1 u.2.2.2.2.2.1 u.2.2.2.2.2.2.2.2.2) (fun (u : Int32 × Int64 × Int64 × Int32 × Int32 × Int32 × Int32 × (Nat → Int32) × (Nat → Int32) × (Nat → Int32)) => [(o, .inr (9, mO g fForm fShift fModels u.1 fEnded u.2.1 u.2.2.1 u.2.2.2.1 u.2.2.2.2.1 u.2.2.2.2.2.1 fOuts fIns fReads fBad fIR fAsk fBAsk fCode fRL fRR fX fWrites u.2.2.2.2.2.2.1)), ((g 4), .inl (cI, 600, .inl u.2.2.2.2.2.2.2.1)), ((g 5), .inl (cI, 600, .inl u.2.2.2.2.2.2.2.2.1)), ((g 6), .inl (cI, 9000, .inl u.2.2.2.2.2.2.2.2.2))]) 0 0 := by
  refine my_ofI (cc := prog_14_method_30_code) (n := 3) (ret := (some .int)) (by decide) rfl (Nat.le_of_ble_eq_true rfl) ?_
  intro p e s m args below meth c R Q A ls H locs hx hb hr hts hown hlocks hml hnm hR hQ hA hl hP hK hN hD hS
  have hg : ∀ w ∈ gw, w.before args s = true := fun w h => hts w (List.mem_cons_of_mem _ h)
  have hown : s.vm.findClass "RangeCodersModel" = some m.cls := hown
  have hl : lv_has ls 3 [(0, .ref o), (1, .int p1), (2, .int p2)] := hl
  subst hfo
  subst hen
  obtain ⟨ki, hki, rfl, Rg, L, ca, Pn, bs, rfl, rfl, rfl, rfl, rfl, hE, hG, ho, hlb⟩ := hI
  have hP : va_P (dC, dI) vwCl [(o, .inr (9, mO g 2 fShift fModels (nI ki) 0 (lN L) (lN Rg) (caI ca) (nI Pn) (nI bs.length) fOuts fIns fReads fBad fIR fAsk fBAsk fCode fRL fRR fX fWrites fThrown)), ((g 4), .inl (cI, 600, .inl vIM)), ((g 5), .inl (cI, 600, .inl vIW)), ((g 6), .inl (cI, 9000, .inl vGoing))] H := hP
  have hD : va_D A [(o, .inr (9, mO g 2 fShift fModels (nI ki) 0 (lN L) (lN Rg) (caI ca) (nI Pn) (nI bs.length) fOuts fIns fReads fBad fIR fAsk fBAsk fCode fRL fRR fX fWrites fThrown)), ((g 4), .inl (cI, 600, .inl vIM)), ((g 5), .inl (cI, 600, .inl vIW)), ((g 6), .inl (cI, 9000, .inl vGoing))] := hD
  have hl : lv_has ls 3 [(0, .ref o), (1, .int p1), (2, .int p2)] := hl
  refine lv_aload_n hx hb d_M_bits_0 rfl (lv_at hl 0 rfl) ?_
  refine lv_iconst (v := 0) hx hb d_M_bits_1 (by decide) ?_
  refine va_put (D := (dC, dI)) (ci := 9) (v := .int 0) (ty := .int) (C := "RangeCodersModel") (T := T_M) (N := 35) hx hb hg in_M t_M o_M n_M hown hK hP hD hS 0 rfl rfl 34 (by decide) (hg _ k986) (fun _ h9 => h9) rfl (by decide +kernel) rfl rfl (Nat.le_of_ble_eq_true rfl) d_M_bits_2 (fun H locs hP hD hS => ?_)
  have hP : va_P (dC, dI) vwCl [(o, .inr (9, mO g 2 fShift fModels (nI ki) 0 (lN L) (lN Rg) (caI ca) (nI Pn) (nI bs.length) fOuts fIns fReads fBad fIR fAsk fBAsk fCode fRL fRR fX fWrites 0)), ((g 4), .inl (cI, 600, .inl vIM)), ((g 5), .inl (cI, 600, .inl vIW)), ((g 6), .inl (cI, 9000, .inl vGoing))] H := hP
  have hD : va_D A [(o, .inr (9, mO g 2 fShift fModels (nI ki) 0 (lN L) (lN Rg) (caI ca) (nI Pn) (nI bs.length) fOuts fIns fReads fBad fIR fAsk fBAsk fCode fRL fRR fX fWrites 0)), ((g 4), .inl (cI, 600, .inl vIM)), ((g 5), .inl (cI, 600, .inl vIW)), ((g 6), .inl (cI, 9000, .inl vGoing))] := hD
  refine lv_iload_n hx hb d_M_bits_5 rfl (lv_at hl 2 rfl) ?_
  refine lv_iconst (v := 1) hx hb d_M_bits_6 (by decide) ?_
  refine lv_aload_n hx hb d_M_bits_7 rfl (lv_at hl 0 rfl) ?_
  refine va_get (D := (dC, dI)) (ci := 9) (v := .int 2) (C := "RangeCodersModel") (T := T_M) (N := 35) hx hb hg in_M hown hK hP 0 rfl rfl 0 (by decide) (hg _ k952) (fun _ h9 => h9) rfl d_M_bits_8 ?_
  refine lv_iconst (v := 4) hx hb d_M_bits_11 (by decide) ?_
  refine lv_icmp_ne (tgt := 20) hx hb d_M_bits_12 (by decide) (fun c_1 => ?_) (fun c_1 => ?_)
  · refine lv_bipush (v := 12) hx hb d_M_bits_20 (by decide) ?_
    refine my_ci (wr := [(o, .inr (9, mO g 2 fShift fModels (nI ki) 0 (lN L) (lN Rg) (caI ca) (nI Pn) (nI bs.length) fOuts fIns fReads fBad fIR fAsk fBAsk fCode fRL fRR fX fWrites 0)), ((g 4), .inl (cI, 600, .inl vIM)), ((g 5), .inl (cI, 600, .inl vIW)), ((g 6), .inl (cI, 9000, .inl vGoing))]) (va_runS (As := [.int p2, .int 1, .int 12]) (rest := []) ⟨hx, hb, hml, hown, hts⟩ (c_M_in l dC dI cI cM cO H.size p2 1 12) (cwS 3 hts (my_gS k1062 k1063 k12 k1064) rfl rfl rfl (by decide +kernel) ⟨by rw [hR]; exact Nat.le_of_ble_eq_true rfl, by rw [hR]; exact Nat.le_of_ble_eq_true rfl⟩) (my_pre hK hN (hP.sub [] rfl) (hD.sub [] (by decide) rfl)) rfl rfl hl.1 rfl (lv_room (Nat.le_of_ble_eq_true rfl)) d_M_bits_22 ⟨by rw [hR]; exact Nat.le_of_ble_eq_true rfl, by rw [hR]; exact Nat.le_of_ble_eq_true rfl⟩) hP hD hS hA [] [0, 1, 2, 3] rfl rfl (by decide) (by decide) (fun r_22 u9 H locs hw_22 hP hD hS => ?_)
    have hw_22 : r_22 = if 1 ≤ p2 ∧ p2 ≤ 12 then 1 else 0 := hw_22
    have hP : va_P (dC, dI) vwCl [(o, .inr (9, mO g 2 fShift fModels (nI ki) 0 (lN L) (lN Rg) (caI ca) (nI Pn) (nI bs.length) fOuts fIns fReads fBad fIR fAsk fBAsk fCode fRL fRR fX fWrites 0)), ((g 4), .inl (cI, 600, .inl vIM)), ((g 5), .inl (cI, 600, .inl vIW)), ((g 6), .inl (cI, 9000, .inl vGoing))] H := hP
    have hD : va_D A [(o, .inr (9, mO g 2 fShift fModels (nI ki) 0 (lN L) (lN Rg) (caI ca) (nI Pn) (nI bs.length) fOuts fIns fReads fBad fIR fAsk fBAsk fCode fRL fRR fX fWrites 0)), ((g 4), .inl (cI, 600, .inl vIM)), ((g 5), .inl (cI, 600, .inl vIW)), ((g 6), .inl (cI, 9000, .inl vGoing))] := hD
    refine lv_if_eq (tgt := 41) hx hb d_M_bits_25 (by decide) (fun c_2 => ?_) (fun c_2 => ?_)
    · refine lv_bipush (v := (-2)) hx hb d_M_bits_41 (by decide) ?_
      exact my_iret (v := (-2)) hx hb hr (rfl) hlocks hQ hK hS (Nat.le_refl _) (Nat.le_refl _) ((nI ki), (lN L), (lN Rg), (caI ca), (nI Pn), (nI bs.length), (0 : Int32), vIM, vIW, vGoing) (⟨ki, hki, rfl, Rg, L, ca, Pn, bs, rfl, rfl, rfl, rfl, rfl, hE, hG, ho, hlb⟩) (hP.sub [0, 1, 2, 3] rfl) (hD.sub [0, 1, 2, 3] (by decide) rfl) d_M_bits_43
    · obtain ⟨bb, hb1, hb2, eb⟩ := in_of2 (a := 1) (b := 12) (by decide) (by decide) (one_ne hw_22 c_2)
      subst eb
      refine lv_iload_n hx hb d_M_bits_28 rfl (lv_at hl 1 rfl) ?_
      refine lv_iconst (v := 0) hx hb d_M_bits_29 (by decide) ?_
      refine lv_iconst (v := 1) hx hb d_M_bits_30 (by decide) ?_
      refine lv_iload_n hx hb d_M_bits_31 rfl (lv_at hl 2 rfl) ?_
      refine lv_ishl hx hb d_M_bits_32 ?_
      refine lv_topi (fun v_3 ev_3 => ?_)
      have z9 : v_3 = nI (2 ^ bb) := by rw [ev_3]; exact shl1 _ (by omega)
      subst z9
      refine lv_iconst (v := 1) hx hb d_M_bits_33 (by decide) ?_
      refine lv_isub hx hb d_M_bits_34 ?_
      refine lv_topi (fun v_4 ev_4 => ?_)
      have z9 : v_4 = nI (2 ^ bb - 1) := by rw [ev_4]; exact nI_pred9 (Nat.two_pow_pos _)
      subst z9
      refine my_ci (wr := [(o, .inr (9, mO g 2 fShift fModels (nI ki) 0 (lN L) (lN Rg) (caI ca) (nI Pn) (nI bs.length) fOuts fIns fReads fBad fIR fAsk fBAsk fCode fRL fRR fX fWrites 0)), ((g 4), .inl (cI, 600, .inl vIM)), ((g 5), .inl (cI, 600, .inl vIW)), ((g 6), .inl (cI, 9000, .inl vGoing))]) (va_runS (As := [.int p1, .int 0, .int (nI (2 ^ bb - 1))]) (rest := []) ⟨hx, hb, hml, hown, hts⟩ (c_M_in l dC dI cI cM cO H.size p1 0 (nI (2 ^ bb - 1))) (cwS 3 hts (my_gS k1062 k1063 k12 k1064) rfl rfl rfl (by decide +kernel) ⟨by rw [hR]; exact Nat.le_of_ble_eq_true rfl, by rw [hR]; exact Nat.le_of_ble_eq_true rfl⟩) (my_pre hK hN (hP.sub [] rfl) (hD.sub [] (by decide) rfl)) rfl rfl hl.1 rfl (lv_room (Nat.le_of_ble_eq_true rfl)) d_M_bits_35 ⟨by rw [hR]; exact Nat.le_of_ble_eq_true rfl, by rw [hR]; exact Nat.le_of_ble_eq_true rfl⟩) hP hD hS hA [] [0, 1, 2, 3] rfl rfl (by decide) (by decide) (fun r_35 u9 H locs hw_35 hP hD hS => ?_)
      have hw_35 : r_35 = if 0 ≤ p1 ∧ p1 ≤ (nI (2 ^ bb - 1)) then 1 else 0 := hw_35
      have hP : va_P (dC, dI) vwCl [(o, .inr (9, mO g 2 fShift fModels (nI ki) 0 (lN L) (lN Rg) (caI ca) (nI Pn) (nI bs.length) fOuts fIns fReads fBad fIR fAsk fBAsk fCode fRL fRR fX fWrites 0)), ((g 4), .inl (cI, 600, .inl vIM)), ((g 5), .inl (cI, 600, .inl vIW)), ((g 6), .inl (cI, 9000, .inl vGoing))] H := hP
      have hD : va_D A [(o, .inr (9, mO g 2 fShift fModels (nI ki) 0 (lN L) (lN Rg) (caI ca) (nI Pn) (nI bs.length) fOuts fIns fReads fBad fIR fAsk fBAsk fCode fRL fRR fX fWrites 0)), ((g 4), .inl (cI, 600, .inl vIM)), ((g 5), .inl (cI, 600, .inl vIW)), ((g 6), .inl (cI, 9000, .inl vGoing))] := hD
      refine lv_if_ne (tgt := 44) hx hb d_M_bits_38 (by decide) (fun c_5 => ?_) (fun c_5 => ?_)
      · obtain ⟨vv, -, hv9, ev9⟩ := in_of2 (a := 0) (b := 2 ^ bb - 1) (by decide) (by have := pw12 (show bb ≤ 12 by omega); omega) (one_ne hw_35 c_5)
        subst ev9
        have hp2 := Nat.two_pow_pos bb
        have hvl : vv < 2 ^ bb := by omega
        have hp12 := pw12 (show bb ≤ 12 by omega)
        refine lv_aload_n hx hb d_M_bits_44 rfl (lv_at hl 0 rfl) ?_
        refine va_get (D := (dC, dI)) (ci := 9) (v := .int 0) (C := "RangeCodersModel") (T := T_M) (N := 35) hx hb hg in_M hown hK hP 0 rfl rfl 10 (by decide) (hg _ k962) (fun _ h9 => h9) rfl d_M_bits_45 ?_
        refine lv_if_eq (tgt := 54) hx hb d_M_bits_48 (by decide) (fun c_6 => ?_) (fun c_6 => ?_)
        · refine lv_aload_n hx hb d_M_bits_54 rfl (lv_at hl 0 rfl) ?_
          refine va_get (D := (dC, dI)) (ci := 9) (v := .int (nI ki)) (C := "RangeCodersModel") (T := T_M) (N := 35) hx hb hg in_M hown hK hP 0 rfl rfl 7 (by decide) (hg _ k959) (fun _ h9 => h9) rfl d_M_bits_55 ?_
          refine lv_sipush (v := 600) hx hb d_M_bits_58 (by decide) ?_
          refine lv_icmp_ne (tgt := 67) hx hb d_M_bits_61 (by decide) (fun c_7 => ?_) (fun c_7 => ?_)
          · have hk6 : ki < 600 := nI_600 hki c_7
            refine lv_aload_n hx hb d_M_bits_67 rfl (lv_at hl 0 rfl) ?_
            refine lv_iload_n hx hb d_M_bits_68 rfl (lv_at hl 1 rfl) ?_
            refine lv_iload_n hx hb d_M_bits_69 rfl (lv_at hl 2 rfl) ?_
            refine my_cv (wr := [((g 4), .inl (cI, 600, .inl vIM)), ((g 5), .inl (cI, 600, .inl vIW))]) (va_runV (As := [.int (nI vv), .int (nI bb)]) (rest := []) ⟨hx, hb, hml, hown, hts⟩ (c_M_putValue2 l dC dI cI cM cO H.size o g fShift fModels (nI ki) 0 fOuts fIns fReads fBad fIR fAsk fBAsk fCode fRL fRR fX fWrites 0 vGoing vv bb Rg L ca Pn bs (hb1) (hb2) (by omega) (hE) (hG) (by omega)) (cwV 2 hts (my_gV k1143 k1145 ks39 k12 k1146) rfl rfl rfl (by decide +kernel) ⟨by rw [hR]; exact Nat.le_of_ble_eq_true rfl, by rw [hR]; exact Nat.le_of_ble_eq_true rfl⟩) (my_preV hK hN (hP.sub [0, 3] rfl) (hD.sub [0, 3] (by decide) rfl) 0 rfl rfl) rfl rfl hl.1 rfl (lv_room (Nat.le_of_ble_eq_true rfl)) d_M_bits_70 ⟨by rw [hR]; exact Nat.le_of_ble_eq_true rfl, by rw [hR]; exact Nat.le_of_ble_eq_true rfl⟩) hP hD hS hA [0, 3] [1, 2] rfl rfl (by decide) (by decide) (fun u9 H locs hw_70 hP hD hS => ?_)
            obtain ⟨v2_70, rfl⟩ : ∃ z, z = u9 := ⟨_, rfl⟩
            have hw_70 : gIs v2_70 (eB (vbN vv bb (Rg, L, ca, Pn, bs))) := hw_70
            have hP : va_P (dC, dI) vwCl [((g 4), .inl (cI, 600, .inl vIM)), ((g 5), .inl (cI, 600, .inl vIW)), (o, .inr (9, mO g 2 fShift fModels (nI ki) 0 (lN (eL (vbN vv bb (Rg, L, ca, Pn, bs)))) (lN (eR (vbN vv bb (Rg, L, ca, Pn, bs)))) (caI (eC (vbN vv bb (Rg, L, ca, Pn, bs)))) (nI (eP (vbN vv bb (Rg, L, ca, Pn, bs)))) (nI (eB (vbN vv bb (Rg, L, ca, Pn, bs))).length) fOuts fIns fReads fBad fIR fAsk fBAsk fCode fRL fRR fX fWrites 0)), ((g 6), .inl (cI, 9000, .inl v2_70))] H := hP
            have hD : va_D A [((g 4), .inl (cI, 600, .inl vIM)), ((g 5), .inl (cI, 600, .inl vIW)), (o, .inr (9, mO g 2 fShift fModels (nI ki) 0 (lN (eL (vbN vv bb (Rg, L, ca, Pn, bs)))) (lN (eR (vbN vv bb (Rg, L, ca, Pn, bs)))) (caI (eC (vbN vv bb (Rg, L, ca, Pn, bs)))) (nI (eP (vbN vv bb (Rg, L, ca, Pn, bs)))) (nI (eB (vbN vv bb (Rg, L, ca, Pn, bs))).length) fOuts fIns fReads fBad fIR fAsk fBAsk fCode fRL fRR fX fWrites 0)), ((g 6), .inl (cI, 9000, .inl v2_70))] := hD
            refine lv_aload_n hx hb d_M_bits_73 rfl (lv_at hl 0 rfl) ?_
            refine lv_iload_n hx hb d_M_bits_74 rfl (lv_at hl 2 rfl) ?_
            refine lv_ineg hx hb d_M_bits_75 ?_
            refine lv_topi (fun v_8 ev_8 => ?_)
            refine lv_iload_n hx hb d_M_bits_76 rfl (lv_at hl 1 rfl) ?_
            refine my_ci (wr := [((g 6), .inl (cI, 9000, .inl v2_70))]) (va_runV (As := [.int v_8, .int (nI vv)]) (rest := []) ⟨hx, hb, hml, hown, hts⟩ (c_M_addItem l dC dI cI cM cO H.size o g 2 fShift fModels 0 (lN (eL (vbN vv bb (Rg, L, ca, Pn, bs)))) (lN (eR (vbN vv bb (Rg, L, ca, Pn, bs)))) (caI (eC (vbN vv bb (Rg, L, ca, Pn, bs)))) (nI (eP (vbN vv bb (Rg, L, ca, Pn, bs)))) (nI (eB (vbN vv bb (Rg, L, ca, Pn, bs))).length) fOuts fIns fReads fBad fIR fAsk fBAsk fCode fRL fRR fX fWrites 0 vIM vIW ki v_8 (nI vv) (hk6)) (cwV 2 hts (my_gV k1135 k1137 ks38 k12 k1138) rfl rfl rfl (by decide +kernel) ⟨by rw [hR]; exact Nat.le_of_ble_eq_true rfl, by rw [hR]; exact Nat.le_of_ble_eq_true rfl⟩) (my_preV hK hN (hP.sub [2, 0, 1] rfl) (hD.sub [2, 0, 1] (by decide) rfl) 0 rfl rfl) rfl rfl hl.1 rfl (lv_room (Nat.le_of_ble_eq_true rfl)) d_M_bits_77 ⟨by rw [hR]; exact Nat.le_of_ble_eq_true rfl, by rw [hR]; exact Nat.le_of_ble_eq_true rfl⟩) hP hD hS hA [2, 0, 1] [3] rfl rfl (by decide) (by decide) (fun r_77 u9 H locs hw_77 hP hD hS => ?_)
            obtain ⟨f2_77, v2_77⟩ := u9
            have hw_77 : r_77 = nI (ki + 1) ∧ f2_77 = upd vIM ki v_8 ∧ v2_77 = upd vIW ki (nI vv) := hw_77
            have hP : va_P (dC, dI) vwCl [((g 6), .inl (cI, 9000, .inl v2_70)), (o, .inr (9, mO g 2 fShift fModels (nI (ki + 1)) 0 (lN (eL (vbN vv bb (Rg, L, ca, Pn, bs)))) (lN (eR (vbN vv bb (Rg, L, ca, Pn, bs)))) (caI (eC (vbN vv bb (Rg, L, ca, Pn, bs)))) (nI (eP (vbN vv bb (Rg, L, ca, Pn, bs)))) (nI (eB (vbN vv bb (Rg, L, ca, Pn, bs))).length) fOuts fIns fReads fBad fIR fAsk fBAsk fCode fRL fRR fX fWrites 0)), ((g 4), .inl (cI, 600, .inl f2_77)), ((g 5), .inl (cI, 600, .inl v2_77))] H := hP
            have hD : va_D A [((g 6), .inl (cI, 9000, .inl v2_70)), (o, .inr (9, mO g 2 fShift fModels (nI (ki + 1)) 0 (lN (eL (vbN vv bb (Rg, L, ca, Pn, bs)))) (lN (eR (vbN vv bb (Rg, L, ca, Pn, bs)))) (caI (eC (vbN vv bb (Rg, L, ca, Pn, bs)))) (nI (eP (vbN vv bb (Rg, L, ca, Pn, bs)))) (nI (eB (vbN vv bb (Rg, L, ca, Pn, bs))).length) fOuts fIns fReads fBad fIR fAsk fBAsk fCode fRL fRR fX fWrites 0)), ((g 4), .inl (cI, 600, .inl f2_77)), ((g 5), .inl (cI, 600, .inl v2_77))] := hD
            have hq9 := vb_all vv bb (Rg, L, ca, Pn, bs) hE ho
            exact my_iret (v := r_77) hx hb hr (rfl) hlocks hQ hK hS (Nat.le_refl _) (Nat.le_refl _) (nI (ki + 1), (lN (eL (vbN vv bb (Rg, L, ca, Pn, bs)))), (lN (eR (vbN vv bb (Rg, L, ca, Pn, bs)))), (caI (eC (vbN vv bb (Rg, L, ca, Pn, bs)))), (nI (eP (vbN vv bb (Rg, L, ca, Pn, bs)))), (nI (eB (vbN vv bb (Rg, L, ca, Pn, bs))).length), (0 : Int32), f2_77, v2_77, v2_70) (MI0_of hk6 hq9.1 hq9.2.2 hw_70 (Nat.le_trans hq9.2.1 (show bs.length + Pn + 1 + bb ≤ 12 * ki + 13 by omega))) (hP.sub [1, 2, 3, 0] rfl) (hD.sub [1, 2, 3, 0] (by decide) rfl) d_M_bits_80
          · refine lv_bipush (v := (-4)) hx hb d_M_bits_64 (by decide) ?_
            exact my_iret (v := (-4)) hx hb hr (rfl) hlocks hQ hK hS (Nat.le_refl _) (Nat.le_refl _) ((nI ki), (lN L), (lN Rg), (caI ca), (nI Pn), (nI bs.length), (0 : Int32), vIM, vIW, vGoing) (⟨ki, hki, rfl, Rg, L, ca, Pn, bs, rfl, rfl, rfl, rfl, rfl, hE, hG, ho, hlb⟩) (hP.sub [0, 1, 2, 3] rfl) (hD.sub [0, 1, 2, 3] (by decide) rfl) d_M_bits_66
        · exact absurd (by decide) c_6
      · refine lv_bipush (v := (-2)) hx hb d_M_bits_41 (by decide) ?_
        exact my_iret (v := (-2)) hx hb hr (rfl) hlocks hQ hK hS (Nat.le_refl _) (Nat.le_refl _) ((nI ki), (lN L), (lN Rg), (caI ca), (nI Pn), (nI bs.length), (0 : Int32), vIM, vIW, vGoing) (⟨ki, hki, rfl, Rg, L, ca, Pn, bs, rfl, rfl, rfl, rfl, rfl, hE, hG, ho, hlb⟩) (hP.sub [0, 1, 2, 3] rfl) (hD.sub [0, 1, 2, 3] (by decide) rfl) d_M_bits_43
  · exact absurd c_1 (by decide)
set_option maxHeartbeats 2000000 in
set_option maxRecDepth 100000 in
theorem c_M_bitsE (l : Launch) (dC : Nat → ClassId) (dI : Nat → Nat → Nat) (cI cM cO : ClassId) (sz : Nat) (o : Nat) (g : Nat → Nat) (fForm : Int32) (fShift : Int32) (fModels : Int32) (fItems : Int32) (fEnded : Int32) (fLow : Int64) (fRange : Int64) (fCache : Int32) (fPend : Int32) (fGoes : Int32) (fOuts : Int32) (fIns : Int32) (fReads : Int32) (fBad : Int32) (fIR : Int32) (fAsk : Int32) (fBAsk : Int32) (fCode : Int64) (fRL : Int64) (fRR : Int64) (fX : Int64) (fWrites : Int32) (fThrown : Int32) (p1 : Int32) (p2 : Int32) (hen : ¬ fEnded = 0) : MetI l y_M_bits (Cond.code y_M_bits prog_14_method_30_code 3 (some .int) :: gw) ({ frames := 1, cells := 0, slots := 0, locals := 22 } : Room) (dC, dI) vwCl (kT cI cM cO) [.ref o, .int p1, .int p2] [(o, .inr (9, mO g fForm fShift fModels fItems fEnded fLow fRange fCache fPend fGoes fOuts fIns fReads fBad fIR fAsk fBAsk fCode fRL fRR fX fWrites fThrown))] sz (fun (r : Int32) (u : Int32) => True) (fun (u : Int32) => [(o, .inr (9, mO g fForm fShift fModels fItems fEnded fLow fRange fCache fPend fGoes fOuts fIns fReads fBad fIR fAsk fBAsk fCode fRL fRR fX fWrites u))]) 0 0 := by
  refine my_ofI (cc := prog_14_method_30_code) (n := 3) (ret := (some .int)) (by decide) rfl (Nat.le_of_ble_eq_true rfl) ?_
  intro p e s m args below meth c R Q A ls H locs hx hb hr hts hown hlocks hml hnm hR hQ hA hl hP hK hN hD hS
  have hg : ∀ w ∈ gw, w.before args s = true := fun w h => hts w (List.mem_cons_of_mem _ h)
  have hown : s.vm.findClass "RangeCodersModel" = some m.cls := hown
  have hl : lv_has ls 3 [(0, .ref o), (1, .int p1), (2, .int p2)] := hl
  refine lv_aload_n hx hb d_M_bits_0 rfl (lv_at hl 0 rfl) ?_
  refine lv_iconst (v := 0) hx hb d_M_bits_1 (by decide) ?_
  refine va_put (D := (dC, dI)) (ci := 9) (v := .int 0) (ty := .int) (C := "RangeCodersModel") (T := T_M) (N := 35) hx hb hg in_M t_M o_M n_M hown hK hP hD hS 0 rfl rfl 34 (by decide) (hg _ k986) (fun _ h9 => h9) rfl (by decide +kernel) rfl rfl (Nat.le_of_ble_eq_true rfl) d_M_bits_2 (fun H locs hP hD hS => ?_)
  have hP : va_P (dC, dI) vwCl [(o, .inr (9, mO g fForm fShift fModels fItems fEnded fLow fRange fCache fPend fGoes fOuts fIns fReads fBad fIR fAsk fBAsk fCode fRL fRR fX fWrites 0))] H := hP
  have hD : va_D A [(o, .inr (9, mO g fForm fShift fModels fItems fEnded fLow fRange fCache fPend fGoes fOuts fIns fReads fBad fIR fAsk fBAsk fCode fRL fRR fX fWrites 0))] := hD
  refine lv_iload_n hx hb d_M_bits_5 rfl (lv_at hl 2 rfl) ?_
  refine lv_iconst (v := 1) hx hb d_M_bits_6 (by decide) ?_
  refine lv_aload_n hx hb d_M_bits_7 rfl (lv_at hl 0 rfl) ?_
  refine va_get (D := (dC, dI)) (ci := 9) (v := .int fForm) (C := "RangeCodersModel") (T := T_M) (N := 35) hx hb hg in_M hown hK hP 0 rfl rfl 0 (by decide) (hg _ k952) (fun _ h9 => h9) rfl d_M_bits_8 ?_
  refine lv_iconst (v := 4) hx hb d_M_bits_11 (by decide) ?_
  refine lv_icmp_ne (tgt := 20) hx hb d_M_bits_12 (by decide) (fun c_1 => ?_) (fun c_1 => ?_)
  · refine lv_bipush (v := 12) hx hb d_M_bits_20 (by decide) ?_
    refine my_ci (wr := [(o, .inr (9, mO g fForm fShift fModels fItems fEnded fLow fRange fCache fPend fGoes fOuts fIns fReads fBad fIR fAsk fBAsk fCode fRL fRR fX fWrites 0))]) (va_runS (As := [.int p2, .int 1, .int 12]) (rest := []) ⟨hx, hb, hml, hown, hts⟩ (c_M_in l dC dI cI cM cO H.size p2 1 12) (cwS 3 hts (my_gS k1062 k1063 k12 k1064) rfl rfl rfl (by decide +kernel) ⟨by rw [hR]; exact Nat.le_of_ble_eq_true rfl, by rw [hR]; exact Nat.le_of_ble_eq_true rfl⟩) (my_pre hK hN (hP.sub [] rfl) (hD.sub [] (by decide) rfl)) rfl rfl hl.1 rfl (lv_room (Nat.le_of_ble_eq_true rfl)) d_M_bits_22 ⟨by rw [hR]; exact Nat.le_of_ble_eq_true rfl, by rw [hR]; exact Nat.le_of_ble_eq_true rfl⟩) hP hD hS hA [] [0] rfl rfl (by decide) (by decide) (fun r_22 u9 H locs hw_22 hP hD hS => ?_)
    have hw_22 : r_22 = if 1 ≤ p2 ∧ p2 ≤ 12 then 1 else 0 := hw_22
    have hP : va_P (dC, dI) vwCl [(o, .inr (9, mO g fForm fShift fModels fItems fEnded fLow fRange fCache fPend fGoes fOuts fIns fReads fBad fIR fAsk fBAsk fCode fRL fRR fX fWrites 0))] H := hP
    have hD : va_D A [(o, .inr (9, mO g fForm fShift fModels fItems fEnded fLow fRange fCache fPend fGoes fOuts fIns fReads fBad fIR fAsk fBAsk fCode fRL fRR fX fWrites 0))] := hD
    refine lv_if_eq (tgt := 41) hx hb d_M_bits_25 (by decide) (fun c_2 => ?_) (fun c_2 => ?_)
    · refine lv_bipush (v := (-2)) hx hb d_M_bits_41 (by decide) ?_
      exact my_iret (v := (-2)) hx hb hr (rfl) hlocks hQ hK hS (Nat.le_refl _) (Nat.le_refl _) ((0 : Int32)) (trivial) (hP.sub [0] rfl) (hD.sub [0] (by decide) rfl) d_M_bits_43
    · refine lv_iload_n hx hb d_M_bits_28 rfl (lv_at hl 1 rfl) ?_
      refine lv_iconst (v := 0) hx hb d_M_bits_29 (by decide) ?_
      refine lv_iconst (v := 1) hx hb d_M_bits_30 (by decide) ?_
      refine lv_iload_n hx hb d_M_bits_31 rfl (lv_at hl 2 rfl) ?_
      refine lv_ishl hx hb d_M_bits_32 ?_
      refine lv_topi (fun v_3 ev_3 => ?_)
      refine lv_iconst (v := 1) hx hb d_M_bits_33 (by decide) ?_
      refine lv_isub hx hb d_M_bits_34 ?_
      refine lv_topi (fun v_4 ev_4 => ?_)
      refine my_ci (wr := [(o, .inr (9, mO g fForm fShift fModels fItems fEnded fLow fRange fCache fPend fGoes fOuts fIns fReads fBad fIR fAsk fBAsk fCode fRL fRR fX fWrites 0))]) (va_runS (As := [.int p1, .int 0, .int v_4]) (rest := []) ⟨hx, hb, hml, hown, hts⟩ (c_M_in l dC dI cI cM cO H.size p1 0 v_4) (cwS 3 hts (my_gS k1062 k1063 k12 k1064) rfl rfl rfl (by decide +kernel) ⟨by rw [hR]; exact Nat.le_of_ble_eq_true rfl, by rw [hR]; exact Nat.le_of_ble_eq_true rfl⟩) (my_pre hK hN (hP.sub [] rfl) (hD.sub [] (by decide) rfl)) rfl rfl hl.1 rfl (lv_room (Nat.le_of_ble_eq_true rfl)) d_M_bits_35 ⟨by rw [hR]; exact Nat.le_of_ble_eq_true rfl, by rw [hR]; exact Nat.le_of_ble_eq_true rfl⟩) hP hD hS hA [] [0] rfl rfl (by decide) (by decide) (fun r_35 u9 H locs hw_35 hP hD hS => ?_)
      have hw_35 : r_35 = if 0 ≤ p1 ∧ p1 ≤ v_4 then 1 else 0 := hw_35
      have hP : va_P (dC, dI) vwCl [(o, .inr (9, mO g fForm fShift fModels fItems fEnded fLow fRange fCache fPend fGoes fOuts fIns fReads fBad fIR fAsk fBAsk fCode fRL fRR fX fWrites 0))] H := hP
      have hD : va_D A [(o, .inr (9, mO g fForm fShift fModels fItems fEnded fLow fRange fCache fPend fGoes fOuts fIns fReads fBad fIR fAsk fBAsk fCode fRL fRR fX fWrites 0))] := hD
      refine lv_if_ne (tgt := 44) hx hb d_M_bits_38 (by decide) (fun c_5 => ?_) (fun c_5 => ?_)
      · refine lv_aload_n hx hb d_M_bits_44 rfl (lv_at hl 0 rfl) ?_
        refine va_get (D := (dC, dI)) (ci := 9) (v := .int fEnded) (C := "RangeCodersModel") (T := T_M) (N := 35) hx hb hg in_M hown hK hP 0 rfl rfl 10 (by decide) (hg _ k962) (fun _ h9 => h9) rfl d_M_bits_45 ?_
        refine lv_if_eq (tgt := 54) hx hb d_M_bits_48 (by decide) (fun c_6 => ?_) (fun c_6 => ?_)
        · exact absurd c_6 hen
        · refine lv_bipush (v := (-3)) hx hb d_M_bits_51 (by decide) ?_
          exact my_iret (v := (-3)) hx hb hr (rfl) hlocks hQ hK hS (Nat.le_refl _) (Nat.le_refl _) ((0 : Int32)) (trivial) (hP.sub [0] rfl) (hD.sub [0] (by decide) rfl) d_M_bits_53
      · refine lv_bipush (v := (-2)) hx hb d_M_bits_41 (by decide) ?_
        exact my_iret (v := (-2)) hx hb hr (rfl) hlocks hQ hK hS (Nat.le_refl _) (Nat.le_refl _) ((0 : Int32)) (trivial) (hP.sub [0] rfl) (hD.sub [0] (by decide) rfl) d_M_bits_43
  · refine lv_bipush (v := 9) hx hb d_M_bits_15 (by decide) ?_
    refine lv_goto (tgt := 22) hx hb d_M_bits_17 (by decide) ?_
    refine my_ci (wr := [(o, .inr (9, mO g fForm fShift fModels fItems fEnded fLow fRange fCache fPend fGoes fOuts fIns fReads fBad fIR fAsk fBAsk fCode fRL fRR fX fWrites 0))]) (va_runS (As := [.int p2, .int 1, .int 9]) (rest := []) ⟨hx, hb, hml, hown, hts⟩ (c_M_in l dC dI cI cM cO H.size p2 1 9) (cwS 3 hts (my_gS k1062 k1063 k12 k1064) rfl rfl rfl (by decide +kernel) ⟨by rw [hR]; exact Nat.le_of_ble_eq_true rfl, by rw [hR]; exact Nat.le_of_ble_eq_true rfl⟩) (my_pre hK hN (hP.sub [] rfl) (hD.sub [] (by decide) rfl)) rfl rfl hl.1 rfl (lv_room (Nat.le_of_ble_eq_true rfl)) d_M_bits_22 ⟨by rw [hR]; exact Nat.le_of_ble_eq_true rfl, by rw [hR]; exact Nat.le_of_ble_eq_true rfl⟩) hP hD hS hA [] [0] rfl rfl (by decide) (by decide) (fun r_22 u9 H locs hw_22 hP hD hS => ?_)
    have hw_22 : r_22 = if 1 ≤ p2 ∧ p2 ≤ 9 then 1 else 0 := hw_22
    have hP : va_P (dC, dI) vwCl [(o, .inr (9, mO g fForm fShift fModels fItems fEnded fLow fRange fCache fPend fGoes fOuts fIns fReads fBad fIR fAsk fBAsk fCode fRL fRR fX fWrites 0))] H := hP
    have hD : va_D A [(o, .inr (9, mO g fForm fShift fModels fItems fEnded fLow fRange fCache fPend fGoes fOuts fIns fReads fBad fIR fAsk fBAsk fCode fRL fRR fX fWrites 0))] := hD
    refine lv_if_eq (tgt := 41) hx hb d_M_bits_25 (by decide) (fun c_7 => ?_) (fun c_7 => ?_)
    · refine lv_bipush (v := (-2)) hx hb d_M_bits_41 (by decide) ?_
      exact my_iret (v := (-2)) hx hb hr (rfl) hlocks hQ hK hS (Nat.le_refl _) (Nat.le_refl _) ((0 : Int32)) (trivial) (hP.sub [0] rfl) (hD.sub [0] (by decide) rfl) d_M_bits_43
    · refine lv_iload_n hx hb d_M_bits_28 rfl (lv_at hl 1 rfl) ?_
      refine lv_iconst (v := 0) hx hb d_M_bits_29 (by decide) ?_
      refine lv_iconst (v := 1) hx hb d_M_bits_30 (by decide) ?_
      refine lv_iload_n hx hb d_M_bits_31 rfl (lv_at hl 2 rfl) ?_
      refine lv_ishl hx hb d_M_bits_32 ?_
      refine lv_topi (fun v_8 ev_8 => ?_)
      refine lv_iconst (v := 1) hx hb d_M_bits_33 (by decide) ?_
      refine lv_isub hx hb d_M_bits_34 ?_
      refine lv_topi (fun v_9 ev_9 => ?_)
      refine my_ci (wr := [(o, .inr (9, mO g fForm fShift fModels fItems fEnded fLow fRange fCache fPend fGoes fOuts fIns fReads fBad fIR fAsk fBAsk fCode fRL fRR fX fWrites 0))]) (va_runS (As := [.int p1, .int 0, .int v_9]) (rest := []) ⟨hx, hb, hml, hown, hts⟩ (c_M_in l dC dI cI cM cO H.size p1 0 v_9) (cwS 3 hts (my_gS k1062 k1063 k12 k1064) rfl rfl rfl (by decide +kernel) ⟨by rw [hR]; exact Nat.le_of_ble_eq_true rfl, by rw [hR]; exact Nat.le_of_ble_eq_true rfl⟩) (my_pre hK hN (hP.sub [] rfl) (hD.sub [] (by decide) rfl)) rfl rfl hl.1 rfl (lv_room (Nat.le_of_ble_eq_true rfl)) d_M_bits_35 ⟨by rw [hR]; exact Nat.le_of_ble_eq_true rfl, by rw [hR]; exact Nat.le_of_ble_eq_true rfl⟩) hP hD hS hA [] [0] rfl rfl (by decide) (by decide) (fun r_35 u9 H locs hw_35 hP hD hS => ?_)
      have hw_35 : r_35 = if 0 ≤ p1 ∧ p1 ≤ v_9 then 1 else 0 := hw_35
      have hP : va_P (dC, dI) vwCl [(o, .inr (9, mO g fForm fShift fModels fItems fEnded fLow fRange fCache fPend fGoes fOuts fIns fReads fBad fIR fAsk fBAsk fCode fRL fRR fX fWrites 0))] H := hP
      have hD : va_D A [(o, .inr (9, mO g fForm fShift fModels fItems fEnded fLow fRange fCache fPend fGoes fOuts fIns fReads fBad fIR fAsk fBAsk fCode fRL fRR fX fWrites 0))] := hD
      refine lv_if_ne (tgt := 44) hx hb d_M_bits_38 (by decide) (fun c_10 => ?_) (fun c_10 => ?_)
      · refine lv_aload_n hx hb d_M_bits_44 rfl (lv_at hl 0 rfl) ?_
        refine va_get (D := (dC, dI)) (ci := 9) (v := .int fEnded) (C := "RangeCodersModel") (T := T_M) (N := 35) hx hb hg in_M hown hK hP 0 rfl rfl 10 (by decide) (hg _ k962) (fun _ h9 => h9) rfl d_M_bits_45 ?_
        refine lv_if_eq (tgt := 54) hx hb d_M_bits_48 (by decide) (fun c_11 => ?_) (fun c_11 => ?_)
        · exact absurd c_11 hen
        · refine lv_bipush (v := (-3)) hx hb d_M_bits_51 (by decide) ?_
          exact my_iret (v := (-3)) hx hb hr (rfl) hlocks hQ hK hS (Nat.le_refl _) (Nat.le_refl _) ((0 : Int32)) (trivial) (hP.sub [0] rfl) (hD.sub [0] (by decide) rfl) d_M_bits_53
      · refine lv_bipush (v := (-2)) hx hb d_M_bits_41 (by decide) ?_
        exact my_iret (v := (-2)) hx hb hr (rfl) hlocks hQ hK hS (Nat.le_refl _) (Nat.le_refl _) ((0 : Int32)) (trivial) (hP.sub [0] rfl) (hD.sub [0] (by decide) rfl) d_M_bits_43
