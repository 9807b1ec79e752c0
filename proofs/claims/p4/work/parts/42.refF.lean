set_option maxHeartbeats 1000000 in
set_option maxRecDepth 100000 in
/-- getRanged, form 0 -/
theorem c_M_getRanged0 (l : Launch) (dC : Nat → ClassId) (dI : Nat → Nat → Nat) (cI cM cO : ClassId) (sz : Nat) (o : Nat) (g : Nat → Nat) (fShift : Int32) (fModels : Int32) (fItems : Int32) (fEnded : Int32) (fLow : Int64) (fRange : Int64) (fCache : Int32) (fPend : Int32) (fGoes : Int32) (fOuts : Int32) (fReads : Int32) (fBad : Int32) (fIR : Int32) (fBAsk : Int32) (fRL : Int64) (fX : Int64) (fWrites : Int32) (fThrown : Int32) (vMany : Nat → Int32) (vThen : Nat → Int32) (vIn : Nat → Int32) (mm : Nat) (n : Nat) (F : Nat → Nat) (RR : Nat) (CD : Nat) (is : List Nat) (q : Nat) (hmm : mm < 8) (hn : vMany mm = nI n) (hn2 : n ≤ 64) (hn0 : 0 < n) (hIn : gIs vIn is) (hlen : is.length ≤ 6000) (hoct : oct is) (hq : q < 800000) (hf : sgI vThen (64 * mm) n F) (hsum : ns F n ≤ 8192) (hR1 : RR < 4294967296) (hC : CD < 4294967296) : MetI l y_M_getRanged (Cond.code y_M_getRanged prog_14_method_52_code 6 (some .int) :: gw) ({ frames := 3, cells := 0, slots := 0, locals := 66 } : Room) (dC, dI) vwCl (kT cI cM cO) [Value.ref o, Value.int (nI mm)] [(o, Sum.inr (9, mO g 0 fShift fModels fItems fEnded fLow fRange fCache fPend fGoes fOuts (nI is.length) fReads fBad fIR (nI q) fBAsk (lN CD) fRL (lN RR) fX fWrites fThrown)), ((g 0), Sum.inl (cI, 8, Sum.inl vMany)), ((g 3), Sum.inl (cI, 512, Sum.inl vThen)), ((g 8), Sum.inl (cI, 6000, Sum.inl vIn))] sz (fun (r : Int32) (u : (Nat → Int32)) => r = oI (gr0 is n F (RR, CD, q)).1 ∧ sgI u (64 * mm) n (gr0 is n F (RR, CD, q)).2.2 ∧ sgO u vThen (64 * mm) n) (fun (u : (Nat → Int32)) => [(o, Sum.inr (9, mO g 0 fShift fModels fItems fEnded fLow fRange fCache fPend fGoes fOuts (nI is.length) fReads fBad fIR (nI (gr0 is n F (RR, CD, q)).2.1.2.2) fBAsk (lN (gr0 is n F (RR, CD, q)).2.1.2.1) fRL (lN (gr0 is n F (RR, CD, q)).2.1.1) fX fWrites fThrown)), ((g 0), Sum.inl (cI, 8, Sum.inl vMany)), ((g 3), Sum.inl (cI, 512, Sum.inl u)), ((g 8), Sum.inl (cI, 6000, Sum.inl vIn))]) 0 0 := by
  refine my_ofI (cc := prog_14_method_52_code) (n := 6) (ret := (some .int)) (by decide) rfl (Nat.le_of_ble_eq_true rfl) ?_
  intro p e s m args below meth c R Q A ls H locs hx hb hr hts hown hlocks hml hnm hR hQ hA hl hP hK hN hD hS
  have hg : ∀ w ∈ gw, w.before args s = true := fun w h => hts w (List.mem_cons_of_mem _ h)
  have hown : s.vm.findClass "RangeCodersModel" = some m.cls := hown
  have hl : lv_has ls 6 [(0, Value.ref o), (1, Value.int (nI mm))] := hl
  have hbd : bd F n 100000 := fun k hk => by have := ns_ge (F := F) hk; omega
  have hov : ∀ w, wnt (ns F n) RR CD = some w → w < 2 ^ 63 := fun w hw => by have := (wnt_some hw).2.2.1; omega
  refine lv_aload_n hx hb d_M_getRanged_0 rfl (lv_at hl 0 rfl) ?_
  refine lv_aload_n hx hb d_M_getRanged_1 rfl (lv_at hl 0 rfl) ?_
  refine va_get (D := (dC, dI)) (ci := 9) (v := .ref (g 3)) (C := "RangeCodersModel") (T := T_M) (N := 35) hx hb hg in_M hown hK hP 0 rfl rfl 6 (by decide) (hg _ k958) (fun _ h9 => h9) rfl d_M_getRanged_2 ?_
  refine lv_iload_n hx hb d_M_getRanged_5 rfl (lv_at hl 1 rfl) ?_
  refine my_ci (wr := [((g 8), Sum.inl (cI, 6000, Sum.inl vIn))]) (va_runV (As := [Value.ref (g 3), Value.int (nI mm)]) (rest := []) ⟨hx, hb, hml, hown, hts⟩ (c_M_sum l dC dI cI cM cO H.size o g 0 fShift fModels fItems fEnded fLow fRange fCache fPend fGoes fOuts (nI is.length) fReads fBad fIR (nI q) fBAsk (lN CD) fRL (lN RR) fX fWrites fThrown vMany (g 3) vThen mm n F (by assumption) (by assumption) (by assumption) (hf)) (cwV 2 hts (my_gV k936 k938 ks21 k12 k939) rfl rfl rfl (by decide +kernel) ⟨by rw [hR]; exact Nat.le_of_ble_eq_true rfl, by rw [hR]; exact Nat.le_of_ble_eq_true rfl⟩) (my_preV hK hN (hP.sub [0, 1, 2] rfl) (hD.sub [0, 1, 2] (by decide +kernel) rfl) 0 rfl rfl) rfl rfl hl.1 rfl (lv_room (Nat.le_of_ble_eq_true rfl)) d_M_getRanged_6 ⟨by rw [hR]; exact Nat.le_of_ble_eq_true rfl, by rw [hR]; exact Nat.le_of_ble_eq_true rfl⟩) hP hD hS hA [0, 1, 2] [3] rfl rfl (by decide +kernel) (by decide +kernel) (fun r_6 u9 H locs hw_6 hP hD hS => ?_)
  have hw_6 : r_6 = nI (ns F n) := hw_6
  have hP : va_P (dC, dI) vwCl [((g 8), Sum.inl (cI, 6000, Sum.inl vIn)), (o, Sum.inr (9, mO g 0 fShift fModels fItems fEnded fLow fRange fCache fPend fGoes fOuts (nI is.length) fReads fBad fIR (nI q) fBAsk (lN CD) fRL (lN RR) fX fWrites fThrown)), ((g 0), Sum.inl (cI, 8, Sum.inl vMany)), ((g 3), Sum.inl (cI, 512, Sum.inl vThen))] H := hP
  have hD : va_D A [((g 8), Sum.inl (cI, 6000, Sum.inl vIn)), (o, Sum.inr (9, mO g 0 fShift fModels fItems fEnded fLow fRange fCache fPend fGoes fOuts (nI is.length) fReads fBad fIR (nI q) fBAsk (lN CD) fRL (lN RR) fX fWrites fThrown)), ((g 0), Sum.inl (cI, 8, Sum.inl vMany)), ((g 3), Sum.inl (cI, 512, Sum.inl vThen))] := hD
  have z9 : r_6 = nI (ns F n) := hw_6
  subst z9
  refine lv_istore_n (lv' := [(2, Value.int (nI (ns F n))), (0, Value.ref o), (1, Value.int (nI mm))]) hx hb d_M_getRanged_9 rfl hl (by decide) rfl (fun ls hl => ?_)
  refine lv_aload_n hx hb d_M_getRanged_10 rfl (lv_at hl 1 rfl) ?_
  refine lv_iload_n hx hb d_M_getRanged_11 rfl (lv_at hl 0 rfl) ?_
  refine my_cl (wr := [((g 8), Sum.inl (cI, 6000, Sum.inl vIn)), ((g 0), Sum.inl (cI, 8, Sum.inl vMany)), ((g 3), Sum.inl (cI, 512, Sum.inl vThen))]) (va_runV (As := [Value.int (nI (ns F n))]) (rest := []) ⟨hx, hb, hml, hown, hts⟩ (c_M_wanted0 l dC dI cI cM cO H.size o g fShift fModels fItems fEnded fLow fRange fCache fPend fGoes fOuts (nI is.length) fReads fBad fIR (nI q) fBAsk fRL fX fWrites fThrown (ns F n) RR CD (by omega) (hR1) (by assumption)) (cwV 1 hts (my_gV k1210 k1212 ks48 k12 k1213) rfl rfl rfl (by decide +kernel) ⟨by rw [hR]; exact Nat.le_of_ble_eq_true rfl, by rw [hR]; exact Nat.le_of_ble_eq_true rfl⟩) (my_preV hK hN (hP.sub [1] rfl) (hD.sub [1] (by decide +kernel) rfl) 0 rfl rfl) rfl rfl hl.1 rfl (lv_room (Nat.le_of_ble_eq_true rfl)) d_M_getRanged_12 ⟨by rw [hR]; exact Nat.le_of_ble_eq_true rfl, by rw [hR]; exact Nat.le_of_ble_eq_true rfl⟩) hP hD hS hA [1] [0, 2, 3] rfl rfl (by decide +kernel) (by decide +kernel) (fun r_12 u9 H locs hw_12 hP hD hS => ?_)
  have hw_12 : r_12 = oL (wnt (ns F n) RR CD) := hw_12
  have hP : va_P (dC, dI) vwCl [((g 8), Sum.inl (cI, 6000, Sum.inl vIn)), ((g 0), Sum.inl (cI, 8, Sum.inl vMany)), ((g 3), Sum.inl (cI, 512, Sum.inl vThen)), (o, Sum.inr (9, mO g 0 fShift fModels fItems fEnded fLow fRange fCache fPend fGoes fOuts (nI is.length) fReads fBad fIR (nI q) fBAsk (lN CD) fRL (lN RR) fX fWrites fThrown))] H := hP
  have hD : va_D A [((g 8), Sum.inl (cI, 6000, Sum.inl vIn)), ((g 0), Sum.inl (cI, 8, Sum.inl vMany)), ((g 3), Sum.inl (cI, 512, Sum.inl vThen)), (o, Sum.inr (9, mO g 0 fShift fModels fItems fEnded fLow fRange fCache fPend fGoes fOuts (nI is.length) fReads fBad fIR (nI q) fBAsk (lN CD) fRL (lN RR) fX fWrites fThrown))] := hD
  refine lv_lstore_n (lv' := [(3, Value.long r_12), (2, Value.int (nI (ns F n))), (0, Value.ref o), (1, Value.int (nI mm))]) hx hb d_M_getRanged_15 rfl hl (by decide) rfl (fun ls hl => ?_)
  refine lv_lload_n hx hb d_M_getRanged_16 rfl (lv_at hl 0 rfl) ?_
  refine lv_lconst (v := 0) hx hb d_M_getRanged_17 (by decide) ?_
  refine W.lcmp hx hb d_M_getRanged_18 ?_
  refine lv_if_ge (tgt := 24) hx hb d_M_getRanged_19 (by decide) (fun c_1 => ?_) (fun c_1 => ?_)
  · rw [lg_cmp_ge] at c_1
    obtain ⟨uu, huu⟩ : ∃ w, wnt (ns F n) RR CD = some w := by
      cases hh : wnt (ns F n) RR CD with
      | none => exact absurd c_1 (by rw [hw_12]; exact (oL_neg hov).mpr hh)
      | some w => exact ⟨w, rfl⟩
    have hws := wnt_some huu
    have hsg := sgA_spec hws.2.2.1
    have hm1 := ns_m1 F hsg.1
    have hxx : gr0 is n F (RR, CD, q) = (some (sgA F n uu), wrS is (RR / ns F n * F (sgA F n uu), CD - RR / ns F n * ns F (sgA F n uu), q), lrn n (sgA F n uu) F) := by unfold gr0; simp only [huu]
    have z9 : r_12 = lN uu := by rw [hw_12, huu]; rfl
    subst z9
    refine lv_aload_n hx hb d_M_getRanged_24 rfl (lv_at hl 2 rfl) ?_
    refine lv_iload_n hx hb d_M_getRanged_25 rfl (lv_at hl 3 rfl) ?_
    refine lv_lload_n hx hb d_M_getRanged_26 rfl (lv_at hl 0 rfl) ?_
    refine my_ci (wr := [((g 8), Sum.inl (cI, 6000, Sum.inl vIn)), ((g 0), Sum.inl (cI, 8, Sum.inl vMany))]) (va_runV (As := [Value.int (nI mm), Value.long (lN uu)]) (rest := []) ⟨hx, hb, hml, hown, hts⟩ (c_M_signAt l dC dI cI cM cO H.size o g 0 fShift fModels fItems fEnded fLow fRange fCache fPend fGoes fOuts (nI is.length) fReads fBad fIR (nI q) fBAsk (lN CD) fRL (lN RR) fX fWrites fThrown vThen mm n F uu (by assumption) (by assumption) (hf) (hws.2.2.1) (by omega)) (cwV 2 hts (my_gV k1215 k1217 ks49 k12 k1218) rfl rfl rfl (by decide +kernel) ⟨by rw [hR]; exact Nat.le_of_ble_eq_true rfl, by rw [hR]; exact Nat.le_of_ble_eq_true rfl⟩) (my_preV hK hN (hP.sub [3, 2] rfl) (hD.sub [3, 2] (by decide +kernel) rfl) 0 rfl rfl) rfl rfl hl.1 rfl (lv_room (Nat.le_of_ble_eq_true rfl)) d_M_getRanged_27 ⟨by rw [hR]; exact Nat.le_of_ble_eq_true rfl, by rw [hR]; exact Nat.le_of_ble_eq_true rfl⟩) hP hD hS hA [3, 2] [0, 1] rfl rfl (by decide +kernel) (by decide +kernel) (fun r_27 u9 H locs hw_27 hP hD hS => ?_)
    have hw_27 : r_27 = nI (sgA F n uu) := hw_27
    have hP : va_P (dC, dI) vwCl [((g 8), Sum.inl (cI, 6000, Sum.inl vIn)), ((g 0), Sum.inl (cI, 8, Sum.inl vMany)), (o, Sum.inr (9, mO g 0 fShift fModels fItems fEnded fLow fRange fCache fPend fGoes fOuts (nI is.length) fReads fBad fIR (nI q) fBAsk (lN CD) fRL (lN RR) fX fWrites fThrown)), ((g 3), Sum.inl (cI, 512, Sum.inl vThen))] H := hP
    have hD : va_D A [((g 8), Sum.inl (cI, 6000, Sum.inl vIn)), ((g 0), Sum.inl (cI, 8, Sum.inl vMany)), (o, Sum.inr (9, mO g 0 fShift fModels fItems fEnded fLow fRange fCache fPend fGoes fOuts (nI is.length) fReads fBad fIR (nI q) fBAsk (lN CD) fRL (lN RR) fX fWrites fThrown)), ((g 3), Sum.inl (cI, 512, Sum.inl vThen))] := hD
    have z9 : r_27 = nI (sgA F n uu) := hw_27
    subst z9
    refine lv_istore (lv' := [(5, Value.int (nI (sgA F n uu))), (3, Value.long (lN uu)), (2, Value.int (nI (ns F n))), (0, Value.ref o), (1, Value.int (nI mm))]) hx hb d_M_getRanged_30 hl (by decide) rfl (fun ls hl => ?_)
    refine lv_aload_n hx hb d_M_getRanged_32 rfl (lv_at hl 3 rfl) ?_
    refine lv_aload_n hx hb d_M_getRanged_33 rfl (lv_at hl 3 rfl) ?_
    refine lv_aload_n hx hb d_M_getRanged_34 rfl (lv_at hl 3 rfl) ?_
    refine va_get (D := (dC, dI)) (ci := 9) (v := .ref (g 3)) (C := "RangeCodersModel") (T := T_M) (N := 35) hx hb hg in_M hown hK hP 2 rfl rfl 6 (by decide) (hg _ k958) (fun _ h9 => h9) rfl d_M_getRanged_35 ?_
    refine lv_iload_n hx hb d_M_getRanged_38 rfl (lv_at hl 4 rfl) ?_
    refine lv_iload hx hb d_M_getRanged_39 (lv_at hl 0 rfl) ?_
    refine my_ci (wr := [((g 8), Sum.inl (cI, 6000, Sum.inl vIn)), ((g 0), Sum.inl (cI, 8, Sum.inl vMany))]) (va_runV (As := [Value.ref (g 3), Value.int (nI mm), Value.int (nI (sgA F n uu))]) (rest := [Value.ref o]) ⟨hx, hb, hml, hown, hts⟩ (c_M_before l dC dI cI cM cO H.size o g 0 fShift fModels fItems fEnded fLow fRange fCache fPend fGoes fOuts (nI is.length) fReads fBad fIR (nI q) fBAsk (lN CD) fRL (lN RR) fX fWrites fThrown (g 3) vThen mm (sgA F n uu) F (by assumption) (by omega) (sgI_w hf (by omega))) (cwV 3 hts (my_gV k1089 k1091 ks28 k12 k1092) rfl rfl rfl (by decide +kernel) ⟨by rw [hR]; exact Nat.le_of_ble_eq_true rfl, by rw [hR]; exact Nat.le_of_ble_eq_true rfl⟩) (my_preV hK hN (hP.sub [2, 3] rfl) (hD.sub [2, 3] (by decide +kernel) rfl) 0 rfl rfl) rfl rfl hl.1 rfl (lv_room (Nat.le_of_ble_eq_true rfl)) d_M_getRanged_41 ⟨by rw [hR]; exact Nat.le_of_ble_eq_true rfl, by rw [hR]; exact Nat.le_of_ble_eq_true rfl⟩) hP hD hS hA [2, 3] [0, 1] rfl rfl (by decide +kernel) (by decide +kernel) (fun r_41 u9 H locs hw_41 hP hD hS => ?_)
    have hw_41 : r_41 = nI (ns F (sgA F n uu)) := hw_41
    have hP : va_P (dC, dI) vwCl [((g 8), Sum.inl (cI, 6000, Sum.inl vIn)), ((g 0), Sum.inl (cI, 8, Sum.inl vMany)), (o, Sum.inr (9, mO g 0 fShift fModels fItems fEnded fLow fRange fCache fPend fGoes fOuts (nI is.length) fReads fBad fIR (nI q) fBAsk (lN CD) fRL (lN RR) fX fWrites fThrown)), ((g 3), Sum.inl (cI, 512, Sum.inl vThen))] H := hP
    have hD : va_D A [((g 8), Sum.inl (cI, 6000, Sum.inl vIn)), ((g 0), Sum.inl (cI, 8, Sum.inl vMany)), (o, Sum.inr (9, mO g 0 fShift fModels fItems fEnded fLow fRange fCache fPend fGoes fOuts (nI is.length) fReads fBad fIR (nI q) fBAsk (lN CD) fRL (lN RR) fX fWrites fThrown)), ((g 3), Sum.inl (cI, 512, Sum.inl vThen))] := hD
    have z9 : r_41 = nI (ns F (sgA F n uu)) := hw_41
    subst z9
    refine lv_aload_n hx hb d_M_getRanged_44 rfl (lv_at hl 3 rfl) ?_
    refine va_get (D := (dC, dI)) (ci := 9) (v := .ref (g 3)) (C := "RangeCodersModel") (T := T_M) (N := 35) hx hb hg in_M hown hK hP 2 rfl rfl 6 (by decide) (hg _ k958) (fun _ h9 => h9) rfl d_M_getRanged_45 ?_
    refine lv_bipush (v := 64) hx hb d_M_getRanged_48 (by decide) ?_
    refine lv_iload_n hx hb d_M_getRanged_50 rfl (lv_at hl 4 rfl) ?_
    refine lv_imul hx hb d_M_getRanged_51 ?_
    refine lv_topi (fun v_2 ev_2 => ?_)
    refine lv_iload hx hb d_M_getRanged_52 (lv_at hl 0 rfl) ?_
    refine lv_iadd hx hb d_M_getRanged_54 ?_
    refine lv_topi (fun v_3 ev_3 => ?_)
    have hix : v_3 = nI (64 * mm + sgA F n uu) := by subst_vars; exact ix64
    refine va_iald hx hb hK hP 3 0 rfl rfl (by rw [hix]; exact vp_in_nI (by omega) (by decide)) d_M_getRanged_55 ?_
    refine lv_topi (fun v_4 ev_4 => ?_)
    have z9 : v_4 = nI (F (sgA F n uu)) := by subst_vars; rw [nI_clamp (by omega)]; exact hf _ hsg.1
    subst z9
    refine lv_iload_n hx hb d_M_getRanged_56 rfl (lv_at hl 2 rfl) ?_
    refine my_cv (wr := [((g 0), Sum.inl (cI, 8, Sum.inl vMany)), ((g 3), Sum.inl (cI, 512, Sum.inl vThen))]) (va_runV (As := [Value.int (nI (ns F (sgA F n uu))), Value.int (nI (F (sgA F n uu))), Value.int (nI (ns F n))]) (rest := []) ⟨hx, hb, hml, hown, hts⟩ (c_M_leave0 l dC dI cI cM cO H.size o g fShift fModels fItems fEnded fLow fRange fCache fPend fGoes fOuts fReads fBad fIR fBAsk fRL fX fWrites fThrown vIn (ns F (sgA F n uu)) (F (sgA F n uu)) (ns F n) RR CD is q (hIn) (by assumption) (by assumption) (by omega) (hws.1) (by omega) (hm1) (by omega) (hws.2.1) (hR1) (by assumption) (Nat.le_trans (Nat.mul_le_mul_left _ hsg.2.1) hws.2.2.2.1)) (cwV 3 hts (my_gV k1219 k1221 ks50 k12 k1222) rfl rfl rfl (by decide +kernel) ⟨by rw [hR]; exact Nat.le_of_ble_eq_true rfl, by rw [hR]; exact Nat.le_of_ble_eq_true rfl⟩) (my_preV hK hN (hP.sub [2, 0] rfl) (hD.sub [2, 0] (by decide +kernel) rfl) 0 rfl rfl) rfl rfl hl.1 rfl (lv_room (Nat.le_of_ble_eq_true rfl)) d_M_getRanged_57 ⟨by rw [hR]; exact Nat.le_of_ble_eq_true rfl, by rw [hR]; exact Nat.le_of_ble_eq_true rfl⟩) hP hD hS hA [2, 0] [1, 3] rfl rfl (by decide +kernel) (by decide +kernel) (fun u9 H locs hw_57 hP hD hS => ?_)
    have hw_57 : True := hw_57
    have hP : va_P (dC, dI) vwCl [((g 0), Sum.inl (cI, 8, Sum.inl vMany)), ((g 3), Sum.inl (cI, 512, Sum.inl vThen)), (o, Sum.inr (9, mO g 0 fShift fModels fItems fEnded fLow fRange fCache fPend fGoes fOuts (nI is.length) fReads fBad fIR (nI (wrS is (RR / (ns F n) * (F (sgA F n uu)), CD - RR / (ns F n) * (ns F (sgA F n uu)), q)).2.2) fBAsk (lN (wrS is (RR / (ns F n) * (F (sgA F n uu)), CD - RR / (ns F n) * (ns F (sgA F n uu)), q)).2.1) fRL (lN (wrS is (RR / (ns F n) * (F (sgA F n uu)), CD - RR / (ns F n) * (ns F (sgA F n uu)), q)).1) fX fWrites fThrown)), ((g 8), Sum.inl (cI, 6000, Sum.inl vIn))] H := hP
    have hD : va_D A [((g 0), Sum.inl (cI, 8, Sum.inl vMany)), ((g 3), Sum.inl (cI, 512, Sum.inl vThen)), (o, Sum.inr (9, mO g 0 fShift fModels fItems fEnded fLow fRange fCache fPend fGoes fOuts (nI is.length) fReads fBad fIR (nI (wrS is (RR / (ns F n) * (F (sgA F n uu)), CD - RR / (ns F n) * (ns F (sgA F n uu)), q)).2.2) fBAsk (lN (wrS is (RR / (ns F n) * (F (sgA F n uu)), CD - RR / (ns F n) * (ns F (sgA F n uu)), q)).2.1) fRL (lN (wrS is (RR / (ns F n) * (F (sgA F n uu)), CD - RR / (ns F n) * (ns F (sgA F n uu)), q)).1) fX fWrites fThrown)), ((g 8), Sum.inl (cI, 6000, Sum.inl vIn))] := hD
    refine lv_aload_n hx hb d_M_getRanged_60 rfl (lv_at hl 3 rfl) ?_
    refine lv_aload_n hx hb d_M_getRanged_61 rfl (lv_at hl 3 rfl) ?_
    refine va_get (D := (dC, dI)) (ci := 9) (v := .ref (g 3)) (C := "RangeCodersModel") (T := T_M) (N := 35) hx hb hg in_M hown hK hP 2 rfl rfl 6 (by decide) (hg _ k958) (fun _ h9 => h9) rfl d_M_getRanged_62 ?_
    refine lv_iload_n hx hb d_M_getRanged_65 rfl (lv_at hl 4 rfl) ?_
    refine lv_iload hx hb d_M_getRanged_66 (lv_at hl 0 rfl) ?_
    refine my_cv (wr := [((g 8), Sum.inl (cI, 6000, Sum.inl vIn))]) (va_runV (As := [Value.ref (g 3), Value.int (nI mm), Value.int (nI (sgA F n uu))]) (rest := []) ⟨hx, hb, hml, hown, hts⟩ (c_M_learn l dC dI cI cM cO H.size o g 0 fShift fModels fItems fEnded fLow fRange fCache fPend fGoes fOuts (nI is.length) fReads fBad fIR (nI (wrS is (RR / (ns F n) * (F (sgA F n uu)), CD - RR / (ns F n) * (ns F (sgA F n uu)), q)).2.2) fBAsk (lN (wrS is (RR / (ns F n) * (F (sgA F n uu)), CD - RR / (ns F n) * (ns F (sgA F n uu)), q)).2.1) fRL (lN (wrS is (RR / (ns F n) * (F (sgA F n uu)), CD - RR / (ns F n) * (ns F (sgA F n uu)), q)).1) fX fWrites fThrown vMany (g 3) vThen mm n (sgA F n uu) F (by assumption) (by assumption) (by assumption) (hsg.1) (hf) (hbd)) (cwV 3 hts (my_gV k1119 k1121 ks34 k12 k1122) rfl rfl rfl (by decide +kernel) ⟨by rw [hR]; exact Nat.le_of_ble_eq_true rfl, by rw [hR]; exact Nat.le_of_ble_eq_true rfl⟩) (my_preV hK hN (hP.sub [2, 0, 1] rfl) (hD.sub [2, 0, 1] (by decide +kernel) rfl) 0 rfl rfl) rfl rfl hl.1 rfl (lv_room (Nat.le_of_ble_eq_true rfl)) d_M_getRanged_68 ⟨by rw [hR]; exact Nat.le_of_ble_eq_true rfl, by rw [hR]; exact Nat.le_of_ble_eq_true rfl⟩) hP hD hS hA [2, 0, 1] [3] rfl rfl (by decide +kernel) (by decide +kernel) (fun u9 H locs hw_68 hP hD hS => ?_)
    obtain ⟨f2_68, rfl⟩ : ∃ z, z = u9 := ⟨_, rfl⟩
    have hw_68 : sgI f2_68 (64 * mm) n (lrn n (sgA F n uu) F) ∧ sgO f2_68 vThen (64 * mm) n := hw_68
    have hP : va_P (dC, dI) vwCl [((g 8), Sum.inl (cI, 6000, Sum.inl vIn)), (o, Sum.inr (9, mO g 0 fShift fModels fItems fEnded fLow fRange fCache fPend fGoes fOuts (nI is.length) fReads fBad fIR (nI (wrS is (RR / (ns F n) * (F (sgA F n uu)), CD - RR / (ns F n) * (ns F (sgA F n uu)), q)).2.2) fBAsk (lN (wrS is (RR / (ns F n) * (F (sgA F n uu)), CD - RR / (ns F n) * (ns F (sgA F n uu)), q)).2.1) fRL (lN (wrS is (RR / (ns F n) * (F (sgA F n uu)), CD - RR / (ns F n) * (ns F (sgA F n uu)), q)).1) fX fWrites fThrown)), ((g 0), Sum.inl (cI, 8, Sum.inl vMany)), ((g 3), Sum.inl (cI, 512, Sum.inl f2_68))] H := hP
    have hD : va_D A [((g 8), Sum.inl (cI, 6000, Sum.inl vIn)), (o, Sum.inr (9, mO g 0 fShift fModels fItems fEnded fLow fRange fCache fPend fGoes fOuts (nI is.length) fReads fBad fIR (nI (wrS is (RR / (ns F n) * (F (sgA F n uu)), CD - RR / (ns F n) * (ns F (sgA F n uu)), q)).2.2) fBAsk (lN (wrS is (RR / (ns F n) * (F (sgA F n uu)), CD - RR / (ns F n) * (ns F (sgA F n uu)), q)).2.1) fRL (lN (wrS is (RR / (ns F n) * (F (sgA F n uu)), CD - RR / (ns F n) * (ns F (sgA F n uu)), q)).1) fX fWrites fThrown)), ((g 0), Sum.inl (cI, 8, Sum.inl vMany)), ((g 3), Sum.inl (cI, 512, Sum.inl f2_68))] := hD
    refine lv_iload hx hb d_M_getRanged_71 (lv_at hl 0 rfl) ?_
    exact my_iret (v := (nI (sgA F n uu))) hx hb hr (rfl) hlocks hQ hK hS (Nat.le_refl _) (Nat.le_refl _) f2_68 (by rw [hxx]; exact ⟨rfl, hw_68.1, hw_68.2⟩) (by rw [hxx]; exact (hP.sub [1, 2, 3, 0] rfl)) (by rw [hxx]; exact (hD.sub [1, 2, 3, 0] (by decide +kernel) rfl)) d_M_getRanged_73
  · rw [lg_cmp_ge] at c_1
    have hno : wnt (ns F n) RR CD = none := (oL_neg hov).mp (by rw [← hw_12]; exact c_1)
    have hxx : gr0 is n F (RR, CD, q) = (none, (RR, CD, q), F) := by unfold gr0; simp only [hno]
    refine lv_iconst (v := (-1)) hx hb d_M_getRanged_22 (by decide) ?_
    exact my_iret (v := (-1)) hx hb hr (rfl) hlocks hQ hK hS (Nat.le_refl _) (Nat.le_refl _) vThen (by rw [hxx]; exact ⟨rfl, hf, sgO_rf _ _ _⟩) (by rw [hxx]; exact (hP.sub [3, 1, 2, 0] rfl)) (by rw [hxx]; exact (hD.sub [3, 1, 2, 0] (by decide +kernel) rfl)) d_M_getRanged_23
set_option maxHeartbeats 1000000 in
set_option maxRecDepth 100000 in
/-- getRanged, form 1 -/
theorem c_M_getRanged1 (l : Launch) (dC : Nat → ClassId) (dI : Nat → Nat → Nat) (cI cM cO : ClassId) (sz : Nat) (o : Nat) (g : Nat → Nat) (fShift : Int32) (fModels : Int32) (fItems : Int32) (fEnded : Int32) (fLow : Int64) (fRange : Int64) (fCache : Int32) (fPend : Int32) (fGoes : Int32) (fOuts : Int32) (fReads : Int32) (fBad : Int32) (fIR : Int32) (fBAsk : Int32) (fX : Int64) (fWrites : Int32) (fThrown : Int32) (vMany : Nat → Int32) (vThen : Nat → Int32) (vIn : Nat → Int32) (mm : Nat) (n : Nat) (F : Nat → Nat) (RR : Nat) (L : Nat) (CD : Nat) (is : List Nat) (q : Nat) (hmm : mm < 8) (hn : vMany mm = nI n) (hn2 : n ≤ 64) (hn0 : 0 < n) (hIn : gIs vIn is) (hlen : is.length ≤ 6000) (hoct : oct is) (hq : q < 800000) (hf : sgI vThen (64 * mm) n F) (hsum : ns F n ≤ 8192) (hp : pOk RR L) (hC : CD < 4294967296) : MetI l y_M_getRanged (Cond.code y_M_getRanged prog_14_method_52_code 6 (some .int) :: gw) ({ frames := 3, cells := 0, slots := 0, locals := 68 } : Room) (dC, dI) vwCl (kT cI cM cO) [Value.ref o, Value.int (nI mm)] [(o, Sum.inr (9, mO g 1 fShift fModels fItems fEnded fLow fRange fCache fPend fGoes fOuts (nI is.length) fReads fBad fIR (nI q) fBAsk (lN CD) (lN L) (lN RR) fX fWrites fThrown)), ((g 0), Sum.inl (cI, 8, Sum.inl vMany)), ((g 3), Sum.inl (cI, 512, Sum.inl vThen)), ((g 8), Sum.inl (cI, 6000, Sum.inl vIn))] sz (fun (r : Int32) (u : (Nat → Int32)) => r = oI (gr1 is n F (RR, L, CD, q)).1 ∧ sgI u (64 * mm) n (gr1 is n F (RR, L, CD, q)).2.2 ∧ sgO u vThen (64 * mm) n) (fun (u : (Nat → Int32)) => [(o, Sum.inr (9, mO g 1 fShift fModels fItems fEnded fLow fRange fCache fPend fGoes fOuts (nI is.length) fReads fBad fIR (nI (gr1 is n F (RR, L, CD, q)).2.1.2.2.2) fBAsk (lN (gr1 is n F (RR, L, CD, q)).2.1.2.2.1) (lN (gr1 is n F (RR, L, CD, q)).2.1.2.1) (lN (gr1 is n F (RR, L, CD, q)).2.1.1) fX fWrites fThrown)), ((g 0), Sum.inl (cI, 8, Sum.inl vMany)), ((g 3), Sum.inl (cI, 512, Sum.inl u)), ((g 8), Sum.inl (cI, 6000, Sum.inl vIn))]) 0 0 := by
  refine my_ofI (cc := prog_14_method_52_code) (n := 6) (ret := (some .int)) (by decide) rfl (Nat.le_of_ble_eq_true rfl) ?_
  intro p e s m args below meth c R Q A ls H locs hx hb hr hts hown hlocks hml hnm hR hQ hA hl hP hK hN hD hS
  have hg : ∀ w ∈ gw, w.before args s = true := fun w h => hts w (List.mem_cons_of_mem _ h)
  have hown : s.vm.findClass "RangeCodersModel" = some m.cls := hown
  have hl : lv_has ls 6 [(0, Value.ref o), (1, Value.int (nI mm))] := hl
  have hR9 : RR ≤ 4294967296 := by have := hp.2.2.1; omega
  have hbd : bd F n 100000 := fun k hk => by have := ns_ge (F := F) hk; omega
  have hov : ∀ w, wnt (ns F n) RR ((CD + 4294967296 - L) % 4294967296) = some w → w < 2 ^ 63 := fun w hw => by have := (wnt_some hw).2.2.1; omega
  refine lv_aload_n hx hb d_M_getRanged_0 rfl (lv_at hl 0 rfl) ?_
  refine lv_aload_n hx hb d_M_getRanged_1 rfl (lv_at hl 0 rfl) ?_
  refine va_get (D := (dC, dI)) (ci := 9) (v := .ref (g 3)) (C := "RangeCodersModel") (T := T_M) (N := 35) hx hb hg in_M hown hK hP 0 rfl rfl 6 (by decide) (hg _ k958) (fun _ h9 => h9) rfl d_M_getRanged_2 ?_
  refine lv_iload_n hx hb d_M_getRanged_5 rfl (lv_at hl 1 rfl) ?_
  refine my_ci (wr := [((g 8), Sum.inl (cI, 6000, Sum.inl vIn))]) (va_runV (As := [Value.ref (g 3), Value.int (nI mm)]) (rest := []) ⟨hx, hb, hml, hown, hts⟩ (c_M_sum l dC dI cI cM cO H.size o g 1 fShift fModels fItems fEnded fLow fRange fCache fPend fGoes fOuts (nI is.length) fReads fBad fIR (nI q) fBAsk (lN CD) (lN L) (lN RR) fX fWrites fThrown vMany (g 3) vThen mm n F (by assumption) (by assumption) (by assumption) (hf)) (cwV 2 hts (my_gV k936 k938 ks21 k12 k939) rfl rfl rfl (by decide +kernel) ⟨by rw [hR]; exact Nat.le_of_ble_eq_true rfl, by rw [hR]; exact Nat.le_of_ble_eq_true rfl⟩) (my_preV hK hN (hP.sub [0, 1, 2] rfl) (hD.sub [0, 1, 2] (by decide +kernel) rfl) 0 rfl rfl) rfl rfl hl.1 rfl (lv_room (Nat.le_of_ble_eq_true rfl)) d_M_getRanged_6 ⟨by rw [hR]; exact Nat.le_of_ble_eq_true rfl, by rw [hR]; exact Nat.le_of_ble_eq_true rfl⟩) hP hD hS hA [0, 1, 2] [3] rfl rfl (by decide +kernel) (by decide +kernel) (fun r_6 u9 H locs hw_6 hP hD hS => ?_)
  have hw_6 : r_6 = nI (ns F n) := hw_6
  have hP : va_P (dC, dI) vwCl [((g 8), Sum.inl (cI, 6000, Sum.inl vIn)), (o, Sum.inr (9, mO g 1 fShift fModels fItems fEnded fLow fRange fCache fPend fGoes fOuts (nI is.length) fReads fBad fIR (nI q) fBAsk (lN CD) (lN L) (lN RR) fX fWrites fThrown)), ((g 0), Sum.inl (cI, 8, Sum.inl vMany)), ((g 3), Sum.inl (cI, 512, Sum.inl vThen))] H := hP
  have hD : va_D A [((g 8), Sum.inl (cI, 6000, Sum.inl vIn)), (o, Sum.inr (9, mO g 1 fShift fModels fItems fEnded fLow fRange fCache fPend fGoes fOuts (nI is.length) fReads fBad fIR (nI q) fBAsk (lN CD) (lN L) (lN RR) fX fWrites fThrown)), ((g 0), Sum.inl (cI, 8, Sum.inl vMany)), ((g 3), Sum.inl (cI, 512, Sum.inl vThen))] := hD
  have z9 : r_6 = nI (ns F n) := hw_6
  subst z9
  refine lv_istore_n (lv' := [(2, Value.int (nI (ns F n))), (0, Value.ref o), (1, Value.int (nI mm))]) hx hb d_M_getRanged_9 rfl hl (by decide) rfl (fun ls hl => ?_)
  refine lv_aload_n hx hb d_M_getRanged_10 rfl (lv_at hl 1 rfl) ?_
  refine lv_iload_n hx hb d_M_getRanged_11 rfl (lv_at hl 0 rfl) ?_
  refine my_cl (wr := [((g 8), Sum.inl (cI, 6000, Sum.inl vIn)), ((g 0), Sum.inl (cI, 8, Sum.inl vMany)), ((g 3), Sum.inl (cI, 512, Sum.inl vThen))]) (va_runV (As := [Value.int (nI (ns F n))]) (rest := []) ⟨hx, hb, hml, hown, hts⟩ (c_M_wanted1 l dC dI cI cM cO H.size o g fShift fModels fItems fEnded fLow fRange fCache fPend fGoes fOuts (nI is.length) fReads fBad fIR (nI q) fBAsk fX fWrites fThrown (ns F n) RR CD L (by omega) (pOk_lt hp) (by assumption) (hp.1)) (cwV 1 hts (my_gV k1210 k1212 ks48 k12 k1213) rfl rfl rfl (by decide +kernel) ⟨by rw [hR]; exact Nat.le_of_ble_eq_true rfl, by rw [hR]; exact Nat.le_of_ble_eq_true rfl⟩) (my_preV hK hN (hP.sub [1] rfl) (hD.sub [1] (by decide +kernel) rfl) 0 rfl rfl) rfl rfl hl.1 rfl (lv_room (Nat.le_of_ble_eq_true rfl)) d_M_getRanged_12 ⟨by rw [hR]; exact Nat.le_of_ble_eq_true rfl, by rw [hR]; exact Nat.le_of_ble_eq_true rfl⟩) hP hD hS hA [1] [0, 2, 3] rfl rfl (by decide +kernel) (by decide +kernel) (fun r_12 u9 H locs hw_12 hP hD hS => ?_)
  have hw_12 : r_12 = oL (wnt (ns F n) RR ((CD + 4294967296 - L) % 4294967296)) := hw_12
  have hP : va_P (dC, dI) vwCl [((g 8), Sum.inl (cI, 6000, Sum.inl vIn)), ((g 0), Sum.inl (cI, 8, Sum.inl vMany)), ((g 3), Sum.inl (cI, 512, Sum.inl vThen)), (o, Sum.inr (9, mO g 1 fShift fModels fItems fEnded fLow fRange fCache fPend fGoes fOuts (nI is.length) fReads fBad fIR (nI q) fBAsk (lN CD) (lN L) (lN RR) fX fWrites fThrown))] H := hP
  have hD : va_D A [((g 8), Sum.inl (cI, 6000, Sum.inl vIn)), ((g 0), Sum.inl (cI, 8, Sum.inl vMany)), ((g 3), Sum.inl (cI, 512, Sum.inl vThen)), (o, Sum.inr (9, mO g 1 fShift fModels fItems fEnded fLow fRange fCache fPend fGoes fOuts (nI is.length) fReads fBad fIR (nI q) fBAsk (lN CD) (lN L) (lN RR) fX fWrites fThrown))] := hD
  refine lv_lstore_n (lv' := [(3, Value.long r_12), (2, Value.int (nI (ns F n))), (0, Value.ref o), (1, Value.int (nI mm))]) hx hb d_M_getRanged_15 rfl hl (by decide) rfl (fun ls hl => ?_)
  refine lv_lload_n hx hb d_M_getRanged_16 rfl (lv_at hl 0 rfl) ?_
  refine lv_lconst (v := 0) hx hb d_M_getRanged_17 (by decide) ?_
  refine W.lcmp hx hb d_M_getRanged_18 ?_
  refine lv_if_ge (tgt := 24) hx hb d_M_getRanged_19 (by decide) (fun c_1 => ?_) (fun c_1 => ?_)
  · rw [lg_cmp_ge] at c_1
    obtain ⟨uu, huu⟩ : ∃ w, wnt (ns F n) RR ((CD + 4294967296 - L) % 4294967296) = some w := by
      cases hh : wnt (ns F n) RR ((CD + 4294967296 - L) % 4294967296) with
      | none => exact absurd c_1 (by rw [hw_12]; exact (oL_neg hov).mpr hh)
      | some w => exact ⟨w, rfl⟩
    have hws := wnt_some huu
    have hsg := sgA_spec hws.2.2.1
    have hm1 := ns_m1 F hsg.1
    have hxx : gr1 is n F (RR, L, CD, q) = (some (sgA F n uu), prS is (RR / ns F n * F (sgA F n uu), L + RR / ns F n * ns F (sgA F n uu), CD, q), lrn n (sgA F n uu) F) := by unfold gr1; simp only [huu]
    have z9 : r_12 = lN uu := by rw [hw_12, huu]; rfl
    subst z9
    refine lv_aload_n hx hb d_M_getRanged_24 rfl (lv_at hl 2 rfl) ?_
    refine lv_iload_n hx hb d_M_getRanged_25 rfl (lv_at hl 3 rfl) ?_
    refine lv_lload_n hx hb d_M_getRanged_26 rfl (lv_at hl 0 rfl) ?_
    refine my_ci (wr := [((g 8), Sum.inl (cI, 6000, Sum.inl vIn)), ((g 0), Sum.inl (cI, 8, Sum.inl vMany))]) (va_runV (As := [Value.int (nI mm), Value.long (lN uu)]) (rest := []) ⟨hx, hb, hml, hown, hts⟩ (c_M_signAt l dC dI cI cM cO H.size o g 1 fShift fModels fItems fEnded fLow fRange fCache fPend fGoes fOuts (nI is.length) fReads fBad fIR (nI q) fBAsk (lN CD) (lN L) (lN RR) fX fWrites fThrown vThen mm n F uu (by assumption) (by assumption) (hf) (hws.2.2.1) (by omega)) (cwV 2 hts (my_gV k1215 k1217 ks49 k12 k1218) rfl rfl rfl (by decide +kernel) ⟨by rw [hR]; exact Nat.le_of_ble_eq_true rfl, by rw [hR]; exact Nat.le_of_ble_eq_true rfl⟩) (my_preV hK hN (hP.sub [3, 2] rfl) (hD.sub [3, 2] (by decide +kernel) rfl) 0 rfl rfl) rfl rfl hl.1 rfl (lv_room (Nat.le_of_ble_eq_true rfl)) d_M_getRanged_27 ⟨by rw [hR]; exact Nat.le_of_ble_eq_true rfl, by rw [hR]; exact Nat.le_of_ble_eq_true rfl⟩) hP hD hS hA [3, 2] [0, 1] rfl rfl (by decide +kernel) (by decide +kernel) (fun r_27 u9 H locs hw_27 hP hD hS => ?_)
    have hw_27 : r_27 = nI (sgA F n uu) := hw_27
    have hP : va_P (dC, dI) vwCl [((g 8), Sum.inl (cI, 6000, Sum.inl vIn)), ((g 0), Sum.inl (cI, 8, Sum.inl vMany)), (o, Sum.inr (9, mO g 1 fShift fModels fItems fEnded fLow fRange fCache fPend fGoes fOuts (nI is.length) fReads fBad fIR (nI q) fBAsk (lN CD) (lN L) (lN RR) fX fWrites fThrown)), ((g 3), Sum.inl (cI, 512, Sum.inl vThen))] H := hP
    have hD : va_D A [((g 8), Sum.inl (cI, 6000, Sum.inl vIn)), ((g 0), Sum.inl (cI, 8, Sum.inl vMany)), (o, Sum.inr (9, mO g 1 fShift fModels fItems fEnded fLow fRange fCache fPend fGoes fOuts (nI is.length) fReads fBad fIR (nI q) fBAsk (lN CD) (lN L) (lN RR) fX fWrites fThrown)), ((g 3), Sum.inl (cI, 512, Sum.inl vThen))] := hD
    have z9 : r_27 = nI (sgA F n uu) := hw_27
    subst z9
    refine lv_istore (lv' := [(5, Value.int (nI (sgA F n uu))), (3, Value.long (lN uu)), (2, Value.int (nI (ns F n))), (0, Value.ref o), (1, Value.int (nI mm))]) hx hb d_M_getRanged_30 hl (by decide) rfl (fun ls hl => ?_)
    refine lv_aload_n hx hb d_M_getRanged_32 rfl (lv_at hl 3 rfl) ?_
    refine lv_aload_n hx hb d_M_getRanged_33 rfl (lv_at hl 3 rfl) ?_
    refine lv_aload_n hx hb d_M_getRanged_34 rfl (lv_at hl 3 rfl) ?_
    refine va_get (D := (dC, dI)) (ci := 9) (v := .ref (g 3)) (C := "RangeCodersModel") (T := T_M) (N := 35) hx hb hg in_M hown hK hP 2 rfl rfl 6 (by decide) (hg _ k958) (fun _ h9 => h9) rfl d_M_getRanged_35 ?_
    refine lv_iload_n hx hb d_M_getRanged_38 rfl (lv_at hl 4 rfl) ?_
    refine lv_iload hx hb d_M_getRanged_39 (lv_at hl 0 rfl) ?_
    refine my_ci (wr := [((g 8), Sum.inl (cI, 6000, Sum.inl vIn)), ((g 0), Sum.inl (cI, 8, Sum.inl vMany))]) (va_runV (As := [Value.ref (g 3), Value.int (nI mm), Value.int (nI (sgA F n uu))]) (rest := [Value.ref o]) ⟨hx, hb, hml, hown, hts⟩ (c_M_before l dC dI cI cM cO H.size o g 1 fShift fModels fItems fEnded fLow fRange fCache fPend fGoes fOuts (nI is.length) fReads fBad fIR (nI q) fBAsk (lN CD) (lN L) (lN RR) fX fWrites fThrown (g 3) vThen mm (sgA F n uu) F (by assumption) (by omega) (sgI_w hf (by omega))) (cwV 3 hts (my_gV k1089 k1091 ks28 k12 k1092) rfl rfl rfl (by decide +kernel) ⟨by rw [hR]; exact Nat.le_of_ble_eq_true rfl, by rw [hR]; exact Nat.le_of_ble_eq_true rfl⟩) (my_preV hK hN (hP.sub [2, 3] rfl) (hD.sub [2, 3] (by decide +kernel) rfl) 0 rfl rfl) rfl rfl hl.1 rfl (lv_room (Nat.le_of_ble_eq_true rfl)) d_M_getRanged_41 ⟨by rw [hR]; exact Nat.le_of_ble_eq_true rfl, by rw [hR]; exact Nat.le_of_ble_eq_true rfl⟩) hP hD hS hA [2, 3] [0, 1] rfl rfl (by decide +kernel) (by decide +kernel) (fun r_41 u9 H locs hw_41 hP hD hS => ?_)
    have hw_41 : r_41 = nI (ns F (sgA F n uu)) := hw_41
    have hP : va_P (dC, dI) vwCl [((g 8), Sum.inl (cI, 6000, Sum.inl vIn)), ((g 0), Sum.inl (cI, 8, Sum.inl vMany)), (o, Sum.inr (9, mO g 1 fShift fModels fItems fEnded fLow fRange fCache fPend fGoes fOuts (nI is.length) fReads fBad fIR (nI q) fBAsk (lN CD) (lN L) (lN RR) fX fWrites fThrown)), ((g 3), Sum.inl (cI, 512, Sum.inl vThen))] H := hP
    have hD : va_D A [((g 8), Sum.inl (cI, 6000, Sum.inl vIn)), ((g 0), Sum.inl (cI, 8, Sum.inl vMany)), (o, Sum.inr (9, mO g 1 fShift fModels fItems fEnded fLow fRange fCache fPend fGoes fOuts (nI is.length) fReads fBad fIR (nI q) fBAsk (lN CD) (lN L) (lN RR) fX fWrites fThrown)), ((g 3), Sum.inl (cI, 512, Sum.inl vThen))] := hD
    have z9 : r_41 = nI (ns F (sgA F n uu)) := hw_41
    subst z9
    refine lv_aload_n hx hb d_M_getRanged_44 rfl (lv_at hl 3 rfl) ?_
    refine va_get (D := (dC, dI)) (ci := 9) (v := .ref (g 3)) (C := "RangeCodersModel") (T := T_M) (N := 35) hx hb hg in_M hown hK hP 2 rfl rfl 6 (by decide) (hg _ k958) (fun _ h9 => h9) rfl d_M_getRanged_45 ?_
    refine lv_bipush (v := 64) hx hb d_M_getRanged_48 (by decide) ?_
    refine lv_iload_n hx hb d_M_getRanged_50 rfl (lv_at hl 4 rfl) ?_
    refine lv_imul hx hb d_M_getRanged_51 ?_
    refine lv_topi (fun v_2 ev_2 => ?_)
    refine lv_iload hx hb d_M_getRanged_52 (lv_at hl 0 rfl) ?_
    refine lv_iadd hx hb d_M_getRanged_54 ?_
    refine lv_topi (fun v_3 ev_3 => ?_)
    have hix : v_3 = nI (64 * mm + sgA F n uu) := by subst_vars; exact ix64
    refine va_iald hx hb hK hP 3 0 rfl rfl (by rw [hix]; exact vp_in_nI (by omega) (by decide)) d_M_getRanged_55 ?_
    refine lv_topi (fun v_4 ev_4 => ?_)
    have z9 : v_4 = nI (F (sgA F n uu)) := by subst_vars; rw [nI_clamp (by omega)]; exact hf _ hsg.1
    subst z9
    refine lv_iload_n hx hb d_M_getRanged_56 rfl (lv_at hl 2 rfl) ?_
    refine my_cv (wr := [((g 0), Sum.inl (cI, 8, Sum.inl vMany)), ((g 3), Sum.inl (cI, 512, Sum.inl vThen))]) (va_runV (As := [Value.int (nI (ns F (sgA F n uu))), Value.int (nI (F (sgA F n uu))), Value.int (nI (ns F n))]) (rest := []) ⟨hx, hb, hml, hown, hts⟩ (c_M_leave1 l dC dI cI cM cO H.size o g fShift fModels fItems fEnded fLow fRange fCache fPend fGoes fOuts fReads fBad fIR fBAsk fX fWrites fThrown vIn (ns F (sgA F n uu)) (F (sgA F n uu)) (ns F n) RR L CD is q (hIn) (by assumption) (by assumption) (by omega) (hws.1) (by omega) (hm1) (by omega) (hws.2.1) (hp) (by assumption)) (cwV 3 hts (my_gV k1219 k1221 ks50 k12 k1222) rfl rfl rfl (by decide +kernel) ⟨by rw [hR]; exact Nat.le_of_ble_eq_true rfl, by rw [hR]; exact Nat.le_of_ble_eq_true rfl⟩) (my_preV hK hN (hP.sub [2, 0] rfl) (hD.sub [2, 0] (by decide +kernel) rfl) 0 rfl rfl) rfl rfl hl.1 rfl (lv_room (Nat.le_of_ble_eq_true rfl)) d_M_getRanged_57 ⟨by rw [hR]; exact Nat.le_of_ble_eq_true rfl, by rw [hR]; exact Nat.le_of_ble_eq_true rfl⟩) hP hD hS hA [2, 0] [1, 3] rfl rfl (by decide +kernel) (by decide +kernel) (fun u9 H locs hw_57 hP hD hS => ?_)
    have hw_57 : True := hw_57
    have hP : va_P (dC, dI) vwCl [((g 0), Sum.inl (cI, 8, Sum.inl vMany)), ((g 3), Sum.inl (cI, 512, Sum.inl vThen)), (o, Sum.inr (9, mO g 1 fShift fModels fItems fEnded fLow fRange fCache fPend fGoes fOuts (nI is.length) fReads fBad fIR (nI (prS is (RR / (ns F n) * (F (sgA F n uu)), L + RR / (ns F n) * (ns F (sgA F n uu)), CD, q)).2.2.2) fBAsk (lN (prS is (RR / (ns F n) * (F (sgA F n uu)), L + RR / (ns F n) * (ns F (sgA F n uu)), CD, q)).2.2.1) (lN (prS is (RR / (ns F n) * (F (sgA F n uu)), L + RR / (ns F n) * (ns F (sgA F n uu)), CD, q)).2.1) (lN (prS is (RR / (ns F n) * (F (sgA F n uu)), L + RR / (ns F n) * (ns F (sgA F n uu)), CD, q)).1) fX fWrites fThrown)), ((g 8), Sum.inl (cI, 6000, Sum.inl vIn))] H := hP
    have hD : va_D A [((g 0), Sum.inl (cI, 8, Sum.inl vMany)), ((g 3), Sum.inl (cI, 512, Sum.inl vThen)), (o, Sum.inr (9, mO g 1 fShift fModels fItems fEnded fLow fRange fCache fPend fGoes fOuts (nI is.length) fReads fBad fIR (nI (prS is (RR / (ns F n) * (F (sgA F n uu)), L + RR / (ns F n) * (ns F (sgA F n uu)), CD, q)).2.2.2) fBAsk (lN (prS is (RR / (ns F n) * (F (sgA F n uu)), L + RR / (ns F n) * (ns F (sgA F n uu)), CD, q)).2.2.1) (lN (prS is (RR / (ns F n) * (F (sgA F n uu)), L + RR / (ns F n) * (ns F (sgA F n uu)), CD, q)).2.1) (lN (prS is (RR / (ns F n) * (F (sgA F n uu)), L + RR / (ns F n) * (ns F (sgA F n uu)), CD, q)).1) fX fWrites fThrown)), ((g 8), Sum.inl (cI, 6000, Sum.inl vIn))] := hD
    refine lv_aload_n hx hb d_M_getRanged_60 rfl (lv_at hl 3 rfl) ?_
    refine lv_aload_n hx hb d_M_getRanged_61 rfl (lv_at hl 3 rfl) ?_
    refine va_get (D := (dC, dI)) (ci := 9) (v := .ref (g 3)) (C := "RangeCodersModel") (T := T_M) (N := 35) hx hb hg in_M hown hK hP 2 rfl rfl 6 (by decide) (hg _ k958) (fun _ h9 => h9) rfl d_M_getRanged_62 ?_
    refine lv_iload_n hx hb d_M_getRanged_65 rfl (lv_at hl 4 rfl) ?_
    refine lv_iload hx hb d_M_getRanged_66 (lv_at hl 0 rfl) ?_
    refine my_cv (wr := [((g 8), Sum.inl (cI, 6000, Sum.inl vIn))]) (va_runV (As := [Value.ref (g 3), Value.int (nI mm), Value.int (nI (sgA F n uu))]) (rest := []) ⟨hx, hb, hml, hown, hts⟩ (c_M_learn l dC dI cI cM cO H.size o g 1 fShift fModels fItems fEnded fLow fRange fCache fPend fGoes fOuts (nI is.length) fReads fBad fIR (nI (prS is (RR / (ns F n) * (F (sgA F n uu)), L + RR / (ns F n) * (ns F (sgA F n uu)), CD, q)).2.2.2) fBAsk (lN (prS is (RR / (ns F n) * (F (sgA F n uu)), L + RR / (ns F n) * (ns F (sgA F n uu)), CD, q)).2.2.1) (lN (prS is (RR / (ns F n) * (F (sgA F n uu)), L + RR / (ns F n) * (ns F (sgA F n uu)), CD, q)).2.1) (lN (prS is (RR / (ns F n) * (F (sgA F n uu)), L + RR / (ns F n) * (ns F (sgA F n uu)), CD, q)).1) fX fWrites fThrown vMany (g 3) vThen mm n (sgA F n uu) F (by assumption) (by assumption) (by assumption) (hsg.1) (hf) (hbd)) (cwV 3 hts (my_gV k1119 k1121 ks34 k12 k1122) rfl rfl rfl (by decide +kernel) ⟨by rw [hR]; exact Nat.le_of_ble_eq_true rfl, by rw [hR]; exact Nat.le_of_ble_eq_true rfl⟩) (my_preV hK hN (hP.sub [2, 0, 1] rfl) (hD.sub [2, 0, 1] (by decide +kernel) rfl) 0 rfl rfl) rfl rfl hl.1 rfl (lv_room (Nat.le_of_ble_eq_true rfl)) d_M_getRanged_68 ⟨by rw [hR]; exact Nat.le_of_ble_eq_true rfl, by rw [hR]; exact Nat.le_of_ble_eq_true rfl⟩) hP hD hS hA [2, 0, 1] [3] rfl rfl (by decide +kernel) (by decide +kernel) (fun u9 H locs hw_68 hP hD hS => ?_)
    obtain ⟨f2_68, rfl⟩ : ∃ z, z = u9 := ⟨_, rfl⟩
    have hw_68 : sgI f2_68 (64 * mm) n (lrn n (sgA F n uu) F) ∧ sgO f2_68 vThen (64 * mm) n := hw_68
    have hP : va_P (dC, dI) vwCl [((g 8), Sum.inl (cI, 6000, Sum.inl vIn)), (o, Sum.inr (9, mO g 1 fShift fModels fItems fEnded fLow fRange fCache fPend fGoes fOuts (nI is.length) fReads fBad fIR (nI (prS is (RR / (ns F n) * (F (sgA F n uu)), L + RR / (ns F n) * (ns F (sgA F n uu)), CD, q)).2.2.2) fBAsk (lN (prS is (RR / (ns F n) * (F (sgA F n uu)), L + RR / (ns F n) * (ns F (sgA F n uu)), CD, q)).2.2.1) (lN (prS is (RR / (ns F n) * (F (sgA F n uu)), L + RR / (ns F n) * (ns F (sgA F n uu)), CD, q)).2.1) (lN (prS is (RR / (ns F n) * (F (sgA F n uu)), L + RR / (ns F n) * (ns F (sgA F n uu)), CD, q)).1) fX fWrites fThrown)), ((g 0), Sum.inl (cI, 8, Sum.inl vMany)), ((g 3), Sum.inl (cI, 512, Sum.inl f2_68))] H := hP
    have hD : va_D A [((g 8), Sum.inl (cI, 6000, Sum.inl vIn)), (o, Sum.inr (9, mO g 1 fShift fModels fItems fEnded fLow fRange fCache fPend fGoes fOuts (nI is.length) fReads fBad fIR (nI (prS is (RR / (ns F n) * (F (sgA F n uu)), L + RR / (ns F n) * (ns F (sgA F n uu)), CD, q)).2.2.2) fBAsk (lN (prS is (RR / (ns F n) * (F (sgA F n uu)), L + RR / (ns F n) * (ns F (sgA F n uu)), CD, q)).2.2.1) (lN (prS is (RR / (ns F n) * (F (sgA F n uu)), L + RR / (ns F n) * (ns F (sgA F n uu)), CD, q)).2.1) (lN (prS is (RR / (ns F n) * (F (sgA F n uu)), L + RR / (ns F n) * (ns F (sgA F n uu)), CD, q)).1) fX fWrites fThrown)), ((g 0), Sum.inl (cI, 8, Sum.inl vMany)), ((g 3), Sum.inl (cI, 512, Sum.inl f2_68))] := hD
    refine lv_iload hx hb d_M_getRanged_71 (lv_at hl 0 rfl) ?_
    exact my_iret (v := (nI (sgA F n uu))) hx hb hr (rfl) hlocks hQ hK hS (Nat.le_refl _) (Nat.le_refl _) f2_68 (by rw [hxx]; exact ⟨rfl, hw_68.1, hw_68.2⟩) (by rw [hxx]; exact (hP.sub [1, 2, 3, 0] rfl)) (by rw [hxx]; exact (hD.sub [1, 2, 3, 0] (by decide +kernel) rfl)) d_M_getRanged_73
  · rw [lg_cmp_ge] at c_1
    have hno : wnt (ns F n) RR ((CD + 4294967296 - L) % 4294967296) = none := (oL_neg hov).mp (by rw [← hw_12]; exact c_1)
    have hxx : gr1 is n F (RR, L, CD, q) = (none, (RR, L, CD, q), F) := by unfold gr1; simp only [hno]
    refine lv_iconst (v := (-1)) hx hb d_M_getRanged_22 (by decide) ?_
    exact my_iret (v := (-1)) hx hb hr (rfl) hlocks hQ hK hS (Nat.le_refl _) (Nat.le_refl _) vThen (by rw [hxx]; exact ⟨rfl, hf, sgO_rf _ _ _⟩) (by rw [hxx]; exact (hP.sub [3, 1, 2, 0] rfl)) (by rw [hxx]; exact (hD.sub [3, 1, 2, 0] (by decide +kernel) rfl)) d_M_getRanged_23
set_option maxHeartbeats 1000000 in
set_option maxRecDepth 100000 in
/-- getStacked -/
theorem c_M_getStacked (l : Launch) (dC : Nat → ClassId) (dI : Nat → Nat → Nat) (cI cM cO : ClassId) (sz : Nat) (o : Nat) (g : Nat → Nat) (fForm : Int32) (fShift : Int32) (fModels : Int32) (fItems : Int32) (fEnded : Int32) (fLow : Int64) (fRange : Int64) (fCache : Int32) (fPend : Int32) (fGoes : Int32) (fOuts : Int32) (fReads : Int32) (fBad : Int32) (fIR : Int32) (fBAsk : Int32) (fCode : Int64) (fRL : Int64) (fRR : Int64) (fWrites : Int32) (fThrown : Int32) (vMany : Nat → Int32) (vThen : Nat → Int32) (vIn : Nat → Int32) (mm : Nat) (n : Nat) (F : Nat → Nat) (X : Nat) (is : List Nat) (q : Nat) (hmm : mm < 8) (hn : vMany mm = nI n) (hn2 : n ≤ 64) (hIn : gIs vIn is) (hlen : is.length ≤ 6000) (hoct : oct is) (hq : q < 800000) (hf : sgI vThen (64 * mm) n F) (hsum : ns F n = 0 ∨ ns F n = 4096) (hX0 : 8388608 ≤ X) (hX1 : X < 4294967296) : MetI l y_M_getStacked (Cond.code y_M_getStacked prog_14_method_53_code 4 (some .int) :: gw) ({ frames := 2, cells := 0, slots := 0, locals := 41 } : Room) (dC, dI) vwCl (kT cI cM cO) [Value.ref o, Value.int (nI mm)] [(o, Sum.inr (9, mO g fForm fShift fModels fItems fEnded fLow fRange fCache fPend fGoes fOuts (nI is.length) fReads fBad fIR (nI q) fBAsk fCode fRL fRR (lN X) fWrites fThrown)), ((g 0), Sum.inl (cI, 8, Sum.inl vMany)), ((g 3), Sum.inl (cI, 512, Sum.inl vThen)), ((g 8), Sum.inl (cI, 6000, Sum.inl vIn))] sz (fun (r : Int32) (u : Unit) => r = oI (gs3 is n F X q).1) (fun (u : Unit) => [(o, Sum.inr (9, mO g fForm fShift fModels fItems fEnded fLow fRange fCache fPend fGoes fOuts (nI is.length) fReads fBad fIR (nI (gs3 is n F X q).2.2) fBAsk fCode fRL fRR (lN (gs3 is n F X q).2.1) fWrites fThrown)), ((g 0), Sum.inl (cI, 8, Sum.inl vMany)), ((g 3), Sum.inl (cI, 512, Sum.inl vThen)), ((g 8), Sum.inl (cI, 6000, Sum.inl vIn))]) 0 0 := by
  refine my_ofI (cc := prog_14_method_53_code) (n := 4) (ret := (some .int)) (by decide) rfl (Nat.le_of_ble_eq_true rfl) ?_
  intro p e s m args below meth c R Q A ls H locs hx hb hr hts hown hlocks hml hnm hR hQ hA hl hP hK hN hD hS
  have hg : ∀ w ∈ gw, w.before args s = true := fun w h => hts w (List.mem_cons_of_mem _ h)
  have hown : s.vm.findClass "RangeCodersModel" = some m.cls := hown
  have hl : lv_has ls 4 [(0, Value.ref o), (1, Value.int (nI mm))] := hl
  refine lv_aload_n hx hb d_M_getStacked_0 rfl (lv_at hl 0 rfl) ?_
  refine lv_aload_n hx hb d_M_getStacked_1 rfl (lv_at hl 0 rfl) ?_
  refine va_get (D := (dC, dI)) (ci := 9) (v := .ref (g 3)) (C := "RangeCodersModel") (T := T_M) (N := 35) hx hb hg in_M hown hK hP 0 rfl rfl 6 (by decide) (hg _ k958) (fun _ h9 => h9) rfl d_M_getStacked_2 ?_
  refine lv_iload_n hx hb d_M_getStacked_5 rfl (lv_at hl 1 rfl) ?_
  refine my_ci (wr := [((g 8), Sum.inl (cI, 6000, Sum.inl vIn))]) (va_runV (As := [Value.ref (g 3), Value.int (nI mm)]) (rest := []) ⟨hx, hb, hml, hown, hts⟩ (c_M_sum l dC dI cI cM cO H.size o g fForm fShift fModels fItems fEnded fLow fRange fCache fPend fGoes fOuts (nI is.length) fReads fBad fIR (nI q) fBAsk fCode fRL fRR (lN X) fWrites fThrown vMany (g 3) vThen mm n F (by assumption) (by assumption) (by assumption) (hf)) (cwV 2 hts (my_gV k936 k938 ks21 k12 k939) rfl rfl rfl (by decide +kernel) ⟨by rw [hR]; exact Nat.le_of_ble_eq_true rfl, by rw [hR]; exact Nat.le_of_ble_eq_true rfl⟩) (my_preV hK hN (hP.sub [0, 1, 2] rfl) (hD.sub [0, 1, 2] (by decide +kernel) rfl) 0 rfl rfl) rfl rfl hl.1 rfl (lv_room (Nat.le_of_ble_eq_true rfl)) d_M_getStacked_6 ⟨by rw [hR]; exact Nat.le_of_ble_eq_true rfl, by rw [hR]; exact Nat.le_of_ble_eq_true rfl⟩) hP hD hS hA [0, 1, 2] [3] rfl rfl (by decide +kernel) (by decide +kernel) (fun r_6 u9 H locs hw_6 hP hD hS => ?_)
  have hw_6 : r_6 = nI (ns F n) := hw_6
  have hP : va_P (dC, dI) vwCl [((g 8), Sum.inl (cI, 6000, Sum.inl vIn)), (o, Sum.inr (9, mO g fForm fShift fModels fItems fEnded fLow fRange fCache fPend fGoes fOuts (nI is.length) fReads fBad fIR (nI q) fBAsk fCode fRL fRR (lN X) fWrites fThrown)), ((g 0), Sum.inl (cI, 8, Sum.inl vMany)), ((g 3), Sum.inl (cI, 512, Sum.inl vThen))] H := hP
  have hD : va_D A [((g 8), Sum.inl (cI, 6000, Sum.inl vIn)), (o, Sum.inr (9, mO g fForm fShift fModels fItems fEnded fLow fRange fCache fPend fGoes fOuts (nI is.length) fReads fBad fIR (nI q) fBAsk fCode fRL fRR (lN X) fWrites fThrown)), ((g 0), Sum.inl (cI, 8, Sum.inl vMany)), ((g 3), Sum.inl (cI, 512, Sum.inl vThen))] := hD
  refine lv_if_ne (tgt := 14) hx hb d_M_getStacked_9 (by decide) (fun c_1 => ?_) (fun c_1 => ?_)
  · have hnz : ¬ ns F n = 0 := fun z => c_1 (by rw [hw_6, z]; rfl)
    have h40 : ns F n = 4096 := by omega
    have hv4 := Nat.mod_lt X (show 0 < 4096 by decide)
    have hsg := sgA_spec (F := F) (n := n) (u := X % 4096) (by omega)
    have hm1 := ns_m1 F hsg.1
    have hF1 : 1 ≤ F (sgA F n (X % 4096)) := by omega
    have hF2 : F (sgA F n (X % 4096)) ≤ 4096 := by omega
    have hp1 : X / 4096 * 1 ≤ X / 4096 * F (sgA F n (X % 4096)) := Nat.mul_le_mul_left _ hF1
    have hp2 : X / 4096 * F (sgA F n (X % 4096)) ≤ X / 4096 * 4096 := Nat.mul_le_mul_left _ hF2
    have hxx : gs3 is n F X q = (some (sgA F n (X % 4096)), rfS is (X / 4096 * F (sgA F n (X % 4096)) + X % 4096 - ns F (sgA F n (X % 4096)), q)) := by unfold gs3; rw [if_neg hnz]
    refine lv_aload_n hx hb d_M_getStacked_14 rfl (lv_at hl 0 rfl) ?_
    refine va_get (D := (dC, dI)) (ci := 9) (v := .long (lN X)) (C := "RangeCodersModel") (T := T_M) (N := 35) hx hb hg in_M hown hK hP 1 rfl rfl 29 (by decide) (hg _ k981) (fun _ h9 => h9) rfl d_M_getStacked_15 ?_
    refine lv_ldc2 (v := 4095) hx hb hown (hg _ k1243) d_M_getStacked_18 ?_
    refine lv_land hx hb d_M_getStacked_21 ?_
    refine lv_topl (fun v_2 ev_2 => ?_)
    refine lv_l2i hx hb d_M_getStacked_22 rfl ?_
    refine lv_topi (fun v_3 ev_3 => ?_)
    have z9 : v_3 = nI (X % 4096) := by subst_vars; rw [L_and12 (by omega)]; exact lN_i _
    subst z9
    refine lv_istore_n (lv' := [(2, Value.int (nI (X % 4096))), (0, Value.ref o), (1, Value.int (nI mm))]) hx hb d_M_getStacked_23 rfl hl (by decide) rfl (fun ls hl => ?_)
    refine lv_aload_n hx hb d_M_getStacked_24 rfl (lv_at hl 1 rfl) ?_
    refine lv_iload_n hx hb d_M_getStacked_25 rfl (lv_at hl 2 rfl) ?_
    refine lv_iload_n hx hb d_M_getStacked_26 rfl (lv_at hl 0 rfl) ?_
    refine lv_i2l hx hb d_M_getStacked_27 rfl ?_
    refine lv_topl (fun v_4 ev_4 => ?_)
    have z9 : v_4 = lN (X % 4096) := by subst_vars; exact nI_l (by omega)
    subst z9
    refine my_ci (wr := [((g 8), Sum.inl (cI, 6000, Sum.inl vIn)), ((g 0), Sum.inl (cI, 8, Sum.inl vMany))]) (va_runV (As := [Value.int (nI mm), Value.long (lN (X % 4096))]) (rest := []) ⟨hx, hb, hml, hown, hts⟩ (c_M_signAt l dC dI cI cM cO H.size o g fForm fShift fModels fItems fEnded fLow fRange fCache fPend fGoes fOuts (nI is.length) fReads fBad fIR (nI q) fBAsk fCode fRL fRR (lN X) fWrites fThrown vThen mm n F (X % 4096) (by assumption) (by assumption) (hf) (by omega) (by omega)) (cwV 2 hts (my_gV k1215 k1217 ks49 k12 k1218) rfl rfl rfl (by decide +kernel) ⟨by rw [hR]; exact Nat.le_of_ble_eq_true rfl, by rw [hR]; exact Nat.le_of_ble_eq_true rfl⟩) (my_preV hK hN (hP.sub [1, 3] rfl) (hD.sub [1, 3] (by decide +kernel) rfl) 0 rfl rfl) rfl rfl hl.1 rfl (lv_room (Nat.le_of_ble_eq_true rfl)) d_M_getStacked_28 ⟨by rw [hR]; exact Nat.le_of_ble_eq_true rfl, by rw [hR]; exact Nat.le_of_ble_eq_true rfl⟩) hP hD hS hA [1, 3] [0, 2] rfl rfl (by decide +kernel) (by decide +kernel) (fun r_28 u9 H locs hw_28 hP hD hS => ?_)
    have hw_28 : r_28 = nI (sgA F n (X % 4096)) := hw_28
    have hP : va_P (dC, dI) vwCl [((g 8), Sum.inl (cI, 6000, Sum.inl vIn)), ((g 0), Sum.inl (cI, 8, Sum.inl vMany)), (o, Sum.inr (9, mO g fForm fShift fModels fItems fEnded fLow fRange fCache fPend fGoes fOuts (nI is.length) fReads fBad fIR (nI q) fBAsk fCode fRL fRR (lN X) fWrites fThrown)), ((g 3), Sum.inl (cI, 512, Sum.inl vThen))] H := hP
    have hD : va_D A [((g 8), Sum.inl (cI, 6000, Sum.inl vIn)), ((g 0), Sum.inl (cI, 8, Sum.inl vMany)), (o, Sum.inr (9, mO g fForm fShift fModels fItems fEnded fLow fRange fCache fPend fGoes fOuts (nI is.length) fReads fBad fIR (nI q) fBAsk fCode fRL fRR (lN X) fWrites fThrown)), ((g 3), Sum.inl (cI, 512, Sum.inl vThen))] := hD
    have z9 : r_28 = nI (sgA F n (X % 4096)) := hw_28
    subst z9
    refine lv_istore_n (lv' := [(3, Value.int (nI (sgA F n (X % 4096)))), (2, Value.int (nI (X % 4096))), (0, Value.ref o), (1, Value.int (nI mm))]) hx hb d_M_getStacked_31 rfl hl (by decide) rfl (fun ls hl => ?_)
    refine lv_aload_n hx hb d_M_getStacked_32 rfl (lv_at hl 2 rfl) ?_
    refine lv_aload_n hx hb d_M_getStacked_33 rfl (lv_at hl 2 rfl) ?_
    refine va_get (D := (dC, dI)) (ci := 9) (v := .long (lN X)) (C := "RangeCodersModel") (T := T_M) (N := 35) hx hb hg in_M hown hK hP 2 rfl rfl 29 (by decide) (hg _ k981) (fun _ h9 => h9) rfl d_M_getStacked_34 ?_
    refine lv_bipush (v := 12) hx hb d_M_getStacked_37 (by decide) ?_
    refine lv_lshr hx hb d_M_getStacked_39 rfl ?_
    refine lv_topl (fun v_5 ev_5 => ?_)
    refine lv_aload_n hx hb d_M_getStacked_40 rfl (lv_at hl 2 rfl) ?_
    refine va_get (D := (dC, dI)) (ci := 9) (v := .ref (g 3)) (C := "RangeCodersModel") (T := T_M) (N := 35) hx hb hg in_M hown hK hP 2 rfl rfl 6 (by decide) (hg _ k958) (fun _ h9 => h9) rfl d_M_getStacked_41 ?_
    refine lv_bipush (v := 64) hx hb d_M_getStacked_44 (by decide) ?_
    refine lv_iload_n hx hb d_M_getStacked_46 rfl (lv_at hl 3 rfl) ?_
    refine lv_imul hx hb d_M_getStacked_47 ?_
    refine lv_topi (fun v_6 ev_6 => ?_)
    refine lv_iload_n hx hb d_M_getStacked_48 rfl (lv_at hl 0 rfl) ?_
    refine lv_iadd hx hb d_M_getStacked_49 ?_
    refine lv_topi (fun v_7 ev_7 => ?_)
    have hix : v_7 = nI (64 * mm + sgA F n (X % 4096)) := by subst_vars; exact ix64
    refine va_iald hx hb hK hP 3 0 rfl rfl (by rw [hix]; exact vp_in_nI (by omega) (by decide)) d_M_getStacked_50 ?_
    refine lv_topi (fun v_8 ev_8 => ?_)
    have z9 : v_8 = nI (F (sgA F n (X % 4096))) := by subst_vars; rw [nI_clamp (by omega)]; exact hf _ hsg.1
    subst z9
    refine lv_i2l hx hb d_M_getStacked_51 rfl ?_
    refine lv_topl (fun v_9 ev_9 => ?_)
    refine lv_lmul hx hb d_M_getStacked_52 ?_
    refine lv_topl (fun v_10 ev_10 => ?_)
    refine lv_iload_n hx hb d_M_getStacked_53 rfl (lv_at hl 1 rfl) ?_
    refine lv_i2l hx hb d_M_getStacked_54 rfl ?_
    refine lv_topl (fun v_11 ev_11 => ?_)
    refine lv_ladd hx hb d_M_getStacked_55 ?_
    refine lv_topl (fun v_12 ev_12 => ?_)
    refine lv_aload_n hx hb d_M_getStacked_56 rfl (lv_at hl 2 rfl) ?_
    refine lv_aload_n hx hb d_M_getStacked_57 rfl (lv_at hl 2 rfl) ?_
    refine va_get (D := (dC, dI)) (ci := 9) (v := .ref (g 3)) (C := "RangeCodersModel") (T := T_M) (N := 35) hx hb hg in_M hown hK hP 2 rfl rfl 6 (by decide) (hg _ k958) (fun _ h9 => h9) rfl d_M_getStacked_58 ?_
    refine lv_iload_n hx hb d_M_getStacked_61 rfl (lv_at hl 3 rfl) ?_
    refine lv_iload_n hx hb d_M_getStacked_62 rfl (lv_at hl 0 rfl) ?_
    refine my_ci (wr := [((g 8), Sum.inl (cI, 6000, Sum.inl vIn)), ((g 0), Sum.inl (cI, 8, Sum.inl vMany))]) (va_runV (As := [Value.ref (g 3), Value.int (nI mm), Value.int (nI (sgA F n (X % 4096)))]) (rest := [Value.long v_12, Value.ref o]) ⟨hx, hb, hml, hown, hts⟩ (c_M_before l dC dI cI cM cO H.size o g fForm fShift fModels fItems fEnded fLow fRange fCache fPend fGoes fOuts (nI is.length) fReads fBad fIR (nI q) fBAsk fCode fRL fRR (lN X) fWrites fThrown (g 3) vThen mm (sgA F n (X % 4096)) F (by assumption) (by omega) (sgI_w hf (by omega))) (cwV 3 hts (my_gV k1089 k1091 ks28 k12 k1092) rfl rfl rfl (by decide +kernel) ⟨by rw [hR]; exact Nat.le_of_ble_eq_true rfl, by rw [hR]; exact Nat.le_of_ble_eq_true rfl⟩) (my_preV hK hN (hP.sub [2, 3] rfl) (hD.sub [2, 3] (by decide +kernel) rfl) 0 rfl rfl) rfl rfl hl.1 rfl (lv_room (Nat.le_of_ble_eq_true rfl)) d_M_getStacked_63 ⟨by rw [hR]; exact Nat.le_of_ble_eq_true rfl, by rw [hR]; exact Nat.le_of_ble_eq_true rfl⟩) hP hD hS hA [2, 3] [0, 1] rfl rfl (by decide +kernel) (by decide +kernel) (fun r_63 u9 H locs hw_63 hP hD hS => ?_)
    have hw_63 : r_63 = nI (ns F (sgA F n (X % 4096))) := hw_63
    have hP : va_P (dC, dI) vwCl [((g 8), Sum.inl (cI, 6000, Sum.inl vIn)), ((g 0), Sum.inl (cI, 8, Sum.inl vMany)), (o, Sum.inr (9, mO g fForm fShift fModels fItems fEnded fLow fRange fCache fPend fGoes fOuts (nI is.length) fReads fBad fIR (nI q) fBAsk fCode fRL fRR (lN X) fWrites fThrown)), ((g 3), Sum.inl (cI, 512, Sum.inl vThen))] H := hP
    have hD : va_D A [((g 8), Sum.inl (cI, 6000, Sum.inl vIn)), ((g 0), Sum.inl (cI, 8, Sum.inl vMany)), (o, Sum.inr (9, mO g fForm fShift fModels fItems fEnded fLow fRange fCache fPend fGoes fOuts (nI is.length) fReads fBad fIR (nI q) fBAsk fCode fRL fRR (lN X) fWrites fThrown)), ((g 3), Sum.inl (cI, 512, Sum.inl vThen))] := hD
    refine lv_i2l hx hb d_M_getStacked_66 rfl ?_
    refine lv_topl (fun v_13 ev_13 => ?_)
    refine lv_lsub hx hb d_M_getStacked_67 ?_
    refine lv_topl (fun v_14 ev_14 => ?_)
    have z9 : v_14 = lN (X / 4096 * F (sgA F n (X % 4096)) + X % 4096 - ns F (sgA F n (X % 4096))) := by subst_vars; rw [hw_63, L_shr12 (by omega), nI_l (by omega), nI_l (by omega), nI_l (by omega), lN_mul, lN_add]; exact lN_sub (by omega)
    subst z9
    refine va_put (D := (dC, dI)) (ci := 9) (v := .long (lN (X / 4096 * F (sgA F n (X % 4096)) + X % 4096 - ns F (sgA F n (X % 4096))))) (ty := .long) (C := "RangeCodersModel") (T := T_M) (N := 35) hx hb hg in_M t_M o_M n_M hown hK hP hD hS 2 rfl rfl 29 (by decide) (hg _ k981) (fun _ h9 => h9) rfl (by decide +kernel) rfl rfl (Nat.le_of_ble_eq_true rfl) d_M_getStacked_68 (fun H locs hP hD hS => ?_)
    have hP : va_P (dC, dI) vwCl [((g 8), Sum.inl (cI, 6000, Sum.inl vIn)), ((g 0), Sum.inl (cI, 8, Sum.inl vMany)), (o, Sum.inr (9, mO g fForm fShift fModels fItems fEnded fLow fRange fCache fPend fGoes fOuts (nI is.length) fReads fBad fIR (nI q) fBAsk fCode fRL fRR (lN (X / 4096 * F (sgA F n (X % 4096)) + X % 4096 - ns F (sgA F n (X % 4096)))) fWrites fThrown)), ((g 3), Sum.inl (cI, 512, Sum.inl vThen))] H := hP
    have hD : va_D A [((g 8), Sum.inl (cI, 6000, Sum.inl vIn)), ((g 0), Sum.inl (cI, 8, Sum.inl vMany)), (o, Sum.inr (9, mO g fForm fShift fModels fItems fEnded fLow fRange fCache fPend fGoes fOuts (nI is.length) fReads fBad fIR (nI q) fBAsk fCode fRL fRR (lN (X / 4096 * F (sgA F n (X % 4096)) + X % 4096 - ns F (sgA F n (X % 4096)))) fWrites fThrown)), ((g 3), Sum.inl (cI, 512, Sum.inl vThen))] := hD
    refine lv_aload_n hx hb d_M_getStacked_71 rfl (lv_at hl 2 rfl) ?_
    refine my_cv (wr := [((g 0), Sum.inl (cI, 8, Sum.inl vMany)), ((g 3), Sum.inl (cI, 512, Sum.inl vThen))]) (va_runV (As := []) (rest := []) ⟨hx, hb, hml, hown, hts⟩ (c_M_refill l dC dI cI cM cO H.size o g fForm fShift fModels fItems fEnded fLow fRange fCache fPend fGoes fOuts fReads fBad fIR fBAsk fCode fRL fRR fWrites fThrown vIn (X / 4096 * F (sgA F n (X % 4096)) + X % 4096 - ns F (sgA F n (X % 4096))) is q (hIn) (by assumption) (by assumption) (by omega) (by omega) (by omega)) (cwV 0 hts (my_gV k1244 k1246 ks56 k12 k1247) rfl rfl rfl (by decide +kernel) ⟨by rw [hR]; exact Nat.le_of_ble_eq_true rfl, by rw [hR]; exact Nat.le_of_ble_eq_true rfl⟩) (my_preV hK hN (hP.sub [2, 0] rfl) (hD.sub [2, 0] (by decide +kernel) rfl) 0 rfl rfl) rfl rfl hl.1 rfl (lv_room (Nat.le_of_ble_eq_true rfl)) d_M_getStacked_72 ⟨by rw [hR]; exact Nat.le_of_ble_eq_true rfl, by rw [hR]; exact Nat.le_of_ble_eq_true rfl⟩) hP hD hS hA [2, 0] [1, 3] rfl rfl (by decide +kernel) (by decide +kernel) (fun u9 H locs hw_72 hP hD hS => ?_)
    have hw_72 : True := hw_72
    have hP : va_P (dC, dI) vwCl [((g 0), Sum.inl (cI, 8, Sum.inl vMany)), ((g 3), Sum.inl (cI, 512, Sum.inl vThen)), (o, Sum.inr (9, mO g fForm fShift fModels fItems fEnded fLow fRange fCache fPend fGoes fOuts (nI is.length) fReads fBad fIR (nI (rfS is ((X / 4096 * F (sgA F n (X % 4096)) + X % 4096 - ns F (sgA F n (X % 4096))), q)).2) fBAsk fCode fRL fRR (lN (rfS is ((X / 4096 * F (sgA F n (X % 4096)) + X % 4096 - ns F (sgA F n (X % 4096))), q)).1) fWrites fThrown)), ((g 8), Sum.inl (cI, 6000, Sum.inl vIn))] H := hP
    have hD : va_D A [((g 0), Sum.inl (cI, 8, Sum.inl vMany)), ((g 3), Sum.inl (cI, 512, Sum.inl vThen)), (o, Sum.inr (9, mO g fForm fShift fModels fItems fEnded fLow fRange fCache fPend fGoes fOuts (nI is.length) fReads fBad fIR (nI (rfS is ((X / 4096 * F (sgA F n (X % 4096)) + X % 4096 - ns F (sgA F n (X % 4096))), q)).2) fBAsk fCode fRL fRR (lN (rfS is ((X / 4096 * F (sgA F n (X % 4096)) + X % 4096 - ns F (sgA F n (X % 4096))), q)).1) fWrites fThrown)), ((g 8), Sum.inl (cI, 6000, Sum.inl vIn))] := hD
    refine lv_iload_n hx hb d_M_getStacked_75 rfl (lv_at hl 0 rfl) ?_
    exact my_iret (v := (nI (sgA F n (X % 4096)))) hx hb hr (rfl) hlocks hQ hK hS (Nat.le_refl _) (Nat.le_refl _) () (by rw [hxx]; rfl) (by rw [hxx]; exact (hP.sub [2, 0, 1, 3] rfl)) (by rw [hxx]; exact (hD.sub [2, 0, 1, 3] (by decide +kernel) rfl)) d_M_getStacked_76
  · have hz : ns F n = 0 := (nI_eq (b := 0) (by omega) (by decide)).mp (by rw [← hw_6]; exact c_1)
    have hxx : gs3 is n F X q = (none, (X, q)) := by unfold gs3; rw [if_pos hz]
    refine lv_iconst (v := (-1)) hx hb d_M_getStacked_12 (by decide) ?_
    exact my_iret (v := (-1)) hx hb hr (rfl) hlocks hQ hK hS (Nat.le_refl _) (Nat.le_refl _) () (by rw [hxx]; rfl) (by rw [hxx]; exact (hP.sub [1, 2, 3, 0] rfl)) (by rw [hxx]; exact (hD.sub [1, 2, 3, 0] (by decide +kernel) rfl)) d_M_getStacked_13

