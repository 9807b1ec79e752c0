set_option maxHeartbeats 1000000 in
set_option maxRecDepth 100000 in
/-- leave, form 0 -/
theorem c_M_leave0 (l : Launch) (dC : Nat → ClassId) (dI : Nat → Nat → Nat) (cI cM cO : ClassId) (sz : Nat) (o : Nat) (g : Nat → Nat) (fShift : Int32) (fModels : Int32) (fItems : Int32) (fEnded : Int32) (fLow : Int64) (fRange : Int64) (fCache : Int32) (fPend : Int32) (fGoes : Int32) (fOuts : Int32) (fReads : Int32) (fBad : Int32) (fIR : Int32) (fBAsk : Int32) (fRL : Int64) (fX : Int64) (fWrites : Int32) (fThrown : Int32) (vIn : Nat → Int32) (cc : Nat) (ff : Nat) (tt : Nat) (RR : Nat) (CD : Nat) (is : List Nat) (q : Nat) (hI : gIs vIn is) (hlen : is.length ≤ 6000) (hoct : oct is) (hq : q < 900000) (ht0 : 0 < tt) (ht1 : tt < 2 ^ 31) (hcf : cc + ff ≤ tt) (hff : 0 < ff) (hRt : tt ≤ RR) (hR1 : RR < 4294967296) (hC : CD < 4294967296) (hcv : RR / tt * cc ≤ CD) : MetV l y_M_leave (Cond.code y_M_leave prog_14_method_48_code 6 none :: gw) ({ frames := 2, cells := 0, slots := 0, locals := 41 } : Room) (dC, dI) vwCl (kT cI cM cO) [Value.ref o, Value.int (nI cc), Value.int (nI ff), Value.int (nI tt)] [(o, Sum.inr (9, mO g 0 fShift fModels fItems fEnded fLow fRange fCache fPend fGoes fOuts (nI is.length) fReads fBad fIR (nI q) fBAsk (lN CD) fRL (lN RR) fX fWrites fThrown)), ((g 8), Sum.inl (cI, 6000, Sum.inl vIn))] sz (fun (u : Unit) => True) (fun (u : Unit) => [(o, Sum.inr (9, mO g 0 fShift fModels fItems fEnded fLow fRange fCache fPend fGoes fOuts (nI is.length) fReads fBad fIR (nI (wrS is (RR / tt * ff, CD - RR / tt * cc, q)).2.2) fBAsk (lN (wrS is (RR / tt * ff, CD - RR / tt * cc, q)).2.1) fRL (lN (wrS is (RR / tt * ff, CD - RR / tt * cc, q)).1) fX fWrites fThrown)), ((g 8), Sum.inl (cI, 6000, Sum.inl vIn))]) 0 0 := by
  refine my_ofV (cc := prog_14_method_48_code) (n := 6) (ret := none) (by decide) rfl (Nat.le_of_ble_eq_true rfl) ?_
  intro p e s m args below meth c R Q A ls H locs hx hb hr hts hown hlocks hml hnm hR hQ hA hl hP hK hN hD hS
  have hg : ∀ w ∈ gw, w.before args s = true := fun w h => hts w (List.mem_cons_of_mem _ h)
  have hown : s.vm.findClass "RangeCodersModel" = some m.cls := hown
  have hl : lv_has ls 6 [(0, Value.ref o), (1, Value.int (nI cc)), (2, Value.int (nI ff)), (3, Value.int (nI tt))] := hl
  have hd1 : RR / tt * tt ≤ RR := Nat.div_mul_le_self _ _
  have hd2 : RR / tt * cc + RR / tt * ff ≤ RR / tt * tt := by rw [← Nat.mul_add]; exact Nat.mul_le_mul_left _ hcf
  have hd3 : 0 < RR / tt := Nat.div_pos hRt ht0
  have hd4 : 0 < RR / tt * ff := Nat.mul_pos hd3 hff
  have hd5 : RR / tt ≤ RR := Nat.div_le_self _ _
  generalize hrc : RR / tt * cc = rc at hd2
  generalize hrf : RR / tt * ff = rf at hd2 hd4
  rw [hrc] at hcv
  refine lv_aload_n hx hb d_M_leave_0 rfl (lv_at hl 0 rfl) ?_
  refine va_get (D := (dC, dI)) (ci := 9) (v := .long (lN RR)) (C := "RangeCodersModel") (T := T_M) (N := 35) hx hb hg in_M hown hK hP 0 rfl rfl 28 (by decide) (hg _ k980) (fun _ h9 => h9) rfl d_M_leave_1 ?_
  refine lv_iload_n hx hb d_M_leave_4 rfl (lv_at hl 3 rfl) ?_
  refine lv_i2l hx hb d_M_leave_5 rfl ?_
  refine lv_topl (fun v_1 ev_1 => ?_)
  refine lv_ldiv hx hb d_M_leave_6 (by subst_vars; rw [nI_l (by omega)]; intro z; have := (pk_lEQ (b := 0) (by omega) (by decide)).mp z; omega) ?_
  refine lv_topl (fun v_2 ev_2 => ?_)
  have z9 : v_2 = lN (RR / tt) := by subst_vars; rw [nI_l (by omega)]; exact pk_lDiv (by omega) ht0 (by omega)
  subst z9
  refine lv_lstore (lv' := [(4, Value.long (lN (RR / tt))), (0, Value.ref o), (1, Value.int (nI cc)), (2, Value.int (nI ff)), (3, Value.int (nI tt))]) hx hb d_M_leave_7 hl (by decide) rfl (fun ls hl => ?_)
  refine lv_aload_n hx hb d_M_leave_9 rfl (lv_at hl 1 rfl) ?_
  refine lv_lload hx hb d_M_leave_10 (lv_at hl 0 rfl) ?_
  refine lv_iload_n hx hb d_M_leave_12 rfl (lv_at hl 3 rfl) ?_
  refine lv_i2l hx hb d_M_leave_13 rfl ?_
  refine lv_topl (fun v_3 ev_3 => ?_)
  refine lv_lmul hx hb d_M_leave_14 ?_
  refine lv_topl (fun v_4 ev_4 => ?_)
  have z9 : v_4 = lN rf := by subst_vars; rw [nI_l (by omega), lN_mul]
  subst z9
  refine va_put (D := (dC, dI)) (ci := 9) (v := .long (lN rf)) (ty := .long) (C := "RangeCodersModel") (T := T_M) (N := 35) hx hb hg in_M t_M o_M n_M hown hK hP hD hS 0 rfl rfl 28 (by decide) (hg _ k980) (fun _ h9 => h9) rfl (by decide +kernel) rfl rfl (Nat.le_of_ble_eq_true rfl) d_M_leave_15 (fun H locs hP hD hS => ?_)
  have hP : va_P (dC, dI) vwCl [(o, Sum.inr (9, mO g 0 fShift fModels fItems fEnded fLow fRange fCache fPend fGoes fOuts (nI is.length) fReads fBad fIR (nI q) fBAsk (lN CD) fRL (lN rf) fX fWrites fThrown)), ((g 8), Sum.inl (cI, 6000, Sum.inl vIn))] H := hP
  have hD : va_D A [(o, Sum.inr (9, mO g 0 fShift fModels fItems fEnded fLow fRange fCache fPend fGoes fOuts (nI is.length) fReads fBad fIR (nI q) fBAsk (lN CD) fRL (lN rf) fX fWrites fThrown)), ((g 8), Sum.inl (cI, 6000, Sum.inl vIn))] := hD
  refine lv_aload_n hx hb d_M_leave_18 rfl (lv_at hl 1 rfl) ?_
  refine va_get (D := (dC, dI)) (ci := 9) (v := .int 0) (C := "RangeCodersModel") (T := T_M) (N := 35) hx hb hg in_M hown hK hP 0 rfl rfl 0 (by decide) (hg _ k952) (fun _ h9 => h9) rfl d_M_leave_19 ?_
  refine lv_if_ne (tgt := 46) hx hb d_M_leave_22 (by decide) (fun c_5 => ?_) (fun c_5 => ?_)
  · exact absurd rfl c_5
  · refine lv_aload_n hx hb d_M_leave_25 rfl (lv_at hl 1 rfl) ?_
    refine lv_aload_n hx hb d_M_leave_26 rfl (lv_at hl 1 rfl) ?_
    refine va_get (D := (dC, dI)) (ci := 9) (v := .long (lN CD)) (C := "RangeCodersModel") (T := T_M) (N := 35) hx hb hg in_M hown hK hP 0 rfl rfl 26 (by decide) (hg _ k978) (fun _ h9 => h9) rfl d_M_leave_27 ?_
    refine lv_lload hx hb d_M_leave_30 (lv_at hl 0 rfl) ?_
    refine lv_iload_n hx hb d_M_leave_32 rfl (lv_at hl 2 rfl) ?_
    refine lv_i2l hx hb d_M_leave_33 rfl ?_
    refine lv_topl (fun v_6 ev_6 => ?_)
    refine lv_lmul hx hb d_M_leave_34 ?_
    refine lv_topl (fun v_7 ev_7 => ?_)
    refine lv_lsub hx hb d_M_leave_35 ?_
    refine lv_topl (fun v_8 ev_8 => ?_)
    have z9 : v_8 = lN (CD - rc) := by subst_vars; rw [nI_l (by omega), lN_mul]; exact lN_sub hcv
    subst z9
    refine va_put (D := (dC, dI)) (ci := 9) (v := .long (lN (CD - rc))) (ty := .long) (C := "RangeCodersModel") (T := T_M) (N := 35) hx hb hg in_M t_M o_M n_M hown hK hP hD hS 0 rfl rfl 26 (by decide) (hg _ k978) (fun _ h9 => h9) rfl (by decide +kernel) rfl rfl (Nat.le_of_ble_eq_true rfl) d_M_leave_36 (fun H locs hP hD hS => ?_)
    have hP : va_P (dC, dI) vwCl [(o, Sum.inr (9, mO g 0 fShift fModels fItems fEnded fLow fRange fCache fPend fGoes fOuts (nI is.length) fReads fBad fIR (nI q) fBAsk (lN (CD - rc)) fRL (lN rf) fX fWrites fThrown)), ((g 8), Sum.inl (cI, 6000, Sum.inl vIn))] H := hP
    have hD : va_D A [(o, Sum.inr (9, mO g 0 fShift fModels fItems fEnded fLow fRange fCache fPend fGoes fOuts (nI is.length) fReads fBad fIR (nI q) fBAsk (lN (CD - rc)) fRL (lN rf) fX fWrites fThrown)), ((g 8), Sum.inl (cI, 6000, Sum.inl vIn))] := hD
    refine lv_aload_n hx hb d_M_leave_39 rfl (lv_at hl 1 rfl) ?_
    refine my_cv (wr := []) (va_runV (As := []) (rest := []) ⟨hx, hb, hml, hown, hts⟩ (c_M_widenRead l dC dI cI cM cO H.size o g 0 fShift fModels fItems fEnded fLow fRange fCache fPend fGoes fOuts fReads fBad fIR fBAsk fRL fX fWrites fThrown vIn rf (CD - rc) is q (by assumption) (by assumption) (by assumption) (by assumption) (hd4) (by omega) (by omega)) (cwV 0 hts (my_gV k1223 k1225 ks51 k12 k1226) rfl rfl rfl (by decide +kernel) ⟨by rw [hR]; exact Nat.le_of_ble_eq_true rfl, by rw [hR]; exact Nat.le_of_ble_eq_true rfl⟩) (my_preV hK hN (hP.sub [0, 1] rfl) (hD.sub [0, 1] (by decide +kernel) rfl) 0 rfl rfl) rfl rfl hl.1 rfl (lv_room (Nat.le_of_ble_eq_true rfl)) d_M_leave_40 ⟨by rw [hR]; exact Nat.le_of_ble_eq_true rfl, by rw [hR]; exact Nat.le_of_ble_eq_true rfl⟩) hP hD hS hA [0, 1] [] rfl rfl (by decide +kernel) (by decide +kernel) (fun u9 H locs hw_40 hP hD hS => ?_)
    have hw_40 : True := hw_40
    have hP : va_P (dC, dI) vwCl [(o, Sum.inr (9, mO g 0 fShift fModels fItems fEnded fLow fRange fCache fPend fGoes fOuts (nI is.length) fReads fBad fIR (nI (wrS is (rf, (CD - rc), q)).2.2) fBAsk (lN (wrS is (rf, (CD - rc), q)).2.1) fRL (lN (wrS is (rf, (CD - rc), q)).1) fX fWrites fThrown)), ((g 8), Sum.inl (cI, 6000, Sum.inl vIn))] H := hP
    have hD : va_D A [(o, Sum.inr (9, mO g 0 fShift fModels fItems fEnded fLow fRange fCache fPend fGoes fOuts (nI is.length) fReads fBad fIR (nI (wrS is (rf, (CD - rc), q)).2.2) fBAsk (lN (wrS is (rf, (CD - rc), q)).2.1) fRL (lN (wrS is (rf, (CD - rc), q)).1) fX fWrites fThrown)), ((g 8), Sum.inl (cI, 6000, Sum.inl vIn))] := hD
    refine lv_goto (tgt := 68) hx hb d_M_leave_43 (by decide) ?_
    subst hrc
    subst hrf
    
    
    exact my_vret hx hb hr hlocks hQ hK hS (Nat.le_refl _) (Nat.le_refl _) () (trivial) (hP.sub [0, 1] rfl) (hD.sub [0, 1] (by decide +kernel) rfl) d_M_leave_68
set_option maxHeartbeats 1000000 in
set_option maxRecDepth 100000 in
/-- leave, form 1 -/
theorem c_M_leave1 (l : Launch) (dC : Nat → ClassId) (dI : Nat → Nat → Nat) (cI cM cO : ClassId) (sz : Nat) (o : Nat) (g : Nat → Nat) (fShift : Int32) (fModels : Int32) (fItems : Int32) (fEnded : Int32) (fLow : Int64) (fRange : Int64) (fCache : Int32) (fPend : Int32) (fGoes : Int32) (fOuts : Int32) (fReads : Int32) (fBad : Int32) (fIR : Int32) (fBAsk : Int32) (fX : Int64) (fWrites : Int32) (fThrown : Int32) (vIn : Nat → Int32) (cc : Nat) (ff : Nat) (tt : Nat) (RR : Nat) (L : Nat) (CD : Nat) (is : List Nat) (q : Nat) (hI : gIs vIn is) (hlen : is.length ≤ 6000) (hoct : oct is) (hq : q < 900000) (ht0 : 0 < tt) (ht1 : tt < 2 ^ 31) (hcf : cc + ff ≤ tt) (hff : 0 < ff) (hRt : tt ≤ RR) (hp : pOk RR L) (hC : CD < 4294967296) : MetV l y_M_leave (Cond.code y_M_leave prog_14_method_48_code 6 none :: gw) ({ frames := 2, cells := 0, slots := 0, locals := 43 } : Room) (dC, dI) vwCl (kT cI cM cO) [Value.ref o, Value.int (nI cc), Value.int (nI ff), Value.int (nI tt)] [(o, Sum.inr (9, mO g 1 fShift fModels fItems fEnded fLow fRange fCache fPend fGoes fOuts (nI is.length) fReads fBad fIR (nI q) fBAsk (lN CD) (lN L) (lN RR) fX fWrites fThrown)), ((g 8), Sum.inl (cI, 6000, Sum.inl vIn))] sz (fun (u : Unit) => True) (fun (u : Unit) => [(o, Sum.inr (9, mO g 1 fShift fModels fItems fEnded fLow fRange fCache fPend fGoes fOuts (nI is.length) fReads fBad fIR (nI (prS is (RR / tt * ff, L + RR / tt * cc, CD, q)).2.2.2) fBAsk (lN (prS is (RR / tt * ff, L + RR / tt * cc, CD, q)).2.2.1) (lN (prS is (RR / tt * ff, L + RR / tt * cc, CD, q)).2.1) (lN (prS is (RR / tt * ff, L + RR / tt * cc, CD, q)).1) fX fWrites fThrown)), ((g 8), Sum.inl (cI, 6000, Sum.inl vIn))]) 0 0 := by
  refine my_ofV (cc := prog_14_method_48_code) (n := 6) (ret := none) (by decide) rfl (Nat.le_of_ble_eq_true rfl) ?_
  intro p e s m args below meth c R Q A ls H locs hx hb hr hts hown hlocks hml hnm hR hQ hA hl hP hK hN hD hS
  have hg : ∀ w ∈ gw, w.before args s = true := fun w h => hts w (List.mem_cons_of_mem _ h)
  have hown : s.vm.findClass "RangeCodersModel" = some m.cls := hown
  have hl : lv_has ls 6 [(0, Value.ref o), (1, Value.int (nI cc)), (2, Value.int (nI ff)), (3, Value.int (nI tt))] := hl
  obtain ⟨hp1, hp2, hp3, hp4⟩ := hp
  have hd1 : RR / tt * tt ≤ RR := Nat.div_mul_le_self _ _
  have hd2 : RR / tt * cc + RR / tt * ff ≤ RR / tt * tt := by rw [← Nat.mul_add]; exact Nat.mul_le_mul_left _ hcf
  have hd3 : 0 < RR / tt := Nat.div_pos hRt ht0
  have hd4 : 0 < RR / tt * ff := Nat.mul_pos hd3 hff
  have hd5 : RR / tt ≤ RR := Nat.div_le_self _ _
  generalize hrc : RR / tt * cc = rc at hd2
  generalize hrf : RR / tt * ff = rf at hd2 hd4
  refine lv_aload_n hx hb d_M_leave_0 rfl (lv_at hl 0 rfl) ?_
  refine va_get (D := (dC, dI)) (ci := 9) (v := .long (lN RR)) (C := "RangeCodersModel") (T := T_M) (N := 35) hx hb hg in_M hown hK hP 0 rfl rfl 28 (by decide) (hg _ k980) (fun _ h9 => h9) rfl d_M_leave_1 ?_
  refine lv_iload_n hx hb d_M_leave_4 rfl (lv_at hl 3 rfl) ?_
  refine lv_i2l hx hb d_M_leave_5 rfl ?_
  refine lv_topl (fun v_1 ev_1 => ?_)
  refine lv_ldiv hx hb d_M_leave_6 (by subst_vars; rw [nI_l (by omega)]; intro z; have := (pk_lEQ (b := 0) (by omega) (by decide)).mp z; omega) ?_
  refine lv_topl (fun v_2 ev_2 => ?_)
  have z9 : v_2 = lN (RR / tt) := by subst_vars; rw [nI_l (by omega)]; exact pk_lDiv (by omega) ht0 (by omega)
  subst z9
  refine lv_lstore (lv' := [(4, Value.long (lN (RR / tt))), (0, Value.ref o), (1, Value.int (nI cc)), (2, Value.int (nI ff)), (3, Value.int (nI tt))]) hx hb d_M_leave_7 hl (by decide) rfl (fun ls hl => ?_)
  refine lv_aload_n hx hb d_M_leave_9 rfl (lv_at hl 1 rfl) ?_
  refine lv_lload hx hb d_M_leave_10 (lv_at hl 0 rfl) ?_
  refine lv_iload_n hx hb d_M_leave_12 rfl (lv_at hl 3 rfl) ?_
  refine lv_i2l hx hb d_M_leave_13 rfl ?_
  refine lv_topl (fun v_3 ev_3 => ?_)
  refine lv_lmul hx hb d_M_leave_14 ?_
  refine lv_topl (fun v_4 ev_4 => ?_)
  have z9 : v_4 = lN rf := by subst_vars; rw [nI_l (by omega), lN_mul]
  subst z9
  refine va_put (D := (dC, dI)) (ci := 9) (v := .long (lN rf)) (ty := .long) (C := "RangeCodersModel") (T := T_M) (N := 35) hx hb hg in_M t_M o_M n_M hown hK hP hD hS 0 rfl rfl 28 (by decide) (hg _ k980) (fun _ h9 => h9) rfl (by decide +kernel) rfl rfl (Nat.le_of_ble_eq_true rfl) d_M_leave_15 (fun H locs hP hD hS => ?_)
  have hP : va_P (dC, dI) vwCl [(o, Sum.inr (9, mO g 1 fShift fModels fItems fEnded fLow fRange fCache fPend fGoes fOuts (nI is.length) fReads fBad fIR (nI q) fBAsk (lN CD) (lN L) (lN rf) fX fWrites fThrown)), ((g 8), Sum.inl (cI, 6000, Sum.inl vIn))] H := hP
  have hD : va_D A [(o, Sum.inr (9, mO g 1 fShift fModels fItems fEnded fLow fRange fCache fPend fGoes fOuts (nI is.length) fReads fBad fIR (nI q) fBAsk (lN CD) (lN L) (lN rf) fX fWrites fThrown)), ((g 8), Sum.inl (cI, 6000, Sum.inl vIn))] := hD
  refine lv_aload_n hx hb d_M_leave_18 rfl (lv_at hl 1 rfl) ?_
  refine va_get (D := (dC, dI)) (ci := 9) (v := .int 1) (C := "RangeCodersModel") (T := T_M) (N := 35) hx hb hg in_M hown hK hP 0 rfl rfl 0 (by decide) (hg _ k952) (fun _ h9 => h9) rfl d_M_leave_19 ?_
  refine lv_if_ne (tgt := 46) hx hb d_M_leave_22 (by decide) (fun c_5 => ?_) (fun c_5 => ?_)
  · refine lv_aload_n hx hb d_M_leave_46 rfl (lv_at hl 1 rfl) ?_
    refine lv_aload_n hx hb d_M_leave_47 rfl (lv_at hl 1 rfl) ?_
    refine va_get (D := (dC, dI)) (ci := 9) (v := .long (lN L)) (C := "RangeCodersModel") (T := T_M) (N := 35) hx hb hg in_M hown hK hP 0 rfl rfl 27 (by decide) (hg _ k979) (fun _ h9 => h9) rfl d_M_leave_48 ?_
    refine lv_lload hx hb d_M_leave_51 (lv_at hl 0 rfl) ?_
    refine lv_iload_n hx hb d_M_leave_53 rfl (lv_at hl 2 rfl) ?_
    refine lv_i2l hx hb d_M_leave_54 rfl ?_
    refine lv_topl (fun v_6 ev_6 => ?_)
    refine lv_lmul hx hb d_M_leave_55 ?_
    refine lv_topl (fun v_7 ev_7 => ?_)
    refine lv_ladd hx hb d_M_leave_56 ?_
    refine lv_topl (fun v_8 ev_8 => ?_)
    refine lv_ldc2 (v := 4294967295) hx hb hown (hg _ k927) d_M_leave_57 ?_
    refine lv_land hx hb d_M_leave_60 ?_
    refine lv_topl (fun v_9 ev_9 => ?_)
    have z9 : v_9 = lN (L + rc) := by subst_vars; rw [nI_l (by omega), lN_mul, lN_add, L_and32 (by omega), Nat.mod_eq_of_lt (by omega)]
    subst z9
    refine va_put (D := (dC, dI)) (ci := 9) (v := .long (lN (L + rc))) (ty := .long) (C := "RangeCodersModel") (T := T_M) (N := 35) hx hb hg in_M t_M o_M n_M hown hK hP hD hS 0 rfl rfl 27 (by decide) (hg _ k979) (fun _ h9 => h9) rfl (by decide +kernel) rfl rfl (Nat.le_of_ble_eq_true rfl) d_M_leave_61 (fun H locs hP hD hS => ?_)
    have hP : va_P (dC, dI) vwCl [(o, Sum.inr (9, mO g 1 fShift fModels fItems fEnded fLow fRange fCache fPend fGoes fOuts (nI is.length) fReads fBad fIR (nI q) fBAsk (lN CD) (lN (L + rc)) (lN rf) fX fWrites fThrown)), ((g 8), Sum.inl (cI, 6000, Sum.inl vIn))] H := hP
    have hD : va_D A [(o, Sum.inr (9, mO g 1 fShift fModels fItems fEnded fLow fRange fCache fPend fGoes fOuts (nI is.length) fReads fBad fIR (nI q) fBAsk (lN CD) (lN (L + rc)) (lN rf) fX fWrites fThrown)), ((g 8), Sum.inl (cI, 6000, Sum.inl vIn))] := hD
    refine lv_aload_n hx hb d_M_leave_64 rfl (lv_at hl 1 rfl) ?_
    refine my_cv (wr := []) (va_runV (As := []) (rest := []) ⟨hx, hb, hml, hown, hts⟩ (c_M_widenReadPlain l dC dI cI cM cO H.size o g 1 fShift fModels fItems fEnded fLow fRange fCache fPend fGoes fOuts fReads fBad fIR fBAsk fX fWrites fThrown vIn rf (L + rc) CD is q (by assumption) (by assumption) (by assumption) (by assumption) (⟨by omega, by omega, by omega, fun z => by have := hp4 (by omega); omega⟩) (by assumption)) (cwV 0 hts (my_gV k1227 k1229 ks52 k12 k1230) rfl rfl rfl (by decide +kernel) ⟨by rw [hR]; exact Nat.le_of_ble_eq_true rfl, by rw [hR]; exact Nat.le_of_ble_eq_true rfl⟩) (my_preV hK hN (hP.sub [0, 1] rfl) (hD.sub [0, 1] (by decide +kernel) rfl) 0 rfl rfl) rfl rfl hl.1 rfl (lv_room (Nat.le_of_ble_eq_true rfl)) d_M_leave_65 ⟨by rw [hR]; exact Nat.le_of_ble_eq_true rfl, by rw [hR]; exact Nat.le_of_ble_eq_true rfl⟩) hP hD hS hA [0, 1] [] rfl rfl (by decide +kernel) (by decide +kernel) (fun u9 H locs hw_65 hP hD hS => ?_)
    have hw_65 : True := hw_65
    have hP : va_P (dC, dI) vwCl [(o, Sum.inr (9, mO g 1 fShift fModels fItems fEnded fLow fRange fCache fPend fGoes fOuts (nI is.length) fReads fBad fIR (nI (prS is (rf, (L + rc), CD, q)).2.2.2) fBAsk (lN (prS is (rf, (L + rc), CD, q)).2.2.1) (lN (prS is (rf, (L + rc), CD, q)).2.1) (lN (prS is (rf, (L + rc), CD, q)).1) fX fWrites fThrown)), ((g 8), Sum.inl (cI, 6000, Sum.inl vIn))] H := hP
    have hD : va_D A [(o, Sum.inr (9, mO g 1 fShift fModels fItems fEnded fLow fRange fCache fPend fGoes fOuts (nI is.length) fReads fBad fIR (nI (prS is (rf, (L + rc), CD, q)).2.2.2) fBAsk (lN (prS is (rf, (L + rc), CD, q)).2.2.1) (lN (prS is (rf, (L + rc), CD, q)).2.1) (lN (prS is (rf, (L + rc), CD, q)).1) fX fWrites fThrown)), ((g 8), Sum.inl (cI, 6000, Sum.inl vIn))] := hD
    subst hrc
    subst hrf
    
    
    exact my_vret hx hb hr hlocks hQ hK hS (Nat.le_refl _) (Nat.le_refl _) () (trivial) (hP.sub [0, 1] rfl) (hD.sub [0, 1] (by decide +kernel) rfl) d_M_leave_68
  · exact absurd c_5 (by decide)
set_option maxHeartbeats 1000000 in
set_option maxRecDepth 100000 in
/-- readBit -/
theorem c_M_readBit (l : Launch) (dC : Nat → ClassId) (dI : Nat → Nat → Nat) (cI cM cO : ClassId) (sz : Nat) (o : Nat) (g : Nat → Nat) (fForm : Int32) (fModels : Int32) (fItems : Int32) (fEnded : Int32) (fLow : Int64) (fRange : Int64) (fCache : Int32) (fPend : Int32) (fGoes : Int32) (fOuts : Int32) (fReads : Int32) (fBad : Int32) (fIR : Int32) (fBAsk : Int32) (fRL : Int64) (fX : Int64) (fWrites : Int32) (fThrown : Int32) (vThen : Nat → Int32) (vIn : Nat → Int32) (i : Nat) (pp : Nat) (sh : Nat) (bb : Nat) (RR : Nat) (CD : Nat) (is : List Nat) (q : Nat) (hI : gIs vIn is) (hlen : is.length ≤ 6000) (hoct : oct is) (hq : q < 900000) (hi : i < 512) (hp : vThen i = nI pp) (hp2 : pp ≤ 2048) (hsh : sh ≤ 10) (hb1 : 0 < bb) (hb2 : bb < RR) (hR1 : RR < 4294967296) (hC : CD < 4294967296) : MetI l y_M_readBit (Cond.code y_M_readBit prog_14_method_50_code 5 (some .int) :: gw) ({ frames := 2, cells := 0, slots := 0, locals := 41 } : Room) (dC, dI) vwCl (kT cI cM cO) [Value.ref o, Value.long (lN bb), Value.int (nI i)] [(o, Sum.inr (9, mO g fForm (nI sh) fModels fItems fEnded fLow fRange fCache fPend fGoes fOuts (nI is.length) fReads fBad fIR (nI q) fBAsk (lN CD) fRL (lN RR) fX fWrites fThrown)), ((g 3), Sum.inl (cI, 512, Sum.inl vThen)), ((g 8), Sum.inl (cI, 6000, Sum.inl vIn))] sz (fun (r : Int32) (u : (Nat → Int32)) => r = nI (rbt bb CD) ∧ u = upd vThen i (nI (mvC sh (rbt bb CD) pp))) (fun (u : (Nat → Int32)) => [(o, Sum.inr (9, mO g fForm (nI sh) fModels fItems fEnded fLow fRange fCache fPend fGoes fOuts (nI is.length) fReads fBad fIR (nI (wrS is (rbS bb RR CD q)).2.2) fBAsk (lN (wrS is (rbS bb RR CD q)).2.1) fRL (lN (wrS is (rbS bb RR CD q)).1) fX fWrites fThrown)), ((g 3), Sum.inl (cI, 512, Sum.inl u)), ((g 8), Sum.inl (cI, 6000, Sum.inl vIn))]) 0 0 := by
  refine my_ofI (cc := prog_14_method_50_code) (n := 5) (ret := (some .int)) (by decide) rfl (Nat.le_of_ble_eq_true rfl) ?_
  intro p e s m args below meth c R Q A ls H locs hx hb hr hts hown hlocks hml hnm hR hQ hA hl hP hK hN hD hS
  have hg : ∀ w ∈ gw, w.before args s = true := fun w h => hts w (List.mem_cons_of_mem _ h)
  have hown : s.vm.findClass "RangeCodersModel" = some m.cls := hown
  have hl : lv_has ls 5 [(0, Value.ref o), (1, Value.long (lN bb)), (3, Value.int (nI i))] := hl
  refine lv_aload_n hx hb d_M_readBit_0 rfl (lv_at hl 0 rfl) ?_
  refine va_get (D := (dC, dI)) (ci := 9) (v := .long (lN CD)) (C := "RangeCodersModel") (T := T_M) (N := 35) hx hb hg in_M hown hK hP 0 rfl rfl 26 (by decide) (hg _ k978) (fun _ h9 => h9) rfl d_M_readBit_1 ?_
  refine lv_lload_n hx hb d_M_readBit_4 rfl (lv_at hl 1 rfl) ?_
  refine W.lcmp hx hb d_M_readBit_5 ?_
  refine lv_if_ge (tgt := 13) hx hb d_M_readBit_6 (by decide) (fun c_1 => ?_) (fun c_1 => ?_)
  · rw [lg_cmp_ge] at c_1
    have hlt : ¬ CD < bb := by have := (L_le (by omega) (by omega)).mp c_1; omega
    refine lv_iconst (v := 1) hx hb d_M_readBit_13 (by decide) ?_
    refine lv_istore (lv' := [(4, Value.int 1), (0, Value.ref o), (1, Value.long (lN bb)), (3, Value.int (nI i))]) hx hb d_M_readBit_14 hl (by decide) rfl (fun ls hl => ?_)
    refine lv_iload hx hb d_M_readBit_16 (lv_at hl 0 rfl) ?_
    refine lv_if_ne (tgt := 29) hx hb d_M_readBit_18 (by decide) (fun c_2 => ?_) (fun c_2 => ?_)
    · refine lv_aload_n hx hb d_M_readBit_29 rfl (lv_at hl 1 rfl) ?_
      refine lv_aload_n hx hb d_M_readBit_30 rfl (lv_at hl 1 rfl) ?_
      refine va_get (D := (dC, dI)) (ci := 9) (v := .long (lN CD)) (C := "RangeCodersModel") (T := T_M) (N := 35) hx hb hg in_M hown hK hP 0 rfl rfl 26 (by decide) (hg _ k978) (fun _ h9 => h9) rfl d_M_readBit_31 ?_
      refine lv_lload_n hx hb d_M_readBit_34 rfl (lv_at hl 2 rfl) ?_
      refine lv_lsub hx hb d_M_readBit_35 ?_
      refine lv_topl (fun v_3 ev_3 => ?_)
      have z9 : v_3 = lN (CD - bb) := by subst_vars; exact lN_sub (by omega)
      subst z9
      refine va_put (D := (dC, dI)) (ci := 9) (v := .long (lN (CD - bb))) (ty := .long) (C := "RangeCodersModel") (T := T_M) (N := 35) hx hb hg in_M t_M o_M n_M hown hK hP hD hS 0 rfl rfl 26 (by decide) (hg _ k978) (fun _ h9 => h9) rfl (by decide +kernel) rfl rfl (Nat.le_of_ble_eq_true rfl) d_M_readBit_36 (fun H locs hP hD hS => ?_)
      have hP : va_P (dC, dI) vwCl [(o, Sum.inr (9, mO g fForm (nI sh) fModels fItems fEnded fLow fRange fCache fPend fGoes fOuts (nI is.length) fReads fBad fIR (nI q) fBAsk (lN (CD - bb)) fRL (lN RR) fX fWrites fThrown)), ((g 3), Sum.inl (cI, 512, Sum.inl vThen)), ((g 8), Sum.inl (cI, 6000, Sum.inl vIn))] H := hP
      have hD : va_D A [(o, Sum.inr (9, mO g fForm (nI sh) fModels fItems fEnded fLow fRange fCache fPend fGoes fOuts (nI is.length) fReads fBad fIR (nI q) fBAsk (lN (CD - bb)) fRL (lN RR) fX fWrites fThrown)), ((g 3), Sum.inl (cI, 512, Sum.inl vThen)), ((g 8), Sum.inl (cI, 6000, Sum.inl vIn))] := hD
      refine lv_aload_n hx hb d_M_readBit_39 rfl (lv_at hl 1 rfl) ?_
      refine lv_aload_n hx hb d_M_readBit_40 rfl (lv_at hl 1 rfl) ?_
      refine va_get (D := (dC, dI)) (ci := 9) (v := .long (lN RR)) (C := "RangeCodersModel") (T := T_M) (N := 35) hx hb hg in_M hown hK hP 0 rfl rfl 28 (by decide) (hg _ k980) (fun _ h9 => h9) rfl d_M_readBit_41 ?_
      refine lv_lload_n hx hb d_M_readBit_44 rfl (lv_at hl 2 rfl) ?_
      refine lv_lsub hx hb d_M_readBit_45 ?_
      refine lv_topl (fun v_4 ev_4 => ?_)
      have z9 : v_4 = lN (RR - bb) := by subst_vars; exact lN_sub (by omega)
      subst z9
      refine va_put (D := (dC, dI)) (ci := 9) (v := .long (lN (RR - bb))) (ty := .long) (C := "RangeCodersModel") (T := T_M) (N := 35) hx hb hg in_M t_M o_M n_M hown hK hP hD hS 0 rfl rfl 28 (by decide) (hg _ k980) (fun _ h9 => h9) rfl (by decide +kernel) rfl rfl (Nat.le_of_ble_eq_true rfl) d_M_readBit_46 (fun H locs hP hD hS => ?_)
      have hP : va_P (dC, dI) vwCl [(o, Sum.inr (9, mO g fForm (nI sh) fModels fItems fEnded fLow fRange fCache fPend fGoes fOuts (nI is.length) fReads fBad fIR (nI q) fBAsk (lN (CD - bb)) fRL (lN (RR - bb)) fX fWrites fThrown)), ((g 3), Sum.inl (cI, 512, Sum.inl vThen)), ((g 8), Sum.inl (cI, 6000, Sum.inl vIn))] H := hP
      have hD : va_D A [(o, Sum.inr (9, mO g fForm (nI sh) fModels fItems fEnded fLow fRange fCache fPend fGoes fOuts (nI is.length) fReads fBad fIR (nI q) fBAsk (lN (CD - bb)) fRL (lN (RR - bb)) fX fWrites fThrown)), ((g 3), Sum.inl (cI, 512, Sum.inl vThen)), ((g 8), Sum.inl (cI, 6000, Sum.inl vIn))] := hD
      refine lv_aload_n hx hb d_M_readBit_49 rfl (lv_at hl 1 rfl) ?_
      refine lv_aload_n hx hb d_M_readBit_50 rfl (lv_at hl 1 rfl) ?_
      refine va_get (D := (dC, dI)) (ci := 9) (v := .ref (g 3)) (C := "RangeCodersModel") (T := T_M) (N := 35) hx hb hg in_M hown hK hP 0 rfl rfl 6 (by decide) (hg _ k958) (fun _ h9 => h9) rfl d_M_readBit_51 ?_
      refine lv_iload_n hx hb d_M_readBit_54 rfl (lv_at hl 3 rfl) ?_
      refine lv_iload hx hb d_M_readBit_55 (lv_at hl 0 rfl) ?_
      refine W.eq (g2 := F0 m 57 ls [Value.int (nI 1), Value.int (nI i), Value.ref (g 3), Value.ref o]) rfl ?_
      refine my_cv (wr := [((g 8), Sum.inl (cI, 6000, Sum.inl vIn))]) (va_runV (As := [Value.ref (g 3), Value.int (nI i), Value.int (nI 1)]) (rest := []) ⟨hx, hb, hml, hown, hts⟩ (c_M_moveChance l dC dI cI cM cO H.size o g fForm (nI sh) fModels fItems fEnded fLow fRange fCache fPend fGoes fOuts (nI is.length) fReads fBad fIR (nI q) fBAsk (lN (CD - bb)) fRL (lN (RR - bb)) fX fWrites fThrown (g 3) vThen i pp 1 sh (by assumption) (by assumption) (by assumption) (by assumption) (rfl) (by decide)) (cwV 3 hts (my_gV k1131 k1133 ks37 k12 k1134) rfl rfl rfl (by decide +kernel) ⟨by rw [hR]; exact Nat.le_of_ble_eq_true rfl, by rw [hR]; exact Nat.le_of_ble_eq_true rfl⟩) (my_preV hK hN (hP.sub [0, 1] rfl) (hD.sub [0, 1] (by decide +kernel) rfl) 0 rfl rfl) rfl rfl hl.1 rfl (lv_room (Nat.le_of_ble_eq_true rfl)) d_M_readBit_57 ⟨by rw [hR]; exact Nat.le_of_ble_eq_true rfl, by rw [hR]; exact Nat.le_of_ble_eq_true rfl⟩) hP hD hS hA [0, 1] [2] rfl rfl (by decide +kernel) (by decide +kernel) (fun u9 H locs hw_57 hP hD hS => ?_)
      obtain ⟨f2_57, rfl⟩ : ∃ z, z = u9 := ⟨_, rfl⟩
      have hw_57 : f2_57 = upd vThen i (nI (mvC sh 1 pp)) := hw_57
      have hP : va_P (dC, dI) vwCl [((g 8), Sum.inl (cI, 6000, Sum.inl vIn)), (o, Sum.inr (9, mO g fForm (nI sh) fModels fItems fEnded fLow fRange fCache fPend fGoes fOuts (nI is.length) fReads fBad fIR (nI q) fBAsk (lN (CD - bb)) fRL (lN (RR - bb)) fX fWrites fThrown)), ((g 3), Sum.inl (cI, 512, Sum.inl f2_57))] H := hP
      have hD : va_D A [((g 8), Sum.inl (cI, 6000, Sum.inl vIn)), (o, Sum.inr (9, mO g fForm (nI sh) fModels fItems fEnded fLow fRange fCache fPend fGoes fOuts (nI is.length) fReads fBad fIR (nI q) fBAsk (lN (CD - bb)) fRL (lN (RR - bb)) fX fWrites fThrown)), ((g 3), Sum.inl (cI, 512, Sum.inl f2_57))] := hD
      refine lv_aload_n hx hb d_M_readBit_60 rfl (lv_at hl 1 rfl) ?_
      refine my_cv (wr := [((g 3), Sum.inl (cI, 512, Sum.inl f2_57))]) (va_runV (As := []) (rest := []) ⟨hx, hb, hml, hown, hts⟩ (c_M_widenRead l dC dI cI cM cO H.size o g fForm (nI sh) fModels fItems fEnded fLow fRange fCache fPend fGoes fOuts fReads fBad fIR fBAsk fRL fX fWrites fThrown vIn (RR - bb) (CD - bb) is q (by assumption) (by assumption) (by assumption) (by assumption) (by omega) (by omega) (by omega)) (cwV 0 hts (my_gV k1223 k1225 ks51 k12 k1226) rfl rfl rfl (by decide +kernel) ⟨by rw [hR]; exact Nat.le_of_ble_eq_true rfl, by rw [hR]; exact Nat.le_of_ble_eq_true rfl⟩) (my_preV hK hN (hP.sub [1, 0] rfl) (hD.sub [1, 0] (by decide +kernel) rfl) 0 rfl rfl) rfl rfl hl.1 rfl (lv_room (Nat.le_of_ble_eq_true rfl)) d_M_readBit_61 ⟨by rw [hR]; exact Nat.le_of_ble_eq_true rfl, by rw [hR]; exact Nat.le_of_ble_eq_true rfl⟩) hP hD hS hA [1, 0] [2] rfl rfl (by decide +kernel) (by decide +kernel) (fun u9 H locs hw_61 hP hD hS => ?_)
      have hw_61 : True := hw_61
      have hP : va_P (dC, dI) vwCl [((g 3), Sum.inl (cI, 512, Sum.inl f2_57)), (o, Sum.inr (9, mO g fForm (nI sh) fModels fItems fEnded fLow fRange fCache fPend fGoes fOuts (nI is.length) fReads fBad fIR (nI (wrS is ((RR - bb), (CD - bb), q)).2.2) fBAsk (lN (wrS is ((RR - bb), (CD - bb), q)).2.1) fRL (lN (wrS is ((RR - bb), (CD - bb), q)).1) fX fWrites fThrown)), ((g 8), Sum.inl (cI, 6000, Sum.inl vIn))] H := hP
      have hD : va_D A [((g 3), Sum.inl (cI, 512, Sum.inl f2_57)), (o, Sum.inr (9, mO g fForm (nI sh) fModels fItems fEnded fLow fRange fCache fPend fGoes fOuts (nI is.length) fReads fBad fIR (nI (wrS is ((RR - bb), (CD - bb), q)).2.2) fBAsk (lN (wrS is ((RR - bb), (CD - bb), q)).2.1) fRL (lN (wrS is ((RR - bb), (CD - bb), q)).1) fX fWrites fThrown)), ((g 8), Sum.inl (cI, 6000, Sum.inl vIn))] := hD
      refine lv_iload hx hb d_M_readBit_64 (lv_at hl 0 rfl) ?_
      rw [show ((RR - bb), (CD - bb), q) = rbS bb RR CD q by unfold rbS; rw [if_neg hlt]] at hP hD
      exact my_iret (v := 1) hx hb hr (rfl) hlocks hQ hK hS (Nat.le_refl _) (Nat.le_refl _) f2_57 (by unfold rbt; rw [if_neg hlt]; exact ⟨rfl, hw_57⟩) (hP.sub [1, 0, 2] rfl) (hD.sub [1, 0, 2] (by decide +kernel) rfl) d_M_readBit_66
    · exact absurd c_2 (by decide)
  · rw [lg_cmp_ge] at c_1
    have hlt : CD < bb := by
      rcases Nat.lt_or_ge CD bb with z | z
      · exact z
      · exact absurd ((L_le (by omega) (by omega)).mpr z) c_1
    refine lv_iconst (v := 0) hx hb d_M_readBit_9 (by decide) ?_
    refine lv_goto (tgt := 14) hx hb d_M_readBit_10 (by decide) ?_
    refine lv_istore (lv' := [(4, Value.int 0), (0, Value.ref o), (1, Value.long (lN bb)), (3, Value.int (nI i))]) hx hb d_M_readBit_14 hl (by decide) rfl (fun ls hl => ?_)
    refine lv_iload hx hb d_M_readBit_16 (lv_at hl 0 rfl) ?_
    refine lv_if_ne (tgt := 29) hx hb d_M_readBit_18 (by decide) (fun c_5 => ?_) (fun c_5 => ?_)
    · exact absurd rfl c_5
    · refine lv_aload_n hx hb d_M_readBit_21 rfl (lv_at hl 1 rfl) ?_
      refine lv_lload_n hx hb d_M_readBit_22 rfl (lv_at hl 2 rfl) ?_
      refine va_put (D := (dC, dI)) (ci := 9) (v := .long (lN bb)) (ty := .long) (C := "RangeCodersModel") (T := T_M) (N := 35) hx hb hg in_M t_M o_M n_M hown hK hP hD hS 0 rfl rfl 28 (by decide) (hg _ k980) (fun _ h9 => h9) rfl (by decide +kernel) rfl rfl (Nat.le_of_ble_eq_true rfl) d_M_readBit_23 (fun H locs hP hD hS => ?_)
      have hP : va_P (dC, dI) vwCl [(o, Sum.inr (9, mO g fForm (nI sh) fModels fItems fEnded fLow fRange fCache fPend fGoes fOuts (nI is.length) fReads fBad fIR (nI q) fBAsk (lN CD) fRL (lN bb) fX fWrites fThrown)), ((g 3), Sum.inl (cI, 512, Sum.inl vThen)), ((g 8), Sum.inl (cI, 6000, Sum.inl vIn))] H := hP
      have hD : va_D A [(o, Sum.inr (9, mO g fForm (nI sh) fModels fItems fEnded fLow fRange fCache fPend fGoes fOuts (nI is.length) fReads fBad fIR (nI q) fBAsk (lN CD) fRL (lN bb) fX fWrites fThrown)), ((g 3), Sum.inl (cI, 512, Sum.inl vThen)), ((g 8), Sum.inl (cI, 6000, Sum.inl vIn))] := hD
      refine lv_goto (tgt := 49) hx hb d_M_readBit_26 (by decide) ?_
      refine lv_aload_n hx hb d_M_readBit_49 rfl (lv_at hl 1 rfl) ?_
      refine lv_aload_n hx hb d_M_readBit_50 rfl (lv_at hl 1 rfl) ?_
      refine va_get (D := (dC, dI)) (ci := 9) (v := .ref (g 3)) (C := "RangeCodersModel") (T := T_M) (N := 35) hx hb hg in_M hown hK hP 0 rfl rfl 6 (by decide) (hg _ k958) (fun _ h9 => h9) rfl d_M_readBit_51 ?_
      refine lv_iload_n hx hb d_M_readBit_54 rfl (lv_at hl 3 rfl) ?_
      refine lv_iload hx hb d_M_readBit_55 (lv_at hl 0 rfl) ?_
      refine W.eq (g2 := F0 m 57 ls [Value.int (nI 0), Value.int (nI i), Value.ref (g 3), Value.ref o]) rfl ?_
      refine my_cv (wr := [((g 8), Sum.inl (cI, 6000, Sum.inl vIn))]) (va_runV (As := [Value.ref (g 3), Value.int (nI i), Value.int (nI 0)]) (rest := []) ⟨hx, hb, hml, hown, hts⟩ (c_M_moveChance l dC dI cI cM cO H.size o g fForm (nI sh) fModels fItems fEnded fLow fRange fCache fPend fGoes fOuts (nI is.length) fReads fBad fIR (nI q) fBAsk (lN CD) fRL (lN bb) fX fWrites fThrown (g 3) vThen i pp 0 sh (by assumption) (by assumption) (by assumption) (by assumption) (rfl) (by decide)) (cwV 3 hts (my_gV k1131 k1133 ks37 k12 k1134) rfl rfl rfl (by decide +kernel) ⟨by rw [hR]; exact Nat.le_of_ble_eq_true rfl, by rw [hR]; exact Nat.le_of_ble_eq_true rfl⟩) (my_preV hK hN (hP.sub [0, 1] rfl) (hD.sub [0, 1] (by decide +kernel) rfl) 0 rfl rfl) rfl rfl hl.1 rfl (lv_room (Nat.le_of_ble_eq_true rfl)) d_M_readBit_57 ⟨by rw [hR]; exact Nat.le_of_ble_eq_true rfl, by rw [hR]; exact Nat.le_of_ble_eq_true rfl⟩) hP hD hS hA [0, 1] [2] rfl rfl (by decide +kernel) (by decide +kernel) (fun u9 H locs hw_57 hP hD hS => ?_)
      obtain ⟨f2_57, rfl⟩ : ∃ z, z = u9 := ⟨_, rfl⟩
      have hw_57 : f2_57 = upd vThen i (nI (mvC sh 0 pp)) := hw_57
      have hP : va_P (dC, dI) vwCl [((g 8), Sum.inl (cI, 6000, Sum.inl vIn)), (o, Sum.inr (9, mO g fForm (nI sh) fModels fItems fEnded fLow fRange fCache fPend fGoes fOuts (nI is.length) fReads fBad fIR (nI q) fBAsk (lN CD) fRL (lN bb) fX fWrites fThrown)), ((g 3), Sum.inl (cI, 512, Sum.inl f2_57))] H := hP
      have hD : va_D A [((g 8), Sum.inl (cI, 6000, Sum.inl vIn)), (o, Sum.inr (9, mO g fForm (nI sh) fModels fItems fEnded fLow fRange fCache fPend fGoes fOuts (nI is.length) fReads fBad fIR (nI q) fBAsk (lN CD) fRL (lN bb) fX fWrites fThrown)), ((g 3), Sum.inl (cI, 512, Sum.inl f2_57))] := hD
      refine lv_aload_n hx hb d_M_readBit_60 rfl (lv_at hl 1 rfl) ?_
      refine my_cv (wr := [((g 3), Sum.inl (cI, 512, Sum.inl f2_57))]) (va_runV (As := []) (rest := []) ⟨hx, hb, hml, hown, hts⟩ (c_M_widenRead l dC dI cI cM cO H.size o g fForm (nI sh) fModels fItems fEnded fLow fRange fCache fPend fGoes fOuts fReads fBad fIR fBAsk fRL fX fWrites fThrown vIn bb CD is q (by assumption) (by assumption) (by assumption) (by assumption) (by omega) (by omega) (by omega)) (cwV 0 hts (my_gV k1223 k1225 ks51 k12 k1226) rfl rfl rfl (by decide +kernel) ⟨by rw [hR]; exact Nat.le_of_ble_eq_true rfl, by rw [hR]; exact Nat.le_of_ble_eq_true rfl⟩) (my_preV hK hN (hP.sub [1, 0] rfl) (hD.sub [1, 0] (by decide +kernel) rfl) 0 rfl rfl) rfl rfl hl.1 rfl (lv_room (Nat.le_of_ble_eq_true rfl)) d_M_readBit_61 ⟨by rw [hR]; exact Nat.le_of_ble_eq_true rfl, by rw [hR]; exact Nat.le_of_ble_eq_true rfl⟩) hP hD hS hA [1, 0] [2] rfl rfl (by decide +kernel) (by decide +kernel) (fun u9 H locs hw_61 hP hD hS => ?_)
      have hw_61 : True := hw_61
      have hP : va_P (dC, dI) vwCl [((g 3), Sum.inl (cI, 512, Sum.inl f2_57)), (o, Sum.inr (9, mO g fForm (nI sh) fModels fItems fEnded fLow fRange fCache fPend fGoes fOuts (nI is.length) fReads fBad fIR (nI (wrS is (bb, CD, q)).2.2) fBAsk (lN (wrS is (bb, CD, q)).2.1) fRL (lN (wrS is (bb, CD, q)).1) fX fWrites fThrown)), ((g 8), Sum.inl (cI, 6000, Sum.inl vIn))] H := hP
      have hD : va_D A [((g 3), Sum.inl (cI, 512, Sum.inl f2_57)), (o, Sum.inr (9, mO g fForm (nI sh) fModels fItems fEnded fLow fRange fCache fPend fGoes fOuts (nI is.length) fReads fBad fIR (nI (wrS is (bb, CD, q)).2.2) fBAsk (lN (wrS is (bb, CD, q)).2.1) fRL (lN (wrS is (bb, CD, q)).1) fX fWrites fThrown)), ((g 8), Sum.inl (cI, 6000, Sum.inl vIn))] := hD
      refine lv_iload hx hb d_M_readBit_64 (lv_at hl 0 rfl) ?_
      rw [show (bb, CD, q) = rbS bb RR CD q by unfold rbS; rw [if_pos hlt]] at hP hD
      exact my_iret (v := 0) hx hb hr (rfl) hlocks hQ hK hS (Nat.le_refl _) (Nat.le_refl _) f2_57 (by unfold rbt; rw [if_pos hlt]; exact ⟨rfl, hw_57⟩) (hP.sub [1, 0, 2] rfl) (hD.sub [1, 0, 2] (by decide +kernel) rfl) d_M_readBit_66

