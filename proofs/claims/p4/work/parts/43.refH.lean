set_option maxHeartbeats 1000000 in
set_option maxRecDepth 100000 in
/-- valueOf, form 0 -/
theorem c_M_valueOf0 (l : Launch) (dC : Nat → ClassId) (dI : Nat → Nat → Nat) (cI cM cO : ClassId) (sz : Nat) (o : Nat) (g : Nat → Nat) (fShift : Int32) (fModels : Int32) (fItems : Int32) (fEnded : Int32) (fLow : Int64) (fRange : Int64) (fCache : Int32) (fPend : Int32) (fGoes : Int32) (fOuts : Int32) (fReads : Int32) (fBad : Int32) (fIR : Int32) (fBAsk : Int32) (fRL : Int64) (fX : Int64) (fWrites : Int32) (fThrown : Int32) (vIn : Nat → Int32) (b : Nat) (RR : Nat) (CD : Nat) (is : List Nat) (q : Nat) (hb1 : 1 ≤ b) (hb2 : b ≤ 12) (hIn : gIs vIn is) (hlen : is.length ≤ 6000) (hoct : oct is) (hq : q < 800000) (hR1 : RR < 4294967296) (hC : CD < 4294967296) : MetI l y_M_valueOf (Cond.code y_M_valueOf prog_14_method_58_code 5 (some .int) :: gw) ({ frames := 3, cells := 0, slots := 0, locals := 66 } : Room) (dC, dI) vwCl (kT cI cM cO) [Value.ref o, Value.int (nI b)] [(o, Sum.inr (9, mO g 0 fShift fModels fItems fEnded fLow fRange fCache fPend fGoes fOuts (nI is.length) fReads fBad fIR (nI q) fBAsk (lN CD) fRL (lN RR) fX fWrites fThrown)), ((g 8), Sum.inl (cI, 6000, Sum.inl vIn))] sz (fun (r : Int32) (u : Unit) => r = oI (gv0 is b (RR, CD, q)).1) (fun (u : Unit) => [(o, Sum.inr (9, mO g 0 fShift fModels fItems fEnded fLow fRange fCache fPend fGoes fOuts (nI is.length) fReads fBad fIR (nI (gv0 is b (RR, CD, q)).2.2.2) fBAsk (lN (gv0 is b (RR, CD, q)).2.2.1) fRL (lN (gv0 is b (RR, CD, q)).2.1) fX fWrites fThrown)), ((g 8), Sum.inl (cI, 6000, Sum.inl vIn))]) 0 0 := by
  refine my_ofI (cc := prog_14_method_58_code) (n := 5) (ret := (some .int)) (by decide) rfl (Nat.le_of_ble_eq_true rfl) ?_
  intro p e s m args below meth c R Q A ls H locs hx hb hr hts hown hlocks hml hnm hR hQ hA hl hP hK hN hD hS
  have hg : ∀ w ∈ gw, w.before args s = true := fun w h => hts w (List.mem_cons_of_mem _ h)
  have hown : s.vm.findClass "RangeCodersModel" = some m.cls := hown
  have hl : lv_has ls 5 [(0, Value.ref o), (1, Value.int (nI b))] := hl
  have hpw : 2 ^ b ≤ 2 ^ 12 := Nat.pow_le_pow_right (by decide) hb2
  have hov : ∀ w, wnt (2 ^ b) RR CD = some w → w < 2 ^ 63 := fun w hw => by have := (wnt_some hw).2.2.1; omega
  refine lv_aload_n hx hb d_M_valueOf_0 rfl (lv_at hl 0 rfl) ?_
  refine va_get (D := (dC, dI)) (ci := 9) (v := .int 0) (C := "RangeCodersModel") (T := T_M) (N := 35) hx hb hg in_M hown hK hP 0 rfl rfl 0 (by decide) (hg _ k952) (fun _ h9 => h9) rfl d_M_valueOf_1 ?_
  refine lv_iconst (v := 2) hx hb d_M_valueOf_4 (by decide) ?_
  refine lv_icmp_ge (tgt := 35) hx hb d_M_valueOf_5 (by decide) (fun c_1 => ?_) (fun c_1 => ?_)
  · exact absurd c_1 (by decide)
  · refine lv_aload_n hx hb d_M_valueOf_8 rfl (lv_at hl 0 rfl) ?_
    refine lv_iconst (v := 1) hx hb d_M_valueOf_9 (by decide) ?_
    refine lv_iload_n hx hb d_M_valueOf_10 rfl (lv_at hl 1 rfl) ?_
    refine lv_ishl hx hb d_M_valueOf_11 ?_
    refine lv_topi (fun v_2 ev_2 => ?_)
    have z9 : v_2 = nI (2 ^ b) := by subst_vars; exact shl1 b (by omega)
    subst z9
    refine my_cl (wr := [((g 8), Sum.inl (cI, 6000, Sum.inl vIn))]) (va_runV (As := [Value.int (nI (2 ^ b))]) (rest := []) ⟨hx, hb, hml, hown, hts⟩ (c_M_wanted0 l dC dI cI cM cO H.size o g fShift fModels fItems fEnded fLow fRange fCache fPend fGoes fOuts (nI is.length) fReads fBad fIR (nI q) fBAsk fRL fX fWrites fThrown (2 ^ b) RR CD (by omega) (hR1) (by assumption)) (cwV 1 hts (my_gV k1210 k1212 ks48 k12 k1213) rfl rfl rfl (by decide +kernel) ⟨by rw [hR]; exact Nat.le_of_ble_eq_true rfl, by rw [hR]; exact Nat.le_of_ble_eq_true rfl⟩) (my_preV hK hN (hP.sub [0] rfl) (hD.sub [0] (by decide +kernel) rfl) 0 rfl rfl) rfl rfl hl.1 rfl (lv_room (Nat.le_of_ble_eq_true rfl)) d_M_valueOf_12 ⟨by rw [hR]; exact Nat.le_of_ble_eq_true rfl, by rw [hR]; exact Nat.le_of_ble_eq_true rfl⟩) hP hD hS hA [0] [1] rfl rfl (by decide +kernel) (by decide +kernel) (fun r_12 u9 H locs hw_12 hP hD hS => ?_)
    have hw_12 : r_12 = oL (wnt (2 ^ b) RR CD) := hw_12
    have hP : va_P (dC, dI) vwCl [((g 8), Sum.inl (cI, 6000, Sum.inl vIn)), (o, Sum.inr (9, mO g 0 fShift fModels fItems fEnded fLow fRange fCache fPend fGoes fOuts (nI is.length) fReads fBad fIR (nI q) fBAsk (lN CD) fRL (lN RR) fX fWrites fThrown))] H := hP
    have hD : va_D A [((g 8), Sum.inl (cI, 6000, Sum.inl vIn)), (o, Sum.inr (9, mO g 0 fShift fModels fItems fEnded fLow fRange fCache fPend fGoes fOuts (nI is.length) fReads fBad fIR (nI q) fBAsk (lN CD) fRL (lN RR) fX fWrites fThrown))] := hD
    refine lv_lstore_n (lv' := [(2, Value.long r_12), (0, Value.ref o), (1, Value.int (nI b))]) hx hb d_M_valueOf_15 rfl hl (by decide) rfl (fun ls hl => ?_)
    refine lv_lload_n hx hb d_M_valueOf_16 rfl (lv_at hl 0 rfl) ?_
    refine lv_lconst (v := 0) hx hb d_M_valueOf_17 (by decide) ?_
    refine W.lcmp hx hb d_M_valueOf_18 ?_
    refine lv_if_lt (tgt := 32) hx hb d_M_valueOf_19 (by decide) (fun c_3 => ?_) (fun c_3 => ?_)
    · rw [lg_cmp_lt] at c_3
      have hno : wnt (2 ^ b) RR CD = none := by
        cases hh : wnt (2 ^ b) RR CD with
        | none => rfl
        | some w => exact absurd c_3 (by rw [hw_12, hh]; exact fun z => absurd ((L_lt (b := 0) (by have := hov w hh; omega) (by decide)).mp z) (Nat.not_lt_zero _))
      have hxx : gv0 is b (RR, CD, q) = (none, (RR, CD, q)) := by unfold gv0; simp only [hno]
      refine lv_lload_n hx hb d_M_valueOf_32 rfl (lv_at hl 0 rfl) ?_
      refine lv_l2i hx hb d_M_valueOf_33 rfl ?_
      refine lv_topi (fun v_4 ev_4 => ?_)
      have hrr : v_4 = oI (gv0 is b (RR, CD, q)).1 := by rw [hxx]; subst_vars; rw [hno]; exact (by decide : (oL none).toInt32 = oI none)
      exact my_iret (v := v_4) hx hb hr (rfl) hlocks hQ hK hS (Nat.le_refl _) (Nat.le_refl _) () (hrr) (by rw [hxx]; exact (hP.sub [1, 0] rfl)) (by rw [hxx]; exact (hD.sub [1, 0] (by decide +kernel) rfl)) d_M_valueOf_34
    · rw [lg_cmp_lt] at c_3
      obtain ⟨uu, huu⟩ : ∃ w, wnt (2 ^ b) RR CD = some w := by
        cases hh : wnt (2 ^ b) RR CD with
        | none => exact absurd (show r_12 < 0 by rw [hw_12, hh]; decide) c_3
        | some w => exact ⟨w, rfl⟩
      have hws := wnt_some huu
      have hxx : gv0 is b (RR, CD, q) = (some uu, wrS is (RR / 2 ^ b * 1, CD - RR / 2 ^ b * uu, q)) := by unfold gv0; simp only [huu]
      have z9 : r_12 = lN uu := by rw [hw_12, huu]; rfl
      subst z9
      refine lv_aload_n hx hb d_M_valueOf_22 rfl (lv_at hl 1 rfl) ?_
      refine lv_lload_n hx hb d_M_valueOf_23 rfl (lv_at hl 0 rfl) ?_
      refine lv_l2i hx hb d_M_valueOf_24 rfl ?_
      refine lv_topi (fun v_5 ev_5 => ?_)
      have z9 : v_5 = nI uu := by subst_vars; exact lN_i _
      subst z9
      refine lv_iconst (v := 1) hx hb d_M_valueOf_25 (by decide) ?_
      refine lv_iconst (v := 1) hx hb d_M_valueOf_26 (by decide) ?_
      refine lv_iload_n hx hb d_M_valueOf_27 rfl (lv_at hl 2 rfl) ?_
      refine lv_ishl hx hb d_M_valueOf_28 ?_
      refine lv_topi (fun v_6 ev_6 => ?_)
      have z9 : v_6 = nI (2 ^ b) := by subst_vars; exact shl1 b (by omega)
      subst z9
      refine W.eq (g2 := F0 m 29 ls [Value.int (nI (2 ^ b)), Value.int (nI 1), Value.int (nI uu), Value.ref o]) rfl ?_
      refine my_cv (wr := []) (va_runV (As := [Value.int (nI uu), Value.int (nI 1), Value.int (nI (2 ^ b))]) (rest := []) ⟨hx, hb, hml, hown, hts⟩ (c_M_leave0 l dC dI cI cM cO H.size o g fShift fModels fItems fEnded fLow fRange fCache fPend fGoes fOuts fReads fBad fIR fBAsk fRL fX fWrites fThrown vIn uu 1 (2 ^ b) RR CD is q (hIn) (by assumption) (by assumption) (by omega) (hws.1) (by omega) (hws.2.2.1) (by decide) (hws.2.1) (hR1) (by assumption) (hws.2.2.2.1)) (cwV 3 hts (my_gV k1219 k1221 ks50 k12 k1222) rfl rfl rfl (by decide +kernel) ⟨by rw [hR]; exact Nat.le_of_ble_eq_true rfl, by rw [hR]; exact Nat.le_of_ble_eq_true rfl⟩) (my_preV hK hN (hP.sub [1, 0] rfl) (hD.sub [1, 0] (by decide +kernel) rfl) 0 rfl rfl) rfl rfl hl.1 rfl (lv_room (Nat.le_of_ble_eq_true rfl)) d_M_valueOf_29 ⟨by rw [hR]; exact Nat.le_of_ble_eq_true rfl, by rw [hR]; exact Nat.le_of_ble_eq_true rfl⟩) hP hD hS hA [1, 0] [] rfl rfl (by decide +kernel) (by decide +kernel) (fun u9 H locs hw_29 hP hD hS => ?_)
      have hw_29 : True := hw_29
      have hP : va_P (dC, dI) vwCl [(o, Sum.inr (9, mO g 0 fShift fModels fItems fEnded fLow fRange fCache fPend fGoes fOuts (nI is.length) fReads fBad fIR (nI (wrS is (RR / (2 ^ b) * 1, CD - RR / (2 ^ b) * uu, q)).2.2) fBAsk (lN (wrS is (RR / (2 ^ b) * 1, CD - RR / (2 ^ b) * uu, q)).2.1) fRL (lN (wrS is (RR / (2 ^ b) * 1, CD - RR / (2 ^ b) * uu, q)).1) fX fWrites fThrown)), ((g 8), Sum.inl (cI, 6000, Sum.inl vIn))] H := hP
      have hD : va_D A [(o, Sum.inr (9, mO g 0 fShift fModels fItems fEnded fLow fRange fCache fPend fGoes fOuts (nI is.length) fReads fBad fIR (nI (wrS is (RR / (2 ^ b) * 1, CD - RR / (2 ^ b) * uu, q)).2.2) fBAsk (lN (wrS is (RR / (2 ^ b) * 1, CD - RR / (2 ^ b) * uu, q)).2.1) fRL (lN (wrS is (RR / (2 ^ b) * 1, CD - RR / (2 ^ b) * uu, q)).1) fX fWrites fThrown)), ((g 8), Sum.inl (cI, 6000, Sum.inl vIn))] := hD
      refine lv_lload_n hx hb d_M_valueOf_32 rfl (lv_at hl 0 rfl) ?_
      refine lv_l2i hx hb d_M_valueOf_33 rfl ?_
      refine lv_topi (fun v_7 ev_7 => ?_)
      have hrr : v_7 = oI (gv0 is b (RR, CD, q)).1 := by rw [hxx]; subst_vars; exact lN_i _
      exact my_iret (v := v_7) hx hb hr (rfl) hlocks hQ hK hS (Nat.le_refl _) (Nat.le_refl _) () (hrr) (by rw [hxx]; exact (hP.sub [0, 1] rfl)) (by rw [hxx]; exact (hD.sub [0, 1] (by decide +kernel) rfl)) d_M_valueOf_34
set_option maxHeartbeats 1000000 in
set_option maxRecDepth 100000 in
/-- valueOf, form 1 -/
theorem c_M_valueOf1 (l : Launch) (dC : Nat → ClassId) (dI : Nat → Nat → Nat) (cI cM cO : ClassId) (sz : Nat) (o : Nat) (g : Nat → Nat) (fShift : Int32) (fModels : Int32) (fItems : Int32) (fEnded : Int32) (fLow : Int64) (fRange : Int64) (fCache : Int32) (fPend : Int32) (fGoes : Int32) (fOuts : Int32) (fReads : Int32) (fBad : Int32) (fIR : Int32) (fBAsk : Int32) (fX : Int64) (fWrites : Int32) (fThrown : Int32) (vIn : Nat → Int32) (b : Nat) (RR : Nat) (L : Nat) (CD : Nat) (is : List Nat) (q : Nat) (hb1 : 1 ≤ b) (hb2 : b ≤ 12) (hIn : gIs vIn is) (hlen : is.length ≤ 6000) (hoct : oct is) (hq : q < 800000) (hp : pOk RR L) (hC : CD < 4294967296) : MetI l y_M_valueOf (Cond.code y_M_valueOf prog_14_method_58_code 5 (some .int) :: gw) ({ frames := 3, cells := 0, slots := 0, locals := 68 } : Room) (dC, dI) vwCl (kT cI cM cO) [Value.ref o, Value.int (nI b)] [(o, Sum.inr (9, mO g 1 fShift fModels fItems fEnded fLow fRange fCache fPend fGoes fOuts (nI is.length) fReads fBad fIR (nI q) fBAsk (lN CD) (lN L) (lN RR) fX fWrites fThrown)), ((g 8), Sum.inl (cI, 6000, Sum.inl vIn))] sz (fun (r : Int32) (u : Unit) => r = oI (gv1 is b (RR, L, CD, q)).1) (fun (u : Unit) => [(o, Sum.inr (9, mO g 1 fShift fModels fItems fEnded fLow fRange fCache fPend fGoes fOuts (nI is.length) fReads fBad fIR (nI (gv1 is b (RR, L, CD, q)).2.2.2.2) fBAsk (lN (gv1 is b (RR, L, CD, q)).2.2.2.1) (lN (gv1 is b (RR, L, CD, q)).2.2.1) (lN (gv1 is b (RR, L, CD, q)).2.1) fX fWrites fThrown)), ((g 8), Sum.inl (cI, 6000, Sum.inl vIn))]) 0 0 := by
  refine my_ofI (cc := prog_14_method_58_code) (n := 5) (ret := (some .int)) (by decide) rfl (Nat.le_of_ble_eq_true rfl) ?_
  intro p e s m args below meth c R Q A ls H locs hx hb hr hts hown hlocks hml hnm hR hQ hA hl hP hK hN hD hS
  have hg : ∀ w ∈ gw, w.before args s = true := fun w h => hts w (List.mem_cons_of_mem _ h)
  have hown : s.vm.findClass "RangeCodersModel" = some m.cls := hown
  have hl : lv_has ls 5 [(0, Value.ref o), (1, Value.int (nI b))] := hl
  have hpw : 2 ^ b ≤ 2 ^ 12 := Nat.pow_le_pow_right (by decide) hb2
  have hov : ∀ w, wnt (2 ^ b) RR ((CD + 4294967296 - L) % 4294967296) = some w → w < 2 ^ 63 := fun w hw => by have := (wnt_some hw).2.2.1; omega
  refine lv_aload_n hx hb d_M_valueOf_0 rfl (lv_at hl 0 rfl) ?_
  refine va_get (D := (dC, dI)) (ci := 9) (v := .int 1) (C := "RangeCodersModel") (T := T_M) (N := 35) hx hb hg in_M hown hK hP 0 rfl rfl 0 (by decide) (hg _ k952) (fun _ h9 => h9) rfl d_M_valueOf_1 ?_
  refine lv_iconst (v := 2) hx hb d_M_valueOf_4 (by decide) ?_
  refine lv_icmp_ge (tgt := 35) hx hb d_M_valueOf_5 (by decide) (fun c_1 => ?_) (fun c_1 => ?_)
  · exact absurd c_1 (by decide)
  · refine lv_aload_n hx hb d_M_valueOf_8 rfl (lv_at hl 0 rfl) ?_
    refine lv_iconst (v := 1) hx hb d_M_valueOf_9 (by decide) ?_
    refine lv_iload_n hx hb d_M_valueOf_10 rfl (lv_at hl 1 rfl) ?_
    refine lv_ishl hx hb d_M_valueOf_11 ?_
    refine lv_topi (fun v_2 ev_2 => ?_)
    have z9 : v_2 = nI (2 ^ b) := by subst_vars; exact shl1 b (by omega)
    subst z9
    refine my_cl (wr := [((g 8), Sum.inl (cI, 6000, Sum.inl vIn))]) (va_runV (As := [Value.int (nI (2 ^ b))]) (rest := []) ⟨hx, hb, hml, hown, hts⟩ (c_M_wanted1 l dC dI cI cM cO H.size o g fShift fModels fItems fEnded fLow fRange fCache fPend fGoes fOuts (nI is.length) fReads fBad fIR (nI q) fBAsk fX fWrites fThrown (2 ^ b) RR CD L (by omega) (pOk_lt hp) (by assumption) (hp.1)) (cwV 1 hts (my_gV k1210 k1212 ks48 k12 k1213) rfl rfl rfl (by decide +kernel) ⟨by rw [hR]; exact Nat.le_of_ble_eq_true rfl, by rw [hR]; exact Nat.le_of_ble_eq_true rfl⟩) (my_preV hK hN (hP.sub [0] rfl) (hD.sub [0] (by decide +kernel) rfl) 0 rfl rfl) rfl rfl hl.1 rfl (lv_room (Nat.le_of_ble_eq_true rfl)) d_M_valueOf_12 ⟨by rw [hR]; exact Nat.le_of_ble_eq_true rfl, by rw [hR]; exact Nat.le_of_ble_eq_true rfl⟩) hP hD hS hA [0] [1] rfl rfl (by decide +kernel) (by decide +kernel) (fun r_12 u9 H locs hw_12 hP hD hS => ?_)
    have hw_12 : r_12 = oL (wnt (2 ^ b) RR ((CD + 4294967296 - L) % 4294967296)) := hw_12
    have hP : va_P (dC, dI) vwCl [((g 8), Sum.inl (cI, 6000, Sum.inl vIn)), (o, Sum.inr (9, mO g 1 fShift fModels fItems fEnded fLow fRange fCache fPend fGoes fOuts (nI is.length) fReads fBad fIR (nI q) fBAsk (lN CD) (lN L) (lN RR) fX fWrites fThrown))] H := hP
    have hD : va_D A [((g 8), Sum.inl (cI, 6000, Sum.inl vIn)), (o, Sum.inr (9, mO g 1 fShift fModels fItems fEnded fLow fRange fCache fPend fGoes fOuts (nI is.length) fReads fBad fIR (nI q) fBAsk (lN CD) (lN L) (lN RR) fX fWrites fThrown))] := hD
    refine lv_lstore_n (lv' := [(2, Value.long r_12), (0, Value.ref o), (1, Value.int (nI b))]) hx hb d_M_valueOf_15 rfl hl (by decide) rfl (fun ls hl => ?_)
    refine lv_lload_n hx hb d_M_valueOf_16 rfl (lv_at hl 0 rfl) ?_
    refine lv_lconst (v := 0) hx hb d_M_valueOf_17 (by decide) ?_
    refine W.lcmp hx hb d_M_valueOf_18 ?_
    refine lv_if_lt (tgt := 32) hx hb d_M_valueOf_19 (by decide) (fun c_3 => ?_) (fun c_3 => ?_)
    · rw [lg_cmp_lt] at c_3
      have hno : wnt (2 ^ b) RR ((CD + 4294967296 - L) % 4294967296) = none := by
        cases hh : wnt (2 ^ b) RR ((CD + 4294967296 - L) % 4294967296) with
        | none => rfl
        | some w => exact absurd c_3 (by rw [hw_12, hh]; exact fun z => absurd ((L_lt (b := 0) (by have := hov w hh; omega) (by decide)).mp z) (Nat.not_lt_zero _))
      have hxx : gv1 is b (RR, L, CD, q) = (none, (RR, L, CD, q)) := by unfold gv1; simp only [hno]
      refine lv_lload_n hx hb d_M_valueOf_32 rfl (lv_at hl 0 rfl) ?_
      refine lv_l2i hx hb d_M_valueOf_33 rfl ?_
      refine lv_topi (fun v_4 ev_4 => ?_)
      have hrr : v_4 = oI (gv1 is b (RR, L, CD, q)).1 := by rw [hxx]; subst_vars; rw [hno]; exact (by decide : (oL none).toInt32 = oI none)
      exact my_iret (v := v_4) hx hb hr (rfl) hlocks hQ hK hS (Nat.le_refl _) (Nat.le_refl _) () (hrr) (by rw [hxx]; exact (hP.sub [1, 0] rfl)) (by rw [hxx]; exact (hD.sub [1, 0] (by decide +kernel) rfl)) d_M_valueOf_34
    · rw [lg_cmp_lt] at c_3
      obtain ⟨uu, huu⟩ : ∃ w, wnt (2 ^ b) RR ((CD + 4294967296 - L) % 4294967296) = some w := by
        cases hh : wnt (2 ^ b) RR ((CD + 4294967296 - L) % 4294967296) with
        | none => exact absurd (show r_12 < 0 by rw [hw_12, hh]; decide) c_3
        | some w => exact ⟨w, rfl⟩
      have hws := wnt_some huu
      have hxx : gv1 is b (RR, L, CD, q) = (some uu, prS is (RR / 2 ^ b * 1, L + RR / 2 ^ b * uu, CD, q)) := by unfold gv1; simp only [huu]
      have z9 : r_12 = lN uu := by rw [hw_12, huu]; rfl
      subst z9
      refine lv_aload_n hx hb d_M_valueOf_22 rfl (lv_at hl 1 rfl) ?_
      refine lv_lload_n hx hb d_M_valueOf_23 rfl (lv_at hl 0 rfl) ?_
      refine lv_l2i hx hb d_M_valueOf_24 rfl ?_
      refine lv_topi (fun v_5 ev_5 => ?_)
      have z9 : v_5 = nI uu := by subst_vars; exact lN_i _
      subst z9
      refine lv_iconst (v := 1) hx hb d_M_valueOf_25 (by decide) ?_
      refine lv_iconst (v := 1) hx hb d_M_valueOf_26 (by decide) ?_
      refine lv_iload_n hx hb d_M_valueOf_27 rfl (lv_at hl 2 rfl) ?_
      refine lv_ishl hx hb d_M_valueOf_28 ?_
      refine lv_topi (fun v_6 ev_6 => ?_)
      have z9 : v_6 = nI (2 ^ b) := by subst_vars; exact shl1 b (by omega)
      subst z9
      refine W.eq (g2 := F0 m 29 ls [Value.int (nI (2 ^ b)), Value.int (nI 1), Value.int (nI uu), Value.ref o]) rfl ?_
      refine my_cv (wr := []) (va_runV (As := [Value.int (nI uu), Value.int (nI 1), Value.int (nI (2 ^ b))]) (rest := []) ⟨hx, hb, hml, hown, hts⟩ (c_M_leave1 l dC dI cI cM cO H.size o g fShift fModels fItems fEnded fLow fRange fCache fPend fGoes fOuts fReads fBad fIR fBAsk fX fWrites fThrown vIn uu 1 (2 ^ b) RR L CD is q (hIn) (by assumption) (by assumption) (by omega) (hws.1) (by omega) (hws.2.2.1) (by decide) (hws.2.1) (hp) (by assumption)) (cwV 3 hts (my_gV k1219 k1221 ks50 k12 k1222) rfl rfl rfl (by decide +kernel) ⟨by rw [hR]; exact Nat.le_of_ble_eq_true rfl, by rw [hR]; exact Nat.le_of_ble_eq_true rfl⟩) (my_preV hK hN (hP.sub [1, 0] rfl) (hD.sub [1, 0] (by decide +kernel) rfl) 0 rfl rfl) rfl rfl hl.1 rfl (lv_room (Nat.le_of_ble_eq_true rfl)) d_M_valueOf_29 ⟨by rw [hR]; exact Nat.le_of_ble_eq_true rfl, by rw [hR]; exact Nat.le_of_ble_eq_true rfl⟩) hP hD hS hA [1, 0] [] rfl rfl (by decide +kernel) (by decide +kernel) (fun u9 H locs hw_29 hP hD hS => ?_)
      have hw_29 : True := hw_29
      have hP : va_P (dC, dI) vwCl [(o, Sum.inr (9, mO g 1 fShift fModels fItems fEnded fLow fRange fCache fPend fGoes fOuts (nI is.length) fReads fBad fIR (nI (prS is (RR / (2 ^ b) * 1, L + RR / (2 ^ b) * uu, CD, q)).2.2.2) fBAsk (lN (prS is (RR / (2 ^ b) * 1, L + RR / (2 ^ b) * uu, CD, q)).2.2.1) (lN (prS is (RR / (2 ^ b) * 1, L + RR / (2 ^ b) * uu, CD, q)).2.1) (lN (prS is (RR / (2 ^ b) * 1, L + RR / (2 ^ b) * uu, CD, q)).1) fX fWrites fThrown)), ((g 8), Sum.inl (cI, 6000, Sum.inl vIn))] H := hP
      have hD : va_D A [(o, Sum.inr (9, mO g 1 fShift fModels fItems fEnded fLow fRange fCache fPend fGoes fOuts (nI is.length) fReads fBad fIR (nI (prS is (RR / (2 ^ b) * 1, L + RR / (2 ^ b) * uu, CD, q)).2.2.2) fBAsk (lN (prS is (RR / (2 ^ b) * 1, L + RR / (2 ^ b) * uu, CD, q)).2.2.1) (lN (prS is (RR / (2 ^ b) * 1, L + RR / (2 ^ b) * uu, CD, q)).2.1) (lN (prS is (RR / (2 ^ b) * 1, L + RR / (2 ^ b) * uu, CD, q)).1) fX fWrites fThrown)), ((g 8), Sum.inl (cI, 6000, Sum.inl vIn))] := hD
      refine lv_lload_n hx hb d_M_valueOf_32 rfl (lv_at hl 0 rfl) ?_
      refine lv_l2i hx hb d_M_valueOf_33 rfl ?_
      refine lv_topi (fun v_7 ev_7 => ?_)
      have hrr : v_7 = oI (gv1 is b (RR, L, CD, q)).1 := by rw [hxx]; subst_vars; exact lN_i _
      exact my_iret (v := v_7) hx hb hr (rfl) hlocks hQ hK hS (Nat.le_refl _) (Nat.le_refl _) () (hrr) (by rw [hxx]; exact (hP.sub [0, 1] rfl)) (by rw [hxx]; exact (hD.sub [0, 1] (by decide +kernel) rfl)) d_M_valueOf_34
set_option maxHeartbeats 1000000 in
set_option maxRecDepth 100000 in
/-- valueOf, form 2 -/
theorem c_M_valueOf2 (l : Launch) (dC : Nat → ClassId) (dI : Nat → Nat → Nat) (cI cM cO : ClassId) (sz : Nat) (o : Nat) (g : Nat → Nat) (fShift : Int32) (fModels : Int32) (fItems : Int32) (fEnded : Int32) (fLow : Int64) (fRange : Int64) (fCache : Int32) (fPend : Int32) (fGoes : Int32) (fOuts : Int32) (fReads : Int32) (fBad : Int32) (fIR : Int32) (fBAsk : Int32) (fRL : Int64) (fX : Int64) (fWrites : Int32) (fThrown : Int32) (vIn : Nat → Int32) (b : Nat) (RR : Nat) (CD : Nat) (is : List Nat) (q : Nat) (hIn : gIs vIn is) (hlen : is.length ≤ 6000) (hoct : oct is) (hq : q < 800000) (hb2 : b ≤ 12) (hI : rInv (RR, CD, q)) : MetI l y_M_valueOf (Cond.code y_M_valueOf prog_14_method_58_code 5 (some .int) :: gw) ({ frames := 3, cells := 0, slots := 0, locals := 65 } : Room) (dC, dI) vwCl (kT cI cM cO) [Value.ref o, Value.int (nI b)] [(o, Sum.inr (9, mO g 2 fShift fModels fItems fEnded fLow fRange fCache fPend fGoes fOuts (nI is.length) fReads fBad fIR (nI q) fBAsk (lN CD) fRL (lN RR) fX fWrites fThrown)), ((g 8), Sum.inl (cI, 6000, Sum.inl vIn))] sz (fun (r : Int32) (u : Unit) => r = oI (pbS is b (RR, CD, q)).1) (fun (u : Unit) => [(o, Sum.inr (9, mO g 2 fShift fModels fItems fEnded fLow fRange fCache fPend fGoes fOuts (nI is.length) fReads fBad fIR (nI (pbS is b (RR, CD, q)).2.2.2) fBAsk (lN (pbS is b (RR, CD, q)).2.2.1) fRL (lN (pbS is b (RR, CD, q)).2.1) fX fWrites fThrown)), ((g 8), Sum.inl (cI, 6000, Sum.inl vIn))]) 0 0 := by
  refine my_ofI (cc := prog_14_method_58_code) (n := 5) (ret := (some .int)) (by decide) rfl (Nat.le_of_ble_eq_true rfl) ?_
  intro p e s m args below meth c R Q A ls H locs hx hb hr hts hown hlocks hml hnm hR hQ hA hl hP hK hN hD hS
  have hg : ∀ w ∈ gw, w.before args s = true := fun w h => hts w (List.mem_cons_of_mem _ h)
  have hown : s.vm.findClass "RangeCodersModel" = some m.cls := hown
  have hl : lv_has ls 5 [(0, Value.ref o), (1, Value.int (nI b))] := hl
  refine lv_aload_n hx hb d_M_valueOf_0 rfl (lv_at hl 0 rfl) ?_
  refine va_get (D := (dC, dI)) (ci := 9) (v := .int 2) (C := "RangeCodersModel") (T := T_M) (N := 35) hx hb hg in_M hown hK hP 0 rfl rfl 0 (by decide) (hg _ k952) (fun _ h9 => h9) rfl d_M_valueOf_1 ?_
  refine lv_iconst (v := 2) hx hb d_M_valueOf_4 (by decide) ?_
  refine lv_icmp_ge (tgt := 35) hx hb d_M_valueOf_5 (by decide) (fun c_1 => ?_) (fun c_1 => ?_)
  · refine lv_aload_n hx hb d_M_valueOf_35 rfl (lv_at hl 0 rfl) ?_
    refine va_get (D := (dC, dI)) (ci := 9) (v := .int 2) (C := "RangeCodersModel") (T := T_M) (N := 35) hx hb hg in_M hown hK hP 0 rfl rfl 0 (by decide) (hg _ k952) (fun _ h9 => h9) rfl d_M_valueOf_36 ?_
    refine lv_iconst (v := 2) hx hb d_M_valueOf_39 (by decide) ?_
    refine lv_icmp_ne (tgt := 49) hx hb d_M_valueOf_40 (by decide) (fun c_2 => ?_) (fun c_2 => ?_)
    · exact absurd rfl c_2
    · refine lv_aload_n hx hb d_M_valueOf_43 rfl (lv_at hl 0 rfl) ?_
      refine lv_iload_n hx hb d_M_valueOf_44 rfl (lv_at hl 1 rfl) ?_
      refine my_ci (wr := []) (va_runV (As := [Value.int (nI b)]) (rest := []) ⟨hx, hb, hml, hown, hts⟩ (c_M_plainBits l dC dI cI cM cO H.size o g 2 fShift fModels fItems fEnded fLow fRange fCache fPend fGoes fOuts fReads fBad fIR fBAsk fRL fX fWrites fThrown vIn b RR CD is q (by assumption) (by assumption) (by assumption) (by assumption) (by assumption) (by assumption)) (cwV 1 hts (my_gV k1264 k1266 ks60 k12 k1267) rfl rfl rfl (by decide +kernel) ⟨by rw [hR]; exact Nat.le_of_ble_eq_true rfl, by rw [hR]; exact Nat.le_of_ble_eq_true rfl⟩) (my_preV hK hN (hP.sub [0, 1] rfl) (hD.sub [0, 1] (by decide +kernel) rfl) 0 rfl rfl) rfl rfl hl.1 rfl (lv_room (Nat.le_of_ble_eq_true rfl)) d_M_valueOf_45 ⟨by rw [hR]; exact Nat.le_of_ble_eq_true rfl, by rw [hR]; exact Nat.le_of_ble_eq_true rfl⟩) hP hD hS hA [0, 1] [] rfl rfl (by decide +kernel) (by decide +kernel) (fun r_45 u9 H locs hw_45 hP hD hS => ?_)
      have hw_45 : r_45 = oI (pbS is b (RR, CD, q)).1 := hw_45
      have hP : va_P (dC, dI) vwCl [(o, Sum.inr (9, mO g 2 fShift fModels fItems fEnded fLow fRange fCache fPend fGoes fOuts (nI is.length) fReads fBad fIR (nI (pbS is b (RR, CD, q)).2.2.2) fBAsk (lN (pbS is b (RR, CD, q)).2.2.1) fRL (lN (pbS is b (RR, CD, q)).2.1) fX fWrites fThrown)), ((g 8), Sum.inl (cI, 6000, Sum.inl vIn))] H := hP
      have hD : va_D A [(o, Sum.inr (9, mO g 2 fShift fModels fItems fEnded fLow fRange fCache fPend fGoes fOuts (nI is.length) fReads fBad fIR (nI (pbS is b (RR, CD, q)).2.2.2) fBAsk (lN (pbS is b (RR, CD, q)).2.2.1) fRL (lN (pbS is b (RR, CD, q)).2.1) fX fWrites fThrown)), ((g 8), Sum.inl (cI, 6000, Sum.inl vIn))] := hD
      exact my_iret (v := r_45) hx hb hr (rfl) hlocks hQ hK hS (Nat.le_refl _) (Nat.le_refl _) () (hw_45) (hP.sub [0, 1] rfl) (hD.sub [0, 1] (by decide +kernel) rfl) d_M_valueOf_48
  · exact absurd (by decide) c_1

