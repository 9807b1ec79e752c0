set_option maxHeartbeats 1000000 in
set_option maxRecDepth 100000 in
/-- putValue, form 0 -/
theorem c_M_putValue0 (l : Launch) (dC : Nat → ClassId) (dI : Nat → Nat → Nat) (cI cM cO : ClassId) (sz : Nat) (o : Nat) (g : Nat → Nat) (fShift : Int32) (fModels : Int32) (fItems : Int32) (fEnded : Int32) (fOuts : Int32) (fIns : Int32) (fReads : Int32) (fBad : Int32) (fIR : Int32) (fAsk : Int32) (fBAsk : Int32) (fCode : Int64) (fRL : Int64) (fRR : Int64) (fX : Int64) (fWrites : Int32) (fThrown : Int32) (vGoing : Nat → Int32) (v : Nat) (b : Nat) (Rg : Nat) (L : Nat) (ca : Option Nat) (Pn : Nat) (bs : List Nat) (hb1 : 1 ≤ b) (hb2 : b ≤ 12) (hv : v < 2 ^ b) (hE : eInv (Rg, L, ca, Pn, bs)) (hG : gIs vGoing bs) (hN9 : bs.length + Pn + 20 ≤ 9000) : MetV l y_M_putValue (Cond.code y_M_putValue prog_14_method_27_code 4 none :: gw) ({ frames := 4, cells := 0, slots := 0, locals := 87 } : Room) (dC, dI) vwCl (kT cI cM cO) [Value.ref o, Value.int (nI v), Value.int (nI b)] [(o, Sum.inr (9, mO g 0 fShift fModels fItems fEnded (lN L) (lN Rg) (caI ca) (nI Pn) (nI bs.length) fOuts fIns fReads fBad fIR fAsk fBAsk fCode fRL fRR fX fWrites fThrown)), ((g 6), Sum.inl (cI, 9000, Sum.inl vGoing))] sz (fun (u : (Nat → Int32)) => gIs u (eB (wdS (Rg / 2 ^ b * 1, L + Rg / 2 ^ b * v, ca, Pn, bs)))) (fun (u : (Nat → Int32)) => [(o, Sum.inr (9, mO g 0 fShift fModels fItems fEnded (lN (eL (wdS (Rg / 2 ^ b * 1, L + Rg / 2 ^ b * v, ca, Pn, bs)))) (lN (eR (wdS (Rg / 2 ^ b * 1, L + Rg / 2 ^ b * v, ca, Pn, bs)))) (caI (eC (wdS (Rg / 2 ^ b * 1, L + Rg / 2 ^ b * v, ca, Pn, bs)))) (nI (eP (wdS (Rg / 2 ^ b * 1, L + Rg / 2 ^ b * v, ca, Pn, bs)))) (nI (eB (wdS (Rg / 2 ^ b * 1, L + Rg / 2 ^ b * v, ca, Pn, bs))).length) fOuts fIns fReads fBad fIR fAsk fBAsk fCode fRL fRR fX fWrites fThrown)), ((g 6), Sum.inl (cI, 9000, Sum.inl u))]) 0 0 := by
  refine my_ofV (cc := prog_14_method_27_code) (n := 4) (ret := none) (by decide) rfl (Nat.le_of_ble_eq_true rfl) ?_
  intro p e s m args below meth c R Q A ls H locs hx hb hr hts hown hlocks hml hnm hR hQ hA hl hP hK hN hD hS
  have hg : ∀ w ∈ gw, w.before args s = true := fun w h => hts w (List.mem_cons_of_mem _ h)
  have hown : s.vm.findClass "RangeCodersModel" = some m.cls := hown
  have hl : lv_has ls 4 [(0, Value.ref o), (1, Value.int (nI v)), (2, Value.int (nI b))] := hl
  obtain ⟨hI1, hI2, hI3, hI4⟩ := id hE
  simp only [eR, eL, eC] at hI1 hI2 hI3 hI4
  have hpw : 2 ^ b ≤ 2 ^ 12 := Nat.pow_le_pow_right (by decide) hb2
  have hpw0 : 0 < 2 ^ b := Nat.pow_pos (by decide)
  refine lv_aload_n hx hb d_M_putValue_0 rfl (lv_at hl 0 rfl) ?_
  refine va_get (D := (dC, dI)) (ci := 9) (v := .int 0) (C := "RangeCodersModel") (T := T_M) (N := 35) hx hb hg in_M hown hK hP 0 rfl rfl 0 (by decide) (hg _ k952) (fun _ h9 => h9) rfl d_M_putValue_1 ?_
  refine lv_iconst (v := 2) hx hb d_M_putValue_4 (by decide) ?_
  refine lv_icmp_ge (tgt := 20) hx hb d_M_putValue_5 (by decide) (fun c_1 => ?_) (fun c_1 => ?_)
  · exact absurd c_1 (by decide)
  · refine lv_aload_n hx hb d_M_putValue_8 rfl (lv_at hl 0 rfl) ?_
    refine lv_iload_n hx hb d_M_putValue_9 rfl (lv_at hl 1 rfl) ?_
    refine lv_iconst (v := 1) hx hb d_M_putValue_10 (by decide) ?_
    refine lv_iconst (v := 1) hx hb d_M_putValue_11 (by decide) ?_
    refine lv_iload_n hx hb d_M_putValue_12 rfl (lv_at hl 2 rfl) ?_
    refine lv_ishl hx hb d_M_putValue_13 ?_
    refine lv_topi (fun v_2 ev_2 => ?_)
    have z9 : v_2 = nI (2 ^ b) := by subst_vars; exact shl1 b (by omega)
    subst z9
    refine W.eq (g2 := F0 m 14 ls [Value.int (nI (2 ^ b)), Value.int (nI 1), Value.int (nI v), Value.ref o]) rfl ?_
    refine my_cv (wr := []) (va_runV (As := [Value.int (nI v), Value.int (nI 1), Value.int (nI (2 ^ b))]) (rest := []) ⟨hx, hb, hml, hown, hts⟩ (c_M_narrow0 l dC dI cI cM cO H.size o g fShift fModels fItems fEnded fOuts fIns fReads fBad fIR fAsk fBAsk fCode fRL fRR fX fWrites fThrown vGoing v 1 (2 ^ b) Rg L ca Pn bs (hpw0) (by omega) (hv) (by decide) (by omega) (hI2) (hI3) (hI4) (by assumption) (by omega)) (cwV 3 hts (my_gV k1093 k1095 ks29 k12 k1096) rfl rfl rfl (by decide +kernel) ⟨by rw [hR]; exact Nat.le_of_ble_eq_true rfl, by rw [hR]; exact Nat.le_of_ble_eq_true rfl⟩) (my_preV hK hN (hP.sub [0, 1] rfl) (hD.sub [0, 1] (by decide +kernel) rfl) 0 rfl rfl) rfl rfl hl.1 rfl (lv_room (Nat.le_of_ble_eq_true rfl)) d_M_putValue_14 ⟨by rw [hR]; exact Nat.le_of_ble_eq_true rfl, by rw [hR]; exact Nat.le_of_ble_eq_true rfl⟩) hP hD hS hA [0, 1] [] rfl rfl (by decide +kernel) (by decide +kernel) (fun u9 H locs hw_14 hP hD hS => ?_)
    obtain ⟨v2_14, rfl⟩ : ∃ z, z = u9 := ⟨_, rfl⟩
    have hw_14 : gIs v2_14 (eB (wdS (Rg / (2 ^ b) * 1, L + Rg / (2 ^ b) * v, ca, Pn, bs))) := hw_14
    have hP : va_P (dC, dI) vwCl [(o, Sum.inr (9, mO g 0 fShift fModels fItems fEnded (lN (eL (wdS (Rg / (2 ^ b) * 1, L + Rg / (2 ^ b) * v, ca, Pn, bs)))) (lN (eR (wdS (Rg / (2 ^ b) * 1, L + Rg / (2 ^ b) * v, ca, Pn, bs)))) (caI (eC (wdS (Rg / (2 ^ b) * 1, L + Rg / (2 ^ b) * v, ca, Pn, bs)))) (nI (eP (wdS (Rg / (2 ^ b) * 1, L + Rg / (2 ^ b) * v, ca, Pn, bs)))) (nI (eB (wdS (Rg / (2 ^ b) * 1, L + Rg / (2 ^ b) * v, ca, Pn, bs))).length) fOuts fIns fReads fBad fIR fAsk fBAsk fCode fRL fRR fX fWrites fThrown)), ((g 6), Sum.inl (cI, 9000, Sum.inl v2_14))] H := hP
    have hD : va_D A [(o, Sum.inr (9, mO g 0 fShift fModels fItems fEnded (lN (eL (wdS (Rg / (2 ^ b) * 1, L + Rg / (2 ^ b) * v, ca, Pn, bs)))) (lN (eR (wdS (Rg / (2 ^ b) * 1, L + Rg / (2 ^ b) * v, ca, Pn, bs)))) (caI (eC (wdS (Rg / (2 ^ b) * 1, L + Rg / (2 ^ b) * v, ca, Pn, bs)))) (nI (eP (wdS (Rg / (2 ^ b) * 1, L + Rg / (2 ^ b) * v, ca, Pn, bs)))) (nI (eB (wdS (Rg / (2 ^ b) * 1, L + Rg / (2 ^ b) * v, ca, Pn, bs))).length) fOuts fIns fReads fBad fIR fAsk fBAsk fCode fRL fRR fX fWrites fThrown)), ((g 6), Sum.inl (cI, 9000, Sum.inl v2_14))] := hD
    refine lv_goto (tgt := 85) hx hb d_M_putValue_17 (by decide) ?_
    exact my_vret hx hb hr hlocks hQ hK hS (Nat.le_refl _) (Nat.le_refl _) v2_14 (hw_14) (hP.sub [0, 1] rfl) (hD.sub [0, 1] (by decide +kernel) rfl) d_M_putValue_85
set_option maxHeartbeats 1000000 in
set_option maxRecDepth 100000 in
/-- putValue, form 1 -/
theorem c_M_putValue1 (l : Launch) (dC : Nat → ClassId) (dI : Nat → Nat → Nat) (cI cM cO : ClassId) (sz : Nat) (o : Nat) (g : Nat → Nat) (fShift : Int32) (fModels : Int32) (fItems : Int32) (fEnded : Int32) (fCache : Int32) (fPend : Int32) (fOuts : Int32) (fIns : Int32) (fReads : Int32) (fBad : Int32) (fIR : Int32) (fAsk : Int32) (fBAsk : Int32) (fCode : Int64) (fRL : Int64) (fRR : Int64) (fX : Int64) (fWrites : Int32) (fThrown : Int32) (vGoing : Nat → Int32) (v : Nat) (b : Nat) (Rg : Nat) (L : Nat) (bs : List Nat) (hb1 : 1 ≤ b) (hb2 : b ≤ 12) (hv : v < 2 ^ b) (hp : pOk Rg L) (hR6 : 65536 ≤ Rg) (hG : gIs vGoing bs) (hN9 : bs.length + 5 ≤ 9000) : MetV l y_M_putValue (Cond.code y_M_putValue prog_14_method_27_code 4 none :: gw) ({ frames := 3, cells := 0, slots := 0, locals := 68 } : Room) (dC, dI) vwCl (kT cI cM cO) [Value.ref o, Value.int (nI v), Value.int (nI b)] [(o, Sum.inr (9, mO g 1 fShift fModels fItems fEnded (lN L) (lN Rg) fCache fPend (nI bs.length) fOuts fIns fReads fBad fIR fAsk fBAsk fCode fRL fRR fX fWrites fThrown)), ((g 6), Sum.inl (cI, 9000, Sum.inl vGoing))] sz (fun (u : (Nat → Int32)) => gIs u (plS (Rg / 2 ^ b * 1, L + Rg / 2 ^ b * v, bs)).2.2) (fun (u : (Nat → Int32)) => [(o, Sum.inr (9, mO g 1 fShift fModels fItems fEnded (lN (plS (Rg / 2 ^ b * 1, L + Rg / 2 ^ b * v, bs)).2.1) (lN (plS (Rg / 2 ^ b * 1, L + Rg / 2 ^ b * v, bs)).1) fCache fPend (nI (plS (Rg / 2 ^ b * 1, L + Rg / 2 ^ b * v, bs)).2.2.length) fOuts fIns fReads fBad fIR fAsk fBAsk fCode fRL fRR fX fWrites fThrown)), ((g 6), Sum.inl (cI, 9000, Sum.inl u))]) 0 0 := by
  refine my_ofV (cc := prog_14_method_27_code) (n := 4) (ret := none) (by decide) rfl (Nat.le_of_ble_eq_true rfl) ?_
  intro p e s m args below meth c R Q A ls H locs hx hb hr hts hown hlocks hml hnm hR hQ hA hl hP hK hN hD hS
  have hg : ∀ w ∈ gw, w.before args s = true := fun w h => hts w (List.mem_cons_of_mem _ h)
  have hown : s.vm.findClass "RangeCodersModel" = some m.cls := hown
  have hl : lv_has ls 4 [(0, Value.ref o), (1, Value.int (nI v)), (2, Value.int (nI b))] := hl
  have hpw : 2 ^ b ≤ 2 ^ 12 := Nat.pow_le_pow_right (by decide) hb2
  have hpw0 : 0 < 2 ^ b := Nat.pow_pos (by decide)
  refine lv_aload_n hx hb d_M_putValue_0 rfl (lv_at hl 0 rfl) ?_
  refine va_get (D := (dC, dI)) (ci := 9) (v := .int 1) (C := "RangeCodersModel") (T := T_M) (N := 35) hx hb hg in_M hown hK hP 0 rfl rfl 0 (by decide) (hg _ k952) (fun _ h9 => h9) rfl d_M_putValue_1 ?_
  refine lv_iconst (v := 2) hx hb d_M_putValue_4 (by decide) ?_
  refine lv_icmp_ge (tgt := 20) hx hb d_M_putValue_5 (by decide) (fun c_1 => ?_) (fun c_1 => ?_)
  · exact absurd c_1 (by decide)
  · refine lv_aload_n hx hb d_M_putValue_8 rfl (lv_at hl 0 rfl) ?_
    refine lv_iload_n hx hb d_M_putValue_9 rfl (lv_at hl 1 rfl) ?_
    refine lv_iconst (v := 1) hx hb d_M_putValue_10 (by decide) ?_
    refine lv_iconst (v := 1) hx hb d_M_putValue_11 (by decide) ?_
    refine lv_iload_n hx hb d_M_putValue_12 rfl (lv_at hl 2 rfl) ?_
    refine lv_ishl hx hb d_M_putValue_13 ?_
    refine lv_topi (fun v_2 ev_2 => ?_)
    have z9 : v_2 = nI (2 ^ b) := by subst_vars; exact shl1 b (by omega)
    subst z9
    refine W.eq (g2 := F0 m 14 ls [Value.int (nI (2 ^ b)), Value.int (nI 1), Value.int (nI v), Value.ref o]) rfl ?_
    refine my_cv (wr := []) (va_runV (As := [Value.int (nI v), Value.int (nI 1), Value.int (nI (2 ^ b))]) (rest := []) ⟨hx, hb, hml, hown, hts⟩ (c_M_narrow1 l dC dI cI cM cO H.size o g fShift fModels fItems fEnded fCache fPend fOuts fIns fReads fBad fIR fAsk fBAsk fCode fRL fRR fX fWrites fThrown vGoing v 1 (2 ^ b) Rg L bs (hpw0) (by omega) (hv) (by decide) (by omega) (hp) (by assumption) (by omega)) (cwV 3 hts (my_gV k1093 k1095 ks29 k12 k1096) rfl rfl rfl (by decide +kernel) ⟨by rw [hR]; exact Nat.le_of_ble_eq_true rfl, by rw [hR]; exact Nat.le_of_ble_eq_true rfl⟩) (my_preV hK hN (hP.sub [0, 1] rfl) (hD.sub [0, 1] (by decide +kernel) rfl) 0 rfl rfl) rfl rfl hl.1 rfl (lv_room (Nat.le_of_ble_eq_true rfl)) d_M_putValue_14 ⟨by rw [hR]; exact Nat.le_of_ble_eq_true rfl, by rw [hR]; exact Nat.le_of_ble_eq_true rfl⟩) hP hD hS hA [0, 1] [] rfl rfl (by decide +kernel) (by decide +kernel) (fun u9 H locs hw_14 hP hD hS => ?_)
    obtain ⟨v2_14, rfl⟩ : ∃ z, z = u9 := ⟨_, rfl⟩
    have hw_14 : gIs v2_14 (plS (Rg / (2 ^ b) * 1, L + Rg / (2 ^ b) * v, bs)).2.2 := hw_14
    have hP : va_P (dC, dI) vwCl [(o, Sum.inr (9, mO g 1 fShift fModels fItems fEnded (lN (plS (Rg / (2 ^ b) * 1, L + Rg / (2 ^ b) * v, bs)).2.1) (lN (plS (Rg / (2 ^ b) * 1, L + Rg / (2 ^ b) * v, bs)).1) fCache fPend (nI (plS (Rg / (2 ^ b) * 1, L + Rg / (2 ^ b) * v, bs)).2.2.length) fOuts fIns fReads fBad fIR fAsk fBAsk fCode fRL fRR fX fWrites fThrown)), ((g 6), Sum.inl (cI, 9000, Sum.inl v2_14))] H := hP
    have hD : va_D A [(o, Sum.inr (9, mO g 1 fShift fModels fItems fEnded (lN (plS (Rg / (2 ^ b) * 1, L + Rg / (2 ^ b) * v, bs)).2.1) (lN (plS (Rg / (2 ^ b) * 1, L + Rg / (2 ^ b) * v, bs)).1) fCache fPend (nI (plS (Rg / (2 ^ b) * 1, L + Rg / (2 ^ b) * v, bs)).2.2.length) fOuts fIns fReads fBad fIR fAsk fBAsk fCode fRL fRR fX fWrites fThrown)), ((g 6), Sum.inl (cI, 9000, Sum.inl v2_14))] := hD
    refine lv_goto (tgt := 85) hx hb d_M_putValue_17 (by decide) ?_
    exact my_vret hx hb hr hlocks hQ hK hS (Nat.le_refl _) (Nat.le_refl _) v2_14 (hw_14) (hP.sub [0, 1] rfl) (hD.sub [0, 1] (by decide +kernel) rfl) d_M_putValue_85
set_option maxHeartbeats 1000000 in
set_option maxRecDepth 100000 in
/-- putValue, form 3 -/
theorem c_M_putValue3 (l : Launch) (dC : Nat → ClassId) (dI : Nat → Nat → Nat) (cI cM cO : ClassId) (sz : Nat) (o : Nat) (g : Nat → Nat) (fShift : Int32) (fModels : Int32) (fItems : Int32) (fEnded : Int32) (fLow : Int64) (fRange : Int64) (fCache : Int32) (fPend : Int32) (fGoes : Int32) (fOuts : Int32) (fIns : Int32) (fReads : Int32) (fBad : Int32) (fIR : Int32) (fAsk : Int32) (fBAsk : Int32) (fCode : Int64) (fRL : Int64) (fRR : Int64) (fX : Int64) (fWrites : Int32) (fThrown : Int32) (p1 : Int32) (p2 : Int32) : MetV l y_M_putValue (Cond.code y_M_putValue prog_14_method_27_code 4 none :: gw) ({ frames := 0, cells := 0, slots := 0, locals := 0 } : Room) (dC, dI) vwCl (kT cI cM cO) [Value.ref o, Value.int p1, Value.int p2] [(o, Sum.inr (9, mO g 3 fShift fModels fItems fEnded fLow fRange fCache fPend fGoes fOuts fIns fReads fBad fIR fAsk fBAsk fCode fRL fRR fX fWrites fThrown))] sz (fun (u : Unit) => True) (fun (u : Unit) => [(o, Sum.inr (9, mO g 3 fShift fModels fItems fEnded fLow fRange fCache fPend fGoes fOuts fIns fReads fBad fIR fAsk fBAsk fCode fRL fRR fX fWrites fThrown))]) 0 0 := by
  refine my_ofV (cc := prog_14_method_27_code) (n := 4) (ret := none) (by decide) rfl (Nat.le_of_ble_eq_true rfl) ?_
  intro p e s m args below meth c R Q A ls H locs hx hb hr hts hown hlocks hml hnm hR hQ hA hl hP hK hN hD hS
  have hg : ∀ w ∈ gw, w.before args s = true := fun w h => hts w (List.mem_cons_of_mem _ h)
  have hown : s.vm.findClass "RangeCodersModel" = some m.cls := hown
  have hl : lv_has ls 4 [(0, Value.ref o), (1, Value.int p1), (2, Value.int p2)] := hl
  refine lv_aload_n hx hb d_M_putValue_0 rfl (lv_at hl 0 rfl) ?_
  refine va_get (D := (dC, dI)) (ci := 9) (v := .int 3) (C := "RangeCodersModel") (T := T_M) (N := 35) hx hb hg in_M hown hK hP 0 rfl rfl 0 (by decide) (hg _ k952) (fun _ h9 => h9) rfl d_M_putValue_1 ?_
  refine lv_iconst (v := 2) hx hb d_M_putValue_4 (by decide) ?_
  refine lv_icmp_ge (tgt := 20) hx hb d_M_putValue_5 (by decide) (fun c_1 => ?_) (fun c_1 => ?_)
  · refine lv_aload_n hx hb d_M_putValue_20 rfl (lv_at hl 0 rfl) ?_
    refine va_get (D := (dC, dI)) (ci := 9) (v := .int 3) (C := "RangeCodersModel") (T := T_M) (N := 35) hx hb hg in_M hown hK hP 0 rfl rfl 0 (by decide) (hg _ k952) (fun _ h9 => h9) rfl d_M_putValue_21 ?_
    refine lv_iconst (v := 2) hx hb d_M_putValue_24 (by decide) ?_
    refine lv_icmp_ne (tgt := 85) hx hb d_M_putValue_25 (by decide) (fun c_2 => ?_) (fun c_2 => ?_)
    · exact my_vret hx hb hr hlocks hQ hK hS (Nat.le_refl _) (Nat.le_refl _) () (trivial) (hP.sub [0] rfl) (hD.sub [0] (by decide +kernel) rfl) d_M_putValue_85
    · exact absurd c_2 (by decide)
  · exact absurd (by decide) c_1
set_option maxHeartbeats 1000000 in
set_option maxRecDepth 100000 in
/-- putSign, form 3 -/
theorem c_M_putSign3 (l : Launch) (dC : Nat → ClassId) (dI : Nat → Nat → Nat) (cI cM cO : ClassId) (sz : Nat) (o : Nat) (g : Nat → Nat) (fShift : Int32) (fModels : Int32) (fItems : Int32) (fEnded : Int32) (fLow : Int64) (fRange : Int64) (fCache : Int32) (fPend : Int32) (fGoes : Int32) (fOuts : Int32) (fIns : Int32) (fReads : Int32) (fBad : Int32) (fIR : Int32) (fAsk : Int32) (fBAsk : Int32) (fCode : Int64) (fRL : Int64) (fRR : Int64) (fX : Int64) (fWrites : Int32) (fThrown : Int32) (p1 : Int32) (p2 : Int32) : MetV l y_M_putSign (Cond.code y_M_putSign prog_14_method_24_code 6 none :: gw) ({ frames := 0, cells := 0, slots := 0, locals := 0 } : Room) (dC, dI) vwCl (kT cI cM cO) [Value.ref o, Value.int p1, Value.int p2] [(o, Sum.inr (9, mO g 3 fShift fModels fItems fEnded fLow fRange fCache fPend fGoes fOuts fIns fReads fBad fIR fAsk fBAsk fCode fRL fRR fX fWrites fThrown))] sz (fun (u : Unit) => True) (fun (u : Unit) => [(o, Sum.inr (9, mO g 3 fShift fModels fItems fEnded fLow fRange fCache fPend fGoes fOuts fIns fReads fBad fIR fAsk fBAsk fCode fRL fRR fX fWrites fThrown))]) 0 0 := by
  refine my_ofV (cc := prog_14_method_24_code) (n := 6) (ret := none) (by decide) rfl (Nat.le_of_ble_eq_true rfl) ?_
  intro p e s m args below meth c R Q A ls H locs hx hb hr hts hown hlocks hml hnm hR hQ hA hl hP hK hN hD hS
  have hg : ∀ w ∈ gw, w.before args s = true := fun w h => hts w (List.mem_cons_of_mem _ h)
  have hown : s.vm.findClass "RangeCodersModel" = some m.cls := hown
  have hl : lv_has ls 6 [(0, Value.ref o), (1, Value.int p1), (2, Value.int p2)] := hl
  refine lv_aload_n hx hb d_M_putSign_0 rfl (lv_at hl 0 rfl) ?_
  refine va_get (D := (dC, dI)) (ci := 9) (v := .int 3) (C := "RangeCodersModel") (T := T_M) (N := 35) hx hb hg in_M hown hK hP 0 rfl rfl 0 (by decide) (hg _ k952) (fun _ h9 => h9) rfl d_M_putSign_1 ?_
  refine lv_iconst (v := 2) hx hb d_M_putSign_4 (by decide) ?_
  refine lv_icmp_ge (tgt := 55) hx hb d_M_putSign_5 (by decide) (fun c_1 => ?_) (fun c_1 => ?_)
  · refine lv_aload_n hx hb d_M_putSign_55 rfl (lv_at hl 0 rfl) ?_
    refine va_get (D := (dC, dI)) (ci := 9) (v := .int 3) (C := "RangeCodersModel") (T := T_M) (N := 35) hx hb hg in_M hown hK hP 0 rfl rfl 0 (by decide) (hg _ k952) (fun _ h9 => h9) rfl d_M_putSign_56 ?_
    refine lv_iconst (v := 2) hx hb d_M_putSign_59 (by decide) ?_
    refine lv_icmp_ne (tgt := 112) hx hb d_M_putSign_60 (by decide) (fun c_2 => ?_) (fun c_2 => ?_)
    · exact my_vret hx hb hr hlocks hQ hK hS (Nat.le_refl _) (Nat.le_refl _) () (trivial) (hP.sub [0] rfl) (hD.sub [0] (by decide +kernel) rfl) d_M_putSign_112
    · exact absurd c_2 (by decide)
  · exact absurd (by decide) c_1
set_option maxHeartbeats 1000000 in
set_option maxRecDepth 100000 in
/-- putValue, form 4 -/
theorem c_M_putValue4 (l : Launch) (dC : Nat → ClassId) (dI : Nat → Nat → Nat) (cI cM cO : ClassId) (sz : Nat) (o : Nat) (g : Nat → Nat) (fShift : Int32) (fModels : Int32) (fItems : Int32) (fEnded : Int32) (fLow : Int64) (fRange : Int64) (fCache : Int32) (fPend : Int32) (fGoes : Int32) (fOuts : Int32) (fIns : Int32) (fReads : Int32) (fBad : Int32) (fIR : Int32) (fAsk : Int32) (fBAsk : Int32) (fCode : Int64) (fRL : Int64) (fRR : Int64) (fX : Int64) (fWrites : Int32) (fThrown : Int32) (p1 : Int32) (p2 : Int32) : MetV l y_M_putValue (Cond.code y_M_putValue prog_14_method_27_code 4 none :: gw) ({ frames := 0, cells := 0, slots := 0, locals := 0 } : Room) (dC, dI) vwCl (kT cI cM cO) [Value.ref o, Value.int p1, Value.int p2] [(o, Sum.inr (9, mO g 4 fShift fModels fItems fEnded fLow fRange fCache fPend fGoes fOuts fIns fReads fBad fIR fAsk fBAsk fCode fRL fRR fX fWrites fThrown))] sz (fun (u : Unit) => True) (fun (u : Unit) => [(o, Sum.inr (9, mO g 4 fShift fModels fItems fEnded fLow fRange fCache fPend fGoes fOuts fIns fReads fBad fIR fAsk fBAsk fCode fRL fRR fX fWrites fThrown))]) 0 0 := by
  refine my_ofV (cc := prog_14_method_27_code) (n := 4) (ret := none) (by decide) rfl (Nat.le_of_ble_eq_true rfl) ?_
  intro p e s m args below meth c R Q A ls H locs hx hb hr hts hown hlocks hml hnm hR hQ hA hl hP hK hN hD hS
  have hg : ∀ w ∈ gw, w.before args s = true := fun w h => hts w (List.mem_cons_of_mem _ h)
  have hown : s.vm.findClass "RangeCodersModel" = some m.cls := hown
  have hl : lv_has ls 4 [(0, Value.ref o), (1, Value.int p1), (2, Value.int p2)] := hl
  refine lv_aload_n hx hb d_M_putValue_0 rfl (lv_at hl 0 rfl) ?_
  refine va_get (D := (dC, dI)) (ci := 9) (v := .int 4) (C := "RangeCodersModel") (T := T_M) (N := 35) hx hb hg in_M hown hK hP 0 rfl rfl 0 (by decide) (hg _ k952) (fun _ h9 => h9) rfl d_M_putValue_1 ?_
  refine lv_iconst (v := 2) hx hb d_M_putValue_4 (by decide) ?_
  refine lv_icmp_ge (tgt := 20) hx hb d_M_putValue_5 (by decide) (fun c_1 => ?_) (fun c_1 => ?_)
  · refine lv_aload_n hx hb d_M_putValue_20 rfl (lv_at hl 0 rfl) ?_
    refine va_get (D := (dC, dI)) (ci := 9) (v := .int 4) (C := "RangeCodersModel") (T := T_M) (N := 35) hx hb hg in_M hown hK hP 0 rfl rfl 0 (by decide) (hg _ k952) (fun _ h9 => h9) rfl d_M_putValue_21 ?_
    refine lv_iconst (v := 2) hx hb d_M_putValue_24 (by decide) ?_
    refine lv_icmp_ne (tgt := 85) hx hb d_M_putValue_25 (by decide) (fun c_2 => ?_) (fun c_2 => ?_)
    · exact my_vret hx hb hr hlocks hQ hK hS (Nat.le_refl _) (Nat.le_refl _) () (trivial) (hP.sub [0] rfl) (hD.sub [0] (by decide +kernel) rfl) d_M_putValue_85
    · exact absurd c_2 (by decide)
  · exact absurd (by decide) c_1
set_option maxHeartbeats 1000000 in
set_option maxRecDepth 100000 in
/-- putSign, form 4 -/
theorem c_M_putSign4 (l : Launch) (dC : Nat → ClassId) (dI : Nat → Nat → Nat) (cI cM cO : ClassId) (sz : Nat) (o : Nat) (g : Nat → Nat) (fShift : Int32) (fModels : Int32) (fItems : Int32) (fEnded : Int32) (fLow : Int64) (fRange : Int64) (fCache : Int32) (fPend : Int32) (fGoes : Int32) (fOuts : Int32) (fIns : Int32) (fReads : Int32) (fBad : Int32) (fIR : Int32) (fAsk : Int32) (fBAsk : Int32) (fCode : Int64) (fRL : Int64) (fRR : Int64) (fX : Int64) (fWrites : Int32) (fThrown : Int32) (p1 : Int32) (p2 : Int32) : MetV l y_M_putSign (Cond.code y_M_putSign prog_14_method_24_code 6 none :: gw) ({ frames := 0, cells := 0, slots := 0, locals := 0 } : Room) (dC, dI) vwCl (kT cI cM cO) [Value.ref o, Value.int p1, Value.int p2] [(o, Sum.inr (9, mO g 4 fShift fModels fItems fEnded fLow fRange fCache fPend fGoes fOuts fIns fReads fBad fIR fAsk fBAsk fCode fRL fRR fX fWrites fThrown))] sz (fun (u : Unit) => True) (fun (u : Unit) => [(o, Sum.inr (9, mO g 4 fShift fModels fItems fEnded fLow fRange fCache fPend fGoes fOuts fIns fReads fBad fIR fAsk fBAsk fCode fRL fRR fX fWrites fThrown))]) 0 0 := by
  refine my_ofV (cc := prog_14_method_24_code) (n := 6) (ret := none) (by decide) rfl (Nat.le_of_ble_eq_true rfl) ?_
  intro p e s m args below meth c R Q A ls H locs hx hb hr hts hown hlocks hml hnm hR hQ hA hl hP hK hN hD hS
  have hg : ∀ w ∈ gw, w.before args s = true := fun w h => hts w (List.mem_cons_of_mem _ h)
  have hown : s.vm.findClass "RangeCodersModel" = some m.cls := hown
  have hl : lv_has ls 6 [(0, Value.ref o), (1, Value.int p1), (2, Value.int p2)] := hl
  refine lv_aload_n hx hb d_M_putSign_0 rfl (lv_at hl 0 rfl) ?_
  refine va_get (D := (dC, dI)) (ci := 9) (v := .int 4) (C := "RangeCodersModel") (T := T_M) (N := 35) hx hb hg in_M hown hK hP 0 rfl rfl 0 (by decide) (hg _ k952) (fun _ h9 => h9) rfl d_M_putSign_1 ?_
  refine lv_iconst (v := 2) hx hb d_M_putSign_4 (by decide) ?_
  refine lv_icmp_ge (tgt := 55) hx hb d_M_putSign_5 (by decide) (fun c_1 => ?_) (fun c_1 => ?_)
  · refine lv_aload_n hx hb d_M_putSign_55 rfl (lv_at hl 0 rfl) ?_
    refine va_get (D := (dC, dI)) (ci := 9) (v := .int 4) (C := "RangeCodersModel") (T := T_M) (N := 35) hx hb hg in_M hown hK hP 0 rfl rfl 0 (by decide) (hg _ k952) (fun _ h9 => h9) rfl d_M_putSign_56 ?_
    refine lv_iconst (v := 2) hx hb d_M_putSign_59 (by decide) ?_
    refine lv_icmp_ne (tgt := 112) hx hb d_M_putSign_60 (by decide) (fun c_2 => ?_) (fun c_2 => ?_)
    · exact my_vret hx hb hr hlocks hQ hK hS (Nat.le_refl _) (Nat.le_refl _) () (trivial) (hP.sub [0] rfl) (hD.sub [0] (by decide +kernel) rfl) d_M_putSign_112
    · exact absurd c_2 (by decide)
  · exact absurd (by decide) c_1

