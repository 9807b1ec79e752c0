/-! the faces that need no model: bytes of OUT and IN -/
theorem gIs_set {f : Nat → Int32} {bs : List Nat} {i x : Nat} {v : Int32} (h : gIs f bs) (hx : v = nI x) : gIs (upd f i v) (bs.set i x) := by
  intro k hk
  rw [List.length_set] at hk
  by_cases e : k = i
  · subst e; rw [pk_us, hx]; simp [List.getD_eq_getElem?_getD, hk]
  · rw [pk_un e, h k hk]; simp [List.getD_eq_getElem?_getD, List.getElem?_set_ne (Ne.symm e)]
theorem I_xor (a b : Nat) : nI a ^^^ nI b = nI (a ^^^ b) := by
  show Int32.ofNat a ^^^ Int32.ofNat b = Int32.ofNat (a ^^^ b)
  apply Int32.toBitVec_inj.mp
  rw [Int32.toBitVec_xor]
  apply BitVec.eq_of_toNat_eq
  simp only [BitVec.toNat_xor]
  show (BitVec.ofNat 32 a).toNat ^^^ (BitVec.ofNat 32 b).toNat = (BitVec.ofNat 32 (a ^^^ b)).toNat
  simp only [BitVec.toNat_ofNat]
  rw [Nat.xor_mod_two_pow]
set_option maxHeartbeats 1000000 in
set_option maxRecDepth 100000 in
/-- writeBit -/
theorem c_M_writeBit (l : Launch) (dC : Nat → ClassId) (dI : Nat → Nat → Nat) (cI cM cO : ClassId) (sz : Nat) (o : Nat) (g : Nat → Nat) (fForm : Int32) (fShift : Int32) (fModels : Int32) (fItems : Int32) (fEnded : Int32) (fLow : Int64) (fRange : Int64) (fCache : Int32) (fPend : Int32) (fGoes : Int32) (fOuts : Int32) (fIns : Int32) (fReads : Int32) (fBad : Int32) (fIR : Int32) (fAsk : Int32) (fBAsk : Int32) (fCode : Int64) (fRL : Int64) (fRR : Int64) (fX : Int64) (fThrown : Int32) (vWr : Nat → Int32) (wl : List Nat) (v : Nat) (hG : gIs vWr wl) (hl9 : wl.length < 20000) (hv : v < 2 ^ 62) : MetV l y_M_writeBit (Cond.code y_M_writeBit prog_14_method_34_code 3 none :: gw) ({ frames := 0, cells := 0, slots := 0, locals := 0 } : Room) (dC, dI) vwCl (kT cI cM cO) [Value.ref o, Value.long (lN v)] [(o, Sum.inr (9, mO g fForm fShift fModels fItems fEnded fLow fRange fCache fPend fGoes fOuts fIns fReads fBad fIR fAsk fBAsk fCode fRL fRR fX (nI wl.length) fThrown)), ((g 11), Sum.inl (cI, 20000, Sum.inl vWr))] sz (fun (u : (Nat → Int32)) => gIs u (wl ++ [v % 2])) (fun (u : (Nat → Int32)) => [(o, Sum.inr (9, mO g fForm fShift fModels fItems fEnded fLow fRange fCache fPend fGoes fOuts fIns fReads fBad fIR fAsk fBAsk fCode fRL fRR fX (nI (wl ++ [v % 2]).length) fThrown)), ((g 11), Sum.inl (cI, 20000, Sum.inl u))]) 0 0 := by
  refine my_ofV (cc := prog_14_method_34_code) (n := 3) (ret := none) (by decide) rfl (Nat.le_of_ble_eq_true rfl) ?_
  intro p e s m args below meth c R Q A ls H locs hx hb hr hts hown hlocks hml hnm hR hQ hA hl hP hK hN hD hS
  have hg : ∀ w ∈ gw, w.before args s = true := fun w h => hts w (List.mem_cons_of_mem _ h)
  have hown : s.vm.findClass "RangeCodersModel" = some m.cls := hown
  have hl : lv_has ls 3 [(0, Value.ref o), (1, Value.long (lN v))] := hl
  refine lv_aload_n hx hb d_M_writeBit_0 rfl (lv_at hl 0 rfl) ?_
  refine va_get (D := (dC, dI)) (ci := 9) (v := .ref (g 11)) (C := "RangeCodersModel") (T := T_M) (N := 35) hx hb hg in_M hown hK hP 0 rfl rfl 32 (by decide) (hg _ k984) (fun _ h9 => h9) rfl d_M_writeBit_1 ?_
  refine lv_aload_n hx hb d_M_writeBit_4 rfl (lv_at hl 0 rfl) ?_
  refine va_get (D := (dC, dI)) (ci := 9) (v := .int (nI wl.length)) (C := "RangeCodersModel") (T := T_M) (N := 35) hx hb hg in_M hown hK hP 0 rfl rfl 33 (by decide) (hg _ k985) (fun _ h9 => h9) rfl d_M_writeBit_5 ?_
  refine lv_lload_n hx hb d_M_writeBit_8 rfl (lv_at hl 1 rfl) ?_
  refine lv_lconst (v := 1) hx hb d_M_writeBit_9 (by decide) ?_
  refine lv_land hx hb d_M_writeBit_10 ?_
  refine lv_topl (fun v_1 ev_1 => ?_)
  refine lv_l2i hx hb d_M_writeBit_11 rfl ?_
  refine lv_topi (fun v_2 ev_2 => ?_)
  have hval : v_2 = nI (v % 2) := by subst_vars; rw [wb_a1 (by omega)]; exact lN_i _
  refine va_iast hx hb hK hP hD hS 1 0 rfl rfl (vp_in_nI hl9 (by decide)) d_M_writeBit_12 (fun H locs hP hD hS => ?_)
  have hP : va_P (dC, dI) vwCl [(o, Sum.inr (9, mO g fForm fShift fModels fItems fEnded fLow fRange fCache fPend fGoes fOuts fIns fReads fBad fIR fAsk fBAsk fCode fRL fRR fX (nI wl.length) fThrown)), ((g 11), Sum.inl (cI, 20000, Sum.inl (upd vWr (nI wl.length).toNatClampNeg v_2)))] H := hP
  have hD : va_D A [(o, Sum.inr (9, mO g fForm fShift fModels fItems fEnded fLow fRange fCache fPend fGoes fOuts fIns fReads fBad fIR fAsk fBAsk fCode fRL fRR fX (nI wl.length) fThrown)), ((g 11), Sum.inl (cI, 20000, Sum.inl (upd vWr (nI wl.length).toNatClampNeg v_2)))] := hD
  refine lv_aload_n hx hb d_M_writeBit_13 rfl (lv_at hl 0 rfl) ?_
  refine lv_dup hx hb d_M_writeBit_14 rfl ?_
  refine va_get (D := (dC, dI)) (ci := 9) (v := .int (nI wl.length)) (C := "RangeCodersModel") (T := T_M) (N := 35) hx hb hg in_M hown hK hP 0 rfl rfl 33 (by decide) (hg _ k985) (fun _ h9 => h9) rfl d_M_writeBit_15 ?_
  refine lv_iconst (v := 1) hx hb d_M_writeBit_18 (by decide) ?_
  refine lv_iadd hx hb d_M_writeBit_19 ?_
  refine lv_topi (fun v_3 ev_3 => ?_)
  have z9 : v_3 = nI (wl ++ [v % 2]).length := by subst_vars; rw [List.length_append]; exact nI_1 _
  subst z9
  refine va_put (D := (dC, dI)) (ci := 9) (v := .int (nI (wl ++ [v % 2]).length)) (ty := .int) (C := "RangeCodersModel") (T := T_M) (N := 35) hx hb hg in_M t_M o_M n_M hown hK hP hD hS 0 rfl rfl 33 (by decide) (hg _ k985) (fun _ h9 => h9) rfl (by decide +kernel) rfl rfl (Nat.le_of_ble_eq_true rfl) d_M_writeBit_20 (fun H locs hP hD hS => ?_)
  have hP : va_P (dC, dI) vwCl [(o, Sum.inr (9, mO g fForm fShift fModels fItems fEnded fLow fRange fCache fPend fGoes fOuts fIns fReads fBad fIR fAsk fBAsk fCode fRL fRR fX (nI (wl ++ [v % 2]).length) fThrown)), ((g 11), Sum.inl (cI, 20000, Sum.inl (upd vWr (nI wl.length).toNatClampNeg v_2)))] H := hP
  have hD : va_D A [(o, Sum.inr (9, mO g fForm fShift fModels fItems fEnded fLow fRange fCache fPend fGoes fOuts fIns fReads fBad fIR fAsk fBAsk fCode fRL fRR fX (nI (wl ++ [v % 2]).length) fThrown)), ((g 11), Sum.inl (cI, 20000, Sum.inl (upd vWr (nI wl.length).toNatClampNeg v_2)))] := hD
  exact my_vret hx hb hr hlocks hQ hK hS (Nat.le_refl _) (Nat.le_refl _) (upd vWr (nI wl.length).toNatClampNeg v_2) (gIs_up hG (nI_clamp (by omega)) hval) (hP.sub [0, 1] rfl) (hD.sub [0, 1] (by decide +kernel) rfl) d_M_writeBit_23
set_option maxHeartbeats 1000000 in
set_option maxRecDepth 100000 in
/-- out -/
theorem c_M_out (l : Launch) (dC : Nat → ClassId) (dI : Nat → Nat → Nat) (cI cM cO : ClassId) (sz : Nat) (o : Nat) (g : Nat → Nat) (fForm : Int32) (fShift : Int32) (fModels : Int32) (fItems : Int32) (fEnded : Int32) (fLow : Int64) (fRange : Int64) (fCache : Int32) (fPend : Int32) (fGoes : Int32) (fIns : Int32) (fReads : Int32) (fBad : Int32) (fIR : Int32) (fAsk : Int32) (fBAsk : Int32) (fCode : Int64) (fRL : Int64) (fRR : Int64) (fX : Int64) (fWrites : Int32) (fThrown : Int32) (vOut : Nat → Int32) (os : List Nat) (p1 : Int32) (hO : gIs vOut os) (hl9 : os.length ≤ 9000) : MetI l y_M_out (Cond.code y_M_out prog_14_method_36_code 2 (some .int) :: gw) ({ frames := 1, cells := 0, slots := 0, locals := 22 } : Room) (dC, dI) vwCl (kT cI cM cO) [Value.ref o, Value.int p1] [(o, Sum.inr (9, mO g fForm fShift fModels fItems fEnded fLow fRange fCache fPend fGoes (nI os.length) fIns fReads fBad fIR fAsk fBAsk fCode fRL fRR fX fWrites fThrown)), ((g 7), Sum.inl (cI, 9000, Sum.inl vOut))] sz (fun (r : Int32) (u : Unit) => r = if isN os.length p1 then nI (byA os p1.toNatClampNeg) else -1) (fun (u : Unit) => [(o, Sum.inr (9, mO g fForm fShift fModels fItems fEnded fLow fRange fCache fPend fGoes (nI os.length) fIns fReads fBad fIR fAsk fBAsk fCode fRL fRR fX fWrites 0)), ((g 7), Sum.inl (cI, 9000, Sum.inl vOut))]) 0 0 := by
  refine my_ofI (cc := prog_14_method_36_code) (n := 2) (ret := (some .int)) (by decide) rfl (Nat.le_of_ble_eq_true rfl) ?_
  intro p e s m args below meth c R Q A ls H locs hx hb hr hts hown hlocks hml hnm hR hQ hA hl hP hK hN hD hS
  have hg : ∀ w ∈ gw, w.before args s = true := fun w h => hts w (List.mem_cons_of_mem _ h)
  have hown : s.vm.findClass "RangeCodersModel" = some m.cls := hown
  have hl : lv_has ls 2 [(0, Value.ref o), (1, Value.int p1)] := hl
  refine lv_aload_n hx hb d_M_out_0 rfl (lv_at hl 0 rfl) ?_
  refine lv_iconst (v := 0) hx hb d_M_out_1 (by decide) ?_
  refine va_put (D := (dC, dI)) (ci := 9) (v := .int 0) (ty := .int) (C := "RangeCodersModel") (T := T_M) (N := 35) hx hb hg in_M t_M o_M n_M hown hK hP hD hS 0 rfl rfl 34 (by decide) (hg _ k986) (fun _ h9 => h9) rfl (by decide +kernel) rfl rfl (Nat.le_of_ble_eq_true rfl) d_M_out_2 (fun H locs hP hD hS => ?_)
  have hP : va_P (dC, dI) vwCl [(o, Sum.inr (9, mO g fForm fShift fModels fItems fEnded fLow fRange fCache fPend fGoes (nI os.length) fIns fReads fBad fIR fAsk fBAsk fCode fRL fRR fX fWrites 0)), ((g 7), Sum.inl (cI, 9000, Sum.inl vOut))] H := hP
  have hD : va_D A [(o, Sum.inr (9, mO g fForm fShift fModels fItems fEnded fLow fRange fCache fPend fGoes (nI os.length) fIns fReads fBad fIR fAsk fBAsk fCode fRL fRR fX fWrites 0)), ((g 7), Sum.inl (cI, 9000, Sum.inl vOut))] := hD
  refine lv_iload_n hx hb d_M_out_5 rfl (lv_at hl 1 rfl) ?_
  refine lv_iconst (v := 0) hx hb d_M_out_6 (by decide) ?_
  refine lv_aload_n hx hb d_M_out_7 rfl (lv_at hl 0 rfl) ?_
  refine va_get (D := (dC, dI)) (ci := 9) (v := .int (nI os.length)) (C := "RangeCodersModel") (T := T_M) (N := 35) hx hb hg in_M hown hK hP 0 rfl rfl 18 (by decide) (hg _ k970) (fun _ h9 => h9) rfl d_M_out_8 ?_
  refine lv_iconst (v := 1) hx hb d_M_out_11 (by decide) ?_
  refine lv_isub hx hb d_M_out_12 ?_
  refine lv_topi (fun v_1 ev_1 => ?_)
  have z9 : v_1 = nI os.length - 1 := by subst_vars; rfl
  subst z9
  refine my_ci (wr := [(o, Sum.inr (9, mO g fForm fShift fModels fItems fEnded fLow fRange fCache fPend fGoes (nI os.length) fIns fReads fBad fIR fAsk fBAsk fCode fRL fRR fX fWrites 0)), ((g 7), Sum.inl (cI, 9000, Sum.inl vOut))]) (va_runS (As := [Value.int p1, Value.int 0, Value.int (nI os.length - 1)]) (rest := []) ⟨hx, hb, hml, hown, hts⟩ (c_M_in l dC dI cI cM cO H.size p1 0 (nI os.length - 1)) (cwS 3 hts (my_gS k1062 k1063 k12 k1064) rfl rfl rfl (by decide +kernel) ⟨by rw [hR]; exact Nat.le_of_ble_eq_true rfl, by rw [hR]; exact Nat.le_of_ble_eq_true rfl⟩) (my_pre hK hN (hP.sub [] rfl) (hD.sub [] (by decide +kernel) rfl)) rfl rfl hl.1 rfl (lv_room (Nat.le_of_ble_eq_true rfl)) d_M_out_13 ⟨by rw [hR]; exact Nat.le_of_ble_eq_true rfl, by rw [hR]; exact Nat.le_of_ble_eq_true rfl⟩) hP hD hS hA [] [0, 1] rfl rfl (by decide +kernel) (by decide +kernel) (fun r_13 u9 H locs hw_13 hP hD hS => ?_)
  have hw_13 : r_13 = if 0 ≤ p1 ∧ p1 ≤ (nI os.length - 1) then 1 else 0 := hw_13
  have hP : va_P (dC, dI) vwCl [(o, Sum.inr (9, mO g fForm fShift fModels fItems fEnded fLow fRange fCache fPend fGoes (nI os.length) fIns fReads fBad fIR fAsk fBAsk fCode fRL fRR fX fWrites 0)), ((g 7), Sum.inl (cI, 9000, Sum.inl vOut))] H := hP
  have hD : va_D A [(o, Sum.inr (9, mO g fForm fShift fModels fItems fEnded fLow fRange fCache fPend fGoes (nI os.length) fIns fReads fBad fIR fAsk fBAsk fCode fRL fRR fX fWrites 0)), ((g 7), Sum.inl (cI, 9000, Sum.inl vOut))] := hD
  refine lv_if_eq (tgt := 28) hx hb d_M_out_16 (by decide) (fun c_2 => ?_) (fun c_2 => ?_)
  · have hin := one_eq hw_13 c_2
    refine lv_iconst (v := (-1)) hx hb d_M_out_28 (by decide) ?_
    exact my_iret (v := (-1)) hx hb hr (rfl) hlocks hQ hK hS (Nat.le_refl _) (Nat.le_refl _) () (by rw [if_neg hin]) (hP.sub [0, 1] rfl) (hD.sub [0, 1] (by decide +kernel) rfl) d_M_out_29
  · have hin := one_ne hw_13 c_2
    obtain ⟨i9, hi9, ei9⟩ := (isN_iff (by omega)).mp hin
    have hc9 : p1.toNatClampNeg = i9 := by rw [ei9]; exact nI_clamp (by omega)
    refine lv_aload_n hx hb d_M_out_19 rfl (lv_at hl 0 rfl) ?_
    refine va_get (D := (dC, dI)) (ci := 9) (v := .ref (g 7)) (C := "RangeCodersModel") (T := T_M) (N := 35) hx hb hg in_M hown hK hP 0 rfl rfl 17 (by decide) (hg _ k969) (fun _ h9 => h9) rfl d_M_out_20 ?_
    refine lv_iload_n hx hb d_M_out_23 rfl (lv_at hl 1 rfl) ?_
    refine va_iald hx hb hK hP 1 0 rfl rfl (by rw [ei9]; exact vp_in_nI (by omega) (by decide)) d_M_out_24 ?_
    refine lv_topi (fun v_3 ev_3 => ?_)
    refine lv_goto (tgt := 29) hx hb d_M_out_25 (by decide) ?_
    exact my_iret (v := v_3) hx hb hr (rfl) hlocks hQ hK hS (Nat.le_refl _) (Nat.le_refl _) () (by rw [if_pos hin]; subst_vars; rw [hc9]; exact hO _ hi9) (hP.sub [0, 1] rfl) (hD.sub [0, 1] (by decide +kernel) rfl) d_M_out_29
set_option maxHeartbeats 1000000 in
set_option maxRecDepth 100000 in
/-- spoil -/
theorem c_M_spoil (l : Launch) (dC : Nat → ClassId) (dI : Nat → Nat → Nat) (cI cM cO : ClassId) (sz : Nat) (o : Nat) (g : Nat → Nat) (fForm : Int32) (fShift : Int32) (fModels : Int32) (fItems : Int32) (fEnded : Int32) (fLow : Int64) (fRange : Int64) (fCache : Int32) (fPend : Int32) (fGoes : Int32) (fOuts : Int32) (fReads : Int32) (fBad : Int32) (fIR : Int32) (fAsk : Int32) (fBAsk : Int32) (fCode : Int64) (fRL : Int64) (fRR : Int64) (fX : Int64) (fWrites : Int32) (fThrown : Int32) (vIn : Nat → Int32) (is : List Nat) (p1 : Int32) (p2 : Int32) (hI : gIs vIn is) (hl9 : is.length ≤ 6000) : MetI l y_M_spoil (Cond.code y_M_spoil prog_14_method_39_code 3 (some .int) :: gw) ({ frames := 1, cells := 0, slots := 0, locals := 22 } : Room) (dC, dI) vwCl (kT cI cM cO) [Value.ref o, Value.int p1, Value.int p2] [(o, Sum.inr (9, mO g fForm fShift fModels fItems fEnded fLow fRange fCache fPend fGoes fOuts (nI is.length) fReads fBad fIR fAsk fBAsk fCode fRL fRR fX fWrites fThrown)), ((g 8), Sum.inl (cI, 6000, Sum.inl vIn))] sz (fun (r : Int32) (u : (Nat → Int32)) => (¬ isN is.length p1 ∧ r = -1 ∧ u = vIn) ∨ (isN is.length p1 ∧ ¬ (0 ≤ p2 ∧ p2 ≤ 255) ∧ r = -2 ∧ u = vIn) ∨ (isN is.length p1 ∧ ∃ t, t < 256 ∧ p2 = nI t ∧ r = nI (byA is p1.toNatClampNeg ^^^ t) ∧ gIs u (is.set p1.toNatClampNeg (byA is p1.toNatClampNeg ^^^ t)))) (fun (u : (Nat → Int32)) => [(o, Sum.inr (9, mO g fForm fShift fModels fItems fEnded fLow fRange fCache fPend fGoes fOuts (nI is.length) fReads fBad fIR fAsk fBAsk fCode fRL fRR fX fWrites 0)), ((g 8), Sum.inl (cI, 6000, Sum.inl u))]) 0 0 := by
  refine my_ofI (cc := prog_14_method_39_code) (n := 3) (ret := (some .int)) (by decide) rfl (Nat.le_of_ble_eq_true rfl) ?_
  intro p e s m args below meth c R Q A ls H locs hx hb hr hts hown hlocks hml hnm hR hQ hA hl hP hK hN hD hS
  have hg : ∀ w ∈ gw, w.before args s = true := fun w h => hts w (List.mem_cons_of_mem _ h)
  have hown : s.vm.findClass "RangeCodersModel" = some m.cls := hown
  have hl : lv_has ls 3 [(0, Value.ref o), (1, Value.int p1), (2, Value.int p2)] := hl
  refine lv_aload_n hx hb d_M_spoil_0 rfl (lv_at hl 0 rfl) ?_
  refine lv_iconst (v := 0) hx hb d_M_spoil_1 (by decide) ?_
  refine va_put (D := (dC, dI)) (ci := 9) (v := .int 0) (ty := .int) (C := "RangeCodersModel") (T := T_M) (N := 35) hx hb hg in_M t_M o_M n_M hown hK hP hD hS 0 rfl rfl 34 (by decide) (hg _ k986) (fun _ h9 => h9) rfl (by decide +kernel) rfl rfl (Nat.le_of_ble_eq_true rfl) d_M_spoil_2 (fun H locs hP hD hS => ?_)
  have hP : va_P (dC, dI) vwCl [(o, Sum.inr (9, mO g fForm fShift fModels fItems fEnded fLow fRange fCache fPend fGoes fOuts (nI is.length) fReads fBad fIR fAsk fBAsk fCode fRL fRR fX fWrites 0)), ((g 8), Sum.inl (cI, 6000, Sum.inl vIn))] H := hP
  have hD : va_D A [(o, Sum.inr (9, mO g fForm fShift fModels fItems fEnded fLow fRange fCache fPend fGoes fOuts (nI is.length) fReads fBad fIR fAsk fBAsk fCode fRL fRR fX fWrites 0)), ((g 8), Sum.inl (cI, 6000, Sum.inl vIn))] := hD
  refine lv_iload_n hx hb d_M_spoil_5 rfl (lv_at hl 1 rfl) ?_
  refine lv_iconst (v := 0) hx hb d_M_spoil_6 (by decide) ?_
  refine lv_aload_n hx hb d_M_spoil_7 rfl (lv_at hl 0 rfl) ?_
  refine va_get (D := (dC, dI)) (ci := 9) (v := .int (nI is.length)) (C := "RangeCodersModel") (T := T_M) (N := 35) hx hb hg in_M hown hK hP 0 rfl rfl 20 (by decide) (hg _ k972) (fun _ h9 => h9) rfl d_M_spoil_8 ?_
  refine lv_iconst (v := 1) hx hb d_M_spoil_11 (by decide) ?_
  refine lv_isub hx hb d_M_spoil_12 ?_
  refine lv_topi (fun v_1 ev_1 => ?_)
  have z9 : v_1 = nI is.length - 1 := by subst_vars; rfl
  subst z9
  refine my_ci (wr := [(o, Sum.inr (9, mO g fForm fShift fModels fItems fEnded fLow fRange fCache fPend fGoes fOuts (nI is.length) fReads fBad fIR fAsk fBAsk fCode fRL fRR fX fWrites 0)), ((g 8), Sum.inl (cI, 6000, Sum.inl vIn))]) (va_runS (As := [Value.int p1, Value.int 0, Value.int (nI is.length - 1)]) (rest := []) ⟨hx, hb, hml, hown, hts⟩ (c_M_in l dC dI cI cM cO H.size p1 0 (nI is.length - 1)) (cwS 3 hts (my_gS k1062 k1063 k12 k1064) rfl rfl rfl (by decide +kernel) ⟨by rw [hR]; exact Nat.le_of_ble_eq_true rfl, by rw [hR]; exact Nat.le_of_ble_eq_true rfl⟩) (my_pre hK hN (hP.sub [] rfl) (hD.sub [] (by decide +kernel) rfl)) rfl rfl hl.1 rfl (lv_room (Nat.le_of_ble_eq_true rfl)) d_M_spoil_13 ⟨by rw [hR]; exact Nat.le_of_ble_eq_true rfl, by rw [hR]; exact Nat.le_of_ble_eq_true rfl⟩) hP hD hS hA [] [0, 1] rfl rfl (by decide +kernel) (by decide +kernel) (fun r_13 u9 H locs hw_13 hP hD hS => ?_)
  have hw_13 : r_13 = if 0 ≤ p1 ∧ p1 ≤ (nI is.length - 1) then 1 else 0 := hw_13
  have hP : va_P (dC, dI) vwCl [(o, Sum.inr (9, mO g fForm fShift fModels fItems fEnded fLow fRange fCache fPend fGoes fOuts (nI is.length) fReads fBad fIR fAsk fBAsk fCode fRL fRR fX fWrites 0)), ((g 8), Sum.inl (cI, 6000, Sum.inl vIn))] H := hP
  have hD : va_D A [(o, Sum.inr (9, mO g fForm fShift fModels fItems fEnded fLow fRange fCache fPend fGoes fOuts (nI is.length) fReads fBad fIR fAsk fBAsk fCode fRL fRR fX fWrites 0)), ((g 8), Sum.inl (cI, 6000, Sum.inl vIn))] := hD
  refine lv_if_ne (tgt := 21) hx hb d_M_spoil_16 (by decide) (fun c_2 => ?_) (fun c_2 => ?_)
  · have hin := one_ne hw_13 c_2
    obtain ⟨i9, hi9, ei9⟩ := (isN_iff (by omega)).mp hin
    have hc9 : p1.toNatClampNeg = i9 := by rw [ei9]; exact nI_clamp (by omega)
    refine lv_iload_n hx hb d_M_spoil_21 rfl (lv_at hl 2 rfl) ?_
    refine lv_iconst (v := 0) hx hb d_M_spoil_22 (by decide) ?_
    refine lv_sipush (v := 255) hx hb d_M_spoil_23 (by decide) ?_
    refine my_ci (wr := [(o, Sum.inr (9, mO g fForm fShift fModels fItems fEnded fLow fRange fCache fPend fGoes fOuts (nI is.length) fReads fBad fIR fAsk fBAsk fCode fRL fRR fX fWrites 0)), ((g 8), Sum.inl (cI, 6000, Sum.inl vIn))]) (va_runS (As := [Value.int p2, Value.int 0, Value.int 255]) (rest := []) ⟨hx, hb, hml, hown, hts⟩ (c_M_in l dC dI cI cM cO H.size p2 0 255) (cwS 3 hts (my_gS k1062 k1063 k12 k1064) rfl rfl rfl (by decide +kernel) ⟨by rw [hR]; exact Nat.le_of_ble_eq_true rfl, by rw [hR]; exact Nat.le_of_ble_eq_true rfl⟩) (my_pre hK hN (hP.sub [] rfl) (hD.sub [] (by decide +kernel) rfl)) rfl rfl hl.1 rfl (lv_room (Nat.le_of_ble_eq_true rfl)) d_M_spoil_26 ⟨by rw [hR]; exact Nat.le_of_ble_eq_true rfl, by rw [hR]; exact Nat.le_of_ble_eq_true rfl⟩) hP hD hS hA [] [0, 1] rfl rfl (by decide +kernel) (by decide +kernel) (fun r_26 u9 H locs hw_26 hP hD hS => ?_)
    have hw_26 : r_26 = if 0 ≤ p2 ∧ p2 ≤ 255 then 1 else 0 := hw_26
    have hP : va_P (dC, dI) vwCl [(o, Sum.inr (9, mO g fForm fShift fModels fItems fEnded fLow fRange fCache fPend fGoes fOuts (nI is.length) fReads fBad fIR fAsk fBAsk fCode fRL fRR fX fWrites 0)), ((g 8), Sum.inl (cI, 6000, Sum.inl vIn))] H := hP
    have hD : va_D A [(o, Sum.inr (9, mO g fForm fShift fModels fItems fEnded fLow fRange fCache fPend fGoes fOuts (nI is.length) fReads fBad fIR fAsk fBAsk fCode fRL fRR fX fWrites 0)), ((g 8), Sum.inl (cI, 6000, Sum.inl vIn))] := hD
    refine lv_if_ne (tgt := 35) hx hb d_M_spoil_29 (by decide) (fun c_3 => ?_) (fun c_3 => ?_)
    · have hi2 := one_ne hw_26 c_3
      obtain ⟨t9, ht9, et9⟩ : ∃ t, t < 256 ∧ p2 = nI t := by
        obtain ⟨z, hz, ez⟩ := nI_of2 (M := 255) (n := 255) (by decide) (Int32.not_lt.mpr hi2.1) hi2.2
        exact ⟨z, by omega, ez⟩
      refine lv_aload_n hx hb d_M_spoil_35 rfl (lv_at hl 0 rfl) ?_
      refine va_get (D := (dC, dI)) (ci := 9) (v := .ref (g 8)) (C := "RangeCodersModel") (T := T_M) (N := 35) hx hb hg in_M hown hK hP 0 rfl rfl 19 (by decide) (hg _ k971) (fun _ h9 => h9) rfl d_M_spoil_36 ?_
      refine lv_iload_n hx hb d_M_spoil_39 rfl (lv_at hl 1 rfl) ?_
      refine lv_aload_n hx hb d_M_spoil_40 rfl (lv_at hl 0 rfl) ?_
      refine va_get (D := (dC, dI)) (ci := 9) (v := .ref (g 8)) (C := "RangeCodersModel") (T := T_M) (N := 35) hx hb hg in_M hown hK hP 0 rfl rfl 19 (by decide) (hg _ k971) (fun _ h9 => h9) rfl d_M_spoil_41 ?_
      refine lv_iload_n hx hb d_M_spoil_44 rfl (lv_at hl 1 rfl) ?_
      refine va_iald hx hb hK hP 1 0 rfl rfl (by rw [ei9]; exact vp_in_nI (by omega) (by decide)) d_M_spoil_45 ?_
      refine lv_topi (fun v_4 ev_4 => ?_)
      refine lv_iload_n hx hb d_M_spoil_46 rfl (lv_at hl 2 rfl) ?_
      refine lv_ixor hx hb d_M_spoil_47 ?_
      refine lv_topi (fun v_5 ev_5 => ?_)
      have hval : v_5 = nI (byA is i9 ^^^ t9) := by subst_vars; rw [nI_clamp (by omega), hI _ hi9]; exact I_xor _ _
      refine va_iast hx hb hK hP hD hS 1 0 rfl rfl (by rw [ei9]; exact vp_in_nI (by omega) (by decide)) d_M_spoil_48 (fun H locs hP hD hS => ?_)
      have hP : va_P (dC, dI) vwCl [(o, Sum.inr (9, mO g fForm fShift fModels fItems fEnded fLow fRange fCache fPend fGoes fOuts (nI is.length) fReads fBad fIR fAsk fBAsk fCode fRL fRR fX fWrites 0)), ((g 8), Sum.inl (cI, 6000, Sum.inl (upd vIn p1.toNatClampNeg v_5)))] H := hP
      have hD : va_D A [(o, Sum.inr (9, mO g fForm fShift fModels fItems fEnded fLow fRange fCache fPend fGoes fOuts (nI is.length) fReads fBad fIR fAsk fBAsk fCode fRL fRR fX fWrites 0)), ((g 8), Sum.inl (cI, 6000, Sum.inl (upd vIn p1.toNatClampNeg v_5)))] := hD
      refine lv_aload_n hx hb d_M_spoil_49 rfl (lv_at hl 0 rfl) ?_
      refine va_get (D := (dC, dI)) (ci := 9) (v := .ref (g 8)) (C := "RangeCodersModel") (T := T_M) (N := 35) hx hb hg in_M hown hK hP 0 rfl rfl 19 (by decide) (hg _ k971) (fun _ h9 => h9) rfl d_M_spoil_50 ?_
      refine lv_iload_n hx hb d_M_spoil_53 rfl (lv_at hl 1 rfl) ?_
      refine va_iald hx hb hK hP 1 0 rfl rfl (by rw [ei9]; exact vp_in_nI (by omega) (by decide)) d_M_spoil_54 ?_
      refine lv_topi (fun v_6 ev_6 => ?_)
      exact my_iret (v := v_6) hx hb hr (rfl) hlocks hQ hK hS (Nat.le_refl _) (Nat.le_refl _) (upd vIn p1.toNatClampNeg v_5) (Or.inr (Or.inr ⟨hin, t9, ht9, et9, by rw [hc9, ev_6, pk_us]; exact hval, by rw [hc9]; exact gIs_set hI hval⟩)) (hP.sub [0, 1] rfl) (hD.sub [0, 1] (by decide +kernel) rfl) d_M_spoil_55
    · have hi2 := one_eq hw_26 c_3
      refine lv_bipush (v := (-2)) hx hb d_M_spoil_32 (by decide) ?_
      exact my_iret (v := (-2)) hx hb hr (rfl) hlocks hQ hK hS (Nat.le_refl _) (Nat.le_refl _) vIn (Or.inr (Or.inl ⟨hin, hi2, rfl, rfl⟩)) (hP.sub [0, 1] rfl) (hD.sub [0, 1] (by decide +kernel) rfl) d_M_spoil_34
  · have hin := one_eq hw_13 c_2
    refine lv_iconst (v := (-1)) hx hb d_M_spoil_19 (by decide) ?_
    exact my_iret (v := (-1)) hx hb hr (rfl) hlocks hQ hK hS (Nat.le_refl _) (Nat.le_refl _) vIn (Or.inl ⟨hin, rfl, rfl⟩) (hP.sub [0, 1] rfl) (hD.sub [0, 1] (by decide +kernel) rfl) d_M_spoil_20

