section
set_option maxHeartbeats 2000000 in
set_option maxRecDepth 100000 in
theorem m_octetsR (l : Launch) (dC : Nat → ClassId) (dI : Nat → Nat → Nat) (cI cM cO : ClassId) (sz : Nat) (o : Nat) (g : Nat → Nat) (fForm : Int32) (fShift : Int32) (fModels : Int32) (fItems : Int32) (fEnded : Int32) (fLow : Int64) (fRange : Int64) (fCache : Int32) (fPend : Int32) (fGoes : Int32) (fOuts : Int32) (fReads : Int32) (fBad : Int32) (fIR : Int32) (fAsk : Int32) (fBAsk : Int32) (fCode : Int64) (fRL : Int64) (fRR : Int64) (fX : Int64) (fWrites : Int32) (fThrown : Int32) (is : List Nat) (p1 : Int32) (hlen : is.length ≤ 6000) (hfl : 6000 < is.length + 4) : MetI l y_M_octets (Cond.code y_M_octets prog_14_method_37_code 3 (some .int) :: gw) ({ frames := 0, cells := 0, slots := 0, locals := 0 } : Room) (dC, dI) vwCl (kT cI cM cO) [Value.ref o, Value.int p1] [(o, Sum.inr (9, mO g fForm fShift fModels fItems fEnded fLow fRange fCache fPend fGoes fOuts (nI is.length) fReads fBad fIR fAsk fBAsk fCode fRL fRR fX fWrites fThrown))] sz (fun (r : Int32) (u : Unit) => r = -4) (fun (u : Unit) => [(o, Sum.inr (9, mO g fForm fShift fModels fItems fEnded fLow fRange fCache fPend fGoes fOuts (nI is.length) fReads fBad fIR fAsk fBAsk fCode fRL fRR fX fWrites 0))]) 0 0 := by
  refine my_ofI (cc := prog_14_method_37_code) (n := 3) (ret := (some .int)) (by decide) rfl (Nat.le_of_ble_eq_true rfl) ?_
  intro p e s m args below meth c R Q A ls H locs hx hb hr hts hown hlocks hml hnm hR hQ hA hl hP hK hN hD hS
  have hg : ∀ w ∈ gw, w.before args s = true := fun w h => hts w (List.mem_cons_of_mem _ h)
  have hown : s.vm.findClass "RangeCodersModel" = some m.cls := hown
  have hl : lv_has ls 3 [(0, Value.ref o), (1, Value.int p1)] := hl
  refine lv_aload_n hx hb d_M_octets_0 rfl (lv_at hl 0 rfl) ?_
  refine lv_iconst (v := 0) hx hb d_M_octets_1 (by decide) ?_
  refine va_put (D := (dC, dI)) (ci := 9) (v := .int 0) (ty := .int) (C := "RangeCodersModel") (T := T_M) (N := 35) hx hb hg in_M t_M o_M n_M hown hK hP hD hS 0 rfl rfl 34 (by decide) (hg _ k986) (fun _ h9 => h9) rfl (o_M 34 (by decide)) rfl rfl (Nat.le_of_ble_eq_true rfl) d_M_octets_2 (fun H locs hP hD hS => ?_)
  have hPD : my_PD (dC, dI) vwCl A [(o, Sum.inr (9, mO g fForm fShift fModels fItems fEnded fLow fRange fCache fPend fGoes fOuts (nI is.length) fReads fBad fIR fAsk fBAsk fCode fRL fRR fX fWrites 0))] H := ⟨hP, hD⟩
  have hP := hPD.1
  have hD := hPD.2
  refine lv_aload_n hx hb d_M_octets_5 rfl (lv_at hl 0 rfl) ?_
  refine va_get (D := (dC, dI)) (ci := 9) (v := .int (nI is.length)) (C := "RangeCodersModel") (T := T_M) (N := 35) hx hb hg in_M hown hK hP 0 rfl rfl 20 (by decide) (hg _ k972) (fun _ h9 => h9) rfl d_M_octets_6 ?_
  refine lv_iconst (v := 4) hx hb d_M_octets_9 (by decide) ?_
  refine lv_iadd hx hb d_M_octets_10 ?_
  refine lv_topi (fun v_1 ev_1 => ?_)
  refine lv_sipush (v := 6000) hx hb d_M_octets_11 (by decide) ?_
  have z9 : v_1 = nI (is.length + 4) := by rw [ev_1]; exact nI_add _ 4
  subst z9
  refine lv_icmp_le (tgt := 20) hx hb d_M_octets_14 (by decide) (fun c_2 => ?_) (fun c_2 => ?_)
  · exact absurd ((nI_cmp (b := 6000) (by omega) (by decide)).mp c_2) (by omega)
  · refine lv_bipush (v := (-4)) hx hb d_M_octets_17 (by decide) ?_
    exact my_iret (v := (-4)) hx hb hr (rfl) hlocks hQ hK hS (Nat.le_refl _) (Nat.le_refl _) () (rfl) (hP.sub [0] rfl) (hD.sub [0] (by decide +kernel) rfl) d_M_octets_19
set_option maxHeartbeats 2000000 in
set_option maxRecDepth 100000 in
theorem m_octetsL (l : Launch) (dC : Nat → ClassId) (dI : Nat → Nat → Nat) (cI cM cO : ClassId) (sz : Nat) (o : Nat) (g : Nat → Nat) (fForm : Int32) (fShift : Int32) (fModels : Int32) (fItems : Int32) (fEnded : Int32) (fLow : Int64) (fRange : Int64) (fCache : Int32) (fPend : Int32) (fGoes : Int32) (fOuts : Int32) (fReads : Int32) (fBad : Int32) (fIR : Int32) (fAsk : Int32) (fBAsk : Int32) (fCode : Int64) (fRL : Int64) (fRR : Int64) (fX : Int64) (fWrites : Int32) (fThrown : Int32) (vIn : Nat → Int32) (is : List Nat) (p1 : Int32) (hI : gIs vIn is) (hlen : is.length ≤ 6000) (hfl : is.length + 4 ≤ 6000) : MetI l y_M_octets (Cond.code y_M_octets prog_14_method_37_code 3 (some .int) :: gw) ({ frames := 0, cells := 0, slots := 0, locals := 0 } : Room) (dC, dI) vwCl (kT cI cM cO) [Value.ref o, Value.int p1] [(o, Sum.inr (9, mO g fForm fShift fModels fItems fEnded fLow fRange fCache fPend fGoes fOuts (nI is.length) fReads fBad fIR fAsk fBAsk fCode fRL fRR fX fWrites fThrown)), ((g 8), Sum.inl (cI, 6000, Sum.inl vIn))] sz (fun (r : Int32) (u : (Nat → Int32)) => r = nI (is ++ [oB p1 3, oB p1 2, oB p1 1, oB p1 0]).length ∧ gIs u (is ++ [oB p1 3, oB p1 2, oB p1 1, oB p1 0])) (fun (u : (Nat → Int32)) => [(o, Sum.inr (9, mO g fForm fShift fModels fItems fEnded fLow fRange fCache fPend fGoes fOuts (nI (is ++ [oB p1 3, oB p1 2, oB p1 1, oB p1 0]).length) fReads fBad fIR fAsk fBAsk fCode fRL fRR fX fWrites 0)), ((g 8), Sum.inl (cI, 6000, Sum.inl u))]) 0 0 := by
  refine my_ofI (cc := prog_14_method_37_code) (n := 3) (ret := (some .int)) (by decide) rfl (Nat.le_of_ble_eq_true rfl) ?_
  intro p e s m args below meth c R Q A ls H locs hx hb hr hts hown hlocks hml hnm hR hQ hA hl hP hK hN hD hS
  have hg : ∀ w ∈ gw, w.before args s = true := fun w h => hts w (List.mem_cons_of_mem _ h)
  have hown : s.vm.findClass "RangeCodersModel" = some m.cls := hown
  have hl : lv_has ls 3 [(0, Value.ref o), (1, Value.int p1)] := hl
  refine lv_aload_n hx hb d_M_octets_0 rfl (lv_at hl 0 rfl) ?_
  refine lv_iconst (v := 0) hx hb d_M_octets_1 (by decide) ?_
  refine va_put (D := (dC, dI)) (ci := 9) (v := .int 0) (ty := .int) (C := "RangeCodersModel") (T := T_M) (N := 35) hx hb hg in_M t_M o_M n_M hown hK hP hD hS 0 rfl rfl 34 (by decide) (hg _ k986) (fun _ h9 => h9) rfl (o_M 34 (by decide)) rfl rfl (Nat.le_of_ble_eq_true rfl) d_M_octets_2 (fun H locs hP hD hS => ?_)
  have hPD : my_PD (dC, dI) vwCl A [(o, Sum.inr (9, mO g fForm fShift fModels fItems fEnded fLow fRange fCache fPend fGoes fOuts (nI is.length) fReads fBad fIR fAsk fBAsk fCode fRL fRR fX fWrites 0)), ((g 8), Sum.inl (cI, 6000, Sum.inl vIn))] H := ⟨hP, hD⟩
  have hP := hPD.1
  have hD := hPD.2
  refine lv_aload_n hx hb d_M_octets_5 rfl (lv_at hl 0 rfl) ?_
  refine va_get (D := (dC, dI)) (ci := 9) (v := .int (nI is.length)) (C := "RangeCodersModel") (T := T_M) (N := 35) hx hb hg in_M hown hK hP 0 rfl rfl 20 (by decide) (hg _ k972) (fun _ h9 => h9) rfl d_M_octets_6 ?_
  refine lv_iconst (v := 4) hx hb d_M_octets_9 (by decide) ?_
  refine lv_iadd hx hb d_M_octets_10 ?_
  refine lv_topi (fun v_1 ev_1 => ?_)
  refine lv_sipush (v := 6000) hx hb d_M_octets_11 (by decide) ?_
  have z9 : v_1 = nI (is.length + 4) := by rw [ev_1]; exact nI_add _ 4
  subst z9
  refine lv_icmp_le (tgt := 20) hx hb d_M_octets_14 (by decide) (fun c_2 => ?_) (fun c_2 => ?_)
  · refine lv_iconst (v := 3) hx hb d_M_octets_20 (by decide) ?_
    refine lv_istore_n (lv' := [(2, Value.int 3), (0, Value.ref o), (1, Value.int p1)]) hx hb d_M_octets_21 rfl hl (by decide) rfl (fun ls hl => ?_)
    have J_22 : ∀ (n9_22 : Nat) (k9 : Int32) (j : Nat) (b9 : List Nat) (fI : Nat → Int32) (hn9_22 : j = n9_22) (hi : k9.toInt = (j : Int) - 1) (hj : j ≤ 4) (hb9 : is ++ [oB p1 3, oB p1 2, oB p1 1, oB p1 0] = b9 ++ (List.range j).reverse.map (oB p1)) (hM9 : b9.length + j = is.length + 4) (hI9 : gIs fI b9) (H : Heap) (locs : List Loc) (ls : Array Slot), va_P (dC, dI) vwCl [(o, Sum.inr (9, mO g fForm fShift fModels fItems fEnded fLow fRange fCache fPend fGoes fOuts (nI b9.length) fReads fBad fIR fAsk fBAsk fCode fRL fRR fX fWrites 0)), ((g 8), Sum.inl (cI, 6000, Sum.inl fI))] H → va_D A [(o, Sum.inr (9, mO g fForm fShift fModels fItems fEnded fLow fRange fCache fPend fGoes fOuts (nI b9.length) fReads fBad fIR fAsk fBAsk fCode fRL fRR fX fWrites 0)), ((g 8), Sum.inl (cI, 6000, Sum.inl fI))] → va_S A s.heap H locs → lv_has ls 3 [(2, Value.int k9), (0, Value.ref o), (1, Value.int p1)] → W p l e R s m args below meth c H locs 0 0 Q (F0 m 22 ls []) := by
      intro n9_22
      induction n9_22 using Nat.strongRecOn with
      | ind n9_22 ih9_22 =>
        intro k9 j b9 fI hn9_22 hi hj hb9 hM9 hI9 H locs ls hP hD hS hl
        refine lv_iload_n hx hb d_M_octets_22 rfl (lv_at hl 0 rfl) ?_
        refine lv_if_lt (tgt := 61) hx hb d_M_octets_23 (by decide) (fun c_3 => ?_) (fun c_3 => ?_)
        · have z9 := I_ng c_3
          have hj0 : j = 0 := by omega
          have z9 : b9 = is ++ [oB p1 3, oB p1 2, oB p1 1, oB p1 0] := by rw [hb9, hj0]; simp
          subst z9
          refine lv_aload_n hx hb d_M_octets_61 rfl (lv_at hl 1 rfl) ?_
          refine va_get (D := (dC, dI)) (ci := 9) (v := .int (nI (is ++ [oB p1 3, oB p1 2, oB p1 1, oB p1 0]).length)) (C := "RangeCodersModel") (T := T_M) (N := 35) hx hb hg in_M hown hK hP 0 rfl rfl 20 (by decide) (hg _ k972) (fun _ h9 => h9) rfl d_M_octets_62 ?_
          exact my_iret (v := nI (is ++ [oB p1 3, oB p1 2, oB p1 1, oB p1 0]).length) hx hb hr (rfl) hlocks hQ hK hS (Nat.le_refl _) (Nat.le_refl _) (fI) (⟨rfl, hI9⟩) (hP.sub [0, 1] rfl) (hD.sub [0, 1] (by decide +kernel) rfl) d_M_octets_65
        · have hd9 := I_dn (v := k9 + (-1)) c_3 rfl
          have hj0 : 1 ≤ j := by omega
          have hk9 : k9 = nI (j - 1) := Int32.toInt_inj.mp (by rw [nI_toInt (by omega)]; omega)
          refine lv_aload_n hx hb d_M_octets_26 rfl (lv_at hl 1 rfl) ?_
          refine va_get (D := (dC, dI)) (ci := 9) (v := .ref (g 8)) (C := "RangeCodersModel") (T := T_M) (N := 35) hx hb hg in_M hown hK hP 0 rfl rfl 19 (by decide) (hg _ k971) (fun _ h9 => h9) rfl d_M_octets_27 ?_
          refine lv_aload_n hx hb d_M_octets_30 rfl (lv_at hl 1 rfl) ?_
          refine va_get (D := (dC, dI)) (ci := 9) (v := .int (nI b9.length)) (C := "RangeCodersModel") (T := T_M) (N := 35) hx hb hg in_M hown hK hP 0 rfl rfl 20 (by decide) (hg _ k972) (fun _ h9 => h9) rfl d_M_octets_31 ?_
          refine lv_iload_n hx hb d_M_octets_34 rfl (lv_at hl 2 rfl) ?_
          refine lv_bipush (v := 8) hx hb d_M_octets_35 (by decide) ?_
          refine lv_iload_n hx hb d_M_octets_37 rfl (lv_at hl 0 rfl) ?_
          refine lv_imul hx hb d_M_octets_38 ?_
          refine lv_topi (fun v_4 ev_4 => ?_)
          refine lv_ishr hx hb d_M_octets_39 ?_
          refine lv_topi (fun v_5 ev_5 => ?_)
          refine lv_sipush (v := 255) hx hb d_M_octets_40 (by decide) ?_
          refine lv_iand hx hb d_M_octets_43 ?_
          refine lv_topi (fun v_6 ev_6 => ?_)
          have hv9 : v_6 = nI (oB p1 (j - 1)) := by rw [ev_6, ev_5]; exact oB_s p1 (j - 1) (by omega) _ (by rw [ev_4, hk9]; exact pk_mul 8 _)
          refine va_iast hx hb hK hP hD hS 1 0 rfl rfl (vp_in_nI (by omega) (by decide)) d_M_octets_44 (fun H locs hP hD hS => ?_)
          have hPD : my_PD (dC, dI) vwCl A [(o, Sum.inr (9, mO g fForm fShift fModels fItems fEnded fLow fRange fCache fPend fGoes fOuts (nI b9.length) fReads fBad fIR fAsk fBAsk fCode fRL fRR fX fWrites 0)), ((g 8), Sum.inl (cI, 6000, Sum.inl (upd fI (nI b9.length).toNatClampNeg v_6)))] H := ⟨hP, hD⟩
          have hP := hPD.1
          have hD := hPD.2
          have hI8 : gIs (upd fI (nI b9.length).toNatClampNeg v_6) (b9 ++ [oB p1 (j - 1)]) := gIs_up hI9 (nI_clamp (by omega)) hv9
          refine lv_aload_n hx hb d_M_octets_45 rfl (lv_at hl 1 rfl) ?_
          refine lv_dup hx hb d_M_octets_46 rfl ?_
          refine va_get (D := (dC, dI)) (ci := 9) (v := .int (nI b9.length)) (C := "RangeCodersModel") (T := T_M) (N := 35) hx hb hg in_M hown hK hP 0 rfl rfl 20 (by decide) (hg _ k972) (fun _ h9 => h9) rfl d_M_octets_47 ?_
          refine lv_iconst (v := 1) hx hb d_M_octets_50 (by decide) ?_
          refine lv_iadd hx hb d_M_octets_51 ?_
          refine lv_topi (fun v_7 ev_7 => ?_)
          have z9 : v_7 = nI (b9 ++ [oB p1 (j - 1)]).length := by rw [ev_7, List.length_append]; exact nI_1 _
          subst z9
          refine va_put (D := (dC, dI)) (ci := 9) (v := .int (nI (b9 ++ [oB p1 (j - 1)]).length)) (ty := .int) (C := "RangeCodersModel") (T := T_M) (N := 35) hx hb hg in_M t_M o_M n_M hown hK hP hD hS 0 rfl rfl 20 (by decide) (hg _ k972) (fun _ h9 => h9) rfl (o_M 20 (by decide)) rfl rfl (Nat.le_of_ble_eq_true rfl) d_M_octets_52 (fun H locs hP hD hS => ?_)
          have hPD : my_PD (dC, dI) vwCl A [(o, Sum.inr (9, mO g fForm fShift fModels fItems fEnded fLow fRange fCache fPend fGoes fOuts (nI (b9 ++ [oB p1 (j - 1)]).length) fReads fBad fIR fAsk fBAsk fCode fRL fRR fX fWrites 0)), ((g 8), Sum.inl (cI, 6000, Sum.inl (upd fI (nI b9.length).toNatClampNeg v_6)))] H := ⟨hP, hD⟩
          have hP := hPD.1
          have hD := hPD.2
          obtain ⟨v_8, ev_8⟩ : ∃ y : Int32, y = k9 + (-1) := ⟨_, rfl⟩
          refine lv_iinc (v := v_8) (lv' := [(2, Value.int v_8), (0, Value.ref o), (1, Value.int p1)]) hx hb d_M_octets_55 hl (k := 0) rfl (by rw [ev_8]; rfl) (by decide) rfl (fun ls hl => ?_)
          rw [← ev_8] at hd9
          refine lv_goto (tgt := 22) hx hb d_M_octets_58 (by decide) ?_
          exact ih9_22 _ (by first | omega | (omega)) v_8 (j - 1) (b9 ++ [oB p1 (j - 1)]) (upd fI (nI b9.length).toNatClampNeg v_6) rfl (by omega) (by omega) (by rw [hb9, show j = (j - 1) + 1 by omega, List.range_succ, List.reverse_append]; simp) (by rw [List.length_append, List.length_singleton]; omega) (hI8) H locs ls (hP.sub [0, 1] rfl) (hD.sub [0, 1] (by decide +kernel) rfl) hS (lv_sub hl [0, 1, 2] rfl)
    exact J_22 _ (3 : Int32) (4 : Nat) is vIn rfl (by decide) (by decide) (rfl) (rfl) (hI) H locs ls (hP.sub [0, 1] rfl) (hD.sub [0, 1] (by decide +kernel) rfl) hS (lv_sub hl [0, 1, 2] rfl)
  · exact absurd ((nI_cmp (b := 6000) (by omega) (by decide)).mpr (by omega)) c_2
set_option maxHeartbeats 2000000 in
set_option maxRecDepth 100000 in
theorem m_takeA (l : Launch) (dC : Nat → ClassId) (dI : Nat → Nat → Nat) (cI cM cO : ClassId) (sz : Nat) (o : Nat) (g : Nat → Nat) (fForm : Int32) (fShift : Int32) (fModels : Int32) (fItems : Int32) (fEnded : Int32) (fLow : Int64) (fRange : Int64) (fCache : Int32) (fPend : Int32) (fGoes : Int32) (fIns : Int32) (fReads : Int32) (fBad : Int32) (fIR : Int32) (fAsk : Int32) (fBAsk : Int32) (fCode : Int64) (fRL : Int64) (fRR : Int64) (fX : Int64) (fWrites : Int32) (fThrown : Int32) (os : List Nat) (p1 : Int32) (hos : os.length ≤ 9000) (hno : p1 < 0 ∨ nI os.length < p1 - 2) : MetI l y_M_take (Cond.code y_M_take prog_14_method_38_code 4 (some .int) :: gw) ({ frames := 0, cells := 0, slots := 0, locals := 0 } : Room) (dC, dI) vwCl (kT cI cM cO) [Value.ref o, Value.int p1] [(o, Sum.inr (9, mO g fForm fShift fModels fItems fEnded fLow fRange fCache fPend fGoes (nI os.length) fIns fReads fBad fIR fAsk fBAsk fCode fRL fRR fX fWrites fThrown))] sz (fun (r : Int32) (u : Unit) => r = -2) (fun (u : Unit) => [(o, Sum.inr (9, mO g fForm fShift fModels fItems fEnded fLow fRange fCache fPend fGoes (nI os.length) fIns fReads fBad fIR fAsk fBAsk fCode fRL fRR fX fWrites 0))]) 0 0 := by
  refine my_ofI (cc := prog_14_method_38_code) (n := 4) (ret := (some .int)) (by decide) rfl (Nat.le_of_ble_eq_true rfl) ?_
  intro p e s m args below meth c R Q A ls H locs hx hb hr hts hown hlocks hml hnm hR hQ hA hl hP hK hN hD hS
  have hg : ∀ w ∈ gw, w.before args s = true := fun w h => hts w (List.mem_cons_of_mem _ h)
  have hown : s.vm.findClass "RangeCodersModel" = some m.cls := hown
  have hl : lv_has ls 4 [(0, Value.ref o), (1, Value.int p1)] := hl
  refine lv_aload_n hx hb d_M_take_0 rfl (lv_at hl 0 rfl) ?_
  refine lv_iconst (v := 0) hx hb d_M_take_1 (by decide) ?_
  refine va_put (D := (dC, dI)) (ci := 9) (v := .int 0) (ty := .int) (C := "RangeCodersModel") (T := T_M) (N := 35) hx hb hg in_M t_M o_M n_M hown hK hP hD hS 0 rfl rfl 34 (by decide) (hg _ k986) (fun _ h9 => h9) rfl (o_M 34 (by decide)) rfl rfl (Nat.le_of_ble_eq_true rfl) d_M_take_2 (fun H locs hP hD hS => ?_)
  have hPD : my_PD (dC, dI) vwCl A [(o, Sum.inr (9, mO g fForm fShift fModels fItems fEnded fLow fRange fCache fPend fGoes (nI os.length) fIns fReads fBad fIR fAsk fBAsk fCode fRL fRR fX fWrites 0))] H := ⟨hP, hD⟩
  have hP := hPD.1
  have hD := hPD.2
  refine lv_iload_n hx hb d_M_take_5 rfl (lv_at hl 1 rfl) ?_
  refine lv_if_lt (tgt := 24) hx hb d_M_take_6 (by decide) (fun c_1 => ?_) (fun c_1 => ?_)
  · refine lv_bipush (v := (-2)) hx hb d_M_take_24 (by decide) ?_
    exact my_iret (v := (-2)) hx hb hr (rfl) hlocks hQ hK hS (Nat.le_refl _) (Nat.le_refl _) () (rfl) (hP.sub [0] rfl) (hD.sub [0] (by decide +kernel) rfl) d_M_take_26
  · refine lv_iload_n hx hb d_M_take_9 rfl (lv_at hl 1 rfl) ?_
    refine lv_iconst (v := 1) hx hb d_M_take_10 (by decide) ?_
    refine lv_icmp_le (tgt := 27) hx hb d_M_take_11 (by decide) (fun c_2 => ?_) (fun c_2 => ?_)
    · exact absurd hno (fun h9 => h9.elim c_1 (tk_le1 (by omega) c_1 c_2))
    · refine lv_iload_n hx hb d_M_take_14 rfl (lv_at hl 1 rfl) ?_
      refine lv_iconst (v := 2) hx hb d_M_take_15 (by decide) ?_
      refine lv_isub hx hb d_M_take_16 ?_
      refine lv_topi (fun v_3 ev_3 => ?_)
      refine lv_aload_n hx hb d_M_take_17 rfl (lv_at hl 0 rfl) ?_
      refine va_get (D := (dC, dI)) (ci := 9) (v := .int (nI os.length)) (C := "RangeCodersModel") (T := T_M) (N := 35) hx hb hg in_M hown hK hP 0 rfl rfl 18 (by decide) (hg _ k970) (fun _ h9 => h9) rfl d_M_take_18 ?_
      refine lv_icmp_le (tgt := 27) hx hb d_M_take_21 (by decide) (fun c_4 => ?_) (fun c_4 => ?_)
      · exact absurd hno (fun h9 => h9.elim c_1 (fun q9 => absurd (by rw [← ev_3]; exact c_4) (Int32.not_le.mpr q9)))
      · refine lv_bipush (v := (-2)) hx hb d_M_take_24 (by decide) ?_
        exact my_iret (v := (-2)) hx hb hr (rfl) hlocks hQ hK hS (Nat.le_refl _) (Nat.le_refl _) () (rfl) (hP.sub [0] rfl) (hD.sub [0] (by decide +kernel) rfl) d_M_take_26
set_option maxHeartbeats 20000000 in
set_option maxRecDepth 100000 in
theorem m_takeB (l : Launch) (dC : Nat → ClassId) (dI : Nat → Nat → Nat) (cI cM cO : ClassId) (sz : Nat) (o : Nat) (g : Nat → Nat) (fForm : Int32) (fShift : Int32) (fModels : Int32) (fItems : Int32) (fEnded : Int32) (fLow : Int64) (fRange : Int64) (fCache : Int32) (fPend : Int32) (fGoes : Int32) (fIns : Int32) (fBad : Int32) (fIR : Int32) (fAsk : Int32) (fBAsk : Int32) (fCode : Int64) (fRL : Int64) (fRR : Int64) (fX : Int64) (fWrites : Int32) (fThrown : Int32) (vOut : Nat → Int32) (vIn : Nat → Int32) (os : List Nat) (fReads : Int32) (ll : Nat) (p1 : Int32) (hO : gIs vOut os) (hn0 : ¬ p1 < 0) (hn2 : p1 - 2 ≤ nI os.length) (hll : ll ≤ os.length) (hl6 : os.length ≤ 6000) (hl1 : p1 = 1 → ll = os.length) (hl2 : ¬ p1 = 1 → (if (0 : Int32) < p1 - 2 then p1 - 2 else 0) = nI ll) : MetI l y_M_take (Cond.code y_M_take prog_14_method_38_code 4 (some .int) :: gw) ({ frames := 0, cells := 0, slots := 0, locals := 0 } : Room) (dC, dI) vwCl (kT cI cM cO) [Value.ref o, Value.int p1] [(o, Sum.inr (9, mO g fForm fShift fModels fItems fEnded fLow fRange fCache fPend fGoes (nI os.length) fIns fReads fBad fIR fAsk fBAsk fCode fRL fRR fX fWrites fThrown)), ((g 7), Sum.inl (cI, 9000, Sum.inl vOut)), ((g 8), Sum.inl (cI, 6000, Sum.inl vIn))] sz (fun (r : Int32) (u : (Nat → Int32) × Int32) => r = nI (os.take ll).length ∧ u.2 = nI (os.take ll).length ∧ gIs u.1 (os.take ll)) (fun (u : (Nat → Int32) × Int32) => [(o, Sum.inr (9, mO g fForm fShift fModels fItems fEnded fLow fRange fCache fPend fGoes (nI os.length) u.2 0 fBad fIR fAsk fBAsk fCode fRL fRR fX fWrites 0)), ((g 7), Sum.inl (cI, 9000, Sum.inl vOut)), ((g 8), Sum.inl (cI, 6000, Sum.inl u.1))]) 0 0 := by
  refine my_ofI (cc := prog_14_method_38_code) (n := 4) (ret := (some .int)) (by decide) rfl (Nat.le_of_ble_eq_true rfl) ?_
  intro p e s m args below meth c R Q A ls H locs hx hb hr hts hown hlocks hml hnm hR hQ hA hl hP hK hN hD hS
  have hg : ∀ w ∈ gw, w.before args s = true := fun w h => hts w (List.mem_cons_of_mem _ h)
  have hown : s.vm.findClass "RangeCodersModel" = some m.cls := hown
  have hl : lv_has ls 4 [(0, Value.ref o), (1, Value.int p1)] := hl
  refine lv_aload_n hx hb d_M_take_0 rfl (lv_at hl 0 rfl) ?_
  refine lv_iconst (v := 0) hx hb d_M_take_1 (by decide) ?_
  refine va_put (D := (dC, dI)) (ci := 9) (v := .int 0) (ty := .int) (C := "RangeCodersModel") (T := T_M) (N := 35) hx hb hg in_M t_M o_M n_M hown hK hP hD hS 0 rfl rfl 34 (by decide) (hg _ k986) (fun _ h9 => h9) rfl (o_M 34 (by decide)) rfl rfl (Nat.le_of_ble_eq_true rfl) d_M_take_2 (fun H locs hP hD hS => ?_)
  have hPD : my_PD (dC, dI) vwCl A [(o, Sum.inr (9, mO g fForm fShift fModels fItems fEnded fLow fRange fCache fPend fGoes (nI os.length) fIns fReads fBad fIR fAsk fBAsk fCode fRL fRR fX fWrites 0)), ((g 7), Sum.inl (cI, 9000, Sum.inl vOut)), ((g 8), Sum.inl (cI, 6000, Sum.inl vIn))] H := ⟨hP, hD⟩
  have hP := hPD.1
  have hD := hPD.2
  refine lv_iload_n hx hb d_M_take_5 rfl (lv_at hl 1 rfl) ?_
  refine lv_if_lt (tgt := 24) hx hb d_M_take_6 (by decide) (fun c_1 => ?_) (fun c_1 => ?_)
  · exact absurd c_1 hn0
  · refine lv_iload_n hx hb d_M_take_9 rfl (lv_at hl 1 rfl) ?_
    refine lv_iconst (v := 1) hx hb d_M_take_10 (by decide) ?_
    refine lv_icmp_le (tgt := 27) hx hb d_M_take_11 (by decide) (fun c_2 => ?_) (fun c_2 => ?_)
    · refine lv_iload_n hx hb d_M_take_27 rfl (lv_at hl 1 rfl) ?_
      refine lv_if_ne (tgt := 35) hx hb d_M_take_28 (by decide) (fun c_3 => ?_) (fun c_3 => ?_)
      · refine lv_iload_n hx hb d_M_take_35 rfl (lv_at hl 1 rfl) ?_
        refine lv_iconst (v := 1) hx hb d_M_take_36 (by decide) ?_
        refine lv_icmp_ne (tgt := 47) hx hb d_M_take_37 (by decide) (fun c_4 => ?_) (fun c_4 => ?_)
        · exact absurd (n01 c_2 c_1 c_3 c_4) id
        · refine lv_aload_n hx hb d_M_take_40 rfl (lv_at hl 0 rfl) ?_
          refine va_get (D := (dC, dI)) (ci := 9) (v := .int (nI os.length)) (C := "RangeCodersModel") (T := T_M) (N := 35) hx hb hg in_M hown hK hP 0 rfl rfl 18 (by decide) (hg _ k970) (fun _ h9 => h9) rfl d_M_take_41 ?_
          refine lv_goto (tgt := 50) hx hb d_M_take_44 (by decide) ?_
          refine lv_istore_n (lv' := [(2, Value.int (nI os.length)), (0, Value.ref o), (1, Value.int p1)]) hx hb d_M_take_50 rfl hl (by decide) rfl (fun ls hl => ?_)
          have hlq : (nI os.length : Int32) = nI ll := (by rw [hl1 c_4])
          have hl : lv_has ls 4 [(2, Value.int (nI ll)), (0, Value.ref o), (1, Value.int p1)] := by rw [hlq] at hl; exact hl
          refine lv_iload_n hx hb d_M_take_51 rfl (lv_at hl 0 rfl) ?_
          refine lv_sipush (v := 6000) hx hb d_M_take_52 (by decide) ?_
          refine lv_icmp_le (tgt := 64) hx hb d_M_take_55 (by decide) (fun c_5 => ?_) (fun c_5 => ?_)
          · refine lv_iload_n hx hb d_M_take_64 rfl (lv_at hl 0 rfl) ?_
            refine lv_istore_n (lv' := [(2, Value.int (nI ll)), (0, Value.ref o), (1, Value.int p1)]) hx hb d_M_take_65 rfl hl (by decide) rfl (fun ls hl => ?_)
            refine lv_iconst (v := 0) hx hb d_M_take_66 (by decide) ?_
            refine lv_istore_n (lv' := [(3, Value.int 0), (2, Value.int (nI ll)), (0, Value.ref o), (1, Value.int p1)]) hx hb d_M_take_67 rfl hl (by decide) rfl (fun ls hl => ?_)
            have J_68 : ∀ (n9_68 : Nat) (kk : Nat) (fI : Nat → Int32) (hn9_68 : ll - kk = n9_68) (hkk : kk ≤ ll) (hc : ∀ i, i < kk → fI i = vOut i) (H : Heap) (locs : List Loc) (ls : Array Slot), va_P (dC, dI) vwCl [(o, Sum.inr (9, mO g fForm fShift fModels fItems fEnded fLow fRange fCache fPend fGoes (nI os.length) fIns fReads fBad fIR fAsk fBAsk fCode fRL fRR fX fWrites 0)), ((g 7), Sum.inl (cI, 9000, Sum.inl vOut)), ((g 8), Sum.inl (cI, 6000, Sum.inl fI))] H → va_D A [(o, Sum.inr (9, mO g fForm fShift fModels fItems fEnded fLow fRange fCache fPend fGoes (nI os.length) fIns fReads fBad fIR fAsk fBAsk fCode fRL fRR fX fWrites 0)), ((g 7), Sum.inl (cI, 9000, Sum.inl vOut)), ((g 8), Sum.inl (cI, 6000, Sum.inl fI))] → va_S A s.heap H locs → lv_has ls 4 [(3, Value.int (nI kk)), (2, Value.int (nI ll)), (0, Value.ref o), (1, Value.int p1)] → W p l e R s m args below meth c H locs 0 0 Q (F0 m 68 ls []) := by
              intro n9_68
              induction n9_68 using Nat.strongRecOn with
              | ind n9_68 ih9_68 =>
                intro kk fI hn9_68 hkk hc H locs ls hP hD hS hl
                refine lv_iload_n hx hb d_M_take_68 rfl (lv_at hl 0 rfl) ?_
                refine lv_iload_n hx hb d_M_take_69 rfl (lv_at hl 1 rfl) ?_
                refine lv_icmp_ge (tgt := 91) hx hb d_M_take_70 (by decide) (fun c_6 => ?_) (fun c_6 => ?_)
                · have hkn : ll = kk := by have := nI_ge' (by omega) (by omega) c_6; omega
                  subst hkn
                  have hPD : my_PD (dC, dI) vwCl A [(o, Sum.inr (9, mO g fForm fShift fModels fItems fEnded fLow fRange fCache fPend fGoes (nI os.length) fIns fReads fBad fIR fAsk fBAsk fCode fRL fRR fX fWrites 0)), ((g 7), Sum.inl (cI, 9000, Sum.inl vOut)), ((g 8), Sum.inl (cI, 6000, Sum.inl fI))] H := ⟨hP, hD⟩
                  have hP := hPD.1
                  have hD := hPD.2
                  refine lv_aload_n hx hb d_M_take_91 rfl (lv_at hl 2 rfl) ?_
                  refine lv_iload_n hx hb d_M_take_92 rfl (lv_at hl 1 rfl) ?_
                  refine va_put (D := (dC, dI)) (ci := 9) (v := .int (nI ll)) (ty := .int) (C := "RangeCodersModel") (T := T_M) (N := 35) hx hb hg in_M t_M o_M n_M hown hK hP hD hS 0 rfl rfl 20 (by decide) (hg _ k972) (fun _ h9 => h9) rfl (o_M 20 (by decide)) rfl rfl (Nat.le_of_ble_eq_true rfl) d_M_take_93 (fun H locs hP hD hS => ?_)
                  have hPD : my_PD (dC, dI) vwCl A [(o, Sum.inr (9, mO g fForm fShift fModels fItems fEnded fLow fRange fCache fPend fGoes (nI os.length) (nI ll) fReads fBad fIR fAsk fBAsk fCode fRL fRR fX fWrites 0)), ((g 7), Sum.inl (cI, 9000, Sum.inl vOut)), ((g 8), Sum.inl (cI, 6000, Sum.inl fI))] H := ⟨hP, hD⟩
                  have hP := hPD.1
                  have hD := hPD.2
                  refine lv_aload_n hx hb d_M_take_96 rfl (lv_at hl 2 rfl) ?_
                  refine lv_iconst (v := 0) hx hb d_M_take_97 (by decide) ?_
                  refine va_put (D := (dC, dI)) (ci := 9) (v := .int 0) (ty := .boolean) (C := "RangeCodersModel") (T := T_M) (N := 35) hx hb hg in_M t_M o_M n_M hown hK hP hD hS 0 rfl rfl 21 (by decide) (hg _ k973) (fun _ h9 => h9) rfl (o_M 21 (by decide)) rfl rfl (Nat.le_of_ble_eq_true rfl) d_M_take_98 (fun H locs hP hD hS => ?_)
                  have hPD : my_PD (dC, dI) vwCl A [(o, Sum.inr (9, mO g fForm fShift fModels fItems fEnded fLow fRange fCache fPend fGoes (nI os.length) (nI ll) 0 fBad fIR fAsk fBAsk fCode fRL fRR fX fWrites 0)), ((g 7), Sum.inl (cI, 9000, Sum.inl vOut)), ((g 8), Sum.inl (cI, 6000, Sum.inl fI))] H := ⟨hP, hD⟩
                  have hP := hPD.1
                  have hD := hPD.2
                  refine lv_aload_n hx hb d_M_take_101 rfl (lv_at hl 2 rfl) ?_
                  refine va_get (D := (dC, dI)) (ci := 9) (v := .int (nI ll)) (C := "RangeCodersModel") (T := T_M) (N := 35) hx hb hg in_M hown hK hP 0 rfl rfl 20 (by decide) (hg _ k972) (fun _ h9 => h9) rfl d_M_take_102 ?_
                  exact my_iret (v := nI ll) hx hb hr (rfl) hlocks hQ hK hS (Nat.le_refl _) (Nat.le_refl _) (fI, nI ll) (⟨by rw [List.length_take, Nat.min_eq_left hll], by rw [List.length_take, Nat.min_eq_left hll], gIs_take hO hll hc⟩) (hP.sub [0, 1, 2] rfl) (hD.sub [0, 1, 2] (by decide +kernel) rfl) d_M_take_105
                · have hkl : kk < ll := nI_lt' (by omega) c_6
                  refine lv_aload_n hx hb d_M_take_73 rfl (lv_at hl 2 rfl) ?_
                  refine va_get (D := (dC, dI)) (ci := 9) (v := .ref (g 8)) (C := "RangeCodersModel") (T := T_M) (N := 35) hx hb hg in_M hown hK hP 0 rfl rfl 19 (by decide) (hg _ k971) (fun _ h9 => h9) rfl d_M_take_74 ?_
                  refine lv_iload_n hx hb d_M_take_77 rfl (lv_at hl 0 rfl) ?_
                  refine lv_aload_n hx hb d_M_take_78 rfl (lv_at hl 2 rfl) ?_
                  refine va_get (D := (dC, dI)) (ci := 9) (v := .ref (g 7)) (C := "RangeCodersModel") (T := T_M) (N := 35) hx hb hg in_M hown hK hP 0 rfl rfl 17 (by decide) (hg _ k969) (fun _ h9 => h9) rfl d_M_take_79 ?_
                  refine lv_iload_n hx hb d_M_take_82 rfl (lv_at hl 0 rfl) ?_
                  refine va_iald hx hb hK hP 1 0 rfl rfl (vp_in_nI (by omega) (by decide)) d_M_take_83 ?_
                  refine lv_topi (fun v_7 ev_7 => ?_)
                  refine va_iast hx hb hK hP hD hS 2 0 rfl rfl (vp_in_nI (by omega) (by decide)) d_M_take_84 (fun H locs hP hD hS => ?_)
                  have hPD : my_PD (dC, dI) vwCl A [(o, Sum.inr (9, mO g fForm fShift fModels fItems fEnded fLow fRange fCache fPend fGoes (nI os.length) fIns fReads fBad fIR fAsk fBAsk fCode fRL fRR fX fWrites 0)), ((g 7), Sum.inl (cI, 9000, Sum.inl vOut)), ((g 8), Sum.inl (cI, 6000, Sum.inl (upd fI (nI kk).toNatClampNeg v_7)))] H := ⟨hP, hD⟩
                  have hP := hPD.1
                  have hD := hPD.2
                  have hc8 : ∀ i, i < kk + 1 → (upd fI (nI kk).toNatClampNeg v_7) i = vOut i := cp_st hc (nI_clamp (by omega)) (by rw [ev_7, nI_clamp (by omega)])
                  obtain ⟨v_8, ev_8⟩ : ∃ y : Int32, y = (nI kk) + (1) := ⟨_, rfl⟩
                  refine lv_iinc (v := v_8) (lv' := [(3, Value.int v_8), (2, Value.int (nI ll)), (0, Value.ref o), (1, Value.int p1)]) hx hb d_M_take_85 hl (k := 0) rfl (by rw [ev_8]; rfl) (by decide) rfl (fun ls hl => ?_)
                  have z9 : v_8 = nI (kk + 1) := by rw [ev_8]; exact nI_1 _
                  subst z9
                  refine lv_goto (tgt := 68) hx hb d_M_take_88 (by decide) ?_
                  exact ih9_68 _ (by first | omega | (omega)) (kk + 1) (upd fI (nI kk).toNatClampNeg v_7) rfl (by omega) (hc8) H locs ls (hP.sub [0, 1, 2] rfl) (hD.sub [0, 1, 2] (by decide +kernel) rfl) hS (lv_sub hl [0, 1, 2, 3] rfl)
            exact J_68 _ (0 : Nat) vIn rfl (Nat.zero_le _) (fun _ z => absurd z (Nat.not_lt_zero _)) H locs ls (hP.sub [0, 1, 2] rfl) (hD.sub [0, 1, 2] (by decide +kernel) rfl) hS (lv_sub hl [0, 1, 2, 3] rfl)
          · exact absurd ((nI_cmp (b := 6000) (by omega) (by decide)).mpr (by omega)) c_5
      · refine lv_iconst (v := 0) hx hb d_M_take_31 (by decide) ?_
        refine lv_goto (tgt := 50) hx hb d_M_take_32 (by decide) ?_
        refine lv_istore_n (lv' := [(2, Value.int 0), (0, Value.ref o), (1, Value.int p1)]) hx hb d_M_take_50 rfl hl (by decide) rfl (fun ls hl => ?_)
        have hlq : (0 : Int32) = nI ll := ml0 c_3 hl2
        have hl : lv_has ls 4 [(2, Value.int (nI ll)), (0, Value.ref o), (1, Value.int p1)] := by rw [hlq] at hl; exact hl
        refine lv_iload_n hx hb d_M_take_51 rfl (lv_at hl 0 rfl) ?_
        refine lv_sipush (v := 6000) hx hb d_M_take_52 (by decide) ?_
        refine lv_icmp_le (tgt := 64) hx hb d_M_take_55 (by decide) (fun c_9 => ?_) (fun c_9 => ?_)
        · refine lv_iload_n hx hb d_M_take_64 rfl (lv_at hl 0 rfl) ?_
          refine lv_istore_n (lv' := [(2, Value.int (nI ll)), (0, Value.ref o), (1, Value.int p1)]) hx hb d_M_take_65 rfl hl (by decide) rfl (fun ls hl => ?_)
          refine lv_iconst (v := 0) hx hb d_M_take_66 (by decide) ?_
          refine lv_istore_n (lv' := [(3, Value.int 0), (2, Value.int (nI ll)), (0, Value.ref o), (1, Value.int p1)]) hx hb d_M_take_67 rfl hl (by decide) rfl (fun ls hl => ?_)
          have J_68 : ∀ (n9_68 : Nat) (kk : Nat) (fI : Nat → Int32) (hn9_68 : ll - kk = n9_68) (hkk : kk ≤ ll) (hc : ∀ i, i < kk → fI i = vOut i) (H : Heap) (locs : List Loc) (ls : Array Slot), va_P (dC, dI) vwCl [(o, Sum.inr (9, mO g fForm fShift fModels fItems fEnded fLow fRange fCache fPend fGoes (nI os.length) fIns fReads fBad fIR fAsk fBAsk fCode fRL fRR fX fWrites 0)), ((g 7), Sum.inl (cI, 9000, Sum.inl vOut)), ((g 8), Sum.inl (cI, 6000, Sum.inl fI))] H → va_D A [(o, Sum.inr (9, mO g fForm fShift fModels fItems fEnded fLow fRange fCache fPend fGoes (nI os.length) fIns fReads fBad fIR fAsk fBAsk fCode fRL fRR fX fWrites 0)), ((g 7), Sum.inl (cI, 9000, Sum.inl vOut)), ((g 8), Sum.inl (cI, 6000, Sum.inl fI))] → va_S A s.heap H locs → lv_has ls 4 [(3, Value.int (nI kk)), (2, Value.int (nI ll)), (0, Value.ref o), (1, Value.int p1)] → W p l e R s m args below meth c H locs 0 0 Q (F0 m 68 ls []) := by
            intro n9_68
            induction n9_68 using Nat.strongRecOn with
            | ind n9_68 ih9_68 =>
              intro kk fI hn9_68 hkk hc H locs ls hP hD hS hl
              refine lv_iload_n hx hb d_M_take_68 rfl (lv_at hl 0 rfl) ?_
              refine lv_iload_n hx hb d_M_take_69 rfl (lv_at hl 1 rfl) ?_
              refine lv_icmp_ge (tgt := 91) hx hb d_M_take_70 (by decide) (fun c_10 => ?_) (fun c_10 => ?_)
              · have hkn : ll = kk := by have := nI_ge' (by omega) (by omega) c_10; omega
                subst hkn
                have hPD : my_PD (dC, dI) vwCl A [(o, Sum.inr (9, mO g fForm fShift fModels fItems fEnded fLow fRange fCache fPend fGoes (nI os.length) fIns fReads fBad fIR fAsk fBAsk fCode fRL fRR fX fWrites 0)), ((g 7), Sum.inl (cI, 9000, Sum.inl vOut)), ((g 8), Sum.inl (cI, 6000, Sum.inl fI))] H := ⟨hP, hD⟩
                have hP := hPD.1
                have hD := hPD.2
                refine lv_aload_n hx hb d_M_take_91 rfl (lv_at hl 2 rfl) ?_
                refine lv_iload_n hx hb d_M_take_92 rfl (lv_at hl 1 rfl) ?_
                refine va_put (D := (dC, dI)) (ci := 9) (v := .int (nI ll)) (ty := .int) (C := "RangeCodersModel") (T := T_M) (N := 35) hx hb hg in_M t_M o_M n_M hown hK hP hD hS 0 rfl rfl 20 (by decide) (hg _ k972) (fun _ h9 => h9) rfl (o_M 20 (by decide)) rfl rfl (Nat.le_of_ble_eq_true rfl) d_M_take_93 (fun H locs hP hD hS => ?_)
                have hPD : my_PD (dC, dI) vwCl A [(o, Sum.inr (9, mO g fForm fShift fModels fItems fEnded fLow fRange fCache fPend fGoes (nI os.length) (nI ll) fReads fBad fIR fAsk fBAsk fCode fRL fRR fX fWrites 0)), ((g 7), Sum.inl (cI, 9000, Sum.inl vOut)), ((g 8), Sum.inl (cI, 6000, Sum.inl fI))] H := ⟨hP, hD⟩
                have hP := hPD.1
                have hD := hPD.2
                refine lv_aload_n hx hb d_M_take_96 rfl (lv_at hl 2 rfl) ?_
                refine lv_iconst (v := 0) hx hb d_M_take_97 (by decide) ?_
                refine va_put (D := (dC, dI)) (ci := 9) (v := .int 0) (ty := .boolean) (C := "RangeCodersModel") (T := T_M) (N := 35) hx hb hg in_M t_M o_M n_M hown hK hP hD hS 0 rfl rfl 21 (by decide) (hg _ k973) (fun _ h9 => h9) rfl (o_M 21 (by decide)) rfl rfl (Nat.le_of_ble_eq_true rfl) d_M_take_98 (fun H locs hP hD hS => ?_)
                have hPD : my_PD (dC, dI) vwCl A [(o, Sum.inr (9, mO g fForm fShift fModels fItems fEnded fLow fRange fCache fPend fGoes (nI os.length) (nI ll) 0 fBad fIR fAsk fBAsk fCode fRL fRR fX fWrites 0)), ((g 7), Sum.inl (cI, 9000, Sum.inl vOut)), ((g 8), Sum.inl (cI, 6000, Sum.inl fI))] H := ⟨hP, hD⟩
                have hP := hPD.1
                have hD := hPD.2
                refine lv_aload_n hx hb d_M_take_101 rfl (lv_at hl 2 rfl) ?_
                refine va_get (D := (dC, dI)) (ci := 9) (v := .int (nI ll)) (C := "RangeCodersModel") (T := T_M) (N := 35) hx hb hg in_M hown hK hP 0 rfl rfl 20 (by decide) (hg _ k972) (fun _ h9 => h9) rfl d_M_take_102 ?_
                exact my_iret (v := nI ll) hx hb hr (rfl) hlocks hQ hK hS (Nat.le_refl _) (Nat.le_refl _) (fI, nI ll) (⟨by rw [List.length_take, Nat.min_eq_left hll], by rw [List.length_take, Nat.min_eq_left hll], gIs_take hO hll hc⟩) (hP.sub [0, 1, 2] rfl) (hD.sub [0, 1, 2] (by decide +kernel) rfl) d_M_take_105
              · have hkl : kk < ll := nI_lt' (by omega) c_10
                refine lv_aload_n hx hb d_M_take_73 rfl (lv_at hl 2 rfl) ?_
                refine va_get (D := (dC, dI)) (ci := 9) (v := .ref (g 8)) (C := "RangeCodersModel") (T := T_M) (N := 35) hx hb hg in_M hown hK hP 0 rfl rfl 19 (by decide) (hg _ k971) (fun _ h9 => h9) rfl d_M_take_74 ?_
                refine lv_iload_n hx hb d_M_take_77 rfl (lv_at hl 0 rfl) ?_
                refine lv_aload_n hx hb d_M_take_78 rfl (lv_at hl 2 rfl) ?_
                refine va_get (D := (dC, dI)) (ci := 9) (v := .ref (g 7)) (C := "RangeCodersModel") (T := T_M) (N := 35) hx hb hg in_M hown hK hP 0 rfl rfl 17 (by decide) (hg _ k969) (fun _ h9 => h9) rfl d_M_take_79 ?_
                refine lv_iload_n hx hb d_M_take_82 rfl (lv_at hl 0 rfl) ?_
                refine va_iald hx hb hK hP 1 0 rfl rfl (vp_in_nI (by omega) (by decide)) d_M_take_83 ?_
                refine lv_topi (fun v_11 ev_11 => ?_)
                refine va_iast hx hb hK hP hD hS 2 0 rfl rfl (vp_in_nI (by omega) (by decide)) d_M_take_84 (fun H locs hP hD hS => ?_)
                have hPD : my_PD (dC, dI) vwCl A [(o, Sum.inr (9, mO g fForm fShift fModels fItems fEnded fLow fRange fCache fPend fGoes (nI os.length) fIns fReads fBad fIR fAsk fBAsk fCode fRL fRR fX fWrites 0)), ((g 7), Sum.inl (cI, 9000, Sum.inl vOut)), ((g 8), Sum.inl (cI, 6000, Sum.inl (upd fI (nI kk).toNatClampNeg v_11)))] H := ⟨hP, hD⟩
                have hP := hPD.1
                have hD := hPD.2
                have hc8 : ∀ i, i < kk + 1 → (upd fI (nI kk).toNatClampNeg v_11) i = vOut i := cp_st hc (nI_clamp (by omega)) (by rw [ev_11, nI_clamp (by omega)])
                obtain ⟨v_12, ev_12⟩ : ∃ y : Int32, y = (nI kk) + (1) := ⟨_, rfl⟩
                refine lv_iinc (v := v_12) (lv' := [(3, Value.int v_12), (2, Value.int (nI ll)), (0, Value.ref o), (1, Value.int p1)]) hx hb d_M_take_85 hl (k := 0) rfl (by rw [ev_12]; rfl) (by decide) rfl (fun ls hl => ?_)
                have z9 : v_12 = nI (kk + 1) := by rw [ev_12]; exact nI_1 _
                subst z9
                refine lv_goto (tgt := 68) hx hb d_M_take_88 (by decide) ?_
                exact ih9_68 _ (by first | omega | (omega)) (kk + 1) (upd fI (nI kk).toNatClampNeg v_11) rfl (by omega) (hc8) H locs ls (hP.sub [0, 1, 2] rfl) (hD.sub [0, 1, 2] (by decide +kernel) rfl) hS (lv_sub hl [0, 1, 2, 3] rfl)
          exact J_68 _ (0 : Nat) vIn rfl (Nat.zero_le _) (fun _ z => absurd z (Nat.not_lt_zero _)) H locs ls (hP.sub [0, 1, 2] rfl) (hD.sub [0, 1, 2] (by decide +kernel) rfl) hS (lv_sub hl [0, 1, 2, 3] rfl)
        · exact absurd ((nI_cmp (b := 6000) (by omega) (by decide)).mpr (by omega)) c_9
    · refine lv_iload_n hx hb d_M_take_14 rfl (lv_at hl 1 rfl) ?_
      refine lv_iconst (v := 2) hx hb d_M_take_15 (by decide) ?_
      refine lv_isub hx hb d_M_take_16 ?_
      refine lv_topi (fun v_13 ev_13 => ?_)
      refine lv_aload_n hx hb d_M_take_17 rfl (lv_at hl 0 rfl) ?_
      refine va_get (D := (dC, dI)) (ci := 9) (v := .int (nI os.length)) (C := "RangeCodersModel") (T := T_M) (N := 35) hx hb hg in_M hown hK hP 0 rfl rfl 18 (by decide) (hg _ k970) (fun _ h9 => h9) rfl d_M_take_18 ?_
      refine lv_icmp_le (tgt := 27) hx hb d_M_take_21 (by decide) (fun c_14 => ?_) (fun c_14 => ?_)
      · refine lv_iload_n hx hb d_M_take_27 rfl (lv_at hl 1 rfl) ?_
        refine lv_if_ne (tgt := 35) hx hb d_M_take_28 (by decide) (fun c_15 => ?_) (fun c_15 => ?_)
        · refine lv_iload_n hx hb d_M_take_35 rfl (lv_at hl 1 rfl) ?_
          refine lv_iconst (v := 1) hx hb d_M_take_36 (by decide) ?_
          refine lv_icmp_ne (tgt := 47) hx hb d_M_take_37 (by decide) (fun c_16 => ?_) (fun c_16 => ?_)
          · refine lv_iload_n hx hb d_M_take_47 rfl (lv_at hl 1 rfl) ?_
            refine lv_iconst (v := 2) hx hb d_M_take_48 (by decide) ?_
            refine lv_isub hx hb d_M_take_49 ?_
            refine lv_topi (fun v_17 ev_17 => ?_)
            refine lv_istore_n (lv' := [(2, Value.int v_17), (0, Value.ref o), (1, Value.int p1)]) hx hb d_M_take_50 rfl hl (by decide) rfl (fun ls hl => ?_)
            have hlq : v_17 = nI ll := by rw [ev_17]; exact ml2 c_1 c_15 c_16 hl2
            have hl : lv_has ls 4 [(2, Value.int (nI ll)), (0, Value.ref o), (1, Value.int p1)] := by rw [hlq] at hl; exact hl
            refine lv_iload_n hx hb d_M_take_51 rfl (lv_at hl 0 rfl) ?_
            refine lv_sipush (v := 6000) hx hb d_M_take_52 (by decide) ?_
            refine lv_icmp_le (tgt := 64) hx hb d_M_take_55 (by decide) (fun c_18 => ?_) (fun c_18 => ?_)
            · refine lv_iload_n hx hb d_M_take_64 rfl (lv_at hl 0 rfl) ?_
              refine lv_istore_n (lv' := [(2, Value.int (nI ll)), (0, Value.ref o), (1, Value.int p1)]) hx hb d_M_take_65 rfl hl (by decide) rfl (fun ls hl => ?_)
              refine lv_iconst (v := 0) hx hb d_M_take_66 (by decide) ?_
              refine lv_istore_n (lv' := [(3, Value.int 0), (2, Value.int (nI ll)), (0, Value.ref o), (1, Value.int p1)]) hx hb d_M_take_67 rfl hl (by decide) rfl (fun ls hl => ?_)
              have J_68 : ∀ (n9_68 : Nat) (kk : Nat) (fI : Nat → Int32) (hn9_68 : ll - kk = n9_68) (hkk : kk ≤ ll) (hc : ∀ i, i < kk → fI i = vOut i) (H : Heap) (locs : List Loc) (ls : Array Slot), va_P (dC, dI) vwCl [(o, Sum.inr (9, mO g fForm fShift fModels fItems fEnded fLow fRange fCache fPend fGoes (nI os.length) fIns fReads fBad fIR fAsk fBAsk fCode fRL fRR fX fWrites 0)), ((g 7), Sum.inl (cI, 9000, Sum.inl vOut)), ((g 8), Sum.inl (cI, 6000, Sum.inl fI))] H → va_D A [(o, Sum.inr (9, mO g fForm fShift fModels fItems fEnded fLow fRange fCache fPend fGoes (nI os.length) fIns fReads fBad fIR fAsk fBAsk fCode fRL fRR fX fWrites 0)), ((g 7), Sum.inl (cI, 9000, Sum.inl vOut)), ((g 8), Sum.inl (cI, 6000, Sum.inl fI))] → va_S A s.heap H locs → lv_has ls 4 [(3, Value.int (nI kk)), (2, Value.int (nI ll)), (0, Value.ref o), (1, Value.int p1)] → W p l e R s m args below meth c H locs 0 0 Q (F0 m 68 ls []) := by
                intro n9_68
                induction n9_68 using Nat.strongRecOn with
                | ind n9_68 ih9_68 =>
                  intro kk fI hn9_68 hkk hc H locs ls hP hD hS hl
                  refine lv_iload_n hx hb d_M_take_68 rfl (lv_at hl 0 rfl) ?_
                  refine lv_iload_n hx hb d_M_take_69 rfl (lv_at hl 1 rfl) ?_
                  refine lv_icmp_ge (tgt := 91) hx hb d_M_take_70 (by decide) (fun c_19 => ?_) (fun c_19 => ?_)
                  · have hkn : ll = kk := by have := nI_ge' (by omega) (by omega) c_19; omega
                    subst hkn
                    have hPD : my_PD (dC, dI) vwCl A [(o, Sum.inr (9, mO g fForm fShift fModels fItems fEnded fLow fRange fCache fPend fGoes (nI os.length) fIns fReads fBad fIR fAsk fBAsk fCode fRL fRR fX fWrites 0)), ((g 7), Sum.inl (cI, 9000, Sum.inl vOut)), ((g 8), Sum.inl (cI, 6000, Sum.inl fI))] H := ⟨hP, hD⟩
                    have hP := hPD.1
                    have hD := hPD.2
                    refine lv_aload_n hx hb d_M_take_91 rfl (lv_at hl 2 rfl) ?_
                    refine lv_iload_n hx hb d_M_take_92 rfl (lv_at hl 1 rfl) ?_
                    refine va_put (D := (dC, dI)) (ci := 9) (v := .int (nI ll)) (ty := .int) (C := "RangeCodersModel") (T := T_M) (N := 35) hx hb hg in_M t_M o_M n_M hown hK hP hD hS 0 rfl rfl 20 (by decide) (hg _ k972) (fun _ h9 => h9) rfl (o_M 20 (by decide)) rfl rfl (Nat.le_of_ble_eq_true rfl) d_M_take_93 (fun H locs hP hD hS => ?_)
                    have hPD : my_PD (dC, dI) vwCl A [(o, Sum.inr (9, mO g fForm fShift fModels fItems fEnded fLow fRange fCache fPend fGoes (nI os.length) (nI ll) fReads fBad fIR fAsk fBAsk fCode fRL fRR fX fWrites 0)), ((g 7), Sum.inl (cI, 9000, Sum.inl vOut)), ((g 8), Sum.inl (cI, 6000, Sum.inl fI))] H := ⟨hP, hD⟩
                    have hP := hPD.1
                    have hD := hPD.2
                    refine lv_aload_n hx hb d_M_take_96 rfl (lv_at hl 2 rfl) ?_
                    refine lv_iconst (v := 0) hx hb d_M_take_97 (by decide) ?_
                    refine va_put (D := (dC, dI)) (ci := 9) (v := .int 0) (ty := .boolean) (C := "RangeCodersModel") (T := T_M) (N := 35) hx hb hg in_M t_M o_M n_M hown hK hP hD hS 0 rfl rfl 21 (by decide) (hg _ k973) (fun _ h9 => h9) rfl (o_M 21 (by decide)) rfl rfl (Nat.le_of_ble_eq_true rfl) d_M_take_98 (fun H locs hP hD hS => ?_)
                    have hPD : my_PD (dC, dI) vwCl A [(o, Sum.inr (9, mO g fForm fShift fModels fItems fEnded fLow fRange fCache fPend fGoes (nI os.length) (nI ll) 0 fBad fIR fAsk fBAsk fCode fRL fRR fX fWrites 0)), ((g 7), Sum.inl (cI, 9000, Sum.inl vOut)), ((g 8), Sum.inl (cI, 6000, Sum.inl fI))] H := ⟨hP, hD⟩
                    have hP := hPD.1
                    have hD := hPD.2
                    refine lv_aload_n hx hb d_M_take_101 rfl (lv_at hl 2 rfl) ?_
                    refine va_get (D := (dC, dI)) (ci := 9) (v := .int (nI ll)) (C := "RangeCodersModel") (T := T_M) (N := 35) hx hb hg in_M hown hK hP 0 rfl rfl 20 (by decide) (hg _ k972) (fun _ h9 => h9) rfl d_M_take_102 ?_
                    exact my_iret (v := nI ll) hx hb hr (rfl) hlocks hQ hK hS (Nat.le_refl _) (Nat.le_refl _) (fI, nI ll) (⟨by rw [List.length_take, Nat.min_eq_left hll], by rw [List.length_take, Nat.min_eq_left hll], gIs_take hO hll hc⟩) (hP.sub [0, 1, 2] rfl) (hD.sub [0, 1, 2] (by decide +kernel) rfl) d_M_take_105
                  · have hkl : kk < ll := nI_lt' (by omega) c_19
                    refine lv_aload_n hx hb d_M_take_73 rfl (lv_at hl 2 rfl) ?_
                    refine va_get (D := (dC, dI)) (ci := 9) (v := .ref (g 8)) (C := "RangeCodersModel") (T := T_M) (N := 35) hx hb hg in_M hown hK hP 0 rfl rfl 19 (by decide) (hg _ k971) (fun _ h9 => h9) rfl d_M_take_74 ?_
                    refine lv_iload_n hx hb d_M_take_77 rfl (lv_at hl 0 rfl) ?_
                    refine lv_aload_n hx hb d_M_take_78 rfl (lv_at hl 2 rfl) ?_
                    refine va_get (D := (dC, dI)) (ci := 9) (v := .ref (g 7)) (C := "RangeCodersModel") (T := T_M) (N := 35) hx hb hg in_M hown hK hP 0 rfl rfl 17 (by decide) (hg _ k969) (fun _ h9 => h9) rfl d_M_take_79 ?_
                    refine lv_iload_n hx hb d_M_take_82 rfl (lv_at hl 0 rfl) ?_
                    refine va_iald hx hb hK hP 1 0 rfl rfl (vp_in_nI (by omega) (by decide)) d_M_take_83 ?_
                    refine lv_topi (fun v_20 ev_20 => ?_)
                    refine va_iast hx hb hK hP hD hS 2 0 rfl rfl (vp_in_nI (by omega) (by decide)) d_M_take_84 (fun H locs hP hD hS => ?_)
                    have hPD : my_PD (dC, dI) vwCl A [(o, Sum.inr (9, mO g fForm fShift fModels fItems fEnded fLow fRange fCache fPend fGoes (nI os.length) fIns fReads fBad fIR fAsk fBAsk fCode fRL fRR fX fWrites 0)), ((g 7), Sum.inl (cI, 9000, Sum.inl vOut)), ((g 8), Sum.inl (cI, 6000, Sum.inl (upd fI (nI kk).toNatClampNeg v_20)))] H := ⟨hP, hD⟩
                    have hP := hPD.1
                    have hD := hPD.2
                    have hc8 : ∀ i, i < kk + 1 → (upd fI (nI kk).toNatClampNeg v_20) i = vOut i := cp_st hc (nI_clamp (by omega)) (by rw [ev_20, nI_clamp (by omega)])
                    obtain ⟨v_21, ev_21⟩ : ∃ y : Int32, y = (nI kk) + (1) := ⟨_, rfl⟩
                    refine lv_iinc (v := v_21) (lv' := [(3, Value.int v_21), (2, Value.int (nI ll)), (0, Value.ref o), (1, Value.int p1)]) hx hb d_M_take_85 hl (k := 0) rfl (by rw [ev_21]; rfl) (by decide) rfl (fun ls hl => ?_)
                    have z9 : v_21 = nI (kk + 1) := by rw [ev_21]; exact nI_1 _
                    subst z9
                    refine lv_goto (tgt := 68) hx hb d_M_take_88 (by decide) ?_
                    exact ih9_68 _ (by first | omega | (omega)) (kk + 1) (upd fI (nI kk).toNatClampNeg v_20) rfl (by omega) (hc8) H locs ls (hP.sub [0, 1, 2] rfl) (hD.sub [0, 1, 2] (by decide +kernel) rfl) hS (lv_sub hl [0, 1, 2, 3] rfl)
              exact J_68 _ (0 : Nat) vIn rfl (Nat.zero_le _) (fun _ z => absurd z (Nat.not_lt_zero _)) H locs ls (hP.sub [0, 1, 2] rfl) (hD.sub [0, 1, 2] (by decide +kernel) rfl) hS (lv_sub hl [0, 1, 2, 3] rfl)
            · exact absurd ((nI_cmp (b := 6000) (by omega) (by decide)).mpr (by omega)) c_18
          · refine lv_aload_n hx hb d_M_take_40 rfl (lv_at hl 0 rfl) ?_
            refine va_get (D := (dC, dI)) (ci := 9) (v := .int (nI os.length)) (C := "RangeCodersModel") (T := T_M) (N := 35) hx hb hg in_M hown hK hP 0 rfl rfl 18 (by decide) (hg _ k970) (fun _ h9 => h9) rfl d_M_take_41 ?_
            refine lv_goto (tgt := 50) hx hb d_M_take_44 (by decide) ?_
            refine lv_istore_n (lv' := [(2, Value.int (nI os.length)), (0, Value.ref o), (1, Value.int p1)]) hx hb d_M_take_50 rfl hl (by decide) rfl (fun ls hl => ?_)
            have hlq : (nI os.length : Int32) = nI ll := (by rw [hl1 c_16])
            have hl : lv_has ls 4 [(2, Value.int (nI ll)), (0, Value.ref o), (1, Value.int p1)] := by rw [hlq] at hl; exact hl
            refine lv_iload_n hx hb d_M_take_51 rfl (lv_at hl 0 rfl) ?_
            refine lv_sipush (v := 6000) hx hb d_M_take_52 (by decide) ?_
            refine lv_icmp_le (tgt := 64) hx hb d_M_take_55 (by decide) (fun c_22 => ?_) (fun c_22 => ?_)
            · refine lv_iload_n hx hb d_M_take_64 rfl (lv_at hl 0 rfl) ?_
              refine lv_istore_n (lv' := [(2, Value.int (nI ll)), (0, Value.ref o), (1, Value.int p1)]) hx hb d_M_take_65 rfl hl (by decide) rfl (fun ls hl => ?_)
              refine lv_iconst (v := 0) hx hb d_M_take_66 (by decide) ?_
              refine lv_istore_n (lv' := [(3, Value.int 0), (2, Value.int (nI ll)), (0, Value.ref o), (1, Value.int p1)]) hx hb d_M_take_67 rfl hl (by decide) rfl (fun ls hl => ?_)
              have J_68 : ∀ (n9_68 : Nat) (kk : Nat) (fI : Nat → Int32) (hn9_68 : ll - kk = n9_68) (hkk : kk ≤ ll) (hc : ∀ i, i < kk → fI i = vOut i) (H : Heap) (locs : List Loc) (ls : Array Slot), va_P (dC, dI) vwCl [(o, Sum.inr (9, mO g fForm fShift fModels fItems fEnded fLow fRange fCache fPend fGoes (nI os.length) fIns fReads fBad fIR fAsk fBAsk fCode fRL fRR fX fWrites 0)), ((g 7), Sum.inl (cI, 9000, Sum.inl vOut)), ((g 8), Sum.inl (cI, 6000, Sum.inl fI))] H → va_D A [(o, Sum.inr (9, mO g fForm fShift fModels fItems fEnded fLow fRange fCache fPend fGoes (nI os.length) fIns fReads fBad fIR fAsk fBAsk fCode fRL fRR fX fWrites 0)), ((g 7), Sum.inl (cI, 9000, Sum.inl vOut)), ((g 8), Sum.inl (cI, 6000, Sum.inl fI))] → va_S A s.heap H locs → lv_has ls 4 [(3, Value.int (nI kk)), (2, Value.int (nI ll)), (0, Value.ref o), (1, Value.int p1)] → W p l e R s m args below meth c H locs 0 0 Q (F0 m 68 ls []) := by
                intro n9_68
                induction n9_68 using Nat.strongRecOn with
                | ind n9_68 ih9_68 =>
                  intro kk fI hn9_68 hkk hc H locs ls hP hD hS hl
                  refine lv_iload_n hx hb d_M_take_68 rfl (lv_at hl 0 rfl) ?_
                  refine lv_iload_n hx hb d_M_take_69 rfl (lv_at hl 1 rfl) ?_
                  refine lv_icmp_ge (tgt := 91) hx hb d_M_take_70 (by decide) (fun c_23 => ?_) (fun c_23 => ?_)
                  · have hkn : ll = kk := by have := nI_ge' (by omega) (by omega) c_23; omega
                    subst hkn
                    have hPD : my_PD (dC, dI) vwCl A [(o, Sum.inr (9, mO g fForm fShift fModels fItems fEnded fLow fRange fCache fPend fGoes (nI os.length) fIns fReads fBad fIR fAsk fBAsk fCode fRL fRR fX fWrites 0)), ((g 7), Sum.inl (cI, 9000, Sum.inl vOut)), ((g 8), Sum.inl (cI, 6000, Sum.inl fI))] H := ⟨hP, hD⟩
                    have hP := hPD.1
                    have hD := hPD.2
                    refine lv_aload_n hx hb d_M_take_91 rfl (lv_at hl 2 rfl) ?_
                    refine lv_iload_n hx hb d_M_take_92 rfl (lv_at hl 1 rfl) ?_
                    refine va_put (D := (dC, dI)) (ci := 9) (v := .int (nI ll)) (ty := .int) (C := "RangeCodersModel") (T := T_M) (N := 35) hx hb hg in_M t_M o_M n_M hown hK hP hD hS 0 rfl rfl 20 (by decide) (hg _ k972) (fun _ h9 => h9) rfl (o_M 20 (by decide)) rfl rfl (Nat.le_of_ble_eq_true rfl) d_M_take_93 (fun H locs hP hD hS => ?_)
                    have hPD : my_PD (dC, dI) vwCl A [(o, Sum.inr (9, mO g fForm fShift fModels fItems fEnded fLow fRange fCache fPend fGoes (nI os.length) (nI ll) fReads fBad fIR fAsk fBAsk fCode fRL fRR fX fWrites 0)), ((g 7), Sum.inl (cI, 9000, Sum.inl vOut)), ((g 8), Sum.inl (cI, 6000, Sum.inl fI))] H := ⟨hP, hD⟩
                    have hP := hPD.1
                    have hD := hPD.2
                    refine lv_aload_n hx hb d_M_take_96 rfl (lv_at hl 2 rfl) ?_
                    refine lv_iconst (v := 0) hx hb d_M_take_97 (by decide) ?_
                    refine va_put (D := (dC, dI)) (ci := 9) (v := .int 0) (ty := .boolean) (C := "RangeCodersModel") (T := T_M) (N := 35) hx hb hg in_M t_M o_M n_M hown hK hP hD hS 0 rfl rfl 21 (by decide) (hg _ k973) (fun _ h9 => h9) rfl (o_M 21 (by decide)) rfl rfl (Nat.le_of_ble_eq_true rfl) d_M_take_98 (fun H locs hP hD hS => ?_)
                    have hPD : my_PD (dC, dI) vwCl A [(o, Sum.inr (9, mO g fForm fShift fModels fItems fEnded fLow fRange fCache fPend fGoes (nI os.length) (nI ll) 0 fBad fIR fAsk fBAsk fCode fRL fRR fX fWrites 0)), ((g 7), Sum.inl (cI, 9000, Sum.inl vOut)), ((g 8), Sum.inl (cI, 6000, Sum.inl fI))] H := ⟨hP, hD⟩
                    have hP := hPD.1
                    have hD := hPD.2
                    refine lv_aload_n hx hb d_M_take_101 rfl (lv_at hl 2 rfl) ?_
                    refine va_get (D := (dC, dI)) (ci := 9) (v := .int (nI ll)) (C := "RangeCodersModel") (T := T_M) (N := 35) hx hb hg in_M hown hK hP 0 rfl rfl 20 (by decide) (hg _ k972) (fun _ h9 => h9) rfl d_M_take_102 ?_
                    exact my_iret (v := nI ll) hx hb hr (rfl) hlocks hQ hK hS (Nat.le_refl _) (Nat.le_refl _) (fI, nI ll) (⟨by rw [List.length_take, Nat.min_eq_left hll], by rw [List.length_take, Nat.min_eq_left hll], gIs_take hO hll hc⟩) (hP.sub [0, 1, 2] rfl) (hD.sub [0, 1, 2] (by decide +kernel) rfl) d_M_take_105
                  · have hkl : kk < ll := nI_lt' (by omega) c_23
                    refine lv_aload_n hx hb d_M_take_73 rfl (lv_at hl 2 rfl) ?_
                    refine va_get (D := (dC, dI)) (ci := 9) (v := .ref (g 8)) (C := "RangeCodersModel") (T := T_M) (N := 35) hx hb hg in_M hown hK hP 0 rfl rfl 19 (by decide) (hg _ k971) (fun _ h9 => h9) rfl d_M_take_74 ?_
                    refine lv_iload_n hx hb d_M_take_77 rfl (lv_at hl 0 rfl) ?_
                    refine lv_aload_n hx hb d_M_take_78 rfl (lv_at hl 2 rfl) ?_
                    refine va_get (D := (dC, dI)) (ci := 9) (v := .ref (g 7)) (C := "RangeCodersModel") (T := T_M) (N := 35) hx hb hg in_M hown hK hP 0 rfl rfl 17 (by decide) (hg _ k969) (fun _ h9 => h9) rfl d_M_take_79 ?_
                    refine lv_iload_n hx hb d_M_take_82 rfl (lv_at hl 0 rfl) ?_
                    refine va_iald hx hb hK hP 1 0 rfl rfl (vp_in_nI (by omega) (by decide)) d_M_take_83 ?_
                    refine lv_topi (fun v_24 ev_24 => ?_)
                    refine va_iast hx hb hK hP hD hS 2 0 rfl rfl (vp_in_nI (by omega) (by decide)) d_M_take_84 (fun H locs hP hD hS => ?_)
                    have hPD : my_PD (dC, dI) vwCl A [(o, Sum.inr (9, mO g fForm fShift fModels fItems fEnded fLow fRange fCache fPend fGoes (nI os.length) fIns fReads fBad fIR fAsk fBAsk fCode fRL fRR fX fWrites 0)), ((g 7), Sum.inl (cI, 9000, Sum.inl vOut)), ((g 8), Sum.inl (cI, 6000, Sum.inl (upd fI (nI kk).toNatClampNeg v_24)))] H := ⟨hP, hD⟩
                    have hP := hPD.1
                    have hD := hPD.2
                    have hc8 : ∀ i, i < kk + 1 → (upd fI (nI kk).toNatClampNeg v_24) i = vOut i := cp_st hc (nI_clamp (by omega)) (by rw [ev_24, nI_clamp (by omega)])
                    obtain ⟨v_25, ev_25⟩ : ∃ y : Int32, y = (nI kk) + (1) := ⟨_, rfl⟩
                    refine lv_iinc (v := v_25) (lv' := [(3, Value.int v_25), (2, Value.int (nI ll)), (0, Value.ref o), (1, Value.int p1)]) hx hb d_M_take_85 hl (k := 0) rfl (by rw [ev_25]; rfl) (by decide) rfl (fun ls hl => ?_)
                    have z9 : v_25 = nI (kk + 1) := by rw [ev_25]; exact nI_1 _
                    subst z9
                    refine lv_goto (tgt := 68) hx hb d_M_take_88 (by decide) ?_
                    exact ih9_68 _ (by first | omega | (omega)) (kk + 1) (upd fI (nI kk).toNatClampNeg v_24) rfl (by omega) (hc8) H locs ls (hP.sub [0, 1, 2] rfl) (hD.sub [0, 1, 2] (by decide +kernel) rfl) hS (lv_sub hl [0, 1, 2, 3] rfl)
              exact J_68 _ (0 : Nat) vIn rfl (Nat.zero_le _) (fun _ z => absurd z (Nat.not_lt_zero _)) H locs ls (hP.sub [0, 1, 2] rfl) (hD.sub [0, 1, 2] (by decide +kernel) rfl) hS (lv_sub hl [0, 1, 2, 3] rfl)
            · exact absurd ((nI_cmp (b := 6000) (by omega) (by decide)).mpr (by omega)) c_22
        · refine lv_iconst (v := 0) hx hb d_M_take_31 (by decide) ?_
          refine lv_goto (tgt := 50) hx hb d_M_take_32 (by decide) ?_
          refine lv_istore_n (lv' := [(2, Value.int 0), (0, Value.ref o), (1, Value.int p1)]) hx hb d_M_take_50 rfl hl (by decide) rfl (fun ls hl => ?_)
          have hlq : (0 : Int32) = nI ll := ml0 c_15 hl2
          have hl : lv_has ls 4 [(2, Value.int (nI ll)), (0, Value.ref o), (1, Value.int p1)] := by rw [hlq] at hl; exact hl
          refine lv_iload_n hx hb d_M_take_51 rfl (lv_at hl 0 rfl) ?_
          refine lv_sipush (v := 6000) hx hb d_M_take_52 (by decide) ?_
          refine lv_icmp_le (tgt := 64) hx hb d_M_take_55 (by decide) (fun c_26 => ?_) (fun c_26 => ?_)
          · refine lv_iload_n hx hb d_M_take_64 rfl (lv_at hl 0 rfl) ?_
            refine lv_istore_n (lv' := [(2, Value.int (nI ll)), (0, Value.ref o), (1, Value.int p1)]) hx hb d_M_take_65 rfl hl (by decide) rfl (fun ls hl => ?_)
            refine lv_iconst (v := 0) hx hb d_M_take_66 (by decide) ?_
            refine lv_istore_n (lv' := [(3, Value.int 0), (2, Value.int (nI ll)), (0, Value.ref o), (1, Value.int p1)]) hx hb d_M_take_67 rfl hl (by decide) rfl (fun ls hl => ?_)
            have J_68 : ∀ (n9_68 : Nat) (kk : Nat) (fI : Nat → Int32) (hn9_68 : ll - kk = n9_68) (hkk : kk ≤ ll) (hc : ∀ i, i < kk → fI i = vOut i) (H : Heap) (locs : List Loc) (ls : Array Slot), va_P (dC, dI) vwCl [(o, Sum.inr (9, mO g fForm fShift fModels fItems fEnded fLow fRange fCache fPend fGoes (nI os.length) fIns fReads fBad fIR fAsk fBAsk fCode fRL fRR fX fWrites 0)), ((g 7), Sum.inl (cI, 9000, Sum.inl vOut)), ((g 8), Sum.inl (cI, 6000, Sum.inl fI))] H → va_D A [(o, Sum.inr (9, mO g fForm fShift fModels fItems fEnded fLow fRange fCache fPend fGoes (nI os.length) fIns fReads fBad fIR fAsk fBAsk fCode fRL fRR fX fWrites 0)), ((g 7), Sum.inl (cI, 9000, Sum.inl vOut)), ((g 8), Sum.inl (cI, 6000, Sum.inl fI))] → va_S A s.heap H locs → lv_has ls 4 [(3, Value.int (nI kk)), (2, Value.int (nI ll)), (0, Value.ref o), (1, Value.int p1)] → W p l e R s m args below meth c H locs 0 0 Q (F0 m 68 ls []) := by
              intro n9_68
              induction n9_68 using Nat.strongRecOn with
              | ind n9_68 ih9_68 =>
                intro kk fI hn9_68 hkk hc H locs ls hP hD hS hl
                refine lv_iload_n hx hb d_M_take_68 rfl (lv_at hl 0 rfl) ?_
                refine lv_iload_n hx hb d_M_take_69 rfl (lv_at hl 1 rfl) ?_
                refine lv_icmp_ge (tgt := 91) hx hb d_M_take_70 (by decide) (fun c_27 => ?_) (fun c_27 => ?_)
                · have hkn : ll = kk := by have := nI_ge' (by omega) (by omega) c_27; omega
                  subst hkn
                  have hPD : my_PD (dC, dI) vwCl A [(o, Sum.inr (9, mO g fForm fShift fModels fItems fEnded fLow fRange fCache fPend fGoes (nI os.length) fIns fReads fBad fIR fAsk fBAsk fCode fRL fRR fX fWrites 0)), ((g 7), Sum.inl (cI, 9000, Sum.inl vOut)), ((g 8), Sum.inl (cI, 6000, Sum.inl fI))] H := ⟨hP, hD⟩
                  have hP := hPD.1
                  have hD := hPD.2
                  refine lv_aload_n hx hb d_M_take_91 rfl (lv_at hl 2 rfl) ?_
                  refine lv_iload_n hx hb d_M_take_92 rfl (lv_at hl 1 rfl) ?_
                  refine va_put (D := (dC, dI)) (ci := 9) (v := .int (nI ll)) (ty := .int) (C := "RangeCodersModel") (T := T_M) (N := 35) hx hb hg in_M t_M o_M n_M hown hK hP hD hS 0 rfl rfl 20 (by decide) (hg _ k972) (fun _ h9 => h9) rfl (o_M 20 (by decide)) rfl rfl (Nat.le_of_ble_eq_true rfl) d_M_take_93 (fun H locs hP hD hS => ?_)
                  have hPD : my_PD (dC, dI) vwCl A [(o, Sum.inr (9, mO g fForm fShift fModels fItems fEnded fLow fRange fCache fPend fGoes (nI os.length) (nI ll) fReads fBad fIR fAsk fBAsk fCode fRL fRR fX fWrites 0)), ((g 7), Sum.inl (cI, 9000, Sum.inl vOut)), ((g 8), Sum.inl (cI, 6000, Sum.inl fI))] H := ⟨hP, hD⟩
                  have hP := hPD.1
                  have hD := hPD.2
                  refine lv_aload_n hx hb d_M_take_96 rfl (lv_at hl 2 rfl) ?_
                  refine lv_iconst (v := 0) hx hb d_M_take_97 (by decide) ?_
                  refine va_put (D := (dC, dI)) (ci := 9) (v := .int 0) (ty := .boolean) (C := "RangeCodersModel") (T := T_M) (N := 35) hx hb hg in_M t_M o_M n_M hown hK hP hD hS 0 rfl rfl 21 (by decide) (hg _ k973) (fun _ h9 => h9) rfl (o_M 21 (by decide)) rfl rfl (Nat.le_of_ble_eq_true rfl) d_M_take_98 (fun H locs hP hD hS => ?_)
                  have hPD : my_PD (dC, dI) vwCl A [(o, Sum.inr (9, mO g fForm fShift fModels fItems fEnded fLow fRange fCache fPend fGoes (nI os.length) (nI ll) 0 fBad fIR fAsk fBAsk fCode fRL fRR fX fWrites 0)), ((g 7), Sum.inl (cI, 9000, Sum.inl vOut)), ((g 8), Sum.inl (cI, 6000, Sum.inl fI))] H := ⟨hP, hD⟩
                  have hP := hPD.1
                  have hD := hPD.2
                  refine lv_aload_n hx hb d_M_take_101 rfl (lv_at hl 2 rfl) ?_
                  refine va_get (D := (dC, dI)) (ci := 9) (v := .int (nI ll)) (C := "RangeCodersModel") (T := T_M) (N := 35) hx hb hg in_M hown hK hP 0 rfl rfl 20 (by decide) (hg _ k972) (fun _ h9 => h9) rfl d_M_take_102 ?_
                  exact my_iret (v := nI ll) hx hb hr (rfl) hlocks hQ hK hS (Nat.le_refl _) (Nat.le_refl _) (fI, nI ll) (⟨by rw [List.length_take, Nat.min_eq_left hll], by rw [List.length_take, Nat.min_eq_left hll], gIs_take hO hll hc⟩) (hP.sub [0, 1, 2] rfl) (hD.sub [0, 1, 2] (by decide +kernel) rfl) d_M_take_105
                · have hkl : kk < ll := nI_lt' (by omega) c_27
                  refine lv_aload_n hx hb d_M_take_73 rfl (lv_at hl 2 rfl) ?_
                  refine va_get (D := (dC, dI)) (ci := 9) (v := .ref (g 8)) (C := "RangeCodersModel") (T := T_M) (N := 35) hx hb hg in_M hown hK hP 0 rfl rfl 19 (by decide) (hg _ k971) (fun _ h9 => h9) rfl d_M_take_74 ?_
                  refine lv_iload_n hx hb d_M_take_77 rfl (lv_at hl 0 rfl) ?_
                  refine lv_aload_n hx hb d_M_take_78 rfl (lv_at hl 2 rfl) ?_
                  refine va_get (D := (dC, dI)) (ci := 9) (v := .ref (g 7)) (C := "RangeCodersModel") (T := T_M) (N := 35) hx hb hg in_M hown hK hP 0 rfl rfl 17 (by decide) (hg _ k969) (fun _ h9 => h9) rfl d_M_take_79 ?_
                  refine lv_iload_n hx hb d_M_take_82 rfl (lv_at hl 0 rfl) ?_
                  refine va_iald hx hb hK hP 1 0 rfl rfl (vp_in_nI (by omega) (by decide)) d_M_take_83 ?_
                  refine lv_topi (fun v_28 ev_28 => ?_)
                  refine va_iast hx hb hK hP hD hS 2 0 rfl rfl (vp_in_nI (by omega) (by decide)) d_M_take_84 (fun H locs hP hD hS => ?_)
                  have hPD : my_PD (dC, dI) vwCl A [(o, Sum.inr (9, mO g fForm fShift fModels fItems fEnded fLow fRange fCache fPend fGoes (nI os.length) fIns fReads fBad fIR fAsk fBAsk fCode fRL fRR fX fWrites 0)), ((g 7), Sum.inl (cI, 9000, Sum.inl vOut)), ((g 8), Sum.inl (cI, 6000, Sum.inl (upd fI (nI kk).toNatClampNeg v_28)))] H := ⟨hP, hD⟩
                  have hP := hPD.1
                  have hD := hPD.2
                  have hc8 : ∀ i, i < kk + 1 → (upd fI (nI kk).toNatClampNeg v_28) i = vOut i := cp_st hc (nI_clamp (by omega)) (by rw [ev_28, nI_clamp (by omega)])
                  obtain ⟨v_29, ev_29⟩ : ∃ y : Int32, y = (nI kk) + (1) := ⟨_, rfl⟩
                  refine lv_iinc (v := v_29) (lv' := [(3, Value.int v_29), (2, Value.int (nI ll)), (0, Value.ref o), (1, Value.int p1)]) hx hb d_M_take_85 hl (k := 0) rfl (by rw [ev_29]; rfl) (by decide) rfl (fun ls hl => ?_)
                  have z9 : v_29 = nI (kk + 1) := by rw [ev_29]; exact nI_1 _
                  subst z9
                  refine lv_goto (tgt := 68) hx hb d_M_take_88 (by decide) ?_
                  exact ih9_68 _ (by first | omega | (omega)) (kk + 1) (upd fI (nI kk).toNatClampNeg v_28) rfl (by omega) (hc8) H locs ls (hP.sub [0, 1, 2] rfl) (hD.sub [0, 1, 2] (by decide +kernel) rfl) hS (lv_sub hl [0, 1, 2, 3] rfl)
            exact J_68 _ (0 : Nat) vIn rfl (Nat.zero_le _) (fun _ z => absurd z (Nat.not_lt_zero _)) H locs ls (hP.sub [0, 1, 2] rfl) (hD.sub [0, 1, 2] (by decide +kernel) rfl) hS (lv_sub hl [0, 1, 2, 3] rfl)
          · exact absurd ((nI_cmp (b := 6000) (by omega) (by decide)).mpr (by omega)) c_26
      · exact absurd (by rw [ev_13]; exact hn2) c_14
set_option maxHeartbeats 2000000 in
set_option maxRecDepth 100000 in
theorem m_chanceA (l : Launch) (dC : Nat → ClassId) (dI : Nat → Nat → Nat) (cI cM cO : ClassId) (sz : Nat) (o : Nat) (g : Nat → Nat) (fForm : Int32) (fShift : Int32) (fModels : Int32) (fItems : Int32) (fEnded : Int32) (fLow : Int64) (fRange : Int64) (fCache : Int32) (fPend : Int32) (fGoes : Int32) (fOuts : Int32) (fIns : Int32) (fReads : Int32) (fBad : Int32) (fIR : Int32) (fAsk : Int32) (fBAsk : Int32) (fCode : Int64) (fRL : Int64) (fRR : Int64) (fX : Int64) (fWrites : Int32) (fThrown : Int32) (vMany : Nat → Int32) (vCounts : Nat → Int32) (km : Nat) (N : Nat → Nat) (p1 : Int32) (p2 : Int32) (hmod : fModels = nI km) (hMD : MD km N vMany vCounts) (hno : p1 < 0 ∨ nI km ≤ p1) : MetI l y_M_chance (Cond.code y_M_chance prog_14_method_62_code 4 (some .int) :: gw) ({ frames := 2, cells := 0, slots := 0, locals := 43 } : Room) (dC, dI) vwCl (kT cI cM cO) [Value.ref o, Value.int p1, Value.int p2] [(o, Sum.inr (9, mO g fForm fShift fModels fItems fEnded fLow fRange fCache fPend fGoes fOuts fIns fReads fBad fIR fAsk fBAsk fCode fRL fRR fX fWrites fThrown)), ((g 0), Sum.inl (cI, 8, Sum.inl vMany)), ((g 1), Sum.inl (cI, 512, Sum.inl vCounts))] sz (fun (r : Int32) (u : Unit) => r = -1) (fun (u : Unit) => [(o, Sum.inr (9, mO g fForm fShift fModels fItems fEnded fLow fRange fCache fPend fGoes fOuts fIns fReads fBad fIR fAsk fBAsk fCode fRL fRR fX fWrites 0)), ((g 0), Sum.inl (cI, 8, Sum.inl vMany)), ((g 1), Sum.inl (cI, 512, Sum.inl vCounts))]) 0 0 := by
  refine my_ofI (cc := prog_14_method_62_code) (n := 4) (ret := (some .int)) (by decide) rfl (Nat.le_of_ble_eq_true rfl) ?_
  intro p e s m args below meth c R Q A ls H locs hx hb hr hts hown hlocks hml hnm hR hQ hA hl hP hK hN hD hS
  have hg : ∀ w ∈ gw, w.before args s = true := fun w h => hts w (List.mem_cons_of_mem _ h)
  have hown : s.vm.findClass "RangeCodersModel" = some m.cls := hown
  have hl : lv_has ls 4 [(0, Value.ref o), (1, Value.int p1), (2, Value.int p2)] := hl
  refine lv_aload_n hx hb d_M_chance_0 rfl (lv_at hl 0 rfl) ?_
  refine lv_iconst (v := 0) hx hb d_M_chance_1 (by decide) ?_
  refine va_put (D := (dC, dI)) (ci := 9) (v := .int 0) (ty := .int) (C := "RangeCodersModel") (T := T_M) (N := 35) hx hb hg in_M t_M o_M n_M hown hK hP hD hS 0 rfl rfl 34 (by decide) (hg _ k986) (fun _ h9 => h9) rfl (o_M 34 (by decide)) rfl rfl (Nat.le_of_ble_eq_true rfl) d_M_chance_2 (fun H locs hP hD hS => ?_)
  have hPD : my_PD (dC, dI) vwCl A [(o, Sum.inr (9, mO g fForm fShift fModels fItems fEnded fLow fRange fCache fPend fGoes fOuts fIns fReads fBad fIR fAsk fBAsk fCode fRL fRR fX fWrites 0)), ((g 0), Sum.inl (cI, 8, Sum.inl vMany)), ((g 1), Sum.inl (cI, 512, Sum.inl vCounts))] H := ⟨hP, hD⟩
  have hP := hPD.1
  have hD := hPD.2
  refine lv_aload_n hx hb d_M_chance_5 rfl (lv_at hl 0 rfl) ?_
  refine lv_iload_n hx hb d_M_chance_6 rfl (lv_at hl 1 rfl) ?_
  refine my_ci (wr := [((g 0), Sum.inl (cI, 8, Sum.inl vMany)), ((g 1), Sum.inl (cI, 512, Sum.inl vCounts))]) (va_runV (As := [Value.int p1]) (rest := []) ⟨hx, hb, hml, hown, hts⟩ (c_M_isModel l dC dI cI cM cO H.size o g fForm fShift fModels fItems fEnded fLow fRange fCache fPend fGoes fOuts fIns fReads fBad fIR fAsk fBAsk fCode fRL fRR fX fWrites 0 p1) (cwV 1 hts (my_gV k1073 k1075 ks26 k12 k1076) rfl rfl rfl cu_M_isModel_1 ⟨by rw [hR]; exact Nat.le_of_ble_eq_true rfl, by rw [hR]; exact Nat.le_of_ble_eq_true rfl⟩) (my_preV hK hN (hP.sub [0] rfl) (hD.sub [0] (by decide +kernel) rfl) 0 rfl rfl) rfl rfl hl.1 rfl (lv_room (Nat.le_of_ble_eq_true rfl)) d_M_chance_7 ⟨by rw [hR]; exact Nat.le_of_ble_eq_true rfl, by rw [hR]; exact Nat.le_of_ble_eq_true rfl⟩) hP hD hS hA [0] [1, 2] rfl rfl (by decide +kernel) (by decide +kernel) (fun r_7 u9 H locs hw_7 hP hD hS => ?_)
  have hw_7 : r_7 = if 0 ≤ p1 ∧ p1 ≤ fModels - 1 then 1 else 0 := hw_7
  have hPD : my_PD (dC, dI) vwCl A [((g 0), Sum.inl (cI, 8, Sum.inl vMany)), ((g 1), Sum.inl (cI, 512, Sum.inl vCounts)), (o, Sum.inr (9, mO g fForm fShift fModels fItems fEnded fLow fRange fCache fPend fGoes fOuts fIns fReads fBad fIR fAsk fBAsk fCode fRL fRR fX fWrites 0))] H := ⟨hP, hD⟩
  have hP := hPD.1
  have hD := hPD.2
  refine lv_if_ne (tgt := 15) hx hb d_M_chance_10 (by decide) (fun c_1 => ?_) (fun c_1 => ?_)
  · exact absurd (by rw [hmod] at hw_7; exact one_ne hw_7 c_1) (md_no hMD.1 hno)
  · refine lv_iconst (v := (-1)) hx hb d_M_chance_13 (by decide) ?_
    exact my_iret (v := (-1)) hx hb hr (rfl) hlocks hQ hK hS (Nat.le_refl _) (Nat.le_refl _) () (rfl) (hP.sub [2, 0, 1] rfl) (hD.sub [2, 0, 1] (by decide +kernel) rfl) d_M_chance_14
set_option maxHeartbeats 2000000 in
set_option maxRecDepth 100000 in
theorem m_chanceS (l : Launch) (dC : Nat → ClassId) (dI : Nat → Nat → Nat) (cI cM cO : ClassId) (sz : Nat) (o : Nat) (g : Nat → Nat) (fForm : Int32) (fShift : Int32) (fModels : Int32) (fItems : Int32) (fEnded : Int32) (fLow : Int64) (fRange : Int64) (fCache : Int32) (fPend : Int32) (fGoes : Int32) (fOuts : Int32) (fIns : Int32) (fReads : Int32) (fBad : Int32) (fIR : Int32) (fAsk : Int32) (fBAsk : Int32) (fCode : Int64) (fRL : Int64) (fRR : Int64) (fX : Int64) (fWrites : Int32) (fThrown : Int32) (vMany : Nat → Int32) (vCounts : Nat → Int32) (km : Nat) (N : Nat → Nat) (jj : Nat) (p2 : Int32) (hmod : fModels = nI km) (hMD : MD km N vMany vCounts) (hj : jj < km) (hf2 : ¬ fForm = 2) (hno : p2 < 0 ∨ nI (N jj) ≤ p2) : MetI l y_M_chance (Cond.code y_M_chance prog_14_method_62_code 4 (some .int) :: gw) ({ frames := 2, cells := 0, slots := 0, locals := 43 } : Room) (dC, dI) vwCl (kT cI cM cO) [Value.ref o, Value.int (nI jj), Value.int p2] [(o, Sum.inr (9, mO g fForm fShift fModels fItems fEnded fLow fRange fCache fPend fGoes fOuts fIns fReads fBad fIR fAsk fBAsk fCode fRL fRR fX fWrites fThrown)), ((g 0), Sum.inl (cI, 8, Sum.inl vMany)), ((g 1), Sum.inl (cI, 512, Sum.inl vCounts))] sz (fun (r : Int32) (u : Unit) => r = -1) (fun (u : Unit) => [(o, Sum.inr (9, mO g fForm fShift fModels fItems fEnded fLow fRange fCache fPend fGoes fOuts fIns fReads fBad fIR fAsk fBAsk fCode fRL fRR fX fWrites 0)), ((g 0), Sum.inl (cI, 8, Sum.inl vMany)), ((g 1), Sum.inl (cI, 512, Sum.inl vCounts))]) 0 0 := by
  refine my_ofI (cc := prog_14_method_62_code) (n := 4) (ret := (some .int)) (by decide) rfl (Nat.le_of_ble_eq_true rfl) ?_
  intro p e s m args below meth c R Q A ls H locs hx hb hr hts hown hlocks hml hnm hR hQ hA hl hP hK hN hD hS
  have hg : ∀ w ∈ gw, w.before args s = true := fun w h => hts w (List.mem_cons_of_mem _ h)
  have hown : s.vm.findClass "RangeCodersModel" = some m.cls := hown
  have hl : lv_has ls 4 [(0, Value.ref o), (1, Value.int (nI jj)), (2, Value.int p2)] := hl
  have hk8 := hMD.1
  obtain ⟨hn9, hn2, hn64, C9, hc9, hB9⟩ := hMD.2 jj hj
  refine lv_aload_n hx hb d_M_chance_0 rfl (lv_at hl 0 rfl) ?_
  refine lv_iconst (v := 0) hx hb d_M_chance_1 (by decide) ?_
  refine va_put (D := (dC, dI)) (ci := 9) (v := .int 0) (ty := .int) (C := "RangeCodersModel") (T := T_M) (N := 35) hx hb hg in_M t_M o_M n_M hown hK hP hD hS 0 rfl rfl 34 (by decide) (hg _ k986) (fun _ h9 => h9) rfl (o_M 34 (by decide)) rfl rfl (Nat.le_of_ble_eq_true rfl) d_M_chance_2 (fun H locs hP hD hS => ?_)
  have hPD : my_PD (dC, dI) vwCl A [(o, Sum.inr (9, mO g fForm fShift fModels fItems fEnded fLow fRange fCache fPend fGoes fOuts fIns fReads fBad fIR fAsk fBAsk fCode fRL fRR fX fWrites 0)), ((g 0), Sum.inl (cI, 8, Sum.inl vMany)), ((g 1), Sum.inl (cI, 512, Sum.inl vCounts))] H := ⟨hP, hD⟩
  have hP := hPD.1
  have hD := hPD.2
  refine lv_aload_n hx hb d_M_chance_5 rfl (lv_at hl 0 rfl) ?_
  refine lv_iload_n hx hb d_M_chance_6 rfl (lv_at hl 1 rfl) ?_
  refine my_ci (wr := [((g 0), Sum.inl (cI, 8, Sum.inl vMany)), ((g 1), Sum.inl (cI, 512, Sum.inl vCounts))]) (va_runV (As := [Value.int (nI jj)]) (rest := []) ⟨hx, hb, hml, hown, hts⟩ (c_M_isModel l dC dI cI cM cO H.size o g fForm fShift fModels fItems fEnded fLow fRange fCache fPend fGoes fOuts fIns fReads fBad fIR fAsk fBAsk fCode fRL fRR fX fWrites 0 (nI jj)) (cwV 1 hts (my_gV k1073 k1075 ks26 k12 k1076) rfl rfl rfl cu_M_isModel_1 ⟨by rw [hR]; exact Nat.le_of_ble_eq_true rfl, by rw [hR]; exact Nat.le_of_ble_eq_true rfl⟩) (my_preV hK hN (hP.sub [0] rfl) (hD.sub [0] (by decide +kernel) rfl) 0 rfl rfl) rfl rfl hl.1 rfl (lv_room (Nat.le_of_ble_eq_true rfl)) d_M_chance_7 ⟨by rw [hR]; exact Nat.le_of_ble_eq_true rfl, by rw [hR]; exact Nat.le_of_ble_eq_true rfl⟩) hP hD hS hA [0] [1, 2] rfl rfl (by decide +kernel) (by decide +kernel) (fun r_7 u9 H locs hw_7 hP hD hS => ?_)
  have hw_7 : r_7 = if 0 ≤ (nI jj) ∧ (nI jj) ≤ fModels - 1 then 1 else 0 := hw_7
  have hPD : my_PD (dC, dI) vwCl A [((g 0), Sum.inl (cI, 8, Sum.inl vMany)), ((g 1), Sum.inl (cI, 512, Sum.inl vCounts)), (o, Sum.inr (9, mO g fForm fShift fModels fItems fEnded fLow fRange fCache fPend fGoes fOuts fIns fReads fBad fIR fAsk fBAsk fCode fRL fRR fX fWrites 0))] H := ⟨hP, hD⟩
  have hP := hPD.1
  have hD := hPD.2
  refine lv_if_ne (tgt := 15) hx hb d_M_chance_10 (by decide) (fun c_1 => ?_) (fun c_1 => ?_)
  · refine lv_aload_n hx hb d_M_chance_15 rfl (lv_at hl 0 rfl) ?_
    refine va_get (D := (dC, dI)) (ci := 9) (v := .int fForm) (C := "RangeCodersModel") (T := T_M) (N := 35) hx hb hg in_M hown hK hP 2 rfl rfl 0 (by decide) (hg _ k952) (fun _ h9 => h9) rfl d_M_chance_16 ?_
    refine lv_iconst (v := 2) hx hb d_M_chance_19 (by decide) ?_
    refine lv_icmp_ne (tgt := 40) hx hb d_M_chance_20 (by decide) (fun c_2 => ?_) (fun c_2 => ?_)
    · refine lv_iload_n hx hb d_M_chance_40 rfl (lv_at hl 2 rfl) ?_
      refine lv_iconst (v := 0) hx hb d_M_chance_41 (by decide) ?_
      refine lv_aload_n hx hb d_M_chance_42 rfl (lv_at hl 0 rfl) ?_
      refine va_get (D := (dC, dI)) (ci := 9) (v := .ref (g 0)) (C := "RangeCodersModel") (T := T_M) (N := 35) hx hb hg in_M hown hK hP 2 rfl rfl 3 (by decide) (hg _ k955) (fun _ h9 => h9) rfl d_M_chance_43 ?_
      refine lv_iload_n hx hb d_M_chance_46 rfl (lv_at hl 1 rfl) ?_
      refine va_iald hx hb hK hP 0 0 rfl rfl (vp_in_nI (by omega) (by decide)) d_M_chance_47 ?_
      refine lv_topi (fun v_3 ev_3 => ?_)
      refine lv_iconst (v := 1) hx hb d_M_chance_48 (by decide) ?_
      refine lv_isub hx hb d_M_chance_49 ?_
      refine lv_topi (fun v_4 ev_4 => ?_)
      have z9 : v_4 = nI (N jj) - 1 := by rw [ev_4, ev_3, nI_clamp (by omega), hn9]
      subst z9
      refine my_ci (wr := [((g 0), Sum.inl (cI, 8, Sum.inl vMany)), ((g 1), Sum.inl (cI, 512, Sum.inl vCounts)), (o, Sum.inr (9, mO g fForm fShift fModels fItems fEnded fLow fRange fCache fPend fGoes fOuts fIns fReads fBad fIR fAsk fBAsk fCode fRL fRR fX fWrites 0))]) (va_runS (As := [Value.int p2, Value.int 0, Value.int (nI (N jj) - 1)]) (rest := []) ⟨hx, hb, hml, hown, hts⟩ (c_M_in l dC dI cI cM cO H.size p2 0 (nI (N jj) - 1)) (cwS 3 hts (my_gS k1062 k1063 k12 k1064) rfl rfl rfl (by decide +kernel) ⟨by rw [hR]; exact Nat.le_of_ble_eq_true rfl, by rw [hR]; exact Nat.le_of_ble_eq_true rfl⟩) (my_pre hK hN (hP.sub [] rfl) (hD.sub [] (by decide +kernel) rfl)) rfl rfl hl.1 rfl (lv_room (Nat.le_of_ble_eq_true rfl)) d_M_chance_50 ⟨by rw [hR]; exact Nat.le_of_ble_eq_true rfl, by rw [hR]; exact Nat.le_of_ble_eq_true rfl⟩) hP hD hS hA [] [0, 1, 2] rfl rfl (by decide +kernel) (by decide +kernel) (fun r_50 u9 H locs hw_50 hP hD hS => ?_)
      have hw_50 : r_50 = if 0 ≤ p2 ∧ p2 ≤ (nI (N jj) - 1) then 1 else 0 := hw_50
      have hPD : my_PD (dC, dI) vwCl A [((g 0), Sum.inl (cI, 8, Sum.inl vMany)), ((g 1), Sum.inl (cI, 512, Sum.inl vCounts)), (o, Sum.inr (9, mO g fForm fShift fModels fItems fEnded fLow fRange fCache fPend fGoes fOuts fIns fReads fBad fIR fAsk fBAsk fCode fRL fRR fX fWrites 0))] H := ⟨hP, hD⟩
      have hP := hPD.1
      have hD := hPD.2
      refine lv_istore_n (lv' := [(3, Value.int r_50), (0, Value.ref o), (1, Value.int (nI jj)), (2, Value.int p2)]) hx hb d_M_chance_53 rfl hl (by decide) rfl (fun ls hl => ?_)
      refine lv_iload_n hx hb d_M_chance_54 rfl (lv_at hl 0 rfl) ?_
      refine lv_if_eq (tgt := 72) hx hb d_M_chance_55 (by decide) (fun c_5 => ?_) (fun c_5 => ?_)
      · refine lv_iconst (v := (-1)) hx hb d_M_chance_72 (by decide) ?_
        exact my_iret (v := (-1)) hx hb hr (rfl) hlocks hQ hK hS (Nat.le_refl _) (Nat.le_refl _) () (rfl) (hP.sub [2, 0, 1] rfl) (hD.sub [2, 0, 1] (by decide +kernel) rfl) d_M_chance_73
      · exact absurd (isN_no (by omega) hno) (fun z9 => z9 (one_ne hw_50 c_5))
    · exact absurd c_2 hf2
  · exact absurd (show 0 ≤ nI jj ∧ nI jj ≤ nI km - 1 from (isN_iff (by omega)).mpr ⟨jj, hj, rfl⟩) (by rw [hmod] at hw_7; exact one_eq hw_7 c_1)
set_option maxHeartbeats 2000000 in
set_option maxRecDepth 100000 in
theorem m_chanceL (l : Launch) (dC : Nat → ClassId) (dI : Nat → Nat → Nat) (cI cM cO : ClassId) (sz : Nat) (o : Nat) (g : Nat → Nat) (fForm : Int32) (fShift : Int32) (fModels : Int32) (fItems : Int32) (fEnded : Int32) (fLow : Int64) (fRange : Int64) (fCache : Int32) (fPend : Int32) (fGoes : Int32) (fOuts : Int32) (fIns : Int32) (fReads : Int32) (fBad : Int32) (fIR : Int32) (fAsk : Int32) (fBAsk : Int32) (fCode : Int64) (fRL : Int64) (fRR : Int64) (fX : Int64) (fWrites : Int32) (fThrown : Int32) (vMany : Nat → Int32) (vCounts : Nat → Int32) (vNow : Nat → Int32) (km : Nat) (N : Nat → Nat) (jj : Nat) (tt : Nat) (hmod : fModels = nI km) (hMD : MD km N vMany vCounts) (hj : jj < km) (ht : tt < N jj) (hf2 : ¬ fForm = 2) : MetI l y_M_chance (Cond.code y_M_chance prog_14_method_62_code 4 (some .int) :: gw) ({ frames := 2, cells := 0, slots := 0, locals := 43 } : Room) (dC, dI) vwCl (kT cI cM cO) [Value.ref o, Value.int (nI jj), Value.int (nI tt)] [(o, Sum.inr (9, mO g fForm fShift fModels fItems fEnded fLow fRange fCache fPend fGoes fOuts fIns fReads fBad fIR fAsk fBAsk fCode fRL fRR fX fWrites fThrown)), ((g 0), Sum.inl (cI, 8, Sum.inl vMany)), ((g 1), Sum.inl (cI, 512, Sum.inl vCounts)), ((g 2), Sum.inl (cI, 512, Sum.inl vNow))] sz (fun (r : Int32) (u : Unit) => r = vNow (64 * jj + tt)) (fun (u : Unit) => [(o, Sum.inr (9, mO g fForm fShift fModels fItems fEnded fLow fRange fCache fPend fGoes fOuts fIns fReads fBad fIR fAsk fBAsk fCode fRL fRR fX fWrites 0)), ((g 0), Sum.inl (cI, 8, Sum.inl vMany)), ((g 1), Sum.inl (cI, 512, Sum.inl vCounts)), ((g 2), Sum.inl (cI, 512, Sum.inl vNow))]) 0 0 := by
  refine my_ofI (cc := prog_14_method_62_code) (n := 4) (ret := (some .int)) (by decide) rfl (Nat.le_of_ble_eq_true rfl) ?_
  intro p e s m args below meth c R Q A ls H locs hx hb hr hts hown hlocks hml hnm hR hQ hA hl hP hK hN hD hS
  have hg : ∀ w ∈ gw, w.before args s = true := fun w h => hts w (List.mem_cons_of_mem _ h)
  have hown : s.vm.findClass "RangeCodersModel" = some m.cls := hown
  have hl : lv_has ls 4 [(0, Value.ref o), (1, Value.int (nI jj)), (2, Value.int (nI tt))] := hl
  have hk8 := hMD.1
  obtain ⟨hn9, hn2, hn64, C9, hc9, hB9⟩ := hMD.2 jj hj
  refine lv_aload_n hx hb d_M_chance_0 rfl (lv_at hl 0 rfl) ?_
  refine lv_iconst (v := 0) hx hb d_M_chance_1 (by decide) ?_
  refine va_put (D := (dC, dI)) (ci := 9) (v := .int 0) (ty := .int) (C := "RangeCodersModel") (T := T_M) (N := 35) hx hb hg in_M t_M o_M n_M hown hK hP hD hS 0 rfl rfl 34 (by decide) (hg _ k986) (fun _ h9 => h9) rfl (o_M 34 (by decide)) rfl rfl (Nat.le_of_ble_eq_true rfl) d_M_chance_2 (fun H locs hP hD hS => ?_)
  have hPD : my_PD (dC, dI) vwCl A [(o, Sum.inr (9, mO g fForm fShift fModels fItems fEnded fLow fRange fCache fPend fGoes fOuts fIns fReads fBad fIR fAsk fBAsk fCode fRL fRR fX fWrites 0)), ((g 0), Sum.inl (cI, 8, Sum.inl vMany)), ((g 1), Sum.inl (cI, 512, Sum.inl vCounts)), ((g 2), Sum.inl (cI, 512, Sum.inl vNow))] H := ⟨hP, hD⟩
  have hP := hPD.1
  have hD := hPD.2
  refine lv_aload_n hx hb d_M_chance_5 rfl (lv_at hl 0 rfl) ?_
  refine lv_iload_n hx hb d_M_chance_6 rfl (lv_at hl 1 rfl) ?_
  refine my_ci (wr := [((g 0), Sum.inl (cI, 8, Sum.inl vMany)), ((g 1), Sum.inl (cI, 512, Sum.inl vCounts)), ((g 2), Sum.inl (cI, 512, Sum.inl vNow))]) (va_runV (As := [Value.int (nI jj)]) (rest := []) ⟨hx, hb, hml, hown, hts⟩ (c_M_isModel l dC dI cI cM cO H.size o g fForm fShift fModels fItems fEnded fLow fRange fCache fPend fGoes fOuts fIns fReads fBad fIR fAsk fBAsk fCode fRL fRR fX fWrites 0 (nI jj)) (cwV 1 hts (my_gV k1073 k1075 ks26 k12 k1076) rfl rfl rfl cu_M_isModel_1 ⟨by rw [hR]; exact Nat.le_of_ble_eq_true rfl, by rw [hR]; exact Nat.le_of_ble_eq_true rfl⟩) (my_preV hK hN (hP.sub [0] rfl) (hD.sub [0] (by decide +kernel) rfl) 0 rfl rfl) rfl rfl hl.1 rfl (lv_room (Nat.le_of_ble_eq_true rfl)) d_M_chance_7 ⟨by rw [hR]; exact Nat.le_of_ble_eq_true rfl, by rw [hR]; exact Nat.le_of_ble_eq_true rfl⟩) hP hD hS hA [0] [1, 2, 3] rfl rfl (by decide +kernel) (by decide +kernel) (fun r_7 u9 H locs hw_7 hP hD hS => ?_)
  have hw_7 : r_7 = if 0 ≤ (nI jj) ∧ (nI jj) ≤ fModels - 1 then 1 else 0 := hw_7
  have hPD : my_PD (dC, dI) vwCl A [((g 0), Sum.inl (cI, 8, Sum.inl vMany)), ((g 1), Sum.inl (cI, 512, Sum.inl vCounts)), ((g 2), Sum.inl (cI, 512, Sum.inl vNow)), (o, Sum.inr (9, mO g fForm fShift fModels fItems fEnded fLow fRange fCache fPend fGoes fOuts fIns fReads fBad fIR fAsk fBAsk fCode fRL fRR fX fWrites 0))] H := ⟨hP, hD⟩
  have hP := hPD.1
  have hD := hPD.2
  refine lv_if_ne (tgt := 15) hx hb d_M_chance_10 (by decide) (fun c_1 => ?_) (fun c_1 => ?_)
  · refine lv_aload_n hx hb d_M_chance_15 rfl (lv_at hl 0 rfl) ?_
    refine va_get (D := (dC, dI)) (ci := 9) (v := .int fForm) (C := "RangeCodersModel") (T := T_M) (N := 35) hx hb hg in_M hown hK hP 3 rfl rfl 0 (by decide) (hg _ k952) (fun _ h9 => h9) rfl d_M_chance_16 ?_
    refine lv_iconst (v := 2) hx hb d_M_chance_19 (by decide) ?_
    refine lv_icmp_ne (tgt := 40) hx hb d_M_chance_20 (by decide) (fun c_2 => ?_) (fun c_2 => ?_)
    · refine lv_iload_n hx hb d_M_chance_40 rfl (lv_at hl 2 rfl) ?_
      refine lv_iconst (v := 0) hx hb d_M_chance_41 (by decide) ?_
      refine lv_aload_n hx hb d_M_chance_42 rfl (lv_at hl 0 rfl) ?_
      refine va_get (D := (dC, dI)) (ci := 9) (v := .ref (g 0)) (C := "RangeCodersModel") (T := T_M) (N := 35) hx hb hg in_M hown hK hP 3 rfl rfl 3 (by decide) (hg _ k955) (fun _ h9 => h9) rfl d_M_chance_43 ?_
      refine lv_iload_n hx hb d_M_chance_46 rfl (lv_at hl 1 rfl) ?_
      refine va_iald hx hb hK hP 0 0 rfl rfl (vp_in_nI (by omega) (by decide)) d_M_chance_47 ?_
      refine lv_topi (fun v_3 ev_3 => ?_)
      refine lv_iconst (v := 1) hx hb d_M_chance_48 (by decide) ?_
      refine lv_isub hx hb d_M_chance_49 ?_
      refine lv_topi (fun v_4 ev_4 => ?_)
      have z9 : v_4 = nI (N jj) - 1 := by rw [ev_4, ev_3, nI_clamp (by omega), hn9]
      subst z9
      refine my_ci (wr := [((g 0), Sum.inl (cI, 8, Sum.inl vMany)), ((g 1), Sum.inl (cI, 512, Sum.inl vCounts)), ((g 2), Sum.inl (cI, 512, Sum.inl vNow)), (o, Sum.inr (9, mO g fForm fShift fModels fItems fEnded fLow fRange fCache fPend fGoes fOuts fIns fReads fBad fIR fAsk fBAsk fCode fRL fRR fX fWrites 0))]) (va_runS (As := [Value.int (nI tt), Value.int 0, Value.int (nI (N jj) - 1)]) (rest := []) ⟨hx, hb, hml, hown, hts⟩ (c_M_in l dC dI cI cM cO H.size (nI tt) 0 (nI (N jj) - 1)) (cwS 3 hts (my_gS k1062 k1063 k12 k1064) rfl rfl rfl (by decide +kernel) ⟨by rw [hR]; exact Nat.le_of_ble_eq_true rfl, by rw [hR]; exact Nat.le_of_ble_eq_true rfl⟩) (my_pre hK hN (hP.sub [] rfl) (hD.sub [] (by decide +kernel) rfl)) rfl rfl hl.1 rfl (lv_room (Nat.le_of_ble_eq_true rfl)) d_M_chance_50 ⟨by rw [hR]; exact Nat.le_of_ble_eq_true rfl, by rw [hR]; exact Nat.le_of_ble_eq_true rfl⟩) hP hD hS hA [] [0, 1, 2, 3] rfl rfl (by decide +kernel) (by decide +kernel) (fun r_50 u9 H locs hw_50 hP hD hS => ?_)
      have hw_50 : r_50 = if 0 ≤ (nI tt) ∧ (nI tt) ≤ (nI (N jj) - 1) then 1 else 0 := hw_50
      have hPD : my_PD (dC, dI) vwCl A [((g 0), Sum.inl (cI, 8, Sum.inl vMany)), ((g 1), Sum.inl (cI, 512, Sum.inl vCounts)), ((g 2), Sum.inl (cI, 512, Sum.inl vNow)), (o, Sum.inr (9, mO g fForm fShift fModels fItems fEnded fLow fRange fCache fPend fGoes fOuts fIns fReads fBad fIR fAsk fBAsk fCode fRL fRR fX fWrites 0))] H := ⟨hP, hD⟩
      have hP := hPD.1
      have hD := hPD.2
      refine lv_istore_n (lv' := [(3, Value.int r_50), (0, Value.ref o), (1, Value.int (nI jj)), (2, Value.int (nI tt))]) hx hb d_M_chance_53 rfl hl (by decide) rfl (fun ls hl => ?_)
      refine lv_iload_n hx hb d_M_chance_54 rfl (lv_at hl 0 rfl) ?_
      refine lv_if_eq (tgt := 72) hx hb d_M_chance_55 (by decide) (fun c_5 => ?_) (fun c_5 => ?_)
      · exact absurd ((isN_iff (k := N jj) (by omega)).mpr ⟨tt, ht, rfl⟩) (one_eq hw_50 c_5)
      · refine lv_aload_n hx hb d_M_chance_58 rfl (lv_at hl 1 rfl) ?_
        refine va_get (D := (dC, dI)) (ci := 9) (v := .ref (g 2)) (C := "RangeCodersModel") (T := T_M) (N := 35) hx hb hg in_M hown hK hP 3 rfl rfl 5 (by decide) (hg _ k957) (fun _ h9 => h9) rfl d_M_chance_59 ?_
        refine lv_bipush (v := 64) hx hb d_M_chance_62 (by decide) ?_
        refine lv_iload_n hx hb d_M_chance_64 rfl (lv_at hl 2 rfl) ?_
        refine lv_imul hx hb d_M_chance_65 ?_
        refine lv_topi (fun v_6 ev_6 => ?_)
        refine lv_iload_n hx hb d_M_chance_66 rfl (lv_at hl 3 rfl) ?_
        refine lv_iadd hx hb d_M_chance_67 ?_
        refine lv_topi (fun v_7 ev_7 => ?_)
        have hix : v_7 = nI (64 * jj + tt) := by rw [ev_7, ev_6]; exact ix64
        refine va_iald hx hb hK hP 2 0 rfl rfl (by rw [hix]; exact vp_in_nI (by omega) (by decide)) d_M_chance_68 ?_
        refine lv_topi (fun v_8 ev_8 => ?_)
        refine lv_goto (tgt := 73) hx hb d_M_chance_69 (by decide) ?_
        exact my_iret (v := v_8) hx hb hr (rfl) hlocks hQ hK hS (Nat.le_refl _) (Nat.le_refl _) () (by rw [ev_8, hix, nI_clamp (by omega)]) (hP.sub [3, 0, 1, 2] rfl) (hD.sub [3, 0, 1, 2] (by decide +kernel) rfl) d_M_chance_73
    · exact absurd c_2 hf2
  · exact absurd (show 0 ≤ nI jj ∧ nI jj ≤ nI km - 1 from (isN_iff (by omega)).mpr ⟨jj, hj, rfl⟩) (by rw [hmod] at hw_7; exact one_eq hw_7 c_1)
set_option maxHeartbeats 2000000 in
set_option maxRecDepth 100000 in
theorem m_chance2S (l : Launch) (dC : Nat → ClassId) (dI : Nat → Nat → Nat) (cI cM cO : ClassId) (sz : Nat) (o : Nat) (g : Nat → Nat) (fShift : Int32) (fModels : Int32) (fItems : Int32) (fEnded : Int32) (fLow : Int64) (fRange : Int64) (fCache : Int32) (fPend : Int32) (fGoes : Int32) (fOuts : Int32) (fIns : Int32) (fReads : Int32) (fBad : Int32) (fIR : Int32) (fAsk : Int32) (fBAsk : Int32) (fCode : Int64) (fRL : Int64) (fRR : Int64) (fX : Int64) (fWrites : Int32) (fThrown : Int32) (vMany : Nat → Int32) (vCounts : Nat → Int32) (km : Nat) (N : Nat → Nat) (jj : Nat) (p2 : Int32) (hmod : fModels = nI km) (hMD : MD km N vMany vCounts) (hj : jj < km) (hno : p2 < 1 ∨ p2 < 0 ∨ nI (2 ^ lev (N jj)) ≤ p2) : MetI l y_M_chance (Cond.code y_M_chance prog_14_method_62_code 4 (some .int) :: gw) ({ frames := 2, cells := 0, slots := 0, locals := 43 } : Room) (dC, dI) vwCl (kT cI cM cO) [Value.ref o, Value.int (nI jj), Value.int p2] [(o, Sum.inr (9, mO g 2 fShift fModels fItems fEnded fLow fRange fCache fPend fGoes fOuts fIns fReads fBad fIR fAsk fBAsk fCode fRL fRR fX fWrites fThrown)), ((g 0), Sum.inl (cI, 8, Sum.inl vMany)), ((g 1), Sum.inl (cI, 512, Sum.inl vCounts))] sz (fun (r : Int32) (u : Unit) => r = -1) (fun (u : Unit) => [(o, Sum.inr (9, mO g 2 fShift fModels fItems fEnded fLow fRange fCache fPend fGoes fOuts fIns fReads fBad fIR fAsk fBAsk fCode fRL fRR fX fWrites 0)), ((g 0), Sum.inl (cI, 8, Sum.inl vMany)), ((g 1), Sum.inl (cI, 512, Sum.inl vCounts))]) 0 0 := by
  refine my_ofI (cc := prog_14_method_62_code) (n := 4) (ret := (some .int)) (by decide) rfl (Nat.le_of_ble_eq_true rfl) ?_
  intro p e s m args below meth c R Q A ls H locs hx hb hr hts hown hlocks hml hnm hR hQ hA hl hP hK hN hD hS
  have hg : ∀ w ∈ gw, w.before args s = true := fun w h => hts w (List.mem_cons_of_mem _ h)
  have hown : s.vm.findClass "RangeCodersModel" = some m.cls := hown
  have hl : lv_has ls 4 [(0, Value.ref o), (1, Value.int (nI jj)), (2, Value.int p2)] := hl
  have hk8 := hMD.1
  obtain ⟨hn9, hn2, hn64, C9, hc9, hB9⟩ := hMD.2 jj hj
  have hl6 := lev_63 (N jj)
  have hp0 := Nat.two_pow_pos (lev (N jj))
  refine lv_aload_n hx hb d_M_chance_0 rfl (lv_at hl 0 rfl) ?_
  refine lv_iconst (v := 0) hx hb d_M_chance_1 (by decide) ?_
  refine va_put (D := (dC, dI)) (ci := 9) (v := .int 0) (ty := .int) (C := "RangeCodersModel") (T := T_M) (N := 35) hx hb hg in_M t_M o_M n_M hown hK hP hD hS 0 rfl rfl 34 (by decide) (hg _ k986) (fun _ h9 => h9) rfl (o_M 34 (by decide)) rfl rfl (Nat.le_of_ble_eq_true rfl) d_M_chance_2 (fun H locs hP hD hS => ?_)
  have hPD : my_PD (dC, dI) vwCl A [(o, Sum.inr (9, mO g 2 fShift fModels fItems fEnded fLow fRange fCache fPend fGoes fOuts fIns fReads fBad fIR fAsk fBAsk fCode fRL fRR fX fWrites 0)), ((g 0), Sum.inl (cI, 8, Sum.inl vMany)), ((g 1), Sum.inl (cI, 512, Sum.inl vCounts))] H := ⟨hP, hD⟩
  have hP := hPD.1
  have hD := hPD.2
  refine lv_aload_n hx hb d_M_chance_5 rfl (lv_at hl 0 rfl) ?_
  refine lv_iload_n hx hb d_M_chance_6 rfl (lv_at hl 1 rfl) ?_
  refine my_ci (wr := [((g 0), Sum.inl (cI, 8, Sum.inl vMany)), ((g 1), Sum.inl (cI, 512, Sum.inl vCounts))]) (va_runV (As := [Value.int (nI jj)]) (rest := []) ⟨hx, hb, hml, hown, hts⟩ (c_M_isModel l dC dI cI cM cO H.size o g 2 fShift fModels fItems fEnded fLow fRange fCache fPend fGoes fOuts fIns fReads fBad fIR fAsk fBAsk fCode fRL fRR fX fWrites 0 (nI jj)) (cwV 1 hts (my_gV k1073 k1075 ks26 k12 k1076) rfl rfl rfl cu_M_isModel_1 ⟨by rw [hR]; exact Nat.le_of_ble_eq_true rfl, by rw [hR]; exact Nat.le_of_ble_eq_true rfl⟩) (my_preV hK hN (hP.sub [0] rfl) (hD.sub [0] (by decide +kernel) rfl) 0 rfl rfl) rfl rfl hl.1 rfl (lv_room (Nat.le_of_ble_eq_true rfl)) d_M_chance_7 ⟨by rw [hR]; exact Nat.le_of_ble_eq_true rfl, by rw [hR]; exact Nat.le_of_ble_eq_true rfl⟩) hP hD hS hA [0] [1, 2] rfl rfl (by decide +kernel) (by decide +kernel) (fun r_7 u9 H locs hw_7 hP hD hS => ?_)
  have hw_7 : r_7 = if 0 ≤ (nI jj) ∧ (nI jj) ≤ fModels - 1 then 1 else 0 := hw_7
  have hPD : my_PD (dC, dI) vwCl A [((g 0), Sum.inl (cI, 8, Sum.inl vMany)), ((g 1), Sum.inl (cI, 512, Sum.inl vCounts)), (o, Sum.inr (9, mO g 2 fShift fModels fItems fEnded fLow fRange fCache fPend fGoes fOuts fIns fReads fBad fIR fAsk fBAsk fCode fRL fRR fX fWrites 0))] H := ⟨hP, hD⟩
  have hP := hPD.1
  have hD := hPD.2
  refine lv_if_ne (tgt := 15) hx hb d_M_chance_10 (by decide) (fun c_1 => ?_) (fun c_1 => ?_)
  · refine lv_aload_n hx hb d_M_chance_15 rfl (lv_at hl 0 rfl) ?_
    refine va_get (D := (dC, dI)) (ci := 9) (v := .int 2) (C := "RangeCodersModel") (T := T_M) (N := 35) hx hb hg in_M hown hK hP 2 rfl rfl 0 (by decide) (hg _ k952) (fun _ h9 => h9) rfl d_M_chance_16 ?_
    refine lv_iconst (v := 2) hx hb d_M_chance_19 (by decide) ?_
    refine lv_icmp_ne (tgt := 40) hx hb d_M_chance_20 (by decide) (fun c_2 => ?_) (fun c_2 => ?_)
    · exact absurd rfl c_2
    · refine lv_iload_n hx hb d_M_chance_23 rfl (lv_at hl 2 rfl) ?_
      refine lv_iconst (v := 1) hx hb d_M_chance_24 (by decide) ?_
      refine lv_iconst (v := 1) hx hb d_M_chance_25 (by decide) ?_
      refine lv_aload_n hx hb d_M_chance_26 rfl (lv_at hl 0 rfl) ?_
      refine lv_iload_n hx hb d_M_chance_27 rfl (lv_at hl 1 rfl) ?_
      refine my_ci (wr := [((g 1), Sum.inl (cI, 512, Sum.inl vCounts))]) (va_runV (As := [Value.int (nI jj)]) (rest := [Value.int 1, Value.int 1, Value.int p2]) ⟨hx, hb, hml, hown, hts⟩ (c_M_levels l dC dI cI cM cO H.size o g 2 fShift fModels fItems fEnded fLow fRange fCache fPend fGoes fOuts fIns fReads fBad fIR fAsk fBAsk fCode fRL fRR fX fWrites 0 vMany jj (N jj) (by omega) (hn9) (hn64)) (cwV 1 hts (my_gV k1123 k1125 ks35 k12 k1126) rfl rfl rfl cu_M_levels_1 ⟨by rw [hR]; exact Nat.le_of_ble_eq_true rfl, by rw [hR]; exact Nat.le_of_ble_eq_true rfl⟩) (my_preV hK hN (hP.sub [2, 0] rfl) (hD.sub [2, 0] (by decide +kernel) rfl) 0 rfl rfl) rfl rfl hl.1 rfl (lv_room (Nat.le_of_ble_eq_true rfl)) d_M_chance_28 ⟨by rw [hR]; exact Nat.le_of_ble_eq_true rfl, by rw [hR]; exact Nat.le_of_ble_eq_true rfl⟩) hP hD hS hA [2, 0] [1] rfl rfl (by decide +kernel) (by decide +kernel) (fun r_28 u9 H locs hw_28 hP hD hS => ?_)
      have hw_28 : r_28 = nI (lev (N jj)) := hw_28
      have hPD : my_PD (dC, dI) vwCl A [((g 1), Sum.inl (cI, 512, Sum.inl vCounts)), (o, Sum.inr (9, mO g 2 fShift fModels fItems fEnded fLow fRange fCache fPend fGoes fOuts fIns fReads fBad fIR fAsk fBAsk fCode fRL fRR fX fWrites 0)), ((g 0), Sum.inl (cI, 8, Sum.inl vMany))] H := ⟨hP, hD⟩
      have hP := hPD.1
      have hD := hPD.2
      refine lv_ishl hx hb d_M_chance_31 ?_
      refine lv_topi (fun v_3 ev_3 => ?_)
      have z9 : v_3 = nI (2 ^ lev (N jj)) := by rw [ev_3, hw_28]; exact shl1 _ (lev_30 _)
      subst z9
      refine lv_iconst (v := 1) hx hb d_M_chance_32 (by decide) ?_
      refine lv_isub hx hb d_M_chance_33 ?_
      refine lv_topi (fun v_4 ev_4 => ?_)
      have z9 : v_4 = nI (2 ^ lev (N jj) - 1) := by rw [ev_4]; exact nI_pred9 (Nat.two_pow_pos _)
      subst z9
      refine my_ci (wr := [((g 1), Sum.inl (cI, 512, Sum.inl vCounts)), (o, Sum.inr (9, mO g 2 fShift fModels fItems fEnded fLow fRange fCache fPend fGoes fOuts fIns fReads fBad fIR fAsk fBAsk fCode fRL fRR fX fWrites 0)), ((g 0), Sum.inl (cI, 8, Sum.inl vMany))]) (va_runS (As := [Value.int p2, Value.int 1, Value.int (nI (2 ^ lev (N jj) - 1))]) (rest := []) ⟨hx, hb, hml, hown, hts⟩ (c_M_in l dC dI cI cM cO H.size p2 1 (nI (2 ^ lev (N jj) - 1))) (cwS 3 hts (my_gS k1062 k1063 k12 k1064) rfl rfl rfl (by decide +kernel) ⟨by rw [hR]; exact Nat.le_of_ble_eq_true rfl, by rw [hR]; exact Nat.le_of_ble_eq_true rfl⟩) (my_pre hK hN (hP.sub [] rfl) (hD.sub [] (by decide +kernel) rfl)) rfl rfl hl.1 rfl (lv_room (Nat.le_of_ble_eq_true rfl)) d_M_chance_34 ⟨by rw [hR]; exact Nat.le_of_ble_eq_true rfl, by rw [hR]; exact Nat.le_of_ble_eq_true rfl⟩) hP hD hS hA [] [0, 1, 2] rfl rfl (by decide +kernel) (by decide +kernel) (fun r_34 u9 H locs hw_34 hP hD hS => ?_)
      have hw_34 : r_34 = if 1 ≤ p2 ∧ p2 ≤ (nI (2 ^ lev (N jj) - 1)) then 1 else 0 := hw_34
      have hPD : my_PD (dC, dI) vwCl A [((g 1), Sum.inl (cI, 512, Sum.inl vCounts)), (o, Sum.inr (9, mO g 2 fShift fModels fItems fEnded fLow fRange fCache fPend fGoes fOuts fIns fReads fBad fIR fAsk fBAsk fCode fRL fRR fX fWrites 0)), ((g 0), Sum.inl (cI, 8, Sum.inl vMany))] H := ⟨hP, hD⟩
      have hP := hPD.1
      have hD := hPD.2
      refine lv_goto (tgt := 53) hx hb d_M_chance_37 (by decide) ?_
      refine lv_istore_n (lv' := [(3, Value.int r_34), (0, Value.ref o), (1, Value.int (nI jj)), (2, Value.int p2)]) hx hb d_M_chance_53 rfl hl (by decide) rfl (fun ls hl => ?_)
      refine lv_iload_n hx hb d_M_chance_54 rfl (lv_at hl 0 rfl) ?_
      refine lv_if_eq (tgt := 72) hx hb d_M_chance_55 (by decide) (fun c_5 => ?_) (fun c_5 => ?_)
      · refine lv_iconst (v := (-1)) hx hb d_M_chance_72 (by decide) ?_
        exact my_iret (v := (-1)) hx hb hr (rfl) hlocks hQ hK hS (Nat.le_refl _) (Nat.le_refl _) () (rfl) (hP.sub [1, 2, 0] rfl) (hD.sub [1, 2, 0] (by decide +kernel) rfl) d_M_chance_73
      · exact absurd (one_ne hw_34 c_5) (nd_no (by omega) hno)
  · exact absurd (show 0 ≤ nI jj ∧ nI jj ≤ nI km - 1 from (isN_iff (by omega)).mpr ⟨jj, hj, rfl⟩) (by rw [hmod] at hw_7; exact one_eq hw_7 c_1)
set_option maxHeartbeats 2000000 in
set_option maxRecDepth 100000 in
theorem m_chance2L (l : Launch) (dC : Nat → ClassId) (dI : Nat → Nat → Nat) (cI cM cO : ClassId) (sz : Nat) (o : Nat) (g : Nat → Nat) (fShift : Int32) (fModels : Int32) (fItems : Int32) (fEnded : Int32) (fLow : Int64) (fRange : Int64) (fCache : Int32) (fPend : Int32) (fGoes : Int32) (fOuts : Int32) (fIns : Int32) (fReads : Int32) (fBad : Int32) (fIR : Int32) (fAsk : Int32) (fBAsk : Int32) (fCode : Int64) (fRL : Int64) (fRR : Int64) (fX : Int64) (fWrites : Int32) (fThrown : Int32) (vMany : Nat → Int32) (vCounts : Nat → Int32) (vNow : Nat → Int32) (km : Nat) (N : Nat → Nat) (jj : Nat) (tt : Nat) (hmod : fModels = nI km) (hMD : MD km N vMany vCounts) (hj : jj < km) (ht1 : 1 ≤ tt) (ht : tt < 2 ^ lev (N jj)) : MetI l y_M_chance (Cond.code y_M_chance prog_14_method_62_code 4 (some .int) :: gw) ({ frames := 2, cells := 0, slots := 0, locals := 43 } : Room) (dC, dI) vwCl (kT cI cM cO) [Value.ref o, Value.int (nI jj), Value.int (nI tt)] [(o, Sum.inr (9, mO g 2 fShift fModels fItems fEnded fLow fRange fCache fPend fGoes fOuts fIns fReads fBad fIR fAsk fBAsk fCode fRL fRR fX fWrites fThrown)), ((g 0), Sum.inl (cI, 8, Sum.inl vMany)), ((g 1), Sum.inl (cI, 512, Sum.inl vCounts)), ((g 2), Sum.inl (cI, 512, Sum.inl vNow))] sz (fun (r : Int32) (u : Unit) => r = vNow (64 * jj + tt)) (fun (u : Unit) => [(o, Sum.inr (9, mO g 2 fShift fModels fItems fEnded fLow fRange fCache fPend fGoes fOuts fIns fReads fBad fIR fAsk fBAsk fCode fRL fRR fX fWrites 0)), ((g 0), Sum.inl (cI, 8, Sum.inl vMany)), ((g 1), Sum.inl (cI, 512, Sum.inl vCounts)), ((g 2), Sum.inl (cI, 512, Sum.inl vNow))]) 0 0 := by
  refine my_ofI (cc := prog_14_method_62_code) (n := 4) (ret := (some .int)) (by decide) rfl (Nat.le_of_ble_eq_true rfl) ?_
  intro p e s m args below meth c R Q A ls H locs hx hb hr hts hown hlocks hml hnm hR hQ hA hl hP hK hN hD hS
  have hg : ∀ w ∈ gw, w.before args s = true := fun w h => hts w (List.mem_cons_of_mem _ h)
  have hown : s.vm.findClass "RangeCodersModel" = some m.cls := hown
  have hl : lv_has ls 4 [(0, Value.ref o), (1, Value.int (nI jj)), (2, Value.int (nI tt))] := hl
  have hk8 := hMD.1
  obtain ⟨hn9, hn2, hn64, C9, hc9, hB9⟩ := hMD.2 jj hj
  have hl6 := lev_63 (N jj)
  have hp0 := Nat.two_pow_pos (lev (N jj))
  refine lv_aload_n hx hb d_M_chance_0 rfl (lv_at hl 0 rfl) ?_
  refine lv_iconst (v := 0) hx hb d_M_chance_1 (by decide) ?_
  refine va_put (D := (dC, dI)) (ci := 9) (v := .int 0) (ty := .int) (C := "RangeCodersModel") (T := T_M) (N := 35) hx hb hg in_M t_M o_M n_M hown hK hP hD hS 0 rfl rfl 34 (by decide) (hg _ k986) (fun _ h9 => h9) rfl (o_M 34 (by decide)) rfl rfl (Nat.le_of_ble_eq_true rfl) d_M_chance_2 (fun H locs hP hD hS => ?_)
  have hPD : my_PD (dC, dI) vwCl A [(o, Sum.inr (9, mO g 2 fShift fModels fItems fEnded fLow fRange fCache fPend fGoes fOuts fIns fReads fBad fIR fAsk fBAsk fCode fRL fRR fX fWrites 0)), ((g 0), Sum.inl (cI, 8, Sum.inl vMany)), ((g 1), Sum.inl (cI, 512, Sum.inl vCounts)), ((g 2), Sum.inl (cI, 512, Sum.inl vNow))] H := ⟨hP, hD⟩
  have hP := hPD.1
  have hD := hPD.2
  refine lv_aload_n hx hb d_M_chance_5 rfl (lv_at hl 0 rfl) ?_
  refine lv_iload_n hx hb d_M_chance_6 rfl (lv_at hl 1 rfl) ?_
  refine my_ci (wr := [((g 0), Sum.inl (cI, 8, Sum.inl vMany)), ((g 1), Sum.inl (cI, 512, Sum.inl vCounts)), ((g 2), Sum.inl (cI, 512, Sum.inl vNow))]) (va_runV (As := [Value.int (nI jj)]) (rest := []) ⟨hx, hb, hml, hown, hts⟩ (c_M_isModel l dC dI cI cM cO H.size o g 2 fShift fModels fItems fEnded fLow fRange fCache fPend fGoes fOuts fIns fReads fBad fIR fAsk fBAsk fCode fRL fRR fX fWrites 0 (nI jj)) (cwV 1 hts (my_gV k1073 k1075 ks26 k12 k1076) rfl rfl rfl cu_M_isModel_1 ⟨by rw [hR]; exact Nat.le_of_ble_eq_true rfl, by rw [hR]; exact Nat.le_of_ble_eq_true rfl⟩) (my_preV hK hN (hP.sub [0] rfl) (hD.sub [0] (by decide +kernel) rfl) 0 rfl rfl) rfl rfl hl.1 rfl (lv_room (Nat.le_of_ble_eq_true rfl)) d_M_chance_7 ⟨by rw [hR]; exact Nat.le_of_ble_eq_true rfl, by rw [hR]; exact Nat.le_of_ble_eq_true rfl⟩) hP hD hS hA [0] [1, 2, 3] rfl rfl (by decide +kernel) (by decide +kernel) (fun r_7 u9 H locs hw_7 hP hD hS => ?_)
  have hw_7 : r_7 = if 0 ≤ (nI jj) ∧ (nI jj) ≤ fModels - 1 then 1 else 0 := hw_7
  have hPD : my_PD (dC, dI) vwCl A [((g 0), Sum.inl (cI, 8, Sum.inl vMany)), ((g 1), Sum.inl (cI, 512, Sum.inl vCounts)), ((g 2), Sum.inl (cI, 512, Sum.inl vNow)), (o, Sum.inr (9, mO g 2 fShift fModels fItems fEnded fLow fRange fCache fPend fGoes fOuts fIns fReads fBad fIR fAsk fBAsk fCode fRL fRR fX fWrites 0))] H := ⟨hP, hD⟩
  have hP := hPD.1
  have hD := hPD.2
  refine lv_if_ne (tgt := 15) hx hb d_M_chance_10 (by decide) (fun c_1 => ?_) (fun c_1 => ?_)
  · refine lv_aload_n hx hb d_M_chance_15 rfl (lv_at hl 0 rfl) ?_
    refine va_get (D := (dC, dI)) (ci := 9) (v := .int 2) (C := "RangeCodersModel") (T := T_M) (N := 35) hx hb hg in_M hown hK hP 3 rfl rfl 0 (by decide) (hg _ k952) (fun _ h9 => h9) rfl d_M_chance_16 ?_
    refine lv_iconst (v := 2) hx hb d_M_chance_19 (by decide) ?_
    refine lv_icmp_ne (tgt := 40) hx hb d_M_chance_20 (by decide) (fun c_2 => ?_) (fun c_2 => ?_)
    · exact absurd rfl c_2
    · refine lv_iload_n hx hb d_M_chance_23 rfl (lv_at hl 2 rfl) ?_
      refine lv_iconst (v := 1) hx hb d_M_chance_24 (by decide) ?_
      refine lv_iconst (v := 1) hx hb d_M_chance_25 (by decide) ?_
      refine lv_aload_n hx hb d_M_chance_26 rfl (lv_at hl 0 rfl) ?_
      refine lv_iload_n hx hb d_M_chance_27 rfl (lv_at hl 1 rfl) ?_
      refine my_ci (wr := [((g 1), Sum.inl (cI, 512, Sum.inl vCounts)), ((g 2), Sum.inl (cI, 512, Sum.inl vNow))]) (va_runV (As := [Value.int (nI jj)]) (rest := [Value.int 1, Value.int 1, Value.int (nI tt)]) ⟨hx, hb, hml, hown, hts⟩ (c_M_levels l dC dI cI cM cO H.size o g 2 fShift fModels fItems fEnded fLow fRange fCache fPend fGoes fOuts fIns fReads fBad fIR fAsk fBAsk fCode fRL fRR fX fWrites 0 vMany jj (N jj) (by omega) (hn9) (hn64)) (cwV 1 hts (my_gV k1123 k1125 ks35 k12 k1126) rfl rfl rfl cu_M_levels_1 ⟨by rw [hR]; exact Nat.le_of_ble_eq_true rfl, by rw [hR]; exact Nat.le_of_ble_eq_true rfl⟩) (my_preV hK hN (hP.sub [3, 0] rfl) (hD.sub [3, 0] (by decide +kernel) rfl) 0 rfl rfl) rfl rfl hl.1 rfl (lv_room (Nat.le_of_ble_eq_true rfl)) d_M_chance_28 ⟨by rw [hR]; exact Nat.le_of_ble_eq_true rfl, by rw [hR]; exact Nat.le_of_ble_eq_true rfl⟩) hP hD hS hA [3, 0] [1, 2] rfl rfl (by decide +kernel) (by decide +kernel) (fun r_28 u9 H locs hw_28 hP hD hS => ?_)
      have hw_28 : r_28 = nI (lev (N jj)) := hw_28
      have hPD : my_PD (dC, dI) vwCl A [((g 1), Sum.inl (cI, 512, Sum.inl vCounts)), ((g 2), Sum.inl (cI, 512, Sum.inl vNow)), (o, Sum.inr (9, mO g 2 fShift fModels fItems fEnded fLow fRange fCache fPend fGoes fOuts fIns fReads fBad fIR fAsk fBAsk fCode fRL fRR fX fWrites 0)), ((g 0), Sum.inl (cI, 8, Sum.inl vMany))] H := ⟨hP, hD⟩
      have hP := hPD.1
      have hD := hPD.2
      refine lv_ishl hx hb d_M_chance_31 ?_
      refine lv_topi (fun v_3 ev_3 => ?_)
      have z9 : v_3 = nI (2 ^ lev (N jj)) := by rw [ev_3, hw_28]; exact shl1 _ (lev_30 _)
      subst z9
      refine lv_iconst (v := 1) hx hb d_M_chance_32 (by decide) ?_
      refine lv_isub hx hb d_M_chance_33 ?_
      refine lv_topi (fun v_4 ev_4 => ?_)
      have z9 : v_4 = nI (2 ^ lev (N jj) - 1) := by rw [ev_4]; exact nI_pred9 (Nat.two_pow_pos _)
      subst z9
      refine my_ci (wr := [((g 1), Sum.inl (cI, 512, Sum.inl vCounts)), ((g 2), Sum.inl (cI, 512, Sum.inl vNow)), (o, Sum.inr (9, mO g 2 fShift fModels fItems fEnded fLow fRange fCache fPend fGoes fOuts fIns fReads fBad fIR fAsk fBAsk fCode fRL fRR fX fWrites 0)), ((g 0), Sum.inl (cI, 8, Sum.inl vMany))]) (va_runS (As := [Value.int (nI tt), Value.int 1, Value.int (nI (2 ^ lev (N jj) - 1))]) (rest := []) ⟨hx, hb, hml, hown, hts⟩ (c_M_in l dC dI cI cM cO H.size (nI tt) 1 (nI (2 ^ lev (N jj) - 1))) (cwS 3 hts (my_gS k1062 k1063 k12 k1064) rfl rfl rfl (by decide +kernel) ⟨by rw [hR]; exact Nat.le_of_ble_eq_true rfl, by rw [hR]; exact Nat.le_of_ble_eq_true rfl⟩) (my_pre hK hN (hP.sub [] rfl) (hD.sub [] (by decide +kernel) rfl)) rfl rfl hl.1 rfl (lv_room (Nat.le_of_ble_eq_true rfl)) d_M_chance_34 ⟨by rw [hR]; exact Nat.le_of_ble_eq_true rfl, by rw [hR]; exact Nat.le_of_ble_eq_true rfl⟩) hP hD hS hA [] [0, 1, 2, 3] rfl rfl (by decide +kernel) (by decide +kernel) (fun r_34 u9 H locs hw_34 hP hD hS => ?_)
      have hw_34 : r_34 = if 1 ≤ (nI tt) ∧ (nI tt) ≤ (nI (2 ^ lev (N jj) - 1)) then 1 else 0 := hw_34
      have hPD : my_PD (dC, dI) vwCl A [((g 1), Sum.inl (cI, 512, Sum.inl vCounts)), ((g 2), Sum.inl (cI, 512, Sum.inl vNow)), (o, Sum.inr (9, mO g 2 fShift fModels fItems fEnded fLow fRange fCache fPend fGoes fOuts fIns fReads fBad fIR fAsk fBAsk fCode fRL fRR fX fWrites 0)), ((g 0), Sum.inl (cI, 8, Sum.inl vMany))] H := ⟨hP, hD⟩
      have hP := hPD.1
      have hD := hPD.2
      refine lv_goto (tgt := 53) hx hb d_M_chance_37 (by decide) ?_
      refine lv_istore_n (lv' := [(3, Value.int r_34), (0, Value.ref o), (1, Value.int (nI jj)), (2, Value.int (nI tt))]) hx hb d_M_chance_53 rfl hl (by decide) rfl (fun ls hl => ?_)
      refine lv_iload_n hx hb d_M_chance_54 rfl (lv_at hl 0 rfl) ?_
      refine lv_if_eq (tgt := 72) hx hb d_M_chance_55 (by decide) (fun c_5 => ?_) (fun c_5 => ?_)
      · exact absurd ⟨nI_le (a := 1) ht1 (by omega), nI_le (by omega) (by omega)⟩ (one_eq hw_34 c_5)
      · refine lv_aload_n hx hb d_M_chance_58 rfl (lv_at hl 1 rfl) ?_
        refine va_get (D := (dC, dI)) (ci := 9) (v := .ref (g 2)) (C := "RangeCodersModel") (T := T_M) (N := 35) hx hb hg in_M hown hK hP 2 rfl rfl 5 (by decide) (hg _ k957) (fun _ h9 => h9) rfl d_M_chance_59 ?_
        refine lv_bipush (v := 64) hx hb d_M_chance_62 (by decide) ?_
        refine lv_iload_n hx hb d_M_chance_64 rfl (lv_at hl 2 rfl) ?_
        refine lv_imul hx hb d_M_chance_65 ?_
        refine lv_topi (fun v_6 ev_6 => ?_)
        refine lv_iload_n hx hb d_M_chance_66 rfl (lv_at hl 3 rfl) ?_
        refine lv_iadd hx hb d_M_chance_67 ?_
        refine lv_topi (fun v_7 ev_7 => ?_)
        have hix : v_7 = nI (64 * jj + tt) := by rw [ev_7, ev_6]; exact ix64
        refine va_iald hx hb hK hP 1 0 rfl rfl (by rw [hix]; exact vp_in_nI (by omega) (by decide)) d_M_chance_68 ?_
        refine lv_topi (fun v_8 ev_8 => ?_)
        refine lv_goto (tgt := 73) hx hb d_M_chance_69 (by decide) ?_
        exact my_iret (v := v_8) hx hb hr (rfl) hlocks hQ hK hS (Nat.le_refl _) (Nat.le_refl _) () (by rw [ev_8, hix, nI_clamp (by omega)]) (hP.sub [2, 3, 0, 1] rfl) (hD.sub [2, 3, 0, 1] (by decide +kernel) rfl) d_M_chance_73
  · exact absurd (show 0 ≤ nI jj ∧ nI jj ≤ nI km - 1 from (isN_iff (by omega)).mpr ⟨jj, hj, rfl⟩) (by rw [hmod] at hw_7; exact one_eq hw_7 c_1)
end
section
set_option maxHeartbeats 2000000 in
set_option maxRecDepth 100000 in
theorem m_end0B (l : Launch) (dC : Nat → ClassId) (dI : Nat → Nat → Nat) (cI cM cO : ClassId) (sz : Nat) (o : Nat) (g : Nat → Nat) (fShift : Int32) (fModels : Int32) (fItems : Int32) (fOuts : Int32) (fIns : Int32) (fReads : Int32) (fBad : Int32) (fIR : Int32) (fAsk : Int32) (fBAsk : Int32) (fCode : Int64) (fRL : Int64) (fRR : Int64) (fX : Int64) (fWrites : Int32) (fThrown : Int32) (vGoing : Nat → Int32) (vOut : Nat → Int32) (Rg : Nat) (L : Nat) (ca : Option Nat) (Pn : Nat) (bs : List Nat) (hE : eOk (Rg, L, ca, Pn, bs)) (hG : gIs vGoing bs) (hN9 : bs.length + Pn ≤ 8000) : MetI l y_M_end (Cond.code y_M_end prog_14_method_31_code 2 (some .int) :: gw) ({ frames := 2, cells := 0, slots := 0, locals := 42 } : Room) (dC, dI) vwCl (kT cI cM cO) [Value.ref o] [(o, Sum.inr (9, mO g 0 fShift fModels fItems 0 (lN L) (lN Rg) (caI ca) (nI Pn) (nI bs.length) fOuts fIns fReads fBad fIR fAsk fBAsk fCode fRL fRR fX fWrites fThrown)), ((g 6), Sum.inl (cI, 9000, Sum.inl vGoing)), ((g 7), Sum.inl (cI, 9000, Sum.inl vOut))] sz (fun (r : Int32) (u : (Nat → Int32) × (Nat → Int32) × Int64 × Int64 × Int32 × Int32 × Int32 × Int32) => r = nI (eB (shK 5 (Rg, L, ca, Pn, bs))).length ∧ u.2.2.2.2.2.2.2 = nI (eB (shK 5 (Rg, L, ca, Pn, bs))).length ∧ gIs u.2.1 (eB (shK 5 (Rg, L, ca, Pn, bs)))) (fun (u : (Nat → Int32) × (Nat → Int32) × Int64 × Int64 × Int32 × Int32 × Int32 × Int32) => [(o, Sum.inr (9, mO g 0 fShift fModels fItems 1 u.2.2.1 u.2.2.2.1 u.2.2.2.2.1 u.2.2.2.2.2.1 u.2.2.2.2.2.2.1 u.2.2.2.2.2.2.2 fIns fReads fBad fIR fAsk fBAsk fCode fRL fRR fX fWrites 0)), ((g 6), Sum.inl (cI, 9000, Sum.inl u.1)), ((g 7), Sum.inl (cI, 9000, Sum.inl u.2.1))]) 0 0 := by
  refine my_ofI (cc := prog_14_method_31_code) (n := 2) (ret := (some .int)) (by decide) rfl (Nat.le_of_ble_eq_true rfl) ?_
  intro p e s m args below meth c R Q A ls H locs hx hb hr hts hown hlocks hml hnm hR hQ hA hl hP hK hN hD hS
  have hg : ∀ w ∈ gw, w.before args s = true := fun w h => hts w (List.mem_cons_of_mem _ h)
  have hown : s.vm.findClass "RangeCodersModel" = some m.cls := hown
  have hl : lv_has ls 2 [(0, Value.ref o)] := hl
  refine lv_aload_n hx hb d_M_end_0 rfl (lv_at hl 0 rfl) ?_
  refine lv_iconst (v := 0) hx hb d_M_end_1 (by decide) ?_
  refine va_put (D := (dC, dI)) (ci := 9) (v := .int 0) (ty := .int) (C := "RangeCodersModel") (T := T_M) (N := 35) hx hb hg in_M t_M o_M n_M hown hK hP hD hS 0 rfl rfl 34 (by decide) (hg _ k986) (fun _ h9 => h9) rfl (o_M 34 (by decide)) rfl rfl (Nat.le_of_ble_eq_true rfl) d_M_end_2 (fun H locs hP hD hS => ?_)
  have hPD : my_PD (dC, dI) vwCl A [(o, Sum.inr (9, mO g 0 fShift fModels fItems 0 (lN L) (lN Rg) (caI ca) (nI Pn) (nI bs.length) fOuts fIns fReads fBad fIR fAsk fBAsk fCode fRL fRR fX fWrites 0)), ((g 6), Sum.inl (cI, 9000, Sum.inl vGoing)), ((g 7), Sum.inl (cI, 9000, Sum.inl vOut))] H := ⟨hP, hD⟩
  have hP := hPD.1
  have hD := hPD.2
  refine lv_aload_n hx hb d_M_end_5 rfl (lv_at hl 0 rfl) ?_
  refine va_get (D := (dC, dI)) (ci := 9) (v := .int 0) (C := "RangeCodersModel") (T := T_M) (N := 35) hx hb hg in_M hown hK hP 0 rfl rfl 10 (by decide) (hg _ k962) (fun _ h9 => h9) rfl d_M_end_6 ?_
  refine lv_if_eq (tgt := 15) hx hb d_M_end_9 (by decide) (fun c_1 => ?_) (fun c_1 => ?_)
  · refine lv_aload_n hx hb d_M_end_15 rfl (lv_at hl 0 rfl) ?_
    refine lv_iconst (v := 1) hx hb d_M_end_16 (by decide) ?_
    refine va_put (D := (dC, dI)) (ci := 9) (v := .int 1) (ty := .boolean) (C := "RangeCodersModel") (T := T_M) (N := 35) hx hb hg in_M t_M o_M n_M hown hK hP hD hS 0 rfl rfl 10 (by decide) (hg _ k962) (fun _ h9 => h9) rfl (o_M 10 (by decide)) rfl rfl (Nat.le_of_ble_eq_true rfl) d_M_end_17 (fun H locs hP hD hS => ?_)
    have hPD : my_PD (dC, dI) vwCl A [(o, Sum.inr (9, mO g 0 fShift fModels fItems 1 (lN L) (lN Rg) (caI ca) (nI Pn) (nI bs.length) fOuts fIns fReads fBad fIR fAsk fBAsk fCode fRL fRR fX fWrites 0)), ((g 6), Sum.inl (cI, 9000, Sum.inl vGoing)), ((g 7), Sum.inl (cI, 9000, Sum.inl vOut))] H := ⟨hP, hD⟩
    have hP := hPD.1
    have hD := hPD.2
    refine lv_aload_n hx hb d_M_end_20 rfl (lv_at hl 0 rfl) ?_
    refine va_get (D := (dC, dI)) (ci := 9) (v := .int 0) (C := "RangeCodersModel") (T := T_M) (N := 35) hx hb hg in_M hown hK hP 0 rfl rfl 0 (by decide) (hg _ k952) (fun _ h9 => h9) rfl d_M_end_21 ?_
    refine lv_if_eq (tgt := 35) hx hb d_M_end_24 (by decide) (fun c_2 => ?_) (fun c_2 => ?_)
    · refine lv_iconst (v := 0) hx hb d_M_end_35 (by decide) ?_
      refine lv_istore_n (lv' := [(1, Value.int 0), (0, Value.ref o)]) hx hb d_M_end_36 rfl hl (by decide) rfl (fun ls hl => ?_)
      have J_37 : ∀ (n9_37 : Nat) (jj : Nat) (e9 : ES) (fG : Nat → Int32) (hn9_37 : 5 - jj = n9_37) (hjj : jj ≤ 5) (hE9 : shK 5 (Rg, L, ca, Pn, bs) = shK (5 - jj) e9) (he9 : eOk e9) (hG9 : gIs fG (eB e9)) (hN8 : eN e9 ≤ 8001 + jj) (H : Heap) (locs : List Loc) (ls : Array Slot), va_P (dC, dI) vwCl [(o, Sum.inr (9, mO g 0 fShift fModels fItems 1 (lN (eL e9)) (lN (eR e9)) (caI (eC e9)) (nI (eP e9)) (nI (eB e9).length) fOuts fIns fReads fBad fIR fAsk fBAsk fCode fRL fRR fX fWrites 0)), ((g 6), Sum.inl (cI, 9000, Sum.inl fG)), ((g 7), Sum.inl (cI, 9000, Sum.inl vOut))] H → va_D A [(o, Sum.inr (9, mO g 0 fShift fModels fItems 1 (lN (eL e9)) (lN (eR e9)) (caI (eC e9)) (nI (eP e9)) (nI (eB e9).length) fOuts fIns fReads fBad fIR fAsk fBAsk fCode fRL fRR fX fWrites 0)), ((g 6), Sum.inl (cI, 9000, Sum.inl fG)), ((g 7), Sum.inl (cI, 9000, Sum.inl vOut))] → va_S A s.heap H locs → lv_has ls 2 [(1, Value.int (nI jj)), (0, Value.ref o)] → W p l e R s m args below meth c H locs 0 0 Q (F0 m 37 ls []) := by
        intro n9_37
        induction n9_37 using Nat.strongRecOn with
        | ind n9_37 ih9_37 =>
          intro jj e9 fG hn9_37 hjj hE9 he9 hG9 hN8 H locs ls hP hD hS hl
          refine lv_iload_n hx hb d_M_end_37 rfl (lv_at hl 0 rfl) ?_
          refine lv_iconst (v := 5) hx hb d_M_end_38 (by decide) ?_
          refine lv_icmp_ge (tgt := 52) hx hb d_M_end_39 (by decide) (fun c_3 => ?_) (fun c_3 => ?_)
          · refine lv_goto (tgt := 125) hx hb d_M_end_52 (by decide) ?_
            have hl9 : (eB e9).length ≤ 8006 := by unfold eN at hN8; omega
            have hj5 : jj = 5 := by have := nI_ge' (n := 5) (by omega) (by decide) c_3; omega
            have hB9 : eB (shK 5 (Rg, L, ca, Pn, bs)) = eB e9 := by rw [hE9, hj5]; rfl
            refine lv_aload_n hx hb d_M_end_125 rfl (lv_at hl 1 rfl) ?_
            refine lv_aload_n hx hb d_M_end_126 rfl (lv_at hl 1 rfl) ?_
            refine va_get (D := (dC, dI)) (ci := 9) (v := .int (nI (eB e9).length)) (C := "RangeCodersModel") (T := T_M) (N := 35) hx hb hg in_M hown hK hP 0 rfl rfl 16 (by decide) (hg _ k968) (fun _ h9 => h9) rfl d_M_end_127 ?_
            refine va_put (D := (dC, dI)) (ci := 9) (v := .int (nI (eB e9).length)) (ty := .int) (C := "RangeCodersModel") (T := T_M) (N := 35) hx hb hg in_M t_M o_M n_M hown hK hP hD hS 0 rfl rfl 18 (by decide) (hg _ k970) (fun _ h9 => h9) rfl (o_M 18 (by decide)) rfl rfl (Nat.le_of_ble_eq_true rfl) d_M_end_130 (fun H locs hP hD hS => ?_)
            have hPD : my_PD (dC, dI) vwCl A [(o, Sum.inr (9, mO g 0 fShift fModels fItems 1 (lN (eL e9)) (lN (eR e9)) (caI (eC e9)) (nI (eP e9)) (nI (eB e9).length) (nI (eB e9).length) fIns fReads fBad fIR fAsk fBAsk fCode fRL fRR fX fWrites 0)), ((g 6), Sum.inl (cI, 9000, Sum.inl fG)), ((g 7), Sum.inl (cI, 9000, Sum.inl vOut))] H := ⟨hP, hD⟩
            have hP := hPD.1
            have hD := hPD.2
            refine lv_iconst (v := 0) hx hb d_M_end_133 (by decide) ?_
            refine lv_istore_n (lv' := [(1, Value.int 0), (0, Value.ref o)]) hx hb d_M_end_134 rfl hl (by decide) rfl (fun ls hl => ?_)
            have J_135 : ∀ (n9_135 : Nat) (kk : Nat) (fO : Nat → Int32) (hn9_135 : (eB e9).length - kk = n9_135) (hkk : kk ≤ (eB e9).length) (hc : ∀ i, i < kk → fO i = fG i) (H : Heap) (locs : List Loc) (ls : Array Slot), va_P (dC, dI) vwCl [(o, Sum.inr (9, mO g 0 fShift fModels fItems 1 (lN (eL e9)) (lN (eR e9)) (caI (eC e9)) (nI (eP e9)) (nI (eB e9).length) (nI (eB e9).length) fIns fReads fBad fIR fAsk fBAsk fCode fRL fRR fX fWrites 0)), ((g 6), Sum.inl (cI, 9000, Sum.inl fG)), ((g 7), Sum.inl (cI, 9000, Sum.inl fO))] H → va_D A [(o, Sum.inr (9, mO g 0 fShift fModels fItems 1 (lN (eL e9)) (lN (eR e9)) (caI (eC e9)) (nI (eP e9)) (nI (eB e9).length) (nI (eB e9).length) fIns fReads fBad fIR fAsk fBAsk fCode fRL fRR fX fWrites 0)), ((g 6), Sum.inl (cI, 9000, Sum.inl fG)), ((g 7), Sum.inl (cI, 9000, Sum.inl fO))] → va_S A s.heap H locs → lv_has ls 2 [(1, Value.int (nI kk)), (0, Value.ref o)] → W p l e R s m args below meth c H locs 0 0 Q (F0 m 135 ls []) := by
              intro n9_135
              induction n9_135 using Nat.strongRecOn with
              | ind n9_135 ih9_135 =>
                intro kk fO hn9_135 hkk hc H locs ls hP hD hS hl
                refine lv_iload_n hx hb d_M_end_135 rfl (lv_at hl 0 rfl) ?_
                refine lv_aload_n hx hb d_M_end_136 rfl (lv_at hl 1 rfl) ?_
                refine va_get (D := (dC, dI)) (ci := 9) (v := .int (nI (eB e9).length)) (C := "RangeCodersModel") (T := T_M) (N := 35) hx hb hg in_M hown hK hP 0 rfl rfl 16 (by decide) (hg _ k968) (fun _ h9 => h9) rfl d_M_end_137 ?_
                refine lv_icmp_ge (tgt := 161) hx hb d_M_end_140 (by decide) (fun c_4 => ?_) (fun c_4 => ?_)
                · have hkn : kk = (eB e9).length := by have := (nI_cmp (a := (eB e9).length) (b := kk) (by omega) (by omega)).mp c_4; omega
                  subst hkn
                  refine lv_aload_n hx hb d_M_end_161 rfl (lv_at hl 1 rfl) ?_
                  refine va_get (D := (dC, dI)) (ci := 9) (v := .int (nI (eB e9).length)) (C := "RangeCodersModel") (T := T_M) (N := 35) hx hb hg in_M hown hK hP 0 rfl rfl 18 (by decide) (hg _ k970) (fun _ h9 => h9) rfl d_M_end_162 ?_
                  exact my_iret (v := nI (eB e9).length) hx hb hr (rfl) hlocks hQ hK hS (Nat.le_refl _) (Nat.le_refl _) (fG, fO, lN (eL e9), lN (eR e9), caI (eC e9), nI (eP e9), nI (eB e9).length, nI (eB e9).length) (⟨by rw [hB9], by rw [hB9], by rw [hB9]; exact gIs_cp hG9 hc⟩) (hP.sub [0, 1, 2] rfl) (hD.sub [0, 1, 2] (by decide +kernel) rfl) d_M_end_165
                · have hkl : kk < (eB e9).length := by
                    rcases Nat.lt_or_ge kk (eB e9).length with z | z
                    · exact z
                    · exact absurd (nI_le z (by omega)) c_4
                  refine lv_aload_n hx hb d_M_end_143 rfl (lv_at hl 1 rfl) ?_
                  refine va_get (D := (dC, dI)) (ci := 9) (v := .ref (g 7)) (C := "RangeCodersModel") (T := T_M) (N := 35) hx hb hg in_M hown hK hP 0 rfl rfl 17 (by decide) (hg _ k969) (fun _ h9 => h9) rfl d_M_end_144 ?_
                  refine lv_iload_n hx hb d_M_end_147 rfl (lv_at hl 0 rfl) ?_
                  refine lv_aload_n hx hb d_M_end_148 rfl (lv_at hl 1 rfl) ?_
                  refine va_get (D := (dC, dI)) (ci := 9) (v := .ref (g 6)) (C := "RangeCodersModel") (T := T_M) (N := 35) hx hb hg in_M hown hK hP 0 rfl rfl 15 (by decide) (hg _ k967) (fun _ h9 => h9) rfl d_M_end_149 ?_
                  refine lv_iload_n hx hb d_M_end_152 rfl (lv_at hl 0 rfl) ?_
                  refine va_iald hx hb hK hP 1 0 rfl rfl (vp_in_nI (by omega) (by decide)) d_M_end_153 ?_
                  refine lv_topi (fun v_5 ev_5 => ?_)
                  refine va_iast hx hb hK hP hD hS 2 0 rfl rfl (vp_in_nI (by omega) (by decide)) d_M_end_154 (fun H locs hP hD hS => ?_)
                  have hPD : my_PD (dC, dI) vwCl A [(o, Sum.inr (9, mO g 0 fShift fModels fItems 1 (lN (eL e9)) (lN (eR e9)) (caI (eC e9)) (nI (eP e9)) (nI (eB e9).length) (nI (eB e9).length) fIns fReads fBad fIR fAsk fBAsk fCode fRL fRR fX fWrites 0)), ((g 6), Sum.inl (cI, 9000, Sum.inl fG)), ((g 7), Sum.inl (cI, 9000, Sum.inl (upd fO (nI kk).toNatClampNeg v_5)))] H := ⟨hP, hD⟩
                  have hP := hPD.1
                  have hD := hPD.2
                  have hc8 : ∀ i, i < kk + 1 → (upd fO (nI kk).toNatClampNeg v_5) i = fG i := cp_st hc (nI_clamp (by omega)) (by rw [ev_5, nI_clamp (by omega)])
                  obtain ⟨v_6, ev_6⟩ : ∃ y : Int32, y = (nI kk) + (1) := ⟨_, rfl⟩
                  refine lv_iinc (v := v_6) (lv' := [(1, Value.int v_6), (0, Value.ref o)]) hx hb d_M_end_155 hl (k := 0) rfl (by rw [ev_6]; rfl) (by decide) rfl (fun ls hl => ?_)
                  have z9 : v_6 = nI (kk + 1) := by rw [ev_6]; exact nI_1 _
                  subst z9
                  refine lv_goto (tgt := 135) hx hb d_M_end_158 (by decide) ?_
                  exact ih9_135 _ (by first | omega | (omega)) (kk + 1) (upd fO (nI kk).toNatClampNeg v_5) rfl (by omega) (hc8) H locs ls (hP.sub [0, 1, 2] rfl) (hD.sub [0, 1, 2] (by decide +kernel) rfl) hS (lv_sub hl [0, 1] rfl)
            exact J_135 _ (0 : Nat) vOut rfl (Nat.zero_le _) (fun _ z => absurd z (Nat.not_lt_zero _)) H locs ls (hP.sub [0, 1, 2] rfl) (hD.sub [0, 1, 2] (by decide +kernel) rfl) hS (lv_sub hl [0, 1] rfl)
          · have hjl : jj < 5 := by
              rcases Nat.lt_or_ge jj 5 with z | z
              · exact z
              · exact absurd (nI_le (a := 5) z (by omega)) c_3
            have hl9 : (eB e9).length + eP e9 + 1 ≤ 8001 + jj := hN8
            refine lv_aload_n hx hb d_M_end_42 rfl (lv_at hl 1 rfl) ?_
            refine my_cv (wr := [((g 7), Sum.inl (cI, 9000, Sum.inl vOut))]) (va_runV (As := []) (rest := []) ⟨hx, hb, hml, hown, hts⟩ (c_M_shifted l dC dI cI cM cO H.size o g 0 fShift fModels fItems 1 fOuts fIns fReads fBad fIR fAsk fBAsk fCode fRL fRR fX fWrites 0 fG (eR e9) (eL e9) (eC e9) (eP e9) (eB e9) (he9.1) (he9.2) (hG9) (by omega)) (cwV 0 hts (my_gV k1102 k1104 ks31 k12 k1105) rfl rfl rfl cu_M_shifted_0 ⟨by rw [hR]; exact Nat.le_of_ble_eq_true rfl, by rw [hR]; exact Nat.le_of_ble_eq_true rfl⟩) (my_preV hK hN (hP.sub [0, 1] rfl) (hD.sub [0, 1] (by decide +kernel) rfl) 0 rfl rfl) rfl rfl hl.1 rfl (lv_room (Nat.le_of_ble_eq_true rfl)) d_M_end_43 ⟨by rw [hR]; exact Nat.le_of_ble_eq_true rfl, by rw [hR]; exact Nat.le_of_ble_eq_true rfl⟩) hP hD hS hA [0, 1] [2] rfl rfl (by decide +kernel) (by decide +kernel) (fun u9 H locs hw_43 hP hD hS => ?_)
            obtain ⟨v2_43, rfl⟩ : ∃ z, z = u9 := ⟨_, rfl⟩
            have hw_43 : gIs v2_43 (shB (eL e9) (eC e9) (eP e9) (eB e9)) := hw_43
            have hPD : my_PD (dC, dI) vwCl A [((g 7), Sum.inl (cI, 9000, Sum.inl vOut)), (o, Sum.inr (9, mO g 0 fShift fModels fItems 1 (lN (shL (eL e9))) (lN (eR e9)) (caI (shC (eL e9) (eC e9))) (nI (shP (eL e9) (eP e9))) (nI (shB (eL e9) (eC e9) (eP e9) (eB e9)).length) fOuts fIns fReads fBad fIR fAsk fBAsk fCode fRL fRR fX fWrites 0)), ((g 6), Sum.inl (cI, 9000, Sum.inl v2_43))] H := ⟨hP, hD⟩
            have hP := hPD.1
            have hD := hPD.2
            obtain ⟨v_7, ev_7⟩ : ∃ y : Int32, y = (nI jj) + (1) := ⟨_, rfl⟩
            refine lv_iinc (v := v_7) (lv' := [(1, Value.int v_7), (0, Value.ref o)]) hx hb d_M_end_46 hl (k := 0) rfl (by rw [ev_7]; rfl) (by decide) rfl (fun ls hl => ?_)
            have z9 : v_7 = nI (jj + 1) := by rw [ev_7]; exact nI_1 _
            subst z9
            refine lv_goto (tgt := 37) hx hb d_M_end_49 (by decide) ?_
            exact ih9_37 _ (by first | omega | (omega)) (jj + 1) (shS e9) v2_43 rfl (by omega) (by rw [hE9, show 5 - jj = (5 - (jj + 1)) + 1 by omega]; rfl) (eOk_sh he9) (hw_43) (Nat.le_trans (eN_sh e9) (by omega)) H locs ls (hP.sub [1, 2, 0] rfl) (hD.sub [1, 2, 0] (by decide +kernel) rfl) hS (lv_sub hl [0, 1] rfl)
      exact J_37 _ (0 : Nat) (Rg, L, ca, Pn, bs) vGoing rfl (by decide) (rfl) (hE) (hG) (show bs.length + Pn + 1 ≤ 8001 + 0 by omega) H locs ls (hP.sub [0, 1, 2] rfl) (hD.sub [0, 1, 2] (by decide +kernel) rfl) hS (lv_sub hl [0, 1] rfl)
    · exact absurd (by decide) c_2
  · exact absurd (by decide) c_1
set_option maxHeartbeats 2000000 in
set_option maxRecDepth 100000 in
theorem m_end2B (l : Launch) (dC : Nat → ClassId) (dI : Nat → Nat → Nat) (cI cM cO : ClassId) (sz : Nat) (o : Nat) (g : Nat → Nat) (fShift : Int32) (fModels : Int32) (fItems : Int32) (fOuts : Int32) (fIns : Int32) (fReads : Int32) (fBad : Int32) (fIR : Int32) (fAsk : Int32) (fBAsk : Int32) (fCode : Int64) (fRL : Int64) (fRR : Int64) (fX : Int64) (fWrites : Int32) (fThrown : Int32) (vGoing : Nat → Int32) (vOut : Nat → Int32) (Rg : Nat) (L : Nat) (ca : Option Nat) (Pn : Nat) (bs : List Nat) (hE : eOk (Rg, L, ca, Pn, bs)) (hG : gIs vGoing bs) (hN9 : bs.length + Pn ≤ 8000) : MetI l y_M_end (Cond.code y_M_end prog_14_method_31_code 2 (some .int) :: gw) ({ frames := 2, cells := 0, slots := 0, locals := 42 } : Room) (dC, dI) vwCl (kT cI cM cO) [Value.ref o] [(o, Sum.inr (9, mO g 2 fShift fModels fItems 0 (lN L) (lN Rg) (caI ca) (nI Pn) (nI bs.length) fOuts fIns fReads fBad fIR fAsk fBAsk fCode fRL fRR fX fWrites fThrown)), ((g 6), Sum.inl (cI, 9000, Sum.inl vGoing)), ((g 7), Sum.inl (cI, 9000, Sum.inl vOut))] sz (fun (r : Int32) (u : (Nat → Int32) × (Nat → Int32) × Int64 × Int64 × Int32 × Int32 × Int32 × Int32) => r = nI (eB (shK 5 (Rg, L, ca, Pn, bs))).length ∧ u.2.2.2.2.2.2.2 = nI (eB (shK 5 (Rg, L, ca, Pn, bs))).length ∧ gIs u.2.1 (eB (shK 5 (Rg, L, ca, Pn, bs)))) (fun (u : (Nat → Int32) × (Nat → Int32) × Int64 × Int64 × Int32 × Int32 × Int32 × Int32) => [(o, Sum.inr (9, mO g 2 fShift fModels fItems 1 u.2.2.1 u.2.2.2.1 u.2.2.2.2.1 u.2.2.2.2.2.1 u.2.2.2.2.2.2.1 u.2.2.2.2.2.2.2 fIns fReads fBad fIR fAsk fBAsk fCode fRL fRR fX fWrites 0)), ((g 6), Sum.inl (cI, 9000, Sum.inl u.1)), ((g 7), Sum.inl (cI, 9000, Sum.inl u.2.1))]) 0 0 := by
  refine my_ofI (cc := prog_14_method_31_code) (n := 2) (ret := (some .int)) (by decide) rfl (Nat.le_of_ble_eq_true rfl) ?_
  intro p e s m args below meth c R Q A ls H locs hx hb hr hts hown hlocks hml hnm hR hQ hA hl hP hK hN hD hS
  have hg : ∀ w ∈ gw, w.before args s = true := fun w h => hts w (List.mem_cons_of_mem _ h)
  have hown : s.vm.findClass "RangeCodersModel" = some m.cls := hown
  have hl : lv_has ls 2 [(0, Value.ref o)] := hl
  refine lv_aload_n hx hb d_M_end_0 rfl (lv_at hl 0 rfl) ?_
  refine lv_iconst (v := 0) hx hb d_M_end_1 (by decide) ?_
  refine va_put (D := (dC, dI)) (ci := 9) (v := .int 0) (ty := .int) (C := "RangeCodersModel") (T := T_M) (N := 35) hx hb hg in_M t_M o_M n_M hown hK hP hD hS 0 rfl rfl 34 (by decide) (hg _ k986) (fun _ h9 => h9) rfl (o_M 34 (by decide)) rfl rfl (Nat.le_of_ble_eq_true rfl) d_M_end_2 (fun H locs hP hD hS => ?_)
  have hPD : my_PD (dC, dI) vwCl A [(o, Sum.inr (9, mO g 2 fShift fModels fItems 0 (lN L) (lN Rg) (caI ca) (nI Pn) (nI bs.length) fOuts fIns fReads fBad fIR fAsk fBAsk fCode fRL fRR fX fWrites 0)), ((g 6), Sum.inl (cI, 9000, Sum.inl vGoing)), ((g 7), Sum.inl (cI, 9000, Sum.inl vOut))] H := ⟨hP, hD⟩
  have hP := hPD.1
  have hD := hPD.2
  refine lv_aload_n hx hb d_M_end_5 rfl (lv_at hl 0 rfl) ?_
  refine va_get (D := (dC, dI)) (ci := 9) (v := .int 0) (C := "RangeCodersModel") (T := T_M) (N := 35) hx hb hg in_M hown hK hP 0 rfl rfl 10 (by decide) (hg _ k962) (fun _ h9 => h9) rfl d_M_end_6 ?_
  refine lv_if_eq (tgt := 15) hx hb d_M_end_9 (by decide) (fun c_1 => ?_) (fun c_1 => ?_)
  · refine lv_aload_n hx hb d_M_end_15 rfl (lv_at hl 0 rfl) ?_
    refine lv_iconst (v := 1) hx hb d_M_end_16 (by decide) ?_
    refine va_put (D := (dC, dI)) (ci := 9) (v := .int 1) (ty := .boolean) (C := "RangeCodersModel") (T := T_M) (N := 35) hx hb hg in_M t_M o_M n_M hown hK hP hD hS 0 rfl rfl 10 (by decide) (hg _ k962) (fun _ h9 => h9) rfl (o_M 10 (by decide)) rfl rfl (Nat.le_of_ble_eq_true rfl) d_M_end_17 (fun H locs hP hD hS => ?_)
    have hPD : my_PD (dC, dI) vwCl A [(o, Sum.inr (9, mO g 2 fShift fModels fItems 1 (lN L) (lN Rg) (caI ca) (nI Pn) (nI bs.length) fOuts fIns fReads fBad fIR fAsk fBAsk fCode fRL fRR fX fWrites 0)), ((g 6), Sum.inl (cI, 9000, Sum.inl vGoing)), ((g 7), Sum.inl (cI, 9000, Sum.inl vOut))] H := ⟨hP, hD⟩
    have hP := hPD.1
    have hD := hPD.2
    refine lv_aload_n hx hb d_M_end_20 rfl (lv_at hl 0 rfl) ?_
    refine va_get (D := (dC, dI)) (ci := 9) (v := .int 2) (C := "RangeCodersModel") (T := T_M) (N := 35) hx hb hg in_M hown hK hP 0 rfl rfl 0 (by decide) (hg _ k952) (fun _ h9 => h9) rfl d_M_end_21 ?_
    refine lv_if_eq (tgt := 35) hx hb d_M_end_24 (by decide) (fun c_2 => ?_) (fun c_2 => ?_)
    · exact absurd c_2 (by decide)
    · refine lv_aload_n hx hb d_M_end_27 rfl (lv_at hl 0 rfl) ?_
      refine va_get (D := (dC, dI)) (ci := 9) (v := .int 2) (C := "RangeCodersModel") (T := T_M) (N := 35) hx hb hg in_M hown hK hP 0 rfl rfl 0 (by decide) (hg _ k952) (fun _ h9 => h9) rfl d_M_end_28 ?_
      refine lv_iconst (v := 2) hx hb d_M_end_31 (by decide) ?_
      refine lv_icmp_ne (tgt := 55) hx hb d_M_end_32 (by decide) (fun c_3 => ?_) (fun c_3 => ?_)
      · exact absurd rfl c_3
      · refine lv_iconst (v := 0) hx hb d_M_end_35 (by decide) ?_
        refine lv_istore_n (lv' := [(1, Value.int 0), (0, Value.ref o)]) hx hb d_M_end_36 rfl hl (by decide) rfl (fun ls hl => ?_)
        have J_37 : ∀ (n9_37 : Nat) (jj : Nat) (e9 : ES) (fG : Nat → Int32) (hn9_37 : 5 - jj = n9_37) (hjj : jj ≤ 5) (hE9 : shK 5 (Rg, L, ca, Pn, bs) = shK (5 - jj) e9) (he9 : eOk e9) (hG9 : gIs fG (eB e9)) (hN8 : eN e9 ≤ 8001 + jj) (H : Heap) (locs : List Loc) (ls : Array Slot), va_P (dC, dI) vwCl [(o, Sum.inr (9, mO g 2 fShift fModels fItems 1 (lN (eL e9)) (lN (eR e9)) (caI (eC e9)) (nI (eP e9)) (nI (eB e9).length) fOuts fIns fReads fBad fIR fAsk fBAsk fCode fRL fRR fX fWrites 0)), ((g 6), Sum.inl (cI, 9000, Sum.inl fG)), ((g 7), Sum.inl (cI, 9000, Sum.inl vOut))] H → va_D A [(o, Sum.inr (9, mO g 2 fShift fModels fItems 1 (lN (eL e9)) (lN (eR e9)) (caI (eC e9)) (nI (eP e9)) (nI (eB e9).length) fOuts fIns fReads fBad fIR fAsk fBAsk fCode fRL fRR fX fWrites 0)), ((g 6), Sum.inl (cI, 9000, Sum.inl fG)), ((g 7), Sum.inl (cI, 9000, Sum.inl vOut))] → va_S A s.heap H locs → lv_has ls 2 [(1, Value.int (nI jj)), (0, Value.ref o)] → W p l e R s m args below meth c H locs 0 0 Q (F0 m 37 ls []) := by
          intro n9_37
          induction n9_37 using Nat.strongRecOn with
          | ind n9_37 ih9_37 =>
            intro jj e9 fG hn9_37 hjj hE9 he9 hG9 hN8 H locs ls hP hD hS hl
            refine lv_iload_n hx hb d_M_end_37 rfl (lv_at hl 0 rfl) ?_
            refine lv_iconst (v := 5) hx hb d_M_end_38 (by decide) ?_
            refine lv_icmp_ge (tgt := 52) hx hb d_M_end_39 (by decide) (fun c_4 => ?_) (fun c_4 => ?_)
            · refine lv_goto (tgt := 125) hx hb d_M_end_52 (by decide) ?_
              have hl9 : (eB e9).length ≤ 8006 := by unfold eN at hN8; omega
              have hj5 : jj = 5 := by have := nI_ge' (n := 5) (by omega) (by decide) c_4; omega
              have hB9 : eB (shK 5 (Rg, L, ca, Pn, bs)) = eB e9 := by rw [hE9, hj5]; rfl
              refine lv_aload_n hx hb d_M_end_125 rfl (lv_at hl 1 rfl) ?_
              refine lv_aload_n hx hb d_M_end_126 rfl (lv_at hl 1 rfl) ?_
              refine va_get (D := (dC, dI)) (ci := 9) (v := .int (nI (eB e9).length)) (C := "RangeCodersModel") (T := T_M) (N := 35) hx hb hg in_M hown hK hP 0 rfl rfl 16 (by decide) (hg _ k968) (fun _ h9 => h9) rfl d_M_end_127 ?_
              refine va_put (D := (dC, dI)) (ci := 9) (v := .int (nI (eB e9).length)) (ty := .int) (C := "RangeCodersModel") (T := T_M) (N := 35) hx hb hg in_M t_M o_M n_M hown hK hP hD hS 0 rfl rfl 18 (by decide) (hg _ k970) (fun _ h9 => h9) rfl (o_M 18 (by decide)) rfl rfl (Nat.le_of_ble_eq_true rfl) d_M_end_130 (fun H locs hP hD hS => ?_)
              have hPD : my_PD (dC, dI) vwCl A [(o, Sum.inr (9, mO g 2 fShift fModels fItems 1 (lN (eL e9)) (lN (eR e9)) (caI (eC e9)) (nI (eP e9)) (nI (eB e9).length) (nI (eB e9).length) fIns fReads fBad fIR fAsk fBAsk fCode fRL fRR fX fWrites 0)), ((g 6), Sum.inl (cI, 9000, Sum.inl fG)), ((g 7), Sum.inl (cI, 9000, Sum.inl vOut))] H := ⟨hP, hD⟩
              have hP := hPD.1
              have hD := hPD.2
              refine lv_iconst (v := 0) hx hb d_M_end_133 (by decide) ?_
              refine lv_istore_n (lv' := [(1, Value.int 0), (0, Value.ref o)]) hx hb d_M_end_134 rfl hl (by decide) rfl (fun ls hl => ?_)
              have J_135 : ∀ (n9_135 : Nat) (kk : Nat) (fO : Nat → Int32) (hn9_135 : (eB e9).length - kk = n9_135) (hkk : kk ≤ (eB e9).length) (hc : ∀ i, i < kk → fO i = fG i) (H : Heap) (locs : List Loc) (ls : Array Slot), va_P (dC, dI) vwCl [(o, Sum.inr (9, mO g 2 fShift fModels fItems 1 (lN (eL e9)) (lN (eR e9)) (caI (eC e9)) (nI (eP e9)) (nI (eB e9).length) (nI (eB e9).length) fIns fReads fBad fIR fAsk fBAsk fCode fRL fRR fX fWrites 0)), ((g 6), Sum.inl (cI, 9000, Sum.inl fG)), ((g 7), Sum.inl (cI, 9000, Sum.inl fO))] H → va_D A [(o, Sum.inr (9, mO g 2 fShift fModels fItems 1 (lN (eL e9)) (lN (eR e9)) (caI (eC e9)) (nI (eP e9)) (nI (eB e9).length) (nI (eB e9).length) fIns fReads fBad fIR fAsk fBAsk fCode fRL fRR fX fWrites 0)), ((g 6), Sum.inl (cI, 9000, Sum.inl fG)), ((g 7), Sum.inl (cI, 9000, Sum.inl fO))] → va_S A s.heap H locs → lv_has ls 2 [(1, Value.int (nI kk)), (0, Value.ref o)] → W p l e R s m args below meth c H locs 0 0 Q (F0 m 135 ls []) := by
                intro n9_135
                induction n9_135 using Nat.strongRecOn with
                | ind n9_135 ih9_135 =>
                  intro kk fO hn9_135 hkk hc H locs ls hP hD hS hl
                  refine lv_iload_n hx hb d_M_end_135 rfl (lv_at hl 0 rfl) ?_
                  refine lv_aload_n hx hb d_M_end_136 rfl (lv_at hl 1 rfl) ?_
                  refine va_get (D := (dC, dI)) (ci := 9) (v := .int (nI (eB e9).length)) (C := "RangeCodersModel") (T := T_M) (N := 35) hx hb hg in_M hown hK hP 0 rfl rfl 16 (by decide) (hg _ k968) (fun _ h9 => h9) rfl d_M_end_137 ?_
                  refine lv_icmp_ge (tgt := 161) hx hb d_M_end_140 (by decide) (fun c_5 => ?_) (fun c_5 => ?_)
                  · have hkn : kk = (eB e9).length := by have := (nI_cmp (a := (eB e9).length) (b := kk) (by omega) (by omega)).mp c_5; omega
                    subst hkn
                    refine lv_aload_n hx hb d_M_end_161 rfl (lv_at hl 1 rfl) ?_
                    refine va_get (D := (dC, dI)) (ci := 9) (v := .int (nI (eB e9).length)) (C := "RangeCodersModel") (T := T_M) (N := 35) hx hb hg in_M hown hK hP 0 rfl rfl 18 (by decide) (hg _ k970) (fun _ h9 => h9) rfl d_M_end_162 ?_
                    exact my_iret (v := nI (eB e9).length) hx hb hr (rfl) hlocks hQ hK hS (Nat.le_refl _) (Nat.le_refl _) (fG, fO, lN (eL e9), lN (eR e9), caI (eC e9), nI (eP e9), nI (eB e9).length, nI (eB e9).length) (⟨by rw [hB9], by rw [hB9], by rw [hB9]; exact gIs_cp hG9 hc⟩) (hP.sub [0, 1, 2] rfl) (hD.sub [0, 1, 2] (by decide +kernel) rfl) d_M_end_165
                  · have hkl : kk < (eB e9).length := by
                      rcases Nat.lt_or_ge kk (eB e9).length with z | z
                      · exact z
                      · exact absurd (nI_le z (by omega)) c_5
                    refine lv_aload_n hx hb d_M_end_143 rfl (lv_at hl 1 rfl) ?_
                    refine va_get (D := (dC, dI)) (ci := 9) (v := .ref (g 7)) (C := "RangeCodersModel") (T := T_M) (N := 35) hx hb hg in_M hown hK hP 0 rfl rfl 17 (by decide) (hg _ k969) (fun _ h9 => h9) rfl d_M_end_144 ?_
                    refine lv_iload_n hx hb d_M_end_147 rfl (lv_at hl 0 rfl) ?_
                    refine lv_aload_n hx hb d_M_end_148 rfl (lv_at hl 1 rfl) ?_
                    refine va_get (D := (dC, dI)) (ci := 9) (v := .ref (g 6)) (C := "RangeCodersModel") (T := T_M) (N := 35) hx hb hg in_M hown hK hP 0 rfl rfl 15 (by decide) (hg _ k967) (fun _ h9 => h9) rfl d_M_end_149 ?_
                    refine lv_iload_n hx hb d_M_end_152 rfl (lv_at hl 0 rfl) ?_
                    refine va_iald hx hb hK hP 1 0 rfl rfl (vp_in_nI (by omega) (by decide)) d_M_end_153 ?_
                    refine lv_topi (fun v_6 ev_6 => ?_)
                    refine va_iast hx hb hK hP hD hS 2 0 rfl rfl (vp_in_nI (by omega) (by decide)) d_M_end_154 (fun H locs hP hD hS => ?_)
                    have hPD : my_PD (dC, dI) vwCl A [(o, Sum.inr (9, mO g 2 fShift fModels fItems 1 (lN (eL e9)) (lN (eR e9)) (caI (eC e9)) (nI (eP e9)) (nI (eB e9).length) (nI (eB e9).length) fIns fReads fBad fIR fAsk fBAsk fCode fRL fRR fX fWrites 0)), ((g 6), Sum.inl (cI, 9000, Sum.inl fG)), ((g 7), Sum.inl (cI, 9000, Sum.inl (upd fO (nI kk).toNatClampNeg v_6)))] H := ⟨hP, hD⟩
                    have hP := hPD.1
                    have hD := hPD.2
                    have hc8 : ∀ i, i < kk + 1 → (upd fO (nI kk).toNatClampNeg v_6) i = fG i := cp_st hc (nI_clamp (by omega)) (by rw [ev_6, nI_clamp (by omega)])
                    obtain ⟨v_7, ev_7⟩ : ∃ y : Int32, y = (nI kk) + (1) := ⟨_, rfl⟩
                    refine lv_iinc (v := v_7) (lv' := [(1, Value.int v_7), (0, Value.ref o)]) hx hb d_M_end_155 hl (k := 0) rfl (by rw [ev_7]; rfl) (by decide) rfl (fun ls hl => ?_)
                    have z9 : v_7 = nI (kk + 1) := by rw [ev_7]; exact nI_1 _
                    subst z9
                    refine lv_goto (tgt := 135) hx hb d_M_end_158 (by decide) ?_
                    exact ih9_135 _ (by first | omega | (omega)) (kk + 1) (upd fO (nI kk).toNatClampNeg v_6) rfl (by omega) (hc8) H locs ls (hP.sub [0, 1, 2] rfl) (hD.sub [0, 1, 2] (by decide +kernel) rfl) hS (lv_sub hl [0, 1] rfl)
              exact J_135 _ (0 : Nat) vOut rfl (Nat.zero_le _) (fun _ z => absurd z (Nat.not_lt_zero _)) H locs ls (hP.sub [0, 1, 2] rfl) (hD.sub [0, 1, 2] (by decide +kernel) rfl) hS (lv_sub hl [0, 1] rfl)
            · have hjl : jj < 5 := by
                rcases Nat.lt_or_ge jj 5 with z | z
                · exact z
                · exact absurd (nI_le (a := 5) z (by omega)) c_4
              have hl9 : (eB e9).length + eP e9 + 1 ≤ 8001 + jj := hN8
              refine lv_aload_n hx hb d_M_end_42 rfl (lv_at hl 1 rfl) ?_
              refine my_cv (wr := [((g 7), Sum.inl (cI, 9000, Sum.inl vOut))]) (va_runV (As := []) (rest := []) ⟨hx, hb, hml, hown, hts⟩ (c_M_shifted l dC dI cI cM cO H.size o g 2 fShift fModels fItems 1 fOuts fIns fReads fBad fIR fAsk fBAsk fCode fRL fRR fX fWrites 0 fG (eR e9) (eL e9) (eC e9) (eP e9) (eB e9) (he9.1) (he9.2) (hG9) (by omega)) (cwV 0 hts (my_gV k1102 k1104 ks31 k12 k1105) rfl rfl rfl cu_M_shifted_0 ⟨by rw [hR]; exact Nat.le_of_ble_eq_true rfl, by rw [hR]; exact Nat.le_of_ble_eq_true rfl⟩) (my_preV hK hN (hP.sub [0, 1] rfl) (hD.sub [0, 1] (by decide +kernel) rfl) 0 rfl rfl) rfl rfl hl.1 rfl (lv_room (Nat.le_of_ble_eq_true rfl)) d_M_end_43 ⟨by rw [hR]; exact Nat.le_of_ble_eq_true rfl, by rw [hR]; exact Nat.le_of_ble_eq_true rfl⟩) hP hD hS hA [0, 1] [2] rfl rfl (by decide +kernel) (by decide +kernel) (fun u9 H locs hw_43 hP hD hS => ?_)
              obtain ⟨v2_43, rfl⟩ : ∃ z, z = u9 := ⟨_, rfl⟩
              have hw_43 : gIs v2_43 (shB (eL e9) (eC e9) (eP e9) (eB e9)) := hw_43
              have hPD : my_PD (dC, dI) vwCl A [((g 7), Sum.inl (cI, 9000, Sum.inl vOut)), (o, Sum.inr (9, mO g 2 fShift fModels fItems 1 (lN (shL (eL e9))) (lN (eR e9)) (caI (shC (eL e9) (eC e9))) (nI (shP (eL e9) (eP e9))) (nI (shB (eL e9) (eC e9) (eP e9) (eB e9)).length) fOuts fIns fReads fBad fIR fAsk fBAsk fCode fRL fRR fX fWrites 0)), ((g 6), Sum.inl (cI, 9000, Sum.inl v2_43))] H := ⟨hP, hD⟩
              have hP := hPD.1
              have hD := hPD.2
              obtain ⟨v_8, ev_8⟩ : ∃ y : Int32, y = (nI jj) + (1) := ⟨_, rfl⟩
              refine lv_iinc (v := v_8) (lv' := [(1, Value.int v_8), (0, Value.ref o)]) hx hb d_M_end_46 hl (k := 0) rfl (by rw [ev_8]; rfl) (by decide) rfl (fun ls hl => ?_)
              have z9 : v_8 = nI (jj + 1) := by rw [ev_8]; exact nI_1 _
              subst z9
              refine lv_goto (tgt := 37) hx hb d_M_end_49 (by decide) ?_
              exact ih9_37 _ (by first | omega | (omega)) (jj + 1) (shS e9) v2_43 rfl (by omega) (by rw [hE9, show 5 - jj = (5 - (jj + 1)) + 1 by omega]; rfl) (eOk_sh he9) (hw_43) (Nat.le_trans (eN_sh e9) (by omega)) H locs ls (hP.sub [1, 2, 0] rfl) (hD.sub [1, 2, 0] (by decide +kernel) rfl) hS (lv_sub hl [0, 1] rfl)
        exact J_37 _ (0 : Nat) (Rg, L, ca, Pn, bs) vGoing rfl (by decide) (rfl) (hE) (hG) (show bs.length + Pn + 1 ≤ 8001 + 0 by omega) H locs ls (hP.sub [0, 1, 2] rfl) (hD.sub [0, 1, 2] (by decide +kernel) rfl) hS (lv_sub hl [0, 1] rfl)
  · exact absurd (by decide) c_1
set_option maxHeartbeats 2000000 in
set_option maxRecDepth 100000 in
theorem m_endA (l : Launch) (dC : Nat → ClassId) (dI : Nat → Nat → Nat) (cI cM cO : ClassId) (sz : Nat) (o : Nat) (g : Nat → Nat) (fForm : Int32) (fShift : Int32) (fModels : Int32) (fItems : Int32) (fEnded : Int32) (fLow : Int64) (fRange : Int64) (fCache : Int32) (fPend : Int32) (fGoes : Int32) (fOuts : Int32) (fIns : Int32) (fReads : Int32) (fBad : Int32) (fIR : Int32) (fAsk : Int32) (fBAsk : Int32) (fCode : Int64) (fRL : Int64) (fRR : Int64) (fX : Int64) (fWrites : Int32) (fThrown : Int32) (hen : ¬ fEnded = 0) : MetI l y_M_end (Cond.code y_M_end prog_14_method_31_code 2 (some .int) :: gw) ({ frames := 0, cells := 0, slots := 0, locals := 0 } : Room) (dC, dI) vwCl (kT cI cM cO) [Value.ref o] [(o, Sum.inr (9, mO g fForm fShift fModels fItems fEnded fLow fRange fCache fPend fGoes fOuts fIns fReads fBad fIR fAsk fBAsk fCode fRL fRR fX fWrites fThrown))] sz (fun (r : Int32) (u : Unit) => r = -3) (fun (u : Unit) => [(o, Sum.inr (9, mO g fForm fShift fModels fItems fEnded fLow fRange fCache fPend fGoes fOuts fIns fReads fBad fIR fAsk fBAsk fCode fRL fRR fX fWrites 0))]) 0 0 := by
  refine my_ofI (cc := prog_14_method_31_code) (n := 2) (ret := (some .int)) (by decide) rfl (Nat.le_of_ble_eq_true rfl) ?_
  intro p e s m args below meth c R Q A ls H locs hx hb hr hts hown hlocks hml hnm hR hQ hA hl hP hK hN hD hS
  have hg : ∀ w ∈ gw, w.before args s = true := fun w h => hts w (List.mem_cons_of_mem _ h)
  have hown : s.vm.findClass "RangeCodersModel" = some m.cls := hown
  have hl : lv_has ls 2 [(0, Value.ref o)] := hl
  refine lv_aload_n hx hb d_M_end_0 rfl (lv_at hl 0 rfl) ?_
  refine lv_iconst (v := 0) hx hb d_M_end_1 (by decide) ?_
  refine va_put (D := (dC, dI)) (ci := 9) (v := .int 0) (ty := .int) (C := "RangeCodersModel") (T := T_M) (N := 35) hx hb hg in_M t_M o_M n_M hown hK hP hD hS 0 rfl rfl 34 (by decide) (hg _ k986) (fun _ h9 => h9) rfl (o_M 34 (by decide)) rfl rfl (Nat.le_of_ble_eq_true rfl) d_M_end_2 (fun H locs hP hD hS => ?_)
  have hPD : my_PD (dC, dI) vwCl A [(o, Sum.inr (9, mO g fForm fShift fModels fItems fEnded fLow fRange fCache fPend fGoes fOuts fIns fReads fBad fIR fAsk fBAsk fCode fRL fRR fX fWrites 0))] H := ⟨hP, hD⟩
  have hP := hPD.1
  have hD := hPD.2
  refine lv_aload_n hx hb d_M_end_5 rfl (lv_at hl 0 rfl) ?_
  refine va_get (D := (dC, dI)) (ci := 9) (v := .int fEnded) (C := "RangeCodersModel") (T := T_M) (N := 35) hx hb hg in_M hown hK hP 0 rfl rfl 10 (by decide) (hg _ k962) (fun _ h9 => h9) rfl d_M_end_6 ?_
  refine lv_if_eq (tgt := 15) hx hb d_M_end_9 (by decide) (fun c_1 => ?_) (fun c_1 => ?_)
  · exact absurd c_1 hen
  · refine lv_bipush (v := (-3)) hx hb d_M_end_12 (by decide) ?_
    exact my_iret (v := (-3)) hx hb hr (rfl) hlocks hQ hK hS (Nat.le_refl _) (Nat.le_refl _) () (rfl) (hP.sub [0] rfl) (hD.sub [0] (by decide +kernel) rfl) d_M_end_14
set_option maxHeartbeats 2000000 in
set_option maxRecDepth 100000 in
theorem m_end1B (l : Launch) (dC : Nat → ClassId) (dI : Nat → Nat → Nat) (cI cM cO : ClassId) (sz : Nat) (o : Nat) (g : Nat → Nat) (fShift : Int32) (fModels : Int32) (fItems : Int32) (fRange : Int64) (fCache : Int32) (fPend : Int32) (fOuts : Int32) (fIns : Int32) (fReads : Int32) (fBad : Int32) (fIR : Int32) (fAsk : Int32) (fBAsk : Int32) (fCode : Int64) (fRL : Int64) (fRR : Int64) (fX : Int64) (fWrites : Int32) (fThrown : Int32) (vGoing : Nat → Int32) (vOut : Nat → Int32) (L : Nat) (bs : List Nat) (hL : L < 4294967296) (hG : gIs vGoing bs) (hN9 : bs.length ≤ 8000) : MetI l y_M_end (Cond.code y_M_end prog_14_method_31_code 2 (some .int) :: gw) ({ frames := 1, cells := 0, slots := 0, locals := 21 } : Room) (dC, dI) vwCl (kT cI cM cO) [Value.ref o] [(o, Sum.inr (9, mO g 1 fShift fModels fItems 0 (lN L) fRange fCache fPend (nI bs.length) fOuts fIns fReads fBad fIR fAsk fBAsk fCode fRL fRR fX fWrites fThrown)), ((g 6), Sum.inl (cI, 9000, Sum.inl vGoing)), ((g 7), Sum.inl (cI, 9000, Sum.inl vOut))] sz (fun (r : Int32) (u : (Nat → Int32) × (Nat → Int32) × Int64 × Int32 × Int32) => r = nI ((tpK 4 (L, bs)).2).length ∧ u.2.2.2.2 = nI ((tpK 4 (L, bs)).2).length ∧ gIs u.2.1 ((tpK 4 (L, bs)).2)) (fun (u : (Nat → Int32) × (Nat → Int32) × Int64 × Int32 × Int32) => [(o, Sum.inr (9, mO g 1 fShift fModels fItems 1 u.2.2.1 fRange fCache fPend u.2.2.2.1 u.2.2.2.2 fIns fReads fBad fIR fAsk fBAsk fCode fRL fRR fX fWrites 0)), ((g 6), Sum.inl (cI, 9000, Sum.inl u.1)), ((g 7), Sum.inl (cI, 9000, Sum.inl u.2.1))]) 0 0 := by
  refine my_ofI (cc := prog_14_method_31_code) (n := 2) (ret := (some .int)) (by decide) rfl (Nat.le_of_ble_eq_true rfl) ?_
  intro p e s m args below meth c R Q A ls H locs hx hb hr hts hown hlocks hml hnm hR hQ hA hl hP hK hN hD hS
  have hg : ∀ w ∈ gw, w.before args s = true := fun w h => hts w (List.mem_cons_of_mem _ h)
  have hown : s.vm.findClass "RangeCodersModel" = some m.cls := hown
  have hl : lv_has ls 2 [(0, Value.ref o)] := hl
  refine lv_aload_n hx hb d_M_end_0 rfl (lv_at hl 0 rfl) ?_
  refine lv_iconst (v := 0) hx hb d_M_end_1 (by decide) ?_
  refine va_put (D := (dC, dI)) (ci := 9) (v := .int 0) (ty := .int) (C := "RangeCodersModel") (T := T_M) (N := 35) hx hb hg in_M t_M o_M n_M hown hK hP hD hS 0 rfl rfl 34 (by decide) (hg _ k986) (fun _ h9 => h9) rfl (o_M 34 (by decide)) rfl rfl (Nat.le_of_ble_eq_true rfl) d_M_end_2 (fun H locs hP hD hS => ?_)
  have hPD : my_PD (dC, dI) vwCl A [(o, Sum.inr (9, mO g 1 fShift fModels fItems 0 (lN L) fRange fCache fPend (nI bs.length) fOuts fIns fReads fBad fIR fAsk fBAsk fCode fRL fRR fX fWrites 0)), ((g 6), Sum.inl (cI, 9000, Sum.inl vGoing)), ((g 7), Sum.inl (cI, 9000, Sum.inl vOut))] H := ⟨hP, hD⟩
  have hP := hPD.1
  have hD := hPD.2
  refine lv_aload_n hx hb d_M_end_5 rfl (lv_at hl 0 rfl) ?_
  refine va_get (D := (dC, dI)) (ci := 9) (v := .int 0) (C := "RangeCodersModel") (T := T_M) (N := 35) hx hb hg in_M hown hK hP 0 rfl rfl 10 (by decide) (hg _ k962) (fun _ h9 => h9) rfl d_M_end_6 ?_
  refine lv_if_eq (tgt := 15) hx hb d_M_end_9 (by decide) (fun c_1 => ?_) (fun c_1 => ?_)
  · refine lv_aload_n hx hb d_M_end_15 rfl (lv_at hl 0 rfl) ?_
    refine lv_iconst (v := 1) hx hb d_M_end_16 (by decide) ?_
    refine va_put (D := (dC, dI)) (ci := 9) (v := .int 1) (ty := .boolean) (C := "RangeCodersModel") (T := T_M) (N := 35) hx hb hg in_M t_M o_M n_M hown hK hP hD hS 0 rfl rfl 10 (by decide) (hg _ k962) (fun _ h9 => h9) rfl (o_M 10 (by decide)) rfl rfl (Nat.le_of_ble_eq_true rfl) d_M_end_17 (fun H locs hP hD hS => ?_)
    have hPD : my_PD (dC, dI) vwCl A [(o, Sum.inr (9, mO g 1 fShift fModels fItems 1 (lN L) fRange fCache fPend (nI bs.length) fOuts fIns fReads fBad fIR fAsk fBAsk fCode fRL fRR fX fWrites 0)), ((g 6), Sum.inl (cI, 9000, Sum.inl vGoing)), ((g 7), Sum.inl (cI, 9000, Sum.inl vOut))] H := ⟨hP, hD⟩
    have hP := hPD.1
    have hD := hPD.2
    refine lv_aload_n hx hb d_M_end_20 rfl (lv_at hl 0 rfl) ?_
    refine va_get (D := (dC, dI)) (ci := 9) (v := .int 1) (C := "RangeCodersModel") (T := T_M) (N := 35) hx hb hg in_M hown hK hP 0 rfl rfl 0 (by decide) (hg _ k952) (fun _ h9 => h9) rfl d_M_end_21 ?_
    refine lv_if_eq (tgt := 35) hx hb d_M_end_24 (by decide) (fun c_2 => ?_) (fun c_2 => ?_)
    · exact absurd c_2 (by decide)
    · refine lv_aload_n hx hb d_M_end_27 rfl (lv_at hl 0 rfl) ?_
      refine va_get (D := (dC, dI)) (ci := 9) (v := .int 1) (C := "RangeCodersModel") (T := T_M) (N := 35) hx hb hg in_M hown hK hP 0 rfl rfl 0 (by decide) (hg _ k952) (fun _ h9 => h9) rfl d_M_end_28 ?_
      refine lv_iconst (v := 2) hx hb d_M_end_31 (by decide) ?_
      refine lv_icmp_ne (tgt := 55) hx hb d_M_end_32 (by decide) (fun c_3 => ?_) (fun c_3 => ?_)
      · refine lv_aload_n hx hb d_M_end_55 rfl (lv_at hl 0 rfl) ?_
        refine va_get (D := (dC, dI)) (ci := 9) (v := .int 1) (C := "RangeCodersModel") (T := T_M) (N := 35) hx hb hg in_M hown hK hP 0 rfl rfl 0 (by decide) (hg _ k952) (fun _ h9 => h9) rfl d_M_end_56 ?_
        refine lv_iconst (v := 1) hx hb d_M_end_59 (by decide) ?_
        refine lv_icmp_ne (tgt := 106) hx hb d_M_end_60 (by decide) (fun c_4 => ?_) (fun c_4 => ?_)
        · exact absurd rfl c_4
        · refine lv_iconst (v := 0) hx hb d_M_end_63 (by decide) ?_
          refine lv_istore_n (lv' := [(1, Value.int 0), (0, Value.ref o)]) hx hb d_M_end_64 rfl hl (by decide) rfl (fun ls hl => ?_)
          have J_65 : ∀ (n9_65 : Nat) (jj : Nat) (e9 : Nat × List Nat) (fG : Nat → Int32) (hn9_65 : 4 - jj = n9_65) (hjj : jj ≤ 4) (hE9 : tpK 4 (L, bs) = tpK (4 - jj) e9) (hL9 : e9.1 < 4294967296) (hG9 : gIs fG e9.2) (hN8 : e9.2.length ≤ 8000 + jj) (H : Heap) (locs : List Loc) (ls : Array Slot), va_P (dC, dI) vwCl [(o, Sum.inr (9, mO g 1 fShift fModels fItems 1 (lN e9.1) fRange fCache fPend (nI e9.2.length) fOuts fIns fReads fBad fIR fAsk fBAsk fCode fRL fRR fX fWrites 0)), ((g 6), Sum.inl (cI, 9000, Sum.inl fG)), ((g 7), Sum.inl (cI, 9000, Sum.inl vOut))] H → va_D A [(o, Sum.inr (9, mO g 1 fShift fModels fItems 1 (lN e9.1) fRange fCache fPend (nI e9.2.length) fOuts fIns fReads fBad fIR fAsk fBAsk fCode fRL fRR fX fWrites 0)), ((g 6), Sum.inl (cI, 9000, Sum.inl fG)), ((g 7), Sum.inl (cI, 9000, Sum.inl vOut))] → va_S A s.heap H locs → lv_has ls 2 [(1, Value.int (nI jj)), (0, Value.ref o)] → W p l e R s m args below meth c H locs 0 0 Q (F0 m 65 ls []) := by
            intro n9_65
            induction n9_65 using Nat.strongRecOn with
            | ind n9_65 ih9_65 =>
              intro jj e9 fG hn9_65 hjj hE9 hL9 hG9 hN8 H locs ls hP hD hS hl
              refine lv_iload_n hx hb d_M_end_65 rfl (lv_at hl 0 rfl) ?_
              refine lv_iconst (v := 4) hx hb d_M_end_66 (by decide) ?_
              refine lv_icmp_ge (tgt := 103) hx hb d_M_end_67 (by decide) (fun c_5 => ?_) (fun c_5 => ?_)
              · refine lv_goto (tgt := 125) hx hb d_M_end_103 (by decide) ?_
                have hj5 : jj = 4 := by have := nI_ge' (n := 4) (by omega) (by decide) c_5; omega
                have hB9 : (tpK 4 (L, bs)).2 = e9.2 := by rw [hE9, hj5]; rfl
                refine lv_aload_n hx hb d_M_end_125 rfl (lv_at hl 1 rfl) ?_
                refine lv_aload_n hx hb d_M_end_126 rfl (lv_at hl 1 rfl) ?_
                refine va_get (D := (dC, dI)) (ci := 9) (v := .int (nI e9.2.length)) (C := "RangeCodersModel") (T := T_M) (N := 35) hx hb hg in_M hown hK hP 0 rfl rfl 16 (by decide) (hg _ k968) (fun _ h9 => h9) rfl d_M_end_127 ?_
                refine va_put (D := (dC, dI)) (ci := 9) (v := .int (nI e9.2.length)) (ty := .int) (C := "RangeCodersModel") (T := T_M) (N := 35) hx hb hg in_M t_M o_M n_M hown hK hP hD hS 0 rfl rfl 18 (by decide) (hg _ k970) (fun _ h9 => h9) rfl (o_M 18 (by decide)) rfl rfl (Nat.le_of_ble_eq_true rfl) d_M_end_130 (fun H locs hP hD hS => ?_)
                have hPD : my_PD (dC, dI) vwCl A [(o, Sum.inr (9, mO g 1 fShift fModels fItems 1 (lN e9.1) fRange fCache fPend (nI e9.2.length) (nI e9.2.length) fIns fReads fBad fIR fAsk fBAsk fCode fRL fRR fX fWrites 0)), ((g 6), Sum.inl (cI, 9000, Sum.inl fG)), ((g 7), Sum.inl (cI, 9000, Sum.inl vOut))] H := ⟨hP, hD⟩
                have hP := hPD.1
                have hD := hPD.2
                refine lv_iconst (v := 0) hx hb d_M_end_133 (by decide) ?_
                refine lv_istore_n (lv' := [(1, Value.int 0), (0, Value.ref o)]) hx hb d_M_end_134 rfl hl (by decide) rfl (fun ls hl => ?_)
                have J_135 : ∀ (n9_135 : Nat) (kk : Nat) (fO : Nat → Int32) (hn9_135 : (e9.2).length - kk = n9_135) (hkk : kk ≤ (e9.2).length) (hc : ∀ i, i < kk → fO i = fG i) (H : Heap) (locs : List Loc) (ls : Array Slot), va_P (dC, dI) vwCl [(o, Sum.inr (9, mO g 1 fShift fModels fItems 1 (lN e9.1) fRange fCache fPend (nI e9.2.length) (nI e9.2.length) fIns fReads fBad fIR fAsk fBAsk fCode fRL fRR fX fWrites 0)), ((g 6), Sum.inl (cI, 9000, Sum.inl fG)), ((g 7), Sum.inl (cI, 9000, Sum.inl fO))] H → va_D A [(o, Sum.inr (9, mO g 1 fShift fModels fItems 1 (lN e9.1) fRange fCache fPend (nI e9.2.length) (nI e9.2.length) fIns fReads fBad fIR fAsk fBAsk fCode fRL fRR fX fWrites 0)), ((g 6), Sum.inl (cI, 9000, Sum.inl fG)), ((g 7), Sum.inl (cI, 9000, Sum.inl fO))] → va_S A s.heap H locs → lv_has ls 2 [(1, Value.int (nI kk)), (0, Value.ref o)] → W p l e R s m args below meth c H locs 0 0 Q (F0 m 135 ls []) := by
                  intro n9_135
                  induction n9_135 using Nat.strongRecOn with
                  | ind n9_135 ih9_135 =>
                    intro kk fO hn9_135 hkk hc H locs ls hP hD hS hl
                    refine lv_iload_n hx hb d_M_end_135 rfl (lv_at hl 0 rfl) ?_
                    refine lv_aload_n hx hb d_M_end_136 rfl (lv_at hl 1 rfl) ?_
                    refine va_get (D := (dC, dI)) (ci := 9) (v := .int (nI e9.2.length)) (C := "RangeCodersModel") (T := T_M) (N := 35) hx hb hg in_M hown hK hP 0 rfl rfl 16 (by decide) (hg _ k968) (fun _ h9 => h9) rfl d_M_end_137 ?_
                    refine lv_icmp_ge (tgt := 161) hx hb d_M_end_140 (by decide) (fun c_6 => ?_) (fun c_6 => ?_)
                    · have hkn : kk = (e9.2).length := by have := (nI_cmp (a := (e9.2).length) (b := kk) (by omega) (by omega)).mp c_6; omega
                      subst hkn
                      refine lv_aload_n hx hb d_M_end_161 rfl (lv_at hl 1 rfl) ?_
                      refine va_get (D := (dC, dI)) (ci := 9) (v := .int (nI e9.2.length)) (C := "RangeCodersModel") (T := T_M) (N := 35) hx hb hg in_M hown hK hP 0 rfl rfl 18 (by decide) (hg _ k970) (fun _ h9 => h9) rfl d_M_end_162 ?_
                      exact my_iret (v := nI e9.2.length) hx hb hr (rfl) hlocks hQ hK hS (Nat.le_refl _) (Nat.le_refl _) (fG, fO, lN e9.1, nI e9.2.length, nI e9.2.length) (⟨by rw [hB9], by rw [hB9], by rw [hB9]; exact gIs_cp hG9 hc⟩) (hP.sub [0, 1, 2] rfl) (hD.sub [0, 1, 2] (by decide +kernel) rfl) d_M_end_165
                    · have hkl : kk < (e9.2).length := by
                        rcases Nat.lt_or_ge kk (e9.2).length with z | z
                        · exact z
                        · exact absurd (nI_le z (by omega)) c_6
                      refine lv_aload_n hx hb d_M_end_143 rfl (lv_at hl 1 rfl) ?_
                      refine va_get (D := (dC, dI)) (ci := 9) (v := .ref (g 7)) (C := "RangeCodersModel") (T := T_M) (N := 35) hx hb hg in_M hown hK hP 0 rfl rfl 17 (by decide) (hg _ k969) (fun _ h9 => h9) rfl d_M_end_144 ?_
                      refine lv_iload_n hx hb d_M_end_147 rfl (lv_at hl 0 rfl) ?_
                      refine lv_aload_n hx hb d_M_end_148 rfl (lv_at hl 1 rfl) ?_
                      refine va_get (D := (dC, dI)) (ci := 9) (v := .ref (g 6)) (C := "RangeCodersModel") (T := T_M) (N := 35) hx hb hg in_M hown hK hP 0 rfl rfl 15 (by decide) (hg _ k967) (fun _ h9 => h9) rfl d_M_end_149 ?_
                      refine lv_iload_n hx hb d_M_end_152 rfl (lv_at hl 0 rfl) ?_
                      refine va_iald hx hb hK hP 1 0 rfl rfl (vp_in_nI (by omega) (by decide)) d_M_end_153 ?_
                      refine lv_topi (fun v_7 ev_7 => ?_)
                      refine va_iast hx hb hK hP hD hS 2 0 rfl rfl (vp_in_nI (by omega) (by decide)) d_M_end_154 (fun H locs hP hD hS => ?_)
                      have hPD : my_PD (dC, dI) vwCl A [(o, Sum.inr (9, mO g 1 fShift fModels fItems 1 (lN e9.1) fRange fCache fPend (nI e9.2.length) (nI e9.2.length) fIns fReads fBad fIR fAsk fBAsk fCode fRL fRR fX fWrites 0)), ((g 6), Sum.inl (cI, 9000, Sum.inl fG)), ((g 7), Sum.inl (cI, 9000, Sum.inl (upd fO (nI kk).toNatClampNeg v_7)))] H := ⟨hP, hD⟩
                      have hP := hPD.1
                      have hD := hPD.2
                      have hc8 : ∀ i, i < kk + 1 → (upd fO (nI kk).toNatClampNeg v_7) i = fG i := cp_st hc (nI_clamp (by omega)) (by rw [ev_7, nI_clamp (by omega)])
                      obtain ⟨v_8, ev_8⟩ : ∃ y : Int32, y = (nI kk) + (1) := ⟨_, rfl⟩
                      refine lv_iinc (v := v_8) (lv' := [(1, Value.int v_8), (0, Value.ref o)]) hx hb d_M_end_155 hl (k := 0) rfl (by rw [ev_8]; rfl) (by decide) rfl (fun ls hl => ?_)
                      have z9 : v_8 = nI (kk + 1) := by rw [ev_8]; exact nI_1 _
                      subst z9
                      refine lv_goto (tgt := 135) hx hb d_M_end_158 (by decide) ?_
                      exact ih9_135 _ (by first | omega | (omega)) (kk + 1) (upd fO (nI kk).toNatClampNeg v_7) rfl (by omega) (hc8) H locs ls (hP.sub [0, 1, 2] rfl) (hD.sub [0, 1, 2] (by decide +kernel) rfl) hS (lv_sub hl [0, 1] rfl)
                exact J_135 _ (0 : Nat) vOut rfl (Nat.zero_le _) (fun _ z => absurd z (Nat.not_lt_zero _)) H locs ls (hP.sub [0, 1, 2] rfl) (hD.sub [0, 1, 2] (by decide +kernel) rfl) hS (lv_sub hl [0, 1] rfl)
              · have hjl : jj < 4 := by
                  rcases Nat.lt_or_ge jj 4 with z | z
                  · exact z
                  · exact absurd (nI_le (a := 4) z (by omega)) c_5
                refine lv_aload_n hx hb d_M_end_70 rfl (lv_at hl 1 rfl) ?_
                refine lv_aload_n hx hb d_M_end_71 rfl (lv_at hl 1 rfl) ?_
                refine va_get (D := (dC, dI)) (ci := 9) (v := .long (lN e9.1)) (C := "RangeCodersModel") (T := T_M) (N := 35) hx hb hg in_M hown hK hP 0 rfl rfl 11 (by decide) (hg _ k963) (fun _ h9 => h9) rfl d_M_end_72 ?_
                refine lv_bipush (v := 24) hx hb d_M_end_75 (by decide) ?_
                refine lv_lshr hx hb d_M_end_77 rfl ?_
                refine lv_topl (fun v_9 ev_9 => ?_)
                have z9 : v_9 = lN (e9.1 / 16777216) := by rw [ev_9]; exact L_shr24 (by omega)
                subst z9
                refine lv_l2i hx hb d_M_end_78 rfl ?_
                refine lv_topi (fun v_10 ev_10 => ?_)
                have z9 : v_10 = nI (e9.1 / 16777216) := by rw [ev_10]; exact lN_i _
                subst z9
                refine my_cv (wr := [((g 7), Sum.inl (cI, 9000, Sum.inl vOut))]) (va_runV (As := [Value.int (nI (e9.1 / 16777216))]) (rest := []) ⟨hx, hb, hml, hown, hts⟩ (c_M_write l dC dI cI cM cO H.size o g 1 fShift fModels fItems 1 (lN e9.1) fRange fCache fPend fOuts fIns fReads fBad fIR fAsk fBAsk fCode fRL fRR fX fWrites 0 fG e9.2 (e9.1 / 16777216) (hG9) (by omega) (by omega)) (cwV 1 hts (my_gV k1107 k1109 ks32 k12 k1110) rfl rfl rfl cu_M_write_1 ⟨by rw [hR]; exact Nat.le_of_ble_eq_true rfl, by rw [hR]; exact Nat.le_of_ble_eq_true rfl⟩) (my_preV hK hN (hP.sub [0, 1] rfl) (hD.sub [0, 1] (by decide +kernel) rfl) 0 rfl rfl) rfl rfl hl.1 rfl (lv_room (Nat.le_of_ble_eq_true rfl)) d_M_end_79 ⟨by rw [hR]; exact Nat.le_of_ble_eq_true rfl, by rw [hR]; exact Nat.le_of_ble_eq_true rfl⟩) hP hD hS hA [0, 1] [2] rfl rfl (by decide +kernel) (by decide +kernel) (fun u9 H locs hw_79 hP hD hS => ?_)
                obtain ⟨v2_79, rfl⟩ : ∃ z, z = u9 := ⟨_, rfl⟩
                have hw_79 : gIs v2_79 (e9.2 ++ [(e9.1 / 16777216) % 256]) := hw_79
                have hPD : my_PD (dC, dI) vwCl A [((g 7), Sum.inl (cI, 9000, Sum.inl vOut)), (o, Sum.inr (9, mO g 1 fShift fModels fItems 1 (lN e9.1) fRange fCache fPend (nI (e9.2 ++ [(e9.1 / 16777216) % 256]).length) fOuts fIns fReads fBad fIR fAsk fBAsk fCode fRL fRR fX fWrites 0)), ((g 6), Sum.inl (cI, 9000, Sum.inl v2_79))] H := ⟨hP, hD⟩
                have hP := hPD.1
                have hD := hPD.2
                refine lv_aload_n hx hb d_M_end_82 rfl (lv_at hl 1 rfl) ?_
                refine lv_aload_n hx hb d_M_end_83 rfl (lv_at hl 1 rfl) ?_
                refine va_get (D := (dC, dI)) (ci := 9) (v := .long (lN e9.1)) (C := "RangeCodersModel") (T := T_M) (N := 35) hx hb hg in_M hown hK hP 1 rfl rfl 11 (by decide) (hg _ k963) (fun _ h9 => h9) rfl d_M_end_84 ?_
                refine lv_bipush (v := 8) hx hb d_M_end_87 (by decide) ?_
                refine lv_lshl hx hb d_M_end_89 rfl ?_
                refine lv_topl (fun v_11 ev_11 => ?_)
                have z9 : v_11 = lN (e9.1 * 256) := by rw [ev_11]; exact L_shl8 _
                subst z9
                refine lv_ldc2 (v := 4294967295) hx hb hown (hg _ k927) d_M_end_90 ?_
                refine lv_land hx hb d_M_end_93 ?_
                refine lv_topl (fun v_12 ev_12 => ?_)
                have z9 : v_12 = lN (mvL e9.1) := by rw [ev_12]; exact L_and32 (by omega)
                subst z9
                refine va_put (D := (dC, dI)) (ci := 9) (v := .long (lN (mvL e9.1))) (ty := .long) (C := "RangeCodersModel") (T := T_M) (N := 35) hx hb hg in_M t_M o_M n_M hown hK hP hD hS 1 rfl rfl 11 (by decide) (hg _ k963) (fun _ h9 => h9) rfl (o_M 11 (by decide)) rfl rfl (Nat.le_of_ble_eq_true rfl) d_M_end_94 (fun H locs hP hD hS => ?_)
                have hPD : my_PD (dC, dI) vwCl A [((g 7), Sum.inl (cI, 9000, Sum.inl vOut)), (o, Sum.inr (9, mO g 1 fShift fModels fItems 1 (lN (mvL e9.1)) fRange fCache fPend (nI (e9.2 ++ [(e9.1 / 16777216) % 256]).length) fOuts fIns fReads fBad fIR fAsk fBAsk fCode fRL fRR fX fWrites 0)), ((g 6), Sum.inl (cI, 9000, Sum.inl v2_79))] H := ⟨hP, hD⟩
                have hP := hPD.1
                have hD := hPD.2
                obtain ⟨v_13, ev_13⟩ : ∃ y : Int32, y = (nI jj) + (1) := ⟨_, rfl⟩
                refine lv_iinc (v := v_13) (lv' := [(1, Value.int v_13), (0, Value.ref o)]) hx hb d_M_end_97 hl (k := 0) rfl (by rw [ev_13]; rfl) (by decide) rfl (fun ls hl => ?_)
                have z9 : v_13 = nI (jj + 1) := by rw [ev_13]; exact nI_1 _
                subst z9
                refine lv_goto (tgt := 65) hx hb d_M_end_100 (by decide) ?_
                exact ih9_65 _ (by first | omega | (omega)) (jj + 1) (mvL e9.1, e9.2 ++ [e9.1 / 16777216 % 256]) v2_79 rfl (by omega) (by rw [hE9, show 4 - jj = (4 - (jj + 1)) + 1 by omega]; rfl) (Nat.mod_lt _ (by decide)) (hw_79) (by show (e9.2 ++ [_]).length ≤ _; rw [List.length_append, List.length_singleton]; omega) H locs ls (hP.sub [1, 2, 0] rfl) (hD.sub [1, 2, 0] (by decide +kernel) rfl) hS (lv_sub hl [0, 1] rfl)
          exact J_65 _ (0 : Nat) (L, bs) vGoing rfl (by decide) (rfl) (hL) (hG) (by show bs.length ≤ _; omega) H locs ls (hP.sub [0, 1, 2] rfl) (hD.sub [0, 1, 2] (by decide +kernel) rfl) hS (lv_sub hl [0, 1] rfl)
      · exact absurd c_3 (by decide)
  · exact absurd (by decide) c_1
set_option maxHeartbeats 2000000 in
set_option maxRecDepth 100000 in
theorem m_end3B (l : Launch) (dC : Nat → ClassId) (dI : Nat → Nat → Nat) (cI cM cO : ClassId) (sz : Nat) (o : Nat) (g : Nat → Nat) (fShift : Int32) (fModels : Int32) (fLow : Int64) (fRange : Int64) (fCache : Int32) (fPend : Int32) (fOuts : Int32) (fIns : Int32) (fReads : Int32) (fBad : Int32) (fIR : Int32) (fAsk : Int32) (fBAsk : Int32) (fCode : Int64) (fRL : Int64) (fRR : Int64) (fX : Int64) (fWrites : Int32) (fThrown : Int32) (vMany : Nat → Int32) (vCounts : Nat → Int32) (vNow : Nat → Int32) (vIM : Nat → Int32) (vIW : Nat → Int32) (vGoing : Nat → Int32) (vOut : Nat → Int32) (vWr : Nat → Int32) (km : Nat) (N : Nat → Nat) (its : List It) (hmod : fModels = nI km) (hMD : MD km N vMany vCounts) (hki : its.length ≤ 600) (hit : itIs vIM vIW its) (hok : ∀ i, i < its.length → itOk 4096 12 km N vNow (itA its i)) : MetI l y_M_end (Cond.code y_M_end prog_14_method_31_code 2 (some .int) :: gw) ({ frames := 2, cells := 0, slots := 0, locals := 54 } : Room) (dC, dI) vwCl (kT cI cM cO) [Value.ref o] [(o, Sum.inr (9, mO g 3 fShift fModels (nI its.length) 0 fLow fRange fCache fPend 0 fOuts fIns fReads fBad fIR fAsk fBAsk fCode fRL fRR fX fWrites fThrown)), ((g 0), Sum.inl (cI, 8, Sum.inl vMany)), ((g 1), Sum.inl (cI, 512, Sum.inl vCounts)), ((g 2), Sum.inl (cI, 512, Sum.inl vNow)), ((g 4), Sum.inl (cI, 600, Sum.inl vIM)), ((g 5), Sum.inl (cI, 600, Sum.inl vIW)), ((g 6), Sum.inl (cI, 9000, Sum.inl vGoing)), ((g 7), Sum.inl (cI, 9000, Sum.inl vOut)), ((g 11), Sum.inl (cI, 20000, Sum.inl vWr))] sz (fun (r : Int32) (u : (Nat → Int32) × (Nat → Int32) × (Nat → Int32) × Int32 × Int32 × Int32) => r = nI ((e3S (Fvw vNow) its).reverse).length ∧ u.2.2.2.2.1 = nI ((e3S (Fvw vNow) its).reverse).length ∧ gIs u.2.1 ((e3S (Fvw vNow) its).reverse)) (fun (u : (Nat → Int32) × (Nat → Int32) × (Nat → Int32) × Int32 × Int32 × Int32) => [(o, Sum.inr (9, mO g 3 fShift fModels (nI its.length) 1 fLow fRange fCache fPend u.2.2.2.1 u.2.2.2.2.1 fIns fReads fBad fIR fAsk fBAsk fCode fRL fRR fX u.2.2.2.2.2 0)), ((g 0), Sum.inl (cI, 8, Sum.inl vMany)), ((g 1), Sum.inl (cI, 512, Sum.inl vCounts)), ((g 2), Sum.inl (cI, 512, Sum.inl vNow)), ((g 4), Sum.inl (cI, 600, Sum.inl vIM)), ((g 5), Sum.inl (cI, 600, Sum.inl vIW)), ((g 6), Sum.inl (cI, 9000, Sum.inl u.1)), ((g 7), Sum.inl (cI, 9000, Sum.inl u.2.1)), ((g 11), Sum.inl (cI, 20000, Sum.inl u.2.2.1))]) 0 0 := by
  refine my_ofI (cc := prog_14_method_31_code) (n := 2) (ret := (some .int)) (by decide) rfl (Nat.le_of_ble_eq_true rfl) ?_
  intro p e s m args below meth c R Q A ls H locs hx hb hr hts hown hlocks hml hnm hR hQ hA hl hP hK hN hD hS
  have hg : ∀ w ∈ gw, w.before args s = true := fun w h => hts w (List.mem_cons_of_mem _ h)
  have hown : s.vm.findClass "RangeCodersModel" = some m.cls := hown
  have hl : lv_has ls 2 [(0, Value.ref o)] := hl
  refine lv_aload_n hx hb d_M_end_0 rfl (lv_at hl 0 rfl) ?_
  refine lv_iconst (v := 0) hx hb d_M_end_1 (by decide) ?_
  refine va_put (D := (dC, dI)) (ci := 9) (v := .int 0) (ty := .int) (C := "RangeCodersModel") (T := T_M) (N := 35) hx hb hg in_M t_M o_M n_M hown hK hP hD hS 0 rfl rfl 34 (by decide) (hg _ k986) (fun _ h9 => h9) rfl (o_M 34 (by decide)) rfl rfl (Nat.le_of_ble_eq_true rfl) d_M_end_2 (fun H locs hP hD hS => ?_)
  have hPD : my_PD (dC, dI) vwCl A [(o, Sum.inr (9, mO g 3 fShift fModels (nI its.length) 0 fLow fRange fCache fPend 0 fOuts fIns fReads fBad fIR fAsk fBAsk fCode fRL fRR fX fWrites 0)), ((g 0), Sum.inl (cI, 8, Sum.inl vMany)), ((g 1), Sum.inl (cI, 512, Sum.inl vCounts)), ((g 2), Sum.inl (cI, 512, Sum.inl vNow)), ((g 4), Sum.inl (cI, 600, Sum.inl vIM)), ((g 5), Sum.inl (cI, 600, Sum.inl vIW)), ((g 6), Sum.inl (cI, 9000, Sum.inl vGoing)), ((g 7), Sum.inl (cI, 9000, Sum.inl vOut)), ((g 11), Sum.inl (cI, 20000, Sum.inl vWr))] H := ⟨hP, hD⟩
  have hP := hPD.1
  have hD := hPD.2
  refine lv_aload_n hx hb d_M_end_5 rfl (lv_at hl 0 rfl) ?_
  refine va_get (D := (dC, dI)) (ci := 9) (v := .int 0) (C := "RangeCodersModel") (T := T_M) (N := 35) hx hb hg in_M hown hK hP 0 rfl rfl 10 (by decide) (hg _ k962) (fun _ h9 => h9) rfl d_M_end_6 ?_
  refine lv_if_eq (tgt := 15) hx hb d_M_end_9 (by decide) (fun c_1 => ?_) (fun c_1 => ?_)
  · refine lv_aload_n hx hb d_M_end_15 rfl (lv_at hl 0 rfl) ?_
    refine lv_iconst (v := 1) hx hb d_M_end_16 (by decide) ?_
    refine va_put (D := (dC, dI)) (ci := 9) (v := .int 1) (ty := .boolean) (C := "RangeCodersModel") (T := T_M) (N := 35) hx hb hg in_M t_M o_M n_M hown hK hP hD hS 0 rfl rfl 10 (by decide) (hg _ k962) (fun _ h9 => h9) rfl (o_M 10 (by decide)) rfl rfl (Nat.le_of_ble_eq_true rfl) d_M_end_17 (fun H locs hP hD hS => ?_)
    have hPD : my_PD (dC, dI) vwCl A [(o, Sum.inr (9, mO g 3 fShift fModels (nI its.length) 1 fLow fRange fCache fPend 0 fOuts fIns fReads fBad fIR fAsk fBAsk fCode fRL fRR fX fWrites 0)), ((g 0), Sum.inl (cI, 8, Sum.inl vMany)), ((g 1), Sum.inl (cI, 512, Sum.inl vCounts)), ((g 2), Sum.inl (cI, 512, Sum.inl vNow)), ((g 4), Sum.inl (cI, 600, Sum.inl vIM)), ((g 5), Sum.inl (cI, 600, Sum.inl vIW)), ((g 6), Sum.inl (cI, 9000, Sum.inl vGoing)), ((g 7), Sum.inl (cI, 9000, Sum.inl vOut)), ((g 11), Sum.inl (cI, 20000, Sum.inl vWr))] H := ⟨hP, hD⟩
    have hP := hPD.1
    have hD := hPD.2
    refine lv_aload_n hx hb d_M_end_20 rfl (lv_at hl 0 rfl) ?_
    refine va_get (D := (dC, dI)) (ci := 9) (v := .int 3) (C := "RangeCodersModel") (T := T_M) (N := 35) hx hb hg in_M hown hK hP 0 rfl rfl 0 (by decide) (hg _ k952) (fun _ h9 => h9) rfl d_M_end_21 ?_
    refine lv_if_eq (tgt := 35) hx hb d_M_end_24 (by decide) (fun c_2 => ?_) (fun c_2 => ?_)
    · exact absurd c_2 (by decide)
    · refine lv_aload_n hx hb d_M_end_27 rfl (lv_at hl 0 rfl) ?_
      refine va_get (D := (dC, dI)) (ci := 9) (v := .int 3) (C := "RangeCodersModel") (T := T_M) (N := 35) hx hb hg in_M hown hK hP 0 rfl rfl 0 (by decide) (hg _ k952) (fun _ h9 => h9) rfl d_M_end_28 ?_
      refine lv_iconst (v := 2) hx hb d_M_end_31 (by decide) ?_
      refine lv_icmp_ne (tgt := 55) hx hb d_M_end_32 (by decide) (fun c_3 => ?_) (fun c_3 => ?_)
      · refine lv_aload_n hx hb d_M_end_55 rfl (lv_at hl 0 rfl) ?_
        refine va_get (D := (dC, dI)) (ci := 9) (v := .int 3) (C := "RangeCodersModel") (T := T_M) (N := 35) hx hb hg in_M hown hK hP 0 rfl rfl 0 (by decide) (hg _ k952) (fun _ h9 => h9) rfl d_M_end_56 ?_
        refine lv_iconst (v := 1) hx hb d_M_end_59 (by decide) ?_
        refine lv_icmp_ne (tgt := 106) hx hb d_M_end_60 (by decide) (fun c_4 => ?_) (fun c_4 => ?_)
        · refine lv_aload_n hx hb d_M_end_106 rfl (lv_at hl 0 rfl) ?_
          refine va_get (D := (dC, dI)) (ci := 9) (v := .int 3) (C := "RangeCodersModel") (T := T_M) (N := 35) hx hb hg in_M hown hK hP 0 rfl rfl 0 (by decide) (hg _ k952) (fun _ h9 => h9) rfl d_M_end_107 ?_
          refine lv_iconst (v := 3) hx hb d_M_end_110 (by decide) ?_
          refine lv_icmp_ne (tgt := 121) hx hb d_M_end_111 (by decide) (fun c_5 => ?_) (fun c_5 => ?_)
          · exact absurd rfl c_5
          · refine lv_aload_n hx hb d_M_end_114 rfl (lv_at hl 0 rfl) ?_
            refine my_cv (wr := [((g 0), Sum.inl (cI, 8, Sum.inl vMany)), ((g 1), Sum.inl (cI, 512, Sum.inl vCounts)), ((g 7), Sum.inl (cI, 9000, Sum.inl vOut))]) (va_runV (As := []) (rest := []) ⟨hx, hb, hml, hown, hts⟩ (c_M_endStack l dC dI cI cM cO H.size o g 3 fShift fModels 1 fLow fRange fCache fPend fOuts fIns fReads fBad fIR fAsk fBAsk fCode fRL fRR fX fWrites 0 vNow vIM vIW vGoing vWr its ([] : List Nat) N (Fvw vNow) (hit) (fun i hi => it3_of hMD (hok i hi)) (hki) (fun i hi => absurd hi (Nat.not_lt_zero i)) (Nat.zero_le _)) (cwV 0 hts (my_gV k1151 k1153 ks40 k12 k1154) rfl rfl rfl cu_M_endStack_0 ⟨by rw [hR]; exact Nat.le_of_ble_eq_true rfl, by rw [hR]; exact Nat.le_of_ble_eq_true rfl⟩) (my_preV hK hN (hP.sub [0, 3, 4, 5, 6, 8] rfl) (hD.sub [0, 3, 4, 5, 6, 8] (by decide +kernel) rfl) 0 rfl rfl) rfl rfl hl.1 rfl (lv_room (Nat.le_of_ble_eq_true rfl)) d_M_end_115 ⟨by rw [hR]; exact Nat.le_of_ble_eq_true rfl, by rw [hR]; exact Nat.le_of_ble_eq_true rfl⟩) hP hD hS hA [0, 3, 4, 5, 6, 8] [1, 2, 7] rfl rfl (by decide +kernel) (by decide +kernel) (fun u9 H locs hw_115 hP hD hS => ?_)
            obtain ⟨g2_115, w2_115⟩ := u9
            have hw_115 : gIs g2_115 (([] : List Nat) ++ (e3S (Fvw vNow) its).reverse.map (· % 256)) := hw_115
            have hPD : my_PD (dC, dI) vwCl A [((g 0), Sum.inl (cI, 8, Sum.inl vMany)), ((g 1), Sum.inl (cI, 512, Sum.inl vCounts)), ((g 7), Sum.inl (cI, 9000, Sum.inl vOut)), (o, Sum.inr (9, mO g 3 fShift fModels (nI its.length) 1 fLow fRange fCache fPend (nI (([] : List Nat) ++ (e3S (Fvw vNow) its).reverse.map (· % 256)).length) fOuts fIns fReads fBad fIR fAsk fBAsk fCode fRL fRR fX (nI (e3S (Fvw vNow) its).length) 0)), ((g 2), Sum.inl (cI, 512, Sum.inl vNow)), ((g 4), Sum.inl (cI, 600, Sum.inl vIM)), ((g 5), Sum.inl (cI, 600, Sum.inl vIW)), ((g 6), Sum.inl (cI, 9000, Sum.inl g2_115)), ((g 11), Sum.inl (cI, 20000, Sum.inl w2_115))] H := ⟨hP, hD⟩
            have hP := hPD.1
            have hD := hPD.2
            refine lv_goto (tgt := 125) hx hb d_M_end_118 (by decide) ?_
            have hP := hP
            rw [e3_out] at hP hD hw_115
            obtain ⟨b9, hb9⟩ : ∃ b, b = (e3S (Fvw vNow) its).reverse := ⟨_, rfl⟩
            rw [← hb9] at hP hD hw_115
            have hl9 : b9.length ≤ 4804 := by rw [hb9, List.length_reverse]; have := e3S_len (Fvw vNow) its; omega
            have hPD : my_PD (dC, dI) vwCl A [((g 0), Sum.inl (cI, 8, Sum.inl vMany)), ((g 1), Sum.inl (cI, 512, Sum.inl vCounts)), ((g 7), Sum.inl (cI, 9000, Sum.inl vOut)), (o, Sum.inr (9, mO g 3 fShift fModels (nI its.length) 1 fLow fRange fCache fPend (nI b9.length) fOuts fIns fReads fBad fIR fAsk fBAsk fCode fRL fRR fX (nI (e3S (Fvw vNow) its).length) 0)), ((g 2), Sum.inl (cI, 512, Sum.inl vNow)), ((g 4), Sum.inl (cI, 600, Sum.inl vIM)), ((g 5), Sum.inl (cI, 600, Sum.inl vIW)), ((g 6), Sum.inl (cI, 9000, Sum.inl g2_115)), ((g 11), Sum.inl (cI, 20000, Sum.inl w2_115))] H := ⟨hP, hD⟩
            have hP := hPD.1
            have hD := hPD.2
            refine lv_aload_n hx hb d_M_end_125 rfl (lv_at hl 0 rfl) ?_
            refine lv_aload_n hx hb d_M_end_126 rfl (lv_at hl 0 rfl) ?_
            refine va_get (D := (dC, dI)) (ci := 9) (v := .int (nI b9.length)) (C := "RangeCodersModel") (T := T_M) (N := 35) hx hb hg in_M hown hK hP 3 rfl rfl 16 (by decide) (hg _ k968) (fun _ h9 => h9) rfl d_M_end_127 ?_
            refine va_put (D := (dC, dI)) (ci := 9) (v := .int (nI b9.length)) (ty := .int) (C := "RangeCodersModel") (T := T_M) (N := 35) hx hb hg in_M t_M o_M n_M hown hK hP hD hS 3 rfl rfl 18 (by decide) (hg _ k970) (fun _ h9 => h9) rfl (o_M 18 (by decide)) rfl rfl (Nat.le_of_ble_eq_true rfl) d_M_end_130 (fun H locs hP hD hS => ?_)
            have hPD : my_PD (dC, dI) vwCl A [((g 0), Sum.inl (cI, 8, Sum.inl vMany)), ((g 1), Sum.inl (cI, 512, Sum.inl vCounts)), ((g 7), Sum.inl (cI, 9000, Sum.inl vOut)), (o, Sum.inr (9, mO g 3 fShift fModels (nI its.length) 1 fLow fRange fCache fPend (nI b9.length) (nI b9.length) fIns fReads fBad fIR fAsk fBAsk fCode fRL fRR fX (nI (e3S (Fvw vNow) its).length) 0)), ((g 2), Sum.inl (cI, 512, Sum.inl vNow)), ((g 4), Sum.inl (cI, 600, Sum.inl vIM)), ((g 5), Sum.inl (cI, 600, Sum.inl vIW)), ((g 6), Sum.inl (cI, 9000, Sum.inl g2_115)), ((g 11), Sum.inl (cI, 20000, Sum.inl w2_115))] H := ⟨hP, hD⟩
            have hP := hPD.1
            have hD := hPD.2
            refine lv_iconst (v := 0) hx hb d_M_end_133 (by decide) ?_
            refine lv_istore_n (lv' := [(1, Value.int 0), (0, Value.ref o)]) hx hb d_M_end_134 rfl hl (by decide) rfl (fun ls hl => ?_)
            have J_135 : ∀ (n9_135 : Nat) (kk : Nat) (fO : Nat → Int32) (hn9_135 : (b9).length - kk = n9_135) (hkk : kk ≤ (b9).length) (hc : ∀ i, i < kk → fO i = g2_115 i) (H : Heap) (locs : List Loc) (ls : Array Slot), va_P (dC, dI) vwCl [((g 0), Sum.inl (cI, 8, Sum.inl vMany)), ((g 1), Sum.inl (cI, 512, Sum.inl vCounts)), ((g 7), Sum.inl (cI, 9000, Sum.inl fO)), (o, Sum.inr (9, mO g 3 fShift fModels (nI its.length) 1 fLow fRange fCache fPend (nI b9.length) (nI b9.length) fIns fReads fBad fIR fAsk fBAsk fCode fRL fRR fX (nI (e3S (Fvw vNow) its).length) 0)), ((g 2), Sum.inl (cI, 512, Sum.inl vNow)), ((g 4), Sum.inl (cI, 600, Sum.inl vIM)), ((g 5), Sum.inl (cI, 600, Sum.inl vIW)), ((g 6), Sum.inl (cI, 9000, Sum.inl g2_115)), ((g 11), Sum.inl (cI, 20000, Sum.inl w2_115))] H → va_D A [((g 0), Sum.inl (cI, 8, Sum.inl vMany)), ((g 1), Sum.inl (cI, 512, Sum.inl vCounts)), ((g 7), Sum.inl (cI, 9000, Sum.inl fO)), (o, Sum.inr (9, mO g 3 fShift fModels (nI its.length) 1 fLow fRange fCache fPend (nI b9.length) (nI b9.length) fIns fReads fBad fIR fAsk fBAsk fCode fRL fRR fX (nI (e3S (Fvw vNow) its).length) 0)), ((g 2), Sum.inl (cI, 512, Sum.inl vNow)), ((g 4), Sum.inl (cI, 600, Sum.inl vIM)), ((g 5), Sum.inl (cI, 600, Sum.inl vIW)), ((g 6), Sum.inl (cI, 9000, Sum.inl g2_115)), ((g 11), Sum.inl (cI, 20000, Sum.inl w2_115))] → va_S A s.heap H locs → lv_has ls 2 [(1, Value.int (nI kk)), (0, Value.ref o)] → W p l e R s m args below meth c H locs 0 0 Q (F0 m 135 ls []) := by
              intro n9_135
              induction n9_135 using Nat.strongRecOn with
              | ind n9_135 ih9_135 =>
                intro kk fO hn9_135 hkk hc H locs ls hP hD hS hl
                refine lv_iload_n hx hb d_M_end_135 rfl (lv_at hl 0 rfl) ?_
                refine lv_aload_n hx hb d_M_end_136 rfl (lv_at hl 1 rfl) ?_
                refine va_get (D := (dC, dI)) (ci := 9) (v := .int (nI b9.length)) (C := "RangeCodersModel") (T := T_M) (N := 35) hx hb hg in_M hown hK hP 3 rfl rfl 16 (by decide) (hg _ k968) (fun _ h9 => h9) rfl d_M_end_137 ?_
                refine lv_icmp_ge (tgt := 161) hx hb d_M_end_140 (by decide) (fun c_6 => ?_) (fun c_6 => ?_)
                · have hkn : kk = (b9).length := by have := (nI_cmp (a := (b9).length) (b := kk) (by omega) (by omega)).mp c_6; omega
                  subst hkn
                  refine lv_aload_n hx hb d_M_end_161 rfl (lv_at hl 1 rfl) ?_
                  refine va_get (D := (dC, dI)) (ci := 9) (v := .int (nI b9.length)) (C := "RangeCodersModel") (T := T_M) (N := 35) hx hb hg in_M hown hK hP 3 rfl rfl 18 (by decide) (hg _ k970) (fun _ h9 => h9) rfl d_M_end_162 ?_
                  exact my_iret (v := nI b9.length) hx hb hr (rfl) hlocks hQ hK hS (Nat.le_refl _) (Nat.le_refl _) (g2_115, fO, w2_115, nI b9.length, nI b9.length, nI (e3S (Fvw vNow) its).length) (⟨by rw [← hb9], by rw [← hb9], by rw [← hb9]; exact gIs_cp hw_115 hc⟩) (hP.sub [3, 0, 1, 4, 5, 6, 7, 2, 8] rfl) (hD.sub [3, 0, 1, 4, 5, 6, 7, 2, 8] (by decide +kernel) rfl) d_M_end_165
                · have hkl : kk < (b9).length := by
                    rcases Nat.lt_or_ge kk (b9).length with z | z
                    · exact z
                    · exact absurd (nI_le z (by omega)) c_6
                  refine lv_aload_n hx hb d_M_end_143 rfl (lv_at hl 1 rfl) ?_
                  refine va_get (D := (dC, dI)) (ci := 9) (v := .ref (g 7)) (C := "RangeCodersModel") (T := T_M) (N := 35) hx hb hg in_M hown hK hP 3 rfl rfl 17 (by decide) (hg _ k969) (fun _ h9 => h9) rfl d_M_end_144 ?_
                  refine lv_iload_n hx hb d_M_end_147 rfl (lv_at hl 0 rfl) ?_
                  refine lv_aload_n hx hb d_M_end_148 rfl (lv_at hl 1 rfl) ?_
                  refine va_get (D := (dC, dI)) (ci := 9) (v := .ref (g 6)) (C := "RangeCodersModel") (T := T_M) (N := 35) hx hb hg in_M hown hK hP 3 rfl rfl 15 (by decide) (hg _ k967) (fun _ h9 => h9) rfl d_M_end_149 ?_
                  refine lv_iload_n hx hb d_M_end_152 rfl (lv_at hl 0 rfl) ?_
                  refine va_iald hx hb hK hP 7 0 rfl rfl (vp_in_nI (by omega) (by decide)) d_M_end_153 ?_
                  refine lv_topi (fun v_7 ev_7 => ?_)
                  refine va_iast hx hb hK hP hD hS 2 0 rfl rfl (vp_in_nI (by omega) (by decide)) d_M_end_154 (fun H locs hP hD hS => ?_)
                  have hPD : my_PD (dC, dI) vwCl A [((g 0), Sum.inl (cI, 8, Sum.inl vMany)), ((g 1), Sum.inl (cI, 512, Sum.inl vCounts)), ((g 7), Sum.inl (cI, 9000, Sum.inl (upd fO (nI kk).toNatClampNeg v_7))), (o, Sum.inr (9, mO g 3 fShift fModels (nI its.length) 1 fLow fRange fCache fPend (nI b9.length) (nI b9.length) fIns fReads fBad fIR fAsk fBAsk fCode fRL fRR fX (nI (e3S (Fvw vNow) its).length) 0)), ((g 2), Sum.inl (cI, 512, Sum.inl vNow)), ((g 4), Sum.inl (cI, 600, Sum.inl vIM)), ((g 5), Sum.inl (cI, 600, Sum.inl vIW)), ((g 6), Sum.inl (cI, 9000, Sum.inl g2_115)), ((g 11), Sum.inl (cI, 20000, Sum.inl w2_115))] H := ⟨hP, hD⟩
                  have hP := hPD.1
                  have hD := hPD.2
                  have hc8 : ∀ i, i < kk + 1 → (upd fO (nI kk).toNatClampNeg v_7) i = g2_115 i := cp_st hc (nI_clamp (by omega)) (by rw [ev_7, nI_clamp (by omega)])
                  obtain ⟨v_8, ev_8⟩ : ∃ y : Int32, y = (nI kk) + (1) := ⟨_, rfl⟩
                  refine lv_iinc (v := v_8) (lv' := [(1, Value.int v_8), (0, Value.ref o)]) hx hb d_M_end_155 hl (k := 0) rfl (by rw [ev_8]; rfl) (by decide) rfl (fun ls hl => ?_)
                  have z9 : v_8 = nI (kk + 1) := by rw [ev_8]; exact nI_1 _
                  subst z9
                  refine lv_goto (tgt := 135) hx hb d_M_end_158 (by decide) ?_
                  exact ih9_135 _ (by first | omega | (omega)) (kk + 1) (upd fO (nI kk).toNatClampNeg v_7) rfl (by omega) (hc8) H locs ls (hP.sub [0, 1, 2, 3, 4, 5, 6, 7, 8] rfl) (hD.sub [0, 1, 2, 3, 4, 5, 6, 7, 8] (by decide +kernel) rfl) hS (lv_sub hl [0, 1] rfl)
            exact J_135 _ (0 : Nat) vOut rfl (Nat.zero_le _) (fun _ z => absurd z (Nat.not_lt_zero _)) H locs ls (hP.sub [0, 1, 2, 3, 4, 5, 6, 7, 8] rfl) (hD.sub [0, 1, 2, 3, 4, 5, 6, 7, 8] (by decide +kernel) rfl) hS (lv_sub hl [0, 1] rfl)
        · exact absurd c_4 (by decide)
      · exact absurd c_3 (by decide)
  · exact absurd (by decide) c_1
set_option maxHeartbeats 2000000 in
set_option maxRecDepth 100000 in
theorem m_start (l : Launch) (dC : Nat → ClassId) (dI : Nat → Nat → Nat) (cI cM cO : ClassId) (sz : Nat) (o : Nat) (g : Nat → Nat) (fForm : Int32) (fShift : Int32) (fModels : Int32) (fItems : Int32) (fEnded : Int32) (fLow : Int64) (fRange : Int64) (fCache : Int32) (fPend : Int32) (fGoes : Int32) (fOuts : Int32) (fIns : Int32) (fReads : Int32) (fBad : Int32) (fIR : Int32) (fAsk : Int32) (fBAsk : Int32) (fCode : Int64) (fRL : Int64) (fRR : Int64) (fX : Int64) (fWrites : Int32) (fThrown : Int32) (vMany : Nat → Int32) (vCounts : Nat → Int32) (vNow : Nat → Int32) (fm : Nat) (km : Nat) (N : Nat → Nat) (hfm : fm ≤ 4) (hform : fForm = nI fm) (hmod : fModels = nI km) (hMD : MD km N vMany vCounts) : MetV l y_M_start (Cond.code y_M_start prog_14_method_15_code 2 none :: gw) ({ frames := 3, cells := 0, slots := 0, locals := 75 } : Room) (dC, dI) vwCl (kT cI cM cO) [Value.ref o] [(o, Sum.inr (9, mO g fForm fShift fModels fItems fEnded fLow fRange fCache fPend fGoes fOuts fIns fReads fBad fIR fAsk fBAsk fCode fRL fRR fX fWrites fThrown)), ((g 0), Sum.inl (cI, 8, Sum.inl vMany)), ((g 1), Sum.inl (cI, 512, Sum.inl vCounts)), ((g 2), Sum.inl (cI, 512, Sum.inl vNow))] sz (fun (u : (Nat → Int32)) => pfA fm km N vCounts u) (fun (u : (Nat → Int32)) => [(o, Sum.inr (9, mO g fForm fShift fModels 0 0 0 4294967295 (-1) 0 0 fOuts fIns fReads fBad fIR fAsk fBAsk fCode fRL fRR fX fWrites fThrown)), ((g 0), Sum.inl (cI, 8, Sum.inl vMany)), ((g 1), Sum.inl (cI, 512, Sum.inl vCounts)), ((g 2), Sum.inl (cI, 512, Sum.inl u))]) 0 0 := by
  refine my_ofV (cc := prog_14_method_15_code) (n := 2) (ret := none) (by decide) rfl (Nat.le_of_ble_eq_true rfl) ?_
  intro p e s m args below meth c R Q A ls H locs hx hb hr hts hown hlocks hml hnm hR hQ hA hl hP hK hN hD hS
  have hg : ∀ w ∈ gw, w.before args s = true := fun w h => hts w (List.mem_cons_of_mem _ h)
  have hown : s.vm.findClass "RangeCodersModel" = some m.cls := hown
  have hl : lv_has ls 2 [(0, Value.ref o)] := hl
  refine lv_aload_n hx hb d_M_start_0 rfl (lv_at hl 0 rfl) ?_
  refine lv_iconst (v := 0) hx hb d_M_start_1 (by decide) ?_
  refine va_put (D := (dC, dI)) (ci := 9) (v := .int 0) (ty := .int) (C := "RangeCodersModel") (T := T_M) (N := 35) hx hb hg in_M t_M o_M n_M hown hK hP hD hS 0 rfl rfl 7 (by decide) (hg _ k959) (fun _ h9 => h9) rfl (o_M 7 (by decide)) rfl rfl (Nat.le_of_ble_eq_true rfl) d_M_start_2 (fun H locs hP hD hS => ?_)
  have hPD : my_PD (dC, dI) vwCl A [(o, Sum.inr (9, mO g fForm fShift fModels 0 fEnded fLow fRange fCache fPend fGoes fOuts fIns fReads fBad fIR fAsk fBAsk fCode fRL fRR fX fWrites fThrown)), ((g 0), Sum.inl (cI, 8, Sum.inl vMany)), ((g 1), Sum.inl (cI, 512, Sum.inl vCounts)), ((g 2), Sum.inl (cI, 512, Sum.inl vNow))] H := ⟨hP, hD⟩
  have hP := hPD.1
  have hD := hPD.2
  refine lv_aload_n hx hb d_M_start_5 rfl (lv_at hl 0 rfl) ?_
  refine lv_iconst (v := 0) hx hb d_M_start_6 (by decide) ?_
  refine va_put (D := (dC, dI)) (ci := 9) (v := .int 0) (ty := .boolean) (C := "RangeCodersModel") (T := T_M) (N := 35) hx hb hg in_M t_M o_M n_M hown hK hP hD hS 0 rfl rfl 10 (by decide) (hg _ k962) (fun _ h9 => h9) rfl (o_M 10 (by decide)) rfl rfl (Nat.le_of_ble_eq_true rfl) d_M_start_7 (fun H locs hP hD hS => ?_)
  have hPD : my_PD (dC, dI) vwCl A [(o, Sum.inr (9, mO g fForm fShift fModels 0 0 fLow fRange fCache fPend fGoes fOuts fIns fReads fBad fIR fAsk fBAsk fCode fRL fRR fX fWrites fThrown)), ((g 0), Sum.inl (cI, 8, Sum.inl vMany)), ((g 1), Sum.inl (cI, 512, Sum.inl vCounts)), ((g 2), Sum.inl (cI, 512, Sum.inl vNow))] H := ⟨hP, hD⟩
  have hP := hPD.1
  have hD := hPD.2
  refine lv_aload_n hx hb d_M_start_10 rfl (lv_at hl 0 rfl) ?_
  refine lv_lconst (v := 0) hx hb d_M_start_11 (by decide) ?_
  refine va_put (D := (dC, dI)) (ci := 9) (v := .long 0) (ty := .long) (C := "RangeCodersModel") (T := T_M) (N := 35) hx hb hg in_M t_M o_M n_M hown hK hP hD hS 0 rfl rfl 11 (by decide) (hg _ k963) (fun _ h9 => h9) rfl (o_M 11 (by decide)) rfl rfl (Nat.le_of_ble_eq_true rfl) d_M_start_12 (fun H locs hP hD hS => ?_)
  have hPD : my_PD (dC, dI) vwCl A [(o, Sum.inr (9, mO g fForm fShift fModels 0 0 0 fRange fCache fPend fGoes fOuts fIns fReads fBad fIR fAsk fBAsk fCode fRL fRR fX fWrites fThrown)), ((g 0), Sum.inl (cI, 8, Sum.inl vMany)), ((g 1), Sum.inl (cI, 512, Sum.inl vCounts)), ((g 2), Sum.inl (cI, 512, Sum.inl vNow))] H := ⟨hP, hD⟩
  have hP := hPD.1
  have hD := hPD.2
  refine lv_aload_n hx hb d_M_start_15 rfl (lv_at hl 0 rfl) ?_
  refine lv_ldc2 (v := 4294967295) hx hb hown (hg _ k927) d_M_start_16 ?_
  refine va_put (D := (dC, dI)) (ci := 9) (v := .long 4294967295) (ty := .long) (C := "RangeCodersModel") (T := T_M) (N := 35) hx hb hg in_M t_M o_M n_M hown hK hP hD hS 0 rfl rfl 12 (by decide) (hg _ k964) (fun _ h9 => h9) rfl (o_M 12 (by decide)) rfl rfl (Nat.le_of_ble_eq_true rfl) d_M_start_19 (fun H locs hP hD hS => ?_)
  have hPD : my_PD (dC, dI) vwCl A [(o, Sum.inr (9, mO g fForm fShift fModels 0 0 0 4294967295 fCache fPend fGoes fOuts fIns fReads fBad fIR fAsk fBAsk fCode fRL fRR fX fWrites fThrown)), ((g 0), Sum.inl (cI, 8, Sum.inl vMany)), ((g 1), Sum.inl (cI, 512, Sum.inl vCounts)), ((g 2), Sum.inl (cI, 512, Sum.inl vNow))] H := ⟨hP, hD⟩
  have hP := hPD.1
  have hD := hPD.2
  refine lv_aload_n hx hb d_M_start_22 rfl (lv_at hl 0 rfl) ?_
  refine lv_iconst (v := (-1)) hx hb d_M_start_23 (by decide) ?_
  refine va_put (D := (dC, dI)) (ci := 9) (v := .int (-1)) (ty := .int) (C := "RangeCodersModel") (T := T_M) (N := 35) hx hb hg in_M t_M o_M n_M hown hK hP hD hS 0 rfl rfl 13 (by decide) (hg _ k965) (fun _ h9 => h9) rfl (o_M 13 (by decide)) rfl rfl (Nat.le_of_ble_eq_true rfl) d_M_start_24 (fun H locs hP hD hS => ?_)
  have hPD : my_PD (dC, dI) vwCl A [(o, Sum.inr (9, mO g fForm fShift fModels 0 0 0 4294967295 (-1) fPend fGoes fOuts fIns fReads fBad fIR fAsk fBAsk fCode fRL fRR fX fWrites fThrown)), ((g 0), Sum.inl (cI, 8, Sum.inl vMany)), ((g 1), Sum.inl (cI, 512, Sum.inl vCounts)), ((g 2), Sum.inl (cI, 512, Sum.inl vNow))] H := ⟨hP, hD⟩
  have hP := hPD.1
  have hD := hPD.2
  refine lv_aload_n hx hb d_M_start_27 rfl (lv_at hl 0 rfl) ?_
  refine lv_iconst (v := 0) hx hb d_M_start_28 (by decide) ?_
  refine va_put (D := (dC, dI)) (ci := 9) (v := .int 0) (ty := .int) (C := "RangeCodersModel") (T := T_M) (N := 35) hx hb hg in_M t_M o_M n_M hown hK hP hD hS 0 rfl rfl 14 (by decide) (hg _ k966) (fun _ h9 => h9) rfl (o_M 14 (by decide)) rfl rfl (Nat.le_of_ble_eq_true rfl) d_M_start_29 (fun H locs hP hD hS => ?_)
  have hPD : my_PD (dC, dI) vwCl A [(o, Sum.inr (9, mO g fForm fShift fModels 0 0 0 4294967295 (-1) 0 fGoes fOuts fIns fReads fBad fIR fAsk fBAsk fCode fRL fRR fX fWrites fThrown)), ((g 0), Sum.inl (cI, 8, Sum.inl vMany)), ((g 1), Sum.inl (cI, 512, Sum.inl vCounts)), ((g 2), Sum.inl (cI, 512, Sum.inl vNow))] H := ⟨hP, hD⟩
  have hP := hPD.1
  have hD := hPD.2
  refine lv_aload_n hx hb d_M_start_32 rfl (lv_at hl 0 rfl) ?_
  refine lv_iconst (v := 0) hx hb d_M_start_33 (by decide) ?_
  refine va_put (D := (dC, dI)) (ci := 9) (v := .int 0) (ty := .int) (C := "RangeCodersModel") (T := T_M) (N := 35) hx hb hg in_M t_M o_M n_M hown hK hP hD hS 0 rfl rfl 16 (by decide) (hg _ k968) (fun _ h9 => h9) rfl (o_M 16 (by decide)) rfl rfl (Nat.le_of_ble_eq_true rfl) d_M_start_34 (fun H locs hP hD hS => ?_)
  have hPD : my_PD (dC, dI) vwCl A [(o, Sum.inr (9, mO g fForm fShift fModels 0 0 0 4294967295 (-1) 0 0 fOuts fIns fReads fBad fIR fAsk fBAsk fCode fRL fRR fX fWrites fThrown)), ((g 0), Sum.inl (cI, 8, Sum.inl vMany)), ((g 1), Sum.inl (cI, 512, Sum.inl vCounts)), ((g 2), Sum.inl (cI, 512, Sum.inl vNow))] H := ⟨hP, hD⟩
  have hP := hPD.1
  have hD := hPD.2
  refine lv_iconst (v := 0) hx hb d_M_start_37 (by decide) ?_
  refine lv_istore_n (lv' := [(1, Value.int 0), (0, Value.ref o)]) hx hb d_M_start_38 rfl hl (by decide) rfl (fun ls hl => ?_)
  have J_39 : ∀ (n9_39 : Nat) (jj : Nat) (fN : Nat → Int32) (hn9_39 : km - jj = n9_39) (hjj : jj ≤ km) (hT9 : pfA fm jj N vCounts fN) (H : Heap) (locs : List Loc) (ls : Array Slot), va_P (dC, dI) vwCl [(o, Sum.inr (9, mO g fForm fShift fModels 0 0 0 4294967295 (-1) 0 0 fOuts fIns fReads fBad fIR fAsk fBAsk fCode fRL fRR fX fWrites fThrown)), ((g 0), Sum.inl (cI, 8, Sum.inl vMany)), ((g 1), Sum.inl (cI, 512, Sum.inl vCounts)), ((g 2), Sum.inl (cI, 512, Sum.inl fN))] H → va_D A [(o, Sum.inr (9, mO g fForm fShift fModels 0 0 0 4294967295 (-1) 0 0 fOuts fIns fReads fBad fIR fAsk fBAsk fCode fRL fRR fX fWrites fThrown)), ((g 0), Sum.inl (cI, 8, Sum.inl vMany)), ((g 1), Sum.inl (cI, 512, Sum.inl vCounts)), ((g 2), Sum.inl (cI, 512, Sum.inl fN))] → va_S A s.heap H locs → lv_has ls 2 [(1, Value.int (nI jj)), (0, Value.ref o)] → W p l e R s m args below meth c H locs 0 0 Q (F0 m 39 ls []) := by
    intro n9_39
    induction n9_39 using Nat.strongRecOn with
    | ind n9_39 ih9_39 =>
      intro jj fN hn9_39 hjj hT9 H locs ls hP hD hS hl
      refine lv_iload_n hx hb d_M_start_39 rfl (lv_at hl 0 rfl) ?_
      refine lv_aload_n hx hb d_M_start_40 rfl (lv_at hl 1 rfl) ?_
      refine va_get (D := (dC, dI)) (ci := 9) (v := .int fModels) (C := "RangeCodersModel") (T := T_M) (N := 35) hx hb hg in_M hown hK hP 0 rfl rfl 2 (by decide) (hg _ k954) (fun _ h9 => h9) rfl d_M_start_41 ?_
      refine lv_icmp_ge (tgt := 62) hx hb d_M_start_44 (by decide) (fun c_1 => ?_) (fun c_1 => ?_)
      · have hjk : jj = km := by
          have hk8 := hMD.1
          rw [hmod] at c_1
          have := (nI_cmp (by omega) (by omega)).mp c_1
          omega
        subst hjk
        exact my_vret hx hb hr hlocks hQ hK hS (Nat.le_refl _) (Nat.le_refl _) (fN) (hT9) (hP.sub [0, 1, 2, 3] rfl) (hD.sub [0, 1, 2, 3] (by decide +kernel) rfl) d_M_start_62
      · have hjl : jj < km := by
          rcases Nat.lt_or_ge jj km with z | z
          · exact z
          · exact absurd (by rw [hmod]; exact nI_le z (by have := hMD.1; omega)) c_1
        have hk8 := hMD.1
        obtain ⟨hn9, hn2, hn64, C9, hc9, hB9⟩ := hMD.2 jj hjl
        have hCC := MD_C hMD hjl
        refine lv_aload_n hx hb d_M_start_47 rfl (lv_at hl 1 rfl) ?_
        refine lv_aload_n hx hb d_M_start_48 rfl (lv_at hl 1 rfl) ?_
        refine va_get (D := (dC, dI)) (ci := 9) (v := .ref (g 2)) (C := "RangeCodersModel") (T := T_M) (N := 35) hx hb hg in_M hown hK hP 0 rfl rfl 5 (by decide) (hg _ k957) (fun _ h9 => h9) rfl d_M_start_49 ?_
        refine lv_iload_n hx hb d_M_start_52 rfl (lv_at hl 0 rfl) ?_
        refine my_cv (wr := []) (va_runV (As := [Value.ref (g 2), Value.int (nI jj)]) (rest := []) ⟨hx, hb, hml, hown, hts⟩ (c_M_prepare l dC dI cI cM cO H.size o g fForm fShift fModels 0 0 0 4294967295 (-1) 0 0 fOuts fIns fReads fBad fIR fAsk fBAsk fCode fRL fRR fX fWrites fThrown vMany vCounts (g 2) fN jj (N jj) fm (Fvw vCounts jj) (by omega) (hn9) (hn64) (by omega) (hfm) (hform) (hCC.1) (hCC.2)) (cwV 2 hts (my_gV k928 k930 ks19 k12 k931) rfl rfl rfl cu_M_prepare_2 ⟨by rw [hR]; exact Nat.le_of_ble_eq_true rfl, by rw [hR]; exact Nat.le_of_ble_eq_true rfl⟩) (my_preV hK hN (hP.sub [0, 1, 2, 3] rfl) (hD.sub [0, 1, 2, 3] (by decide +kernel) rfl) 0 rfl rfl) rfl rfl hl.1 rfl (lv_room (Nat.le_of_ble_eq_true rfl)) d_M_start_53 ⟨by rw [hR]; exact Nat.le_of_ble_eq_true rfl, by rw [hR]; exact Nat.le_of_ble_eq_true rfl⟩) hP hD hS hA [0, 1, 2, 3] [] rfl rfl (by decide +kernel) (by decide +kernel) (fun u9 H locs hw_53 hP hD hS => ?_)
        obtain ⟨f2_53, rfl⟩ : ∃ z, z = u9 := ⟨_, rfl⟩
        have hw_53 : sgI f2_53 (64 * jj) (pfN fm (N jj)) (pf fm (N jj) (Fvw vCounts jj)) ∧ sgO f2_53 fN (64 * jj) 64 := hw_53
        have hPD : my_PD (dC, dI) vwCl A [(o, Sum.inr (9, mO g fForm fShift fModels 0 0 0 4294967295 (-1) 0 0 fOuts fIns fReads fBad fIR fAsk fBAsk fCode fRL fRR fX fWrites fThrown)), ((g 0), Sum.inl (cI, 8, Sum.inl vMany)), ((g 1), Sum.inl (cI, 512, Sum.inl vCounts)), ((g 2), Sum.inl (cI, 512, Sum.inl f2_53))] H := ⟨hP, hD⟩
        have hP := hPD.1
        have hD := hPD.2
        have hT8 := pfA_st hT9 (MD_N hMD) hjl hw_53.2 hw_53.1
        obtain ⟨v_2, ev_2⟩ : ∃ y : Int32, y = (nI jj) + (1) := ⟨_, rfl⟩
        refine lv_iinc (v := v_2) (lv' := [(1, Value.int v_2), (0, Value.ref o)]) hx hb d_M_start_56 hl (k := 0) rfl (by rw [ev_2]; rfl) (by decide) rfl (fun ls hl => ?_)
        have z9 : v_2 = nI (jj + 1) := by rw [ev_2]; exact nI_1 _
        subst z9
        refine lv_goto (tgt := 39) hx hb d_M_start_59 (by decide) ?_
        exact ih9_39 _ (by first | omega | (omega)) (jj + 1) f2_53 rfl (by omega) (hT8) H locs ls (hP.sub [0, 1, 2, 3] rfl) (hD.sub [0, 1, 2, 3] (by decide +kernel) rfl) hS (lv_sub hl [0, 1] rfl)
  exact J_39 _ (0 : Nat) vNow rfl (Nat.zero_le _) (pfA_0 _ _ _ _) H locs ls (hP.sub [0, 1, 2, 3] rfl) (hD.sub [0, 1, 2, 3] (by decide +kernel) rfl) hS (lv_sub hl [0, 1] rfl)
set_option maxHeartbeats 2000000 in
set_option maxRecDepth 100000 in
theorem m_begin (l : Launch) (dC : Nat → ClassId) (dI : Nat → Nat → Nat) (cI cM cO : ClassId) (sz : Nat) (o : Nat) (g : Nat → Nat) (fForm : Int32) (fShift : Int32) (fModels : Int32) (fItems : Int32) (fEnded : Int32) (fLow : Int64) (fRange : Int64) (fCache : Int32) (fPend : Int32) (fGoes : Int32) (fOuts : Int32) (fIns : Int32) (fReads : Int32) (fBad : Int32) (fIR : Int32) (fAsk : Int32) (fBAsk : Int32) (fCode : Int64) (fRL : Int64) (fRR : Int64) (fX : Int64) (fWrites : Int32) (fThrown : Int32) (vMany : Nat → Int32) (vCounts : Nat → Int32) (vNow : Nat → Int32) (fm : Nat) (km : Nat) (N : Nat → Nat) (hfm : fm ≤ 4) (hform : fForm = nI fm) (hmod : fModels = nI km) (hMD : MD km N vMany vCounts) : MetI l y_M_begin (Cond.code y_M_begin prog_14_method_16_code 2 (some .int) :: gw) ({ frames := 4, cells := 0, slots := 0, locals := 96 } : Room) (dC, dI) vwCl (kT cI cM cO) [Value.ref o] [(o, Sum.inr (9, mO g fForm fShift fModels fItems fEnded fLow fRange fCache fPend fGoes fOuts fIns fReads fBad fIR fAsk fBAsk fCode fRL fRR fX fWrites fThrown)), ((g 0), Sum.inl (cI, 8, Sum.inl vMany)), ((g 1), Sum.inl (cI, 512, Sum.inl vCounts)), ((g 2), Sum.inl (cI, 512, Sum.inl vNow))] sz (fun (r : Int32) (u : (Nat → Int32)) => r = fItems ∧ pfA fm km N vCounts u) (fun (u : (Nat → Int32)) => [(o, Sum.inr (9, mO g fForm fShift fModels 0 0 0 4294967295 (-1) 0 0 fOuts fIns fReads fBad fIR fAsk fBAsk fCode fRL fRR fX fWrites 0)), ((g 0), Sum.inl (cI, 8, Sum.inl vMany)), ((g 1), Sum.inl (cI, 512, Sum.inl vCounts)), ((g 2), Sum.inl (cI, 512, Sum.inl u))]) 0 0 := by
  refine my_ofI (cc := prog_14_method_16_code) (n := 2) (ret := (some .int)) (by decide) rfl (Nat.le_of_ble_eq_true rfl) ?_
  intro p e s m args below meth c R Q A ls H locs hx hb hr hts hown hlocks hml hnm hR hQ hA hl hP hK hN hD hS
  have hg : ∀ w ∈ gw, w.before args s = true := fun w h => hts w (List.mem_cons_of_mem _ h)
  have hown : s.vm.findClass "RangeCodersModel" = some m.cls := hown
  have hl : lv_has ls 2 [(0, Value.ref o)] := hl
  refine lv_aload_n hx hb d_M_begin_0 rfl (lv_at hl 0 rfl) ?_
  refine lv_iconst (v := 0) hx hb d_M_begin_1 (by decide) ?_
  refine va_put (D := (dC, dI)) (ci := 9) (v := .int 0) (ty := .int) (C := "RangeCodersModel") (T := T_M) (N := 35) hx hb hg in_M t_M o_M n_M hown hK hP hD hS 0 rfl rfl 34 (by decide) (hg _ k986) (fun _ h9 => h9) rfl (o_M 34 (by decide)) rfl rfl (Nat.le_of_ble_eq_true rfl) d_M_begin_2 (fun H locs hP hD hS => ?_)
  have hPD : my_PD (dC, dI) vwCl A [(o, Sum.inr (9, mO g fForm fShift fModels fItems fEnded fLow fRange fCache fPend fGoes fOuts fIns fReads fBad fIR fAsk fBAsk fCode fRL fRR fX fWrites 0)), ((g 0), Sum.inl (cI, 8, Sum.inl vMany)), ((g 1), Sum.inl (cI, 512, Sum.inl vCounts)), ((g 2), Sum.inl (cI, 512, Sum.inl vNow))] H := ⟨hP, hD⟩
  have hP := hPD.1
  have hD := hPD.2
  refine lv_aload_n hx hb d_M_begin_5 rfl (lv_at hl 0 rfl) ?_
  refine va_get (D := (dC, dI)) (ci := 9) (v := .int fItems) (C := "RangeCodersModel") (T := T_M) (N := 35) hx hb hg in_M hown hK hP 0 rfl rfl 7 (by decide) (hg _ k959) (fun _ h9 => h9) rfl d_M_begin_6 ?_
  refine lv_istore_n (lv' := [(1, Value.int fItems), (0, Value.ref o)]) hx hb d_M_begin_9 rfl hl (by decide) rfl (fun ls hl => ?_)
  refine lv_aload_n hx hb d_M_begin_10 rfl (lv_at hl 1 rfl) ?_
  refine my_cv (wr := []) (va_runV (As := []) (rest := []) ⟨hx, hb, hml, hown, hts⟩ (m_start l dC dI cI cM cO H.size o g fForm fShift fModels fItems fEnded fLow fRange fCache fPend fGoes fOuts fIns fReads fBad fIR fAsk fBAsk fCode fRL fRR fX fWrites 0 vMany vCounts vNow fm km N (by first | assumption | omega) (by first | assumption | omega) (by first | assumption | omega) (by first | assumption | omega)) (cwV 0 hts (my_gV k923 k925 ks18 k12 k926) rfl rfl rfl cu_M_start_0 ⟨by rw [hR]; exact Nat.le_of_ble_eq_true rfl, by rw [hR]; exact Nat.le_of_ble_eq_true rfl⟩) (my_preV hK hN (hP.sub [0, 1, 2, 3] rfl) (hD.sub [0, 1, 2, 3] (by decide +kernel) rfl) 0 rfl rfl) rfl rfl hl.1 rfl (lv_room (Nat.le_of_ble_eq_true rfl)) d_M_begin_11 ⟨by rw [hR]; exact Nat.le_of_ble_eq_true rfl, by rw [hR]; exact Nat.le_of_ble_eq_true rfl⟩) hP hD hS hA [0, 1, 2, 3] [] rfl rfl (by decide +kernel) (by decide +kernel) (fun u9 H locs hw_11 hP hD hS => ?_)
  obtain ⟨vNowq_11, rfl⟩ : ∃ z, z = u9 := ⟨_, rfl⟩
  have hT_11 : pfA fm km N vCounts vNowq_11 := hw_11
  have hPD : my_PD (dC, dI) vwCl A [(o, Sum.inr (9, mO g fForm fShift fModels 0 0 0 4294967295 (-1) 0 0 fOuts fIns fReads fBad fIR fAsk fBAsk fCode fRL fRR fX fWrites 0)), ((g 0), Sum.inl (cI, 8, Sum.inl vMany)), ((g 1), Sum.inl (cI, 512, Sum.inl vCounts)), ((g 2), Sum.inl (cI, 512, Sum.inl vNowq_11))] H := ⟨hP, hD⟩
  have hP := hPD.1
  have hD := hPD.2
  refine lv_iload_n hx hb d_M_begin_14 rfl (lv_at hl 0 rfl) ?_
  exact my_iret (v := fItems) hx hb hr (rfl) hlocks hQ hK hS (Nat.le_refl _) (Nat.le_refl _) (vNowq_11) (⟨rfl, hT_11⟩) (hP.sub [0, 1, 2, 3] rfl) (hD.sub [0, 1, 2, 3] (by decide +kernel) rfl) d_M_begin_15
end
section
set_option maxHeartbeats 20000000 in
set_option maxRecDepth 100000 in
theorem m_endTable (l : Launch) (dC : Nat → ClassId) (dI : Nat → Nat → Nat) (cI cM cO : ClassId) (sz : Nat) (o : Nat) (g : Nat → Nat) (fForm : Int32) (fShift : Int32) (fModels : Int32) (fEnded : Int32) (fLow : Int64) (fRange : Int64) (fCache : Int32) (fPend : Int32) (fOuts : Int32) (fIns : Int32) (fReads : Int32) (fBad : Int32) (fIR : Int32) (fAsk : Int32) (fBAsk : Int32) (fCode : Int64) (fRL : Int64) (fRR : Int64) (fX : Int64) (fWrites : Int32) (fThrown : Int32) (vMany : Nat → Int32) (vCounts : Nat → Int32) (vNow : Nat → Int32) (vIM : Nat → Int32) (vIW : Nat → Int32) (vGoing : Nat → Int32) (vSO : Nat → Int32) (vNO : Nat → Int32) (vWr : Nat → Int32) (km : Nat) (N : Nat → Nat) (its : List It) (hMD : MD km N vMany vCounts) (hki : its.length ≤ 600) (hit : itIs vIM vIW its) (hok : ∀ i, i < its.length → itOk 512 9 km N vNow (itA its i)) : MetV l y_M_endTable (Cond.code y_M_endTable prog_14_method_35_code 9 none :: gw) ({ frames := 1, cells := 0, slots := 0, locals := 26 } : Room) (dC, dI) vwCl (kT cI cM cO) [Value.ref o] [(o, Sum.inr (9, mO g fForm fShift fModels (nI its.length) fEnded fLow fRange fCache fPend 0 fOuts fIns fReads fBad fIR fAsk fBAsk fCode fRL fRR fX fWrites fThrown)), ((g 0), Sum.inl (cI, 8, Sum.inl vMany)), ((g 1), Sum.inl (cI, 512, Sum.inl vCounts)), ((g 2), Sum.inl (cI, 512, Sum.inl vNow)), ((g 4), Sum.inl (cI, 600, Sum.inl vIM)), ((g 5), Sum.inl (cI, 600, Sum.inl vIW)), ((g 6), Sum.inl (cI, 9000, Sum.inl vGoing)), ((g 9), Sum.inl (cI, 512, Sum.inl vSO)), ((g 10), Sum.inl (cI, 512, Sum.inl vNO)), ((g 11), Sum.inl (cI, 20000, Sum.inl vWr))] sz (fun (u : (Nat → Int32) × (Nat → Int32) × (Nat → Int32) × (Nat → Int32) × Int32 × Int32) => u.2.2.2.2.1 = nI (pkB (e4W (Fvw vNow) N its) (((e4W (Fvw vNow) N its).length + 7) / 8)).length ∧ gIs u.1 (pkB (e4W (Fvw vNow) N its) (((e4W (Fvw vNow) N its).length + 7) / 8))) (fun (u : (Nat → Int32) × (Nat → Int32) × (Nat → Int32) × (Nat → Int32) × Int32 × Int32) => [(o, Sum.inr (9, mO g fForm fShift fModels (nI its.length) fEnded fLow fRange fCache fPend u.2.2.2.2.1 fOuts fIns fReads fBad fIR fAsk fBAsk fCode fRL fRR fX u.2.2.2.2.2 fThrown)), ((g 0), Sum.inl (cI, 8, Sum.inl vMany)), ((g 1), Sum.inl (cI, 512, Sum.inl vCounts)), ((g 2), Sum.inl (cI, 512, Sum.inl vNow)), ((g 4), Sum.inl (cI, 600, Sum.inl vIM)), ((g 5), Sum.inl (cI, 600, Sum.inl vIW)), ((g 6), Sum.inl (cI, 9000, Sum.inl u.1)), ((g 9), Sum.inl (cI, 512, Sum.inl u.2.1)), ((g 10), Sum.inl (cI, 512, Sum.inl u.2.2.1)), ((g 11), Sum.inl (cI, 20000, Sum.inl u.2.2.2.1))]) 0 0 := by
  refine my_ofV (cc := prog_14_method_35_code) (n := 9) (ret := none) (by decide) rfl (Nat.le_of_ble_eq_true rfl) ?_
  intro p e s m args below meth c R Q A ls H locs hx hb hr hts hown hlocks hml hnm hR hQ hA hl hP hK hN hD hS
  have hg : ∀ w ∈ gw, w.before args s = true := fun w h => hts w (List.mem_cons_of_mem _ h)
  have hown : s.vm.findClass "RangeCodersModel" = some m.cls := hown
  have hl : lv_has ls 9 [(0, Value.ref o)] := hl
  refine lv_aload_n hx hb d_M_endTable_0 rfl (lv_at hl 0 rfl) ?_
  refine lv_iconst (v := 0) hx hb d_M_endTable_1 (by decide) ?_
  refine va_put (D := (dC, dI)) (ci := 9) (v := .int 0) (ty := .int) (C := "RangeCodersModel") (T := T_M) (N := 35) hx hb hg in_M t_M o_M n_M hown hK hP hD hS 0 rfl rfl 33 (by decide) (hg _ k985) (fun _ h9 => h9) rfl (o_M 33 (by decide)) rfl rfl (Nat.le_of_ble_eq_true rfl) d_M_endTable_2 (fun H locs hP hD hS => ?_)
  have hPD : my_PD (dC, dI) vwCl A [(o, Sum.inr (9, mO g fForm fShift fModels (nI its.length) fEnded fLow fRange fCache fPend 0 fOuts fIns fReads fBad fIR fAsk fBAsk fCode fRL fRR fX 0 fThrown)), ((g 0), Sum.inl (cI, 8, Sum.inl vMany)), ((g 1), Sum.inl (cI, 512, Sum.inl vCounts)), ((g 2), Sum.inl (cI, 512, Sum.inl vNow)), ((g 4), Sum.inl (cI, 600, Sum.inl vIM)), ((g 5), Sum.inl (cI, 600, Sum.inl vIW)), ((g 6), Sum.inl (cI, 9000, Sum.inl vGoing)), ((g 9), Sum.inl (cI, 512, Sum.inl vSO)), ((g 10), Sum.inl (cI, 512, Sum.inl vNO)), ((g 11), Sum.inl (cI, 20000, Sum.inl vWr))] H := ⟨hP, hD⟩
  have hP := hPD.1
  have hD := hPD.2
  refine lv_ldc2 (v := 512) hx hb hown (hg _ k1160) d_M_endTable_5 ?_
  refine W.eq (g2 := F0 m 8 ls [Value.long (lN 512)]) rfl ?_
  refine lv_lstore_n (lv' := [(1, Value.long (lN 512)), (0, Value.ref o)]) hx hb d_M_endTable_8 rfl hl (by decide) rfl (fun ls hl => ?_)
  refine lv_iconst (v := (-1)) hx hb d_M_endTable_9 (by decide) ?_
  refine lv_istore_n (lv' := [(3, Value.int (-1)), (1, Value.long (lN 512)), (0, Value.ref o)]) hx hb d_M_endTable_10 rfl hl (by decide) rfl (fun ls hl => ?_)
  refine lv_aload_n hx hb d_M_endTable_11 rfl (lv_at hl 2 rfl) ?_
  refine va_get (D := (dC, dI)) (ci := 9) (v := .int (nI its.length)) (C := "RangeCodersModel") (T := T_M) (N := 35) hx hb hg in_M hown hK hP 0 rfl rfl 7 (by decide) (hg _ k959) (fun _ h9 => h9) rfl d_M_endTable_12 ?_
  refine lv_iconst (v := 1) hx hb d_M_endTable_15 (by decide) ?_
  refine lv_isub hx hb d_M_endTable_16 ?_
  refine lv_topi (fun v_1 ev_1 => ?_)
  refine lv_istore (lv' := [(4, Value.int v_1), (3, Value.int (-1)), (1, Value.long (lN 512)), (0, Value.ref o)]) hx hb d_M_endTable_17 hl (by decide) rfl (fun ls hl => ?_)
  have J_19 : ∀ (n9_19 : Nat) (V : Nat) (ld : Int32) (i9 : Int32) (k : Nat) (wl : List Nat) (vW : Nat → Int32) (so : Nat → Int32) (no : Nat → Int32) (hn9_19 : k = n9_19) (hE9 : e4N (Fvw vNow) N its its.length (512, []) = e4N (Fvw vNow) N its k (V, wl)) (hV0 : 512 ≤ V) (hV1 : V < 1024) (hi : i9 + 1 = nI k) (hk : k ≤ its.length) (hG : gIs vW wl) (hB : bt2 wl) (hW : wl.length + 9 * k ≤ 9 * its.length) (hld : ldOk km N vNow ld so no) (H : Heap) (locs : List Loc) (ls : Array Slot), va_P (dC, dI) vwCl [(o, Sum.inr (9, mO g fForm fShift fModels (nI its.length) fEnded fLow fRange fCache fPend 0 fOuts fIns fReads fBad fIR fAsk fBAsk fCode fRL fRR fX (nI wl.length) fThrown)), ((g 0), Sum.inl (cI, 8, Sum.inl vMany)), ((g 1), Sum.inl (cI, 512, Sum.inl vCounts)), ((g 2), Sum.inl (cI, 512, Sum.inl vNow)), ((g 4), Sum.inl (cI, 600, Sum.inl vIM)), ((g 5), Sum.inl (cI, 600, Sum.inl vIW)), ((g 6), Sum.inl (cI, 9000, Sum.inl vGoing)), ((g 9), Sum.inl (cI, 512, Sum.inl so)), ((g 10), Sum.inl (cI, 512, Sum.inl no)), ((g 11), Sum.inl (cI, 20000, Sum.inl vW))] H → va_D A [(o, Sum.inr (9, mO g fForm fShift fModels (nI its.length) fEnded fLow fRange fCache fPend 0 fOuts fIns fReads fBad fIR fAsk fBAsk fCode fRL fRR fX (nI wl.length) fThrown)), ((g 0), Sum.inl (cI, 8, Sum.inl vMany)), ((g 1), Sum.inl (cI, 512, Sum.inl vCounts)), ((g 2), Sum.inl (cI, 512, Sum.inl vNow)), ((g 4), Sum.inl (cI, 600, Sum.inl vIM)), ((g 5), Sum.inl (cI, 600, Sum.inl vIW)), ((g 6), Sum.inl (cI, 9000, Sum.inl vGoing)), ((g 9), Sum.inl (cI, 512, Sum.inl so)), ((g 10), Sum.inl (cI, 512, Sum.inl no)), ((g 11), Sum.inl (cI, 20000, Sum.inl vW))] → va_S A s.heap H locs → lv_has ls 9 [(4, Value.int i9), (3, Value.int ld), (1, Value.long (lN V)), (0, Value.ref o)] → W p l e R s m args below meth c H locs 0 0 Q (F0 m 19 ls []) := by
    intro n9_19
    induction n9_19 using Nat.strongRecOn with
    | ind n9_19 ih9_19 =>
      intro V ld i9 k wl vW so no hn9_19 hE9 hV0 hV1 hi hk hG hB hW hld H locs ls hP hD hS hl
      refine lv_iload hx hb d_M_endTable_19 (lv_at hl 0 rfl) ?_
      refine lv_if_lt (tgt := 187) hx hb d_M_endTable_21 (by decide) (fun c_2 => ?_) (fun c_2 => ?_)
      · refine lv_iconst (v := 0) hx hb d_M_endTable_187 (by decide) ?_
        have hkz : k = 0 := by
          rcases Nat.eq_zero_or_pos k with z | z
          · exact z
          · exact absurd (show i9 < 0 from c_2) (by rw [show i9 = nI (k - 1) from by rw [← Int32.add_sub_cancel (a := i9) (b := 1), hi]; exact pk_sub (b := 1) z]; exact nI_pos (by omega))
        refine lv_istore (lv' := [(4, Value.int 0), (3, Value.int ld), (1, Value.long (lN V)), (0, Value.ref o)]) hx hb d_M_endTable_188 hl (by decide) rfl (fun ls hl => ?_)
        have J_190 : ∀ (n9_190 : Nat) (jj : Nat) (wl2 : List Nat) (vW2 : Nat → Int32) (hn9_190 : 9 - jj = n9_190) (hjj : jj ≤ 9) (hwb : wl2 = wl ++ bvL (V - 512) jj) (hG2 : gIs vW2 wl2) (hB2 : bt2 wl2) (hW2 : wl2.length ≤ 5400 + jj) (H : Heap) (locs : List Loc) (ls : Array Slot), va_P (dC, dI) vwCl [(o, Sum.inr (9, mO g fForm fShift fModels (nI its.length) fEnded fLow fRange fCache fPend 0 fOuts fIns fReads fBad fIR fAsk fBAsk fCode fRL fRR fX (nI wl2.length) fThrown)), ((g 0), Sum.inl (cI, 8, Sum.inl vMany)), ((g 1), Sum.inl (cI, 512, Sum.inl vCounts)), ((g 2), Sum.inl (cI, 512, Sum.inl vNow)), ((g 4), Sum.inl (cI, 600, Sum.inl vIM)), ((g 5), Sum.inl (cI, 600, Sum.inl vIW)), ((g 6), Sum.inl (cI, 9000, Sum.inl vGoing)), ((g 9), Sum.inl (cI, 512, Sum.inl so)), ((g 10), Sum.inl (cI, 512, Sum.inl no)), ((g 11), Sum.inl (cI, 20000, Sum.inl vW2))] H → va_D A [(o, Sum.inr (9, mO g fForm fShift fModels (nI its.length) fEnded fLow fRange fCache fPend 0 fOuts fIns fReads fBad fIR fAsk fBAsk fCode fRL fRR fX (nI wl2.length) fThrown)), ((g 0), Sum.inl (cI, 8, Sum.inl vMany)), ((g 1), Sum.inl (cI, 512, Sum.inl vCounts)), ((g 2), Sum.inl (cI, 512, Sum.inl vNow)), ((g 4), Sum.inl (cI, 600, Sum.inl vIM)), ((g 5), Sum.inl (cI, 600, Sum.inl vIW)), ((g 6), Sum.inl (cI, 9000, Sum.inl vGoing)), ((g 9), Sum.inl (cI, 512, Sum.inl so)), ((g 10), Sum.inl (cI, 512, Sum.inl no)), ((g 11), Sum.inl (cI, 20000, Sum.inl vW2))] → va_S A s.heap H locs → lv_has ls 9 [(4, Value.int (nI jj)), (3, Value.int ld), (1, Value.long (lN V)), (0, Value.ref o)] → W p l e R s m args below meth c H locs 0 0 Q (F0 m 190 ls []) := by
          intro n9_190
          induction n9_190 using Nat.strongRecOn with
          | ind n9_190 ih9_190 =>
            intro jj wl2 vW2 hn9_190 hjj hwb hG2 hB2 hW2 H locs ls hP hD hS hl
            refine lv_iload hx hb d_M_endTable_190 (lv_at hl 0 rfl) ?_
            refine lv_bipush (v := 9) hx hb d_M_endTable_192 (by decide) ?_
            refine lv_icmp_ge (tgt := 215) hx hb d_M_endTable_194 (by decide) (fun c_3 => ?_) (fun c_3 => ?_)
            · have hW4 : e4W (Fvw vNow) N its = wl2 := by have hj9 : jj = 9 := (by have := nI_ge' (n := 9) (by omega) (by decide) c_3; omega); unfold e4W; rw [hE9, hkz, hwb, hj9]; rfl
              refine lv_iconst (v := 0) hx hb d_M_endTable_215 (by decide) ?_
              refine lv_istore (lv' := [(4, Value.int 0), (3, Value.int ld), (1, Value.long (lN V)), (0, Value.ref o)]) hx hb d_M_endTable_216 hl (by decide) rfl (fun ls hl => ?_)
              refine lv_iconst (v := 0) hx hb d_M_endTable_218 (by decide) ?_
              refine lv_istore (lv' := [(5, Value.int 0), (4, Value.int 0), (3, Value.int ld), (1, Value.long (lN V)), (0, Value.ref o)]) hx hb d_M_endTable_219 hl (by decide) rfl (fun ls hl => ?_)
              refine lv_aload_n hx hb d_M_endTable_221 rfl (lv_at hl 4 rfl) ?_
              refine va_get (D := (dC, dI)) (ci := 9) (v := .int (nI wl2.length)) (C := "RangeCodersModel") (T := T_M) (N := 35) hx hb hg in_M hown hK hP 0 rfl rfl 33 (by decide) (hg _ k985) (fun _ h9 => h9) rfl d_M_endTable_222 ?_
              refine lv_iconst (v := 1) hx hb d_M_endTable_225 (by decide) ?_
              refine lv_isub hx hb d_M_endTable_226 ?_
              refine lv_topi (fun v_4 ev_4 => ?_)
              refine lv_istore (lv' := [(6, Value.int v_4), (5, Value.int 0), (4, Value.int 0), (3, Value.int ld), (1, Value.long (lN V)), (0, Value.ref o)]) hx hb d_M_endTable_227 hl (by decide) rfl (fun ls hl => ?_)
              have J_229 : ∀ (n9_229 : Nat) (bb : Nat) (nn : Nat) (qq : Nat) (i8 : Int32) (kk : Nat) (gs : List Nat) (fG : Nat → Int32) (hn9_229 : kk = n9_229) (hi8 : i8 + 1 = nI kk) (hkk : kk ≤ wl2.length) (hnn : nn ≤ 7) (hqn : 8 * qq + nn + kk = wl2.length) (hbw : bb = byW wl2 (8 * qq) nn) (hgs : gs = pkB wl2 qq) (hGs : gIs fG gs) (hgl : gs.length + kk ≤ wl2.length) (H : Heap) (locs : List Loc) (ls : Array Slot), va_P (dC, dI) vwCl [(o, Sum.inr (9, mO g fForm fShift fModels (nI its.length) fEnded fLow fRange fCache fPend (nI gs.length) fOuts fIns fReads fBad fIR fAsk fBAsk fCode fRL fRR fX (nI wl2.length) fThrown)), ((g 0), Sum.inl (cI, 8, Sum.inl vMany)), ((g 1), Sum.inl (cI, 512, Sum.inl vCounts)), ((g 2), Sum.inl (cI, 512, Sum.inl vNow)), ((g 4), Sum.inl (cI, 600, Sum.inl vIM)), ((g 5), Sum.inl (cI, 600, Sum.inl vIW)), ((g 6), Sum.inl (cI, 9000, Sum.inl fG)), ((g 9), Sum.inl (cI, 512, Sum.inl so)), ((g 10), Sum.inl (cI, 512, Sum.inl no)), ((g 11), Sum.inl (cI, 20000, Sum.inl vW2))] H → va_D A [(o, Sum.inr (9, mO g fForm fShift fModels (nI its.length) fEnded fLow fRange fCache fPend (nI gs.length) fOuts fIns fReads fBad fIR fAsk fBAsk fCode fRL fRR fX (nI wl2.length) fThrown)), ((g 0), Sum.inl (cI, 8, Sum.inl vMany)), ((g 1), Sum.inl (cI, 512, Sum.inl vCounts)), ((g 2), Sum.inl (cI, 512, Sum.inl vNow)), ((g 4), Sum.inl (cI, 600, Sum.inl vIM)), ((g 5), Sum.inl (cI, 600, Sum.inl vIW)), ((g 6), Sum.inl (cI, 9000, Sum.inl fG)), ((g 9), Sum.inl (cI, 512, Sum.inl so)), ((g 10), Sum.inl (cI, 512, Sum.inl no)), ((g 11), Sum.inl (cI, 20000, Sum.inl vW2))] → va_S A s.heap H locs → lv_has ls 9 [(6, Value.int i8), (5, Value.int (nI nn)), (4, Value.int (nI bb)), (3, Value.int ld), (1, Value.long (lN V)), (0, Value.ref o)] → W p l e R s m args below meth c H locs 0 0 Q (F0 m 229 ls []) := by
                intro n9_229
                induction n9_229 using Nat.strongRecOn with
                | ind n9_229 ih9_229 =>
                  intro bb nn qq i8 kk gs fG hn9_229 hi8 hkk hnn hqn hbw hgs hGs hgl H locs ls hP hD hS hl
                  refine lv_iload hx hb d_M_endTable_229 (lv_at hl 0 rfl) ?_
                  refine lv_if_lt (tgt := 276) hx hb d_M_endTable_231 (by decide) (fun c_5 => ?_) (fun c_5 => ?_)
                  · have hkz2 : kk = 0 := by
                      rcases Nat.eq_zero_or_pos kk with z | z
                      · exact z
                      · exact absurd (show i8 < 0 from c_5) (by rw [show i8 = nI (kk - 1) from by rw [← Int32.add_sub_cancel (a := i8) (b := 1), hi8]; exact pk_sub (b := 1) z]; exact nI_pos (by omega))
                    have hbb : bb < 2 ^ nn := by rw [hbw]; exact byW_lt hB2 _ _
                    refine lv_iload hx hb d_M_endTable_276 (lv_at hl 1 rfl) ?_
                    refine lv_if_le (tgt := 293) hx hb d_M_endTable_278 (by decide) (fun c_6 => ?_) (fun c_6 => ?_)
                    · have hnz : nn = 0 := by rcases Nat.eq_zero_or_pos nn with z | z; exact z; exact absurd c_6 (nI_nle z (by omega))
                      exact my_vret hx hb hr hlocks hQ hK hS (Nat.le_refl _) (Nat.le_refl _) (fG, so, no, vW2, nI gs.length, nI wl2.length) (⟨by rw [hW4, show (wl2.length + 7) / 8 = qq by omega, ← hgs], by rw [hW4, show (wl2.length + 7) / 8 = qq by omega, ← hgs]; exact hGs⟩) (hP.sub [0, 1, 2, 3, 4, 5, 6, 7, 8, 9] rfl) (hD.sub [0, 1, 2, 3, 4, 5, 6, 7, 8, 9] (by decide +kernel) rfl) d_M_endTable_293
                    · have hnz : 0 < nn := by
                        rcases Nat.eq_zero_or_pos nn with z | z
                        · exact absurd (by rw [z]; exact Int32.le_refl _) c_6
                        · exact z
                      refine lv_aload_n hx hb d_M_endTable_281 rfl (lv_at hl 5 rfl) ?_
                      refine lv_iload hx hb d_M_endTable_282 (lv_at hl 2 rfl) ?_
                      refine lv_bipush (v := 8) hx hb d_M_endTable_284 (by decide) ?_
                      refine lv_iload hx hb d_M_endTable_286 (lv_at hl 1 rfl) ?_
                      refine lv_isub hx hb d_M_endTable_288 ?_
                      refine lv_topi (fun v_7 ev_7 => ?_)
                      have z9 : v_7 = nI (8 - nn) := by rw [ev_7]; exact pk_sub (a := 8) (by omega)
                      subst z9
                      refine lv_ishl hx hb d_M_endTable_289 ?_
                      refine lv_topi (fun v_8 ev_8 => ?_)
                      have z9 : v_8 = nI (bb * 2 ^ (8 - nn)) := by rw [ev_8]; exact I_shl (by omega) (by have := pw8 hbb (show nn ≤ 8 by omega); omega)
                      subst z9
                      refine my_cv (wr := [((g 0), Sum.inl (cI, 8, Sum.inl vMany)), ((g 1), Sum.inl (cI, 512, Sum.inl vCounts)), ((g 2), Sum.inl (cI, 512, Sum.inl vNow)), ((g 4), Sum.inl (cI, 600, Sum.inl vIM)), ((g 5), Sum.inl (cI, 600, Sum.inl vIW)), ((g 9), Sum.inl (cI, 512, Sum.inl so)), ((g 10), Sum.inl (cI, 512, Sum.inl no)), ((g 11), Sum.inl (cI, 20000, Sum.inl vW2))]) (va_runV (As := [Value.int (nI (bb * 2 ^ (8 - nn)))]) (rest := []) ⟨hx, hb, hml, hown, hts⟩ (c_M_write l dC dI cI cM cO H.size o g fForm fShift fModels (nI its.length) fEnded fLow fRange fCache fPend fOuts fIns fReads fBad fIR fAsk fBAsk fCode fRL fRR fX (nI wl2.length) fThrown fG gs (bb * 2 ^ (8 - nn)) (hGs) (by omega) (by have := pw8 hbb (show nn ≤ 8 by omega); omega)) (cwV 1 hts (my_gV k1107 k1109 ks32 k12 k1110) rfl rfl rfl cu_M_write_1 ⟨by rw [hR]; exact Nat.le_of_ble_eq_true rfl, by rw [hR]; exact Nat.le_of_ble_eq_true rfl⟩) (my_preV hK hN (hP.sub [0, 6] rfl) (hD.sub [0, 6] (by decide +kernel) rfl) 0 rfl rfl) rfl rfl hl.1 rfl (lv_room (Nat.le_of_ble_eq_true rfl)) d_M_endTable_290 ⟨by rw [hR]; exact Nat.le_of_ble_eq_true rfl, by rw [hR]; exact Nat.le_of_ble_eq_true rfl⟩) hP hD hS hA [0, 6] [1, 2, 3, 4, 5, 7, 8, 9] rfl rfl (by decide +kernel) (by decide +kernel) (fun u9 H locs hw_290 hP hD hS => ?_)
                      obtain ⟨v2_290, rfl⟩ : ∃ z, z = u9 := ⟨_, rfl⟩
                      have hw_290 : gIs v2_290 (gs ++ [(bb * 2 ^ (8 - nn)) % 256]) := hw_290
                      have hPD : my_PD (dC, dI) vwCl A [((g 0), Sum.inl (cI, 8, Sum.inl vMany)), ((g 1), Sum.inl (cI, 512, Sum.inl vCounts)), ((g 2), Sum.inl (cI, 512, Sum.inl vNow)), ((g 4), Sum.inl (cI, 600, Sum.inl vIM)), ((g 5), Sum.inl (cI, 600, Sum.inl vIW)), ((g 9), Sum.inl (cI, 512, Sum.inl so)), ((g 10), Sum.inl (cI, 512, Sum.inl no)), ((g 11), Sum.inl (cI, 20000, Sum.inl vW2)), (o, Sum.inr (9, mO g fForm fShift fModels (nI its.length) fEnded fLow fRange fCache fPend (nI (gs ++ [(bb * 2 ^ (8 - nn)) % 256]).length) fOuts fIns fReads fBad fIR fAsk fBAsk fCode fRL fRR fX (nI wl2.length) fThrown)), ((g 6), Sum.inl (cI, 9000, Sum.inl v2_290))] H := ⟨hP, hD⟩
                      have hP := hPD.1
                      have hD := hPD.2
                      exact my_vret hx hb hr hlocks hQ hK hS (Nat.le_refl _) (Nat.le_refl _) (v2_290, so, no, vW2, nI (gs ++ [(bb * 2 ^ (8 - nn)) % 256]).length, (nI wl2.length)) (⟨by rw [hW4, show (wl2.length + 7) / 8 = qq + 1 by omega, pkB, ← hgs]; have z9 : byW wl2 (8 * qq) 8 = bb * 2 ^ (8 - nn) % 256 := (by rw [hbw, Nat.mod_eq_of_lt (by rw [← hbw]; exact pw8 hbb (by omega))]; have z8 := byW_0 (ws := wl2) (fm := 8 * qq) (k := nn) (by omega) (8 - nn); rw [show nn + (8 - nn) = 8 by omega] at z8; exact z8); rw [z9], by rw [hW4, show (wl2.length + 7) / 8 = qq + 1 by omega, pkB, ← hgs]; have z9 : byW wl2 (8 * qq) 8 = bb * 2 ^ (8 - nn) % 256 := (by rw [hbw, Nat.mod_eq_of_lt (by rw [← hbw]; exact pw8 hbb (by omega))]; have z8 := byW_0 (ws := wl2) (fm := 8 * qq) (k := nn) (by omega) (8 - nn); rw [show nn + (8 - nn) = 8 by omega] at z8; exact z8); rw [z9]; exact hw_290⟩) (hP.sub [8, 0, 1, 2, 3, 4, 9, 5, 6, 7] rfl) (hD.sub [8, 0, 1, 2, 3, 4, 9, 5, 6, 7] (by decide +kernel) rfl) d_M_endTable_293
                  · have hk7 : 1 ≤ kk := by
                      rcases Nat.eq_zero_or_pos kk with z | z
                      · subst z; exact absurd (show i8 < 0 by rw [show i8 = -1 from by rw [← Int32.add_sub_cancel (a := i8) (b := 1), hi8]; rfl]; decide) c_5
                      · exact z
                    have hi7 : i8 = nI (kk - 1) := by rw [← Int32.add_sub_cancel (a := i8) (b := 1), hi8]; exact pk_sub (b := 1) hk7
                    have hbit := bt2_at (i := kk - 1) hB2
                    have hbb : bb < 2 ^ nn := by rw [hbw]; exact byW_lt hB2 _ _
                    have hbs := pw7 (pw_lt hbb hbit) (show nn + 1 ≤ 8 by omega)
                    have hrv : rvB wl2 (8 * qq + nn) = byA wl2 (kk - 1) := by unfold rvB; rw [if_pos (by omega), show wl2.length - 1 - (8 * qq + nn) = kk - 1 by omega]
                    have hbw2 : 2 * bb + byA wl2 (kk - 1) = byW wl2 (8 * qq) (nn + 1) := by rw [byW, ← hbw, hrv]
                    refine lv_iconst (v := 2) hx hb d_M_endTable_234 (by decide) ?_
                    refine lv_iload hx hb d_M_endTable_235 (lv_at hl 2 rfl) ?_
                    refine lv_imul hx hb d_M_endTable_237 ?_
                    refine lv_topi (fun v_9 ev_9 => ?_)
                    refine lv_aload_n hx hb d_M_endTable_238 rfl (lv_at hl 5 rfl) ?_
                    refine va_get (D := (dC, dI)) (ci := 9) (v := .ref (g 11)) (C := "RangeCodersModel") (T := T_M) (N := 35) hx hb hg in_M hown hK hP 0 rfl rfl 32 (by decide) (hg _ k984) (fun _ h9 => h9) rfl d_M_endTable_239 ?_
                    refine lv_iload hx hb d_M_endTable_242 (lv_at hl 0 rfl) ?_
                    refine va_iald hx hb hK hP 9 0 rfl rfl (by rw [hi7]; exact vp_in_nI (by omega) (by decide)) d_M_endTable_244 ?_
                    refine lv_topi (fun v_10 ev_10 => ?_)
                    have z9 : v_10 = nI (byA wl2 (kk - 1)) := by rw [ev_10, hi7, nI_clamp (by omega)]; exact hG2 _ (by omega)
                    subst z9
                    refine lv_iadd hx hb d_M_endTable_245 ?_
                    refine lv_topi (fun v_11 ev_11 => ?_)
                    have z9 : v_11 = nI (2 * bb + byA wl2 (kk - 1)) := by rw [ev_11, ev_9, show (2 : Int32) = nI 2 from rfl, pk_mul, nI_add]
                    subst z9
                    refine lv_istore (lv' := [(4, Value.int (nI (2 * bb + byA wl2 (kk - 1)))), (6, Value.int i8), (5, Value.int (nI nn)), (3, Value.int ld), (1, Value.long (lN V)), (0, Value.ref o)]) hx hb d_M_endTable_246 hl (by decide) rfl (fun ls hl => ?_)
                    obtain ⟨v_12, ev_12⟩ : ∃ y : Int32, y = (nI nn) + (1) := ⟨_, rfl⟩
                    refine lv_iinc (v := v_12) (lv' := [(5, Value.int v_12), (4, Value.int (nI (2 * bb + byA wl2 (kk - 1)))), (6, Value.int i8), (3, Value.int ld), (1, Value.long (lN V)), (0, Value.ref o)]) hx hb d_M_endTable_248 hl (k := 2) rfl (by rw [ev_12]; rfl) (by decide) rfl (fun ls hl => ?_)
                    have z9 : v_12 = nI (nn + 1) := by rw [ev_12]; exact nI_1 _
                    subst z9
                    refine lv_iload hx hb d_M_endTable_251 (lv_at hl 0 rfl) ?_
                    refine lv_bipush (v := 8) hx hb d_M_endTable_253 (by decide) ?_
                    refine lv_icmp_ne (tgt := 270) hx hb d_M_endTable_255 (by decide) (fun c_13 => ?_) (fun c_13 => ?_)
                    · have hn8 : ¬ nn + 1 = 8 := fun z9 => c_13 (by rw [z9]; rfl)
                      obtain ⟨v_14, ev_14⟩ : ∃ y : Int32, y = i8 + (-1) := ⟨_, rfl⟩
                      refine lv_iinc (v := v_14) (lv' := [(6, Value.int v_14), (5, Value.int (nI (nn + 1))), (4, Value.int (nI (2 * bb + byA wl2 (kk - 1)))), (3, Value.int ld), (1, Value.long (lN V)), (0, Value.ref o)]) hx hb d_M_endTable_270 hl (k := 2) rfl (by rw [ev_14]; rfl) (by decide) rfl (fun ls hl => ?_)
                      refine lv_goto (tgt := 229) hx hb d_M_endTable_273 (by decide) ?_
                      exact ih9_229 _ (by first | omega | (omega)) (2 * bb + byA wl2 (kk - 1)) (nn + 1) qq v_14 (kk - 1) gs fG rfl (by rw [ev_14, Int32.add_assoc, show (-1 : Int32) + 1 = 0 from by decide, Int32.add_zero]; exact hi7) (by omega) (by omega) (by omega) (hbw2) (hgs) (hGs) (by omega) H locs ls (hP.sub [0, 1, 2, 3, 4, 5, 6, 7, 8, 9] rfl) (hD.sub [0, 1, 2, 3, 4, 5, 6, 7, 8, 9] (by decide +kernel) rfl) hS (lv_sub hl [0, 1, 2, 3, 4, 5] rfl)
                    · have hn8 : nn + 1 = 8 := nI_inj (by omega) (by decide) c_13
                      have hn8b : byW wl2 (8 * qq) 8 = (2 * bb + byA wl2 (kk - 1)) % 256 := by rw [hbw2, hn8, Nat.mod_eq_of_lt (byW_lt hB2 _ 8)]
                      refine lv_aload_n hx hb d_M_endTable_258 rfl (lv_at hl 5 rfl) ?_
                      refine lv_iload hx hb d_M_endTable_259 (lv_at hl 1 rfl) ?_
                      refine my_cv (wr := [((g 0), Sum.inl (cI, 8, Sum.inl vMany)), ((g 1), Sum.inl (cI, 512, Sum.inl vCounts)), ((g 2), Sum.inl (cI, 512, Sum.inl vNow)), ((g 4), Sum.inl (cI, 600, Sum.inl vIM)), ((g 5), Sum.inl (cI, 600, Sum.inl vIW)), ((g 9), Sum.inl (cI, 512, Sum.inl so)), ((g 10), Sum.inl (cI, 512, Sum.inl no)), ((g 11), Sum.inl (cI, 20000, Sum.inl vW2))]) (va_runV (As := [Value.int (nI (2 * bb + byA wl2 (kk - 1)))]) (rest := []) ⟨hx, hb, hml, hown, hts⟩ (c_M_write l dC dI cI cM cO H.size o g fForm fShift fModels (nI its.length) fEnded fLow fRange fCache fPend fOuts fIns fReads fBad fIR fAsk fBAsk fCode fRL fRR fX (nI wl2.length) fThrown fG gs (2 * bb + byA wl2 (kk - 1)) (hGs) (by omega) (by omega)) (cwV 1 hts (my_gV k1107 k1109 ks32 k12 k1110) rfl rfl rfl cu_M_write_1 ⟨by rw [hR]; exact Nat.le_of_ble_eq_true rfl, by rw [hR]; exact Nat.le_of_ble_eq_true rfl⟩) (my_preV hK hN (hP.sub [0, 6] rfl) (hD.sub [0, 6] (by decide +kernel) rfl) 0 rfl rfl) rfl rfl hl.1 rfl (lv_room (Nat.le_of_ble_eq_true rfl)) d_M_endTable_261 ⟨by rw [hR]; exact Nat.le_of_ble_eq_true rfl, by rw [hR]; exact Nat.le_of_ble_eq_true rfl⟩) hP hD hS hA [0, 6] [1, 2, 3, 4, 5, 7, 8, 9] rfl rfl (by decide +kernel) (by decide +kernel) (fun u9 H locs hw_261 hP hD hS => ?_)
                      obtain ⟨v2_261, rfl⟩ : ∃ z, z = u9 := ⟨_, rfl⟩
                      have hw_261 : gIs v2_261 (gs ++ [(2 * bb + byA wl2 (kk - 1)) % 256]) := hw_261
                      have hPD : my_PD (dC, dI) vwCl A [((g 0), Sum.inl (cI, 8, Sum.inl vMany)), ((g 1), Sum.inl (cI, 512, Sum.inl vCounts)), ((g 2), Sum.inl (cI, 512, Sum.inl vNow)), ((g 4), Sum.inl (cI, 600, Sum.inl vIM)), ((g 5), Sum.inl (cI, 600, Sum.inl vIW)), ((g 9), Sum.inl (cI, 512, Sum.inl so)), ((g 10), Sum.inl (cI, 512, Sum.inl no)), ((g 11), Sum.inl (cI, 20000, Sum.inl vW2)), (o, Sum.inr (9, mO g fForm fShift fModels (nI its.length) fEnded fLow fRange fCache fPend (nI (gs ++ [(2 * bb + byA wl2 (kk - 1)) % 256]).length) fOuts fIns fReads fBad fIR fAsk fBAsk fCode fRL fRR fX (nI wl2.length) fThrown)), ((g 6), Sum.inl (cI, 9000, Sum.inl v2_261))] H := ⟨hP, hD⟩
                      have hP := hPD.1
                      have hD := hPD.2
                      refine lv_iconst (v := 0) hx hb d_M_endTable_264 (by decide) ?_
                      refine lv_istore (lv' := [(4, Value.int 0), (5, Value.int (nI (nn + 1))), (6, Value.int i8), (3, Value.int ld), (1, Value.long (lN V)), (0, Value.ref o)]) hx hb d_M_endTable_265 hl (by decide) rfl (fun ls hl => ?_)
                      refine lv_iconst (v := 0) hx hb d_M_endTable_267 (by decide) ?_
                      refine lv_istore (lv' := [(5, Value.int 0), (4, Value.int 0), (6, Value.int i8), (3, Value.int ld), (1, Value.long (lN V)), (0, Value.ref o)]) hx hb d_M_endTable_268 hl (by decide) rfl (fun ls hl => ?_)
                      obtain ⟨v_15, ev_15⟩ : ∃ y : Int32, y = i8 + (-1) := ⟨_, rfl⟩
                      refine lv_iinc (v := v_15) (lv' := [(6, Value.int v_15), (5, Value.int 0), (4, Value.int 0), (3, Value.int ld), (1, Value.long (lN V)), (0, Value.ref o)]) hx hb d_M_endTable_270 hl (k := 2) rfl (by rw [ev_15]; rfl) (by decide) rfl (fun ls hl => ?_)
                      refine lv_goto (tgt := 229) hx hb d_M_endTable_273 (by decide) ?_
                      exact ih9_229 _ (by first | omega | (omega)) (0 : Nat) (0 : Nat) (qq + 1) v_15 (kk - 1) (gs ++ [(2 * bb + byA wl2 (kk - 1)) % 256]) v2_261 rfl (by rw [ev_15, Int32.add_assoc, show (-1 : Int32) + 1 = 0 from by decide, Int32.add_zero]; exact hi7) (by omega) (by omega) (by omega) (rfl) (by rw [hgs, pkB, hn8b]) (hw_261) (by rw [List.length_append, List.length_singleton]; omega) H locs ls (hP.sub [8, 0, 1, 2, 3, 4, 9, 5, 6, 7] rfl) (hD.sub [8, 0, 1, 2, 3, 4, 9, 5, 6, 7] (by decide +kernel) rfl) hS (lv_sub hl [0, 1, 2, 3, 4, 5] rfl)
              exact J_229 _ (0 : Nat) (0 : Nat) (0 : Nat) v_4 wl2.length ([] : List Nat) vGoing rfl (by rw [ev_4]; exact Int32.sub_add_cancel _ _) (Nat.le_refl _) (by decide) (by omega) (rfl) (rfl) (fun z9 h9 => absurd h9 (Nat.not_lt_zero z9)) (by show 0 + _ ≤ _; omega) H locs ls (hP.sub [0, 1, 2, 3, 4, 5, 6, 7, 8, 9] rfl) (hD.sub [0, 1, 2, 3, 4, 5, 6, 7, 8, 9] (by decide +kernel) rfl) hS (lv_sub hl [0, 1, 2, 3, 4, 5] rfl)
            · have hjl : jj < 9 := by
                rcases Nat.lt_or_ge jj 9 with z | z
                · exact z
                · exact absurd (nI_le (a := 9) z (by omega)) c_3
              refine lv_aload_n hx hb d_M_endTable_197 rfl (lv_at hl 3 rfl) ?_
              refine lv_lload_n hx hb d_M_endTable_198 rfl (lv_at hl 2 rfl) ?_
              refine lv_ldc2 (v := 512) hx hb hown (hg _ k1160) d_M_endTable_199 ?_
              refine lv_lsub hx hb d_M_endTable_202 ?_
              refine lv_topl (fun v_16 ev_16 => ?_)
              have z9 : v_16 = lN (V - 512) := by rw [ev_16]; exact lN_sub hV0
              subst z9
              refine lv_iload hx hb d_M_endTable_203 (lv_at hl 0 rfl) ?_
              refine lv_lshr hx hb d_M_endTable_205 rfl ?_
              refine lv_topl (fun v_17 ev_17 => ?_)
              have z9 : v_17 = lN ((V - 512) / 2 ^ jj) := by rw [ev_17]; exact L_shrV (by omega) hjl
              subst z9
              refine my_cv (wr := [((g 0), Sum.inl (cI, 8, Sum.inl vMany)), ((g 1), Sum.inl (cI, 512, Sum.inl vCounts)), ((g 2), Sum.inl (cI, 512, Sum.inl vNow)), ((g 4), Sum.inl (cI, 600, Sum.inl vIM)), ((g 5), Sum.inl (cI, 600, Sum.inl vIW)), ((g 6), Sum.inl (cI, 9000, Sum.inl vGoing)), ((g 9), Sum.inl (cI, 512, Sum.inl so)), ((g 10), Sum.inl (cI, 512, Sum.inl no))]) (va_runV (As := [Value.long (lN ((V - 512) / 2 ^ jj))]) (rest := []) ⟨hx, hb, hml, hown, hts⟩ (c_M_writeBit l dC dI cI cM cO H.size o g fForm fShift fModels (nI its.length) fEnded fLow fRange fCache fPend 0 fOuts fIns fReads fBad fIR fAsk fBAsk fCode fRL fRR fX fThrown vW2 wl2 ((V - 512) / 2 ^ jj) (hG2) (by omega) (Nat.lt_of_le_of_lt (Nat.div_le_self _ _) (by omega))) (cwV 1 hts (my_gV k1161 k1163 ks42 k12 k1164) rfl rfl rfl cu_M_writeBit_1 ⟨by rw [hR]; exact Nat.le_of_ble_eq_true rfl, by rw [hR]; exact Nat.le_of_ble_eq_true rfl⟩) (my_preV hK hN (hP.sub [0, 9] rfl) (hD.sub [0, 9] (by decide +kernel) rfl) 0 rfl rfl) rfl rfl hl.1 rfl (lv_room (Nat.le_of_ble_eq_true rfl)) d_M_endTable_206 ⟨by rw [hR]; exact Nat.le_of_ble_eq_true rfl, by rw [hR]; exact Nat.le_of_ble_eq_true rfl⟩) hP hD hS hA [0, 9] [1, 2, 3, 4, 5, 6, 7, 8] rfl rfl (by decide +kernel) (by decide +kernel) (fun u9 H locs hw_206 hP hD hS => ?_)
              obtain ⟨v2_206, rfl⟩ : ∃ z, z = u9 := ⟨_, rfl⟩
              have hw_206 : gIs v2_206 (wl2 ++ [((V - 512) / 2 ^ jj) % 2]) := hw_206
              have hPD : my_PD (dC, dI) vwCl A [((g 0), Sum.inl (cI, 8, Sum.inl vMany)), ((g 1), Sum.inl (cI, 512, Sum.inl vCounts)), ((g 2), Sum.inl (cI, 512, Sum.inl vNow)), ((g 4), Sum.inl (cI, 600, Sum.inl vIM)), ((g 5), Sum.inl (cI, 600, Sum.inl vIW)), ((g 6), Sum.inl (cI, 9000, Sum.inl vGoing)), ((g 9), Sum.inl (cI, 512, Sum.inl so)), ((g 10), Sum.inl (cI, 512, Sum.inl no)), (o, Sum.inr (9, mO g fForm fShift fModels (nI its.length) fEnded fLow fRange fCache fPend 0 fOuts fIns fReads fBad fIR fAsk fBAsk fCode fRL fRR fX (nI (wl2 ++ [((V - 512) / 2 ^ jj) % 2]).length) fThrown)), ((g 11), Sum.inl (cI, 20000, Sum.inl v2_206))] H := ⟨hP, hD⟩
              have hP := hPD.1
              have hD := hPD.2
              obtain ⟨v_18, ev_18⟩ : ∃ y : Int32, y = (nI jj) + (1) := ⟨_, rfl⟩
              refine lv_iinc (v := v_18) (lv' := [(4, Value.int v_18), (3, Value.int ld), (1, Value.long (lN V)), (0, Value.ref o)]) hx hb d_M_endTable_209 hl (k := 0) rfl (by rw [ev_18]; rfl) (by decide) rfl (fun ls hl => ?_)
              have z9 : v_18 = nI (jj + 1) := by rw [ev_18]; exact nI_1 _
              subst z9
              refine lv_goto (tgt := 190) hx hb d_M_endTable_212 (by decide) ?_
              exact ih9_190 _ (by first | omega | (omega)) (jj + 1) (wl2 ++ [((V - 512) / 2 ^ jj) % 2]) v2_206 rfl (by omega) (by rw [hwb, bvL, List.append_assoc]) (hw_206) (bt2_add hB2 (Nat.mod_lt _ (by decide))) (by rw [List.length_append, List.length_singleton]; omega) H locs ls (hP.sub [8, 0, 1, 2, 3, 4, 5, 6, 7, 9] rfl) (hD.sub [8, 0, 1, 2, 3, 4, 5, 6, 7, 9] (by decide +kernel) rfl) hS (lv_sub hl [0, 1, 2, 3] rfl)
        exact J_190 _ (0 : Nat) wl vW rfl (by decide) (by rw [bvL, List.append_nil]) (hG) (hB) (by omega) H locs ls (hP.sub [0, 1, 2, 3, 4, 5, 6, 7, 8, 9] rfl) (hD.sub [0, 1, 2, 3, 4, 5, 6, 7, 8, 9] (by decide +kernel) rfl) hS (lv_sub hl [0, 1, 2, 3] rfl)
      · have hk0 : 1 ≤ k := by
          rcases Nat.eq_zero_or_pos k with z | z
          · subst z; exact absurd (show i9 < 0 by rw [show i9 = -1 from by rw [← Int32.add_sub_cancel (a := i9) (b := 1), hi]; rfl]; decide) c_2
          · exact z
        have hi9 : i9 = nI (k - 1) := by rw [← Int32.add_sub_cancel (a := i9) (b := 1), hi]; exact pk_sub (b := 1) hk0
        have hitk := hit (k - 1) (by omega)
        have hokk := hok (k - 1) (by omega)
        have hk8 := hMD.1
        refine lv_aload_n hx hb d_M_endTable_24 rfl (lv_at hl 3 rfl) ?_
        refine va_get (D := (dC, dI)) (ci := 9) (v := .ref (g 4)) (C := "RangeCodersModel") (T := T_M) (N := 35) hx hb hg in_M hown hK hP 0 rfl rfl 8 (by decide) (hg _ k960) (fun _ h9 => h9) rfl d_M_endTable_25 ?_
        refine lv_iload hx hb d_M_endTable_28 (lv_at hl 0 rfl) ?_
        refine va_iald hx hb hK hP 4 0 rfl rfl (by rw [hi9]; exact vp_in_nI (by omega) (by decide)) d_M_endTable_30 ?_
        refine lv_topi (fun v_19 ev_19 => ?_)
        have z9 : v_19 = itM (itA its (k - 1)) := by rw [ev_19, hi9, nI_clamp (by omega)]; exact hitk.1
        subst z9
        refine lv_istore (lv' := [(5, Value.int (itM (itA its (k - 1)))), (4, Value.int i9), (3, Value.int ld), (1, Value.long (lN V)), (0, Value.ref o)]) hx hb d_M_endTable_31 hl (by decide) rfl (fun ls hl => ?_)
        refine lv_aload_n hx hb d_M_endTable_33 rfl (lv_at hl 4 rfl) ?_
        refine va_get (D := (dC, dI)) (ci := 9) (v := .ref (g 5)) (C := "RangeCodersModel") (T := T_M) (N := 35) hx hb hg in_M hown hK hP 0 rfl rfl 9 (by decide) (hg _ k961) (fun _ h9 => h9) rfl d_M_endTable_34 ?_
        refine lv_iload hx hb d_M_endTable_37 (lv_at hl 1 rfl) ?_
        refine va_iald hx hb hK hP 5 0 rfl rfl (by rw [hi9]; exact vp_in_nI (by omega) (by decide)) d_M_endTable_39 ?_
        refine lv_topi (fun v_20 ev_20 => ?_)
        have z9 : v_20 = nI (itA its (k - 1)).2.2 := by rw [ev_20, hi9, nI_clamp (by omega)]; exact hitk.2
        subst z9
        refine lv_istore (lv' := [(6, Value.int (nI (itA its (k - 1)).2.2)), (5, Value.int (itM (itA its (k - 1)))), (4, Value.int i9), (3, Value.int ld), (1, Value.long (lN V)), (0, Value.ref o)]) hx hb d_M_endTable_40 hl (by decide) rfl (fun ls hl => ?_)
        refine lv_iload hx hb d_M_endTable_42 (lv_at hl 1 rfl) ?_
        refine lv_if_ge (tgt := 77) hx hb d_M_endTable_44 (by decide) (fun c_21 => ?_) (fun c_21 => ?_)
        · have hkd : ¬ (itA its (k - 1)).1 = 0 := (itm_pos hk8 (by decide) hokk).mp c_21
          obtain ⟨mm, ss, hmk, hsN, hfp, hs5, hsg, em, es⟩ : ∃ mm ss, mm < km ∧ ss < N mm ∧ 0 < Fvw vNow mm ss ∧ ns (Fvw vNow mm) (N mm) = 512 ∧ sgI vNow (64 * mm) (N mm) (Fvw vNow mm) ∧ itM (itA its (k - 1)) = nI mm ∧ (itA its (k - 1)).2.2 = ss := by
            rcases hokk with q | q
            · exact absurd q.1 hkd
            · exact ⟨_, _, q.2.1, q.2.2.1, q.2.2.2.1, q.2.2.2.2.1, q.2.2.2.2.2, if_neg hkd, rfl⟩
          obtain ⟨hn9, hn2, hn64, -⟩ := hMD.2 mm hmk
          obtain ⟨ff, hff⟩ : ∃ z, z = Fvw vNow mm ss := ⟨_, rfl⟩
          rw [← hff] at hfp
          have hf5 : ff ≤ 512 := by rw [hff, ← hs5]; exact ns_ge hsN
          rw [em, es] at hl
          have hl : lv_has ls 9 [(6, Value.int (nI ss)), (5, Value.int (nI mm)), (4, Value.int i9), (3, Value.int ld), (1, Value.long (lN V)), (0, Value.ref o)] := hl
          have hmk1 : (itA its (k - 1)).2.1 < km := by rcases hokk with q | q; exact absurd q.1 hkd; exact q.2.1
          have em1 : (itA its (k - 1)).2.1 = mm := nI_inj (by omega) (by omega) (by rw [← em]; unfold itM; rw [if_neg hkd])
          refine lv_iload_n hx hb d_M_endTable_77 rfl (lv_at hl 3 rfl) ?_
          have J_96 : ∀ (so9 : Nat → Int32) (no9 : Nat → Int32) (hly : layd so9 no9 (Fvw vNow mm) (N mm)) (H : Heap) (locs : List Loc) (ls : Array Slot), va_P (dC, dI) vwCl [(o, Sum.inr (9, mO g fForm fShift fModels (nI its.length) fEnded fLow fRange fCache fPend 0 fOuts fIns fReads fBad fIR fAsk fBAsk fCode fRL fRR fX (nI wl.length) fThrown)), ((g 0), Sum.inl (cI, 8, Sum.inl vMany)), ((g 1), Sum.inl (cI, 512, Sum.inl vCounts)), ((g 2), Sum.inl (cI, 512, Sum.inl vNow)), ((g 4), Sum.inl (cI, 600, Sum.inl vIM)), ((g 5), Sum.inl (cI, 600, Sum.inl vIW)), ((g 6), Sum.inl (cI, 9000, Sum.inl vGoing)), ((g 9), Sum.inl (cI, 512, Sum.inl so9)), ((g 10), Sum.inl (cI, 512, Sum.inl no9)), ((g 11), Sum.inl (cI, 20000, Sum.inl vW))] H → va_D A [(o, Sum.inr (9, mO g fForm fShift fModels (nI its.length) fEnded fLow fRange fCache fPend 0 fOuts fIns fReads fBad fIR fAsk fBAsk fCode fRL fRR fX (nI wl.length) fThrown)), ((g 0), Sum.inl (cI, 8, Sum.inl vMany)), ((g 1), Sum.inl (cI, 512, Sum.inl vCounts)), ((g 2), Sum.inl (cI, 512, Sum.inl vNow)), ((g 4), Sum.inl (cI, 600, Sum.inl vIM)), ((g 5), Sum.inl (cI, 600, Sum.inl vIW)), ((g 6), Sum.inl (cI, 9000, Sum.inl vGoing)), ((g 9), Sum.inl (cI, 512, Sum.inl so9)), ((g 10), Sum.inl (cI, 512, Sum.inl no9)), ((g 11), Sum.inl (cI, 20000, Sum.inl vW))] → va_S A s.heap H locs → lv_has ls 9 [(3, Value.int (nI mm)), (6, Value.int (nI ss)), (5, Value.int (nI mm)), (4, Value.int i9), (1, Value.long (lN V)), (0, Value.ref o)] → W p l e R s m args below meth c H locs 0 0 Q (F0 m 96 ls []) := by
            intro so9 no9 hly H locs ls hP hD hS hl
            refine lv_aload_n hx hb d_M_endTable_96 rfl (lv_at hl 5 rfl) ?_
            refine va_get (D := (dC, dI)) (ci := 9) (v := .ref (g 2)) (C := "RangeCodersModel") (T := T_M) (N := 35) hx hb hg in_M hown hK hP 0 rfl rfl 5 (by decide) (hg _ k957) (fun _ h9 => h9) rfl d_M_endTable_97 ?_
            refine lv_bipush (v := 64) hx hb d_M_endTable_100 (by decide) ?_
            refine lv_iload hx hb d_M_endTable_102 (lv_at hl 2 rfl) ?_
            refine lv_imul hx hb d_M_endTable_104 ?_
            refine lv_topi (fun v_22 ev_22 => ?_)
            refine lv_iload hx hb d_M_endTable_105 (lv_at hl 1 rfl) ?_
            refine lv_iadd hx hb d_M_endTable_107 ?_
            refine lv_topi (fun v_23 ev_23 => ?_)
            have hix : v_23 = nI (64 * mm + ss) := by rw [ev_23, ev_22]; exact ix64
            refine va_iald hx hb hK hP 3 0 rfl rfl (by rw [hix]; exact vp_in_nI (by omega) (by decide)) d_M_endTable_108 ?_
            refine lv_topi (fun v_24 ev_24 => ?_)
            have z9 : v_24 = nI ff := by rw [ev_24, hix, nI_clamp (by omega), hff]; exact hsg ss hsN
            subst z9
            refine lv_istore (lv' := [(7, Value.int (nI ff)), (3, Value.int (nI mm)), (6, Value.int (nI ss)), (5, Value.int (nI mm)), (4, Value.int i9), (1, Value.long (lN V)), (0, Value.ref o)]) hx hb d_M_endTable_109 hl (by decide) rfl (fun ls hl => ?_)
            have J_111 : ∀ (n9_111 : Nat) (V2 : Nat) (wl2 : List Nat) (vW2 : Nat → Int32) (c9 : Nat) (hn9_111 : V2 = n9_111) (hE8 : t4N ff 10 (V, wl) = t4N ff (10 - c9) (V2, wl2)) (hf2 : ff ≤ V2) (hV2 : V2 < 2 ^ (10 - c9)) (hc9 : c9 ≤ 9) (hG2 : gIs vW2 wl2) (hB2 : bt2 wl2) (hW2 : wl2.length + 9 * k ≤ 9 * its.length + c9) (H : Heap) (locs : List Loc) (ls : Array Slot), va_P (dC, dI) vwCl [(o, Sum.inr (9, mO g fForm fShift fModels (nI its.length) fEnded fLow fRange fCache fPend 0 fOuts fIns fReads fBad fIR fAsk fBAsk fCode fRL fRR fX (nI wl2.length) fThrown)), ((g 0), Sum.inl (cI, 8, Sum.inl vMany)), ((g 1), Sum.inl (cI, 512, Sum.inl vCounts)), ((g 2), Sum.inl (cI, 512, Sum.inl vNow)), ((g 4), Sum.inl (cI, 600, Sum.inl vIM)), ((g 5), Sum.inl (cI, 600, Sum.inl vIW)), ((g 6), Sum.inl (cI, 9000, Sum.inl vGoing)), ((g 9), Sum.inl (cI, 512, Sum.inl so9)), ((g 10), Sum.inl (cI, 512, Sum.inl no9)), ((g 11), Sum.inl (cI, 20000, Sum.inl vW2))] H → va_D A [(o, Sum.inr (9, mO g fForm fShift fModels (nI its.length) fEnded fLow fRange fCache fPend 0 fOuts fIns fReads fBad fIR fAsk fBAsk fCode fRL fRR fX (nI wl2.length) fThrown)), ((g 0), Sum.inl (cI, 8, Sum.inl vMany)), ((g 1), Sum.inl (cI, 512, Sum.inl vCounts)), ((g 2), Sum.inl (cI, 512, Sum.inl vNow)), ((g 4), Sum.inl (cI, 600, Sum.inl vIM)), ((g 5), Sum.inl (cI, 600, Sum.inl vIW)), ((g 6), Sum.inl (cI, 9000, Sum.inl vGoing)), ((g 9), Sum.inl (cI, 512, Sum.inl so9)), ((g 10), Sum.inl (cI, 512, Sum.inl no9)), ((g 11), Sum.inl (cI, 20000, Sum.inl vW2))] → va_S A s.heap H locs → lv_has ls 9 [(1, Value.long (lN V2)), (7, Value.int (nI ff)), (3, Value.int (nI mm)), (6, Value.int (nI ss)), (5, Value.int (nI mm)), (4, Value.int i9), (0, Value.ref o)] → W p l e R s m args below meth c H locs 0 0 Q (F0 m 111 ls []) := by
              intro n9_111
              induction n9_111 using Nat.strongRecOn with
              | ind n9_111 ih9_111 =>
                intro V2 wl2 vW2 c9 hn9_111 hE8 hf2 hV2 hc9 hG2 hB2 hW2 H locs ls hP hD hS hl
                refine lv_lload_n hx hb d_M_endTable_111 rfl (lv_at hl 0 rfl) ?_
                refine lv_ldc2 (v := 2) hx hb hown (hg _ k1169) d_M_endTable_112 ?_
                refine lv_iload hx hb d_M_endTable_115 (lv_at hl 1 rfl) ?_
                refine lv_i2l hx hb d_M_endTable_117 rfl ?_
                refine lv_topl (fun v_25 ev_25 => ?_)
                have z9 : v_25 = lN ff := by rw [ev_25]; exact nI_l (by omega)
                subst z9
                refine lv_lmul hx hb d_M_endTable_118 ?_
                refine lv_topl (fun v_26 ev_26 => ?_)
                have z9 : v_26 = lN (2 * ff) := by rw [ev_26]; exact lN_mul 2 ff
                subst z9
                refine W.lcmp hx hb d_M_endTable_119 ?_
                refine lv_if_lt (tgt := 135) hx hb d_M_endTable_120 (by decide) (fun c_27 => ?_) (fun c_27 => ?_)
                · rw [lg_cmp_lt] at c_27
                  have hlt2 : V2 < 2 * ff := (L_lt (by have := hv_lt hV2; omega) (by omega)).mp c_27
                  obtain ⟨hp0, hpl, hnu⟩ := plO_ok hs5 hsN (d := V2 - ff) (by rw [← hff]; omega)
                  obtain ⟨p0, ep0⟩ : ∃ z, z = plO (Fvw vNow mm) (N mm) ss (V2 - ff) := ⟨_, rfl⟩
                  rw [← ep0] at hp0 hpl hnu
                  have hv10 := hv_lt hV2
                  have hE7 : t4N ff 10 (V, wl) = (V2, wl2) := by rw [hE8, t4N_e (by show ¬ 2 * ff ≤ V2; omega)]
                  refine lv_iconst (v := 0) hx hb d_M_endTable_135 (by decide) ?_
                  refine lv_istore (lv' := [(8, Value.int 0), (1, Value.long (lN V2)), (7, Value.int (nI ff)), (3, Value.int (nI mm)), (6, Value.int (nI ss)), (5, Value.int (nI mm)), (4, Value.int i9), (0, Value.ref o)]) hx hb d_M_endTable_136 hl (by decide) rfl (fun ls hl => ?_)
                  have J_138 : ∀ (n9_138 : Nat) (pp : Nat) (hn9_138 : 512 - pp = n9_138) (hpp : pp ≤ p0) (H : Heap) (locs : List Loc) (ls : Array Slot), va_P (dC, dI) vwCl [(o, Sum.inr (9, mO g fForm fShift fModels (nI its.length) fEnded fLow fRange fCache fPend 0 fOuts fIns fReads fBad fIR fAsk fBAsk fCode fRL fRR fX (nI wl2.length) fThrown)), ((g 0), Sum.inl (cI, 8, Sum.inl vMany)), ((g 1), Sum.inl (cI, 512, Sum.inl vCounts)), ((g 2), Sum.inl (cI, 512, Sum.inl vNow)), ((g 4), Sum.inl (cI, 600, Sum.inl vIM)), ((g 5), Sum.inl (cI, 600, Sum.inl vIW)), ((g 6), Sum.inl (cI, 9000, Sum.inl vGoing)), ((g 9), Sum.inl (cI, 512, Sum.inl so9)), ((g 10), Sum.inl (cI, 512, Sum.inl no9)), ((g 11), Sum.inl (cI, 20000, Sum.inl vW2))] H → va_D A [(o, Sum.inr (9, mO g fForm fShift fModels (nI its.length) fEnded fLow fRange fCache fPend 0 fOuts fIns fReads fBad fIR fAsk fBAsk fCode fRL fRR fX (nI wl2.length) fThrown)), ((g 0), Sum.inl (cI, 8, Sum.inl vMany)), ((g 1), Sum.inl (cI, 512, Sum.inl vCounts)), ((g 2), Sum.inl (cI, 512, Sum.inl vNow)), ((g 4), Sum.inl (cI, 600, Sum.inl vIM)), ((g 5), Sum.inl (cI, 600, Sum.inl vIW)), ((g 6), Sum.inl (cI, 9000, Sum.inl vGoing)), ((g 9), Sum.inl (cI, 512, Sum.inl so9)), ((g 10), Sum.inl (cI, 512, Sum.inl no9)), ((g 11), Sum.inl (cI, 20000, Sum.inl vW2))] → va_S A s.heap H locs → lv_has ls 9 [(8, Value.int (nI pp)), (1, Value.long (lN V2)), (7, Value.int (nI ff)), (3, Value.int (nI mm)), (6, Value.int (nI ss)), (5, Value.int (nI mm)), (4, Value.int i9), (0, Value.ref o)] → W p l e R s m args below meth c H locs 0 0 Q (F0 m 138 ls []) := by
                    intro n9_138
                    induction n9_138 using Nat.strongRecOn with
                    | ind n9_138 ih9_138 =>
                      intro pp hn9_138 hpp H locs ls hP hD hS hl
                      refine lv_aload_n hx hb d_M_endTable_138 rfl (lv_at hl 7 rfl) ?_
                      refine va_get (D := (dC, dI)) (ci := 9) (v := .ref (g 9)) (C := "RangeCodersModel") (T := T_M) (N := 35) hx hb hg in_M hown hK hP 0 rfl rfl 30 (by decide) (hg _ k982) (fun _ h9 => h9) rfl d_M_endTable_139 ?_
                      refine lv_iload hx hb d_M_endTable_142 (lv_at hl 0 rfl) ?_
                      refine va_iald hx hb hK hP 7 0 rfl rfl (vp_in_nI (by omega) (by decide)) d_M_endTable_144 ?_
                      refine lv_topi (fun v_28 ev_28 => ?_)
                      have z9 : v_28 = nI (plc (Fvw vNow mm) (N mm) pp) := by rw [ev_28, nI_clamp (by omega)]; exact hly.1 pp (by omega)
                      subst z9
                      refine lv_iload hx hb d_M_endTable_145 (lv_at hl 4 rfl) ?_
                      refine lv_icmp_ne (tgt := 167) hx hb d_M_endTable_147 (by decide) (fun c_29 => ?_) (fun c_29 => ?_)
                      · have hpn : pp < p0 := by
                          rcases Nat.lt_or_ge pp p0 with z | z
                          · exact z
                          · exact absurd (by rw [show pp = p0 by omega, hpl]) c_29
                        obtain ⟨v_30, ev_30⟩ : ∃ y : Int32, y = (nI pp) + (1) := ⟨_, rfl⟩
                        refine lv_iinc (v := v_30) (lv' := [(8, Value.int v_30), (1, Value.long (lN V2)), (7, Value.int (nI ff)), (3, Value.int (nI mm)), (6, Value.int (nI ss)), (5, Value.int (nI mm)), (4, Value.int i9), (0, Value.ref o)]) hx hb d_M_endTable_167 hl (k := 0) rfl (by rw [ev_30]; rfl) (by decide) rfl (fun ls hl => ?_)
                        have z9 : v_30 = nI (pp + 1) := by rw [ev_30]; exact nI_1 _
                        subst z9
                        refine lv_goto (tgt := 138) hx hb d_M_endTable_170 (by decide) ?_
                        exact ih9_138 _ (by first | omega | (omega)) (pp + 1) rfl (hpn) H locs ls (hP.sub [0, 1, 2, 3, 4, 5, 6, 7, 8, 9] rfl) (hD.sub [0, 1, 2, 3, 4, 5, 6, 7, 8, 9] (by decide +kernel) rfl) hS (lv_sub hl [0, 1, 2, 3, 4, 5, 6, 7] rfl)
                      · refine lv_aload_n hx hb d_M_endTable_150 rfl (lv_at hl 7 rfl) ?_
                        refine va_get (D := (dC, dI)) (ci := 9) (v := .ref (g 10)) (C := "RangeCodersModel") (T := T_M) (N := 35) hx hb hg in_M hown hK hP 0 rfl rfl 31 (by decide) (hg _ k983) (fun _ h9 => h9) rfl d_M_endTable_151 ?_
                        refine lv_iload hx hb d_M_endTable_154 (lv_at hl 0 rfl) ?_
                        refine va_iald hx hb hK hP 8 0 rfl rfl (vp_in_nI (by omega) (by decide)) d_M_endTable_156 ?_
                        refine lv_topi (fun v_31 ev_31 => ?_)
                        have z9 : v_31 = nI (num (Fvw vNow mm) (N mm) pp) := by rw [ev_31, nI_clamp (by omega)]; exact hly.2 pp (by omega)
                        subst z9
                        refine lv_i2l hx hb d_M_endTable_157 rfl ?_
                        refine lv_topl (fun v_32 ev_32 => ?_)
                        have z9 : v_32 = lN (num (Fvw vNow mm) (N mm) pp) := by rw [ev_32]; exact nI_l (Nat.lt_of_le_of_lt (cn_le _ _ _) (by omega))
                        subst z9
                        refine lv_lload_n hx hb d_M_endTable_158 rfl (lv_at hl 1 rfl) ?_
                        refine lv_iload hx hb d_M_endTable_159 (lv_at hl 2 rfl) ?_
                        refine lv_i2l hx hb d_M_endTable_161 rfl ?_
                        refine lv_topl (fun v_33 ev_33 => ?_)
                        have z9 : v_33 = lN ff := by rw [ev_33]; exact nI_l (by omega)
                        subst z9
                        refine lv_lsub hx hb d_M_endTable_162 ?_
                        refine lv_topl (fun v_34 ev_34 => ?_)
                        have z9 : v_34 = lN (V2 - ff) := by rw [ev_34]; exact lN_sub hf2
                        subst z9
                        refine W.lcmp hx hb d_M_endTable_163 ?_
                        refine lv_if_eq (tgt := 173) hx hb d_M_endTable_164 (by decide) (fun c_35 => ?_) (fun c_35 => ?_)
                        · rw [lg_cmp_eq] at c_35
                          refine lv_ldc2 (v := 512) hx hb hown (hg _ k1160) d_M_endTable_173 ?_
                          refine lv_iload hx hb d_M_endTable_176 (lv_at hl 0 rfl) ?_
                          refine lv_i2l hx hb d_M_endTable_178 rfl ?_
                          refine lv_topl (fun v_36 ev_36 => ?_)
                          have z9 : v_36 = lN pp := by rw [ev_36]; exact nI_l (by omega)
                          subst z9
                          refine lv_ladd hx hb d_M_endTable_179 ?_
                          refine lv_topl (fun v_37 ev_37 => ?_)
                          have z9 : v_37 = lN (512 + pp) := by rw [ev_37]; exact lN_add 512 pp
                          subst z9
                          refine lv_lstore_n (lv' := [(1, Value.long (lN (512 + pp))), (8, Value.int (nI pp)), (7, Value.int (nI ff)), (3, Value.int (nI mm)), (6, Value.int (nI ss)), (5, Value.int (nI mm)), (4, Value.int i9), (0, Value.ref o)]) hx hb d_M_endTable_180 rfl hl (by decide) rfl (fun ls hl => ?_)
                          have hpe : pp = p0 := by rw [ep0]; exact plO_eq hs5 (by omega) (nI_inj (by have := plc_lt (p := pp) hs5; omega) (by omega) (c_29)) ((L_eqN (Nat.lt_of_le_of_lt (cn_le _ _ _) (by omega)) (by omega)).mp (c_35)) hsN
                          have hT4 : (512 + pp, wl2) = t4I (Fvw vNow (itA its (k - 1)).2.1) (N (itA its (k - 1)).2.1) (itA its (k - 1)).2.2 (V, wl) := by rw [em1, es]; unfold t4I; rw [← hff, hE7, hpe, ep0]
                          obtain ⟨v_38, ev_38⟩ : ∃ y : Int32, y = i9 + (-1) := ⟨_, rfl⟩
                          refine lv_iinc (v := v_38) (lv' := [(4, Value.int v_38), (1, Value.long (lN (512 + pp))), (8, Value.int (nI pp)), (7, Value.int (nI ff)), (3, Value.int (nI mm)), (6, Value.int (nI ss)), (5, Value.int (nI mm)), (0, Value.ref o)]) hx hb d_M_endTable_181 hl (k := 6) rfl (by rw [ev_38]; rfl) (by decide) rfl (fun ls hl => ?_)
                          refine lv_goto (tgt := 19) hx hb d_M_endTable_184 (by decide) ?_
                          exact ih9_19 _ (by first | omega | (omega)) (512 + pp) (nI mm) v_38 (k - 1) wl2 vW2 so9 no9 rfl (by rw [hE9, show e4N (Fvw vNow) N its k (V, wl) = e4N (Fvw vNow) N its (k - 1 + 1) (V, wl) by rw [Nat.sub_add_cancel hk0], e4N]; unfold e4I; rw [if_neg hkd, ← hT4]) (by omega) (by omega) (by rw [ev_38, Int32.add_assoc, show (-1 : Int32) + 1 = 0 from by decide, Int32.add_zero]; exact hi9) (by omega) (hG2) (hB2) (by omega) (Or.inr ⟨mm, hmk, rfl, hly⟩) H locs ls (hP.sub [0, 1, 2, 3, 4, 5, 6, 7, 8, 9] rfl) (hD.sub [0, 1, 2, 3, 4, 5, 6, 7, 8, 9] (by decide +kernel) rfl) hS (lv_sub hl [0, 4, 1, 7] rfl)
                        · rw [lg_cmp_eq] at c_35
                          have hpn : pp < p0 := by
                            rcases Nat.lt_or_ge pp p0 with z | z
                            · exact z
                            · exact absurd (by rw [show pp = p0 by omega, hnu]) c_35
                          obtain ⟨v_39, ev_39⟩ : ∃ y : Int32, y = (nI pp) + (1) := ⟨_, rfl⟩
                          refine lv_iinc (v := v_39) (lv' := [(8, Value.int v_39), (1, Value.long (lN V2)), (7, Value.int (nI ff)), (3, Value.int (nI mm)), (6, Value.int (nI ss)), (5, Value.int (nI mm)), (4, Value.int i9), (0, Value.ref o)]) hx hb d_M_endTable_167 hl (k := 0) rfl (by rw [ev_39]; rfl) (by decide) rfl (fun ls hl => ?_)
                          have z9 : v_39 = nI (pp + 1) := by rw [ev_39]; exact nI_1 _
                          subst z9
                          refine lv_goto (tgt := 138) hx hb d_M_endTable_170 (by decide) ?_
                          exact ih9_138 _ (by first | omega | (omega)) (pp + 1) rfl (hpn) H locs ls (hP.sub [0, 1, 2, 3, 4, 5, 6, 7, 8, 9] rfl) (hD.sub [0, 1, 2, 3, 4, 5, 6, 7, 8, 9] (by decide +kernel) rfl) hS (lv_sub hl [0, 1, 2, 3, 4, 5, 6, 7] rfl)
                  exact J_138 _ (0 : Nat) rfl (Nat.zero_le _) H locs ls (hP.sub [0, 1, 2, 3, 4, 5, 6, 7, 8, 9] rfl) (hD.sub [0, 1, 2, 3, 4, 5, 6, 7, 8, 9] (by decide +kernel) rfl) hS (lv_sub hl [0, 1, 2, 3, 4, 5, 6, 7] rfl)
                · rw [lg_cmp_lt] at c_27
                  have hge : 2 * ff ≤ V2 := by
                    rcases Nat.lt_or_ge V2 (2 * ff) with z | z
                    · exact absurd ((L_lt (by have := hv_lt hV2; omega) (by omega)).mpr z) c_27
                    · exact z
                  have hc8 := hc_lt hV2 hc9 (by omega)
                  have hv10 := hv_lt hV2
                  refine lv_aload_n hx hb d_M_endTable_123 rfl (lv_at hl 6 rfl) ?_
                  refine lv_lload_n hx hb d_M_endTable_124 rfl (lv_at hl 0 rfl) ?_
                  refine my_cv (wr := [((g 0), Sum.inl (cI, 8, Sum.inl vMany)), ((g 1), Sum.inl (cI, 512, Sum.inl vCounts)), ((g 2), Sum.inl (cI, 512, Sum.inl vNow)), ((g 4), Sum.inl (cI, 600, Sum.inl vIM)), ((g 5), Sum.inl (cI, 600, Sum.inl vIW)), ((g 6), Sum.inl (cI, 9000, Sum.inl vGoing)), ((g 9), Sum.inl (cI, 512, Sum.inl so9)), ((g 10), Sum.inl (cI, 512, Sum.inl no9))]) (va_runV (As := [Value.long (lN V2)]) (rest := []) ⟨hx, hb, hml, hown, hts⟩ (c_M_writeBit l dC dI cI cM cO H.size o g fForm fShift fModels (nI its.length) fEnded fLow fRange fCache fPend 0 fOuts fIns fReads fBad fIR fAsk fBAsk fCode fRL fRR fX fThrown vW2 wl2 V2 (hG2) (by omega) (by omega)) (cwV 1 hts (my_gV k1161 k1163 ks42 k12 k1164) rfl rfl rfl cu_M_writeBit_1 ⟨by rw [hR]; exact Nat.le_of_ble_eq_true rfl, by rw [hR]; exact Nat.le_of_ble_eq_true rfl⟩) (my_preV hK hN (hP.sub [0, 9] rfl) (hD.sub [0, 9] (by decide +kernel) rfl) 0 rfl rfl) rfl rfl hl.1 rfl (lv_room (Nat.le_of_ble_eq_true rfl)) d_M_endTable_125 ⟨by rw [hR]; exact Nat.le_of_ble_eq_true rfl, by rw [hR]; exact Nat.le_of_ble_eq_true rfl⟩) hP hD hS hA [0, 9] [1, 2, 3, 4, 5, 6, 7, 8] rfl rfl (by decide +kernel) (by decide +kernel) (fun u9 H locs hw_125 hP hD hS => ?_)
                  obtain ⟨v2_125, rfl⟩ : ∃ z, z = u9 := ⟨_, rfl⟩
                  have hw_125 : gIs v2_125 (wl2 ++ [V2 % 2]) := hw_125
                  have hPD : my_PD (dC, dI) vwCl A [((g 0), Sum.inl (cI, 8, Sum.inl vMany)), ((g 1), Sum.inl (cI, 512, Sum.inl vCounts)), ((g 2), Sum.inl (cI, 512, Sum.inl vNow)), ((g 4), Sum.inl (cI, 600, Sum.inl vIM)), ((g 5), Sum.inl (cI, 600, Sum.inl vIW)), ((g 6), Sum.inl (cI, 9000, Sum.inl vGoing)), ((g 9), Sum.inl (cI, 512, Sum.inl so9)), ((g 10), Sum.inl (cI, 512, Sum.inl no9)), (o, Sum.inr (9, mO g fForm fShift fModels (nI its.length) fEnded fLow fRange fCache fPend 0 fOuts fIns fReads fBad fIR fAsk fBAsk fCode fRL fRR fX (nI (wl2 ++ [V2 % 2]).length) fThrown)), ((g 11), Sum.inl (cI, 20000, Sum.inl v2_125))] H := ⟨hP, hD⟩
                  have hP := hPD.1
                  have hD := hPD.2
                  refine lv_lload_n hx hb d_M_endTable_128 rfl (lv_at hl 0 rfl) ?_
                  refine lv_iconst (v := 1) hx hb d_M_endTable_129 (by decide) ?_
                  refine lv_lshr hx hb d_M_endTable_130 rfl ?_
                  refine lv_topl (fun v_40 ev_40 => ?_)
                  have z9 : v_40 = lN (V2 / 2) := by rw [ev_40]; exact L_shr1 (by omega)
                  subst z9
                  refine lv_lstore_n (lv' := [(1, Value.long (lN (V2 / 2))), (7, Value.int (nI ff)), (3, Value.int (nI mm)), (6, Value.int (nI ss)), (5, Value.int (nI mm)), (4, Value.int i9), (0, Value.ref o)]) hx hb d_M_endTable_131 rfl hl (by decide) rfl (fun ls hl => ?_)
                  refine lv_goto (tgt := 111) hx hb d_M_endTable_132 (by decide) ?_
                  exact ih9_111 _ (by first | omega | (omega)) (V2 / 2) (wl2 ++ [V2 % 2]) v2_125 (c9 + 1) rfl (by rw [hE8, t4N_s (by omega) hge, show 10 - (c9 + 1) = 10 - c9 - 1 by omega]) (by omega) (hv_st hV2 hc8) (by omega) (hw_125) (bt2_add hB2 (Nat.mod_lt _ (by decide))) (by rw [List.length_append, List.length_singleton]; omega) H locs ls (hP.sub [8, 0, 1, 2, 3, 4, 5, 6, 7, 9] rfl) (hD.sub [8, 0, 1, 2, 3, 4, 5, 6, 7, 9] (by decide +kernel) rfl) hS (lv_sub hl [0, 1, 2, 3, 4, 5, 6] rfl)
            exact J_111 _ V wl vW (0 : Nat) rfl (rfl) (by omega) (hV1) (by omega) (hG) (hB) (hW) H locs ls (hP.sub [0, 1, 2, 3, 4, 5, 6, 7, 8, 9] rfl) (hD.sub [0, 1, 2, 3, 4, 5, 6, 7, 8, 9] (by decide +kernel) rfl) hS (lv_sub hl [5, 0, 1, 2, 3, 4, 6] rfl)
          refine lv_iload hx hb d_M_endTable_78 (lv_at hl 1 rfl) ?_
          refine lv_icmp_eq (tgt := 96) hx hb d_M_endTable_80 (by decide) (fun c_41 => ?_) (fun c_41 => ?_)
          · subst c_41
            exact J_96 so no (ld_lay hk8 hmk hld) H locs ls (hP.sub [0, 1, 2, 3, 4, 5, 6, 7, 8, 9] rfl) (hD.sub [0, 1, 2, 3, 4, 5, 6, 7, 8, 9] (by decide +kernel) rfl) hS (lv_sub hl [3, 0, 1, 2, 4, 5] rfl)
          · refine lv_aload_n hx hb d_M_endTable_83 rfl (lv_at hl 5 rfl) ?_
            refine lv_aload_n hx hb d_M_endTable_84 rfl (lv_at hl 5 rfl) ?_
            refine va_get (D := (dC, dI)) (ci := 9) (v := .ref (g 2)) (C := "RangeCodersModel") (T := T_M) (N := 35) hx hb hg in_M hown hK hP 0 rfl rfl 5 (by decide) (hg _ k957) (fun _ h9 => h9) rfl d_M_endTable_85 ?_
            refine lv_iload hx hb d_M_endTable_88 (lv_at hl 1 rfl) ?_
            refine my_cv (wr := [((g 1), Sum.inl (cI, 512, Sum.inl vCounts)), ((g 4), Sum.inl (cI, 600, Sum.inl vIM)), ((g 5), Sum.inl (cI, 600, Sum.inl vIW)), ((g 6), Sum.inl (cI, 9000, Sum.inl vGoing)), ((g 11), Sum.inl (cI, 20000, Sum.inl vW))]) (va_runV (As := [Value.ref (g 2), Value.int (nI mm)]) (rest := []) ⟨hx, hb, hml, hown, hts⟩ (c_M_lay l dC dI cI cM cO H.size o g fForm fShift fModels (nI its.length) fEnded fLow fRange fCache fPend 0 fOuts fIns fReads fBad fIR fAsk fBAsk fCode fRL fRR fX (nI wl.length) fThrown vMany so no (g 2) vNow mm (N mm) (Fvw vNow mm) (by omega) (hn9) (hn64) (hsg) (hs5)) (cwV 2 hts (my_gV k1165 k1167 ks43 k12 k1168) rfl rfl rfl cu_M_lay_2 ⟨by rw [hR]; exact Nat.le_of_ble_eq_true rfl, by rw [hR]; exact Nat.le_of_ble_eq_true rfl⟩) (my_preV hK hN (hP.sub [0, 1, 3, 7, 8] rfl) (hD.sub [0, 1, 3, 7, 8] (by decide +kernel) rfl) 0 rfl rfl) rfl rfl hl.1 rfl (lv_room (Nat.le_of_ble_eq_true rfl)) d_M_endTable_90 ⟨by rw [hR]; exact Nat.le_of_ble_eq_true rfl, by rw [hR]; exact Nat.le_of_ble_eq_true rfl⟩) hP hD hS hA [0, 1, 3, 7, 8] [2, 4, 5, 6, 9] rfl rfl (by decide +kernel) (by decide +kernel) (fun u9 H locs hw_90 hP hD hS => ?_)
            obtain ⟨so2_90, no2_90⟩ := u9
            have hw_90 : layd so2_90 no2_90 (Fvw vNow mm) (N mm) := hw_90
            have hPD : my_PD (dC, dI) vwCl A [((g 1), Sum.inl (cI, 512, Sum.inl vCounts)), ((g 4), Sum.inl (cI, 600, Sum.inl vIM)), ((g 5), Sum.inl (cI, 600, Sum.inl vIW)), ((g 6), Sum.inl (cI, 9000, Sum.inl vGoing)), ((g 11), Sum.inl (cI, 20000, Sum.inl vW)), (o, Sum.inr (9, mO g fForm fShift fModels (nI its.length) fEnded fLow fRange fCache fPend 0 fOuts fIns fReads fBad fIR fAsk fBAsk fCode fRL fRR fX (nI wl.length) fThrown)), ((g 0), Sum.inl (cI, 8, Sum.inl vMany)), ((g 2), Sum.inl (cI, 512, Sum.inl vNow)), ((g 9), Sum.inl (cI, 512, Sum.inl so2_90)), ((g 10), Sum.inl (cI, 512, Sum.inl no2_90))] H := ⟨hP, hD⟩
            have hP := hPD.1
            have hD := hPD.2
            refine lv_iload hx hb d_M_endTable_93 (lv_at hl 1 rfl) ?_
            refine lv_istore_n (lv' := [(3, Value.int (nI mm)), (6, Value.int (nI ss)), (5, Value.int (nI mm)), (4, Value.int i9), (1, Value.long (lN V)), (0, Value.ref o)]) hx hb d_M_endTable_95 rfl hl (by decide) rfl (fun ls hl => ?_)
            exact J_96 so2_90 no2_90 (hw_90) H locs ls (hP.sub [5, 6, 0, 7, 1, 2, 3, 8, 9, 4] rfl) (hD.sub [5, 6, 0, 7, 1, 2, 3, 8, 9, 4] (by decide +kernel) rfl) hS (lv_sub hl [0, 1, 2, 3, 4, 5] rfl)
        · have hkd : (itA its (k - 1)).1 = 0 := Decidable.not_not.mp (fun z9 => c_21 ((itm_pos hk8 (by decide) hokk).mpr z9))
          obtain ⟨hb1, hb9, hvb⟩ : 1 ≤ (itA its (k - 1)).2.1 ∧ (itA its (k - 1)).2.1 ≤ 9 ∧ (itA its (k - 1)).2.2 < 2 ^ (itA its (k - 1)).2.1 := by
            rcases hokk with q | q
            · exact q.2
            · exact absurd hkd q.1
          have hs9 : (itA its (k - 1)).2.2 < 512 := Nat.lt_of_lt_of_le hvb (Nat.le_trans (Nat.pow_le_pow_right (by decide) hb9) (by decide))
          refine lv_iconst (v := 0) hx hb d_M_endTable_47 (by decide) ?_
          refine lv_istore (lv' := [(7, Value.int 0), (6, Value.int (nI (itA its (k - 1)).2.2)), (5, Value.int (itM (itA its (k - 1)))), (4, Value.int i9), (3, Value.int ld), (1, Value.long (lN V)), (0, Value.ref o)]) hx hb d_M_endTable_48 hl (by decide) rfl (fun ls hl => ?_)
          have J_50 : ∀ (n9_50 : Nat) (jj : Nat) (wl2 : List Nat) (vW2 : Nat → Int32) (hn9_50 : (itA its (k - 1)).2.1 - jj = n9_50) (hjj : jj ≤ (itA its (k - 1)).2.1) (hwb : wl2 = wl ++ bvL (itA its (k - 1)).2.2 jj) (hG2 : gIs vW2 wl2) (hB2 : bt2 wl2) (hW2 : wl2.length + 9 * k ≤ 9 * its.length + jj) (H : Heap) (locs : List Loc) (ls : Array Slot), va_P (dC, dI) vwCl [(o, Sum.inr (9, mO g fForm fShift fModels (nI its.length) fEnded fLow fRange fCache fPend 0 fOuts fIns fReads fBad fIR fAsk fBAsk fCode fRL fRR fX (nI wl2.length) fThrown)), ((g 0), Sum.inl (cI, 8, Sum.inl vMany)), ((g 1), Sum.inl (cI, 512, Sum.inl vCounts)), ((g 2), Sum.inl (cI, 512, Sum.inl vNow)), ((g 4), Sum.inl (cI, 600, Sum.inl vIM)), ((g 5), Sum.inl (cI, 600, Sum.inl vIW)), ((g 6), Sum.inl (cI, 9000, Sum.inl vGoing)), ((g 9), Sum.inl (cI, 512, Sum.inl so)), ((g 10), Sum.inl (cI, 512, Sum.inl no)), ((g 11), Sum.inl (cI, 20000, Sum.inl vW2))] H → va_D A [(o, Sum.inr (9, mO g fForm fShift fModels (nI its.length) fEnded fLow fRange fCache fPend 0 fOuts fIns fReads fBad fIR fAsk fBAsk fCode fRL fRR fX (nI wl2.length) fThrown)), ((g 0), Sum.inl (cI, 8, Sum.inl vMany)), ((g 1), Sum.inl (cI, 512, Sum.inl vCounts)), ((g 2), Sum.inl (cI, 512, Sum.inl vNow)), ((g 4), Sum.inl (cI, 600, Sum.inl vIM)), ((g 5), Sum.inl (cI, 600, Sum.inl vIW)), ((g 6), Sum.inl (cI, 9000, Sum.inl vGoing)), ((g 9), Sum.inl (cI, 512, Sum.inl so)), ((g 10), Sum.inl (cI, 512, Sum.inl no)), ((g 11), Sum.inl (cI, 20000, Sum.inl vW2))] → va_S A s.heap H locs → lv_has ls 9 [(7, Value.int (nI jj)), (6, Value.int (nI (itA its (k - 1)).2.2)), (5, Value.int (itM (itA its (k - 1)))), (4, Value.int i9), (3, Value.int ld), (1, Value.long (lN V)), (0, Value.ref o)] → W p l e R s m args below meth c H locs 0 0 Q (F0 m 50 ls []) := by
            intro n9_50
            induction n9_50 using Nat.strongRecOn with
            | ind n9_50 ih9_50 =>
              intro jj wl2 vW2 hn9_50 hjj hwb hG2 hB2 hW2 H locs ls hP hD hS hl
              refine lv_iload hx hb d_M_endTable_50 (lv_at hl 0 rfl) ?_
              refine lv_iload hx hb d_M_endTable_52 (lv_at hl 2 rfl) ?_
              refine lv_ineg hx hb d_M_endTable_54 ?_
              refine lv_topi (fun v_42 ev_42 => ?_)
              have z9 : v_42 = nI (itA its (k - 1)).2.1 := by rw [ev_42]; exact itm_ng hkd
              subst z9
              refine lv_icmp_ge (tgt := 74) hx hb d_M_endTable_55 (by decide) (fun c_43 => ?_) (fun c_43 => ?_)
              · have hjb : (V, wl2) = (V, wl ++ bvL (itA its (k - 1)).2.2 (itA its (k - 1)).2.1) := by have hj9 : jj = (itA its (k - 1)).2.1 := (by have := nI_ge' (by omega) (by omega) c_43; omega); rw [hwb, hj9]
                refine lv_goto (tgt := 181) hx hb d_M_endTable_74 (by decide) ?_
                obtain ⟨v_44, ev_44⟩ : ∃ y : Int32, y = i9 + (-1) := ⟨_, rfl⟩
                refine lv_iinc (v := v_44) (lv' := [(4, Value.int v_44), (7, Value.int (nI jj)), (6, Value.int (nI (itA its (k - 1)).2.2)), (5, Value.int (itM (itA its (k - 1)))), (3, Value.int ld), (1, Value.long (lN V)), (0, Value.ref o)]) hx hb d_M_endTable_181 hl (k := 3) rfl (by rw [ev_44]; rfl) (by decide) rfl (fun ls hl => ?_)
                refine lv_goto (tgt := 19) hx hb d_M_endTable_184 (by decide) ?_
                exact ih9_19 _ (by first | omega | (omega)) V ld v_44 (k - 1) wl2 vW2 so no rfl (by rw [hE9, show e4N (Fvw vNow) N its k (V, wl) = e4N (Fvw vNow) N its (k - 1 + 1) (V, wl) by rw [Nat.sub_add_cancel hk0], e4N]; unfold e4I; rw [if_pos hkd, ← hjb]) (by omega) (by omega) (by rw [ev_44, Int32.add_assoc, show (-1 : Int32) + 1 = 0 from by decide, Int32.add_zero]; exact hi9) (by omega) (hG2) (hB2) (by omega) (hld) H locs ls (hP.sub [0, 1, 2, 3, 4, 5, 6, 7, 8, 9] rfl) (hD.sub [0, 1, 2, 3, 4, 5, 6, 7, 8, 9] (by decide +kernel) rfl) hS (lv_sub hl [0, 4, 5, 6] rfl)
              · have hjl : jj < (itA its (k - 1)).2.1 := by
                  rcases Nat.lt_or_ge jj ((itA its (k - 1)).2.1) with z | z
                  · exact z
                  · exact absurd (nI_le z (by omega)) c_43
                refine lv_aload_n hx hb d_M_endTable_58 rfl (lv_at hl 6 rfl) ?_
                refine lv_iload hx hb d_M_endTable_59 (lv_at hl 1 rfl) ?_
                refine lv_iload hx hb d_M_endTable_61 (lv_at hl 0 rfl) ?_
                refine lv_ishr hx hb d_M_endTable_63 ?_
                refine lv_topi (fun v_45 ev_45 => ?_)
                have z9 : v_45 = nI ((itA its (k - 1)).2.2 / 2 ^ jj) := by rw [ev_45]; exact I_shr (by omega) (by omega)
                subst z9
                refine lv_i2l hx hb d_M_endTable_64 rfl ?_
                refine lv_topl (fun v_46 ev_46 => ?_)
                have z9 : v_46 = lN ((itA its (k - 1)).2.2 / 2 ^ jj) := by rw [ev_46]; exact nI_l (Nat.lt_of_le_of_lt (Nat.div_le_self _ _) (by omega))
                subst z9
                refine my_cv (wr := [((g 0), Sum.inl (cI, 8, Sum.inl vMany)), ((g 1), Sum.inl (cI, 512, Sum.inl vCounts)), ((g 2), Sum.inl (cI, 512, Sum.inl vNow)), ((g 4), Sum.inl (cI, 600, Sum.inl vIM)), ((g 5), Sum.inl (cI, 600, Sum.inl vIW)), ((g 6), Sum.inl (cI, 9000, Sum.inl vGoing)), ((g 9), Sum.inl (cI, 512, Sum.inl so)), ((g 10), Sum.inl (cI, 512, Sum.inl no))]) (va_runV (As := [Value.long (lN ((itA its (k - 1)).2.2 / 2 ^ jj))]) (rest := []) ⟨hx, hb, hml, hown, hts⟩ (c_M_writeBit l dC dI cI cM cO H.size o g fForm fShift fModels (nI its.length) fEnded fLow fRange fCache fPend 0 fOuts fIns fReads fBad fIR fAsk fBAsk fCode fRL fRR fX fThrown vW2 wl2 ((itA its (k - 1)).2.2 / 2 ^ jj) (hG2) (by omega) (Nat.lt_of_le_of_lt (Nat.div_le_self _ _) (by omega))) (cwV 1 hts (my_gV k1161 k1163 ks42 k12 k1164) rfl rfl rfl cu_M_writeBit_1 ⟨by rw [hR]; exact Nat.le_of_ble_eq_true rfl, by rw [hR]; exact Nat.le_of_ble_eq_true rfl⟩) (my_preV hK hN (hP.sub [0, 9] rfl) (hD.sub [0, 9] (by decide +kernel) rfl) 0 rfl rfl) rfl rfl hl.1 rfl (lv_room (Nat.le_of_ble_eq_true rfl)) d_M_endTable_65 ⟨by rw [hR]; exact Nat.le_of_ble_eq_true rfl, by rw [hR]; exact Nat.le_of_ble_eq_true rfl⟩) hP hD hS hA [0, 9] [1, 2, 3, 4, 5, 6, 7, 8] rfl rfl (by decide +kernel) (by decide +kernel) (fun u9 H locs hw_65 hP hD hS => ?_)
                obtain ⟨v2_65, rfl⟩ : ∃ z, z = u9 := ⟨_, rfl⟩
                have hw_65 : gIs v2_65 (wl2 ++ [((itA its (k - 1)).2.2 / 2 ^ jj) % 2]) := hw_65
                have hPD : my_PD (dC, dI) vwCl A [((g 0), Sum.inl (cI, 8, Sum.inl vMany)), ((g 1), Sum.inl (cI, 512, Sum.inl vCounts)), ((g 2), Sum.inl (cI, 512, Sum.inl vNow)), ((g 4), Sum.inl (cI, 600, Sum.inl vIM)), ((g 5), Sum.inl (cI, 600, Sum.inl vIW)), ((g 6), Sum.inl (cI, 9000, Sum.inl vGoing)), ((g 9), Sum.inl (cI, 512, Sum.inl so)), ((g 10), Sum.inl (cI, 512, Sum.inl no)), (o, Sum.inr (9, mO g fForm fShift fModels (nI its.length) fEnded fLow fRange fCache fPend 0 fOuts fIns fReads fBad fIR fAsk fBAsk fCode fRL fRR fX (nI (wl2 ++ [((itA its (k - 1)).2.2 / 2 ^ jj) % 2]).length) fThrown)), ((g 11), Sum.inl (cI, 20000, Sum.inl v2_65))] H := ⟨hP, hD⟩
                have hP := hPD.1
                have hD := hPD.2
                obtain ⟨v_47, ev_47⟩ : ∃ y : Int32, y = (nI jj) + (1) := ⟨_, rfl⟩
                refine lv_iinc (v := v_47) (lv' := [(7, Value.int v_47), (6, Value.int (nI (itA its (k - 1)).2.2)), (5, Value.int (itM (itA its (k - 1)))), (4, Value.int i9), (3, Value.int ld), (1, Value.long (lN V)), (0, Value.ref o)]) hx hb d_M_endTable_68 hl (k := 0) rfl (by rw [ev_47]; rfl) (by decide) rfl (fun ls hl => ?_)
                have z9 : v_47 = nI (jj + 1) := by rw [ev_47]; exact nI_1 _
                subst z9
                refine lv_goto (tgt := 50) hx hb d_M_endTable_71 (by decide) ?_
                exact ih9_50 _ (by first | omega | (omega)) (jj + 1) (wl2 ++ [((itA its (k - 1)).2.2 / 2 ^ jj) % 2]) v2_65 rfl (by omega) (by rw [hwb, bvL, List.append_assoc]) (hw_65) (bt2_add hB2 (Nat.mod_lt _ (by decide))) (by rw [List.length_append, List.length_singleton]; omega) H locs ls (hP.sub [8, 0, 1, 2, 3, 4, 5, 6, 7, 9] rfl) (hD.sub [8, 0, 1, 2, 3, 4, 5, 6, 7, 9] (by decide +kernel) rfl) hS (lv_sub hl [0, 1, 2, 3, 4, 5, 6] rfl)
          exact J_50 _ (0 : Nat) wl vW rfl (Nat.zero_le _) (by rw [bvL, List.append_nil]) (hG) (hB) (hW) H locs ls (hP.sub [0, 1, 2, 3, 4, 5, 6, 7, 8, 9] rfl) (hD.sub [0, 1, 2, 3, 4, 5, 6, 7, 8, 9] (by decide +kernel) rfl) hS (lv_sub hl [0, 1, 2, 3, 4, 5, 6] rfl)
  exact J_19 _ (512 : Nat) (-1 : Int32) v_1 its.length ([] : List Nat) vWr vSO vNO rfl (rfl) (by omega) (by omega) (by rw [ev_1]; exact Int32.sub_add_cancel _ _) (Nat.le_refl _) (fun z9 h9 => absurd h9 (Nat.not_lt_zero z9)) (fun z9 h9 => absurd h9 List.not_mem_nil) (by show 0 + _ ≤ _; omega) (Or.inl rfl) H locs ls (hP.sub [0, 1, 2, 3, 4, 5, 6, 7, 8, 9] rfl) (hD.sub [0, 1, 2, 3, 4, 5, 6, 7, 8, 9] (by decide +kernel) rfl) hS (lv_sub hl [0, 1, 2, 3] rfl)
set_option maxHeartbeats 2000000 in
set_option maxRecDepth 100000 in
theorem m_end4B (l : Launch) (dC : Nat → ClassId) (dI : Nat → Nat → Nat) (cI cM cO : ClassId) (sz : Nat) (o : Nat) (g : Nat → Nat) (fShift : Int32) (fModels : Int32) (fLow : Int64) (fRange : Int64) (fCache : Int32) (fPend : Int32) (fOuts : Int32) (fIns : Int32) (fReads : Int32) (fBad : Int32) (fIR : Int32) (fAsk : Int32) (fBAsk : Int32) (fCode : Int64) (fRL : Int64) (fRR : Int64) (fX : Int64) (fWrites : Int32) (fThrown : Int32) (vMany : Nat → Int32) (vCounts : Nat → Int32) (vNow : Nat → Int32) (vIM : Nat → Int32) (vIW : Nat → Int32) (vGoing : Nat → Int32) (vSO : Nat → Int32) (vNO : Nat → Int32) (vWr : Nat → Int32) (vOut : Nat → Int32) (km : Nat) (N : Nat → Nat) (its : List It) (hmod : fModels = nI km) (hMD : MD km N vMany vCounts) (hki : its.length ≤ 600) (hit : itIs vIM vIW its) (hok : ∀ i, i < its.length → itOk 512 9 km N vNow (itA its i)) (hwl : (e4W (Fvw vNow) N its).length ≤ 8000) : MetI l y_M_end (Cond.code y_M_end prog_14_method_31_code 2 (some .int) :: gw) ({ frames := 2, cells := 0, slots := 0, locals := 54 } : Room) (dC, dI) vwCl (kT cI cM cO) [Value.ref o] [(o, Sum.inr (9, mO g 4 fShift fModels (nI its.length) 0 fLow fRange fCache fPend 0 fOuts fIns fReads fBad fIR fAsk fBAsk fCode fRL fRR fX fWrites fThrown)), ((g 0), Sum.inl (cI, 8, Sum.inl vMany)), ((g 1), Sum.inl (cI, 512, Sum.inl vCounts)), ((g 2), Sum.inl (cI, 512, Sum.inl vNow)), ((g 4), Sum.inl (cI, 600, Sum.inl vIM)), ((g 5), Sum.inl (cI, 600, Sum.inl vIW)), ((g 6), Sum.inl (cI, 9000, Sum.inl vGoing)), ((g 9), Sum.inl (cI, 512, Sum.inl vSO)), ((g 10), Sum.inl (cI, 512, Sum.inl vNO)), ((g 11), Sum.inl (cI, 20000, Sum.inl vWr)), ((g 7), Sum.inl (cI, 9000, Sum.inl vOut))] sz (fun (r : Int32) (u : (Nat → Int32) × (Nat → Int32) × (Nat → Int32) × (Nat → Int32) × (Nat → Int32) × Int32 × Int32 × Int32) => r = nI (pkB (e4W (Fvw vNow) N its) (((e4W (Fvw vNow) N its).length + 7) / 8)).length ∧ u.2.2.2.2.2.2.2 = nI (pkB (e4W (Fvw vNow) N its) (((e4W (Fvw vNow) N its).length + 7) / 8)).length ∧ gIs u.2.2.2.2.1 (pkB (e4W (Fvw vNow) N its) (((e4W (Fvw vNow) N its).length + 7) / 8))) (fun (u : (Nat → Int32) × (Nat → Int32) × (Nat → Int32) × (Nat → Int32) × (Nat → Int32) × Int32 × Int32 × Int32) => [(o, Sum.inr (9, mO g 4 fShift fModels (nI its.length) 1 fLow fRange fCache fPend u.2.2.2.2.2.1 u.2.2.2.2.2.2.2 fIns fReads fBad fIR fAsk fBAsk fCode fRL fRR fX u.2.2.2.2.2.2.1 0)), ((g 0), Sum.inl (cI, 8, Sum.inl vMany)), ((g 1), Sum.inl (cI, 512, Sum.inl vCounts)), ((g 2), Sum.inl (cI, 512, Sum.inl vNow)), ((g 4), Sum.inl (cI, 600, Sum.inl vIM)), ((g 5), Sum.inl (cI, 600, Sum.inl vIW)), ((g 6), Sum.inl (cI, 9000, Sum.inl u.1)), ((g 9), Sum.inl (cI, 512, Sum.inl u.2.1)), ((g 10), Sum.inl (cI, 512, Sum.inl u.2.2.1)), ((g 11), Sum.inl (cI, 20000, Sum.inl u.2.2.2.1)), ((g 7), Sum.inl (cI, 9000, Sum.inl u.2.2.2.2.1))]) 0 0 := by
  refine my_ofI (cc := prog_14_method_31_code) (n := 2) (ret := (some .int)) (by decide) rfl (Nat.le_of_ble_eq_true rfl) ?_
  intro p e s m args below meth c R Q A ls H locs hx hb hr hts hown hlocks hml hnm hR hQ hA hl hP hK hN hD hS
  have hg : ∀ w ∈ gw, w.before args s = true := fun w h => hts w (List.mem_cons_of_mem _ h)
  have hown : s.vm.findClass "RangeCodersModel" = some m.cls := hown
  have hl : lv_has ls 2 [(0, Value.ref o)] := hl
  refine lv_aload_n hx hb d_M_end_0 rfl (lv_at hl 0 rfl) ?_
  refine lv_iconst (v := 0) hx hb d_M_end_1 (by decide) ?_
  refine va_put (D := (dC, dI)) (ci := 9) (v := .int 0) (ty := .int) (C := "RangeCodersModel") (T := T_M) (N := 35) hx hb hg in_M t_M o_M n_M hown hK hP hD hS 0 rfl rfl 34 (by decide) (hg _ k986) (fun _ h9 => h9) rfl (o_M 34 (by decide)) rfl rfl (Nat.le_of_ble_eq_true rfl) d_M_end_2 (fun H locs hP hD hS => ?_)
  have hPD : my_PD (dC, dI) vwCl A [(o, Sum.inr (9, mO g 4 fShift fModels (nI its.length) 0 fLow fRange fCache fPend 0 fOuts fIns fReads fBad fIR fAsk fBAsk fCode fRL fRR fX fWrites 0)), ((g 0), Sum.inl (cI, 8, Sum.inl vMany)), ((g 1), Sum.inl (cI, 512, Sum.inl vCounts)), ((g 2), Sum.inl (cI, 512, Sum.inl vNow)), ((g 4), Sum.inl (cI, 600, Sum.inl vIM)), ((g 5), Sum.inl (cI, 600, Sum.inl vIW)), ((g 6), Sum.inl (cI, 9000, Sum.inl vGoing)), ((g 9), Sum.inl (cI, 512, Sum.inl vSO)), ((g 10), Sum.inl (cI, 512, Sum.inl vNO)), ((g 11), Sum.inl (cI, 20000, Sum.inl vWr)), ((g 7), Sum.inl (cI, 9000, Sum.inl vOut))] H := ⟨hP, hD⟩
  have hP := hPD.1
  have hD := hPD.2
  refine lv_aload_n hx hb d_M_end_5 rfl (lv_at hl 0 rfl) ?_
  refine va_get (D := (dC, dI)) (ci := 9) (v := .int 0) (C := "RangeCodersModel") (T := T_M) (N := 35) hx hb hg in_M hown hK hP 0 rfl rfl 10 (by decide) (hg _ k962) (fun _ h9 => h9) rfl d_M_end_6 ?_
  refine lv_if_eq (tgt := 15) hx hb d_M_end_9 (by decide) (fun c_1 => ?_) (fun c_1 => ?_)
  · refine lv_aload_n hx hb d_M_end_15 rfl (lv_at hl 0 rfl) ?_
    refine lv_iconst (v := 1) hx hb d_M_end_16 (by decide) ?_
    refine va_put (D := (dC, dI)) (ci := 9) (v := .int 1) (ty := .boolean) (C := "RangeCodersModel") (T := T_M) (N := 35) hx hb hg in_M t_M o_M n_M hown hK hP hD hS 0 rfl rfl 10 (by decide) (hg _ k962) (fun _ h9 => h9) rfl (o_M 10 (by decide)) rfl rfl (Nat.le_of_ble_eq_true rfl) d_M_end_17 (fun H locs hP hD hS => ?_)
    have hPD : my_PD (dC, dI) vwCl A [(o, Sum.inr (9, mO g 4 fShift fModels (nI its.length) 1 fLow fRange fCache fPend 0 fOuts fIns fReads fBad fIR fAsk fBAsk fCode fRL fRR fX fWrites 0)), ((g 0), Sum.inl (cI, 8, Sum.inl vMany)), ((g 1), Sum.inl (cI, 512, Sum.inl vCounts)), ((g 2), Sum.inl (cI, 512, Sum.inl vNow)), ((g 4), Sum.inl (cI, 600, Sum.inl vIM)), ((g 5), Sum.inl (cI, 600, Sum.inl vIW)), ((g 6), Sum.inl (cI, 9000, Sum.inl vGoing)), ((g 9), Sum.inl (cI, 512, Sum.inl vSO)), ((g 10), Sum.inl (cI, 512, Sum.inl vNO)), ((g 11), Sum.inl (cI, 20000, Sum.inl vWr)), ((g 7), Sum.inl (cI, 9000, Sum.inl vOut))] H := ⟨hP, hD⟩
    have hP := hPD.1
    have hD := hPD.2
    refine lv_aload_n hx hb d_M_end_20 rfl (lv_at hl 0 rfl) ?_
    refine va_get (D := (dC, dI)) (ci := 9) (v := .int 4) (C := "RangeCodersModel") (T := T_M) (N := 35) hx hb hg in_M hown hK hP 0 rfl rfl 0 (by decide) (hg _ k952) (fun _ h9 => h9) rfl d_M_end_21 ?_
    refine lv_if_eq (tgt := 35) hx hb d_M_end_24 (by decide) (fun c_2 => ?_) (fun c_2 => ?_)
    · exact absurd c_2 (by decide)
    · refine lv_aload_n hx hb d_M_end_27 rfl (lv_at hl 0 rfl) ?_
      refine va_get (D := (dC, dI)) (ci := 9) (v := .int 4) (C := "RangeCodersModel") (T := T_M) (N := 35) hx hb hg in_M hown hK hP 0 rfl rfl 0 (by decide) (hg _ k952) (fun _ h9 => h9) rfl d_M_end_28 ?_
      refine lv_iconst (v := 2) hx hb d_M_end_31 (by decide) ?_
      refine lv_icmp_ne (tgt := 55) hx hb d_M_end_32 (by decide) (fun c_3 => ?_) (fun c_3 => ?_)
      · refine lv_aload_n hx hb d_M_end_55 rfl (lv_at hl 0 rfl) ?_
        refine va_get (D := (dC, dI)) (ci := 9) (v := .int 4) (C := "RangeCodersModel") (T := T_M) (N := 35) hx hb hg in_M hown hK hP 0 rfl rfl 0 (by decide) (hg _ k952) (fun _ h9 => h9) rfl d_M_end_56 ?_
        refine lv_iconst (v := 1) hx hb d_M_end_59 (by decide) ?_
        refine lv_icmp_ne (tgt := 106) hx hb d_M_end_60 (by decide) (fun c_4 => ?_) (fun c_4 => ?_)
        · refine lv_aload_n hx hb d_M_end_106 rfl (lv_at hl 0 rfl) ?_
          refine va_get (D := (dC, dI)) (ci := 9) (v := .int 4) (C := "RangeCodersModel") (T := T_M) (N := 35) hx hb hg in_M hown hK hP 0 rfl rfl 0 (by decide) (hg _ k952) (fun _ h9 => h9) rfl d_M_end_107 ?_
          refine lv_iconst (v := 3) hx hb d_M_end_110 (by decide) ?_
          refine lv_icmp_ne (tgt := 121) hx hb d_M_end_111 (by decide) (fun c_5 => ?_) (fun c_5 => ?_)
          · refine lv_aload_n hx hb d_M_end_121 rfl (lv_at hl 0 rfl) ?_
            refine my_cv (wr := [((g 7), Sum.inl (cI, 9000, Sum.inl vOut))]) (va_runV (As := []) (rest := []) ⟨hx, hb, hml, hown, hts⟩ (m_endTable l dC dI cI cM cO H.size o g 4 fShift fModels 1 fLow fRange fCache fPend fOuts fIns fReads fBad fIR fAsk fBAsk fCode fRL fRR fX fWrites 0 vMany vCounts vNow vIM vIW vGoing vSO vNO vWr km N its (hMD) (hki) (hit) (hok)) (cwV 0 hts (my_gV k1156 k1158 ks41 k12 k1159) rfl rfl rfl cu_M_endTable_0 ⟨by rw [hR]; exact Nat.le_of_ble_eq_true rfl, by rw [hR]; exact Nat.le_of_ble_eq_true rfl⟩) (my_preV hK hN (hP.sub [0, 1, 2, 3, 4, 5, 6, 7, 8, 9] rfl) (hD.sub [0, 1, 2, 3, 4, 5, 6, 7, 8, 9] (by decide +kernel) rfl) 0 rfl rfl) rfl rfl hl.1 rfl (lv_room (Nat.le_of_ble_eq_true rfl)) d_M_end_122 ⟨by rw [hR]; exact Nat.le_of_ble_eq_true rfl, by rw [hR]; exact Nat.le_of_ble_eq_true rfl⟩) hP hD hS hA [0, 1, 2, 3, 4, 5, 6, 7, 8, 9] [10] rfl rfl (by decide +kernel) (by decide +kernel) (fun u9 H locs hw_122 hP hD hS => ?_)
            obtain ⟨vGoingq_122, vSOq_122, vNOq_122, vWrq_122, fGoesq_122, fWritesq_122⟩ := u9
            obtain ⟨hgq_122, hGq_122⟩ : fGoesq_122 = nI (pkB (e4W (Fvw vNow) N its) (((e4W (Fvw vNow) N its).length + 7) / 8)).length ∧ gIs vGoingq_122 (pkB (e4W (Fvw vNow) N its) (((e4W (Fvw vNow) N its).length + 7) / 8)) := hw_122
            have hPD : my_PD (dC, dI) vwCl A [((g 7), Sum.inl (cI, 9000, Sum.inl vOut)), (o, Sum.inr (9, mO g 4 fShift fModels (nI its.length) 1 fLow fRange fCache fPend fGoesq_122 fOuts fIns fReads fBad fIR fAsk fBAsk fCode fRL fRR fX fWritesq_122 0)), ((g 0), Sum.inl (cI, 8, Sum.inl vMany)), ((g 1), Sum.inl (cI, 512, Sum.inl vCounts)), ((g 2), Sum.inl (cI, 512, Sum.inl vNow)), ((g 4), Sum.inl (cI, 600, Sum.inl vIM)), ((g 5), Sum.inl (cI, 600, Sum.inl vIW)), ((g 6), Sum.inl (cI, 9000, Sum.inl vGoingq_122)), ((g 9), Sum.inl (cI, 512, Sum.inl vSOq_122)), ((g 10), Sum.inl (cI, 512, Sum.inl vNOq_122)), ((g 11), Sum.inl (cI, 20000, Sum.inl vWrq_122))] H := ⟨hP, hD⟩
            have hP := hPD.1
            have hD := hPD.2
            obtain ⟨b9, hb9⟩ : ∃ b, b = pkB (e4W (Fvw vNow) N its) (((e4W (Fvw vNow) N its).length + 7) / 8) := ⟨_, rfl⟩
            rw [← hb9] at hgq_122 hGq_122
            subst hgq_122
            have hl9 : b9.length ≤ 8000 := by rw [hb9, pkB_len]; omega
            have hPD : my_PD (dC, dI) vwCl A [((g 7), Sum.inl (cI, 9000, Sum.inl vOut)), (o, Sum.inr (9, mO g 4 fShift fModels (nI its.length) 1 fLow fRange fCache fPend (nI b9.length) fOuts fIns fReads fBad fIR fAsk fBAsk fCode fRL fRR fX fWritesq_122 0)), ((g 0), Sum.inl (cI, 8, Sum.inl vMany)), ((g 1), Sum.inl (cI, 512, Sum.inl vCounts)), ((g 2), Sum.inl (cI, 512, Sum.inl vNow)), ((g 4), Sum.inl (cI, 600, Sum.inl vIM)), ((g 5), Sum.inl (cI, 600, Sum.inl vIW)), ((g 6), Sum.inl (cI, 9000, Sum.inl vGoingq_122)), ((g 9), Sum.inl (cI, 512, Sum.inl vSOq_122)), ((g 10), Sum.inl (cI, 512, Sum.inl vNOq_122)), ((g 11), Sum.inl (cI, 20000, Sum.inl vWrq_122))] H := ⟨hP, hD⟩
            have hP := hPD.1
            have hD := hPD.2
            refine lv_aload_n hx hb d_M_end_125 rfl (lv_at hl 0 rfl) ?_
            refine lv_aload_n hx hb d_M_end_126 rfl (lv_at hl 0 rfl) ?_
            refine va_get (D := (dC, dI)) (ci := 9) (v := .int (nI b9.length)) (C := "RangeCodersModel") (T := T_M) (N := 35) hx hb hg in_M hown hK hP 1 rfl rfl 16 (by decide) (hg _ k968) (fun _ h9 => h9) rfl d_M_end_127 ?_
            refine va_put (D := (dC, dI)) (ci := 9) (v := .int (nI b9.length)) (ty := .int) (C := "RangeCodersModel") (T := T_M) (N := 35) hx hb hg in_M t_M o_M n_M hown hK hP hD hS 1 rfl rfl 18 (by decide) (hg _ k970) (fun _ h9 => h9) rfl (o_M 18 (by decide)) rfl rfl (Nat.le_of_ble_eq_true rfl) d_M_end_130 (fun H locs hP hD hS => ?_)
            have hPD : my_PD (dC, dI) vwCl A [((g 7), Sum.inl (cI, 9000, Sum.inl vOut)), (o, Sum.inr (9, mO g 4 fShift fModels (nI its.length) 1 fLow fRange fCache fPend (nI b9.length) (nI b9.length) fIns fReads fBad fIR fAsk fBAsk fCode fRL fRR fX fWritesq_122 0)), ((g 0), Sum.inl (cI, 8, Sum.inl vMany)), ((g 1), Sum.inl (cI, 512, Sum.inl vCounts)), ((g 2), Sum.inl (cI, 512, Sum.inl vNow)), ((g 4), Sum.inl (cI, 600, Sum.inl vIM)), ((g 5), Sum.inl (cI, 600, Sum.inl vIW)), ((g 6), Sum.inl (cI, 9000, Sum.inl vGoingq_122)), ((g 9), Sum.inl (cI, 512, Sum.inl vSOq_122)), ((g 10), Sum.inl (cI, 512, Sum.inl vNOq_122)), ((g 11), Sum.inl (cI, 20000, Sum.inl vWrq_122))] H := ⟨hP, hD⟩
            have hP := hPD.1
            have hD := hPD.2
            refine lv_iconst (v := 0) hx hb d_M_end_133 (by decide) ?_
            refine lv_istore_n (lv' := [(1, Value.int 0), (0, Value.ref o)]) hx hb d_M_end_134 rfl hl (by decide) rfl (fun ls hl => ?_)
            have J_135 : ∀ (n9_135 : Nat) (kk : Nat) (fO : Nat → Int32) (hn9_135 : (b9).length - kk = n9_135) (hkk : kk ≤ (b9).length) (hc : ∀ i, i < kk → fO i = vGoingq_122 i) (H : Heap) (locs : List Loc) (ls : Array Slot), va_P (dC, dI) vwCl [((g 7), Sum.inl (cI, 9000, Sum.inl fO)), (o, Sum.inr (9, mO g 4 fShift fModels (nI its.length) 1 fLow fRange fCache fPend (nI b9.length) (nI b9.length) fIns fReads fBad fIR fAsk fBAsk fCode fRL fRR fX fWritesq_122 0)), ((g 0), Sum.inl (cI, 8, Sum.inl vMany)), ((g 1), Sum.inl (cI, 512, Sum.inl vCounts)), ((g 2), Sum.inl (cI, 512, Sum.inl vNow)), ((g 4), Sum.inl (cI, 600, Sum.inl vIM)), ((g 5), Sum.inl (cI, 600, Sum.inl vIW)), ((g 6), Sum.inl (cI, 9000, Sum.inl vGoingq_122)), ((g 9), Sum.inl (cI, 512, Sum.inl vSOq_122)), ((g 10), Sum.inl (cI, 512, Sum.inl vNOq_122)), ((g 11), Sum.inl (cI, 20000, Sum.inl vWrq_122))] H → va_D A [((g 7), Sum.inl (cI, 9000, Sum.inl fO)), (o, Sum.inr (9, mO g 4 fShift fModels (nI its.length) 1 fLow fRange fCache fPend (nI b9.length) (nI b9.length) fIns fReads fBad fIR fAsk fBAsk fCode fRL fRR fX fWritesq_122 0)), ((g 0), Sum.inl (cI, 8, Sum.inl vMany)), ((g 1), Sum.inl (cI, 512, Sum.inl vCounts)), ((g 2), Sum.inl (cI, 512, Sum.inl vNow)), ((g 4), Sum.inl (cI, 600, Sum.inl vIM)), ((g 5), Sum.inl (cI, 600, Sum.inl vIW)), ((g 6), Sum.inl (cI, 9000, Sum.inl vGoingq_122)), ((g 9), Sum.inl (cI, 512, Sum.inl vSOq_122)), ((g 10), Sum.inl (cI, 512, Sum.inl vNOq_122)), ((g 11), Sum.inl (cI, 20000, Sum.inl vWrq_122))] → va_S A s.heap H locs → lv_has ls 2 [(1, Value.int (nI kk)), (0, Value.ref o)] → W p l e R s m args below meth c H locs 0 0 Q (F0 m 135 ls []) := by
              intro n9_135
              induction n9_135 using Nat.strongRecOn with
              | ind n9_135 ih9_135 =>
                intro kk fO hn9_135 hkk hc H locs ls hP hD hS hl
                refine lv_iload_n hx hb d_M_end_135 rfl (lv_at hl 0 rfl) ?_
                refine lv_aload_n hx hb d_M_end_136 rfl (lv_at hl 1 rfl) ?_
                refine va_get (D := (dC, dI)) (ci := 9) (v := .int (nI b9.length)) (C := "RangeCodersModel") (T := T_M) (N := 35) hx hb hg in_M hown hK hP 1 rfl rfl 16 (by decide) (hg _ k968) (fun _ h9 => h9) rfl d_M_end_137 ?_
                refine lv_icmp_ge (tgt := 161) hx hb d_M_end_140 (by decide) (fun c_6 => ?_) (fun c_6 => ?_)
                · have hkn : kk = (b9).length := by have := (nI_cmp (a := (b9).length) (b := kk) (by omega) (by omega)).mp c_6; omega
                  subst hkn
                  refine lv_aload_n hx hb d_M_end_161 rfl (lv_at hl 1 rfl) ?_
                  refine va_get (D := (dC, dI)) (ci := 9) (v := .int (nI b9.length)) (C := "RangeCodersModel") (T := T_M) (N := 35) hx hb hg in_M hown hK hP 1 rfl rfl 18 (by decide) (hg _ k970) (fun _ h9 => h9) rfl d_M_end_162 ?_
                  exact my_iret (v := (nI b9.length)) hx hb hr (rfl) hlocks hQ hK hS (Nat.le_refl _) (Nat.le_refl _) (vGoingq_122, vSOq_122, vNOq_122, vWrq_122, fO, (nI b9.length), fWritesq_122, (nI b9.length)) (⟨by rw [← hb9], by rw [← hb9], by rw [← hb9]; exact gIs_cp hGq_122 hc⟩) (hP.sub [1, 2, 3, 4, 5, 6, 7, 8, 9, 10, 0] rfl) (hD.sub [1, 2, 3, 4, 5, 6, 7, 8, 9, 10, 0] (by decide +kernel) rfl) d_M_end_165
                · have hkl : kk < (b9).length := by
                    rcases Nat.lt_or_ge kk (b9).length with z | z
                    · exact z
                    · exact absurd (nI_le z (by omega)) c_6
                  refine lv_aload_n hx hb d_M_end_143 rfl (lv_at hl 1 rfl) ?_
                  refine va_get (D := (dC, dI)) (ci := 9) (v := .ref (g 7)) (C := "RangeCodersModel") (T := T_M) (N := 35) hx hb hg in_M hown hK hP 1 rfl rfl 17 (by decide) (hg _ k969) (fun _ h9 => h9) rfl d_M_end_144 ?_
                  refine lv_iload_n hx hb d_M_end_147 rfl (lv_at hl 0 rfl) ?_
                  refine lv_aload_n hx hb d_M_end_148 rfl (lv_at hl 1 rfl) ?_
                  refine va_get (D := (dC, dI)) (ci := 9) (v := .ref (g 6)) (C := "RangeCodersModel") (T := T_M) (N := 35) hx hb hg in_M hown hK hP 1 rfl rfl 15 (by decide) (hg _ k967) (fun _ h9 => h9) rfl d_M_end_149 ?_
                  refine lv_iload_n hx hb d_M_end_152 rfl (lv_at hl 0 rfl) ?_
                  refine va_iald hx hb hK hP 7 0 rfl rfl (vp_in_nI (by omega) (by decide)) d_M_end_153 ?_
                  refine lv_topi (fun v_7 ev_7 => ?_)
                  refine va_iast hx hb hK hP hD hS 0 0 rfl rfl (vp_in_nI (by omega) (by decide)) d_M_end_154 (fun H locs hP hD hS => ?_)
                  have hPD : my_PD (dC, dI) vwCl A [((g 7), Sum.inl (cI, 9000, Sum.inl (upd fO (nI kk).toNatClampNeg v_7))), (o, Sum.inr (9, mO g 4 fShift fModels (nI its.length) 1 fLow fRange fCache fPend (nI b9.length) (nI b9.length) fIns fReads fBad fIR fAsk fBAsk fCode fRL fRR fX fWritesq_122 0)), ((g 0), Sum.inl (cI, 8, Sum.inl vMany)), ((g 1), Sum.inl (cI, 512, Sum.inl vCounts)), ((g 2), Sum.inl (cI, 512, Sum.inl vNow)), ((g 4), Sum.inl (cI, 600, Sum.inl vIM)), ((g 5), Sum.inl (cI, 600, Sum.inl vIW)), ((g 6), Sum.inl (cI, 9000, Sum.inl vGoingq_122)), ((g 9), Sum.inl (cI, 512, Sum.inl vSOq_122)), ((g 10), Sum.inl (cI, 512, Sum.inl vNOq_122)), ((g 11), Sum.inl (cI, 20000, Sum.inl vWrq_122))] H := ⟨hP, hD⟩
                  have hP := hPD.1
                  have hD := hPD.2
                  have hc8 : ∀ i, i < kk + 1 → (upd fO (nI kk).toNatClampNeg v_7) i = vGoingq_122 i := cp_st hc (nI_clamp (by omega)) (by rw [ev_7, nI_clamp (by omega)])
                  obtain ⟨v_8, ev_8⟩ : ∃ y : Int32, y = (nI kk) + (1) := ⟨_, rfl⟩
                  refine lv_iinc (v := v_8) (lv' := [(1, Value.int v_8), (0, Value.ref o)]) hx hb d_M_end_155 hl (k := 0) rfl (by rw [ev_8]; rfl) (by decide) rfl (fun ls hl => ?_)
                  have z9 : v_8 = nI (kk + 1) := by rw [ev_8]; exact nI_1 _
                  subst z9
                  refine lv_goto (tgt := 135) hx hb d_M_end_158 (by decide) ?_
                  exact ih9_135 _ (by first | omega | (omega)) (kk + 1) (upd fO (nI kk).toNatClampNeg v_7) rfl (by omega) (hc8) H locs ls (hP.sub [0, 1, 2, 3, 4, 5, 6, 7, 8, 9, 10] rfl) (hD.sub [0, 1, 2, 3, 4, 5, 6, 7, 8, 9, 10] (by decide +kernel) rfl) hS (lv_sub hl [0, 1] rfl)
            exact J_135 _ (0 : Nat) vOut rfl (Nat.zero_le _) (fun _ z => absurd z (Nat.not_lt_zero _)) H locs ls (hP.sub [0, 1, 2, 3, 4, 5, 6, 7, 8, 9, 10] rfl) (hD.sub [0, 1, 2, 3, 4, 5, 6, 7, 8, 9, 10] (by decide +kernel) rfl) hS (lv_sub hl [0, 1] rfl)
          · exact absurd c_5 (by decide)
        · exact absurd c_4 (by decide)
      · exact absurd c_3 (by decide)
  · exact absurd (by decide) c_1
end
section
set_option maxHeartbeats 2000000 in
set_option maxRecDepth 100000 in
theorem m_modelB (l : Launch) (dC : Nat → ClassId) (dI : Nat → Nat → Nat) (cI cM cO : ClassId) (sz : Nat) (o : Nat) (g : Nat → Nat) (fForm : Int32) (fShift : Int32) (fModels : Int32) (fItems : Int32) (fEnded : Int32) (fLow : Int64) (fRange : Int64) (fCache : Int32) (fPend : Int32) (fGoes : Int32) (fOuts : Int32) (fIns : Int32) (fReads : Int32) (fBad : Int32) (fIR : Int32) (fAsk : Int32) (fBAsk : Int32) (fCode : Int64) (fRL : Int64) (fRR : Int64) (fX : Int64) (fWrites : Int32) (fThrown : Int32) (vMany : Nat → Int32) (vCounts : Nat → Int32) (vNow : Nat → Int32) (vThen : Nat → Int32) (fm : Nat) (km : Nat) (N : Nat → Nat) (ns : Nat) (hfm : fm ≤ 4) (hform : fForm = nI fm) (hmod : fModels = nI km) (hMD : MD km N vMany vCounts) (hns2 : 2 ≤ ns) (hns : ns ≤ 64) (hk : km < 8) (hT : TB fm km N vNow) (hU : TB fm km N vThen) : MetI l y_M_model (Cond.code y_M_model prog_14_method_13_code 4 (some .int) :: gw) ({ frames := 3, cells := 0, slots := 0, locals := 75 } : Room) (dC, dI) vwCl (kT cI cM cO) [Value.ref o, Value.int (nI ns)] [(o, Sum.inr (9, mO g fForm fShift fModels fItems fEnded fLow fRange fCache fPend fGoes fOuts fIns fReads fBad fIR fAsk fBAsk fCode fRL fRR fX fWrites fThrown)), ((g 0), Sum.inl (cI, 8, Sum.inl vMany)), ((g 1), Sum.inl (cI, 512, Sum.inl vCounts)), ((g 2), Sum.inl (cI, 512, Sum.inl vNow)), ((g 3), Sum.inl (cI, 512, Sum.inl vThen))] sz (fun (r : Int32) (u : Int32 × Int32 × (Nat → Int32) × (Nat → Int32) × (Nat → Int32) × (Nat → Int32)) => r = nI km ∧ MD (km + 1) (upN N km ns) u.2.2.1 u.2.2.2.1 ∧ TB fm (km + 1) (upN N km ns) u.2.2.2.2.1 ∧ TB fm (km + 1) (upN N km ns) u.2.2.2.2.2 ∧ u.1 = nI (km + 1) ∧ sgO u.2.2.2.2.1 vNow (64 * km) 64 ∧ sgI u.2.2.2.2.1 (64 * km) (pfN fm ns) (pf fm ns (fun _ => 1)) ∧ sgI u.2.2.2.1 (64 * km) ns (fun _ => 1) ∧ sgO u.2.2.2.1 vCounts (64 * km) 64) (fun (u : Int32 × Int32 × (Nat → Int32) × (Nat → Int32) × (Nat → Int32) × (Nat → Int32)) => [(o, Sum.inr (9, mO g fForm fShift u.1 fItems fEnded fLow fRange fCache fPend fGoes fOuts fIns fReads fBad fIR fAsk fBAsk fCode fRL fRR fX fWrites u.2.1)), ((g 0), Sum.inl (cI, 8, Sum.inl u.2.2.1)), ((g 1), Sum.inl (cI, 512, Sum.inl u.2.2.2.1)), ((g 2), Sum.inl (cI, 512, Sum.inl u.2.2.2.2.1)), ((g 3), Sum.inl (cI, 512, Sum.inl u.2.2.2.2.2))]) 0 0 := by
  refine my_ofI (cc := prog_14_method_13_code) (n := 4) (ret := (some .int)) (by decide) rfl (Nat.le_of_ble_eq_true rfl) ?_
  intro p e s m args below meth c R Q A ls H locs hx hb hr hts hown hlocks hml hnm hR hQ hA hl hP hK hN hD hS
  have hg : ∀ w ∈ gw, w.before args s = true := fun w h => hts w (List.mem_cons_of_mem _ h)
  have hown : s.vm.findClass "RangeCodersModel" = some m.cls := hown
  have hl : lv_has ls 4 [(0, Value.ref o), (1, Value.int (nI ns))] := hl
  subst hmod
  have hPD : my_PD (dC, dI) vwCl A [(o, Sum.inr (9, mO g fForm fShift (nI km) fItems fEnded fLow fRange fCache fPend fGoes fOuts fIns fReads fBad fIR fAsk fBAsk fCode fRL fRR fX fWrites fThrown)), ((g 0), Sum.inl (cI, 8, Sum.inl vMany)), ((g 1), Sum.inl (cI, 512, Sum.inl vCounts)), ((g 2), Sum.inl (cI, 512, Sum.inl vNow)), ((g 3), Sum.inl (cI, 512, Sum.inl vThen))] H := ⟨hP, hD⟩
  have hP := hPD.1
  have hD := hPD.2
  have hl : lv_has ls 4 [(0, Value.ref o), (1, Value.int (nI ns))] := hl
  refine lv_aload_n hx hb d_M_model_0 rfl (lv_at hl 0 rfl) ?_
  refine lv_iconst (v := 0) hx hb d_M_model_1 (by decide) ?_
  refine va_put (D := (dC, dI)) (ci := 9) (v := .int 0) (ty := .int) (C := "RangeCodersModel") (T := T_M) (N := 35) hx hb hg in_M t_M o_M n_M hown hK hP hD hS 0 rfl rfl 34 (by decide) (hg _ k986) (fun _ h9 => h9) rfl (o_M 34 (by decide)) rfl rfl (Nat.le_of_ble_eq_true rfl) d_M_model_2 (fun H locs hP hD hS => ?_)
  have hPD : my_PD (dC, dI) vwCl A [(o, Sum.inr (9, mO g fForm fShift (nI km) fItems fEnded fLow fRange fCache fPend fGoes fOuts fIns fReads fBad fIR fAsk fBAsk fCode fRL fRR fX fWrites 0)), ((g 0), Sum.inl (cI, 8, Sum.inl vMany)), ((g 1), Sum.inl (cI, 512, Sum.inl vCounts)), ((g 2), Sum.inl (cI, 512, Sum.inl vNow)), ((g 3), Sum.inl (cI, 512, Sum.inl vThen))] H := ⟨hP, hD⟩
  have hP := hPD.1
  have hD := hPD.2
  refine lv_iload_n hx hb d_M_model_5 rfl (lv_at hl 1 rfl) ?_
  refine lv_iconst (v := 2) hx hb d_M_model_6 (by decide) ?_
  refine lv_bipush (v := 64) hx hb d_M_model_7 (by decide) ?_
  refine my_ci (wr := [(o, Sum.inr (9, mO g fForm fShift (nI km) fItems fEnded fLow fRange fCache fPend fGoes fOuts fIns fReads fBad fIR fAsk fBAsk fCode fRL fRR fX fWrites 0)), ((g 0), Sum.inl (cI, 8, Sum.inl vMany)), ((g 1), Sum.inl (cI, 512, Sum.inl vCounts)), ((g 2), Sum.inl (cI, 512, Sum.inl vNow)), ((g 3), Sum.inl (cI, 512, Sum.inl vThen))]) (va_runS (As := [Value.int (nI ns), Value.int 2, Value.int 64]) (rest := []) ⟨hx, hb, hml, hown, hts⟩ (c_M_in l dC dI cI cM cO H.size (nI ns) 2 64) (cwS 3 hts (my_gS k1062 k1063 k12 k1064) rfl rfl rfl (by decide +kernel) ⟨by rw [hR]; exact Nat.le_of_ble_eq_true rfl, by rw [hR]; exact Nat.le_of_ble_eq_true rfl⟩) (my_pre hK hN (hP.sub [] rfl) (hD.sub [] (by decide +kernel) rfl)) rfl rfl hl.1 rfl (lv_room (Nat.le_of_ble_eq_true rfl)) d_M_model_9 ⟨by rw [hR]; exact Nat.le_of_ble_eq_true rfl, by rw [hR]; exact Nat.le_of_ble_eq_true rfl⟩) hP hD hS hA [] [0, 1, 2, 3, 4] rfl rfl (by decide +kernel) (by decide +kernel) (fun r_9 u9 H locs hw_9 hP hD hS => ?_)
  have hw_9 : r_9 = if 2 ≤ (nI ns) ∧ (nI ns) ≤ 64 then 1 else 0 := hw_9
  have hPD : my_PD (dC, dI) vwCl A [(o, Sum.inr (9, mO g fForm fShift (nI km) fItems fEnded fLow fRange fCache fPend fGoes fOuts fIns fReads fBad fIR fAsk fBAsk fCode fRL fRR fX fWrites 0)), ((g 0), Sum.inl (cI, 8, Sum.inl vMany)), ((g 1), Sum.inl (cI, 512, Sum.inl vCounts)), ((g 2), Sum.inl (cI, 512, Sum.inl vNow)), ((g 3), Sum.inl (cI, 512, Sum.inl vThen))] H := ⟨hP, hD⟩
  have hP := hPD.1
  have hD := hPD.2
  refine lv_if_ne (tgt := 18) hx hb d_M_model_12 (by decide) (fun c_1 => ?_) (fun c_1 => ?_)
  · refine lv_aload_n hx hb d_M_model_18 rfl (lv_at hl 0 rfl) ?_
    refine va_get (D := (dC, dI)) (ci := 9) (v := .int (nI km)) (C := "RangeCodersModel") (T := T_M) (N := 35) hx hb hg in_M hown hK hP 0 rfl rfl 2 (by decide) (hg _ k954) (fun _ h9 => h9) rfl d_M_model_19 ?_
    refine lv_bipush (v := 8) hx hb d_M_model_22 (by decide) ?_
    refine lv_icmp_ne (tgt := 30) hx hb d_M_model_24 (by decide) (fun c_2 => ?_) (fun c_2 => ?_)
    · refine lv_aload_n hx hb d_M_model_30 rfl (lv_at hl 0 rfl) ?_
      refine va_get (D := (dC, dI)) (ci := 9) (v := .int (nI km)) (C := "RangeCodersModel") (T := T_M) (N := 35) hx hb hg in_M hown hK hP 0 rfl rfl 2 (by decide) (hg _ k954) (fun _ h9 => h9) rfl d_M_model_31 ?_
      refine lv_istore_n (lv' := [(2, Value.int (nI km)), (0, Value.ref o), (1, Value.int (nI ns))]) hx hb d_M_model_34 rfl hl (by decide) rfl (fun ls hl => ?_)
      refine lv_aload_n hx hb d_M_model_35 rfl (lv_at hl 1 rfl) ?_
      refine lv_dup hx hb d_M_model_36 rfl ?_
      refine va_get (D := (dC, dI)) (ci := 9) (v := .int (nI km)) (C := "RangeCodersModel") (T := T_M) (N := 35) hx hb hg in_M hown hK hP 0 rfl rfl 2 (by decide) (hg _ k954) (fun _ h9 => h9) rfl d_M_model_37 ?_
      refine lv_iconst (v := 1) hx hb d_M_model_40 (by decide) ?_
      refine lv_iadd hx hb d_M_model_41 ?_
      refine lv_topi (fun v_3 ev_3 => ?_)
      have z9 : v_3 = nI (km + 1) := by rw [ev_3]; exact nI_1 _
      subst z9
      refine va_put (D := (dC, dI)) (ci := 9) (v := .int (nI (km + 1))) (ty := .int) (C := "RangeCodersModel") (T := T_M) (N := 35) hx hb hg in_M t_M o_M n_M hown hK hP hD hS 0 rfl rfl 2 (by decide) (hg _ k954) (fun _ h9 => h9) rfl (o_M 2 (by decide)) rfl rfl (Nat.le_of_ble_eq_true rfl) d_M_model_42 (fun H locs hP hD hS => ?_)
      have hPD : my_PD (dC, dI) vwCl A [(o, Sum.inr (9, mO g fForm fShift (nI (km + 1)) fItems fEnded fLow fRange fCache fPend fGoes fOuts fIns fReads fBad fIR fAsk fBAsk fCode fRL fRR fX fWrites 0)), ((g 0), Sum.inl (cI, 8, Sum.inl vMany)), ((g 1), Sum.inl (cI, 512, Sum.inl vCounts)), ((g 2), Sum.inl (cI, 512, Sum.inl vNow)), ((g 3), Sum.inl (cI, 512, Sum.inl vThen))] H := ⟨hP, hD⟩
      have hP := hPD.1
      have hD := hPD.2
      refine lv_aload_n hx hb d_M_model_45 rfl (lv_at hl 1 rfl) ?_
      refine va_get (D := (dC, dI)) (ci := 9) (v := .ref (g 0)) (C := "RangeCodersModel") (T := T_M) (N := 35) hx hb hg in_M hown hK hP 0 rfl rfl 3 (by decide) (hg _ k955) (fun _ h9 => h9) rfl d_M_model_46 ?_
      refine lv_iload_n hx hb d_M_model_49 rfl (lv_at hl 0 rfl) ?_
      refine lv_iload_n hx hb d_M_model_50 rfl (lv_at hl 2 rfl) ?_
      refine va_iast hx hb hK hP hD hS 1 0 rfl rfl (vp_in_nI hk (by decide)) d_M_model_51 (fun H locs hP hD hS => ?_)
      have hPD : my_PD (dC, dI) vwCl A [(o, Sum.inr (9, mO g fForm fShift (nI (km + 1)) fItems fEnded fLow fRange fCache fPend fGoes fOuts fIns fReads fBad fIR fAsk fBAsk fCode fRL fRR fX fWrites 0)), ((g 0), Sum.inl (cI, 8, Sum.inl (upd vMany (nI km).toNatClampNeg (nI ns)))), ((g 1), Sum.inl (cI, 512, Sum.inl vCounts)), ((g 2), Sum.inl (cI, 512, Sum.inl vNow)), ((g 3), Sum.inl (cI, 512, Sum.inl vThen))] H := ⟨hP, hD⟩
      have hP := hPD.1
      have hD := hPD.2
      rw [nI_clamp (show km < 2 ^ 31 by omega)] at hP hD
      refine lv_iconst (v := 0) hx hb d_M_model_52 (by decide) ?_
      refine lv_istore_n (lv' := [(3, Value.int 0), (2, Value.int (nI km)), (0, Value.ref o), (1, Value.int (nI ns))]) hx hb d_M_model_53 rfl hl (by decide) rfl (fun ls hl => ?_)
      have J_54 : ∀ (n9_54 : Nat) (kk : Nat) (fC : Nat → Int32) (hn9_54 : ns - kk = n9_54) (hkk : kk ≤ ns) (hM9 : sgM fC vCounts (64 * km) 64 kk (fun _ => 1)) (H : Heap) (locs : List Loc) (ls : Array Slot), va_P (dC, dI) vwCl [(o, Sum.inr (9, mO g fForm fShift (nI (km + 1)) fItems fEnded fLow fRange fCache fPend fGoes fOuts fIns fReads fBad fIR fAsk fBAsk fCode fRL fRR fX fWrites 0)), ((g 0), Sum.inl (cI, 8, Sum.inl (upd vMany km (nI ns)))), ((g 1), Sum.inl (cI, 512, Sum.inl fC)), ((g 2), Sum.inl (cI, 512, Sum.inl vNow)), ((g 3), Sum.inl (cI, 512, Sum.inl vThen))] H → va_D A [(o, Sum.inr (9, mO g fForm fShift (nI (km + 1)) fItems fEnded fLow fRange fCache fPend fGoes fOuts fIns fReads fBad fIR fAsk fBAsk fCode fRL fRR fX fWrites 0)), ((g 0), Sum.inl (cI, 8, Sum.inl (upd vMany km (nI ns)))), ((g 1), Sum.inl (cI, 512, Sum.inl fC)), ((g 2), Sum.inl (cI, 512, Sum.inl vNow)), ((g 3), Sum.inl (cI, 512, Sum.inl vThen))] → va_S A s.heap H locs → lv_has ls 4 [(3, Value.int (nI kk)), (2, Value.int (nI km)), (0, Value.ref o), (1, Value.int (nI ns))] → W p l e R s m args below meth c H locs 0 0 Q (F0 m 54 ls []) := by
        intro n9_54
        induction n9_54 using Nat.strongRecOn with
        | ind n9_54 ih9_54 =>
          intro kk fC hn9_54 hkk hM9 H locs ls hP hD hS hl
          refine lv_iload_n hx hb d_M_model_54 rfl (lv_at hl 0 rfl) ?_
          refine lv_iload_n hx hb d_M_model_55 rfl (lv_at hl 3 rfl) ?_
          refine lv_icmp_ge (tgt := 77) hx hb d_M_model_56 (by decide) (fun c_4 => ?_) (fun c_4 => ?_)
          · have hkn : kk = ns := by have := (nI_cmp (a := ns) (b := kk) (by omega) (by omega)).mp c_4; omega
            subst hkn
            have hmn : upd vMany km (nI kk) km = nI kk := pk_us
            have hb1 : bd (fun _ => 1) kk 4095 := fun _ _ => (by decide : 1 ≤ 4095)
            refine lv_aload_n hx hb d_M_model_77 rfl (lv_at hl 2 rfl) ?_
            refine lv_aload_n hx hb d_M_model_78 rfl (lv_at hl 2 rfl) ?_
            refine va_get (D := (dC, dI)) (ci := 9) (v := .ref (g 2)) (C := "RangeCodersModel") (T := T_M) (N := 35) hx hb hg in_M hown hK hP 0 rfl rfl 5 (by decide) (hg _ k957) (fun _ h9 => h9) rfl d_M_model_79 ?_
            refine lv_iload_n hx hb d_M_model_82 rfl (lv_at hl 1 rfl) ?_
            refine my_cv (wr := [((g 3), Sum.inl (cI, 512, Sum.inl vThen))]) (va_runV (As := [Value.ref (g 2), Value.int (nI km)]) (rest := []) ⟨hx, hb, hml, hown, hts⟩ (c_M_prepare l dC dI cI cM cO H.size o g fForm fShift (nI (km + 1)) fItems fEnded fLow fRange fCache fPend fGoes fOuts fIns fReads fBad fIR fAsk fBAsk fCode fRL fRR fX fWrites 0 (upd vMany km (nI kk)) fC (g 2) vNow km kk fm (fun _ => 1) (by omega) (hmn) (by omega) (by omega) (hfm) (hform) (hM9.1) (hb1)) (cwV 2 hts (my_gV k928 k930 ks19 k12 k931) rfl rfl rfl cu_M_prepare_2 ⟨by rw [hR]; exact Nat.le_of_ble_eq_true rfl, by rw [hR]; exact Nat.le_of_ble_eq_true rfl⟩) (my_preV hK hN (hP.sub [0, 1, 2, 3] rfl) (hD.sub [0, 1, 2, 3] (by decide +kernel) rfl) 0 rfl rfl) rfl rfl hl.1 rfl (lv_room (Nat.le_of_ble_eq_true rfl)) d_M_model_83 ⟨by rw [hR]; exact Nat.le_of_ble_eq_true rfl, by rw [hR]; exact Nat.le_of_ble_eq_true rfl⟩) hP hD hS hA [0, 1, 2, 3] [4] rfl rfl (by decide +kernel) (by decide +kernel) (fun u9 H locs hw_83 hP hD hS => ?_)
            obtain ⟨f2_83, rfl⟩ : ∃ z, z = u9 := ⟨_, rfl⟩
            have hw_83 : sgI f2_83 (64 * km) (pfN fm kk) (pf fm kk (fun _ => 1)) ∧ sgO f2_83 vNow (64 * km) 64 := hw_83
            have hPD : my_PD (dC, dI) vwCl A [((g 3), Sum.inl (cI, 512, Sum.inl vThen)), (o, Sum.inr (9, mO g fForm fShift (nI (km + 1)) fItems fEnded fLow fRange fCache fPend fGoes fOuts fIns fReads fBad fIR fAsk fBAsk fCode fRL fRR fX fWrites 0)), ((g 0), Sum.inl (cI, 8, Sum.inl (upd vMany km (nI kk)))), ((g 1), Sum.inl (cI, 512, Sum.inl fC)), ((g 2), Sum.inl (cI, 512, Sum.inl f2_83))] H := ⟨hP, hD⟩
            have hP := hPD.1
            have hD := hPD.2
            refine lv_aload_n hx hb d_M_model_86 rfl (lv_at hl 2 rfl) ?_
            refine lv_aload_n hx hb d_M_model_87 rfl (lv_at hl 2 rfl) ?_
            refine va_get (D := (dC, dI)) (ci := 9) (v := .ref (g 3)) (C := "RangeCodersModel") (T := T_M) (N := 35) hx hb hg in_M hown hK hP 1 rfl rfl 6 (by decide) (hg _ k958) (fun _ h9 => h9) rfl d_M_model_88 ?_
            refine lv_iload_n hx hb d_M_model_91 rfl (lv_at hl 1 rfl) ?_
            refine my_cv (wr := [((g 2), Sum.inl (cI, 512, Sum.inl f2_83))]) (va_runV (As := [Value.ref (g 3), Value.int (nI km)]) (rest := []) ⟨hx, hb, hml, hown, hts⟩ (c_M_prepare l dC dI cI cM cO H.size o g fForm fShift (nI (km + 1)) fItems fEnded fLow fRange fCache fPend fGoes fOuts fIns fReads fBad fIR fAsk fBAsk fCode fRL fRR fX fWrites 0 (upd vMany km (nI kk)) fC (g 3) vThen km kk fm (fun _ => 1) (by omega) (hmn) (by omega) (by omega) (hfm) (hform) (hM9.1) (hb1)) (cwV 2 hts (my_gV k928 k930 ks19 k12 k931) rfl rfl rfl cu_M_prepare_2 ⟨by rw [hR]; exact Nat.le_of_ble_eq_true rfl, by rw [hR]; exact Nat.le_of_ble_eq_true rfl⟩) (my_preV hK hN (hP.sub [1, 2, 3, 0] rfl) (hD.sub [1, 2, 3, 0] (by decide +kernel) rfl) 0 rfl rfl) rfl rfl hl.1 rfl (lv_room (Nat.le_of_ble_eq_true rfl)) d_M_model_92 ⟨by rw [hR]; exact Nat.le_of_ble_eq_true rfl, by rw [hR]; exact Nat.le_of_ble_eq_true rfl⟩) hP hD hS hA [1, 2, 3, 0] [4] rfl rfl (by decide +kernel) (by decide +kernel) (fun u9 H locs hw_92 hP hD hS => ?_)
            obtain ⟨f2_92, rfl⟩ : ∃ z, z = u9 := ⟨_, rfl⟩
            have hw_92 : sgI f2_92 (64 * km) (pfN fm kk) (pf fm kk (fun _ => 1)) ∧ sgO f2_92 vThen (64 * km) 64 := hw_92
            have hPD : my_PD (dC, dI) vwCl A [((g 2), Sum.inl (cI, 512, Sum.inl f2_83)), (o, Sum.inr (9, mO g fForm fShift (nI (km + 1)) fItems fEnded fLow fRange fCache fPend fGoes fOuts fIns fReads fBad fIR fAsk fBAsk fCode fRL fRR fX fWrites 0)), ((g 0), Sum.inl (cI, 8, Sum.inl (upd vMany km (nI kk)))), ((g 1), Sum.inl (cI, 512, Sum.inl fC)), ((g 3), Sum.inl (cI, 512, Sum.inl f2_92))] H := ⟨hP, hD⟩
            have hP := hPD.1
            have hD := hPD.2
            refine lv_iload_n hx hb d_M_model_95 rfl (lv_at hl 1 rfl) ?_
            exact my_iret (v := (nI km)) hx hb hr (rfl) hlocks hQ hK hS (Nat.le_refl _) (Nat.le_refl _) ((nI (km + 1)), (0 : Int32), (upd vMany km (nI kk)), fC, f2_83, f2_92) (⟨rfl, MD_new hMD hk (by omega) (by omega) hM9.2 hM9.1 hb1, TB_new hT (MD_N hMD) hw_83.2 (tab_pf hfm (by omega) (by omega) hb1 hw_83.1), TB_new hU (MD_N hMD) hw_92.2 (tab_pf hfm (by omega) (by omega) hb1 hw_92.1), rfl, hw_83.2, hw_83.1, hM9.1, hM9.2⟩) (hP.sub [1, 2, 3, 0, 4] rfl) (hD.sub [1, 2, 3, 0, 4] (by decide +kernel) rfl) d_M_model_96
          · have hkl : kk < ns := by
              rcases Nat.lt_or_ge kk ns with z | z
              · exact z
              · exact absurd (nI_le z (by omega)) c_4
            refine lv_aload_n hx hb d_M_model_59 rfl (lv_at hl 2 rfl) ?_
            refine va_get (D := (dC, dI)) (ci := 9) (v := .ref (g 1)) (C := "RangeCodersModel") (T := T_M) (N := 35) hx hb hg in_M hown hK hP 0 rfl rfl 4 (by decide) (hg _ k956) (fun _ h9 => h9) rfl d_M_model_60 ?_
            refine lv_bipush (v := 64) hx hb d_M_model_63 (by decide) ?_
            refine lv_iload_n hx hb d_M_model_65 rfl (lv_at hl 1 rfl) ?_
            refine lv_imul hx hb d_M_model_66 ?_
            refine lv_topi (fun v_5 ev_5 => ?_)
            refine lv_iload_n hx hb d_M_model_67 rfl (lv_at hl 0 rfl) ?_
            refine lv_iadd hx hb d_M_model_68 ?_
            refine lv_topi (fun v_6 ev_6 => ?_)
            have hix : v_6 = nI (64 * km + kk) := by rw [ev_6, ev_5]; exact ix64
            refine lv_iconst (v := 1) hx hb d_M_model_69 (by decide) ?_
            refine va_iast hx hb hK hP hD hS 2 0 rfl rfl (by rw [hix]; exact vp_in_nI (by omega) (by decide)) d_M_model_70 (fun H locs hP hD hS => ?_)
            have hPD : my_PD (dC, dI) vwCl A [(o, Sum.inr (9, mO g fForm fShift (nI (km + 1)) fItems fEnded fLow fRange fCache fPend fGoes fOuts fIns fReads fBad fIR fAsk fBAsk fCode fRL fRR fX fWrites 0)), ((g 0), Sum.inl (cI, 8, Sum.inl (upd vMany km (nI ns)))), ((g 1), Sum.inl (cI, 512, Sum.inl (upd fC v_6.toNatClampNeg 1))), ((g 2), Sum.inl (cI, 512, Sum.inl vNow)), ((g 3), Sum.inl (cI, 512, Sum.inl vThen))] H := ⟨hP, hD⟩
            have hP := hPD.1
            have hD := hPD.2
            have hM8 : sgM (upd fC v_6.toNatClampNeg 1) vCounts (64 * km) 64 (kk + 1) (fun _ => 1) := sgM_st hM9 (by omega) (by rw [hix]; exact nI_clamp (by omega)) rfl
            obtain ⟨v_7, ev_7⟩ : ∃ y : Int32, y = (nI kk) + (1) := ⟨_, rfl⟩
            refine lv_iinc (v := v_7) (lv' := [(3, Value.int v_7), (2, Value.int (nI km)), (0, Value.ref o), (1, Value.int (nI ns))]) hx hb d_M_model_71 hl (k := 0) rfl (by rw [ev_7]; rfl) (by decide) rfl (fun ls hl => ?_)
            have z9 : v_7 = nI (kk + 1) := by rw [ev_7]; exact nI_1 _
            subst z9
            refine lv_goto (tgt := 54) hx hb d_M_model_74 (by decide) ?_
            exact ih9_54 _ (by first | omega | (omega)) (kk + 1) (upd fC v_6.toNatClampNeg 1) rfl (by omega) (hM8) H locs ls (hP.sub [0, 1, 2, 3, 4] rfl) (hD.sub [0, 1, 2, 3, 4] (by decide +kernel) rfl) hS (lv_sub hl [0, 1, 2, 3] rfl)
      exact J_54 _ (0 : Nat) vCounts rfl (Nat.zero_le _) (sgM_0 _ _ _ _) H locs ls (hP.sub [0, 1, 2, 3, 4] rfl) (hD.sub [0, 1, 2, 3, 4] (by decide +kernel) rfl) hS (lv_sub hl [0, 1, 2, 3] rfl)
    · exact absurd (nI_inj (a := km) (b := 8) (by omega) (by decide) c_2) (by omega)
  · exact absurd ⟨nI_le (a := 2) hns2 (by omega), nI_le (b := 64) hns (by omega)⟩ (one_eq hw_9 c_1)
set_option maxHeartbeats 2000000 in
set_option maxRecDepth 100000 in
theorem m_read0 (l : Launch) (dC : Nat → ClassId) (dI : Nat → Nat → Nat) (cI cM cO : ClassId) (sz : Nat) (o : Nat) (g : Nat → Nat) (fForm : Int32) (fShift : Int32) (fModels : Int32) (fItems : Int32) (fEnded : Int32) (fLow : Int64) (fRange : Int64) (fCache : Int32) (fPend : Int32) (fGoes : Int32) (fOuts : Int32) (fIns : Int32) (fReads : Int32) (fBad : Int32) (fIR : Int32) (fAsk : Int32) (fBAsk : Int32) (fCode : Int64) (fRL : Int64) (fRR : Int64) (fX : Int64) (fWrites : Int32) (fThrown : Int32) (vMany : Nat → Int32) (vCounts : Nat → Int32) (vThen : Nat → Int32) (vIn : Nat → Int32) (km : Nat) (N : Nat → Nat) (cn : Nat) (hfo : fForm = 0) (hmod : fModels = nI km) (hMD : MD km N vMany vCounts) (hIN : IN fIns vIn) : MetI l y_M_read (Cond.code y_M_read prog_14_method_43_code 2 (some .int) :: gw) ({ frames := 3, cells := 0, slots := 0, locals := 75 } : Room) (dC, dI) vwCl (kT cI cM cO) [Value.ref o] [(o, Sum.inr (9, mO g fForm fShift fModels fItems fEnded fLow fRange fCache fPend fGoes fOuts fIns fReads fBad fIR fAsk fBAsk fCode fRL fRR fX fWrites fThrown)), ((g 0), Sum.inl (cI, 8, Sum.inl vMany)), ((g 1), Sum.inl (cI, 512, Sum.inl vCounts)), ((g 3), Sum.inl (cI, 512, Sum.inl vThen)), ((g 8), Sum.inl (cI, 6000, Sum.inl vIn))] sz (fun (r : Int32) (u : Int32 × Int32 × Int32 × Int32 × Int32 × Int64 × Int64 × Int64 × Int64 × Int32 × (Nat → Int32)) => TB 0 km N u.2.2.2.2.2.2.2.2.2.2 ∧ (¬ u.1 = 0 → u.2.1 = 0 → RD0 cn u.2.2.2.1 u.2.2.2.2.2.1 u.2.2.2.2.2.2.2.1) ∧ r = fIns ∧ u.1 = 1) (fun (u : Int32 × Int32 × Int32 × Int32 × Int32 × Int64 × Int64 × Int64 × Int64 × Int32 × (Nat → Int32)) => [(o, Sum.inr (9, mO g fForm fShift fModels fItems fEnded fLow fRange fCache fPend fGoes fOuts fIns u.1 u.2.1 u.2.2.1 u.2.2.2.1 u.2.2.2.2.1 u.2.2.2.2.2.1 u.2.2.2.2.2.2.1 u.2.2.2.2.2.2.2.1 u.2.2.2.2.2.2.2.2.1 fWrites u.2.2.2.2.2.2.2.2.2.1)), ((g 0), Sum.inl (cI, 8, Sum.inl vMany)), ((g 1), Sum.inl (cI, 512, Sum.inl vCounts)), ((g 3), Sum.inl (cI, 512, Sum.inl u.2.2.2.2.2.2.2.2.2.2)), ((g 8), Sum.inl (cI, 6000, Sum.inl vIn))]) 0 0 := by
  refine my_ofI (cc := prog_14_method_43_code) (n := 2) (ret := (some .int)) (by decide) rfl (Nat.le_of_ble_eq_true rfl) ?_
  intro p e s m args below meth c R Q A ls H locs hx hb hr hts hown hlocks hml hnm hR hQ hA hl hP hK hN hD hS
  have hg : ∀ w ∈ gw, w.before args s = true := fun w h => hts w (List.mem_cons_of_mem _ h)
  have hown : s.vm.findClass "RangeCodersModel" = some m.cls := hown
  have hl : lv_has ls 2 [(0, Value.ref o)] := hl
  subst hfo
  have hfm : 0 ≤ 4 := by decide
  obtain ⟨is, rfl, hIn, hlen, hoct⟩ := hIN
  have hPD : my_PD (dC, dI) vwCl A [(o, Sum.inr (9, mO g 0 fShift fModels fItems fEnded fLow fRange fCache fPend fGoes fOuts (nI is.length) fReads fBad fIR fAsk fBAsk fCode fRL fRR fX fWrites fThrown)), ((g 0), Sum.inl (cI, 8, Sum.inl vMany)), ((g 1), Sum.inl (cI, 512, Sum.inl vCounts)), ((g 3), Sum.inl (cI, 512, Sum.inl vThen)), ((g 8), Sum.inl (cI, 6000, Sum.inl vIn))] H := ⟨hP, hD⟩
  have hP := hPD.1
  have hD := hPD.2
  have hl : lv_has ls 2 [(0, Value.ref o)] := hl
  refine lv_aload_n hx hb d_M_read_0 rfl (lv_at hl 0 rfl) ?_
  refine lv_iconst (v := 0) hx hb d_M_read_1 (by decide) ?_
  refine va_put (D := (dC, dI)) (ci := 9) (v := .int 0) (ty := .int) (C := "RangeCodersModel") (T := T_M) (N := 35) hx hb hg in_M t_M o_M n_M hown hK hP hD hS 0 rfl rfl 34 (by decide) (hg _ k986) (fun _ h9 => h9) rfl (o_M 34 (by decide)) rfl rfl (Nat.le_of_ble_eq_true rfl) d_M_read_2 (fun H locs hP hD hS => ?_)
  have hPD : my_PD (dC, dI) vwCl A [(o, Sum.inr (9, mO g 0 fShift fModels fItems fEnded fLow fRange fCache fPend fGoes fOuts (nI is.length) fReads fBad fIR fAsk fBAsk fCode fRL fRR fX fWrites 0)), ((g 0), Sum.inl (cI, 8, Sum.inl vMany)), ((g 1), Sum.inl (cI, 512, Sum.inl vCounts)), ((g 3), Sum.inl (cI, 512, Sum.inl vThen)), ((g 8), Sum.inl (cI, 6000, Sum.inl vIn))] H := ⟨hP, hD⟩
  have hP := hPD.1
  have hD := hPD.2
  refine lv_iconst (v := 0) hx hb d_M_read_5 (by decide) ?_
  refine lv_istore_n (lv' := [(1, Value.int 0), (0, Value.ref o)]) hx hb d_M_read_6 rfl hl (by decide) rfl (fun ls hl => ?_)
  have J_7 : ∀ (n9_7 : Nat) (jj : Nat) (fN : Nat → Int32) (hn9_7 : km - jj = n9_7) (hjj : jj ≤ km) (hT9 : TB 0 jj N fN) (H : Heap) (locs : List Loc) (ls : Array Slot), va_P (dC, dI) vwCl [(o, Sum.inr (9, mO g 0 fShift fModels fItems fEnded fLow fRange fCache fPend fGoes fOuts (nI is.length) fReads fBad fIR fAsk fBAsk fCode fRL fRR fX fWrites 0)), ((g 0), Sum.inl (cI, 8, Sum.inl vMany)), ((g 1), Sum.inl (cI, 512, Sum.inl vCounts)), ((g 3), Sum.inl (cI, 512, Sum.inl fN)), ((g 8), Sum.inl (cI, 6000, Sum.inl vIn))] H → va_D A [(o, Sum.inr (9, mO g 0 fShift fModels fItems fEnded fLow fRange fCache fPend fGoes fOuts (nI is.length) fReads fBad fIR fAsk fBAsk fCode fRL fRR fX fWrites 0)), ((g 0), Sum.inl (cI, 8, Sum.inl vMany)), ((g 1), Sum.inl (cI, 512, Sum.inl vCounts)), ((g 3), Sum.inl (cI, 512, Sum.inl fN)), ((g 8), Sum.inl (cI, 6000, Sum.inl vIn))] → va_S A s.heap H locs → lv_has ls 2 [(1, Value.int (nI jj)), (0, Value.ref o)] → W p l e R s m args below meth c H locs 0 0 Q (F0 m 7 ls []) := by
    intro n9_7
    induction n9_7 using Nat.strongRecOn with
    | ind n9_7 ih9_7 =>
      intro jj fN hn9_7 hjj hT9 H locs ls hP hD hS hl
      refine lv_iload_n hx hb d_M_read_7 rfl (lv_at hl 0 rfl) ?_
      refine lv_aload_n hx hb d_M_read_8 rfl (lv_at hl 1 rfl) ?_
      refine va_get (D := (dC, dI)) (ci := 9) (v := .int fModels) (C := "RangeCodersModel") (T := T_M) (N := 35) hx hb hg in_M hown hK hP 0 rfl rfl 2 (by decide) (hg _ k954) (fun _ h9 => h9) rfl d_M_read_9 ?_
      refine lv_icmp_ge (tgt := 30) hx hb d_M_read_12 (by decide) (fun c_1 => ?_) (fun c_1 => ?_)
      · have hjk : jj = km := by
          have hk8 := hMD.1
          rw [hmod] at c_1
          have := (nI_cmp (by omega) (by omega)).mp c_1
          omega
        subst hjk
        refine lv_aload_n hx hb d_M_read_30 rfl (lv_at hl 1 rfl) ?_
        refine lv_iconst (v := 1) hx hb d_M_read_31 (by decide) ?_
        refine va_put (D := (dC, dI)) (ci := 9) (v := .int 1) (ty := .boolean) (C := "RangeCodersModel") (T := T_M) (N := 35) hx hb hg in_M t_M o_M n_M hown hK hP hD hS 0 rfl rfl 21 (by decide) (hg _ k973) (fun _ h9 => h9) rfl (o_M 21 (by decide)) rfl rfl (Nat.le_of_ble_eq_true rfl) d_M_read_32 (fun H locs hP hD hS => ?_)
        have hPD : my_PD (dC, dI) vwCl A [(o, Sum.inr (9, mO g 0 fShift fModels fItems fEnded fLow fRange fCache fPend fGoes fOuts (nI is.length) 1 fBad fIR fAsk fBAsk fCode fRL fRR fX fWrites 0)), ((g 0), Sum.inl (cI, 8, Sum.inl vMany)), ((g 1), Sum.inl (cI, 512, Sum.inl vCounts)), ((g 3), Sum.inl (cI, 512, Sum.inl fN)), ((g 8), Sum.inl (cI, 6000, Sum.inl vIn))] H := ⟨hP, hD⟩
        have hP := hPD.1
        have hD := hPD.2
        refine lv_aload_n hx hb d_M_read_35 rfl (lv_at hl 1 rfl) ?_
        refine lv_iconst (v := 0) hx hb d_M_read_36 (by decide) ?_
        refine va_put (D := (dC, dI)) (ci := 9) (v := .int 0) (ty := .boolean) (C := "RangeCodersModel") (T := T_M) (N := 35) hx hb hg in_M t_M o_M n_M hown hK hP hD hS 0 rfl rfl 22 (by decide) (hg _ k974) (fun _ h9 => h9) rfl (o_M 22 (by decide)) rfl rfl (Nat.le_of_ble_eq_true rfl) d_M_read_37 (fun H locs hP hD hS => ?_)
        have hPD : my_PD (dC, dI) vwCl A [(o, Sum.inr (9, mO g 0 fShift fModels fItems fEnded fLow fRange fCache fPend fGoes fOuts (nI is.length) 1 0 fIR fAsk fBAsk fCode fRL fRR fX fWrites 0)), ((g 0), Sum.inl (cI, 8, Sum.inl vMany)), ((g 1), Sum.inl (cI, 512, Sum.inl vCounts)), ((g 3), Sum.inl (cI, 512, Sum.inl fN)), ((g 8), Sum.inl (cI, 6000, Sum.inl vIn))] H := ⟨hP, hD⟩
        have hP := hPD.1
        have hD := hPD.2
        refine lv_aload_n hx hb d_M_read_40 rfl (lv_at hl 1 rfl) ?_
        refine lv_iconst (v := 0) hx hb d_M_read_41 (by decide) ?_
        refine va_put (D := (dC, dI)) (ci := 9) (v := .int 0) (ty := .int) (C := "RangeCodersModel") (T := T_M) (N := 35) hx hb hg in_M t_M o_M n_M hown hK hP hD hS 0 rfl rfl 23 (by decide) (hg _ k975) (fun _ h9 => h9) rfl (o_M 23 (by decide)) rfl rfl (Nat.le_of_ble_eq_true rfl) d_M_read_42 (fun H locs hP hD hS => ?_)
        have hPD : my_PD (dC, dI) vwCl A [(o, Sum.inr (9, mO g 0 fShift fModels fItems fEnded fLow fRange fCache fPend fGoes fOuts (nI is.length) 1 0 0 fAsk fBAsk fCode fRL fRR fX fWrites 0)), ((g 0), Sum.inl (cI, 8, Sum.inl vMany)), ((g 1), Sum.inl (cI, 512, Sum.inl vCounts)), ((g 3), Sum.inl (cI, 512, Sum.inl fN)), ((g 8), Sum.inl (cI, 6000, Sum.inl vIn))] H := ⟨hP, hD⟩
        have hP := hPD.1
        have hD := hPD.2
        refine lv_aload_n hx hb d_M_read_45 rfl (lv_at hl 1 rfl) ?_
        refine lv_iconst (v := 0) hx hb d_M_read_46 (by decide) ?_
        refine va_put (D := (dC, dI)) (ci := 9) (v := .int 0) (ty := .int) (C := "RangeCodersModel") (T := T_M) (N := 35) hx hb hg in_M t_M o_M n_M hown hK hP hD hS 0 rfl rfl 24 (by decide) (hg _ k976) (fun _ h9 => h9) rfl (o_M 24 (by decide)) rfl rfl (Nat.le_of_ble_eq_true rfl) d_M_read_47 (fun H locs hP hD hS => ?_)
        have hPD : my_PD (dC, dI) vwCl A [(o, Sum.inr (9, mO g 0 fShift fModels fItems fEnded fLow fRange fCache fPend fGoes fOuts (nI is.length) 1 0 0 0 fBAsk fCode fRL fRR fX fWrites 0)), ((g 0), Sum.inl (cI, 8, Sum.inl vMany)), ((g 1), Sum.inl (cI, 512, Sum.inl vCounts)), ((g 3), Sum.inl (cI, 512, Sum.inl fN)), ((g 8), Sum.inl (cI, 6000, Sum.inl vIn))] H := ⟨hP, hD⟩
        have hP := hPD.1
        have hD := hPD.2
        refine lv_aload_n hx hb d_M_read_50 rfl (lv_at hl 1 rfl) ?_
        refine lv_iconst (v := 0) hx hb d_M_read_51 (by decide) ?_
        refine va_put (D := (dC, dI)) (ci := 9) (v := .int 0) (ty := .int) (C := "RangeCodersModel") (T := T_M) (N := 35) hx hb hg in_M t_M o_M n_M hown hK hP hD hS 0 rfl rfl 25 (by decide) (hg _ k977) (fun _ h9 => h9) rfl (o_M 25 (by decide)) rfl rfl (Nat.le_of_ble_eq_true rfl) d_M_read_52 (fun H locs hP hD hS => ?_)
        have hPD : my_PD (dC, dI) vwCl A [(o, Sum.inr (9, mO g 0 fShift fModels fItems fEnded fLow fRange fCache fPend fGoes fOuts (nI is.length) 1 0 0 0 0 fCode fRL fRR fX fWrites 0)), ((g 0), Sum.inl (cI, 8, Sum.inl vMany)), ((g 1), Sum.inl (cI, 512, Sum.inl vCounts)), ((g 3), Sum.inl (cI, 512, Sum.inl fN)), ((g 8), Sum.inl (cI, 6000, Sum.inl vIn))] H := ⟨hP, hD⟩
        have hP := hPD.1
        have hD := hPD.2
        refine lv_aload_n hx hb d_M_read_55 rfl (lv_at hl 1 rfl) ?_
        refine lv_lconst (v := 0) hx hb d_M_read_56 (by decide) ?_
        refine va_put (D := (dC, dI)) (ci := 9) (v := .long 0) (ty := .long) (C := "RangeCodersModel") (T := T_M) (N := 35) hx hb hg in_M t_M o_M n_M hown hK hP hD hS 0 rfl rfl 26 (by decide) (hg _ k978) (fun _ h9 => h9) rfl (o_M 26 (by decide)) rfl rfl (Nat.le_of_ble_eq_true rfl) d_M_read_57 (fun H locs hP hD hS => ?_)
        have hPD : my_PD (dC, dI) vwCl A [(o, Sum.inr (9, mO g 0 fShift fModels fItems fEnded fLow fRange fCache fPend fGoes fOuts (nI is.length) 1 0 0 0 0 0 fRL fRR fX fWrites 0)), ((g 0), Sum.inl (cI, 8, Sum.inl vMany)), ((g 1), Sum.inl (cI, 512, Sum.inl vCounts)), ((g 3), Sum.inl (cI, 512, Sum.inl fN)), ((g 8), Sum.inl (cI, 6000, Sum.inl vIn))] H := ⟨hP, hD⟩
        have hP := hPD.1
        have hD := hPD.2
        refine lv_aload_n hx hb d_M_read_60 rfl (lv_at hl 1 rfl) ?_
        refine lv_lconst (v := 0) hx hb d_M_read_61 (by decide) ?_
        refine va_put (D := (dC, dI)) (ci := 9) (v := .long 0) (ty := .long) (C := "RangeCodersModel") (T := T_M) (N := 35) hx hb hg in_M t_M o_M n_M hown hK hP hD hS 0 rfl rfl 27 (by decide) (hg _ k979) (fun _ h9 => h9) rfl (o_M 27 (by decide)) rfl rfl (Nat.le_of_ble_eq_true rfl) d_M_read_62 (fun H locs hP hD hS => ?_)
        have hPD : my_PD (dC, dI) vwCl A [(o, Sum.inr (9, mO g 0 fShift fModels fItems fEnded fLow fRange fCache fPend fGoes fOuts (nI is.length) 1 0 0 0 0 0 0 fRR fX fWrites 0)), ((g 0), Sum.inl (cI, 8, Sum.inl vMany)), ((g 1), Sum.inl (cI, 512, Sum.inl vCounts)), ((g 3), Sum.inl (cI, 512, Sum.inl fN)), ((g 8), Sum.inl (cI, 6000, Sum.inl vIn))] H := ⟨hP, hD⟩
        have hP := hPD.1
        have hD := hPD.2
        refine lv_aload_n hx hb d_M_read_65 rfl (lv_at hl 1 rfl) ?_
        refine lv_ldc2 (v := 4294967295) hx hb hown (hg _ k927) d_M_read_66 ?_
        refine va_put (D := (dC, dI)) (ci := 9) (v := .long 4294967295) (ty := .long) (C := "RangeCodersModel") (T := T_M) (N := 35) hx hb hg in_M t_M o_M n_M hown hK hP hD hS 0 rfl rfl 28 (by decide) (hg _ k980) (fun _ h9 => h9) rfl (o_M 28 (by decide)) rfl rfl (Nat.le_of_ble_eq_true rfl) d_M_read_69 (fun H locs hP hD hS => ?_)
        have hPD : my_PD (dC, dI) vwCl A [(o, Sum.inr (9, mO g 0 fShift fModels fItems fEnded fLow fRange fCache fPend fGoes fOuts (nI is.length) 1 0 0 0 0 0 0 4294967295 fX fWrites 0)), ((g 0), Sum.inl (cI, 8, Sum.inl vMany)), ((g 1), Sum.inl (cI, 512, Sum.inl vCounts)), ((g 3), Sum.inl (cI, 512, Sum.inl fN)), ((g 8), Sum.inl (cI, 6000, Sum.inl vIn))] H := ⟨hP, hD⟩
        have hP := hPD.1
        have hD := hPD.2
        refine lv_aload_n hx hb d_M_read_72 rfl (lv_at hl 1 rfl) ?_
        refine lv_lconst (v := 0) hx hb d_M_read_73 (by decide) ?_
        refine va_put (D := (dC, dI)) (ci := 9) (v := .long 0) (ty := .long) (C := "RangeCodersModel") (T := T_M) (N := 35) hx hb hg in_M t_M o_M n_M hown hK hP hD hS 0 rfl rfl 29 (by decide) (hg _ k981) (fun _ h9 => h9) rfl (o_M 29 (by decide)) rfl rfl (Nat.le_of_ble_eq_true rfl) d_M_read_74 (fun H locs hP hD hS => ?_)
        have hPD : my_PD (dC, dI) vwCl A [(o, Sum.inr (9, mO g 0 fShift fModels fItems fEnded fLow fRange fCache fPend fGoes fOuts (nI is.length) 1 0 0 0 0 0 0 4294967295 0 fWrites 0)), ((g 0), Sum.inl (cI, 8, Sum.inl vMany)), ((g 1), Sum.inl (cI, 512, Sum.inl vCounts)), ((g 3), Sum.inl (cI, 512, Sum.inl fN)), ((g 8), Sum.inl (cI, 6000, Sum.inl vIn))] H := ⟨hP, hD⟩
        have hP := hPD.1
        have hD := hPD.2
        refine lv_aload_n hx hb d_M_read_77 rfl (lv_at hl 1 rfl) ?_
        refine va_get (D := (dC, dI)) (ci := 9) (v := .int 0) (C := "RangeCodersModel") (T := T_M) (N := 35) hx hb hg in_M hown hK hP 0 rfl rfl 0 (by decide) (hg _ k952) (fun _ h9 => h9) rfl d_M_read_78 ?_
        refine lv_iconst (v := 3) hx hb d_M_read_81 (by decide) ?_
        refine lv_icmp_ge (tgt := 96) hx hb d_M_read_82 (by decide) (fun c_2 => ?_) (fun c_2 => ?_)
        · exact absurd c_2 (by decide)
        · refine lv_aload_n hx hb d_M_read_85 rfl (lv_at hl 1 rfl) ?_
          refine lv_aload_n hx hb d_M_read_86 rfl (lv_at hl 1 rfl) ?_
          refine my_cl (wr := [((g 0), Sum.inl (cI, 8, Sum.inl vMany)), ((g 1), Sum.inl (cI, 512, Sum.inl vCounts)), ((g 3), Sum.inl (cI, 512, Sum.inl fN))]) (va_runV (As := []) (rest := [Value.ref o]) ⟨hx, hb, hml, hown, hts⟩ (c_M_four l dC dI cI cM cO H.size o g 0 fShift fModels fItems fEnded fLow fRange fCache fPend fGoes fOuts 1 0 0 0 0 0 4294967295 0 fWrites 0 vIn is 0 (hIn) (hlen) (hoct) (by decide)) (cwV 0 hts (my_gV k1190 k1192 ks44 k12 k1193) rfl rfl rfl cu_M_four_0 ⟨by rw [hR]; exact Nat.le_of_ble_eq_true rfl, by rw [hR]; exact Nat.le_of_ble_eq_true rfl⟩) (my_preV hK hN (hP.sub [0, 4] rfl) (hD.sub [0, 4] (by decide +kernel) rfl) 0 rfl rfl) rfl rfl hl.1 rfl (lv_room (Nat.le_of_ble_eq_true rfl)) d_M_read_87 ⟨by rw [hR]; exact Nat.le_of_ble_eq_true rfl, by rw [hR]; exact Nat.le_of_ble_eq_true rfl⟩) hP hD hS hA [0, 4] [1, 2, 3] rfl rfl (by decide +kernel) (by decide +kernel) (fun r_87 u9 H locs hw_87 hP hD hS => ?_)
          have hw_87 : r_87 = lN (frN is 0 4) := hw_87
          have hPD : my_PD (dC, dI) vwCl A [((g 0), Sum.inl (cI, 8, Sum.inl vMany)), ((g 1), Sum.inl (cI, 512, Sum.inl vCounts)), ((g 3), Sum.inl (cI, 512, Sum.inl fN)), (o, Sum.inr (9, mO g 0 fShift fModels fItems fEnded fLow fRange fCache fPend fGoes fOuts (nI is.length) 1 0 0 (nI (0 + 4)) 0 0 0 4294967295 0 fWrites 0)), ((g 8), Sum.inl (cI, 6000, Sum.inl vIn))] H := ⟨hP, hD⟩
          have hP := hPD.1
          have hD := hPD.2
          refine va_put (D := (dC, dI)) (ci := 9) (v := .long r_87) (ty := .long) (C := "RangeCodersModel") (T := T_M) (N := 35) hx hb hg in_M t_M o_M n_M hown hK hP hD hS 3 rfl rfl 26 (by decide) (hg _ k978) (fun _ h9 => h9) rfl (o_M 26 (by decide)) rfl rfl (Nat.le_of_ble_eq_true rfl) d_M_read_90 (fun H locs hP hD hS => ?_)
          have hPD : my_PD (dC, dI) vwCl A [((g 0), Sum.inl (cI, 8, Sum.inl vMany)), ((g 1), Sum.inl (cI, 512, Sum.inl vCounts)), ((g 3), Sum.inl (cI, 512, Sum.inl fN)), (o, Sum.inr (9, mO g 0 fShift fModels fItems fEnded fLow fRange fCache fPend fGoes fOuts (nI is.length) 1 0 0 (nI (0 + 4)) 0 r_87 0 4294967295 0 fWrites 0)), ((g 8), Sum.inl (cI, 6000, Sum.inl vIn))] H := ⟨hP, hD⟩
          have hP := hPD.1
          have hD := hPD.2
          refine lv_goto (tgt := 172) hx hb d_M_read_93 (by decide) ?_
          refine lv_aload_n hx hb d_M_read_172 rfl (lv_at hl 1 rfl) ?_
          refine va_get (D := (dC, dI)) (ci := 9) (v := .int (nI is.length)) (C := "RangeCodersModel") (T := T_M) (N := 35) hx hb hg in_M hown hK hP 3 rfl rfl 20 (by decide) (hg _ k972) (fun _ h9 => h9) rfl d_M_read_173 ?_
          exact my_iret (v := nI is.length) hx hb hr (rfl) hlocks hQ hK hS (Nat.le_refl _) (Nat.le_refl _) ((1 : Int32), (0 : Int32), (0 : Int32), nI (0 + 4), (0 : Int32), r_87, (0 : Int64), (4294967295 : Int64), (0 : Int64), (0 : Int32), fN) (⟨hT9, fun _ _ => ⟨4294967295, frN is 0 4, 4, hw_87, rfl, rfl, by decide, frN_lt hoct 0 4, by omega⟩, rfl, rfl⟩) (hP.sub [3, 0, 1, 2, 4] rfl) (hD.sub [3, 0, 1, 2, 4] (by decide +kernel) rfl) d_M_read_176
      · have hjl : jj < km := by
          rcases Nat.lt_or_ge jj km with z | z
          · exact z
          · exact absurd (by rw [hmod]; exact nI_le z (by have := hMD.1; omega)) c_1
        have hk8 := hMD.1
        obtain ⟨hn9, hn2, hn64, C9, hc9, hB9⟩ := hMD.2 jj hjl
        refine lv_aload_n hx hb d_M_read_15 rfl (lv_at hl 1 rfl) ?_
        refine lv_aload_n hx hb d_M_read_16 rfl (lv_at hl 1 rfl) ?_
        refine va_get (D := (dC, dI)) (ci := 9) (v := .ref (g 3)) (C := "RangeCodersModel") (T := T_M) (N := 35) hx hb hg in_M hown hK hP 0 rfl rfl 6 (by decide) (hg _ k958) (fun _ h9 => h9) rfl d_M_read_17 ?_
        refine lv_iload_n hx hb d_M_read_20 rfl (lv_at hl 0 rfl) ?_
        refine my_cv (wr := [((g 8), Sum.inl (cI, 6000, Sum.inl vIn))]) (va_runV (As := [Value.ref (g 3), Value.int (nI jj)]) (rest := []) ⟨hx, hb, hml, hown, hts⟩ (c_M_prepare l dC dI cI cM cO H.size o g 0 fShift fModels fItems fEnded fLow fRange fCache fPend fGoes fOuts (nI is.length) fReads fBad fIR fAsk fBAsk fCode fRL fRR fX fWrites 0 vMany vCounts (g 3) fN jj (N jj) 0 C9 (by omega) (hn9) (hn64) (by omega) (by decide) (by rfl) (hc9) (hB9)) (cwV 2 hts (my_gV k928 k930 ks19 k12 k931) rfl rfl rfl cu_M_prepare_2 ⟨by rw [hR]; exact Nat.le_of_ble_eq_true rfl, by rw [hR]; exact Nat.le_of_ble_eq_true rfl⟩) (my_preV hK hN (hP.sub [0, 1, 2, 3] rfl) (hD.sub [0, 1, 2, 3] (by decide +kernel) rfl) 0 rfl rfl) rfl rfl hl.1 rfl (lv_room (Nat.le_of_ble_eq_true rfl)) d_M_read_21 ⟨by rw [hR]; exact Nat.le_of_ble_eq_true rfl, by rw [hR]; exact Nat.le_of_ble_eq_true rfl⟩) hP hD hS hA [0, 1, 2, 3] [4] rfl rfl (by decide +kernel) (by decide +kernel) (fun u9 H locs hw_21 hP hD hS => ?_)
        obtain ⟨f2_21, rfl⟩ : ∃ z, z = u9 := ⟨_, rfl⟩
        have hw_21 : sgI f2_21 (64 * jj) (pfN 0 (N jj)) (pf 0 (N jj) C9) ∧ sgO f2_21 fN (64 * jj) 64 := hw_21
        have hPD : my_PD (dC, dI) vwCl A [((g 8), Sum.inl (cI, 6000, Sum.inl vIn)), (o, Sum.inr (9, mO g 0 fShift fModels fItems fEnded fLow fRange fCache fPend fGoes fOuts (nI is.length) fReads fBad fIR fAsk fBAsk fCode fRL fRR fX fWrites 0)), ((g 0), Sum.inl (cI, 8, Sum.inl vMany)), ((g 1), Sum.inl (cI, 512, Sum.inl vCounts)), ((g 3), Sum.inl (cI, 512, Sum.inl f2_21))] H := ⟨hP, hD⟩
        have hP := hPD.1
        have hD := hPD.2
        have hT8 := TB_step hT9 (MD_N hMD) hjl hw_21.2 (tab_pf hfm hn64 (by omega) hB9 hw_21.1)
        obtain ⟨v_3, ev_3⟩ : ∃ y : Int32, y = (nI jj) + (1) := ⟨_, rfl⟩
        refine lv_iinc (v := v_3) (lv' := [(1, Value.int v_3), (0, Value.ref o)]) hx hb d_M_read_24 hl (k := 0) rfl (by rw [ev_3]; rfl) (by decide) rfl (fun ls hl => ?_)
        have z9 : v_3 = nI (jj + 1) := by rw [ev_3]; exact nI_1 _
        subst z9
        refine lv_goto (tgt := 7) hx hb d_M_read_27 (by decide) ?_
        exact ih9_7 _ (by first | omega | (omega)) (jj + 1) f2_21 rfl (by omega) (hT8) H locs ls (hP.sub [1, 2, 3, 4, 0] rfl) (hD.sub [1, 2, 3, 4, 0] (by decide +kernel) rfl) hS (lv_sub hl [0, 1] rfl)
  exact J_7 _ (0 : Nat) vThen rfl (Nat.zero_le _) (TB_0 _ _ _) H locs ls (hP.sub [0, 1, 2, 3, 4] rfl) (hD.sub [0, 1, 2, 3, 4] (by decide +kernel) rfl) hS (lv_sub hl [0, 1] rfl)
set_option maxHeartbeats 2000000 in
set_option maxRecDepth 100000 in
theorem m_read1 (l : Launch) (dC : Nat → ClassId) (dI : Nat → Nat → Nat) (cI cM cO : ClassId) (sz : Nat) (o : Nat) (g : Nat → Nat) (fForm : Int32) (fShift : Int32) (fModels : Int32) (fItems : Int32) (fEnded : Int32) (fLow : Int64) (fRange : Int64) (fCache : Int32) (fPend : Int32) (fGoes : Int32) (fOuts : Int32) (fIns : Int32) (fReads : Int32) (fBad : Int32) (fIR : Int32) (fAsk : Int32) (fBAsk : Int32) (fCode : Int64) (fRL : Int64) (fRR : Int64) (fX : Int64) (fWrites : Int32) (fThrown : Int32) (vMany : Nat → Int32) (vCounts : Nat → Int32) (vThen : Nat → Int32) (vIn : Nat → Int32) (km : Nat) (N : Nat → Nat) (cn : Nat) (hfo : fForm = 1) (hmod : fModels = nI km) (hMD : MD km N vMany vCounts) (hIN : IN fIns vIn) : MetI l y_M_read (Cond.code y_M_read prog_14_method_43_code 2 (some .int) :: gw) ({ frames := 3, cells := 0, slots := 0, locals := 75 } : Room) (dC, dI) vwCl (kT cI cM cO) [Value.ref o] [(o, Sum.inr (9, mO g fForm fShift fModels fItems fEnded fLow fRange fCache fPend fGoes fOuts fIns fReads fBad fIR fAsk fBAsk fCode fRL fRR fX fWrites fThrown)), ((g 0), Sum.inl (cI, 8, Sum.inl vMany)), ((g 1), Sum.inl (cI, 512, Sum.inl vCounts)), ((g 3), Sum.inl (cI, 512, Sum.inl vThen)), ((g 8), Sum.inl (cI, 6000, Sum.inl vIn))] sz (fun (r : Int32) (u : Int32 × Int32 × Int32 × Int32 × Int32 × Int64 × Int64 × Int64 × Int64 × Int32 × (Nat → Int32)) => TB 1 km N u.2.2.2.2.2.2.2.2.2.2 ∧ (¬ u.1 = 0 → u.2.1 = 0 → RD1 cn u.2.2.2.1 u.2.2.2.2.2.1 u.2.2.2.2.2.2.1 u.2.2.2.2.2.2.2.1) ∧ r = fIns ∧ u.1 = 1) (fun (u : Int32 × Int32 × Int32 × Int32 × Int32 × Int64 × Int64 × Int64 × Int64 × Int32 × (Nat → Int32)) => [(o, Sum.inr (9, mO g fForm fShift fModels fItems fEnded fLow fRange fCache fPend fGoes fOuts fIns u.1 u.2.1 u.2.2.1 u.2.2.2.1 u.2.2.2.2.1 u.2.2.2.2.2.1 u.2.2.2.2.2.2.1 u.2.2.2.2.2.2.2.1 u.2.2.2.2.2.2.2.2.1 fWrites u.2.2.2.2.2.2.2.2.2.1)), ((g 0), Sum.inl (cI, 8, Sum.inl vMany)), ((g 1), Sum.inl (cI, 512, Sum.inl vCounts)), ((g 3), Sum.inl (cI, 512, Sum.inl u.2.2.2.2.2.2.2.2.2.2)), ((g 8), Sum.inl (cI, 6000, Sum.inl vIn))]) 0 0 := by
  refine my_ofI (cc := prog_14_method_43_code) (n := 2) (ret := (some .int)) (by decide) rfl (Nat.le_of_ble_eq_true rfl) ?_
  intro p e s m args below meth c R Q A ls H locs hx hb hr hts hown hlocks hml hnm hR hQ hA hl hP hK hN hD hS
  have hg : ∀ w ∈ gw, w.before args s = true := fun w h => hts w (List.mem_cons_of_mem _ h)
  have hown : s.vm.findClass "RangeCodersModel" = some m.cls := hown
  have hl : lv_has ls 2 [(0, Value.ref o)] := hl
  subst hfo
  have hfm : 1 ≤ 4 := by decide
  obtain ⟨is, rfl, hIn, hlen, hoct⟩ := hIN
  have hPD : my_PD (dC, dI) vwCl A [(o, Sum.inr (9, mO g 1 fShift fModels fItems fEnded fLow fRange fCache fPend fGoes fOuts (nI is.length) fReads fBad fIR fAsk fBAsk fCode fRL fRR fX fWrites fThrown)), ((g 0), Sum.inl (cI, 8, Sum.inl vMany)), ((g 1), Sum.inl (cI, 512, Sum.inl vCounts)), ((g 3), Sum.inl (cI, 512, Sum.inl vThen)), ((g 8), Sum.inl (cI, 6000, Sum.inl vIn))] H := ⟨hP, hD⟩
  have hP := hPD.1
  have hD := hPD.2
  have hl : lv_has ls 2 [(0, Value.ref o)] := hl
  refine lv_aload_n hx hb d_M_read_0 rfl (lv_at hl 0 rfl) ?_
  refine lv_iconst (v := 0) hx hb d_M_read_1 (by decide) ?_
  refine va_put (D := (dC, dI)) (ci := 9) (v := .int 0) (ty := .int) (C := "RangeCodersModel") (T := T_M) (N := 35) hx hb hg in_M t_M o_M n_M hown hK hP hD hS 0 rfl rfl 34 (by decide) (hg _ k986) (fun _ h9 => h9) rfl (o_M 34 (by decide)) rfl rfl (Nat.le_of_ble_eq_true rfl) d_M_read_2 (fun H locs hP hD hS => ?_)
  have hPD : my_PD (dC, dI) vwCl A [(o, Sum.inr (9, mO g 1 fShift fModels fItems fEnded fLow fRange fCache fPend fGoes fOuts (nI is.length) fReads fBad fIR fAsk fBAsk fCode fRL fRR fX fWrites 0)), ((g 0), Sum.inl (cI, 8, Sum.inl vMany)), ((g 1), Sum.inl (cI, 512, Sum.inl vCounts)), ((g 3), Sum.inl (cI, 512, Sum.inl vThen)), ((g 8), Sum.inl (cI, 6000, Sum.inl vIn))] H := ⟨hP, hD⟩
  have hP := hPD.1
  have hD := hPD.2
  refine lv_iconst (v := 0) hx hb d_M_read_5 (by decide) ?_
  refine lv_istore_n (lv' := [(1, Value.int 0), (0, Value.ref o)]) hx hb d_M_read_6 rfl hl (by decide) rfl (fun ls hl => ?_)
  have J_7 : ∀ (n9_7 : Nat) (jj : Nat) (fN : Nat → Int32) (hn9_7 : km - jj = n9_7) (hjj : jj ≤ km) (hT9 : TB 1 jj N fN) (H : Heap) (locs : List Loc) (ls : Array Slot), va_P (dC, dI) vwCl [(o, Sum.inr (9, mO g 1 fShift fModels fItems fEnded fLow fRange fCache fPend fGoes fOuts (nI is.length) fReads fBad fIR fAsk fBAsk fCode fRL fRR fX fWrites 0)), ((g 0), Sum.inl (cI, 8, Sum.inl vMany)), ((g 1), Sum.inl (cI, 512, Sum.inl vCounts)), ((g 3), Sum.inl (cI, 512, Sum.inl fN)), ((g 8), Sum.inl (cI, 6000, Sum.inl vIn))] H → va_D A [(o, Sum.inr (9, mO g 1 fShift fModels fItems fEnded fLow fRange fCache fPend fGoes fOuts (nI is.length) fReads fBad fIR fAsk fBAsk fCode fRL fRR fX fWrites 0)), ((g 0), Sum.inl (cI, 8, Sum.inl vMany)), ((g 1), Sum.inl (cI, 512, Sum.inl vCounts)), ((g 3), Sum.inl (cI, 512, Sum.inl fN)), ((g 8), Sum.inl (cI, 6000, Sum.inl vIn))] → va_S A s.heap H locs → lv_has ls 2 [(1, Value.int (nI jj)), (0, Value.ref o)] → W p l e R s m args below meth c H locs 0 0 Q (F0 m 7 ls []) := by
    intro n9_7
    induction n9_7 using Nat.strongRecOn with
    | ind n9_7 ih9_7 =>
      intro jj fN hn9_7 hjj hT9 H locs ls hP hD hS hl
      refine lv_iload_n hx hb d_M_read_7 rfl (lv_at hl 0 rfl) ?_
      refine lv_aload_n hx hb d_M_read_8 rfl (lv_at hl 1 rfl) ?_
      refine va_get (D := (dC, dI)) (ci := 9) (v := .int fModels) (C := "RangeCodersModel") (T := T_M) (N := 35) hx hb hg in_M hown hK hP 0 rfl rfl 2 (by decide) (hg _ k954) (fun _ h9 => h9) rfl d_M_read_9 ?_
      refine lv_icmp_ge (tgt := 30) hx hb d_M_read_12 (by decide) (fun c_1 => ?_) (fun c_1 => ?_)
      · have hjk : jj = km := by
          have hk8 := hMD.1
          rw [hmod] at c_1
          have := (nI_cmp (by omega) (by omega)).mp c_1
          omega
        subst hjk
        refine lv_aload_n hx hb d_M_read_30 rfl (lv_at hl 1 rfl) ?_
        refine lv_iconst (v := 1) hx hb d_M_read_31 (by decide) ?_
        refine va_put (D := (dC, dI)) (ci := 9) (v := .int 1) (ty := .boolean) (C := "RangeCodersModel") (T := T_M) (N := 35) hx hb hg in_M t_M o_M n_M hown hK hP hD hS 0 rfl rfl 21 (by decide) (hg _ k973) (fun _ h9 => h9) rfl (o_M 21 (by decide)) rfl rfl (Nat.le_of_ble_eq_true rfl) d_M_read_32 (fun H locs hP hD hS => ?_)
        have hPD : my_PD (dC, dI) vwCl A [(o, Sum.inr (9, mO g 1 fShift fModels fItems fEnded fLow fRange fCache fPend fGoes fOuts (nI is.length) 1 fBad fIR fAsk fBAsk fCode fRL fRR fX fWrites 0)), ((g 0), Sum.inl (cI, 8, Sum.inl vMany)), ((g 1), Sum.inl (cI, 512, Sum.inl vCounts)), ((g 3), Sum.inl (cI, 512, Sum.inl fN)), ((g 8), Sum.inl (cI, 6000, Sum.inl vIn))] H := ⟨hP, hD⟩
        have hP := hPD.1
        have hD := hPD.2
        refine lv_aload_n hx hb d_M_read_35 rfl (lv_at hl 1 rfl) ?_
        refine lv_iconst (v := 0) hx hb d_M_read_36 (by decide) ?_
        refine va_put (D := (dC, dI)) (ci := 9) (v := .int 0) (ty := .boolean) (C := "RangeCodersModel") (T := T_M) (N := 35) hx hb hg in_M t_M o_M n_M hown hK hP hD hS 0 rfl rfl 22 (by decide) (hg _ k974) (fun _ h9 => h9) rfl (o_M 22 (by decide)) rfl rfl (Nat.le_of_ble_eq_true rfl) d_M_read_37 (fun H locs hP hD hS => ?_)
        have hPD : my_PD (dC, dI) vwCl A [(o, Sum.inr (9, mO g 1 fShift fModels fItems fEnded fLow fRange fCache fPend fGoes fOuts (nI is.length) 1 0 fIR fAsk fBAsk fCode fRL fRR fX fWrites 0)), ((g 0), Sum.inl (cI, 8, Sum.inl vMany)), ((g 1), Sum.inl (cI, 512, Sum.inl vCounts)), ((g 3), Sum.inl (cI, 512, Sum.inl fN)), ((g 8), Sum.inl (cI, 6000, Sum.inl vIn))] H := ⟨hP, hD⟩
        have hP := hPD.1
        have hD := hPD.2
        refine lv_aload_n hx hb d_M_read_40 rfl (lv_at hl 1 rfl) ?_
        refine lv_iconst (v := 0) hx hb d_M_read_41 (by decide) ?_
        refine va_put (D := (dC, dI)) (ci := 9) (v := .int 0) (ty := .int) (C := "RangeCodersModel") (T := T_M) (N := 35) hx hb hg in_M t_M o_M n_M hown hK hP hD hS 0 rfl rfl 23 (by decide) (hg _ k975) (fun _ h9 => h9) rfl (o_M 23 (by decide)) rfl rfl (Nat.le_of_ble_eq_true rfl) d_M_read_42 (fun H locs hP hD hS => ?_)
        have hPD : my_PD (dC, dI) vwCl A [(o, Sum.inr (9, mO g 1 fShift fModels fItems fEnded fLow fRange fCache fPend fGoes fOuts (nI is.length) 1 0 0 fAsk fBAsk fCode fRL fRR fX fWrites 0)), ((g 0), Sum.inl (cI, 8, Sum.inl vMany)), ((g 1), Sum.inl (cI, 512, Sum.inl vCounts)), ((g 3), Sum.inl (cI, 512, Sum.inl fN)), ((g 8), Sum.inl (cI, 6000, Sum.inl vIn))] H := ⟨hP, hD⟩
        have hP := hPD.1
        have hD := hPD.2
        refine lv_aload_n hx hb d_M_read_45 rfl (lv_at hl 1 rfl) ?_
        refine lv_iconst (v := 0) hx hb d_M_read_46 (by decide) ?_
        refine va_put (D := (dC, dI)) (ci := 9) (v := .int 0) (ty := .int) (C := "RangeCodersModel") (T := T_M) (N := 35) hx hb hg in_M t_M o_M n_M hown hK hP hD hS 0 rfl rfl 24 (by decide) (hg _ k976) (fun _ h9 => h9) rfl (o_M 24 (by decide)) rfl rfl (Nat.le_of_ble_eq_true rfl) d_M_read_47 (fun H locs hP hD hS => ?_)
        have hPD : my_PD (dC, dI) vwCl A [(o, Sum.inr (9, mO g 1 fShift fModels fItems fEnded fLow fRange fCache fPend fGoes fOuts (nI is.length) 1 0 0 0 fBAsk fCode fRL fRR fX fWrites 0)), ((g 0), Sum.inl (cI, 8, Sum.inl vMany)), ((g 1), Sum.inl (cI, 512, Sum.inl vCounts)), ((g 3), Sum.inl (cI, 512, Sum.inl fN)), ((g 8), Sum.inl (cI, 6000, Sum.inl vIn))] H := ⟨hP, hD⟩
        have hP := hPD.1
        have hD := hPD.2
        refine lv_aload_n hx hb d_M_read_50 rfl (lv_at hl 1 rfl) ?_
        refine lv_iconst (v := 0) hx hb d_M_read_51 (by decide) ?_
        refine va_put (D := (dC, dI)) (ci := 9) (v := .int 0) (ty := .int) (C := "RangeCodersModel") (T := T_M) (N := 35) hx hb hg in_M t_M o_M n_M hown hK hP hD hS 0 rfl rfl 25 (by decide) (hg _ k977) (fun _ h9 => h9) rfl (o_M 25 (by decide)) rfl rfl (Nat.le_of_ble_eq_true rfl) d_M_read_52 (fun H locs hP hD hS => ?_)
        have hPD : my_PD (dC, dI) vwCl A [(o, Sum.inr (9, mO g 1 fShift fModels fItems fEnded fLow fRange fCache fPend fGoes fOuts (nI is.length) 1 0 0 0 0 fCode fRL fRR fX fWrites 0)), ((g 0), Sum.inl (cI, 8, Sum.inl vMany)), ((g 1), Sum.inl (cI, 512, Sum.inl vCounts)), ((g 3), Sum.inl (cI, 512, Sum.inl fN)), ((g 8), Sum.inl (cI, 6000, Sum.inl vIn))] H := ⟨hP, hD⟩
        have hP := hPD.1
        have hD := hPD.2
        refine lv_aload_n hx hb d_M_read_55 rfl (lv_at hl 1 rfl) ?_
        refine lv_lconst (v := 0) hx hb d_M_read_56 (by decide) ?_
        refine va_put (D := (dC, dI)) (ci := 9) (v := .long 0) (ty := .long) (C := "RangeCodersModel") (T := T_M) (N := 35) hx hb hg in_M t_M o_M n_M hown hK hP hD hS 0 rfl rfl 26 (by decide) (hg _ k978) (fun _ h9 => h9) rfl (o_M 26 (by decide)) rfl rfl (Nat.le_of_ble_eq_true rfl) d_M_read_57 (fun H locs hP hD hS => ?_)
        have hPD : my_PD (dC, dI) vwCl A [(o, Sum.inr (9, mO g 1 fShift fModels fItems fEnded fLow fRange fCache fPend fGoes fOuts (nI is.length) 1 0 0 0 0 0 fRL fRR fX fWrites 0)), ((g 0), Sum.inl (cI, 8, Sum.inl vMany)), ((g 1), Sum.inl (cI, 512, Sum.inl vCounts)), ((g 3), Sum.inl (cI, 512, Sum.inl fN)), ((g 8), Sum.inl (cI, 6000, Sum.inl vIn))] H := ⟨hP, hD⟩
        have hP := hPD.1
        have hD := hPD.2
        refine lv_aload_n hx hb d_M_read_60 rfl (lv_at hl 1 rfl) ?_
        refine lv_lconst (v := 0) hx hb d_M_read_61 (by decide) ?_
        refine va_put (D := (dC, dI)) (ci := 9) (v := .long 0) (ty := .long) (C := "RangeCodersModel") (T := T_M) (N := 35) hx hb hg in_M t_M o_M n_M hown hK hP hD hS 0 rfl rfl 27 (by decide) (hg _ k979) (fun _ h9 => h9) rfl (o_M 27 (by decide)) rfl rfl (Nat.le_of_ble_eq_true rfl) d_M_read_62 (fun H locs hP hD hS => ?_)
        have hPD : my_PD (dC, dI) vwCl A [(o, Sum.inr (9, mO g 1 fShift fModels fItems fEnded fLow fRange fCache fPend fGoes fOuts (nI is.length) 1 0 0 0 0 0 0 fRR fX fWrites 0)), ((g 0), Sum.inl (cI, 8, Sum.inl vMany)), ((g 1), Sum.inl (cI, 512, Sum.inl vCounts)), ((g 3), Sum.inl (cI, 512, Sum.inl fN)), ((g 8), Sum.inl (cI, 6000, Sum.inl vIn))] H := ⟨hP, hD⟩
        have hP := hPD.1
        have hD := hPD.2
        refine lv_aload_n hx hb d_M_read_65 rfl (lv_at hl 1 rfl) ?_
        refine lv_ldc2 (v := 4294967295) hx hb hown (hg _ k927) d_M_read_66 ?_
        refine va_put (D := (dC, dI)) (ci := 9) (v := .long 4294967295) (ty := .long) (C := "RangeCodersModel") (T := T_M) (N := 35) hx hb hg in_M t_M o_M n_M hown hK hP hD hS 0 rfl rfl 28 (by decide) (hg _ k980) (fun _ h9 => h9) rfl (o_M 28 (by decide)) rfl rfl (Nat.le_of_ble_eq_true rfl) d_M_read_69 (fun H locs hP hD hS => ?_)
        have hPD : my_PD (dC, dI) vwCl A [(o, Sum.inr (9, mO g 1 fShift fModels fItems fEnded fLow fRange fCache fPend fGoes fOuts (nI is.length) 1 0 0 0 0 0 0 4294967295 fX fWrites 0)), ((g 0), Sum.inl (cI, 8, Sum.inl vMany)), ((g 1), Sum.inl (cI, 512, Sum.inl vCounts)), ((g 3), Sum.inl (cI, 512, Sum.inl fN)), ((g 8), Sum.inl (cI, 6000, Sum.inl vIn))] H := ⟨hP, hD⟩
        have hP := hPD.1
        have hD := hPD.2
        refine lv_aload_n hx hb d_M_read_72 rfl (lv_at hl 1 rfl) ?_
        refine lv_lconst (v := 0) hx hb d_M_read_73 (by decide) ?_
        refine va_put (D := (dC, dI)) (ci := 9) (v := .long 0) (ty := .long) (C := "RangeCodersModel") (T := T_M) (N := 35) hx hb hg in_M t_M o_M n_M hown hK hP hD hS 0 rfl rfl 29 (by decide) (hg _ k981) (fun _ h9 => h9) rfl (o_M 29 (by decide)) rfl rfl (Nat.le_of_ble_eq_true rfl) d_M_read_74 (fun H locs hP hD hS => ?_)
        have hPD : my_PD (dC, dI) vwCl A [(o, Sum.inr (9, mO g 1 fShift fModels fItems fEnded fLow fRange fCache fPend fGoes fOuts (nI is.length) 1 0 0 0 0 0 0 4294967295 0 fWrites 0)), ((g 0), Sum.inl (cI, 8, Sum.inl vMany)), ((g 1), Sum.inl (cI, 512, Sum.inl vCounts)), ((g 3), Sum.inl (cI, 512, Sum.inl fN)), ((g 8), Sum.inl (cI, 6000, Sum.inl vIn))] H := ⟨hP, hD⟩
        have hP := hPD.1
        have hD := hPD.2
        refine lv_aload_n hx hb d_M_read_77 rfl (lv_at hl 1 rfl) ?_
        refine va_get (D := (dC, dI)) (ci := 9) (v := .int 1) (C := "RangeCodersModel") (T := T_M) (N := 35) hx hb hg in_M hown hK hP 0 rfl rfl 0 (by decide) (hg _ k952) (fun _ h9 => h9) rfl d_M_read_78 ?_
        refine lv_iconst (v := 3) hx hb d_M_read_81 (by decide) ?_
        refine lv_icmp_ge (tgt := 96) hx hb d_M_read_82 (by decide) (fun c_2 => ?_) (fun c_2 => ?_)
        · exact absurd c_2 (by decide)
        · refine lv_aload_n hx hb d_M_read_85 rfl (lv_at hl 1 rfl) ?_
          refine lv_aload_n hx hb d_M_read_86 rfl (lv_at hl 1 rfl) ?_
          refine my_cl (wr := [((g 0), Sum.inl (cI, 8, Sum.inl vMany)), ((g 1), Sum.inl (cI, 512, Sum.inl vCounts)), ((g 3), Sum.inl (cI, 512, Sum.inl fN))]) (va_runV (As := []) (rest := [Value.ref o]) ⟨hx, hb, hml, hown, hts⟩ (c_M_four l dC dI cI cM cO H.size o g 1 fShift fModels fItems fEnded fLow fRange fCache fPend fGoes fOuts 1 0 0 0 0 0 4294967295 0 fWrites 0 vIn is 0 (hIn) (hlen) (hoct) (by decide)) (cwV 0 hts (my_gV k1190 k1192 ks44 k12 k1193) rfl rfl rfl cu_M_four_0 ⟨by rw [hR]; exact Nat.le_of_ble_eq_true rfl, by rw [hR]; exact Nat.le_of_ble_eq_true rfl⟩) (my_preV hK hN (hP.sub [0, 4] rfl) (hD.sub [0, 4] (by decide +kernel) rfl) 0 rfl rfl) rfl rfl hl.1 rfl (lv_room (Nat.le_of_ble_eq_true rfl)) d_M_read_87 ⟨by rw [hR]; exact Nat.le_of_ble_eq_true rfl, by rw [hR]; exact Nat.le_of_ble_eq_true rfl⟩) hP hD hS hA [0, 4] [1, 2, 3] rfl rfl (by decide +kernel) (by decide +kernel) (fun r_87 u9 H locs hw_87 hP hD hS => ?_)
          have hw_87 : r_87 = lN (frN is 0 4) := hw_87
          have hPD : my_PD (dC, dI) vwCl A [((g 0), Sum.inl (cI, 8, Sum.inl vMany)), ((g 1), Sum.inl (cI, 512, Sum.inl vCounts)), ((g 3), Sum.inl (cI, 512, Sum.inl fN)), (o, Sum.inr (9, mO g 1 fShift fModels fItems fEnded fLow fRange fCache fPend fGoes fOuts (nI is.length) 1 0 0 (nI (0 + 4)) 0 0 0 4294967295 0 fWrites 0)), ((g 8), Sum.inl (cI, 6000, Sum.inl vIn))] H := ⟨hP, hD⟩
          have hP := hPD.1
          have hD := hPD.2
          refine va_put (D := (dC, dI)) (ci := 9) (v := .long r_87) (ty := .long) (C := "RangeCodersModel") (T := T_M) (N := 35) hx hb hg in_M t_M o_M n_M hown hK hP hD hS 3 rfl rfl 26 (by decide) (hg _ k978) (fun _ h9 => h9) rfl (o_M 26 (by decide)) rfl rfl (Nat.le_of_ble_eq_true rfl) d_M_read_90 (fun H locs hP hD hS => ?_)
          have hPD : my_PD (dC, dI) vwCl A [((g 0), Sum.inl (cI, 8, Sum.inl vMany)), ((g 1), Sum.inl (cI, 512, Sum.inl vCounts)), ((g 3), Sum.inl (cI, 512, Sum.inl fN)), (o, Sum.inr (9, mO g 1 fShift fModels fItems fEnded fLow fRange fCache fPend fGoes fOuts (nI is.length) 1 0 0 (nI (0 + 4)) 0 r_87 0 4294967295 0 fWrites 0)), ((g 8), Sum.inl (cI, 6000, Sum.inl vIn))] H := ⟨hP, hD⟩
          have hP := hPD.1
          have hD := hPD.2
          refine lv_goto (tgt := 172) hx hb d_M_read_93 (by decide) ?_
          refine lv_aload_n hx hb d_M_read_172 rfl (lv_at hl 1 rfl) ?_
          refine va_get (D := (dC, dI)) (ci := 9) (v := .int (nI is.length)) (C := "RangeCodersModel") (T := T_M) (N := 35) hx hb hg in_M hown hK hP 3 rfl rfl 20 (by decide) (hg _ k972) (fun _ h9 => h9) rfl d_M_read_173 ?_
          exact my_iret (v := nI is.length) hx hb hr (rfl) hlocks hQ hK hS (Nat.le_refl _) (Nat.le_refl _) ((1 : Int32), (0 : Int32), (0 : Int32), nI (0 + 4), (0 : Int32), r_87, (0 : Int64), (4294967295 : Int64), (0 : Int64), (0 : Int32), fN) (⟨hT9, fun _ _ => ⟨4294967295, 0, frN is 0 4, 4, hw_87, rfl, rfl, rfl, ⟨by decide, by decide, by decide, fun z9 => absurd z9 (by decide)⟩, frN_lt hoct 0 4, by omega⟩, rfl, rfl⟩) (hP.sub [3, 0, 1, 2, 4] rfl) (hD.sub [3, 0, 1, 2, 4] (by decide +kernel) rfl) d_M_read_176
      · have hjl : jj < km := by
          rcases Nat.lt_or_ge jj km with z | z
          · exact z
          · exact absurd (by rw [hmod]; exact nI_le z (by have := hMD.1; omega)) c_1
        have hk8 := hMD.1
        obtain ⟨hn9, hn2, hn64, C9, hc9, hB9⟩ := hMD.2 jj hjl
        refine lv_aload_n hx hb d_M_read_15 rfl (lv_at hl 1 rfl) ?_
        refine lv_aload_n hx hb d_M_read_16 rfl (lv_at hl 1 rfl) ?_
        refine va_get (D := (dC, dI)) (ci := 9) (v := .ref (g 3)) (C := "RangeCodersModel") (T := T_M) (N := 35) hx hb hg in_M hown hK hP 0 rfl rfl 6 (by decide) (hg _ k958) (fun _ h9 => h9) rfl d_M_read_17 ?_
        refine lv_iload_n hx hb d_M_read_20 rfl (lv_at hl 0 rfl) ?_
        refine my_cv (wr := [((g 8), Sum.inl (cI, 6000, Sum.inl vIn))]) (va_runV (As := [Value.ref (g 3), Value.int (nI jj)]) (rest := []) ⟨hx, hb, hml, hown, hts⟩ (c_M_prepare l dC dI cI cM cO H.size o g 1 fShift fModels fItems fEnded fLow fRange fCache fPend fGoes fOuts (nI is.length) fReads fBad fIR fAsk fBAsk fCode fRL fRR fX fWrites 0 vMany vCounts (g 3) fN jj (N jj) 1 C9 (by omega) (hn9) (hn64) (by omega) (by decide) (by rfl) (hc9) (hB9)) (cwV 2 hts (my_gV k928 k930 ks19 k12 k931) rfl rfl rfl cu_M_prepare_2 ⟨by rw [hR]; exact Nat.le_of_ble_eq_true rfl, by rw [hR]; exact Nat.le_of_ble_eq_true rfl⟩) (my_preV hK hN (hP.sub [0, 1, 2, 3] rfl) (hD.sub [0, 1, 2, 3] (by decide +kernel) rfl) 0 rfl rfl) rfl rfl hl.1 rfl (lv_room (Nat.le_of_ble_eq_true rfl)) d_M_read_21 ⟨by rw [hR]; exact Nat.le_of_ble_eq_true rfl, by rw [hR]; exact Nat.le_of_ble_eq_true rfl⟩) hP hD hS hA [0, 1, 2, 3] [4] rfl rfl (by decide +kernel) (by decide +kernel) (fun u9 H locs hw_21 hP hD hS => ?_)
        obtain ⟨f2_21, rfl⟩ : ∃ z, z = u9 := ⟨_, rfl⟩
        have hw_21 : sgI f2_21 (64 * jj) (pfN 1 (N jj)) (pf 1 (N jj) C9) ∧ sgO f2_21 fN (64 * jj) 64 := hw_21
        have hPD : my_PD (dC, dI) vwCl A [((g 8), Sum.inl (cI, 6000, Sum.inl vIn)), (o, Sum.inr (9, mO g 1 fShift fModels fItems fEnded fLow fRange fCache fPend fGoes fOuts (nI is.length) fReads fBad fIR fAsk fBAsk fCode fRL fRR fX fWrites 0)), ((g 0), Sum.inl (cI, 8, Sum.inl vMany)), ((g 1), Sum.inl (cI, 512, Sum.inl vCounts)), ((g 3), Sum.inl (cI, 512, Sum.inl f2_21))] H := ⟨hP, hD⟩
        have hP := hPD.1
        have hD := hPD.2
        have hT8 := TB_step hT9 (MD_N hMD) hjl hw_21.2 (tab_pf hfm hn64 (by omega) hB9 hw_21.1)
        obtain ⟨v_3, ev_3⟩ : ∃ y : Int32, y = (nI jj) + (1) := ⟨_, rfl⟩
        refine lv_iinc (v := v_3) (lv' := [(1, Value.int v_3), (0, Value.ref o)]) hx hb d_M_read_24 hl (k := 0) rfl (by rw [ev_3]; rfl) (by decide) rfl (fun ls hl => ?_)
        have z9 : v_3 = nI (jj + 1) := by rw [ev_3]; exact nI_1 _
        subst z9
        refine lv_goto (tgt := 7) hx hb d_M_read_27 (by decide) ?_
        exact ih9_7 _ (by first | omega | (omega)) (jj + 1) f2_21 rfl (by omega) (hT8) H locs ls (hP.sub [1, 2, 3, 4, 0] rfl) (hD.sub [1, 2, 3, 4, 0] (by decide +kernel) rfl) hS (lv_sub hl [0, 1] rfl)
  exact J_7 _ (0 : Nat) vThen rfl (Nat.zero_le _) (TB_0 _ _ _) H locs ls (hP.sub [0, 1, 2, 3, 4] rfl) (hD.sub [0, 1, 2, 3, 4] (by decide +kernel) rfl) hS (lv_sub hl [0, 1] rfl)
set_option maxHeartbeats 2000000 in
set_option maxRecDepth 100000 in
theorem m_read2 (l : Launch) (dC : Nat → ClassId) (dI : Nat → Nat → Nat) (cI cM cO : ClassId) (sz : Nat) (o : Nat) (g : Nat → Nat) (fForm : Int32) (fShift : Int32) (fModels : Int32) (fItems : Int32) (fEnded : Int32) (fLow : Int64) (fRange : Int64) (fCache : Int32) (fPend : Int32) (fGoes : Int32) (fOuts : Int32) (fIns : Int32) (fReads : Int32) (fBad : Int32) (fIR : Int32) (fAsk : Int32) (fBAsk : Int32) (fCode : Int64) (fRL : Int64) (fRR : Int64) (fX : Int64) (fWrites : Int32) (fThrown : Int32) (vMany : Nat → Int32) (vCounts : Nat → Int32) (vThen : Nat → Int32) (vIn : Nat → Int32) (km : Nat) (N : Nat → Nat) (cn : Nat) (hfo : fForm = 2) (hmod : fModels = nI km) (hMD : MD km N vMany vCounts) (hIN : IN fIns vIn) : MetI l y_M_read (Cond.code y_M_read prog_14_method_43_code 2 (some .int) :: gw) ({ frames := 3, cells := 0, slots := 0, locals := 75 } : Room) (dC, dI) vwCl (kT cI cM cO) [Value.ref o] [(o, Sum.inr (9, mO g fForm fShift fModels fItems fEnded fLow fRange fCache fPend fGoes fOuts fIns fReads fBad fIR fAsk fBAsk fCode fRL fRR fX fWrites fThrown)), ((g 0), Sum.inl (cI, 8, Sum.inl vMany)), ((g 1), Sum.inl (cI, 512, Sum.inl vCounts)), ((g 3), Sum.inl (cI, 512, Sum.inl vThen)), ((g 8), Sum.inl (cI, 6000, Sum.inl vIn))] sz (fun (r : Int32) (u : Int32 × Int32 × Int32 × Int32 × Int32 × Int64 × Int64 × Int64 × Int64 × Int32 × (Nat → Int32)) => TB 2 km N u.2.2.2.2.2.2.2.2.2.2 ∧ (¬ u.1 = 0 → u.2.1 = 0 → RD2 cn u.2.2.2.1 u.2.2.2.2.2.1 u.2.2.2.2.2.2.2.1) ∧ r = fIns ∧ u.1 = 1) (fun (u : Int32 × Int32 × Int32 × Int32 × Int32 × Int64 × Int64 × Int64 × Int64 × Int32 × (Nat → Int32)) => [(o, Sum.inr (9, mO g fForm fShift fModels fItems fEnded fLow fRange fCache fPend fGoes fOuts fIns u.1 u.2.1 u.2.2.1 u.2.2.2.1 u.2.2.2.2.1 u.2.2.2.2.2.1 u.2.2.2.2.2.2.1 u.2.2.2.2.2.2.2.1 u.2.2.2.2.2.2.2.2.1 fWrites u.2.2.2.2.2.2.2.2.2.1)), ((g 0), Sum.inl (cI, 8, Sum.inl vMany)), ((g 1), Sum.inl (cI, 512, Sum.inl vCounts)), ((g 3), Sum.inl (cI, 512, Sum.inl u.2.2.2.2.2.2.2.2.2.2)), ((g 8), Sum.inl (cI, 6000, Sum.inl vIn))]) 0 0 := by
  refine my_ofI (cc := prog_14_method_43_code) (n := 2) (ret := (some .int)) (by decide) rfl (Nat.le_of_ble_eq_true rfl) ?_
  intro p e s m args below meth c R Q A ls H locs hx hb hr hts hown hlocks hml hnm hR hQ hA hl hP hK hN hD hS
  have hg : ∀ w ∈ gw, w.before args s = true := fun w h => hts w (List.mem_cons_of_mem _ h)
  have hown : s.vm.findClass "RangeCodersModel" = some m.cls := hown
  have hl : lv_has ls 2 [(0, Value.ref o)] := hl
  subst hfo
  have hfm : 2 ≤ 4 := by decide
  obtain ⟨is, rfl, hIn, hlen, hoct⟩ := hIN
  have hPD : my_PD (dC, dI) vwCl A [(o, Sum.inr (9, mO g 2 fShift fModels fItems fEnded fLow fRange fCache fPend fGoes fOuts (nI is.length) fReads fBad fIR fAsk fBAsk fCode fRL fRR fX fWrites fThrown)), ((g 0), Sum.inl (cI, 8, Sum.inl vMany)), ((g 1), Sum.inl (cI, 512, Sum.inl vCounts)), ((g 3), Sum.inl (cI, 512, Sum.inl vThen)), ((g 8), Sum.inl (cI, 6000, Sum.inl vIn))] H := ⟨hP, hD⟩
  have hP := hPD.1
  have hD := hPD.2
  have hl : lv_has ls 2 [(0, Value.ref o)] := hl
  refine lv_aload_n hx hb d_M_read_0 rfl (lv_at hl 0 rfl) ?_
  refine lv_iconst (v := 0) hx hb d_M_read_1 (by decide) ?_
  refine va_put (D := (dC, dI)) (ci := 9) (v := .int 0) (ty := .int) (C := "RangeCodersModel") (T := T_M) (N := 35) hx hb hg in_M t_M o_M n_M hown hK hP hD hS 0 rfl rfl 34 (by decide) (hg _ k986) (fun _ h9 => h9) rfl (o_M 34 (by decide)) rfl rfl (Nat.le_of_ble_eq_true rfl) d_M_read_2 (fun H locs hP hD hS => ?_)
  have hPD : my_PD (dC, dI) vwCl A [(o, Sum.inr (9, mO g 2 fShift fModels fItems fEnded fLow fRange fCache fPend fGoes fOuts (nI is.length) fReads fBad fIR fAsk fBAsk fCode fRL fRR fX fWrites 0)), ((g 0), Sum.inl (cI, 8, Sum.inl vMany)), ((g 1), Sum.inl (cI, 512, Sum.inl vCounts)), ((g 3), Sum.inl (cI, 512, Sum.inl vThen)), ((g 8), Sum.inl (cI, 6000, Sum.inl vIn))] H := ⟨hP, hD⟩
  have hP := hPD.1
  have hD := hPD.2
  refine lv_iconst (v := 0) hx hb d_M_read_5 (by decide) ?_
  refine lv_istore_n (lv' := [(1, Value.int 0), (0, Value.ref o)]) hx hb d_M_read_6 rfl hl (by decide) rfl (fun ls hl => ?_)
  have J_7 : ∀ (n9_7 : Nat) (jj : Nat) (fN : Nat → Int32) (hn9_7 : km - jj = n9_7) (hjj : jj ≤ km) (hT9 : TB 2 jj N fN) (H : Heap) (locs : List Loc) (ls : Array Slot), va_P (dC, dI) vwCl [(o, Sum.inr (9, mO g 2 fShift fModels fItems fEnded fLow fRange fCache fPend fGoes fOuts (nI is.length) fReads fBad fIR fAsk fBAsk fCode fRL fRR fX fWrites 0)), ((g 0), Sum.inl (cI, 8, Sum.inl vMany)), ((g 1), Sum.inl (cI, 512, Sum.inl vCounts)), ((g 3), Sum.inl (cI, 512, Sum.inl fN)), ((g 8), Sum.inl (cI, 6000, Sum.inl vIn))] H → va_D A [(o, Sum.inr (9, mO g 2 fShift fModels fItems fEnded fLow fRange fCache fPend fGoes fOuts (nI is.length) fReads fBad fIR fAsk fBAsk fCode fRL fRR fX fWrites 0)), ((g 0), Sum.inl (cI, 8, Sum.inl vMany)), ((g 1), Sum.inl (cI, 512, Sum.inl vCounts)), ((g 3), Sum.inl (cI, 512, Sum.inl fN)), ((g 8), Sum.inl (cI, 6000, Sum.inl vIn))] → va_S A s.heap H locs → lv_has ls 2 [(1, Value.int (nI jj)), (0, Value.ref o)] → W p l e R s m args below meth c H locs 0 0 Q (F0 m 7 ls []) := by
    intro n9_7
    induction n9_7 using Nat.strongRecOn with
    | ind n9_7 ih9_7 =>
      intro jj fN hn9_7 hjj hT9 H locs ls hP hD hS hl
      refine lv_iload_n hx hb d_M_read_7 rfl (lv_at hl 0 rfl) ?_
      refine lv_aload_n hx hb d_M_read_8 rfl (lv_at hl 1 rfl) ?_
      refine va_get (D := (dC, dI)) (ci := 9) (v := .int fModels) (C := "RangeCodersModel") (T := T_M) (N := 35) hx hb hg in_M hown hK hP 0 rfl rfl 2 (by decide) (hg _ k954) (fun _ h9 => h9) rfl d_M_read_9 ?_
      refine lv_icmp_ge (tgt := 30) hx hb d_M_read_12 (by decide) (fun c_1 => ?_) (fun c_1 => ?_)
      · have hjk : jj = km := by
          have hk8 := hMD.1
          rw [hmod] at c_1
          have := (nI_cmp (by omega) (by omega)).mp c_1
          omega
        subst hjk
        refine lv_aload_n hx hb d_M_read_30 rfl (lv_at hl 1 rfl) ?_
        refine lv_iconst (v := 1) hx hb d_M_read_31 (by decide) ?_
        refine va_put (D := (dC, dI)) (ci := 9) (v := .int 1) (ty := .boolean) (C := "RangeCodersModel") (T := T_M) (N := 35) hx hb hg in_M t_M o_M n_M hown hK hP hD hS 0 rfl rfl 21 (by decide) (hg _ k973) (fun _ h9 => h9) rfl (o_M 21 (by decide)) rfl rfl (Nat.le_of_ble_eq_true rfl) d_M_read_32 (fun H locs hP hD hS => ?_)
        have hPD : my_PD (dC, dI) vwCl A [(o, Sum.inr (9, mO g 2 fShift fModels fItems fEnded fLow fRange fCache fPend fGoes fOuts (nI is.length) 1 fBad fIR fAsk fBAsk fCode fRL fRR fX fWrites 0)), ((g 0), Sum.inl (cI, 8, Sum.inl vMany)), ((g 1), Sum.inl (cI, 512, Sum.inl vCounts)), ((g 3), Sum.inl (cI, 512, Sum.inl fN)), ((g 8), Sum.inl (cI, 6000, Sum.inl vIn))] H := ⟨hP, hD⟩
        have hP := hPD.1
        have hD := hPD.2
        refine lv_aload_n hx hb d_M_read_35 rfl (lv_at hl 1 rfl) ?_
        refine lv_iconst (v := 0) hx hb d_M_read_36 (by decide) ?_
        refine va_put (D := (dC, dI)) (ci := 9) (v := .int 0) (ty := .boolean) (C := "RangeCodersModel") (T := T_M) (N := 35) hx hb hg in_M t_M o_M n_M hown hK hP hD hS 0 rfl rfl 22 (by decide) (hg _ k974) (fun _ h9 => h9) rfl (o_M 22 (by decide)) rfl rfl (Nat.le_of_ble_eq_true rfl) d_M_read_37 (fun H locs hP hD hS => ?_)
        have hPD : my_PD (dC, dI) vwCl A [(o, Sum.inr (9, mO g 2 fShift fModels fItems fEnded fLow fRange fCache fPend fGoes fOuts (nI is.length) 1 0 fIR fAsk fBAsk fCode fRL fRR fX fWrites 0)), ((g 0), Sum.inl (cI, 8, Sum.inl vMany)), ((g 1), Sum.inl (cI, 512, Sum.inl vCounts)), ((g 3), Sum.inl (cI, 512, Sum.inl fN)), ((g 8), Sum.inl (cI, 6000, Sum.inl vIn))] H := ⟨hP, hD⟩
        have hP := hPD.1
        have hD := hPD.2
        refine lv_aload_n hx hb d_M_read_40 rfl (lv_at hl 1 rfl) ?_
        refine lv_iconst (v := 0) hx hb d_M_read_41 (by decide) ?_
        refine va_put (D := (dC, dI)) (ci := 9) (v := .int 0) (ty := .int) (C := "RangeCodersModel") (T := T_M) (N := 35) hx hb hg in_M t_M o_M n_M hown hK hP hD hS 0 rfl rfl 23 (by decide) (hg _ k975) (fun _ h9 => h9) rfl (o_M 23 (by decide)) rfl rfl (Nat.le_of_ble_eq_true rfl) d_M_read_42 (fun H locs hP hD hS => ?_)
        have hPD : my_PD (dC, dI) vwCl A [(o, Sum.inr (9, mO g 2 fShift fModels fItems fEnded fLow fRange fCache fPend fGoes fOuts (nI is.length) 1 0 0 fAsk fBAsk fCode fRL fRR fX fWrites 0)), ((g 0), Sum.inl (cI, 8, Sum.inl vMany)), ((g 1), Sum.inl (cI, 512, Sum.inl vCounts)), ((g 3), Sum.inl (cI, 512, Sum.inl fN)), ((g 8), Sum.inl (cI, 6000, Sum.inl vIn))] H := ⟨hP, hD⟩
        have hP := hPD.1
        have hD := hPD.2
        refine lv_aload_n hx hb d_M_read_45 rfl (lv_at hl 1 rfl) ?_
        refine lv_iconst (v := 0) hx hb d_M_read_46 (by decide) ?_
        refine va_put (D := (dC, dI)) (ci := 9) (v := .int 0) (ty := .int) (C := "RangeCodersModel") (T := T_M) (N := 35) hx hb hg in_M t_M o_M n_M hown hK hP hD hS 0 rfl rfl 24 (by decide) (hg _ k976) (fun _ h9 => h9) rfl (o_M 24 (by decide)) rfl rfl (Nat.le_of_ble_eq_true rfl) d_M_read_47 (fun H locs hP hD hS => ?_)
        have hPD : my_PD (dC, dI) vwCl A [(o, Sum.inr (9, mO g 2 fShift fModels fItems fEnded fLow fRange fCache fPend fGoes fOuts (nI is.length) 1 0 0 0 fBAsk fCode fRL fRR fX fWrites 0)), ((g 0), Sum.inl (cI, 8, Sum.inl vMany)), ((g 1), Sum.inl (cI, 512, Sum.inl vCounts)), ((g 3), Sum.inl (cI, 512, Sum.inl fN)), ((g 8), Sum.inl (cI, 6000, Sum.inl vIn))] H := ⟨hP, hD⟩
        have hP := hPD.1
        have hD := hPD.2
        refine lv_aload_n hx hb d_M_read_50 rfl (lv_at hl 1 rfl) ?_
        refine lv_iconst (v := 0) hx hb d_M_read_51 (by decide) ?_
        refine va_put (D := (dC, dI)) (ci := 9) (v := .int 0) (ty := .int) (C := "RangeCodersModel") (T := T_M) (N := 35) hx hb hg in_M t_M o_M n_M hown hK hP hD hS 0 rfl rfl 25 (by decide) (hg _ k977) (fun _ h9 => h9) rfl (o_M 25 (by decide)) rfl rfl (Nat.le_of_ble_eq_true rfl) d_M_read_52 (fun H locs hP hD hS => ?_)
        have hPD : my_PD (dC, dI) vwCl A [(o, Sum.inr (9, mO g 2 fShift fModels fItems fEnded fLow fRange fCache fPend fGoes fOuts (nI is.length) 1 0 0 0 0 fCode fRL fRR fX fWrites 0)), ((g 0), Sum.inl (cI, 8, Sum.inl vMany)), ((g 1), Sum.inl (cI, 512, Sum.inl vCounts)), ((g 3), Sum.inl (cI, 512, Sum.inl fN)), ((g 8), Sum.inl (cI, 6000, Sum.inl vIn))] H := ⟨hP, hD⟩
        have hP := hPD.1
        have hD := hPD.2
        refine lv_aload_n hx hb d_M_read_55 rfl (lv_at hl 1 rfl) ?_
        refine lv_lconst (v := 0) hx hb d_M_read_56 (by decide) ?_
        refine va_put (D := (dC, dI)) (ci := 9) (v := .long 0) (ty := .long) (C := "RangeCodersModel") (T := T_M) (N := 35) hx hb hg in_M t_M o_M n_M hown hK hP hD hS 0 rfl rfl 26 (by decide) (hg _ k978) (fun _ h9 => h9) rfl (o_M 26 (by decide)) rfl rfl (Nat.le_of_ble_eq_true rfl) d_M_read_57 (fun H locs hP hD hS => ?_)
        have hPD : my_PD (dC, dI) vwCl A [(o, Sum.inr (9, mO g 2 fShift fModels fItems fEnded fLow fRange fCache fPend fGoes fOuts (nI is.length) 1 0 0 0 0 0 fRL fRR fX fWrites 0)), ((g 0), Sum.inl (cI, 8, Sum.inl vMany)), ((g 1), Sum.inl (cI, 512, Sum.inl vCounts)), ((g 3), Sum.inl (cI, 512, Sum.inl fN)), ((g 8), Sum.inl (cI, 6000, Sum.inl vIn))] H := ⟨hP, hD⟩
        have hP := hPD.1
        have hD := hPD.2
        refine lv_aload_n hx hb d_M_read_60 rfl (lv_at hl 1 rfl) ?_
        refine lv_lconst (v := 0) hx hb d_M_read_61 (by decide) ?_
        refine va_put (D := (dC, dI)) (ci := 9) (v := .long 0) (ty := .long) (C := "RangeCodersModel") (T := T_M) (N := 35) hx hb hg in_M t_M o_M n_M hown hK hP hD hS 0 rfl rfl 27 (by decide) (hg _ k979) (fun _ h9 => h9) rfl (o_M 27 (by decide)) rfl rfl (Nat.le_of_ble_eq_true rfl) d_M_read_62 (fun H locs hP hD hS => ?_)
        have hPD : my_PD (dC, dI) vwCl A [(o, Sum.inr (9, mO g 2 fShift fModels fItems fEnded fLow fRange fCache fPend fGoes fOuts (nI is.length) 1 0 0 0 0 0 0 fRR fX fWrites 0)), ((g 0), Sum.inl (cI, 8, Sum.inl vMany)), ((g 1), Sum.inl (cI, 512, Sum.inl vCounts)), ((g 3), Sum.inl (cI, 512, Sum.inl fN)), ((g 8), Sum.inl (cI, 6000, Sum.inl vIn))] H := ⟨hP, hD⟩
        have hP := hPD.1
        have hD := hPD.2
        refine lv_aload_n hx hb d_M_read_65 rfl (lv_at hl 1 rfl) ?_
        refine lv_ldc2 (v := 4294967295) hx hb hown (hg _ k927) d_M_read_66 ?_
        refine va_put (D := (dC, dI)) (ci := 9) (v := .long 4294967295) (ty := .long) (C := "RangeCodersModel") (T := T_M) (N := 35) hx hb hg in_M t_M o_M n_M hown hK hP hD hS 0 rfl rfl 28 (by decide) (hg _ k980) (fun _ h9 => h9) rfl (o_M 28 (by decide)) rfl rfl (Nat.le_of_ble_eq_true rfl) d_M_read_69 (fun H locs hP hD hS => ?_)
        have hPD : my_PD (dC, dI) vwCl A [(o, Sum.inr (9, mO g 2 fShift fModels fItems fEnded fLow fRange fCache fPend fGoes fOuts (nI is.length) 1 0 0 0 0 0 0 4294967295 fX fWrites 0)), ((g 0), Sum.inl (cI, 8, Sum.inl vMany)), ((g 1), Sum.inl (cI, 512, Sum.inl vCounts)), ((g 3), Sum.inl (cI, 512, Sum.inl fN)), ((g 8), Sum.inl (cI, 6000, Sum.inl vIn))] H := ⟨hP, hD⟩
        have hP := hPD.1
        have hD := hPD.2
        refine lv_aload_n hx hb d_M_read_72 rfl (lv_at hl 1 rfl) ?_
        refine lv_lconst (v := 0) hx hb d_M_read_73 (by decide) ?_
        refine va_put (D := (dC, dI)) (ci := 9) (v := .long 0) (ty := .long) (C := "RangeCodersModel") (T := T_M) (N := 35) hx hb hg in_M t_M o_M n_M hown hK hP hD hS 0 rfl rfl 29 (by decide) (hg _ k981) (fun _ h9 => h9) rfl (o_M 29 (by decide)) rfl rfl (Nat.le_of_ble_eq_true rfl) d_M_read_74 (fun H locs hP hD hS => ?_)
        have hPD : my_PD (dC, dI) vwCl A [(o, Sum.inr (9, mO g 2 fShift fModels fItems fEnded fLow fRange fCache fPend fGoes fOuts (nI is.length) 1 0 0 0 0 0 0 4294967295 0 fWrites 0)), ((g 0), Sum.inl (cI, 8, Sum.inl vMany)), ((g 1), Sum.inl (cI, 512, Sum.inl vCounts)), ((g 3), Sum.inl (cI, 512, Sum.inl fN)), ((g 8), Sum.inl (cI, 6000, Sum.inl vIn))] H := ⟨hP, hD⟩
        have hP := hPD.1
        have hD := hPD.2
        refine lv_aload_n hx hb d_M_read_77 rfl (lv_at hl 1 rfl) ?_
        refine va_get (D := (dC, dI)) (ci := 9) (v := .int 2) (C := "RangeCodersModel") (T := T_M) (N := 35) hx hb hg in_M hown hK hP 0 rfl rfl 0 (by decide) (hg _ k952) (fun _ h9 => h9) rfl d_M_read_78 ?_
        refine lv_iconst (v := 3) hx hb d_M_read_81 (by decide) ?_
        refine lv_icmp_ge (tgt := 96) hx hb d_M_read_82 (by decide) (fun c_2 => ?_) (fun c_2 => ?_)
        · exact absurd c_2 (by decide)
        · refine lv_aload_n hx hb d_M_read_85 rfl (lv_at hl 1 rfl) ?_
          refine lv_aload_n hx hb d_M_read_86 rfl (lv_at hl 1 rfl) ?_
          refine my_cl (wr := [((g 0), Sum.inl (cI, 8, Sum.inl vMany)), ((g 1), Sum.inl (cI, 512, Sum.inl vCounts)), ((g 3), Sum.inl (cI, 512, Sum.inl fN))]) (va_runV (As := []) (rest := [Value.ref o]) ⟨hx, hb, hml, hown, hts⟩ (c_M_four l dC dI cI cM cO H.size o g 2 fShift fModels fItems fEnded fLow fRange fCache fPend fGoes fOuts 1 0 0 0 0 0 4294967295 0 fWrites 0 vIn is 0 (hIn) (hlen) (hoct) (by decide)) (cwV 0 hts (my_gV k1190 k1192 ks44 k12 k1193) rfl rfl rfl cu_M_four_0 ⟨by rw [hR]; exact Nat.le_of_ble_eq_true rfl, by rw [hR]; exact Nat.le_of_ble_eq_true rfl⟩) (my_preV hK hN (hP.sub [0, 4] rfl) (hD.sub [0, 4] (by decide +kernel) rfl) 0 rfl rfl) rfl rfl hl.1 rfl (lv_room (Nat.le_of_ble_eq_true rfl)) d_M_read_87 ⟨by rw [hR]; exact Nat.le_of_ble_eq_true rfl, by rw [hR]; exact Nat.le_of_ble_eq_true rfl⟩) hP hD hS hA [0, 4] [1, 2, 3] rfl rfl (by decide +kernel) (by decide +kernel) (fun r_87 u9 H locs hw_87 hP hD hS => ?_)
          have hw_87 : r_87 = lN (frN is 0 4) := hw_87
          have hPD : my_PD (dC, dI) vwCl A [((g 0), Sum.inl (cI, 8, Sum.inl vMany)), ((g 1), Sum.inl (cI, 512, Sum.inl vCounts)), ((g 3), Sum.inl (cI, 512, Sum.inl fN)), (o, Sum.inr (9, mO g 2 fShift fModels fItems fEnded fLow fRange fCache fPend fGoes fOuts (nI is.length) 1 0 0 (nI (0 + 4)) 0 0 0 4294967295 0 fWrites 0)), ((g 8), Sum.inl (cI, 6000, Sum.inl vIn))] H := ⟨hP, hD⟩
          have hP := hPD.1
          have hD := hPD.2
          refine va_put (D := (dC, dI)) (ci := 9) (v := .long r_87) (ty := .long) (C := "RangeCodersModel") (T := T_M) (N := 35) hx hb hg in_M t_M o_M n_M hown hK hP hD hS 3 rfl rfl 26 (by decide) (hg _ k978) (fun _ h9 => h9) rfl (o_M 26 (by decide)) rfl rfl (Nat.le_of_ble_eq_true rfl) d_M_read_90 (fun H locs hP hD hS => ?_)
          have hPD : my_PD (dC, dI) vwCl A [((g 0), Sum.inl (cI, 8, Sum.inl vMany)), ((g 1), Sum.inl (cI, 512, Sum.inl vCounts)), ((g 3), Sum.inl (cI, 512, Sum.inl fN)), (o, Sum.inr (9, mO g 2 fShift fModels fItems fEnded fLow fRange fCache fPend fGoes fOuts (nI is.length) 1 0 0 (nI (0 + 4)) 0 r_87 0 4294967295 0 fWrites 0)), ((g 8), Sum.inl (cI, 6000, Sum.inl vIn))] H := ⟨hP, hD⟩
          have hP := hPD.1
          have hD := hPD.2
          refine lv_goto (tgt := 172) hx hb d_M_read_93 (by decide) ?_
          refine lv_aload_n hx hb d_M_read_172 rfl (lv_at hl 1 rfl) ?_
          refine va_get (D := (dC, dI)) (ci := 9) (v := .int (nI is.length)) (C := "RangeCodersModel") (T := T_M) (N := 35) hx hb hg in_M hown hK hP 3 rfl rfl 20 (by decide) (hg _ k972) (fun _ h9 => h9) rfl d_M_read_173 ?_
          exact my_iret (v := nI is.length) hx hb hr (rfl) hlocks hQ hK hS (Nat.le_refl _) (Nat.le_refl _) ((1 : Int32), (0 : Int32), (0 : Int32), nI (0 + 4), (0 : Int32), r_87, (0 : Int64), (4294967295 : Int64), (0 : Int64), (0 : Int32), fN) (⟨hT9, fun _ _ => ⟨4294967295, frN is 0 4, 4, hw_87, rfl, rfl, ⟨(show 16777216 ≤ 4294967295 by decide), (show 4294967295 < 4294967296 by decide), frN_lt hoct 0 4⟩, by omega⟩, rfl, rfl⟩) (hP.sub [3, 0, 1, 2, 4] rfl) (hD.sub [3, 0, 1, 2, 4] (by decide +kernel) rfl) d_M_read_176
      · have hjl : jj < km := by
          rcases Nat.lt_or_ge jj km with z | z
          · exact z
          · exact absurd (by rw [hmod]; exact nI_le z (by have := hMD.1; omega)) c_1
        have hk8 := hMD.1
        obtain ⟨hn9, hn2, hn64, C9, hc9, hB9⟩ := hMD.2 jj hjl
        refine lv_aload_n hx hb d_M_read_15 rfl (lv_at hl 1 rfl) ?_
        refine lv_aload_n hx hb d_M_read_16 rfl (lv_at hl 1 rfl) ?_
        refine va_get (D := (dC, dI)) (ci := 9) (v := .ref (g 3)) (C := "RangeCodersModel") (T := T_M) (N := 35) hx hb hg in_M hown hK hP 0 rfl rfl 6 (by decide) (hg _ k958) (fun _ h9 => h9) rfl d_M_read_17 ?_
        refine lv_iload_n hx hb d_M_read_20 rfl (lv_at hl 0 rfl) ?_
        refine my_cv (wr := [((g 8), Sum.inl (cI, 6000, Sum.inl vIn))]) (va_runV (As := [Value.ref (g 3), Value.int (nI jj)]) (rest := []) ⟨hx, hb, hml, hown, hts⟩ (c_M_prepare l dC dI cI cM cO H.size o g 2 fShift fModels fItems fEnded fLow fRange fCache fPend fGoes fOuts (nI is.length) fReads fBad fIR fAsk fBAsk fCode fRL fRR fX fWrites 0 vMany vCounts (g 3) fN jj (N jj) 2 C9 (by omega) (hn9) (hn64) (by omega) (by decide) (by rfl) (hc9) (hB9)) (cwV 2 hts (my_gV k928 k930 ks19 k12 k931) rfl rfl rfl cu_M_prepare_2 ⟨by rw [hR]; exact Nat.le_of_ble_eq_true rfl, by rw [hR]; exact Nat.le_of_ble_eq_true rfl⟩) (my_preV hK hN (hP.sub [0, 1, 2, 3] rfl) (hD.sub [0, 1, 2, 3] (by decide +kernel) rfl) 0 rfl rfl) rfl rfl hl.1 rfl (lv_room (Nat.le_of_ble_eq_true rfl)) d_M_read_21 ⟨by rw [hR]; exact Nat.le_of_ble_eq_true rfl, by rw [hR]; exact Nat.le_of_ble_eq_true rfl⟩) hP hD hS hA [0, 1, 2, 3] [4] rfl rfl (by decide +kernel) (by decide +kernel) (fun u9 H locs hw_21 hP hD hS => ?_)
        obtain ⟨f2_21, rfl⟩ : ∃ z, z = u9 := ⟨_, rfl⟩
        have hw_21 : sgI f2_21 (64 * jj) (pfN 2 (N jj)) (pf 2 (N jj) C9) ∧ sgO f2_21 fN (64 * jj) 64 := hw_21
        have hPD : my_PD (dC, dI) vwCl A [((g 8), Sum.inl (cI, 6000, Sum.inl vIn)), (o, Sum.inr (9, mO g 2 fShift fModels fItems fEnded fLow fRange fCache fPend fGoes fOuts (nI is.length) fReads fBad fIR fAsk fBAsk fCode fRL fRR fX fWrites 0)), ((g 0), Sum.inl (cI, 8, Sum.inl vMany)), ((g 1), Sum.inl (cI, 512, Sum.inl vCounts)), ((g 3), Sum.inl (cI, 512, Sum.inl f2_21))] H := ⟨hP, hD⟩
        have hP := hPD.1
        have hD := hPD.2
        have hT8 := TB_step hT9 (MD_N hMD) hjl hw_21.2 (tab_pf hfm hn64 (by omega) hB9 hw_21.1)
        obtain ⟨v_3, ev_3⟩ : ∃ y : Int32, y = (nI jj) + (1) := ⟨_, rfl⟩
        refine lv_iinc (v := v_3) (lv' := [(1, Value.int v_3), (0, Value.ref o)]) hx hb d_M_read_24 hl (k := 0) rfl (by rw [ev_3]; rfl) (by decide) rfl (fun ls hl => ?_)
        have z9 : v_3 = nI (jj + 1) := by rw [ev_3]; exact nI_1 _
        subst z9
        refine lv_goto (tgt := 7) hx hb d_M_read_27 (by decide) ?_
        exact ih9_7 _ (by first | omega | (omega)) (jj + 1) f2_21 rfl (by omega) (hT8) H locs ls (hP.sub [1, 2, 3, 4, 0] rfl) (hD.sub [1, 2, 3, 4, 0] (by decide +kernel) rfl) hS (lv_sub hl [0, 1] rfl)
  exact J_7 _ (0 : Nat) vThen rfl (Nat.zero_le _) (TB_0 _ _ _) H locs ls (hP.sub [0, 1, 2, 3, 4] rfl) (hD.sub [0, 1, 2, 3, 4] (by decide +kernel) rfl) hS (lv_sub hl [0, 1] rfl)
set_option maxHeartbeats 2000000 in
set_option maxRecDepth 100000 in
theorem m_read3 (l : Launch) (dC : Nat → ClassId) (dI : Nat → Nat → Nat) (cI cM cO : ClassId) (sz : Nat) (o : Nat) (g : Nat → Nat) (fForm : Int32) (fShift : Int32) (fModels : Int32) (fItems : Int32) (fEnded : Int32) (fLow : Int64) (fRange : Int64) (fCache : Int32) (fPend : Int32) (fGoes : Int32) (fOuts : Int32) (fIns : Int32) (fReads : Int32) (fBad : Int32) (fIR : Int32) (fAsk : Int32) (fBAsk : Int32) (fCode : Int64) (fRL : Int64) (fRR : Int64) (fX : Int64) (fWrites : Int32) (fThrown : Int32) (vMany : Nat → Int32) (vCounts : Nat → Int32) (vThen : Nat → Int32) (vIn : Nat → Int32) (km : Nat) (N : Nat → Nat) (cn : Nat) (hfo : fForm = 3) (hmod : fModels = nI km) (hMD : MD km N vMany vCounts) (hIN : IN fIns vIn) : MetI l y_M_read (Cond.code y_M_read prog_14_method_43_code 2 (some .int) :: gw) ({ frames := 3, cells := 0, slots := 0, locals := 75 } : Room) (dC, dI) vwCl (kT cI cM cO) [Value.ref o] [(o, Sum.inr (9, mO g fForm fShift fModels fItems fEnded fLow fRange fCache fPend fGoes fOuts fIns fReads fBad fIR fAsk fBAsk fCode fRL fRR fX fWrites fThrown)), ((g 0), Sum.inl (cI, 8, Sum.inl vMany)), ((g 1), Sum.inl (cI, 512, Sum.inl vCounts)), ((g 3), Sum.inl (cI, 512, Sum.inl vThen)), ((g 8), Sum.inl (cI, 6000, Sum.inl vIn))] sz (fun (r : Int32) (u : Int32 × Int32 × Int32 × Int32 × Int32 × Int64 × Int64 × Int64 × Int64 × Int32 × (Nat → Int32)) => TB 3 km N u.2.2.2.2.2.2.2.2.2.2 ∧ (¬ u.1 = 0 → u.2.1 = 0 → RD3 cn u.2.2.2.1 u.2.2.2.2.2.2.2.2.1) ∧ r = fIns ∧ u.1 = 1) (fun (u : Int32 × Int32 × Int32 × Int32 × Int32 × Int64 × Int64 × Int64 × Int64 × Int32 × (Nat → Int32)) => [(o, Sum.inr (9, mO g fForm fShift fModels fItems fEnded fLow fRange fCache fPend fGoes fOuts fIns u.1 u.2.1 u.2.2.1 u.2.2.2.1 u.2.2.2.2.1 u.2.2.2.2.2.1 u.2.2.2.2.2.2.1 u.2.2.2.2.2.2.2.1 u.2.2.2.2.2.2.2.2.1 fWrites u.2.2.2.2.2.2.2.2.2.1)), ((g 0), Sum.inl (cI, 8, Sum.inl vMany)), ((g 1), Sum.inl (cI, 512, Sum.inl vCounts)), ((g 3), Sum.inl (cI, 512, Sum.inl u.2.2.2.2.2.2.2.2.2.2)), ((g 8), Sum.inl (cI, 6000, Sum.inl vIn))]) 0 0 := by
  refine my_ofI (cc := prog_14_method_43_code) (n := 2) (ret := (some .int)) (by decide) rfl (Nat.le_of_ble_eq_true rfl) ?_
  intro p e s m args below meth c R Q A ls H locs hx hb hr hts hown hlocks hml hnm hR hQ hA hl hP hK hN hD hS
  have hg : ∀ w ∈ gw, w.before args s = true := fun w h => hts w (List.mem_cons_of_mem _ h)
  have hown : s.vm.findClass "RangeCodersModel" = some m.cls := hown
  have hl : lv_has ls 2 [(0, Value.ref o)] := hl
  subst hfo
  have hfm : 3 ≤ 4 := by decide
  obtain ⟨is, rfl, hIn, hlen, hoct⟩ := hIN
  have hPD : my_PD (dC, dI) vwCl A [(o, Sum.inr (9, mO g 3 fShift fModels fItems fEnded fLow fRange fCache fPend fGoes fOuts (nI is.length) fReads fBad fIR fAsk fBAsk fCode fRL fRR fX fWrites fThrown)), ((g 0), Sum.inl (cI, 8, Sum.inl vMany)), ((g 1), Sum.inl (cI, 512, Sum.inl vCounts)), ((g 3), Sum.inl (cI, 512, Sum.inl vThen)), ((g 8), Sum.inl (cI, 6000, Sum.inl vIn))] H := ⟨hP, hD⟩
  have hP := hPD.1
  have hD := hPD.2
  have hl : lv_has ls 2 [(0, Value.ref o)] := hl
  refine lv_aload_n hx hb d_M_read_0 rfl (lv_at hl 0 rfl) ?_
  refine lv_iconst (v := 0) hx hb d_M_read_1 (by decide) ?_
  refine va_put (D := (dC, dI)) (ci := 9) (v := .int 0) (ty := .int) (C := "RangeCodersModel") (T := T_M) (N := 35) hx hb hg in_M t_M o_M n_M hown hK hP hD hS 0 rfl rfl 34 (by decide) (hg _ k986) (fun _ h9 => h9) rfl (o_M 34 (by decide)) rfl rfl (Nat.le_of_ble_eq_true rfl) d_M_read_2 (fun H locs hP hD hS => ?_)
  have hPD : my_PD (dC, dI) vwCl A [(o, Sum.inr (9, mO g 3 fShift fModels fItems fEnded fLow fRange fCache fPend fGoes fOuts (nI is.length) fReads fBad fIR fAsk fBAsk fCode fRL fRR fX fWrites 0)), ((g 0), Sum.inl (cI, 8, Sum.inl vMany)), ((g 1), Sum.inl (cI, 512, Sum.inl vCounts)), ((g 3), Sum.inl (cI, 512, Sum.inl vThen)), ((g 8), Sum.inl (cI, 6000, Sum.inl vIn))] H := ⟨hP, hD⟩
  have hP := hPD.1
  have hD := hPD.2
  refine lv_iconst (v := 0) hx hb d_M_read_5 (by decide) ?_
  refine lv_istore_n (lv' := [(1, Value.int 0), (0, Value.ref o)]) hx hb d_M_read_6 rfl hl (by decide) rfl (fun ls hl => ?_)
  have J_7 : ∀ (n9_7 : Nat) (jj : Nat) (fN : Nat → Int32) (hn9_7 : km - jj = n9_7) (hjj : jj ≤ km) (hT9 : TB 3 jj N fN) (H : Heap) (locs : List Loc) (ls : Array Slot), va_P (dC, dI) vwCl [(o, Sum.inr (9, mO g 3 fShift fModels fItems fEnded fLow fRange fCache fPend fGoes fOuts (nI is.length) fReads fBad fIR fAsk fBAsk fCode fRL fRR fX fWrites 0)), ((g 0), Sum.inl (cI, 8, Sum.inl vMany)), ((g 1), Sum.inl (cI, 512, Sum.inl vCounts)), ((g 3), Sum.inl (cI, 512, Sum.inl fN)), ((g 8), Sum.inl (cI, 6000, Sum.inl vIn))] H → va_D A [(o, Sum.inr (9, mO g 3 fShift fModels fItems fEnded fLow fRange fCache fPend fGoes fOuts (nI is.length) fReads fBad fIR fAsk fBAsk fCode fRL fRR fX fWrites 0)), ((g 0), Sum.inl (cI, 8, Sum.inl vMany)), ((g 1), Sum.inl (cI, 512, Sum.inl vCounts)), ((g 3), Sum.inl (cI, 512, Sum.inl fN)), ((g 8), Sum.inl (cI, 6000, Sum.inl vIn))] → va_S A s.heap H locs → lv_has ls 2 [(1, Value.int (nI jj)), (0, Value.ref o)] → W p l e R s m args below meth c H locs 0 0 Q (F0 m 7 ls []) := by
    intro n9_7
    induction n9_7 using Nat.strongRecOn with
    | ind n9_7 ih9_7 =>
      intro jj fN hn9_7 hjj hT9 H locs ls hP hD hS hl
      refine lv_iload_n hx hb d_M_read_7 rfl (lv_at hl 0 rfl) ?_
      refine lv_aload_n hx hb d_M_read_8 rfl (lv_at hl 1 rfl) ?_
      refine va_get (D := (dC, dI)) (ci := 9) (v := .int fModels) (C := "RangeCodersModel") (T := T_M) (N := 35) hx hb hg in_M hown hK hP 0 rfl rfl 2 (by decide) (hg _ k954) (fun _ h9 => h9) rfl d_M_read_9 ?_
      refine lv_icmp_ge (tgt := 30) hx hb d_M_read_12 (by decide) (fun c_1 => ?_) (fun c_1 => ?_)
      · have hjk : jj = km := by
          have hk8 := hMD.1
          rw [hmod] at c_1
          have := (nI_cmp (by omega) (by omega)).mp c_1
          omega
        subst hjk
        refine lv_aload_n hx hb d_M_read_30 rfl (lv_at hl 1 rfl) ?_
        refine lv_iconst (v := 1) hx hb d_M_read_31 (by decide) ?_
        refine va_put (D := (dC, dI)) (ci := 9) (v := .int 1) (ty := .boolean) (C := "RangeCodersModel") (T := T_M) (N := 35) hx hb hg in_M t_M o_M n_M hown hK hP hD hS 0 rfl rfl 21 (by decide) (hg _ k973) (fun _ h9 => h9) rfl (o_M 21 (by decide)) rfl rfl (Nat.le_of_ble_eq_true rfl) d_M_read_32 (fun H locs hP hD hS => ?_)
        have hPD : my_PD (dC, dI) vwCl A [(o, Sum.inr (9, mO g 3 fShift fModels fItems fEnded fLow fRange fCache fPend fGoes fOuts (nI is.length) 1 fBad fIR fAsk fBAsk fCode fRL fRR fX fWrites 0)), ((g 0), Sum.inl (cI, 8, Sum.inl vMany)), ((g 1), Sum.inl (cI, 512, Sum.inl vCounts)), ((g 3), Sum.inl (cI, 512, Sum.inl fN)), ((g 8), Sum.inl (cI, 6000, Sum.inl vIn))] H := ⟨hP, hD⟩
        have hP := hPD.1
        have hD := hPD.2
        refine lv_aload_n hx hb d_M_read_35 rfl (lv_at hl 1 rfl) ?_
        refine lv_iconst (v := 0) hx hb d_M_read_36 (by decide) ?_
        refine va_put (D := (dC, dI)) (ci := 9) (v := .int 0) (ty := .boolean) (C := "RangeCodersModel") (T := T_M) (N := 35) hx hb hg in_M t_M o_M n_M hown hK hP hD hS 0 rfl rfl 22 (by decide) (hg _ k974) (fun _ h9 => h9) rfl (o_M 22 (by decide)) rfl rfl (Nat.le_of_ble_eq_true rfl) d_M_read_37 (fun H locs hP hD hS => ?_)
        have hPD : my_PD (dC, dI) vwCl A [(o, Sum.inr (9, mO g 3 fShift fModels fItems fEnded fLow fRange fCache fPend fGoes fOuts (nI is.length) 1 0 fIR fAsk fBAsk fCode fRL fRR fX fWrites 0)), ((g 0), Sum.inl (cI, 8, Sum.inl vMany)), ((g 1), Sum.inl (cI, 512, Sum.inl vCounts)), ((g 3), Sum.inl (cI, 512, Sum.inl fN)), ((g 8), Sum.inl (cI, 6000, Sum.inl vIn))] H := ⟨hP, hD⟩
        have hP := hPD.1
        have hD := hPD.2
        refine lv_aload_n hx hb d_M_read_40 rfl (lv_at hl 1 rfl) ?_
        refine lv_iconst (v := 0) hx hb d_M_read_41 (by decide) ?_
        refine va_put (D := (dC, dI)) (ci := 9) (v := .int 0) (ty := .int) (C := "RangeCodersModel") (T := T_M) (N := 35) hx hb hg in_M t_M o_M n_M hown hK hP hD hS 0 rfl rfl 23 (by decide) (hg _ k975) (fun _ h9 => h9) rfl (o_M 23 (by decide)) rfl rfl (Nat.le_of_ble_eq_true rfl) d_M_read_42 (fun H locs hP hD hS => ?_)
        have hPD : my_PD (dC, dI) vwCl A [(o, Sum.inr (9, mO g 3 fShift fModels fItems fEnded fLow fRange fCache fPend fGoes fOuts (nI is.length) 1 0 0 fAsk fBAsk fCode fRL fRR fX fWrites 0)), ((g 0), Sum.inl (cI, 8, Sum.inl vMany)), ((g 1), Sum.inl (cI, 512, Sum.inl vCounts)), ((g 3), Sum.inl (cI, 512, Sum.inl fN)), ((g 8), Sum.inl (cI, 6000, Sum.inl vIn))] H := ⟨hP, hD⟩
        have hP := hPD.1
        have hD := hPD.2
        refine lv_aload_n hx hb d_M_read_45 rfl (lv_at hl 1 rfl) ?_
        refine lv_iconst (v := 0) hx hb d_M_read_46 (by decide) ?_
        refine va_put (D := (dC, dI)) (ci := 9) (v := .int 0) (ty := .int) (C := "RangeCodersModel") (T := T_M) (N := 35) hx hb hg in_M t_M o_M n_M hown hK hP hD hS 0 rfl rfl 24 (by decide) (hg _ k976) (fun _ h9 => h9) rfl (o_M 24 (by decide)) rfl rfl (Nat.le_of_ble_eq_true rfl) d_M_read_47 (fun H locs hP hD hS => ?_)
        have hPD : my_PD (dC, dI) vwCl A [(o, Sum.inr (9, mO g 3 fShift fModels fItems fEnded fLow fRange fCache fPend fGoes fOuts (nI is.length) 1 0 0 0 fBAsk fCode fRL fRR fX fWrites 0)), ((g 0), Sum.inl (cI, 8, Sum.inl vMany)), ((g 1), Sum.inl (cI, 512, Sum.inl vCounts)), ((g 3), Sum.inl (cI, 512, Sum.inl fN)), ((g 8), Sum.inl (cI, 6000, Sum.inl vIn))] H := ⟨hP, hD⟩
        have hP := hPD.1
        have hD := hPD.2
        refine lv_aload_n hx hb d_M_read_50 rfl (lv_at hl 1 rfl) ?_
        refine lv_iconst (v := 0) hx hb d_M_read_51 (by decide) ?_
        refine va_put (D := (dC, dI)) (ci := 9) (v := .int 0) (ty := .int) (C := "RangeCodersModel") (T := T_M) (N := 35) hx hb hg in_M t_M o_M n_M hown hK hP hD hS 0 rfl rfl 25 (by decide) (hg _ k977) (fun _ h9 => h9) rfl (o_M 25 (by decide)) rfl rfl (Nat.le_of_ble_eq_true rfl) d_M_read_52 (fun H locs hP hD hS => ?_)
        have hPD : my_PD (dC, dI) vwCl A [(o, Sum.inr (9, mO g 3 fShift fModels fItems fEnded fLow fRange fCache fPend fGoes fOuts (nI is.length) 1 0 0 0 0 fCode fRL fRR fX fWrites 0)), ((g 0), Sum.inl (cI, 8, Sum.inl vMany)), ((g 1), Sum.inl (cI, 512, Sum.inl vCounts)), ((g 3), Sum.inl (cI, 512, Sum.inl fN)), ((g 8), Sum.inl (cI, 6000, Sum.inl vIn))] H := ⟨hP, hD⟩
        have hP := hPD.1
        have hD := hPD.2
        refine lv_aload_n hx hb d_M_read_55 rfl (lv_at hl 1 rfl) ?_
        refine lv_lconst (v := 0) hx hb d_M_read_56 (by decide) ?_
        refine va_put (D := (dC, dI)) (ci := 9) (v := .long 0) (ty := .long) (C := "RangeCodersModel") (T := T_M) (N := 35) hx hb hg in_M t_M o_M n_M hown hK hP hD hS 0 rfl rfl 26 (by decide) (hg _ k978) (fun _ h9 => h9) rfl (o_M 26 (by decide)) rfl rfl (Nat.le_of_ble_eq_true rfl) d_M_read_57 (fun H locs hP hD hS => ?_)
        have hPD : my_PD (dC, dI) vwCl A [(o, Sum.inr (9, mO g 3 fShift fModels fItems fEnded fLow fRange fCache fPend fGoes fOuts (nI is.length) 1 0 0 0 0 0 fRL fRR fX fWrites 0)), ((g 0), Sum.inl (cI, 8, Sum.inl vMany)), ((g 1), Sum.inl (cI, 512, Sum.inl vCounts)), ((g 3), Sum.inl (cI, 512, Sum.inl fN)), ((g 8), Sum.inl (cI, 6000, Sum.inl vIn))] H := ⟨hP, hD⟩
        have hP := hPD.1
        have hD := hPD.2
        refine lv_aload_n hx hb d_M_read_60 rfl (lv_at hl 1 rfl) ?_
        refine lv_lconst (v := 0) hx hb d_M_read_61 (by decide) ?_
        refine va_put (D := (dC, dI)) (ci := 9) (v := .long 0) (ty := .long) (C := "RangeCodersModel") (T := T_M) (N := 35) hx hb hg in_M t_M o_M n_M hown hK hP hD hS 0 rfl rfl 27 (by decide) (hg _ k979) (fun _ h9 => h9) rfl (o_M 27 (by decide)) rfl rfl (Nat.le_of_ble_eq_true rfl) d_M_read_62 (fun H locs hP hD hS => ?_)
        have hPD : my_PD (dC, dI) vwCl A [(o, Sum.inr (9, mO g 3 fShift fModels fItems fEnded fLow fRange fCache fPend fGoes fOuts (nI is.length) 1 0 0 0 0 0 0 fRR fX fWrites 0)), ((g 0), Sum.inl (cI, 8, Sum.inl vMany)), ((g 1), Sum.inl (cI, 512, Sum.inl vCounts)), ((g 3), Sum.inl (cI, 512, Sum.inl fN)), ((g 8), Sum.inl (cI, 6000, Sum.inl vIn))] H := ⟨hP, hD⟩
        have hP := hPD.1
        have hD := hPD.2
        refine lv_aload_n hx hb d_M_read_65 rfl (lv_at hl 1 rfl) ?_
        refine lv_ldc2 (v := 4294967295) hx hb hown (hg _ k927) d_M_read_66 ?_
        refine va_put (D := (dC, dI)) (ci := 9) (v := .long 4294967295) (ty := .long) (C := "RangeCodersModel") (T := T_M) (N := 35) hx hb hg in_M t_M o_M n_M hown hK hP hD hS 0 rfl rfl 28 (by decide) (hg _ k980) (fun _ h9 => h9) rfl (o_M 28 (by decide)) rfl rfl (Nat.le_of_ble_eq_true rfl) d_M_read_69 (fun H locs hP hD hS => ?_)
        have hPD : my_PD (dC, dI) vwCl A [(o, Sum.inr (9, mO g 3 fShift fModels fItems fEnded fLow fRange fCache fPend fGoes fOuts (nI is.length) 1 0 0 0 0 0 0 4294967295 fX fWrites 0)), ((g 0), Sum.inl (cI, 8, Sum.inl vMany)), ((g 1), Sum.inl (cI, 512, Sum.inl vCounts)), ((g 3), Sum.inl (cI, 512, Sum.inl fN)), ((g 8), Sum.inl (cI, 6000, Sum.inl vIn))] H := ⟨hP, hD⟩
        have hP := hPD.1
        have hD := hPD.2
        refine lv_aload_n hx hb d_M_read_72 rfl (lv_at hl 1 rfl) ?_
        refine lv_lconst (v := 0) hx hb d_M_read_73 (by decide) ?_
        refine va_put (D := (dC, dI)) (ci := 9) (v := .long 0) (ty := .long) (C := "RangeCodersModel") (T := T_M) (N := 35) hx hb hg in_M t_M o_M n_M hown hK hP hD hS 0 rfl rfl 29 (by decide) (hg _ k981) (fun _ h9 => h9) rfl (o_M 29 (by decide)) rfl rfl (Nat.le_of_ble_eq_true rfl) d_M_read_74 (fun H locs hP hD hS => ?_)
        have hPD : my_PD (dC, dI) vwCl A [(o, Sum.inr (9, mO g 3 fShift fModels fItems fEnded fLow fRange fCache fPend fGoes fOuts (nI is.length) 1 0 0 0 0 0 0 4294967295 0 fWrites 0)), ((g 0), Sum.inl (cI, 8, Sum.inl vMany)), ((g 1), Sum.inl (cI, 512, Sum.inl vCounts)), ((g 3), Sum.inl (cI, 512, Sum.inl fN)), ((g 8), Sum.inl (cI, 6000, Sum.inl vIn))] H := ⟨hP, hD⟩
        have hP := hPD.1
        have hD := hPD.2
        refine lv_aload_n hx hb d_M_read_77 rfl (lv_at hl 1 rfl) ?_
        refine va_get (D := (dC, dI)) (ci := 9) (v := .int 3) (C := "RangeCodersModel") (T := T_M) (N := 35) hx hb hg in_M hown hK hP 0 rfl rfl 0 (by decide) (hg _ k952) (fun _ h9 => h9) rfl d_M_read_78 ?_
        refine lv_iconst (v := 3) hx hb d_M_read_81 (by decide) ?_
        refine lv_icmp_ge (tgt := 96) hx hb d_M_read_82 (by decide) (fun c_2 => ?_) (fun c_2 => ?_)
        · refine lv_aload_n hx hb d_M_read_96 rfl (lv_at hl 1 rfl) ?_
          refine va_get (D := (dC, dI)) (ci := 9) (v := .int 3) (C := "RangeCodersModel") (T := T_M) (N := 35) hx hb hg in_M hown hK hP 0 rfl rfl 0 (by decide) (hg _ k952) (fun _ h9 => h9) rfl d_M_read_97 ?_
          refine lv_iconst (v := 3) hx hb d_M_read_100 (by decide) ?_
          refine lv_icmp_ne (tgt := 135) hx hb d_M_read_101 (by decide) (fun c_3 => ?_) (fun c_3 => ?_)
          · exact absurd rfl c_3
          · refine lv_aload_n hx hb d_M_read_104 rfl (lv_at hl 1 rfl) ?_
            refine lv_aload_n hx hb d_M_read_105 rfl (lv_at hl 1 rfl) ?_
            refine my_cl (wr := [((g 0), Sum.inl (cI, 8, Sum.inl vMany)), ((g 1), Sum.inl (cI, 512, Sum.inl vCounts)), ((g 3), Sum.inl (cI, 512, Sum.inl fN))]) (va_runV (As := []) (rest := [Value.ref o]) ⟨hx, hb, hml, hown, hts⟩ (c_M_four l dC dI cI cM cO H.size o g 3 fShift fModels fItems fEnded fLow fRange fCache fPend fGoes fOuts 1 0 0 0 0 0 4294967295 0 fWrites 0 vIn is 0 (hIn) (hlen) (hoct) (by decide)) (cwV 0 hts (my_gV k1190 k1192 ks44 k12 k1193) rfl rfl rfl cu_M_four_0 ⟨by rw [hR]; exact Nat.le_of_ble_eq_true rfl, by rw [hR]; exact Nat.le_of_ble_eq_true rfl⟩) (my_preV hK hN (hP.sub [0, 4] rfl) (hD.sub [0, 4] (by decide +kernel) rfl) 0 rfl rfl) rfl rfl hl.1 rfl (lv_room (Nat.le_of_ble_eq_true rfl)) d_M_read_106 ⟨by rw [hR]; exact Nat.le_of_ble_eq_true rfl, by rw [hR]; exact Nat.le_of_ble_eq_true rfl⟩) hP hD hS hA [0, 4] [1, 2, 3] rfl rfl (by decide +kernel) (by decide +kernel) (fun r_106 u9 H locs hw_106 hP hD hS => ?_)
            have hw_106 : r_106 = lN (frN is 0 4) := hw_106
            have hPD : my_PD (dC, dI) vwCl A [((g 0), Sum.inl (cI, 8, Sum.inl vMany)), ((g 1), Sum.inl (cI, 512, Sum.inl vCounts)), ((g 3), Sum.inl (cI, 512, Sum.inl fN)), (o, Sum.inr (9, mO g 3 fShift fModels fItems fEnded fLow fRange fCache fPend fGoes fOuts (nI is.length) 1 0 0 (nI (0 + 4)) 0 0 0 4294967295 0 fWrites 0)), ((g 8), Sum.inl (cI, 6000, Sum.inl vIn))] H := ⟨hP, hD⟩
            have hP := hPD.1
            have hD := hPD.2
            refine va_put (D := (dC, dI)) (ci := 9) (v := .long r_106) (ty := .long) (C := "RangeCodersModel") (T := T_M) (N := 35) hx hb hg in_M t_M o_M n_M hown hK hP hD hS 3 rfl rfl 29 (by decide) (hg _ k981) (fun _ h9 => h9) rfl (o_M 29 (by decide)) rfl rfl (Nat.le_of_ble_eq_true rfl) d_M_read_109 (fun H locs hP hD hS => ?_)
            have hPD : my_PD (dC, dI) vwCl A [((g 0), Sum.inl (cI, 8, Sum.inl vMany)), ((g 1), Sum.inl (cI, 512, Sum.inl vCounts)), ((g 3), Sum.inl (cI, 512, Sum.inl fN)), (o, Sum.inr (9, mO g 3 fShift fModels fItems fEnded fLow fRange fCache fPend fGoes fOuts (nI is.length) 1 0 0 (nI (0 + 4)) 0 0 0 4294967295 r_106 fWrites 0)), ((g 8), Sum.inl (cI, 6000, Sum.inl vIn))] H := ⟨hP, hD⟩
            have hP := hPD.1
            have hD := hPD.2
            refine lv_aload_n hx hb d_M_read_112 rfl (lv_at hl 1 rfl) ?_
            refine lv_aload_n hx hb d_M_read_113 rfl (lv_at hl 1 rfl) ?_
            refine va_get (D := (dC, dI)) (ci := 9) (v := .long r_106) (C := "RangeCodersModel") (T := T_M) (N := 35) hx hb hg in_M hown hK hP 3 rfl rfl 29 (by decide) (hg _ k981) (fun _ h9 => h9) rfl d_M_read_114 ?_
            refine lv_ldc2 (v := 8388608) hx hb hown (hg _ k1155) d_M_read_117 ?_
            refine W.lcmp hx hb d_M_read_120 ?_
            refine lv_if_ge (tgt := 128) hx hb d_M_read_121 (by decide) (fun c_4 => ?_) (fun c_4 => ?_)
            · rw [lg_cmp_ge] at c_4
              refine lv_iconst (v := 0) hx hb d_M_read_128 (by decide) ?_
              refine va_put (D := (dC, dI)) (ci := 9) (v := .int 0) (ty := .boolean) (C := "RangeCodersModel") (T := T_M) (N := 35) hx hb hg in_M t_M o_M n_M hown hK hP hD hS 3 rfl rfl 22 (by decide) (hg _ k974) (fun _ h9 => h9) rfl (o_M 22 (by decide)) rfl rfl (Nat.le_of_ble_eq_true rfl) d_M_read_129 (fun H locs hP hD hS => ?_)
              have hPD : my_PD (dC, dI) vwCl A [((g 0), Sum.inl (cI, 8, Sum.inl vMany)), ((g 1), Sum.inl (cI, 512, Sum.inl vCounts)), ((g 3), Sum.inl (cI, 512, Sum.inl fN)), (o, Sum.inr (9, mO g 3 fShift fModels fItems fEnded fLow fRange fCache fPend fGoes fOuts (nI is.length) 1 0 0 (nI (0 + 4)) 0 0 0 4294967295 r_106 fWrites 0)), ((g 8), Sum.inl (cI, 6000, Sum.inl vIn))] H := ⟨hP, hD⟩
              have hP := hPD.1
              have hD := hPD.2
              refine lv_goto (tgt := 172) hx hb d_M_read_132 (by decide) ?_
              refine lv_aload_n hx hb d_M_read_172 rfl (lv_at hl 1 rfl) ?_
              refine va_get (D := (dC, dI)) (ci := 9) (v := .int (nI is.length)) (C := "RangeCodersModel") (T := T_M) (N := 35) hx hb hg in_M hown hK hP 3 rfl rfl 20 (by decide) (hg _ k972) (fun _ h9 => h9) rfl d_M_read_173 ?_
              exact my_iret (v := nI is.length) hx hb hr (rfl) hlocks hQ hK hS (Nat.le_refl _) (Nat.le_refl _) ((1 : Int32), (0 : Int32), (0 : Int32), nI (0 + 4), (0 : Int32), (0 : Int64), (0 : Int64), (4294967295 : Int64), r_106, (0 : Int32), fN) (⟨hT9, fun _ _ => ⟨frN is 0 4, 4, hw_106, rfl, r3_ge hw_106 (by have := frN_lt hoct 0 4; exact this) c_4, frN_lt hoct 0 4, by omega⟩, rfl, rfl⟩) (hP.sub [3, 0, 1, 2, 4] rfl) (hD.sub [3, 0, 1, 2, 4] (by decide +kernel) rfl) d_M_read_176
            · rw [lg_cmp_ge] at c_4
              refine lv_iconst (v := 1) hx hb d_M_read_124 (by decide) ?_
              refine lv_goto (tgt := 129) hx hb d_M_read_125 (by decide) ?_
              refine va_put (D := (dC, dI)) (ci := 9) (v := .int 1) (ty := .boolean) (C := "RangeCodersModel") (T := T_M) (N := 35) hx hb hg in_M t_M o_M n_M hown hK hP hD hS 3 rfl rfl 22 (by decide) (hg _ k974) (fun _ h9 => h9) rfl (o_M 22 (by decide)) rfl rfl (Nat.le_of_ble_eq_true rfl) d_M_read_129 (fun H locs hP hD hS => ?_)
              have hPD : my_PD (dC, dI) vwCl A [((g 0), Sum.inl (cI, 8, Sum.inl vMany)), ((g 1), Sum.inl (cI, 512, Sum.inl vCounts)), ((g 3), Sum.inl (cI, 512, Sum.inl fN)), (o, Sum.inr (9, mO g 3 fShift fModels fItems fEnded fLow fRange fCache fPend fGoes fOuts (nI is.length) 1 1 0 (nI (0 + 4)) 0 0 0 4294967295 r_106 fWrites 0)), ((g 8), Sum.inl (cI, 6000, Sum.inl vIn))] H := ⟨hP, hD⟩
              have hP := hPD.1
              have hD := hPD.2
              refine lv_goto (tgt := 172) hx hb d_M_read_132 (by decide) ?_
              refine lv_aload_n hx hb d_M_read_172 rfl (lv_at hl 1 rfl) ?_
              refine va_get (D := (dC, dI)) (ci := 9) (v := .int (nI is.length)) (C := "RangeCodersModel") (T := T_M) (N := 35) hx hb hg in_M hown hK hP 3 rfl rfl 20 (by decide) (hg _ k972) (fun _ h9 => h9) rfl d_M_read_173 ?_
              exact my_iret (v := nI is.length) hx hb hr (rfl) hlocks hQ hK hS (Nat.le_refl _) (Nat.le_refl _) ((1 : Int32), (1 : Int32), (0 : Int32), nI (0 + 4), (0 : Int32), (0 : Int64), (0 : Int64), (4294967295 : Int64), r_106, (0 : Int32), fN) (⟨hT9, fun _ z2 => absurd z2 (show ¬ (1 : Int32) = 0 by decide), rfl, rfl⟩) (hP.sub [3, 0, 1, 2, 4] rfl) (hD.sub [3, 0, 1, 2, 4] (by decide +kernel) rfl) d_M_read_176
        · exact absurd (by decide) c_2
      · have hjl : jj < km := by
          rcases Nat.lt_or_ge jj km with z | z
          · exact z
          · exact absurd (by rw [hmod]; exact nI_le z (by have := hMD.1; omega)) c_1
        have hk8 := hMD.1
        obtain ⟨hn9, hn2, hn64, C9, hc9, hB9⟩ := hMD.2 jj hjl
        refine lv_aload_n hx hb d_M_read_15 rfl (lv_at hl 1 rfl) ?_
        refine lv_aload_n hx hb d_M_read_16 rfl (lv_at hl 1 rfl) ?_
        refine va_get (D := (dC, dI)) (ci := 9) (v := .ref (g 3)) (C := "RangeCodersModel") (T := T_M) (N := 35) hx hb hg in_M hown hK hP 0 rfl rfl 6 (by decide) (hg _ k958) (fun _ h9 => h9) rfl d_M_read_17 ?_
        refine lv_iload_n hx hb d_M_read_20 rfl (lv_at hl 0 rfl) ?_
        refine my_cv (wr := [((g 8), Sum.inl (cI, 6000, Sum.inl vIn))]) (va_runV (As := [Value.ref (g 3), Value.int (nI jj)]) (rest := []) ⟨hx, hb, hml, hown, hts⟩ (c_M_prepare l dC dI cI cM cO H.size o g 3 fShift fModels fItems fEnded fLow fRange fCache fPend fGoes fOuts (nI is.length) fReads fBad fIR fAsk fBAsk fCode fRL fRR fX fWrites 0 vMany vCounts (g 3) fN jj (N jj) 3 C9 (by omega) (hn9) (hn64) (by omega) (by decide) (by rfl) (hc9) (hB9)) (cwV 2 hts (my_gV k928 k930 ks19 k12 k931) rfl rfl rfl cu_M_prepare_2 ⟨by rw [hR]; exact Nat.le_of_ble_eq_true rfl, by rw [hR]; exact Nat.le_of_ble_eq_true rfl⟩) (my_preV hK hN (hP.sub [0, 1, 2, 3] rfl) (hD.sub [0, 1, 2, 3] (by decide +kernel) rfl) 0 rfl rfl) rfl rfl hl.1 rfl (lv_room (Nat.le_of_ble_eq_true rfl)) d_M_read_21 ⟨by rw [hR]; exact Nat.le_of_ble_eq_true rfl, by rw [hR]; exact Nat.le_of_ble_eq_true rfl⟩) hP hD hS hA [0, 1, 2, 3] [4] rfl rfl (by decide +kernel) (by decide +kernel) (fun u9 H locs hw_21 hP hD hS => ?_)
        obtain ⟨f2_21, rfl⟩ : ∃ z, z = u9 := ⟨_, rfl⟩
        have hw_21 : sgI f2_21 (64 * jj) (pfN 3 (N jj)) (pf 3 (N jj) C9) ∧ sgO f2_21 fN (64 * jj) 64 := hw_21
        have hPD : my_PD (dC, dI) vwCl A [((g 8), Sum.inl (cI, 6000, Sum.inl vIn)), (o, Sum.inr (9, mO g 3 fShift fModels fItems fEnded fLow fRange fCache fPend fGoes fOuts (nI is.length) fReads fBad fIR fAsk fBAsk fCode fRL fRR fX fWrites 0)), ((g 0), Sum.inl (cI, 8, Sum.inl vMany)), ((g 1), Sum.inl (cI, 512, Sum.inl vCounts)), ((g 3), Sum.inl (cI, 512, Sum.inl f2_21))] H := ⟨hP, hD⟩
        have hP := hPD.1
        have hD := hPD.2
        have hT8 := TB_step hT9 (MD_N hMD) hjl hw_21.2 (tab_pf hfm hn64 (by omega) hB9 hw_21.1)
        obtain ⟨v_5, ev_5⟩ : ∃ y : Int32, y = (nI jj) + (1) := ⟨_, rfl⟩
        refine lv_iinc (v := v_5) (lv' := [(1, Value.int v_5), (0, Value.ref o)]) hx hb d_M_read_24 hl (k := 0) rfl (by rw [ev_5]; rfl) (by decide) rfl (fun ls hl => ?_)
        have z9 : v_5 = nI (jj + 1) := by rw [ev_5]; exact nI_1 _
        subst z9
        refine lv_goto (tgt := 7) hx hb d_M_read_27 (by decide) ?_
        exact ih9_7 _ (by first | omega | (omega)) (jj + 1) f2_21 rfl (by omega) (hT8) H locs ls (hP.sub [1, 2, 3, 4, 0] rfl) (hD.sub [1, 2, 3, 4, 0] (by decide +kernel) rfl) hS (lv_sub hl [0, 1] rfl)
  exact J_7 _ (0 : Nat) vThen rfl (Nat.zero_le _) (TB_0 _ _ _) H locs ls (hP.sub [0, 1, 2, 3, 4] rfl) (hD.sub [0, 1, 2, 3, 4] (by decide +kernel) rfl) hS (lv_sub hl [0, 1] rfl)
set_option maxHeartbeats 2000000 in
set_option maxRecDepth 100000 in
theorem m_read4 (l : Launch) (dC : Nat → ClassId) (dI : Nat → Nat → Nat) (cI cM cO : ClassId) (sz : Nat) (o : Nat) (g : Nat → Nat) (fForm : Int32) (fShift : Int32) (fModels : Int32) (fItems : Int32) (fEnded : Int32) (fLow : Int64) (fRange : Int64) (fCache : Int32) (fPend : Int32) (fGoes : Int32) (fOuts : Int32) (fIns : Int32) (fReads : Int32) (fBad : Int32) (fIR : Int32) (fAsk : Int32) (fBAsk : Int32) (fCode : Int64) (fRL : Int64) (fRR : Int64) (fX : Int64) (fWrites : Int32) (fThrown : Int32) (vMany : Nat → Int32) (vCounts : Nat → Int32) (vThen : Nat → Int32) (vIn : Nat → Int32) (km : Nat) (N : Nat → Nat) (cn : Nat) (hfo : fForm = 4) (hmod : fModels = nI km) (hMD : MD km N vMany vCounts) (hIN : IN fIns vIn) : MetI l y_M_read (Cond.code y_M_read prog_14_method_43_code 2 (some .int) :: gw) ({ frames := 3, cells := 0, slots := 0, locals := 75 } : Room) (dC, dI) vwCl (kT cI cM cO) [Value.ref o] [(o, Sum.inr (9, mO g fForm fShift fModels fItems fEnded fLow fRange fCache fPend fGoes fOuts fIns fReads fBad fIR fAsk fBAsk fCode fRL fRR fX fWrites fThrown)), ((g 0), Sum.inl (cI, 8, Sum.inl vMany)), ((g 1), Sum.inl (cI, 512, Sum.inl vCounts)), ((g 3), Sum.inl (cI, 512, Sum.inl vThen)), ((g 8), Sum.inl (cI, 6000, Sum.inl vIn))] sz (fun (r : Int32) (u : Int32 × Int32 × Int32 × Int32 × Int32 × Int64 × Int64 × Int64 × Int64 × Int32 × (Nat → Int32)) => TB 4 km N u.2.2.2.2.2.2.2.2.2.2 ∧ (¬ u.1 = 0 → u.2.1 = 0 → RD4 cn u.2.2.2.1 u.2.2.2.2.1 u.2.2.2.2.2.2.2.2.1) ∧ r = fIns ∧ u.1 = 1) (fun (u : Int32 × Int32 × Int32 × Int32 × Int32 × Int64 × Int64 × Int64 × Int64 × Int32 × (Nat → Int32)) => [(o, Sum.inr (9, mO g fForm fShift fModels fItems fEnded fLow fRange fCache fPend fGoes fOuts fIns u.1 u.2.1 u.2.2.1 u.2.2.2.1 u.2.2.2.2.1 u.2.2.2.2.2.1 u.2.2.2.2.2.2.1 u.2.2.2.2.2.2.2.1 u.2.2.2.2.2.2.2.2.1 fWrites u.2.2.2.2.2.2.2.2.2.1)), ((g 0), Sum.inl (cI, 8, Sum.inl vMany)), ((g 1), Sum.inl (cI, 512, Sum.inl vCounts)), ((g 3), Sum.inl (cI, 512, Sum.inl u.2.2.2.2.2.2.2.2.2.2)), ((g 8), Sum.inl (cI, 6000, Sum.inl vIn))]) 0 0 := by
  refine my_ofI (cc := prog_14_method_43_code) (n := 2) (ret := (some .int)) (by decide) rfl (Nat.le_of_ble_eq_true rfl) ?_
  intro p e s m args below meth c R Q A ls H locs hx hb hr hts hown hlocks hml hnm hR hQ hA hl hP hK hN hD hS
  have hg : ∀ w ∈ gw, w.before args s = true := fun w h => hts w (List.mem_cons_of_mem _ h)
  have hown : s.vm.findClass "RangeCodersModel" = some m.cls := hown
  have hl : lv_has ls 2 [(0, Value.ref o)] := hl
  subst hfo
  have hfm : 4 ≤ 4 := by decide
  obtain ⟨is, rfl, hIn, hlen, hoct⟩ := hIN
  have hPD : my_PD (dC, dI) vwCl A [(o, Sum.inr (9, mO g 4 fShift fModels fItems fEnded fLow fRange fCache fPend fGoes fOuts (nI is.length) fReads fBad fIR fAsk fBAsk fCode fRL fRR fX fWrites fThrown)), ((g 0), Sum.inl (cI, 8, Sum.inl vMany)), ((g 1), Sum.inl (cI, 512, Sum.inl vCounts)), ((g 3), Sum.inl (cI, 512, Sum.inl vThen)), ((g 8), Sum.inl (cI, 6000, Sum.inl vIn))] H := ⟨hP, hD⟩
  have hP := hPD.1
  have hD := hPD.2
  have hl : lv_has ls 2 [(0, Value.ref o)] := hl
  refine lv_aload_n hx hb d_M_read_0 rfl (lv_at hl 0 rfl) ?_
  refine lv_iconst (v := 0) hx hb d_M_read_1 (by decide) ?_
  refine va_put (D := (dC, dI)) (ci := 9) (v := .int 0) (ty := .int) (C := "RangeCodersModel") (T := T_M) (N := 35) hx hb hg in_M t_M o_M n_M hown hK hP hD hS 0 rfl rfl 34 (by decide) (hg _ k986) (fun _ h9 => h9) rfl (o_M 34 (by decide)) rfl rfl (Nat.le_of_ble_eq_true rfl) d_M_read_2 (fun H locs hP hD hS => ?_)
  have hPD : my_PD (dC, dI) vwCl A [(o, Sum.inr (9, mO g 4 fShift fModels fItems fEnded fLow fRange fCache fPend fGoes fOuts (nI is.length) fReads fBad fIR fAsk fBAsk fCode fRL fRR fX fWrites 0)), ((g 0), Sum.inl (cI, 8, Sum.inl vMany)), ((g 1), Sum.inl (cI, 512, Sum.inl vCounts)), ((g 3), Sum.inl (cI, 512, Sum.inl vThen)), ((g 8), Sum.inl (cI, 6000, Sum.inl vIn))] H := ⟨hP, hD⟩
  have hP := hPD.1
  have hD := hPD.2
  refine lv_iconst (v := 0) hx hb d_M_read_5 (by decide) ?_
  refine lv_istore_n (lv' := [(1, Value.int 0), (0, Value.ref o)]) hx hb d_M_read_6 rfl hl (by decide) rfl (fun ls hl => ?_)
  have J_7 : ∀ (n9_7 : Nat) (jj : Nat) (fN : Nat → Int32) (hn9_7 : km - jj = n9_7) (hjj : jj ≤ km) (hT9 : TB 4 jj N fN) (H : Heap) (locs : List Loc) (ls : Array Slot), va_P (dC, dI) vwCl [(o, Sum.inr (9, mO g 4 fShift fModels fItems fEnded fLow fRange fCache fPend fGoes fOuts (nI is.length) fReads fBad fIR fAsk fBAsk fCode fRL fRR fX fWrites 0)), ((g 0), Sum.inl (cI, 8, Sum.inl vMany)), ((g 1), Sum.inl (cI, 512, Sum.inl vCounts)), ((g 3), Sum.inl (cI, 512, Sum.inl fN)), ((g 8), Sum.inl (cI, 6000, Sum.inl vIn))] H → va_D A [(o, Sum.inr (9, mO g 4 fShift fModels fItems fEnded fLow fRange fCache fPend fGoes fOuts (nI is.length) fReads fBad fIR fAsk fBAsk fCode fRL fRR fX fWrites 0)), ((g 0), Sum.inl (cI, 8, Sum.inl vMany)), ((g 1), Sum.inl (cI, 512, Sum.inl vCounts)), ((g 3), Sum.inl (cI, 512, Sum.inl fN)), ((g 8), Sum.inl (cI, 6000, Sum.inl vIn))] → va_S A s.heap H locs → lv_has ls 2 [(1, Value.int (nI jj)), (0, Value.ref o)] → W p l e R s m args below meth c H locs 0 0 Q (F0 m 7 ls []) := by
    intro n9_7
    induction n9_7 using Nat.strongRecOn with
    | ind n9_7 ih9_7 =>
      intro jj fN hn9_7 hjj hT9 H locs ls hP hD hS hl
      refine lv_iload_n hx hb d_M_read_7 rfl (lv_at hl 0 rfl) ?_
      refine lv_aload_n hx hb d_M_read_8 rfl (lv_at hl 1 rfl) ?_
      refine va_get (D := (dC, dI)) (ci := 9) (v := .int fModels) (C := "RangeCodersModel") (T := T_M) (N := 35) hx hb hg in_M hown hK hP 0 rfl rfl 2 (by decide) (hg _ k954) (fun _ h9 => h9) rfl d_M_read_9 ?_
      refine lv_icmp_ge (tgt := 30) hx hb d_M_read_12 (by decide) (fun c_1 => ?_) (fun c_1 => ?_)
      · have hjk : jj = km := by
          have hk8 := hMD.1
          rw [hmod] at c_1
          have := (nI_cmp (by omega) (by omega)).mp c_1
          omega
        subst hjk
        refine lv_aload_n hx hb d_M_read_30 rfl (lv_at hl 1 rfl) ?_
        refine lv_iconst (v := 1) hx hb d_M_read_31 (by decide) ?_
        refine va_put (D := (dC, dI)) (ci := 9) (v := .int 1) (ty := .boolean) (C := "RangeCodersModel") (T := T_M) (N := 35) hx hb hg in_M t_M o_M n_M hown hK hP hD hS 0 rfl rfl 21 (by decide) (hg _ k973) (fun _ h9 => h9) rfl (o_M 21 (by decide)) rfl rfl (Nat.le_of_ble_eq_true rfl) d_M_read_32 (fun H locs hP hD hS => ?_)
        have hPD : my_PD (dC, dI) vwCl A [(o, Sum.inr (9, mO g 4 fShift fModels fItems fEnded fLow fRange fCache fPend fGoes fOuts (nI is.length) 1 fBad fIR fAsk fBAsk fCode fRL fRR fX fWrites 0)), ((g 0), Sum.inl (cI, 8, Sum.inl vMany)), ((g 1), Sum.inl (cI, 512, Sum.inl vCounts)), ((g 3), Sum.inl (cI, 512, Sum.inl fN)), ((g 8), Sum.inl (cI, 6000, Sum.inl vIn))] H := ⟨hP, hD⟩
        have hP := hPD.1
        have hD := hPD.2
        refine lv_aload_n hx hb d_M_read_35 rfl (lv_at hl 1 rfl) ?_
        refine lv_iconst (v := 0) hx hb d_M_read_36 (by decide) ?_
        refine va_put (D := (dC, dI)) (ci := 9) (v := .int 0) (ty := .boolean) (C := "RangeCodersModel") (T := T_M) (N := 35) hx hb hg in_M t_M o_M n_M hown hK hP hD hS 0 rfl rfl 22 (by decide) (hg _ k974) (fun _ h9 => h9) rfl (o_M 22 (by decide)) rfl rfl (Nat.le_of_ble_eq_true rfl) d_M_read_37 (fun H locs hP hD hS => ?_)
        have hPD : my_PD (dC, dI) vwCl A [(o, Sum.inr (9, mO g 4 fShift fModels fItems fEnded fLow fRange fCache fPend fGoes fOuts (nI is.length) 1 0 fIR fAsk fBAsk fCode fRL fRR fX fWrites 0)), ((g 0), Sum.inl (cI, 8, Sum.inl vMany)), ((g 1), Sum.inl (cI, 512, Sum.inl vCounts)), ((g 3), Sum.inl (cI, 512, Sum.inl fN)), ((g 8), Sum.inl (cI, 6000, Sum.inl vIn))] H := ⟨hP, hD⟩
        have hP := hPD.1
        have hD := hPD.2
        refine lv_aload_n hx hb d_M_read_40 rfl (lv_at hl 1 rfl) ?_
        refine lv_iconst (v := 0) hx hb d_M_read_41 (by decide) ?_
        refine va_put (D := (dC, dI)) (ci := 9) (v := .int 0) (ty := .int) (C := "RangeCodersModel") (T := T_M) (N := 35) hx hb hg in_M t_M o_M n_M hown hK hP hD hS 0 rfl rfl 23 (by decide) (hg _ k975) (fun _ h9 => h9) rfl (o_M 23 (by decide)) rfl rfl (Nat.le_of_ble_eq_true rfl) d_M_read_42 (fun H locs hP hD hS => ?_)
        have hPD : my_PD (dC, dI) vwCl A [(o, Sum.inr (9, mO g 4 fShift fModels fItems fEnded fLow fRange fCache fPend fGoes fOuts (nI is.length) 1 0 0 fAsk fBAsk fCode fRL fRR fX fWrites 0)), ((g 0), Sum.inl (cI, 8, Sum.inl vMany)), ((g 1), Sum.inl (cI, 512, Sum.inl vCounts)), ((g 3), Sum.inl (cI, 512, Sum.inl fN)), ((g 8), Sum.inl (cI, 6000, Sum.inl vIn))] H := ⟨hP, hD⟩
        have hP := hPD.1
        have hD := hPD.2
        refine lv_aload_n hx hb d_M_read_45 rfl (lv_at hl 1 rfl) ?_
        refine lv_iconst (v := 0) hx hb d_M_read_46 (by decide) ?_
        refine va_put (D := (dC, dI)) (ci := 9) (v := .int 0) (ty := .int) (C := "RangeCodersModel") (T := T_M) (N := 35) hx hb hg in_M t_M o_M n_M hown hK hP hD hS 0 rfl rfl 24 (by decide) (hg _ k976) (fun _ h9 => h9) rfl (o_M 24 (by decide)) rfl rfl (Nat.le_of_ble_eq_true rfl) d_M_read_47 (fun H locs hP hD hS => ?_)
        have hPD : my_PD (dC, dI) vwCl A [(o, Sum.inr (9, mO g 4 fShift fModels fItems fEnded fLow fRange fCache fPend fGoes fOuts (nI is.length) 1 0 0 0 fBAsk fCode fRL fRR fX fWrites 0)), ((g 0), Sum.inl (cI, 8, Sum.inl vMany)), ((g 1), Sum.inl (cI, 512, Sum.inl vCounts)), ((g 3), Sum.inl (cI, 512, Sum.inl fN)), ((g 8), Sum.inl (cI, 6000, Sum.inl vIn))] H := ⟨hP, hD⟩
        have hP := hPD.1
        have hD := hPD.2
        refine lv_aload_n hx hb d_M_read_50 rfl (lv_at hl 1 rfl) ?_
        refine lv_iconst (v := 0) hx hb d_M_read_51 (by decide) ?_
        refine va_put (D := (dC, dI)) (ci := 9) (v := .int 0) (ty := .int) (C := "RangeCodersModel") (T := T_M) (N := 35) hx hb hg in_M t_M o_M n_M hown hK hP hD hS 0 rfl rfl 25 (by decide) (hg _ k977) (fun _ h9 => h9) rfl (o_M 25 (by decide)) rfl rfl (Nat.le_of_ble_eq_true rfl) d_M_read_52 (fun H locs hP hD hS => ?_)
        have hPD : my_PD (dC, dI) vwCl A [(o, Sum.inr (9, mO g 4 fShift fModels fItems fEnded fLow fRange fCache fPend fGoes fOuts (nI is.length) 1 0 0 0 0 fCode fRL fRR fX fWrites 0)), ((g 0), Sum.inl (cI, 8, Sum.inl vMany)), ((g 1), Sum.inl (cI, 512, Sum.inl vCounts)), ((g 3), Sum.inl (cI, 512, Sum.inl fN)), ((g 8), Sum.inl (cI, 6000, Sum.inl vIn))] H := ⟨hP, hD⟩
        have hP := hPD.1
        have hD := hPD.2
        refine lv_aload_n hx hb d_M_read_55 rfl (lv_at hl 1 rfl) ?_
        refine lv_lconst (v := 0) hx hb d_M_read_56 (by decide) ?_
        refine va_put (D := (dC, dI)) (ci := 9) (v := .long 0) (ty := .long) (C := "RangeCodersModel") (T := T_M) (N := 35) hx hb hg in_M t_M o_M n_M hown hK hP hD hS 0 rfl rfl 26 (by decide) (hg _ k978) (fun _ h9 => h9) rfl (o_M 26 (by decide)) rfl rfl (Nat.le_of_ble_eq_true rfl) d_M_read_57 (fun H locs hP hD hS => ?_)
        have hPD : my_PD (dC, dI) vwCl A [(o, Sum.inr (9, mO g 4 fShift fModels fItems fEnded fLow fRange fCache fPend fGoes fOuts (nI is.length) 1 0 0 0 0 0 fRL fRR fX fWrites 0)), ((g 0), Sum.inl (cI, 8, Sum.inl vMany)), ((g 1), Sum.inl (cI, 512, Sum.inl vCounts)), ((g 3), Sum.inl (cI, 512, Sum.inl fN)), ((g 8), Sum.inl (cI, 6000, Sum.inl vIn))] H := ⟨hP, hD⟩
        have hP := hPD.1
        have hD := hPD.2
        refine lv_aload_n hx hb d_M_read_60 rfl (lv_at hl 1 rfl) ?_
        refine lv_lconst (v := 0) hx hb d_M_read_61 (by decide) ?_
        refine va_put (D := (dC, dI)) (ci := 9) (v := .long 0) (ty := .long) (C := "RangeCodersModel") (T := T_M) (N := 35) hx hb hg in_M t_M o_M n_M hown hK hP hD hS 0 rfl rfl 27 (by decide) (hg _ k979) (fun _ h9 => h9) rfl (o_M 27 (by decide)) rfl rfl (Nat.le_of_ble_eq_true rfl) d_M_read_62 (fun H locs hP hD hS => ?_)
        have hPD : my_PD (dC, dI) vwCl A [(o, Sum.inr (9, mO g 4 fShift fModels fItems fEnded fLow fRange fCache fPend fGoes fOuts (nI is.length) 1 0 0 0 0 0 0 fRR fX fWrites 0)), ((g 0), Sum.inl (cI, 8, Sum.inl vMany)), ((g 1), Sum.inl (cI, 512, Sum.inl vCounts)), ((g 3), Sum.inl (cI, 512, Sum.inl fN)), ((g 8), Sum.inl (cI, 6000, Sum.inl vIn))] H := ⟨hP, hD⟩
        have hP := hPD.1
        have hD := hPD.2
        refine lv_aload_n hx hb d_M_read_65 rfl (lv_at hl 1 rfl) ?_
        refine lv_ldc2 (v := 4294967295) hx hb hown (hg _ k927) d_M_read_66 ?_
        refine va_put (D := (dC, dI)) (ci := 9) (v := .long 4294967295) (ty := .long) (C := "RangeCodersModel") (T := T_M) (N := 35) hx hb hg in_M t_M o_M n_M hown hK hP hD hS 0 rfl rfl 28 (by decide) (hg _ k980) (fun _ h9 => h9) rfl (o_M 28 (by decide)) rfl rfl (Nat.le_of_ble_eq_true rfl) d_M_read_69 (fun H locs hP hD hS => ?_)
        have hPD : my_PD (dC, dI) vwCl A [(o, Sum.inr (9, mO g 4 fShift fModels fItems fEnded fLow fRange fCache fPend fGoes fOuts (nI is.length) 1 0 0 0 0 0 0 4294967295 fX fWrites 0)), ((g 0), Sum.inl (cI, 8, Sum.inl vMany)), ((g 1), Sum.inl (cI, 512, Sum.inl vCounts)), ((g 3), Sum.inl (cI, 512, Sum.inl fN)), ((g 8), Sum.inl (cI, 6000, Sum.inl vIn))] H := ⟨hP, hD⟩
        have hP := hPD.1
        have hD := hPD.2
        refine lv_aload_n hx hb d_M_read_72 rfl (lv_at hl 1 rfl) ?_
        refine lv_lconst (v := 0) hx hb d_M_read_73 (by decide) ?_
        refine va_put (D := (dC, dI)) (ci := 9) (v := .long 0) (ty := .long) (C := "RangeCodersModel") (T := T_M) (N := 35) hx hb hg in_M t_M o_M n_M hown hK hP hD hS 0 rfl rfl 29 (by decide) (hg _ k981) (fun _ h9 => h9) rfl (o_M 29 (by decide)) rfl rfl (Nat.le_of_ble_eq_true rfl) d_M_read_74 (fun H locs hP hD hS => ?_)
        have hPD : my_PD (dC, dI) vwCl A [(o, Sum.inr (9, mO g 4 fShift fModels fItems fEnded fLow fRange fCache fPend fGoes fOuts (nI is.length) 1 0 0 0 0 0 0 4294967295 0 fWrites 0)), ((g 0), Sum.inl (cI, 8, Sum.inl vMany)), ((g 1), Sum.inl (cI, 512, Sum.inl vCounts)), ((g 3), Sum.inl (cI, 512, Sum.inl fN)), ((g 8), Sum.inl (cI, 6000, Sum.inl vIn))] H := ⟨hP, hD⟩
        have hP := hPD.1
        have hD := hPD.2
        refine lv_aload_n hx hb d_M_read_77 rfl (lv_at hl 1 rfl) ?_
        refine va_get (D := (dC, dI)) (ci := 9) (v := .int 4) (C := "RangeCodersModel") (T := T_M) (N := 35) hx hb hg in_M hown hK hP 0 rfl rfl 0 (by decide) (hg _ k952) (fun _ h9 => h9) rfl d_M_read_78 ?_
        refine lv_iconst (v := 3) hx hb d_M_read_81 (by decide) ?_
        refine lv_icmp_ge (tgt := 96) hx hb d_M_read_82 (by decide) (fun c_2 => ?_) (fun c_2 => ?_)
        · refine lv_aload_n hx hb d_M_read_96 rfl (lv_at hl 1 rfl) ?_
          refine va_get (D := (dC, dI)) (ci := 9) (v := .int 4) (C := "RangeCodersModel") (T := T_M) (N := 35) hx hb hg in_M hown hK hP 0 rfl rfl 0 (by decide) (hg _ k952) (fun _ h9 => h9) rfl d_M_read_97 ?_
          refine lv_iconst (v := 3) hx hb d_M_read_100 (by decide) ?_
          refine lv_icmp_ne (tgt := 135) hx hb d_M_read_101 (by decide) (fun c_3 => ?_) (fun c_3 => ?_)
          · refine lv_aload_n hx hb d_M_read_135 rfl (lv_at hl 1 rfl) ?_
            refine lv_lconst (v := 1) hx hb d_M_read_136 (by decide) ?_
            refine va_put (D := (dC, dI)) (ci := 9) (v := .long 1) (ty := .long) (C := "RangeCodersModel") (T := T_M) (N := 35) hx hb hg in_M t_M o_M n_M hown hK hP hD hS 0 rfl rfl 29 (by decide) (hg _ k981) (fun _ h9 => h9) rfl (o_M 29 (by decide)) rfl rfl (Nat.le_of_ble_eq_true rfl) d_M_read_137 (fun H locs hP hD hS => ?_)
            have hPD : my_PD (dC, dI) vwCl A [(o, Sum.inr (9, mO g 4 fShift fModels fItems fEnded fLow fRange fCache fPend fGoes fOuts (nI is.length) 1 0 0 0 0 0 0 4294967295 1 fWrites 0)), ((g 0), Sum.inl (cI, 8, Sum.inl vMany)), ((g 1), Sum.inl (cI, 512, Sum.inl vCounts)), ((g 3), Sum.inl (cI, 512, Sum.inl fN)), ((g 8), Sum.inl (cI, 6000, Sum.inl vIn))] H := ⟨hP, hD⟩
            have hP := hPD.1
            have hD := hPD.2
            refine lv_iconst (v := 0) hx hb d_M_read_140 (by decide) ?_
            refine lv_istore_n (lv' := [(1, Value.int 0), (0, Value.ref o)]) hx hb d_M_read_141 rfl hl (by decide) rfl (fun ls hl => ?_)
            have J_142 : ∀ (n9_142 : Nat) (kk : Nat) (X9 : Nat) (hn9_142 : 9 - kk = n9_142) (hkk : kk ≤ 9) (hX0 : 2 ^ kk ≤ X9) (hX1 : X9 < 2 ^ (kk + 1)) (H : Heap) (locs : List Loc) (ls : Array Slot), va_P (dC, dI) vwCl [(o, Sum.inr (9, mO g 4 fShift fModels fItems fEnded fLow fRange fCache fPend fGoes fOuts (nI is.length) 1 0 0 (nI ((kk + 7) / 8)) (nI kk) 0 0 4294967295 (lN X9) fWrites 0)), ((g 0), Sum.inl (cI, 8, Sum.inl vMany)), ((g 1), Sum.inl (cI, 512, Sum.inl vCounts)), ((g 3), Sum.inl (cI, 512, Sum.inl fN)), ((g 8), Sum.inl (cI, 6000, Sum.inl vIn))] H → va_D A [(o, Sum.inr (9, mO g 4 fShift fModels fItems fEnded fLow fRange fCache fPend fGoes fOuts (nI is.length) 1 0 0 (nI ((kk + 7) / 8)) (nI kk) 0 0 4294967295 (lN X9) fWrites 0)), ((g 0), Sum.inl (cI, 8, Sum.inl vMany)), ((g 1), Sum.inl (cI, 512, Sum.inl vCounts)), ((g 3), Sum.inl (cI, 512, Sum.inl fN)), ((g 8), Sum.inl (cI, 6000, Sum.inl vIn))] → va_S A s.heap H locs → lv_has ls 2 [(1, Value.int (nI kk)), (0, Value.ref o)] → W p l e R s m args below meth c H locs 0 0 Q (F0 m 142 ls []) := by
              intro n9_142
              induction n9_142 using Nat.strongRecOn with
              | ind n9_142 ih9_142 =>
                intro kk X9 hn9_142 hkk hX0 hX1 H locs ls hP hD hS hl
                refine lv_iload_n hx hb d_M_read_142 rfl (lv_at hl 0 rfl) ?_
                refine lv_bipush (v := 9) hx hb d_M_read_143 (by decide) ?_
                refine lv_icmp_ge (tgt := 172) hx hb d_M_read_145 (by decide) (fun c_4 => ?_) (fun c_4 => ?_)
                · have hk9 : kk = 9 := by have := (nI_cmp (a := 9) (b := kk) (by decide) (by omega)).mp c_4; omega
                  subst hk9
                  refine lv_aload_n hx hb d_M_read_172 rfl (lv_at hl 1 rfl) ?_
                  refine va_get (D := (dC, dI)) (ci := 9) (v := .int (nI is.length)) (C := "RangeCodersModel") (T := T_M) (N := 35) hx hb hg in_M hown hK hP 0 rfl rfl 20 (by decide) (hg _ k972) (fun _ h9 => h9) rfl d_M_read_173 ?_
                  exact my_iret (v := (nI is.length)) hx hb hr (rfl) hlocks hQ hK hS (Nat.le_refl _) (Nat.le_refl _) ((1 : Int32), (0 : Int32), (0 : Int32), nI ((9 + 7) / 8), nI 9, (0 : Int64), (0 : Int64), (4294967295 : Int64), lN X9, (0 : Int32), fN) (⟨hT9, fun _ _ => ⟨X9, 9, rfl, rfl, rfl, hX0, hX1, by omega⟩, rfl, rfl⟩) (hP.sub [0, 1, 2, 3, 4] rfl) (hD.sub [0, 1, 2, 3, 4] (by decide +kernel) rfl) d_M_read_176
                · have hkl : kk < 9 := by
                    rcases Nat.lt_or_ge kk 9 with z | z
                    · exact z
                    · exact absurd (nI_le (a := 9) z (by omega)) c_4
                  have hX5 : X9 < 1024 := Nat.lt_of_lt_of_le hX1 (Nat.le_trans (Nat.pow_le_pow_right (by decide) (show kk + 1 ≤ 10 by omega)) (by decide))
                  have hbi := biA_lt is kk
                  refine lv_aload_n hx hb d_M_read_148 rfl (lv_at hl 1 rfl) ?_
                  refine lv_ldc2 (v := 2) hx hb hown (hg _ k1169) d_M_read_149 ?_
                  refine lv_aload_n hx hb d_M_read_152 rfl (lv_at hl 1 rfl) ?_
                  refine va_get (D := (dC, dI)) (ci := 9) (v := .long (lN X9)) (C := "RangeCodersModel") (T := T_M) (N := 35) hx hb hg in_M hown hK hP 0 rfl rfl 29 (by decide) (hg _ k981) (fun _ h9 => h9) rfl d_M_read_153 ?_
                  refine lv_lmul hx hb d_M_read_156 ?_
                  refine lv_topl (fun v_5 ev_5 => ?_)
                  have z9 : v_5 = lN (2 * X9) := by rw [ev_5]; exact lN_mul 2 X9
                  subst z9
                  refine lv_aload_n hx hb d_M_read_157 rfl (lv_at hl 1 rfl) ?_
                  refine my_ci (wr := [((g 0), Sum.inl (cI, 8, Sum.inl vMany)), ((g 1), Sum.inl (cI, 512, Sum.inl vCounts)), ((g 3), Sum.inl (cI, 512, Sum.inl fN))]) (va_runV (As := []) (rest := [Value.long (lN (2 * X9)), Value.ref o]) ⟨hx, hb, hml, hown, hts⟩ (c_M_nextBit l dC dI cI cM cO H.size o g 4 fShift fModels fItems fEnded fLow fRange fCache fPend fGoes fOuts 1 0 0 0 0 4294967295 (lN X9) fWrites 0 vIn is kk (nI ((kk + 7) / 8)) (hIn) (hlen) (hoct) (by omega)) (cwV 0 hts (my_gV k1198 k1200 ks46 k12 k1201) rfl rfl rfl cu_M_nextBit_0 ⟨by rw [hR]; exact Nat.le_of_ble_eq_true rfl, by rw [hR]; exact Nat.le_of_ble_eq_true rfl⟩) (my_preV hK hN (hP.sub [0, 4] rfl) (hD.sub [0, 4] (by decide +kernel) rfl) 0 rfl rfl) rfl rfl hl.1 rfl (lv_room (Nat.le_of_ble_eq_true rfl)) d_M_read_158 ⟨by rw [hR]; exact Nat.le_of_ble_eq_true rfl, by rw [hR]; exact Nat.le_of_ble_eq_true rfl⟩) hP hD hS hA [0, 4] [1, 2, 3] rfl rfl (by decide +kernel) (by decide +kernel) (fun r_158 u9 H locs hw_158 hP hD hS => ?_)
                  have hw_158 : r_158 = nI (biA is kk) := hw_158
                  have hPD : my_PD (dC, dI) vwCl A [((g 0), Sum.inl (cI, 8, Sum.inl vMany)), ((g 1), Sum.inl (cI, 512, Sum.inl vCounts)), ((g 3), Sum.inl (cI, 512, Sum.inl fN)), (o, Sum.inr (9, mO g 4 fShift fModels fItems fEnded fLow fRange fCache fPend fGoes fOuts (nI is.length) 1 0 0 (nI ((kk + 8) / 8)) (nI (kk + 1)) 0 0 4294967295 (lN X9) fWrites 0)), ((g 8), Sum.inl (cI, 6000, Sum.inl vIn))] H := ⟨hP, hD⟩
                  have hP := hPD.1
                  have hD := hPD.2
                  refine lv_i2l hx hb d_M_read_161 rfl ?_
                  refine lv_topl (fun v_6 ev_6 => ?_)
                  have z9 : v_6 = lN (biA is kk) := by rw [ev_6, hw_158]; exact nI_l (by omega)
                  subst z9
                  refine lv_ladd hx hb d_M_read_162 ?_
                  refine lv_topl (fun v_7 ev_7 => ?_)
                  have z9 : v_7 = lN (2 * X9 + biA is kk) := by rw [ev_7]; exact lN_add _ _
                  subst z9
                  refine va_put (D := (dC, dI)) (ci := 9) (v := .long (lN (2 * X9 + biA is kk))) (ty := .long) (C := "RangeCodersModel") (T := T_M) (N := 35) hx hb hg in_M t_M o_M n_M hown hK hP hD hS 3 rfl rfl 29 (by decide) (hg _ k981) (fun _ h9 => h9) rfl (o_M 29 (by decide)) rfl rfl (Nat.le_of_ble_eq_true rfl) d_M_read_163 (fun H locs hP hD hS => ?_)
                  have hPD : my_PD (dC, dI) vwCl A [((g 0), Sum.inl (cI, 8, Sum.inl vMany)), ((g 1), Sum.inl (cI, 512, Sum.inl vCounts)), ((g 3), Sum.inl (cI, 512, Sum.inl fN)), (o, Sum.inr (9, mO g 4 fShift fModels fItems fEnded fLow fRange fCache fPend fGoes fOuts (nI is.length) 1 0 0 (nI ((kk + 8) / 8)) (nI (kk + 1)) 0 0 4294967295 (lN (2 * X9 + biA is kk)) fWrites 0)), ((g 8), Sum.inl (cI, 6000, Sum.inl vIn))] H := ⟨hP, hD⟩
                  have hP := hPD.1
                  have hD := hPD.2
                  obtain ⟨v_8, ev_8⟩ : ∃ y : Int32, y = (nI kk) + (1) := ⟨_, rfl⟩
                  refine lv_iinc (v := v_8) (lv' := [(1, Value.int v_8), (0, Value.ref o)]) hx hb d_M_read_166 hl (k := 0) rfl (by rw [ev_8]; rfl) (by decide) rfl (fun ls hl => ?_)
                  have z9 : v_8 = nI (kk + 1) := by rw [ev_8]; exact nI_1 _
                  subst z9
                  refine lv_goto (tgt := 142) hx hb d_M_read_169 (by decide) ?_
                  exact ih9_142 _ (by first | omega | (omega)) (kk + 1) (2 * X9 + biA is kk) rfl (by omega) (by rw [Nat.pow_succ]; omega) (by have := biA_lt is kk; rw [Nat.pow_succ]; omega) H locs ls (hP.sub [3, 0, 1, 2, 4] rfl) (hD.sub [3, 0, 1, 2, 4] (by decide +kernel) rfl) hS (lv_sub hl [0, 1] rfl)
            exact J_142 _ (0 : Nat) (1 : Nat) rfl (by decide) (by decide) (by decide) H locs ls (hP.sub [0, 1, 2, 3, 4] rfl) (hD.sub [0, 1, 2, 3, 4] (by decide +kernel) rfl) hS (lv_sub hl [0, 1] rfl)
          · exact absurd c_3 (by decide)
        · exact absurd (by decide) c_2
      · have hjl : jj < km := by
          rcases Nat.lt_or_ge jj km with z | z
          · exact z
          · exact absurd (by rw [hmod]; exact nI_le z (by have := hMD.1; omega)) c_1
        have hk8 := hMD.1
        obtain ⟨hn9, hn2, hn64, C9, hc9, hB9⟩ := hMD.2 jj hjl
        refine lv_aload_n hx hb d_M_read_15 rfl (lv_at hl 1 rfl) ?_
        refine lv_aload_n hx hb d_M_read_16 rfl (lv_at hl 1 rfl) ?_
        refine va_get (D := (dC, dI)) (ci := 9) (v := .ref (g 3)) (C := "RangeCodersModel") (T := T_M) (N := 35) hx hb hg in_M hown hK hP 0 rfl rfl 6 (by decide) (hg _ k958) (fun _ h9 => h9) rfl d_M_read_17 ?_
        refine lv_iload_n hx hb d_M_read_20 rfl (lv_at hl 0 rfl) ?_
        refine my_cv (wr := [((g 8), Sum.inl (cI, 6000, Sum.inl vIn))]) (va_runV (As := [Value.ref (g 3), Value.int (nI jj)]) (rest := []) ⟨hx, hb, hml, hown, hts⟩ (c_M_prepare l dC dI cI cM cO H.size o g 4 fShift fModels fItems fEnded fLow fRange fCache fPend fGoes fOuts (nI is.length) fReads fBad fIR fAsk fBAsk fCode fRL fRR fX fWrites 0 vMany vCounts (g 3) fN jj (N jj) 4 C9 (by omega) (hn9) (hn64) (by omega) (by decide) (by rfl) (hc9) (hB9)) (cwV 2 hts (my_gV k928 k930 ks19 k12 k931) rfl rfl rfl cu_M_prepare_2 ⟨by rw [hR]; exact Nat.le_of_ble_eq_true rfl, by rw [hR]; exact Nat.le_of_ble_eq_true rfl⟩) (my_preV hK hN (hP.sub [0, 1, 2, 3] rfl) (hD.sub [0, 1, 2, 3] (by decide +kernel) rfl) 0 rfl rfl) rfl rfl hl.1 rfl (lv_room (Nat.le_of_ble_eq_true rfl)) d_M_read_21 ⟨by rw [hR]; exact Nat.le_of_ble_eq_true rfl, by rw [hR]; exact Nat.le_of_ble_eq_true rfl⟩) hP hD hS hA [0, 1, 2, 3] [4] rfl rfl (by decide +kernel) (by decide +kernel) (fun u9 H locs hw_21 hP hD hS => ?_)
        obtain ⟨f2_21, rfl⟩ : ∃ z, z = u9 := ⟨_, rfl⟩
        have hw_21 : sgI f2_21 (64 * jj) (pfN 4 (N jj)) (pf 4 (N jj) C9) ∧ sgO f2_21 fN (64 * jj) 64 := hw_21
        have hPD : my_PD (dC, dI) vwCl A [((g 8), Sum.inl (cI, 6000, Sum.inl vIn)), (o, Sum.inr (9, mO g 4 fShift fModels fItems fEnded fLow fRange fCache fPend fGoes fOuts (nI is.length) fReads fBad fIR fAsk fBAsk fCode fRL fRR fX fWrites 0)), ((g 0), Sum.inl (cI, 8, Sum.inl vMany)), ((g 1), Sum.inl (cI, 512, Sum.inl vCounts)), ((g 3), Sum.inl (cI, 512, Sum.inl f2_21))] H := ⟨hP, hD⟩
        have hP := hPD.1
        have hD := hPD.2
        have hT8 := TB_step hT9 (MD_N hMD) hjl hw_21.2 (tab_pf hfm hn64 (by omega) hB9 hw_21.1)
        obtain ⟨v_9, ev_9⟩ : ∃ y : Int32, y = (nI jj) + (1) := ⟨_, rfl⟩
        refine lv_iinc (v := v_9) (lv' := [(1, Value.int v_9), (0, Value.ref o)]) hx hb d_M_read_24 hl (k := 0) rfl (by rw [ev_9]; rfl) (by decide) rfl (fun ls hl => ?_)
        have z9 : v_9 = nI (jj + 1) := by rw [ev_9]; exact nI_1 _
        subst z9
        refine lv_goto (tgt := 7) hx hb d_M_read_27 (by decide) ?_
        exact ih9_7 _ (by first | omega | (omega)) (jj + 1) f2_21 rfl (by omega) (hT8) H locs ls (hP.sub [1, 2, 3, 4, 0] rfl) (hD.sub [1, 2, 3, 4, 0] (by decide +kernel) rfl) hS (lv_sub hl [0, 1] rfl)
  exact J_7 _ (0 : Nat) vThen rfl (Nat.zero_le _) (TB_0 _ _ _) H locs ls (hP.sub [0, 1, 2, 3, 4] rfl) (hD.sub [0, 1, 2, 3, 4] (by decide +kernel) rfl) hS (lv_sub hl [0, 1] rfl)
end
section
theorem d_Law_law_0 : decode code 0 = .ok (.new 7, 3) := by decide +kernel
theorem d_Law_law_3 : decode code 3 = .ok (.dup, 1) := by decide +kernel
theorem d_Law_law_4 : decode code 4 = .ok (.aload_n 0, 1) := by decide +kernel
theorem d_Law_law_5 : decode code 5 = .ok (.iconst 0, 1) := by decide +kernel
theorem d_Law_law_6 : decode code 6 = .ok (.invokestatic 9, 3) := by decide +kernel
theorem d_Law_law_9 : decode code 9 = .ok (.aload_n 0, 1) := by decide +kernel
theorem d_Law_law_10 : decode code 10 = .ok (.iconst 1, 1) := by decide +kernel
theorem d_Law_law_11 : decode code 11 = .ok (.invokestatic 9, 3) := by decide +kernel
theorem d_Law_law_14 : decode code 14 = .ok (.invokespecial 15, 3) := by decide +kernel
theorem d_Law_law_17 : decode code 17 = .ok (.astore_n 1, 1) := by decide +kernel
theorem d_Law_law_18 : decode code 18 = .ok (.new 18, 3) := by decide +kernel
theorem d_Law_law_21 : decode code 21 = .ok (.dup, 1) := by decide +kernel
theorem d_Law_law_22 : decode code 22 = .ok (.aload_n 0, 1) := by decide +kernel
theorem d_Law_law_23 : decode code 23 = .ok (.iconst 0, 1) := by decide +kernel
theorem d_Law_law_24 : decode code 24 = .ok (.invokestatic 9, 3) := by decide +kernel
theorem d_Law_law_27 : decode code 27 = .ok (.aload_n 0, 1) := by decide +kernel
theorem d_Law_law_28 : decode code 28 = .ok (.iconst 1, 1) := by decide +kernel
theorem d_Law_law_29 : decode code 29 = .ok (.invokestatic 9, 3) := by decide +kernel
theorem d_Law_law_32 : decode code 32 = .ok (.invokespecial 20, 3) := by decide +kernel
theorem d_Law_law_35 : decode code 35 = .ok (.astore_n 2, 1) := by decide +kernel
theorem d_Law_law_36 : decode code 36 = .ok (.iconst 2, 1) := by decide +kernel
theorem d_Law_law_37 : decode code 37 = .ok (.istore_n 3, 1) := by decide +kernel
theorem d_Law_law_38 : decode code 38 = .ok (.iload_n 3, 1) := by decide +kernel
theorem d_Law_law_39 : decode code 39 = .ok (.aload_n 0, 1) := by decide +kernel
theorem d_Law_law_40 : decode code 40 = .ok (.arraylength, 1) := by decide +kernel
theorem d_Law_law_41 : decode code 41 = .ok (.iconst 4, 1) := by decide +kernel
theorem d_Law_law_42 : decode code 42 = .ok (.isub, 1) := by decide +kernel
theorem d_Law_law_43 : decode code 43 = .ok (.if_icmp .gt 493, 3) := by decide +kernel
theorem d_Law_law_46 : decode code 46 = .ok (.aload_n 0, 1) := by decide +kernel
theorem d_Law_law_47 : decode code 47 = .ok (.iload_n 3, 1) := by decide +kernel
theorem d_Law_law_48 : decode code 48 = .ok (.iaload, 1) := by decide +kernel
theorem d_Law_law_49 : decode code 49 = .ok (.bipush 15, 2) := by decide +kernel
theorem d_Law_law_51 : decode code 51 = .ok (.iand, 1) := by decide +kernel
theorem d_Law_law_52 : decode code 52 = .ok (.tableswitch 478 0 15 #[80, 103, 146, 179, 212, 225, 238, 261, 284, 307, 340, 353, 376, 399, 422, 445], 80) := by decide +kernel
theorem d_Law_law_132 : decode code 132 = .ok (.aload_n 1, 1) := by decide +kernel
theorem d_Law_law_133 : decode code 133 = .ok (.aload_n 0, 1) := by decide +kernel
theorem d_Law_law_134 : decode code 134 = .ok (.iload_n 3, 1) := by decide +kernel
theorem d_Law_law_135 : decode code 135 = .ok (.iconst 1, 1) := by decide +kernel
theorem d_Law_law_136 : decode code 136 = .ok (.iadd, 1) := by decide +kernel
theorem d_Law_law_137 : decode code 137 = .ok (.iaload, 1) := by decide +kernel
theorem d_Law_law_138 : decode code 138 = .ok (.invokevirtual 21, 3) := by decide +kernel
theorem d_Law_law_141 : decode code 141 = .ok (.pop, 1) := by decide +kernel
theorem d_Law_law_142 : decode code 142 = .ok (.aload_n 2, 1) := by decide +kernel
theorem d_Law_law_143 : decode code 143 = .ok (.aload_n 0, 1) := by decide +kernel
theorem d_Law_law_144 : decode code 144 = .ok (.iload_n 3, 1) := by decide +kernel
theorem d_Law_law_145 : decode code 145 = .ok (.iconst 1, 1) := by decide +kernel
theorem d_Law_law_146 : decode code 146 = .ok (.iadd, 1) := by decide +kernel
theorem d_Law_law_147 : decode code 147 = .ok (.iaload, 1) := by decide +kernel
theorem d_Law_law_148 : decode code 148 = .ok (.invokevirtual 25, 3) := by decide +kernel
theorem d_Law_law_151 : decode code 151 = .ok (.pop, 1) := by decide +kernel
theorem d_Law_law_152 : decode code 152 = .ok (.goto 378, 3) := by decide +kernel
theorem d_Law_law_155 : decode code 155 = .ok (.aload_n 1, 1) := by decide +kernel
theorem d_Law_law_156 : decode code 156 = .ok (.aload_n 0, 1) := by decide +kernel
theorem d_Law_law_157 : decode code 157 = .ok (.iload_n 3, 1) := by decide +kernel
theorem d_Law_law_158 : decode code 158 = .ok (.iconst 1, 1) := by decide +kernel
theorem d_Law_law_159 : decode code 159 = .ok (.iadd, 1) := by decide +kernel
theorem d_Law_law_160 : decode code 160 = .ok (.iaload, 1) := by decide +kernel
theorem d_Law_law_161 : decode code 161 = .ok (.aload_n 0, 1) := by decide +kernel
theorem d_Law_law_162 : decode code 162 = .ok (.iload_n 3, 1) := by decide +kernel
theorem d_Law_law_163 : decode code 163 = .ok (.iconst 2, 1) := by decide +kernel
theorem d_Law_law_164 : decode code 164 = .ok (.iadd, 1) := by decide +kernel
theorem d_Law_law_165 : decode code 165 = .ok (.iaload, 1) := by decide +kernel
theorem d_Law_law_166 : decode code 166 = .ok (.aload_n 0, 1) := by decide +kernel
theorem d_Law_law_167 : decode code 167 = .ok (.iload_n 3, 1) := by decide +kernel
theorem d_Law_law_168 : decode code 168 = .ok (.iconst 3, 1) := by decide +kernel
theorem d_Law_law_169 : decode code 169 = .ok (.iadd, 1) := by decide +kernel
theorem d_Law_law_170 : decode code 170 = .ok (.iaload, 1) := by decide +kernel
theorem d_Law_law_171 : decode code 171 = .ok (.invokevirtual 26, 3) := by decide +kernel
theorem d_Law_law_174 : decode code 174 = .ok (.pop, 1) := by decide +kernel
theorem d_Law_law_175 : decode code 175 = .ok (.aload_n 2, 1) := by decide +kernel
theorem d_Law_law_176 : decode code 176 = .ok (.aload_n 0, 1) := by decide +kernel
theorem d_Law_law_177 : decode code 177 = .ok (.iload_n 3, 1) := by decide +kernel
theorem d_Law_law_178 : decode code 178 = .ok (.iconst 1, 1) := by decide +kernel
theorem d_Law_law_179 : decode code 179 = .ok (.iadd, 1) := by decide +kernel
theorem d_Law_law_180 : decode code 180 = .ok (.iaload, 1) := by decide +kernel
theorem d_Law_law_181 : decode code 181 = .ok (.aload_n 0, 1) := by decide +kernel
theorem d_Law_law_182 : decode code 182 = .ok (.iload_n 3, 1) := by decide +kernel
theorem d_Law_law_183 : decode code 183 = .ok (.iconst 2, 1) := by decide +kernel
theorem d_Law_law_184 : decode code 184 = .ok (.iadd, 1) := by decide +kernel
theorem d_Law_law_185 : decode code 185 = .ok (.iaload, 1) := by decide +kernel
theorem d_Law_law_186 : decode code 186 = .ok (.aload_n 0, 1) := by decide +kernel
theorem d_Law_law_187 : decode code 187 = .ok (.iload_n 3, 1) := by decide +kernel
theorem d_Law_law_188 : decode code 188 = .ok (.iconst 3, 1) := by decide +kernel
theorem d_Law_law_189 : decode code 189 = .ok (.iadd, 1) := by decide +kernel
theorem d_Law_law_190 : decode code 190 = .ok (.iaload, 1) := by decide +kernel
theorem d_Law_law_191 : decode code 191 = .ok (.invokevirtual 30, 3) := by decide +kernel
theorem d_Law_law_194 : decode code 194 = .ok (.pop, 1) := by decide +kernel
theorem d_Law_law_195 : decode code 195 = .ok (.goto 335, 3) := by decide +kernel
theorem d_Law_law_198 : decode code 198 = .ok (.aload_n 1, 1) := by decide +kernel
theorem d_Law_law_199 : decode code 199 = .ok (.aload_n 0, 1) := by decide +kernel
theorem d_Law_law_200 : decode code 200 = .ok (.iload_n 3, 1) := by decide +kernel
theorem d_Law_law_201 : decode code 201 = .ok (.iconst 1, 1) := by decide +kernel
theorem d_Law_law_202 : decode code 202 = .ok (.iadd, 1) := by decide +kernel
theorem d_Law_law_203 : decode code 203 = .ok (.iaload, 1) := by decide +kernel
theorem d_Law_law_204 : decode code 204 = .ok (.aload_n 0, 1) := by decide +kernel
theorem d_Law_law_205 : decode code 205 = .ok (.iload_n 3, 1) := by decide +kernel
theorem d_Law_law_206 : decode code 206 = .ok (.iconst 2, 1) := by decide +kernel
theorem d_Law_law_207 : decode code 207 = .ok (.iadd, 1) := by decide +kernel
theorem d_Law_law_208 : decode code 208 = .ok (.iaload, 1) := by decide +kernel
theorem d_Law_law_209 : decode code 209 = .ok (.invokevirtual 31, 3) := by decide +kernel
theorem d_Law_law_212 : decode code 212 = .ok (.aload_n 2, 1) := by decide +kernel
theorem d_Law_law_213 : decode code 213 = .ok (.aload_n 0, 1) := by decide +kernel
theorem d_Law_law_214 : decode code 214 = .ok (.iload_n 3, 1) := by decide +kernel
theorem d_Law_law_215 : decode code 215 = .ok (.iconst 1, 1) := by decide +kernel
theorem d_Law_law_216 : decode code 216 = .ok (.iadd, 1) := by decide +kernel
theorem d_Law_law_217 : decode code 217 = .ok (.iaload, 1) := by decide +kernel
theorem d_Law_law_218 : decode code 218 = .ok (.aload_n 0, 1) := by decide +kernel
theorem d_Law_law_219 : decode code 219 = .ok (.iload_n 3, 1) := by decide +kernel
theorem d_Law_law_220 : decode code 220 = .ok (.iconst 2, 1) := by decide +kernel
theorem d_Law_law_221 : decode code 221 = .ok (.iadd, 1) := by decide +kernel
theorem d_Law_law_222 : decode code 222 = .ok (.iaload, 1) := by decide +kernel
theorem d_Law_law_223 : decode code 223 = .ok (.invokevirtual 35, 3) := by decide +kernel
theorem d_Law_law_226 : decode code 226 = .ok (.if_icmp .eq 304, 3) := by decide +kernel
theorem d_Law_law_231 : decode code 231 = .ok (.aload_n 1, 1) := by decide +kernel
theorem d_Law_law_232 : decode code 232 = .ok (.aload_n 0, 1) := by decide +kernel
theorem d_Law_law_233 : decode code 233 = .ok (.iload_n 3, 1) := by decide +kernel
theorem d_Law_law_234 : decode code 234 = .ok (.iconst 1, 1) := by decide +kernel
theorem d_Law_law_235 : decode code 235 = .ok (.iadd, 1) := by decide +kernel
theorem d_Law_law_236 : decode code 236 = .ok (.iaload, 1) := by decide +kernel
theorem d_Law_law_237 : decode code 237 = .ok (.aload_n 0, 1) := by decide +kernel
theorem d_Law_law_238 : decode code 238 = .ok (.iload_n 3, 1) := by decide +kernel
theorem d_Law_law_239 : decode code 239 = .ok (.iconst 2, 1) := by decide +kernel
theorem d_Law_law_240 : decode code 240 = .ok (.iadd, 1) := by decide +kernel
theorem d_Law_law_241 : decode code 241 = .ok (.iaload, 1) := by decide +kernel
theorem d_Law_law_242 : decode code 242 = .ok (.invokevirtual 36, 3) := by decide +kernel
theorem d_Law_law_245 : decode code 245 = .ok (.pop, 1) := by decide +kernel
theorem d_Law_law_246 : decode code 246 = .ok (.aload_n 2, 1) := by decide +kernel
theorem d_Law_law_247 : decode code 247 = .ok (.aload_n 0, 1) := by decide +kernel
theorem d_Law_law_248 : decode code 248 = .ok (.iload_n 3, 1) := by decide +kernel
theorem d_Law_law_249 : decode code 249 = .ok (.iconst 1, 1) := by decide +kernel
theorem d_Law_law_250 : decode code 250 = .ok (.iadd, 1) := by decide +kernel
theorem d_Law_law_251 : decode code 251 = .ok (.iaload, 1) := by decide +kernel
theorem d_Law_law_252 : decode code 252 = .ok (.aload_n 0, 1) := by decide +kernel
theorem d_Law_law_253 : decode code 253 = .ok (.iload_n 3, 1) := by decide +kernel
theorem d_Law_law_254 : decode code 254 = .ok (.iconst 2, 1) := by decide +kernel
theorem d_Law_law_255 : decode code 255 = .ok (.iadd, 1) := by decide +kernel
theorem d_Law_law_256 : decode code 256 = .ok (.iaload, 1) := by decide +kernel
theorem d_Law_law_257 : decode code 257 = .ok (.invokevirtual 39, 3) := by decide +kernel
theorem d_Law_law_260 : decode code 260 = .ok (.pop, 1) := by decide +kernel
theorem d_Law_law_261 : decode code 261 = .ok (.goto 269, 3) := by decide +kernel
theorem d_Law_law_264 : decode code 264 = .ok (.aload_n 1, 1) := by decide +kernel
theorem d_Law_law_265 : decode code 265 = .ok (.invokevirtual 40, 3) := by decide +kernel
theorem d_Law_law_268 : decode code 268 = .ok (.pop, 1) := by decide +kernel
theorem d_Law_law_269 : decode code 269 = .ok (.aload_n 2, 1) := by decide +kernel
theorem d_Law_law_270 : decode code 270 = .ok (.invokevirtual 44, 3) := by decide +kernel
theorem d_Law_law_273 : decode code 273 = .ok (.pop, 1) := by decide +kernel
theorem d_Law_law_274 : decode code 274 = .ok (.goto 256, 3) := by decide +kernel
theorem d_Law_law_277 : decode code 277 = .ok (.aload_n 1, 1) := by decide +kernel
theorem d_Law_law_278 : decode code 278 = .ok (.invokevirtual 45, 3) := by decide +kernel
theorem d_Law_law_281 : decode code 281 = .ok (.pop, 1) := by decide +kernel
theorem d_Law_law_282 : decode code 282 = .ok (.aload_n 2, 1) := by decide +kernel
theorem d_Law_law_283 : decode code 283 = .ok (.invokevirtual 48, 3) := by decide +kernel
theorem d_Law_law_286 : decode code 286 = .ok (.pop, 1) := by decide +kernel
theorem d_Law_law_287 : decode code 287 = .ok (.goto 243, 3) := by decide +kernel
theorem d_Law_law_290 : decode code 290 = .ok (.aload_n 1, 1) := by decide +kernel
theorem d_Law_law_291 : decode code 291 = .ok (.aload_n 0, 1) := by decide +kernel
theorem d_Law_law_292 : decode code 292 = .ok (.iload_n 3, 1) := by decide +kernel
theorem d_Law_law_293 : decode code 293 = .ok (.iconst 1, 1) := by decide +kernel
theorem d_Law_law_294 : decode code 294 = .ok (.iadd, 1) := by decide +kernel
theorem d_Law_law_295 : decode code 295 = .ok (.iaload, 1) := by decide +kernel
theorem d_Law_law_296 : decode code 296 = .ok (.invokevirtual 49, 3) := by decide +kernel
theorem d_Law_law_299 : decode code 299 = .ok (.pop, 1) := by decide +kernel
theorem d_Law_law_300 : decode code 300 = .ok (.aload_n 2, 1) := by decide +kernel
theorem d_Law_law_301 : decode code 301 = .ok (.aload_n 0, 1) := by decide +kernel
theorem d_Law_law_302 : decode code 302 = .ok (.iload_n 3, 1) := by decide +kernel
theorem d_Law_law_303 : decode code 303 = .ok (.iconst 1, 1) := by decide +kernel
theorem d_Law_law_304 : decode code 304 = .ok (.iadd, 1) := by decide +kernel
theorem d_Law_law_305 : decode code 305 = .ok (.iaload, 1) := by decide +kernel
theorem d_Law_law_306 : decode code 306 = .ok (.invokevirtual 52, 3) := by decide +kernel
theorem d_Law_law_309 : decode code 309 = .ok (.pop, 1) := by decide +kernel
theorem d_Law_law_310 : decode code 310 = .ok (.goto 220, 3) := by decide +kernel
theorem d_Law_law_313 : decode code 313 = .ok (.aload_n 1, 1) := by decide +kernel
theorem d_Law_law_314 : decode code 314 = .ok (.aload_n 0, 1) := by decide +kernel
theorem d_Law_law_315 : decode code 315 = .ok (.iload_n 3, 1) := by decide +kernel
theorem d_Law_law_316 : decode code 316 = .ok (.iconst 1, 1) := by decide +kernel
theorem d_Law_law_317 : decode code 317 = .ok (.iadd, 1) := by decide +kernel
theorem d_Law_law_318 : decode code 318 = .ok (.iaload, 1) := by decide +kernel
theorem d_Law_law_319 : decode code 319 = .ok (.invokevirtual 53, 3) := by decide +kernel
theorem d_Law_law_322 : decode code 322 = .ok (.pop, 1) := by decide +kernel
theorem d_Law_law_323 : decode code 323 = .ok (.aload_n 2, 1) := by decide +kernel
theorem d_Law_law_324 : decode code 324 = .ok (.aload_n 0, 1) := by decide +kernel
theorem d_Law_law_325 : decode code 325 = .ok (.iload_n 3, 1) := by decide +kernel
theorem d_Law_law_326 : decode code 326 = .ok (.iconst 1, 1) := by decide +kernel
theorem d_Law_law_327 : decode code 327 = .ok (.iadd, 1) := by decide +kernel
theorem d_Law_law_328 : decode code 328 = .ok (.iaload, 1) := by decide +kernel
theorem d_Law_law_329 : decode code 329 = .ok (.invokevirtual 56, 3) := by decide +kernel
theorem d_Law_law_332 : decode code 332 = .ok (.pop, 1) := by decide +kernel
theorem d_Law_law_333 : decode code 333 = .ok (.goto 197, 3) := by decide +kernel
theorem d_Law_law_336 : decode code 336 = .ok (.aload_n 1, 1) := by decide +kernel
theorem d_Law_law_337 : decode code 337 = .ok (.aload_n 0, 1) := by decide +kernel
theorem d_Law_law_338 : decode code 338 = .ok (.iload_n 3, 1) := by decide +kernel
theorem d_Law_law_339 : decode code 339 = .ok (.iconst 1, 1) := by decide +kernel
theorem d_Law_law_340 : decode code 340 = .ok (.iadd, 1) := by decide +kernel
theorem d_Law_law_341 : decode code 341 = .ok (.iaload, 1) := by decide +kernel
theorem d_Law_law_342 : decode code 342 = .ok (.invokevirtual 57, 3) := by decide +kernel
theorem d_Law_law_345 : decode code 345 = .ok (.pop, 1) := by decide +kernel
theorem d_Law_law_346 : decode code 346 = .ok (.aload_n 2, 1) := by decide +kernel
theorem d_Law_law_347 : decode code 347 = .ok (.aload_n 0, 1) := by decide +kernel
theorem d_Law_law_348 : decode code 348 = .ok (.iload_n 3, 1) := by decide +kernel
theorem d_Law_law_349 : decode code 349 = .ok (.iconst 1, 1) := by decide +kernel
theorem d_Law_law_350 : decode code 350 = .ok (.iadd, 1) := by decide +kernel
theorem d_Law_law_351 : decode code 351 = .ok (.iaload, 1) := by decide +kernel
theorem d_Law_law_352 : decode code 352 = .ok (.invokevirtual 60, 3) := by decide +kernel
theorem d_Law_law_355 : decode code 355 = .ok (.pop, 1) := by decide +kernel
theorem d_Law_law_356 : decode code 356 = .ok (.goto 174, 3) := by decide +kernel
theorem d_Law_law_359 : decode code 359 = .ok (.aload_n 1, 1) := by decide +kernel
theorem d_Law_law_360 : decode code 360 = .ok (.aload_n 0, 1) := by decide +kernel
theorem d_Law_law_361 : decode code 361 = .ok (.iload_n 3, 1) := by decide +kernel
theorem d_Law_law_362 : decode code 362 = .ok (.iconst 1, 1) := by decide +kernel
theorem d_Law_law_363 : decode code 363 = .ok (.iadd, 1) := by decide +kernel
theorem d_Law_law_364 : decode code 364 = .ok (.iaload, 1) := by decide +kernel
theorem d_Law_law_365 : decode code 365 = .ok (.aload_n 0, 1) := by decide +kernel
theorem d_Law_law_366 : decode code 366 = .ok (.iload_n 3, 1) := by decide +kernel
theorem d_Law_law_367 : decode code 367 = .ok (.iconst 2, 1) := by decide +kernel
theorem d_Law_law_368 : decode code 368 = .ok (.iadd, 1) := by decide +kernel
theorem d_Law_law_369 : decode code 369 = .ok (.iaload, 1) := by decide +kernel
theorem d_Law_law_370 : decode code 370 = .ok (.invokevirtual 61, 3) := by decide +kernel
theorem d_Law_law_373 : decode code 373 = .ok (.pop, 1) := by decide +kernel
theorem d_Law_law_374 : decode code 374 = .ok (.aload_n 2, 1) := by decide +kernel
theorem d_Law_law_375 : decode code 375 = .ok (.aload_n 0, 1) := by decide +kernel
theorem d_Law_law_376 : decode code 376 = .ok (.iload_n 3, 1) := by decide +kernel
theorem d_Law_law_377 : decode code 377 = .ok (.iconst 1, 1) := by decide +kernel
theorem d_Law_law_378 : decode code 378 = .ok (.iadd, 1) := by decide +kernel
theorem d_Law_law_379 : decode code 379 = .ok (.iaload, 1) := by decide +kernel
theorem d_Law_law_380 : decode code 380 = .ok (.aload_n 0, 1) := by decide +kernel
theorem d_Law_law_381 : decode code 381 = .ok (.iload_n 3, 1) := by decide +kernel
theorem d_Law_law_382 : decode code 382 = .ok (.iconst 2, 1) := by decide +kernel
theorem d_Law_law_383 : decode code 383 = .ok (.iadd, 1) := by decide +kernel
theorem d_Law_law_384 : decode code 384 = .ok (.iaload, 1) := by decide +kernel
theorem d_Law_law_385 : decode code 385 = .ok (.invokevirtual 64, 3) := by decide +kernel
theorem d_Law_law_388 : decode code 388 = .ok (.pop, 1) := by decide +kernel
theorem d_Law_law_389 : decode code 389 = .ok (.goto 141, 3) := by decide +kernel
theorem d_Law_law_392 : decode code 392 = .ok (.aload_n 1, 1) := by decide +kernel
theorem d_Law_law_393 : decode code 393 = .ok (.invokevirtual 65, 3) := by decide +kernel
theorem d_Law_law_396 : decode code 396 = .ok (.pop, 1) := by decide +kernel
theorem d_Law_law_397 : decode code 397 = .ok (.aload_n 2, 1) := by decide +kernel
theorem d_Law_law_398 : decode code 398 = .ok (.invokevirtual 68, 3) := by decide +kernel
theorem d_Law_law_401 : decode code 401 = .ok (.pop, 1) := by decide +kernel
theorem d_Law_law_402 : decode code 402 = .ok (.goto 128, 3) := by decide +kernel
theorem d_Law_law_405 : decode code 405 = .ok (.aload_n 1, 1) := by decide +kernel
theorem d_Law_law_406 : decode code 406 = .ok (.aload_n 0, 1) := by decide +kernel
theorem d_Law_law_407 : decode code 407 = .ok (.iload_n 3, 1) := by decide +kernel
theorem d_Law_law_408 : decode code 408 = .ok (.iconst 1, 1) := by decide +kernel
theorem d_Law_law_409 : decode code 409 = .ok (.iadd, 1) := by decide +kernel
theorem d_Law_law_410 : decode code 410 = .ok (.iaload, 1) := by decide +kernel
theorem d_Law_law_411 : decode code 411 = .ok (.invokevirtual 69, 3) := by decide +kernel
theorem d_Law_law_414 : decode code 414 = .ok (.pop, 1) := by decide +kernel
theorem d_Law_law_415 : decode code 415 = .ok (.aload_n 2, 1) := by decide +kernel
theorem d_Law_law_416 : decode code 416 = .ok (.aload_n 0, 1) := by decide +kernel
theorem d_Law_law_417 : decode code 417 = .ok (.iload_n 3, 1) := by decide +kernel
theorem d_Law_law_418 : decode code 418 = .ok (.iconst 1, 1) := by decide +kernel
theorem d_Law_law_419 : decode code 419 = .ok (.iadd, 1) := by decide +kernel
theorem d_Law_law_420 : decode code 420 = .ok (.iaload, 1) := by decide +kernel
theorem d_Law_law_421 : decode code 421 = .ok (.invokevirtual 72, 3) := by decide +kernel
theorem d_Law_law_424 : decode code 424 = .ok (.pop, 1) := by decide +kernel
theorem d_Law_law_425 : decode code 425 = .ok (.goto 105, 3) := by decide +kernel
theorem d_Law_law_428 : decode code 428 = .ok (.aload_n 1, 1) := by decide +kernel
theorem d_Law_law_429 : decode code 429 = .ok (.aload_n 0, 1) := by decide +kernel
theorem d_Law_law_430 : decode code 430 = .ok (.iload_n 3, 1) := by decide +kernel
theorem d_Law_law_431 : decode code 431 = .ok (.iconst 1, 1) := by decide +kernel
theorem d_Law_law_432 : decode code 432 = .ok (.iadd, 1) := by decide +kernel
theorem d_Law_law_433 : decode code 433 = .ok (.iaload, 1) := by decide +kernel
theorem d_Law_law_434 : decode code 434 = .ok (.invokevirtual 73, 3) := by decide +kernel
theorem d_Law_law_437 : decode code 437 = .ok (.pop, 1) := by decide +kernel
theorem d_Law_law_438 : decode code 438 = .ok (.aload_n 2, 1) := by decide +kernel
theorem d_Law_law_439 : decode code 439 = .ok (.aload_n 0, 1) := by decide +kernel
theorem d_Law_law_440 : decode code 440 = .ok (.iload_n 3, 1) := by decide +kernel
theorem d_Law_law_441 : decode code 441 = .ok (.iconst 1, 1) := by decide +kernel
theorem d_Law_law_442 : decode code 442 = .ok (.iadd, 1) := by decide +kernel
theorem d_Law_law_443 : decode code 443 = .ok (.iaload, 1) := by decide +kernel
theorem d_Law_law_444 : decode code 444 = .ok (.invokevirtual 76, 3) := by decide +kernel
theorem d_Law_law_447 : decode code 447 = .ok (.pop, 1) := by decide +kernel
theorem d_Law_law_448 : decode code 448 = .ok (.goto 82, 3) := by decide +kernel
theorem d_Law_law_451 : decode code 451 = .ok (.aload_n 1, 1) := by decide +kernel
theorem d_Law_law_452 : decode code 452 = .ok (.aload_n 0, 1) := by decide +kernel
theorem d_Law_law_453 : decode code 453 = .ok (.iload_n 3, 1) := by decide +kernel
theorem d_Law_law_454 : decode code 454 = .ok (.iconst 1, 1) := by decide +kernel
theorem d_Law_law_455 : decode code 455 = .ok (.iadd, 1) := by decide +kernel
theorem d_Law_law_456 : decode code 456 = .ok (.iaload, 1) := by decide +kernel
theorem d_Law_law_457 : decode code 457 = .ok (.invokevirtual 77, 3) := by decide +kernel
theorem d_Law_law_460 : decode code 460 = .ok (.pop, 1) := by decide +kernel
theorem d_Law_law_461 : decode code 461 = .ok (.aload_n 2, 1) := by decide +kernel
theorem d_Law_law_462 : decode code 462 = .ok (.aload_n 0, 1) := by decide +kernel
theorem d_Law_law_463 : decode code 463 = .ok (.iload_n 3, 1) := by decide +kernel
theorem d_Law_law_464 : decode code 464 = .ok (.iconst 1, 1) := by decide +kernel
theorem d_Law_law_465 : decode code 465 = .ok (.iadd, 1) := by decide +kernel
theorem d_Law_law_466 : decode code 466 = .ok (.iaload, 1) := by decide +kernel
theorem d_Law_law_467 : decode code 467 = .ok (.invokevirtual 80, 3) := by decide +kernel
theorem d_Law_law_470 : decode code 470 = .ok (.pop, 1) := by decide +kernel
theorem d_Law_law_471 : decode code 471 = .ok (.goto 59, 3) := by decide +kernel
theorem d_Law_law_474 : decode code 474 = .ok (.aload_n 1, 1) := by decide +kernel
theorem d_Law_law_475 : decode code 475 = .ok (.aload_n 0, 1) := by decide +kernel
theorem d_Law_law_476 : decode code 476 = .ok (.iload_n 3, 1) := by decide +kernel
theorem d_Law_law_477 : decode code 477 = .ok (.iconst 1, 1) := by decide +kernel
theorem d_Law_law_478 : decode code 478 = .ok (.iadd, 1) := by decide +kernel
theorem d_Law_law_479 : decode code 479 = .ok (.iaload, 1) := by decide +kernel
theorem d_Law_law_480 : decode code 480 = .ok (.invokevirtual 81, 3) := by decide +kernel
theorem d_Law_law_483 : decode code 483 = .ok (.pop2, 1) := by decide +kernel
theorem d_Law_law_484 : decode code 484 = .ok (.aload_n 2, 1) := by decide +kernel
theorem d_Law_law_485 : decode code 485 = .ok (.aload_n 0, 1) := by decide +kernel
theorem d_Law_law_486 : decode code 486 = .ok (.iload_n 3, 1) := by decide +kernel
theorem d_Law_law_487 : decode code 487 = .ok (.iconst 1, 1) := by decide +kernel
theorem d_Law_law_488 : decode code 488 = .ok (.iadd, 1) := by decide +kernel
theorem d_Law_law_489 : decode code 489 = .ok (.iaload, 1) := by decide +kernel
theorem d_Law_law_490 : decode code 490 = .ok (.invokevirtual 85, 3) := by decide +kernel
theorem d_Law_law_493 : decode code 493 = .ok (.pop2, 1) := by decide +kernel
theorem d_Law_law_494 : decode code 494 = .ok (.goto 36, 3) := by decide +kernel
theorem d_Law_law_497 : decode code 497 = .ok (.aload_n 1, 1) := by decide +kernel
theorem d_Law_law_498 : decode code 498 = .ok (.aload_n 0, 1) := by decide +kernel
theorem d_Law_law_499 : decode code 499 = .ok (.iload_n 3, 1) := by decide +kernel
theorem d_Law_law_500 : decode code 500 = .ok (.iconst 1, 1) := by decide +kernel
theorem d_Law_law_501 : decode code 501 = .ok (.iadd, 1) := by decide +kernel
theorem d_Law_law_502 : decode code 502 = .ok (.iaload, 1) := by decide +kernel
theorem d_Law_law_503 : decode code 503 = .ok (.aload_n 0, 1) := by decide +kernel
theorem d_Law_law_504 : decode code 504 = .ok (.iload_n 3, 1) := by decide +kernel
theorem d_Law_law_505 : decode code 505 = .ok (.iconst 2, 1) := by decide +kernel
theorem d_Law_law_506 : decode code 506 = .ok (.iadd, 1) := by decide +kernel
theorem d_Law_law_507 : decode code 507 = .ok (.iaload, 1) := by decide +kernel
theorem d_Law_law_508 : decode code 508 = .ok (.invokevirtual 86, 3) := by decide +kernel
theorem d_Law_law_511 : decode code 511 = .ok (.pop, 1) := by decide +kernel
theorem d_Law_law_512 : decode code 512 = .ok (.aload_n 2, 1) := by decide +kernel
theorem d_Law_law_513 : decode code 513 = .ok (.aload_n 0, 1) := by decide +kernel
theorem d_Law_law_514 : decode code 514 = .ok (.iload_n 3, 1) := by decide +kernel
theorem d_Law_law_515 : decode code 515 = .ok (.iconst 1, 1) := by decide +kernel
theorem d_Law_law_516 : decode code 516 = .ok (.iadd, 1) := by decide +kernel
theorem d_Law_law_517 : decode code 517 = .ok (.iaload, 1) := by decide +kernel
theorem d_Law_law_518 : decode code 518 = .ok (.aload_n 0, 1) := by decide +kernel
theorem d_Law_law_519 : decode code 519 = .ok (.iload_n 3, 1) := by decide +kernel
theorem d_Law_law_520 : decode code 520 = .ok (.iconst 2, 1) := by decide +kernel
theorem d_Law_law_521 : decode code 521 = .ok (.iadd, 1) := by decide +kernel
theorem d_Law_law_522 : decode code 522 = .ok (.iaload, 1) := by decide +kernel
theorem d_Law_law_523 : decode code 523 = .ok (.invokevirtual 89, 3) := by decide +kernel
theorem d_Law_law_526 : decode code 526 = .ok (.pop, 1) := by decide +kernel
theorem d_Law_law_527 : decode code 527 = .ok (.goto 3, 3) := by decide +kernel
theorem d_Law_law_530 : decode code 530 = .ok (.iinc 3 4, 3) := by decide +kernel
theorem d_Law_law_533 : decode code 533 = .ok (.goto (-495), 3) := by decide +kernel
theorem d_Law_law_536 : decode code 536 = .ok (.iconst 1, 1) := by decide +kernel
theorem d_Law_law_537 : decode code 537 = .ok (.ireturn, 1) := by decide +kernel
end
section
/-! THE LAW: what both objects are between two calls -/
theorem mo_cs (z : Int32) : (z < 2 ∨ 64 < z) ∨ ∃ ns, 2 ≤ ns ∧ ns ≤ 64 ∧ z = nI ns := by
  by_cases h1 : z < 2
  · exact Or.inl (Or.inl h1)
  · by_cases h2 : 64 < z
    · exact Or.inl (Or.inr h2)
    · right
      obtain ⟨n, a, b, e⟩ := in_of2 (a := 2) (b := 64) (p := z) (by decide) (by decide) ⟨Int32.not_lt.mp h1, Int32.not_lt.mp h2⟩
      exact ⟨n, a, b, e⟩
theorem md_cs (z : Int32) {k : Nat} (hk : k ≤ 8) : (z < 0 ∨ nI k ≤ z) ∨ ∃ j, j < k ∧ z = nI j := by
  by_cases h1 : z < 0
  · exact Or.inl (Or.inl h1)
  · by_cases h2 : nI k ≤ z
    · exact Or.inl (Or.inr h2)
    · right
      rw [Int32.lt_iff_toInt_lt] at h1
      rw [Int32.le_iff_toInt_le, nI_toInt (by omega)] at h2
      have e0 : (0 : Int32).toInt = 0 := rfl
      refine ⟨z.toInt.toNat, by omega, ?_⟩
      apply Int32.toInt_inj.mp
      rw [nI_toInt (by omega)]
      omega
theorem mb_push (cI : ClassId) (X : va_W) (ms : List MB) (x : MB) : ((X ++ mbC cI x) ++ mbsC cI ms).Perm (X ++ mbsC cI (ms ++ [x])) := by
  have h := mb_out cI X ms [] x
  have e : mbsC cI ([] : List MB) = [] := rfl
  rw [e, List.append_nil] at h
  exact h
theorem mf_push {mf : Nat → Option Nat} {ms : List MB} {x : MB} (h : mfOk mf ms) (h8 : ms.length < 8) : mfOk (va_up mf ms.length (some x.1)) (ms ++ [x]) := by
  intro i hi
  by_cases e : i = ms.length
  · subst e
    rw [va_up_self, mb_get (a := ms) (b := []) (x := x)]
    rfl
  · rw [va_up_ne _ _ e, h i hi]
    rcases Nat.lt_or_ge i ms.length with q | q
    · rw [List.getElem?_append_left q]
    · rw [List.getElem?_eq_none (by omega), List.getElem?_eq_none (by rw [List.length_append, List.length_singleton]; omega)]
theorem ok_push {ms : List MB} {x : MB} (h : ∀ y ∈ ms, mbOk y) (hx : mbOk x) : ∀ y ∈ ms ++ [x], mbOk y := by
  intro y hy
  rcases List.mem_append.mp hy with q | q
  · exact h y q
  · rw [List.mem_singleton.mp q]; exact hx
theorem pm_ca {α : Type} (a b c : List α) : (a ++ (b ++ c)).Perm (b ++ (a ++ c)) := by
  rw [← List.append_assoc, ← List.append_assoc]
  exact List.Perm.append_right _ List.perm_append_comm
theorem pm_5 {α : Type} (P Hd O1 O2 Q : List α) : (P ++ ((Hd ++ (O1 ++ O2)) ++ Q)).Perm (O1 ++ (Hd ++ (O2 ++ (P ++ Q)))) := by
  rw [List.append_assoc Hd, List.append_assoc O1]
  refine (pm_ca P Hd _).trans ?_
  refine ((pm_ca P O1 _).append_left Hd).trans ?_
  refine (pm_ca Hd O1 _).trans ?_
  exact (((pm_ca P O2 Q).append_left Hd).append_left O1)
def mbH (cI : ClassId) (x : MB) : va_W := [(x.1, Sum.inr (8, [Value.ref x.2.1, Value.ref x.2.2.2.2.1.1, Value.ref x.2.2.2.2.2.1])), (x.2.1, Sum.inl (cI, x.2.2.1, Sum.inl x.2.2.2.1))]
theorem mb_outE {cI : ClassId} {ms a b : List MB} {x : MB} (X : va_W) (e : ms = a ++ x :: b) : ((X ++ mbC cI x) ++ (mbsC cI a ++ mbsC cI b)).Perm (X ++ mbsC cI ms) := by
  subst e; exact mb_out cI X a b x
theorem mf_someE {mf : Nat → Option Nat} {ms a b : List MB} {x : MB} {j : Nat} (h : mfOk mf ms) (e : ms = a ++ x :: b) (hl : a.length = j) (h8 : j < 8) : mf j = some x.1 := by
  subst e; subst hl; exact mf_some h h8
theorem mb_setE {ms a b : List MB} {x y : MB} (e : ms = a ++ x :: b) (h : mbA y = mbA x) : (a ++ y :: b).map mbA = ms.map mbA := by
  subst e; exact mb_set h
theorem ok_setE {ms a b : List MB} {x y : MB} (h : ∀ z ∈ ms, mbOk z) (e : ms = a ++ x :: b) (hy : mbOk y) : ∀ z ∈ a ++ y :: b, mbOk z := by
  subst e; exact ok_set h hy
theorem MI3_new {M bm km ns : Nat} {N : Nat → Nat} {fItems fGoes : Int32} {vIM vIW vNow f2 : Nat → Int32} (h : MI3 M bm km N fItems fGoes vIM vIW vNow) (hN : ∀ i, i < km → N i ≤ 64) (ho : sgO f2 vNow (64 * km) 64) : MI3 M bm (km + 1) (upN N km ns) fItems fGoes vIM vIW f2 := by
  obtain ⟨its, h1, h2, h3, h4, h5⟩ := h
  refine ⟨its, h1, h2, h3, h4, fun i hlt => ?_⟩
  rcases h5 i hlt with q | ⟨q1, q2, q3, q4, q5, q6⟩
  · exact Or.inl q
  · generalize hit : itA its i = it at q1 q2 q3 q4 q5 q6 ⊢
    have hn := hN _ q2
    have hne : it.2.1 ≠ km := by omega
    have hF : ∀ k, k < N it.2.1 → Fvw f2 it.2.1 k = Fvw vNow it.2.1 k := fun k hk => by
      unfold Fvw
      rw [ho _ (by omega)]
    rw [show upN N km ns = upN N km ns from rfl]
    refine Or.inr ⟨q1, by omega, by rw [upN_n _ hne]; exact q3, ?_, ?_, ?_⟩
    · rw [hF _ q3]; exact q4
    · rw [upN_n _ hne, ns_cg hF]; exact q5
    · rw [upN_n _ hne]
      intro k hk
      rw [ho _ (by omega), q6 k hk, hF k hk]
/-! the law's own helper -/
def cellV (L : Nat) (xs : Nat → Int32) (k : Int32) : Int32 := if nI L ≤ k then 0 else xs k.toNatClampNeg
theorem d_cell_0 : decode method_2_code 0 = .ok (.iload_n 1, 1) := by decide +kernel
theorem d_cell_1 : decode method_2_code 1 = .ok (.aload_n 0, 1) := by decide +kernel
theorem d_cell_2 : decode method_2_code 2 = .ok (.arraylength, 1) := by decide +kernel
theorem d_cell_3 : decode method_2_code 3 = .ok (.if_icmp .ge 9, 3) := by decide +kernel
theorem d_cell_6 : decode method_2_code 6 = .ok (.aload_n 0, 1) := by decide +kernel
theorem d_cell_7 : decode method_2_code 7 = .ok (.iload_n 1, 1) := by decide +kernel
theorem d_cell_8 : decode method_2_code 8 = .ok (.iaload, 1) := by decide +kernel
theorem d_cell_9 : decode method_2_code 9 = .ok (.goto 4, 3) := by decide +kernel
theorem d_cell_12 : decode method_2_code 12 = .ok (.iconst 0, 1) := by decide +kernel
theorem d_cell_13 : decode method_2_code 13 = .ok (.ireturn, 1) := by decide +kernel
def cellP (b L : Nat) (xs : Nat → Int32) (k : Int32) (sz : Nat) (U : State) : Prop := U.heap.size = sz ∧ va_X b L xs U U.heap ∧ L < 2 ^ 31 ∧ ¬ k < 0
theorem c_cell (l : Launch) (b L : Nat) (xs : Nat → Int32) (k : Int32) (sz : Nat) : Met l y_Law_cell (Cond.code y_Law_cell method_2_code 2 (some .int) :: gw) ({ frames := 0, cells := 0, slots := 0, locals := 0 } : Room) (va_Pc [Value.ref b, Value.int k] (cellP b L xs k sz)) (va_Qi (S := Unit) (fun r _ => r = cellV L xs k) (fun _ _ => True) (fun q => sz ≤ q)) 0 0 (fun q => sz ≤ q) := by
  refine Met.ofW (cc := method_2_code) (maxL := 2) (ret := some .int) (by decide) rfl ?_
  intro p e s m args below meth c s₁ B hml hv
  obtain ⟨ha, hsz, hX, hL, hk⟩ := hv
  subst hsz
  have hx := B.exec
  have hb := B.bytes
  have hr := B.returns
  have hlocks := B.notSynchronized
  have hbl : b < s.heap.size := by
    obtain ⟨scr, h1, -⟩ := hX
    exact (Array.getElem?_eq_some_iff.mp h1).1
  have hbA : ¬ (fun q : Nat => s.heap.size ≤ q) b := Nat.not_le.mpr hbl
  have hS : va_S (fun q : Nat => s.heap.size ≤ q) s.heap s.heap [] := va_S.rf
  have hl := lv_entry ([Value.ref b, Value.int k]) (n := 2) (Nat.le_of_ble_eq_true rfl)
  refine W.eq (g2 := F0 m 0 ((lg_sl [Value.ref b, Value.int k] ++ List.replicate (2 - (lg_sl [Value.ref b, Value.int k]).length) Slot.unset).toArray) []) (by rw [ha]; exact lg_entry_eq m [Value.ref b, Value.int k] 2) ?_
  generalize (lg_sl ([Value.ref b, Value.int k] : List Value) ++ List.replicate (2 - (lg_sl ([Value.ref b, Value.int k] : List Value)).length) Slot.unset).toArray = ls at hl ⊢
  have hl : lv_has ls 2 [(0, Value.ref b), (1, Value.int k)] := hl
  refine lv_iload_n hx hb d_cell_0 rfl (lv_at hl 1 rfl) ?_
  refine lv_aload_n hx hb d_cell_1 rfl (lv_at hl 0 rfl) ?_
  refine va_slen hx hb hX hbl hbA hS d_cell_2 ?_
  refine lv_icmp_ge (tgt := 12) hx hb d_cell_3 (by decide) (fun c1 => ?_) (fun c1 => ?_)
  · refine lv_iconst (v := 0) hx hb d_cell_12 (by decide) ?_
    exact W.zret (v := 0) hx hb hr rfl (fun t ht hW => ⟨⟨0, (), rfl, show (0 : Int32) = cellV L xs k from by unfold cellV; rw [if_pos (show nI L ≤ k from c1)], trivial⟩, hS.F ht⟩) (fun q hq => absurd hq List.not_mem_nil) d_cell_13 hlocks
  · refine lv_aload_n hx hb d_cell_6 rfl (lv_at hl 0 rfl) ?_
    refine lv_iload_n hx hb d_cell_7 rfl (lv_at hl 1 rfl) ?_
    refine va_sld hx hb hX hbl hbA hS (I_in' hL hk c1) d_cell_8 ?_
    refine lv_goto (tgt := 13) hx hb d_cell_9 (by decide) ?_
    exact W.zret (v := xs k.toNatClampNeg) hx hb hr rfl (fun t ht hW => ⟨⟨_, (), rfl, show xs k.toNatClampNeg = cellV L xs k from by unfold cellV; rw [if_neg (show ¬ nI L ≤ k from c1)], trivial⟩, hS.F ht⟩) (fun q hq => absurd hq List.not_mem_nil) d_cell_13 hlocks
theorem cell_pre {b L : Nat} {xs : Nat → Int32} {k : Int32} {s : State} {H : Heap} (hX : va_X b L xs s H) (hL : L < 2 ^ 31) (hk : ¬ k < 0) : FrameBlind (va_Pc [Value.ref b, Value.int k] (cellP b L xs k H.size)) ∧ ∀ U : State, U.heap = H → s.WarmedH U.vm → va_Pc [Value.ref b, Value.int k] (cellP b L xs k H.size) ([Value.ref b, Value.int k] : List Value).toArray U :=
  ⟨fun a U g mk q => ⟨q.1, q.2.1, va_X.moved (u := U) (U := U.calling g mk a) (Vm.Alike.refl U.vm) q.2.2.1, q.2.2.2⟩, fun U hU hW => ⟨rfl, by rw [hU], by rw [hU]; exact va_X.moved hW.alike hX, hL, hk⟩⟩
theorem cell_call {p : Program} {l : Launch} {e : Env} {R : Room} {s : State} {m : MethodId} {args : Array Value} {below : List Frame} {meth : Method} {c : Code} {H : Heap} {locs : List Loc} {cells slots : Nat} {Q : State → Prop} {pc : Nat} {ls : Array Slot} {rest : List Value} {D : va_G} {cl : List vw_C} {ws : va_W} {A : Nat → Prop} {b L : Nat} {xs : Nat → Int32}
    (hx : p.tables.exec = Jvm.exec) (hb : c.code = code) (hml : c.maxLocals = 4) (hown : s.vm.findClass "RangeCodersLaw" = some m.cls) (hg : ∀ w ∈ gw, w.before args s = true) (hR : R = room_1) (hX : va_X b L xs s s.heap) (hbl : b < s.heap.size) (hbA : ¬ A b) (hL : L < 2 ^ 31) (hP : va_P D cl ws H) (hS : va_S A s.heap H locs) (hA : ∀ q : Nat, s.heap.size ≤ q → A q) {k : Int32} (hk : ¬ k < 0) (hrest : 2 * (F0 m pc ls (.int k :: .ref b :: rest)).monitorRoom + (rest.map fun v => v.category).sum ≤ 8) (hls : ls.size = 4) (hc : cells ≤ 600000) (hs : slots ≤ 7302250) (hdg : decode code pc = .ok (.invokestatic 9, 3))
    (kk : ∀ (H1 : Heap) (locs1 : List Loc), va_P D cl ws H1 → va_S A s.heap H1 locs1 → W p l e R s m args below meth c H1 locs1 cells slots Q (F0 m (pc + 3) ls (.int (cellV L xs k) :: rest))) : W p l e R s m args below meth c H locs cells slots Q (F0 m pc ls (.int k :: .ref b :: rest)) := by
  have hts : ∀ w ∈ (Cond.code y_M_in prog_14_method_3_code 3 (some .boolean) :: gw), w.before args s = true := List.forall_mem_cons.mpr ⟨hg _ k1064, hg⟩
  have hXH : va_X b L xs s H := hX.kept (hS.2.1 b hbl hbA)
  refine va_calli (A1 := fun q => H.size ≤ q) (free := fun q => H.size ≤ q) (S := Unit) (post := fun r _ => r = cellV L xs k) (B := fun _ _ => True) (va_runS (As := [Value.ref b, Value.int k]) (rest := rest) ⟨hx, hb, hml, hown, hts⟩ (c_cell l b L xs k H.size) (cwS 2 hts (my_gS k914 k915 k0 k916) rfl rfl rfl (by decide +kernel) ⟨by rw [hR]; exact Nat.le_of_ble_eq_true rfl, by rw [hR]; exact Nat.le_of_ble_eq_true rfl⟩) (cell_pre hXH hL hk) rfl rfl hls rfl hrest hdg ⟨by rw [hR]; exact hc, by rw [hR]; exact hs⟩) hS (fun q h1 h2 => absurd h1 (Nat.not_lt.mpr h2)) (fun q h => hA q (Nat.le_trans hS.1 h)) (fun r u t H1 locs1 ht hvm hw hB hz1 hk1 hS1 => ?_)
  subst hw
  exact kk H1 locs1 (fun k2 q hq => (hP k2 q hq).kept (hk1 q.1 (hP k2 q hq).lt (Nat.not_le.mpr (hP k2 q hq).lt))) hS1
end
section
/-! THE CLAIM OUT OF ONE WALK OF THE LAW'S BODY. Your part is whole_start (and what it stands on); all else here is the same for every law, but numbers. -/
def R_law : String := "RangeCodersLaw"
def lw_P (b : Addr) (xs : List Int32) (args : Array Value) (s : State) : Prop := args = #[Value.ref b] ∧ s.IntsAt b xs ∧ xs.length ≤ 2050 ∧ (Jvm.Cond.and given_1 narrow_1).before args s = true
def lw_Q (_ : Array Value) (s : State) (o : Outcome) (t : State) : Prop := o = .returned (some (.int 1)) ∧ Framed s o t [] 600000 7302250
def lw_Z (below : List Frame) (a : Array Value) (s : State) : State → Prop := fun t => ∃ o, t.status = .running ∧ Ended t below o ∧ lw_Q a s o t
/-- the law's own end, with 1 on the stack, nothing written that was there before, its room as the claim has it -/
theorem lw_ret {p : Program} {l : Launch} {e : Env} {s : State} {m : MethodId} {below : List Frame} {meth : Method} {c : Code} {b : Nat} (hx : p.tables.exec = Jvm.exec) (hb : c.code = code) (hr : meth.sig.returnType = ret) (hlocks : meth.locks = false) {pc : Nat} {H : Heap} {ls : Array Slot} (hdg : decode code pc = .ok (.ireturn, 1)) : W p l e room_1 s m #[Value.ref b] below meth c H [] 600000 7302250 (lw_Z below #[Value.ref b] s) (F0 m pc ls [Value.int 1]) := by
  intro T hT X
  obtain ⟨fs, hret, hrun, hended, hW, hframe⟩ := X.leave (v := some (.int 1)) (hlocks := hlocks) (fun h => by rw [hr] at h; cases h)
  have hmeth' : T.vm.method? m = some meth := X.method'
  refine ⟨T.setFrames fs, ?_, .returned (some (.int 1)), hrun, hended, rfl, ⟨_, rfl⟩, hW, hframe⟩
  jvm_step X.here [X.here.top, hx, hb, hdg, hmeth', hr, ret, narrow_b1]
  (try refine ⟨rfl, ?_⟩); (try refine ⟨rfl, ?_⟩)
  first | (intro acts; rw [hret _ acts rfl rfl rfl]) | rw [hret _ _ rfl rfl rfl]
  exact Steps.refl _
/-- what holds at the law's entry: the machine, the code, the tables' words (any of lw_tbl by 'hts w (by decide +kernel)'), the script of L ints xs at the cell b, what the Statement gives of the start (any of its parts by flat_of_before) -/
def lw_At (p : Program) (s : State) (m : MethodId) (meth : Method) (c : Code) (b L : Nat) (xs : Nat → Int32) : Prop :=
  p.tables.exec = Jvm.exec ∧ c.code = code ∧ meth.sig.returnType = ret ∧ c.maxLocals = 4 ∧ s.vm.findClass R_law = some m.cls ∧ (∀ w ∈ lw_tbl, w.before #[Value.ref b] s = true) ∧ va_X b L xs s s.heap ∧ b < s.heap.size ∧ meth.locks = false ∧ (Jvm.Cond.and given_1 narrow_1).before #[Value.ref b] s = true
theorem loop_le {L i : Nat} (hL : L ≤ 2050) (hi : i ≤ 2060) (h : ¬ Int32.ofNat L - 4 < nI i) : i + 4 ≤ L := by
  have e1 : (Int32.ofNat L).toInt = (L : Int) := nI_toInt (n := L) (by omega)
  have e4 : (4 : Int32).toInt = 4 := rfl
  rw [Int32.lt_iff_toInt_lt, Int32.toInt_sub, e1, e4, nI_toInt (by omega)] at h
  rw [Int.bmod_eq_of_le (by omega) (by omega)] at h
  omega
theorem sw_cs {v : Int32} (h : ¬ (v.toInt < 0 ∨ 15 < v.toInt)) : ∃ j, j < 16 ∧ v = nI j := ⟨v.toInt.toNat, by omega, Int32.toInt_inj.mp (by rw [nI_toInt (by omega)]; omega)⟩
theorem law_end {p : Program} {l : Launch} {e : Env} {s : State} {m : MethodId} {below : List Frame} {meth : Method} {c : Code} {b : Nat} {A : Nat → Prop} {H : Heap} {locs : List Loc} {dd : Nat} {ls : Array Slot} (hA : ∀ q : Nat, A q → s.heap.size ≤ q) (hx : p.tables.exec = Jvm.exec) (hb : c.code = code) (hr : meth.sig.returnType = ret) (hlocks : meth.locks = false) (hS : va_S A s.heap H locs) (hdd : dd ≤ 300000) : W p l e room_1 s m #[Value.ref b] below meth c H locs dd dd (lw_Z below #[Value.ref b] s) (F0 m 536 ls []) := by
  refine va_forget (fun q hq => hA _ (hS.2.2 q hq)) ?_
  refine lv_iconst (v := 1) hx hb d_Law_law_536 (by decide) ?_
  refine W.widen (k := 600000) (n := 7302250) (by omega) (by omega) ?_
  exact lw_ret hx hb hr hlocks d_Law_law_537
end
