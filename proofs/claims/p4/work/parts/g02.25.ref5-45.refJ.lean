section
set_option maxHeartbeats 1000000 in
set_option maxRecDepth 100000 in
/-- write -/
theorem c_M_write (l : Launch) (dC : Nat → ClassId) (dI : Nat → Nat → Nat) (cI cM cO : ClassId) (sz : Nat) (o : Nat) (g : Nat → Nat) (fForm : Int32) (fShift : Int32) (fModels : Int32) (fItems : Int32) (fEnded : Int32) (fLow : Int64) (fRange : Int64) (fCache : Int32) (fPend : Int32) (fOuts : Int32) (fIns : Int32) (fReads : Int32) (fBad : Int32) (fIR : Int32) (fAsk : Int32) (fBAsk : Int32) (fCode : Int64) (fRL : Int64) (fRR : Int64) (fX : Int64) (fWrites : Int32) (fThrown : Int32) (vGoing : Nat → Int32) (bs : List Nat) (v : Nat) (hG : gIs vGoing bs) (hl9 : bs.length < 9000) (hv : v < 2 ^ 31) : MetV l y_M_write (Cond.code y_M_write prog_14_method_17_code 2 none :: gw) ({ frames := 0, cells := 0, slots := 0, locals := 0 } : Room) (dC, dI) vwCl (kT cI cM cO) [Value.ref o, Value.int (nI v)] [(o, Sum.inr (9, mO g fForm fShift fModels fItems fEnded fLow fRange fCache fPend (nI bs.length) fOuts fIns fReads fBad fIR fAsk fBAsk fCode fRL fRR fX fWrites fThrown)), ((g 6), Sum.inl (cI, 9000, Sum.inl vGoing))] sz (fun (u : (Nat → Int32)) => gIs u (bs ++ [v % 256])) (fun (u : (Nat → Int32)) => [(o, Sum.inr (9, mO g fForm fShift fModels fItems fEnded fLow fRange fCache fPend (nI (bs ++ [v % 256]).length) fOuts fIns fReads fBad fIR fAsk fBAsk fCode fRL fRR fX fWrites fThrown)), ((g 6), Sum.inl (cI, 9000, Sum.inl u))]) 0 0 := by
  refine my_ofV (cc := prog_14_method_17_code) (n := 2) (ret := none) (by decide) rfl (Nat.le_of_ble_eq_true rfl) ?_
  intro p e s m args below meth c R Q A ls H locs hx hb hr hts hown hlocks hml hnm hR hQ hA hl hP hK hN hD hS
  have hg : ∀ w ∈ gw, w.before args s = true := fun w h => hts w (List.mem_cons_of_mem _ h)
  have hown : s.vm.findClass "RangeCodersModel" = some m.cls := hown
  have hl : lv_has ls 2 [(0, Value.ref o), (1, Value.int (nI v))] := hl
  refine lv_aload_n hx hb d_M_write_0 rfl (lv_at hl 0 rfl) ?_
  refine va_get (D := (dC, dI)) (ci := 9) (v := .ref (g 6)) (C := "RangeCodersModel") (T := T_M) (N := 35) hx hb hg in_M hown hK hP 0 rfl rfl 15 (by decide) (hg _ k967) (fun _ h9 => h9) rfl d_M_write_1 ?_
  refine lv_aload_n hx hb d_M_write_4 rfl (lv_at hl 0 rfl) ?_
  refine va_get (D := (dC, dI)) (ci := 9) (v := .int (nI bs.length)) (C := "RangeCodersModel") (T := T_M) (N := 35) hx hb hg in_M hown hK hP 0 rfl rfl 16 (by decide) (hg _ k968) (fun _ h9 => h9) rfl d_M_write_5 ?_
  refine lv_iload_n hx hb d_M_write_8 rfl (lv_at hl 1 rfl) ?_
  refine lv_sipush (v := 255) hx hb d_M_write_9 (by decide) ?_
  refine lv_iand hx hb d_M_write_12 ?_
  refine lv_topi (fun v_1 ev_1 => ?_)
  have hval : v_1 = nI (v % 256) := by subst_vars; exact pk_andN (by omega) 8 (by decide +kernel)
  refine va_iast hx hb hK hP hD hS 1 0 rfl rfl (vp_in_nI hl9 (by decide)) d_M_write_13 (fun H locs hP hD hS => ?_)
  have hPD : my_PD (dC, dI) vwCl A [(o, Sum.inr (9, mO g fForm fShift fModels fItems fEnded fLow fRange fCache fPend (nI bs.length) fOuts fIns fReads fBad fIR fAsk fBAsk fCode fRL fRR fX fWrites fThrown)), ((g 6), Sum.inl (cI, 9000, Sum.inl (upd vGoing (nI bs.length).toNatClampNeg v_1)))] H := ⟨hP, hD⟩
  have hP := hPD.1
  have hD := hPD.2
  refine lv_aload_n hx hb d_M_write_14 rfl (lv_at hl 0 rfl) ?_
  refine lv_dup hx hb d_M_write_15 rfl ?_
  refine va_get (D := (dC, dI)) (ci := 9) (v := .int (nI bs.length)) (C := "RangeCodersModel") (T := T_M) (N := 35) hx hb hg in_M hown hK hP 0 rfl rfl 16 (by decide) (hg _ k968) (fun _ h9 => h9) rfl d_M_write_16 ?_
  refine lv_iconst (v := 1) hx hb d_M_write_19 (by decide) ?_
  refine lv_iadd hx hb d_M_write_20 ?_
  refine lv_topi (fun v_2 ev_2 => ?_)
  have z9 : v_2 = nI (bs ++ [v % 256]).length := by subst_vars; rw [List.length_append]; exact nI_1 _
  subst z9
  refine va_put (D := (dC, dI)) (ci := 9) (v := .int (nI (bs ++ [v % 256]).length)) (ty := .int) (C := "RangeCodersModel") (T := T_M) (N := 35) hx hb hg in_M t_M o_M n_M hown hK hP hD hS 0 rfl rfl 16 (by decide) (hg _ k968) (fun _ h9 => h9) rfl (o_M 16 (by decide)) rfl rfl (Nat.le_of_ble_eq_true rfl) d_M_write_21 (fun H locs hP hD hS => ?_)
  have hPD : my_PD (dC, dI) vwCl A [(o, Sum.inr (9, mO g fForm fShift fModels fItems fEnded fLow fRange fCache fPend (nI (bs ++ [v % 256]).length) fOuts fIns fReads fBad fIR fAsk fBAsk fCode fRL fRR fX fWrites fThrown)), ((g 6), Sum.inl (cI, 9000, Sum.inl (upd vGoing (nI bs.length).toNatClampNeg v_1)))] H := ⟨hP, hD⟩
  have hP := hPD.1
  have hD := hPD.2
  exact my_vret hx hb hr hlocks hQ hK hS (Nat.le_refl _) (Nat.le_refl _) (upd vGoing (nI bs.length).toNatClampNeg v_1) (gIs_up hG (nI_clamp (by omega)) hval) (hP.sub [0, 1] rfl) (hD.sub [0, 1] (by decide +kernel) rfl) d_M_write_24
set_option maxHeartbeats 1000000 in
set_option maxRecDepth 100000 in
/-- shifted -/
theorem c_M_shifted (l : Launch) (dC : Nat → ClassId) (dI : Nat → Nat → Nat) (cI cM cO : ClassId) (sz : Nat) (o : Nat) (g : Nat → Nat) (fForm : Int32) (fShift : Int32) (fModels : Int32) (fItems : Int32) (fEnded : Int32) (fOuts : Int32) (fIns : Int32) (fReads : Int32) (fBad : Int32) (fIR : Int32) (fAsk : Int32) (fBAsk : Int32) (fCode : Int64) (fRL : Int64) (fRR : Int64) (fX : Int64) (fWrites : Int32) (fThrown : Int32) (vGoing : Nat → Int32) (Rg : Nat) (L : Nat) (ca : Option Nat) (Pn : Nat) (bs : List Nat) (hL : L < 8589934592) (hc : ∀ x, ca = some x → x < 256) (hG : gIs vGoing bs) (hN9 : bs.length + Pn + 1 ≤ 9000) : MetV l y_M_shifted (Cond.code y_M_shifted prog_14_method_18_code 2 none :: gw) ({ frames := 1, cells := 0, slots := 0, locals := 21 } : Room) (dC, dI) vwCl (kT cI cM cO) [Value.ref o] [(o, Sum.inr (9, mO g fForm fShift fModels fItems fEnded (lN L) (lN Rg) (caI ca) (nI Pn) (nI bs.length) fOuts fIns fReads fBad fIR fAsk fBAsk fCode fRL fRR fX fWrites fThrown)), ((g 6), Sum.inl (cI, 9000, Sum.inl vGoing))] sz (fun (u : (Nat → Int32)) => gIs u (shB L ca Pn bs)) (fun (u : (Nat → Int32)) => [(o, Sum.inr (9, mO g fForm fShift fModels fItems fEnded (lN (shL L)) (lN Rg) (caI (shC L ca)) (nI (shP L Pn)) (nI (shB L ca Pn bs).length) fOuts fIns fReads fBad fIR fAsk fBAsk fCode fRL fRR fX fWrites fThrown)), ((g 6), Sum.inl (cI, 9000, Sum.inl u))]) 0 0 := by
  refine my_ofV (cc := prog_14_method_18_code) (n := 2) (ret := none) (by decide) rfl (Nat.le_of_ble_eq_true rfl) ?_
  intro p e s m args below meth c R Q A ls H locs hx hb hr hts hown hlocks hml hnm hR hQ hA hl hP hK hN hD hS
  have hg : ∀ w ∈ gw, w.before args s = true := fun w h => hts w (List.mem_cons_of_mem _ h)
  have hown : s.vm.findClass "RangeCodersModel" = some m.cls := hown
  have hl : lv_has ls 2 [(0, Value.ref o)] := hl
  have J_107 : ∀ (cE : Int32) (pE : Int32) (bE : List Nat) (vE : Nat → Int32) (hcE : cE = caI (shC L ca)) (hpE : pE = nI (shP L Pn)) (hbE : bE = shB L ca Pn bs) (hgE : gIs vE bE) (H : Heap) (locs : List Loc) (ls : Array Slot), va_P (dC, dI) vwCl [(o, Sum.inr (9, mO g fForm fShift fModels fItems fEnded (lN L) (lN Rg) cE pE (nI bE.length) fOuts fIns fReads fBad fIR fAsk fBAsk fCode fRL fRR fX fWrites fThrown)), ((g 6), Sum.inl (cI, 9000, Sum.inl vE))] H → va_D A [(o, Sum.inr (9, mO g fForm fShift fModels fItems fEnded (lN L) (lN Rg) cE pE (nI bE.length) fOuts fIns fReads fBad fIR fAsk fBAsk fCode fRL fRR fX fWrites fThrown)), ((g 6), Sum.inl (cI, 9000, Sum.inl vE))] → va_S A s.heap H locs → lv_has ls 2 [(0, Value.ref o)] → W p l e R s m args below meth c H locs 0 0 Q (F0 m 107 ls []) := by
    intro cE pE bE vE hcE hpE hbE hgE H locs ls hP hD hS hl
    refine lv_aload_n hx hb d_M_shifted_107 rfl (lv_at hl 0 rfl) ?_
    refine lv_aload_n hx hb d_M_shifted_108 rfl (lv_at hl 0 rfl) ?_
    refine va_get (D := (dC, dI)) (ci := 9) (v := .long (lN L)) (C := "RangeCodersModel") (T := T_M) (N := 35) hx hb hg in_M hown hK hP 0 rfl rfl 11 (by decide) (hg _ k963) (fun _ h9 => h9) rfl d_M_shifted_109 ?_
    refine lv_ldc2 (v := 16777215) hx hb hown (hg _ k1112) d_M_shifted_112 ?_
    refine lv_land hx hb d_M_shifted_115 ?_
    refine lv_topl (fun v_1 ev_1 => ?_)
    refine lv_bipush (v := 8) hx hb d_M_shifted_116 (by decide) ?_
    refine lv_lshl hx hb d_M_shifted_118 rfl ?_
    refine lv_topl (fun v_2 ev_2 => ?_)
    have z9 : v_2 = lN (shL L) := by subst_vars; rw [L_and24 (by omega), L_shl8]; rfl
    subst z9
    refine va_put (D := (dC, dI)) (ci := 9) (v := .long (lN (shL L))) (ty := .long) (C := "RangeCodersModel") (T := T_M) (N := 35) hx hb hg in_M t_M o_M n_M hown hK hP hD hS 0 rfl rfl 11 (by decide) (hg _ k963) (fun _ h9 => h9) rfl (o_M 11 (by decide)) rfl rfl (Nat.le_of_ble_eq_true rfl) d_M_shifted_119 (fun H locs hP hD hS => ?_)
    have hPD : my_PD (dC, dI) vwCl A [(o, Sum.inr (9, mO g fForm fShift fModels fItems fEnded (lN (shL L)) (lN Rg) cE pE (nI bE.length) fOuts fIns fReads fBad fIR fAsk fBAsk fCode fRL fRR fX fWrites fThrown)), ((g 6), Sum.inl (cI, 9000, Sum.inl vE))] H := ⟨hP, hD⟩
    have hP := hPD.1
    have hD := hPD.2
    subst hcE
    subst hpE
    subst hbE
    exact my_vret hx hb hr hlocks hQ hK hS (Nat.le_refl _) (Nat.le_refl _) vE (hgE) (hP.sub [0, 1] rfl) (hD.sub [0, 1] (by decide +kernel) rfl) d_M_shifted_122
  have J_22 : ∀ (hO : shO L) (H : Heap) (locs : List Loc) (ls : Array Slot), va_P (dC, dI) vwCl [(o, Sum.inr (9, mO g fForm fShift fModels fItems fEnded (lN L) (lN Rg) (caI ca) (nI Pn) (nI bs.length) fOuts fIns fReads fBad fIR fAsk fBAsk fCode fRL fRR fX fWrites fThrown)), ((g 6), Sum.inl (cI, 9000, Sum.inl vGoing))] H → va_D A [(o, Sum.inr (9, mO g fForm fShift fModels fItems fEnded (lN L) (lN Rg) (caI ca) (nI Pn) (nI bs.length) fOuts fIns fReads fBad fIR fAsk fBAsk fCode fRL fRR fX fWrites fThrown)), ((g 6), Sum.inl (cI, 9000, Sum.inl vGoing))] → va_S A s.heap H locs → lv_has ls 2 [(0, Value.ref o)] → W p l e R s m args below meth c H locs 0 0 Q (F0 m 22 ls []) := by
    intro hO H locs ls hP hD hS hl
    refine lv_aload_n hx hb d_M_shifted_22 rfl (lv_at hl 0 rfl) ?_
    refine va_get (D := (dC, dI)) (ci := 9) (v := .long (lN L)) (C := "RangeCodersModel") (T := T_M) (N := 35) hx hb hg in_M hown hK hP 0 rfl rfl 11 (by decide) (hg _ k963) (fun _ h9 => h9) rfl d_M_shifted_23 ?_
    refine lv_bipush (v := 32) hx hb d_M_shifted_26 (by decide) ?_
    refine lv_lshr hx hb d_M_shifted_28 rfl ?_
    refine lv_topl (fun v_3 ev_3 => ?_)
    refine lv_l2i hx hb d_M_shifted_29 rfl ?_
    refine lv_topi (fun v_4 ev_4 => ?_)
    have z9 : v_4 = nI (L / 4294967296) := by subst_vars; rw [L_shr32 (by omega)]; exact lN_i _
    subst z9
    refine lv_istore_n (lv' := [(1, Value.int (nI (L / 4294967296))), (0, Value.ref o)]) hx hb d_M_shifted_30 rfl hl (by decide) rfl (fun ls hl => ?_)
    have J_49 : ∀ (n9_49 : Nat) (P9 : Nat) (b9 : List Nat) (vK : Nat → Int32) (hn9_49 : P9 = n9_49) (h9 : b9 ++ List.replicate P9 ((255 + L / 4294967296) % 256) = shB L ca Pn bs) (hg9 : gIs vK b9) (hl9 : b9.length + P9 ≤ 9000) (H : Heap) (locs : List Loc) (ls : Array Slot), va_P (dC, dI) vwCl [(o, Sum.inr (9, mO g fForm fShift fModels fItems fEnded (lN L) (lN Rg) (caI ca) (nI P9) (nI b9.length) fOuts fIns fReads fBad fIR fAsk fBAsk fCode fRL fRR fX fWrites fThrown)), ((g 6), Sum.inl (cI, 9000, Sum.inl vK))] H → va_D A [(o, Sum.inr (9, mO g fForm fShift fModels fItems fEnded (lN L) (lN Rg) (caI ca) (nI P9) (nI b9.length) fOuts fIns fReads fBad fIR fAsk fBAsk fCode fRL fRR fX fWrites fThrown)), ((g 6), Sum.inl (cI, 9000, Sum.inl vK))] → va_S A s.heap H locs → lv_has ls 2 [(1, Value.int (nI (L / 4294967296))), (0, Value.ref o)] → W p l e R s m args below meth c H locs 0 0 Q (F0 m 49 ls []) := by
      intro n9_49
      induction n9_49 using Nat.strongRecOn with
      | ind n9_49 ih9_49 =>
        intro P9 b9 vK hn9_49 h9 hg9 hl9 H locs ls hP hD hS hl
        refine lv_aload_n hx hb d_M_shifted_49 rfl (lv_at hl 1 rfl) ?_
        refine va_get (D := (dC, dI)) (ci := 9) (v := .int (nI P9)) (C := "RangeCodersModel") (T := T_M) (N := 35) hx hb hg in_M hown hK hP 0 rfl rfl 14 (by decide) (hg _ k966) (fun _ h9 => h9) rfl d_M_shifted_50 ?_
        refine lv_if_le (tgt := 78) hx hb d_M_shifted_53 (by decide) (fun c_5 => ?_) (fun c_5 => ?_)
        · have hP0 : P9 = 0 := by
            rcases Nat.eq_zero_or_pos P9 with q | q
            · exact q
            · exact absurd c_5 (nI_nle q (by omega))
          have hB0 : b9 = shB L ca Pn bs := by rw [← h9, hP0]; simp
          refine lv_aload_n hx hb d_M_shifted_78 rfl (lv_at hl 1 rfl) ?_
          refine lv_aload_n hx hb d_M_shifted_79 rfl (lv_at hl 1 rfl) ?_
          refine va_get (D := (dC, dI)) (ci := 9) (v := .long (lN L)) (C := "RangeCodersModel") (T := T_M) (N := 35) hx hb hg in_M hown hK hP 0 rfl rfl 11 (by decide) (hg _ k963) (fun _ h9 => h9) rfl d_M_shifted_80 ?_
          refine lv_bipush (v := 24) hx hb d_M_shifted_83 (by decide) ?_
          refine lv_lshr hx hb d_M_shifted_85 rfl ?_
          refine lv_topl (fun v_6 ev_6 => ?_)
          refine lv_ldc2 (v := 255) hx hb hown (hg _ k1111) d_M_shifted_86 ?_
          refine lv_land hx hb d_M_shifted_89 ?_
          refine lv_topl (fun v_7 ev_7 => ?_)
          refine lv_l2i hx hb d_M_shifted_90 rfl ?_
          refine lv_topi (fun v_8 ev_8 => ?_)
          have hcv : v_8 = nI (L / 16777216 % 256) := by subst_vars; rw [L_shr24 (by omega), L_and8 (by omega)]; exact lN_i _
          refine va_put (D := (dC, dI)) (ci := 9) (v := .int v_8) (ty := .int) (C := "RangeCodersModel") (T := T_M) (N := 35) hx hb hg in_M t_M o_M n_M hown hK hP hD hS 0 rfl rfl 13 (by decide) (hg _ k965) (fun _ h9 => h9) rfl (o_M 13 (by decide)) rfl rfl (Nat.le_of_ble_eq_true rfl) d_M_shifted_91 (fun H locs hP hD hS => ?_)
          have hPD : my_PD (dC, dI) vwCl A [(o, Sum.inr (9, mO g fForm fShift fModels fItems fEnded (lN L) (lN Rg) v_8 (nI P9) (nI b9.length) fOuts fIns fReads fBad fIR fAsk fBAsk fCode fRL fRR fX fWrites fThrown)), ((g 6), Sum.inl (cI, 9000, Sum.inl vK))] H := ⟨hP, hD⟩
          have hP := hPD.1
          have hD := hPD.2
          refine lv_goto (tgt := 107) hx hb d_M_shifted_94 (by decide) ?_
          exact J_107 v_8 (nI P9) b9 vK (by unfold shC; rw [if_pos hO]; exact hcv) (by unfold shP; rw [if_pos hO, hP0]) (hB0) (hg9) H locs ls (hP.sub [0, 1] rfl) (hD.sub [0, 1] (by decide +kernel) rfl) hS (lv_sub hl [1] rfl)
        · have hp1 : 0 < P9 := by
            rcases Nat.eq_zero_or_pos P9 with q | q
            · exact absurd (by rw [q]; exact Int32.le_refl _) c_5
            · exact q
          refine lv_aload_n hx hb d_M_shifted_56 rfl (lv_at hl 1 rfl) ?_
          refine lv_sipush (v := 255) hx hb d_M_shifted_57 (by decide) ?_
          refine lv_iload_n hx hb d_M_shifted_60 rfl (lv_at hl 0 rfl) ?_
          refine lv_iadd hx hb d_M_shifted_61 ?_
          refine lv_topi (fun v_9 ev_9 => ?_)
          have z9 : v_9 = nI (255 + L / 4294967296) := by subst_vars; exact nI_add 255 _
          subst z9
          refine my_cv (wr := []) (va_runV (As := [Value.int (nI (255 + L / 4294967296))]) (rest := []) ⟨hx, hb, hml, hown, hts⟩ (c_M_write l dC dI cI cM cO H.size o g fForm fShift fModels fItems fEnded (lN L) (lN Rg) (caI ca) (nI P9) fOuts fIns fReads fBad fIR fAsk fBAsk fCode fRL fRR fX fWrites fThrown vK b9 (255 + L / 4294967296) (hg9) (by omega) (by omega)) (cwV 1 hts (my_gV k1107 k1109 ks32 k12 k1110) rfl rfl rfl cu_M_write_1 ⟨by rw [hR]; exact Nat.le_of_ble_eq_true rfl, by rw [hR]; exact Nat.le_of_ble_eq_true rfl⟩) (my_preV hK hN (hP.sub [0, 1] rfl) (hD.sub [0, 1] (by decide +kernel) rfl) 0 rfl rfl) rfl rfl hl.1 rfl (lv_room (Nat.le_of_ble_eq_true rfl)) d_M_shifted_62 ⟨by rw [hR]; exact Nat.le_of_ble_eq_true rfl, by rw [hR]; exact Nat.le_of_ble_eq_true rfl⟩) hP hD hS hA [0, 1] [] rfl rfl (by decide +kernel) (by decide +kernel) (fun u9 H locs hw_62 hP hD hS => ?_)
          obtain ⟨v2_62, rfl⟩ : ∃ z, z = u9 := ⟨_, rfl⟩
          have hw_62 : gIs v2_62 (b9 ++ [(255 + L / 4294967296) % 256]) := hw_62
          have hPD : my_PD (dC, dI) vwCl A [(o, Sum.inr (9, mO g fForm fShift fModels fItems fEnded (lN L) (lN Rg) (caI ca) (nI P9) (nI (b9 ++ [(255 + L / 4294967296) % 256]).length) fOuts fIns fReads fBad fIR fAsk fBAsk fCode fRL fRR fX fWrites fThrown)), ((g 6), Sum.inl (cI, 9000, Sum.inl v2_62))] H := ⟨hP, hD⟩
          have hP := hPD.1
          have hD := hPD.2
          refine lv_aload_n hx hb d_M_shifted_65 rfl (lv_at hl 1 rfl) ?_
          refine lv_dup hx hb d_M_shifted_66 rfl ?_
          refine va_get (D := (dC, dI)) (ci := 9) (v := .int (nI P9)) (C := "RangeCodersModel") (T := T_M) (N := 35) hx hb hg in_M hown hK hP 0 rfl rfl 14 (by decide) (hg _ k966) (fun _ h9 => h9) rfl d_M_shifted_67 ?_
          refine lv_iconst (v := 1) hx hb d_M_shifted_70 (by decide) ?_
          refine lv_isub hx hb d_M_shifted_71 ?_
          refine lv_topi (fun v_10 ev_10 => ?_)
          have z9 : v_10 = nI (P9 - 1) := by subst_vars; exact pk_sub (b := 1) hp1
          subst z9
          refine va_put (D := (dC, dI)) (ci := 9) (v := .int (nI (P9 - 1))) (ty := .int) (C := "RangeCodersModel") (T := T_M) (N := 35) hx hb hg in_M t_M o_M n_M hown hK hP hD hS 0 rfl rfl 14 (by decide) (hg _ k966) (fun _ h9 => h9) rfl (o_M 14 (by decide)) rfl rfl (Nat.le_of_ble_eq_true rfl) d_M_shifted_72 (fun H locs hP hD hS => ?_)
          have hPD : my_PD (dC, dI) vwCl A [(o, Sum.inr (9, mO g fForm fShift fModels fItems fEnded (lN L) (lN Rg) (caI ca) (nI (P9 - 1)) (nI (b9 ++ [(255 + L / 4294967296) % 256]).length) fOuts fIns fReads fBad fIR fAsk fBAsk fCode fRL fRR fX fWrites fThrown)), ((g 6), Sum.inl (cI, 9000, Sum.inl v2_62))] H := ⟨hP, hD⟩
          have hP := hPD.1
          have hD := hPD.2
          refine lv_goto (tgt := 49) hx hb d_M_shifted_75 (by decide) ?_
          exact ih9_49 _ (by first | omega | (omega)) (P9 - 1) (b9 ++ [(255 + L / 4294967296) % 256]) v2_62 rfl (by rw [← h9]; rw [List.append_assoc]; congr 1; obtain ⟨q, hq⟩ : ∃ q, P9 = q + 1 := ⟨P9 - 1, by omega⟩; subst hq; simp [List.replicate_succ]) (hw_62) (by rw [List.length_append, List.length_singleton]; omega) H locs ls (hP.sub [0, 1] rfl) (hD.sub [0, 1] (by decide +kernel) rfl) hS (lv_sub hl [0, 1] rfl)
    refine lv_aload_n hx hb d_M_shifted_31 rfl (lv_at hl 1 rfl) ?_
    refine va_get (D := (dC, dI)) (ci := 9) (v := .int (caI ca)) (C := "RangeCodersModel") (T := T_M) (N := 35) hx hb hg in_M hown hK hP 0 rfl rfl 13 (by decide) (hg _ k965) (fun _ h9 => h9) rfl d_M_shifted_32 ?_
    refine lv_iconst (v := (-1)) hx hb d_M_shifted_35 (by decide) ?_
    refine lv_icmp_eq (tgt := 49) hx hb d_M_shifted_36 (by decide) (fun c_11 => ?_) (fun c_11 => ?_)
    · have hcn : ca = none := (caI_ne hc).mp c_11
      exact J_49 _ Pn bs vGoing rfl (by unfold shB; rw [if_pos hO, hcn]; simp [caB]) (hG) (by omega) H locs ls (hP.sub [0, 1] rfl) (hD.sub [0, 1] (by decide +kernel) rfl) hS (lv_sub hl [0, 1] rfl)
    · obtain ⟨c0, hc0⟩ : ∃ x, ca = some x := by
        cases hca : ca with
        | none => exact absurd ((caI_ne hc).mpr hca) c_11
        | some x => exact ⟨x, rfl⟩
      have hc256 := hc c0 hc0
      have hcI : caI ca = nI c0 := by rw [hc0]; rfl
      refine lv_aload_n hx hb d_M_shifted_39 rfl (lv_at hl 1 rfl) ?_
      refine lv_aload_n hx hb d_M_shifted_40 rfl (lv_at hl 1 rfl) ?_
      refine va_get (D := (dC, dI)) (ci := 9) (v := .int (caI ca)) (C := "RangeCodersModel") (T := T_M) (N := 35) hx hb hg in_M hown hK hP 0 rfl rfl 13 (by decide) (hg _ k965) (fun _ h9 => h9) rfl d_M_shifted_41 ?_
      refine lv_iload_n hx hb d_M_shifted_44 rfl (lv_at hl 0 rfl) ?_
      refine lv_iadd hx hb d_M_shifted_45 ?_
      refine lv_topi (fun v_12 ev_12 => ?_)
      have z9 : v_12 = nI (c0 + L / 4294967296) := by subst_vars; rw [hcI]; exact nI_add _ _
      subst z9
      refine my_cv (wr := []) (va_runV (As := [Value.int (nI (c0 + L / 4294967296))]) (rest := []) ⟨hx, hb, hml, hown, hts⟩ (c_M_write l dC dI cI cM cO H.size o g fForm fShift fModels fItems fEnded (lN L) (lN Rg) (caI ca) (nI Pn) fOuts fIns fReads fBad fIR fAsk fBAsk fCode fRL fRR fX fWrites fThrown vGoing bs (c0 + L / 4294967296) (hG) (by omega) (by omega)) (cwV 1 hts (my_gV k1107 k1109 ks32 k12 k1110) rfl rfl rfl cu_M_write_1 ⟨by rw [hR]; exact Nat.le_of_ble_eq_true rfl, by rw [hR]; exact Nat.le_of_ble_eq_true rfl⟩) (my_preV hK hN (hP.sub [0, 1] rfl) (hD.sub [0, 1] (by decide +kernel) rfl) 0 rfl rfl) rfl rfl hl.1 rfl (lv_room (Nat.le_of_ble_eq_true rfl)) d_M_shifted_46 ⟨by rw [hR]; exact Nat.le_of_ble_eq_true rfl, by rw [hR]; exact Nat.le_of_ble_eq_true rfl⟩) hP hD hS hA [0, 1] [] rfl rfl (by decide +kernel) (by decide +kernel) (fun u9 H locs hw_46 hP hD hS => ?_)
      obtain ⟨v2_46, rfl⟩ : ∃ z, z = u9 := ⟨_, rfl⟩
      have hw_46 : gIs v2_46 (bs ++ [(c0 + L / 4294967296) % 256]) := hw_46
      have hPD : my_PD (dC, dI) vwCl A [(o, Sum.inr (9, mO g fForm fShift fModels fItems fEnded (lN L) (lN Rg) (caI ca) (nI Pn) (nI (bs ++ [(c0 + L / 4294967296) % 256]).length) fOuts fIns fReads fBad fIR fAsk fBAsk fCode fRL fRR fX fWrites fThrown)), ((g 6), Sum.inl (cI, 9000, Sum.inl v2_46))] H := ⟨hP, hD⟩
      have hP := hPD.1
      have hD := hPD.2
      exact J_49 _ Pn (bs ++ [(c0 + L / 4294967296) % 256]) v2_46 rfl (by unfold shB; rw [if_pos hO, hc0]; simp [caB]) (hw_46) (by rw [List.length_append, List.length_singleton]; omega) H locs ls (hP.sub [0, 1] rfl) (hD.sub [0, 1] (by decide +kernel) rfl) hS (lv_sub hl [0, 1] rfl)
  refine lv_aload_n hx hb d_M_shifted_0 rfl (lv_at hl 0 rfl) ?_
  refine va_get (D := (dC, dI)) (ci := 9) (v := .long (lN L)) (C := "RangeCodersModel") (T := T_M) (N := 35) hx hb hg in_M hown hK hP 0 rfl rfl 11 (by decide) (hg _ k963) (fun _ h9 => h9) rfl d_M_shifted_1 ?_
  refine lv_ldc2 (v := 4278190080) hx hb hown (hg _ k1106) d_M_shifted_4 ?_
  refine W.lcmp hx hb d_M_shifted_7 ?_
  refine lv_if_lt (tgt := 22) hx hb d_M_shifted_8 (by decide) (fun c_13 => ?_) (fun c_13 => ?_)
  · rw [lg_cmp_lt] at c_13
    exact J_22  (Or.inl ((L_lt (b := 4278190080) (by omega) (by decide)).mp c_13)) H locs ls (hP.sub [0, 1] rfl) (hD.sub [0, 1] (by decide +kernel) rfl) hS (lv_sub hl [0] rfl)
  · rw [lg_cmp_lt] at c_13
    refine lv_aload_n hx hb d_M_shifted_11 rfl (lv_at hl 0 rfl) ?_
    refine va_get (D := (dC, dI)) (ci := 9) (v := .long (lN L)) (C := "RangeCodersModel") (T := T_M) (N := 35) hx hb hg in_M hown hK hP 0 rfl rfl 11 (by decide) (hg _ k963) (fun _ h9 => h9) rfl d_M_shifted_12 ?_
    refine lv_ldc2 (v := 4294967295) hx hb hown (hg _ k927) d_M_shifted_15 ?_
    refine W.lcmp hx hb d_M_shifted_18 ?_
    refine lv_if_le (tgt := 97) hx hb d_M_shifted_19 (by decide) (fun c_14 => ?_) (fun c_14 => ?_)
    · rw [lg_cmp_le] at c_14
      have hO : ¬ shO L := fun q => q.elim (fun q => absurd ((L_lt (b := 4278190080) (by omega) (by decide)).mpr q) c_13) (fun q => absurd ((L_le (b := 4294967295) (by omega) (by decide)).mp c_14) (by omega))
      refine lv_aload_n hx hb d_M_shifted_97 rfl (lv_at hl 0 rfl) ?_
      refine lv_dup hx hb d_M_shifted_98 rfl ?_
      refine va_get (D := (dC, dI)) (ci := 9) (v := .int (nI Pn)) (C := "RangeCodersModel") (T := T_M) (N := 35) hx hb hg in_M hown hK hP 0 rfl rfl 14 (by decide) (hg _ k966) (fun _ h9 => h9) rfl d_M_shifted_99 ?_
      refine lv_iconst (v := 1) hx hb d_M_shifted_102 (by decide) ?_
      refine lv_iadd hx hb d_M_shifted_103 ?_
      refine lv_topi (fun v_15 ev_15 => ?_)
      refine va_put (D := (dC, dI)) (ci := 9) (v := .int v_15) (ty := .int) (C := "RangeCodersModel") (T := T_M) (N := 35) hx hb hg in_M t_M o_M n_M hown hK hP hD hS 0 rfl rfl 14 (by decide) (hg _ k966) (fun _ h9 => h9) rfl (o_M 14 (by decide)) rfl rfl (Nat.le_of_ble_eq_true rfl) d_M_shifted_104 (fun H locs hP hD hS => ?_)
      have hPD : my_PD (dC, dI) vwCl A [(o, Sum.inr (9, mO g fForm fShift fModels fItems fEnded (lN L) (lN Rg) (caI ca) v_15 (nI bs.length) fOuts fIns fReads fBad fIR fAsk fBAsk fCode fRL fRR fX fWrites fThrown)), ((g 6), Sum.inl (cI, 9000, Sum.inl vGoing))] H := ⟨hP, hD⟩
      have hP := hPD.1
      have hD := hPD.2
      exact J_107 (caI ca) v_15 bs vGoing (by unfold shC; rw [if_neg hO]) (by unfold shP; rw [if_neg hO]; subst_vars; exact nI_1 _) (by unfold shB; rw [if_neg hO]) (hG) H locs ls (hP.sub [0, 1] rfl) (hD.sub [0, 1] (by decide +kernel) rfl) hS (lv_sub hl [0] rfl)
    · rw [lg_cmp_le] at c_14
      exact J_22  (Or.inr ((Nat.lt_or_ge L 4294967296).elim (fun q => absurd ((L_le (b := 4294967295) (by omega) (by decide)).mpr (by omega)) c_14) id)) H locs ls (hP.sub [0, 1] rfl) (hD.sub [0, 1] (by decide +kernel) rfl) hS (lv_sub hl [0] rfl)
end
section
set_option maxHeartbeats 1000000 in
set_option maxRecDepth 100000 in
/-- widen -/
theorem c_M_widen (l : Launch) (dC : Nat → ClassId) (dI : Nat → Nat → Nat) (cI cM cO : ClassId) (sz : Nat) (o : Nat) (g : Nat → Nat) (fForm : Int32) (fShift : Int32) (fModels : Int32) (fItems : Int32) (fEnded : Int32) (fOuts : Int32) (fIns : Int32) (fReads : Int32) (fBad : Int32) (fIR : Int32) (fAsk : Int32) (fBAsk : Int32) (fCode : Int64) (fRL : Int64) (fRR : Int64) (fX : Int64) (fWrites : Int32) (fThrown : Int32) (vGoing : Nat → Int32) (Rg : Nat) (L : Nat) (ca : Option Nat) (Pn : Nat) (bs : List Nat) (hR0 : 0 < Rg) (hR1 : Rg < 4294967296) (hL : L < 8589934592) (hc : ∀ x, ca = some x → x < 256) (hG : gIs vGoing bs) (hN9 : bs.length + Pn + 4 ≤ 9000) : MetV l y_M_widen (Cond.code y_M_widen prog_14_method_19_code 1 none :: gw) ({ frames := 2, cells := 0, slots := 0, locals := 42 } : Room) (dC, dI) vwCl (kT cI cM cO) [Value.ref o] [(o, Sum.inr (9, mO g fForm fShift fModels fItems fEnded (lN L) (lN Rg) (caI ca) (nI Pn) (nI bs.length) fOuts fIns fReads fBad fIR fAsk fBAsk fCode fRL fRR fX fWrites fThrown)), ((g 6), Sum.inl (cI, 9000, Sum.inl vGoing))] sz (fun (u : (Nat → Int32)) => gIs u (eB (wdS (Rg, L, ca, Pn, bs)))) (fun (u : (Nat → Int32)) => [(o, Sum.inr (9, mO g fForm fShift fModels fItems fEnded (lN (eL (wdS (Rg, L, ca, Pn, bs)))) (lN (eR (wdS (Rg, L, ca, Pn, bs)))) (caI (eC (wdS (Rg, L, ca, Pn, bs)))) (nI (eP (wdS (Rg, L, ca, Pn, bs)))) (nI (eB (wdS (Rg, L, ca, Pn, bs))).length) fOuts fIns fReads fBad fIR fAsk fBAsk fCode fRL fRR fX fWrites fThrown)), ((g 6), Sum.inl (cI, 9000, Sum.inl u))]) 0 0 := by
  refine my_ofV (cc := prog_14_method_19_code) (n := 1) (ret := none) (by decide) rfl (Nat.le_of_ble_eq_true rfl) ?_
  intro p e s m args below meth c R Q A ls H locs hx hb hr hts hown hlocks hml hnm hR hQ hA hl hP hK hN hD hS
  have hg : ∀ w ∈ gw, w.before args s = true := fun w h => hts w (List.mem_cons_of_mem _ h)
  have hown : s.vm.findClass "RangeCodersModel" = some m.cls := hown
  have hl : lv_has ls 1 [(0, Value.ref o)] := hl
  have J_0 : ∀ (n9_0 : Nat) (e9 : ES) (vK : Nat → Int32) (k9 : Nat) (hn9_0 : k9 = n9_0) (hE9 : wdS (Rg, L, ca, Pn, bs) = wdN k9 e9) (hk5 : 5 ≤ k9) (hk8 : k9 ≤ 8) (hR9 : wb8 k9 ≤ eR e9) (hR32 : eR e9 < 4294967296) (hO9 : eOk e9) (hg9 : gIs vK (eB e9)) (hM9 : (eB e9).length + eP e9 + k9 ≤ 9004) (H : Heap) (locs : List Loc) (ls : Array Slot), va_P (dC, dI) vwCl [(o, Sum.inr (9, mO g fForm fShift fModels fItems fEnded (lN (eL e9)) (lN (eR e9)) (caI (eC e9)) (nI (eP e9)) (nI (eB e9).length) fOuts fIns fReads fBad fIR fAsk fBAsk fCode fRL fRR fX fWrites fThrown)), ((g 6), Sum.inl (cI, 9000, Sum.inl vK))] H → va_D A [(o, Sum.inr (9, mO g fForm fShift fModels fItems fEnded (lN (eL e9)) (lN (eR e9)) (caI (eC e9)) (nI (eP e9)) (nI (eB e9).length) fOuts fIns fReads fBad fIR fAsk fBAsk fCode fRL fRR fX fWrites fThrown)), ((g 6), Sum.inl (cI, 9000, Sum.inl vK))] → va_S A s.heap H locs → lv_has ls 1 [(0, Value.ref o)] → W p l e R s m args below meth c H locs 0 0 Q (F0 m 0 ls []) := by
    intro n9_0
    induction n9_0 using Nat.strongRecOn with
    | ind n9_0 ih9_0 =>
      intro e9 vK k9 hn9_0 hE9 hk5 hk8 hR9 hR32 hO9 hg9 hM9 H locs ls hP hD hS hl
      refine lv_aload_n hx hb d_M_widen_0 rfl (lv_at hl 0 rfl) ?_
      refine va_get (D := (dC, dI)) (ci := 9) (v := .long (lN (eR e9))) (C := "RangeCodersModel") (T := T_M) (N := 35) hx hb hg in_M hown hK hP 0 rfl rfl 12 (by decide) (hg _ k964) (fun _ h9 => h9) rfl d_M_widen_1 ?_
      refine lv_ldc2 (v := 16777216) hx hb hown (hg _ k1101) d_M_widen_4 ?_
      refine W.lcmp hx hb d_M_widen_7 ?_
      refine lv_if_ge (tgt := 29) hx hb d_M_widen_8 (by decide) (fun c_1 => ?_) (fun c_1 => ?_)
      · rw [lg_cmp_ge] at c_1
        have hge : ¬ eR e9 < 16777216 := by have q := (L_le (a := 16777216) (by decide) (by omega)).mp c_1; omega
        have z9 : e9 = wdS (Rg, L, ca, Pn, bs) := by rw [hE9, wdN_e hge]
        subst z9
        exact my_vret hx hb hr hlocks hQ hK hS (Nat.le_refl _) (Nat.le_refl _) vK (hg9) (hP.sub [0, 1] rfl) (hD.sub [0, 1] (by decide +kernel) rfl) d_M_widen_29
      · rw [lg_cmp_ge] at c_1
        have hlt : eR e9 < 16777216 := by
          rcases Nat.lt_or_ge (eR e9) 16777216 with q | q
          · exact q
          · exact absurd ((L_le (a := 16777216) (by decide) (by omega)).mpr q) c_1
        have hk6 := wb8_k hk5 hR9 hlt
        refine lv_aload_n hx hb d_M_widen_11 rfl (lv_at hl 0 rfl) ?_
        refine lv_aload_n hx hb d_M_widen_12 rfl (lv_at hl 0 rfl) ?_
        refine va_get (D := (dC, dI)) (ci := 9) (v := .long (lN (eR e9))) (C := "RangeCodersModel") (T := T_M) (N := 35) hx hb hg in_M hown hK hP 0 rfl rfl 12 (by decide) (hg _ k964) (fun _ h9 => h9) rfl d_M_widen_13 ?_
        refine lv_bipush (v := 8) hx hb d_M_widen_16 (by decide) ?_
        refine lv_lshl hx hb d_M_widen_18 rfl ?_
        refine lv_topl (fun v_2 ev_2 => ?_)
        have z9 : v_2 = lN (eR e9 * 256) := by subst_vars; exact L_shl8 _
        subst z9
        refine va_put (D := (dC, dI)) (ci := 9) (v := .long (lN (eR e9 * 256))) (ty := .long) (C := "RangeCodersModel") (T := T_M) (N := 35) hx hb hg in_M t_M o_M n_M hown hK hP hD hS 0 rfl rfl 12 (by decide) (hg _ k964) (fun _ h9 => h9) rfl (o_M 12 (by decide)) rfl rfl (Nat.le_of_ble_eq_true rfl) d_M_widen_19 (fun H locs hP hD hS => ?_)
        have hPD : my_PD (dC, dI) vwCl A [(o, Sum.inr (9, mO g fForm fShift fModels fItems fEnded (lN (eL e9)) (lN (eR e9 * 256)) (caI (eC e9)) (nI (eP e9)) (nI (eB e9).length) fOuts fIns fReads fBad fIR fAsk fBAsk fCode fRL fRR fX fWrites fThrown)), ((g 6), Sum.inl (cI, 9000, Sum.inl vK))] H := ⟨hP, hD⟩
        have hP := hPD.1
        have hD := hPD.2
        refine lv_aload_n hx hb d_M_widen_22 rfl (lv_at hl 0 rfl) ?_
        refine my_cv (wr := []) (va_runV (As := []) (rest := []) ⟨hx, hb, hml, hown, hts⟩ (c_M_shifted l dC dI cI cM cO H.size o g fForm fShift fModels fItems fEnded fOuts fIns fReads fBad fIR fAsk fBAsk fCode fRL fRR fX fWrites fThrown vK (eR e9 * 256) (eL e9) (eC e9) (eP e9) (eB e9) (hO9.1) (hO9.2) (hg9) (by omega)) (cwV 0 hts (my_gV k1102 k1104 ks31 k12 k1105) rfl rfl rfl cu_M_shifted_0 ⟨by rw [hR]; exact Nat.le_of_ble_eq_true rfl, by rw [hR]; exact Nat.le_of_ble_eq_true rfl⟩) (my_preV hK hN (hP.sub [0, 1] rfl) (hD.sub [0, 1] (by decide +kernel) rfl) 0 rfl rfl) rfl rfl hl.1 rfl (lv_room (Nat.le_of_ble_eq_true rfl)) d_M_widen_23 ⟨by rw [hR]; exact Nat.le_of_ble_eq_true rfl, by rw [hR]; exact Nat.le_of_ble_eq_true rfl⟩) hP hD hS hA [0, 1] [] rfl rfl (by decide +kernel) (by decide +kernel) (fun u9 H locs hw_23 hP hD hS => ?_)
        obtain ⟨v2_23, rfl⟩ : ∃ z, z = u9 := ⟨_, rfl⟩
        have hw_23 : gIs v2_23 (shB (eL e9) (eC e9) (eP e9) (eB e9)) := hw_23
        have hPD : my_PD (dC, dI) vwCl A [(o, Sum.inr (9, mO g fForm fShift fModels fItems fEnded (lN (shL (eL e9))) (lN (eR e9 * 256)) (caI (shC (eL e9) (eC e9))) (nI (shP (eL e9) (eP e9))) (nI (shB (eL e9) (eC e9) (eP e9) (eB e9)).length) fOuts fIns fReads fBad fIR fAsk fBAsk fCode fRL fRR fX fWrites fThrown)), ((g 6), Sum.inl (cI, 9000, Sum.inl v2_23))] H := ⟨hP, hD⟩
        have hP := hPD.1
        have hD := hPD.2
        refine lv_goto (tgt := 0) hx hb d_M_widen_26 (by decide) ?_
        exact ih9_0 _ (by first | omega | (omega)) (shS (eR e9 * 256, e9.2)) v2_23 (k9 - 1) rfl (by rw [hE9, wdN_s (by omega) hlt]) (by omega) (by omega) (wb8_s hk6 hk8 hR9) (by show eR e9 * 256 < _; omega) (eOk_sh (e := (eR e9 * 256, e9.2)) hO9) (hw_23) (by have q := eN_sh (eR e9 * 256, e9.2); simp only [eN, eB, eP] at q hM9 ⊢; omega) H locs ls (hP.sub [0, 1] rfl) (hD.sub [0, 1] (by decide +kernel) rfl) hS (lv_sub hl [0] rfl)
  exact J_0 _ (Rg, L, ca, Pn, bs) vGoing 8 rfl (rfl) (by decide) (by decide) (hR0) (hR1) (⟨hL, hc⟩) (hG) (by show bs.length + Pn + 8 ≤ _; omega) H locs ls (hP.sub [0, 1] rfl) (hD.sub [0, 1] (by decide +kernel) rfl) hS (lv_sub hl [0] rfl)
set_option maxHeartbeats 1000000 in
set_option maxRecDepth 100000 in
/-- moveChance -/
theorem c_M_moveChance (l : Launch) (dC : Nat → ClassId) (dI : Nat → Nat → Nat) (cI cM cO : ClassId) (sz : Nat) (o : Nat) (g : Nat → Nat) (fForm : Int32) (fShift : Int32) (fModels : Int32) (fItems : Int32) (fEnded : Int32) (fLow : Int64) (fRange : Int64) (fCache : Int32) (fPend : Int32) (fGoes : Int32) (fOuts : Int32) (fIns : Int32) (fReads : Int32) (fBad : Int32) (fIR : Int32) (fAsk : Int32) (fBAsk : Int32) (fCode : Int64) (fRL : Int64) (fRR : Int64) (fX : Int64) (fWrites : Int32) (fThrown : Int32) (a : Nat) (f : Nat → Int32) (i : Nat) (pp : Nat) (bt : Nat) (sh : Nat) (hi : i < 512) (hp : f i = nI pp) (hp2 : pp ≤ 2048) (hsh : sh ≤ 10) (hS9 : fShift = nI sh) (hbt : bt < 2) : MetV l y_M_moveChance (Cond.code y_M_moveChance prog_14_method_26_code 5 none :: gw) ({ frames := 0, cells := 0, slots := 0, locals := 0 } : Room) (dC, dI) vwCl (kT cI cM cO) [Value.ref o, Value.ref a, Value.int (nI i), Value.int (nI bt)] [(o, Sum.inr (9, mO g fForm fShift fModels fItems fEnded fLow fRange fCache fPend fGoes fOuts fIns fReads fBad fIR fAsk fBAsk fCode fRL fRR fX fWrites fThrown)), (a, Sum.inl (cI, 512, Sum.inl f))] sz (fun (u : (Nat → Int32)) => u = upd f i (nI (mvC sh bt pp))) (fun (u : (Nat → Int32)) => [(o, Sum.inr (9, mO g fForm fShift fModels fItems fEnded fLow fRange fCache fPend fGoes fOuts fIns fReads fBad fIR fAsk fBAsk fCode fRL fRR fX fWrites fThrown)), (a, Sum.inl (cI, 512, Sum.inl u))]) 0 0 := by
  refine my_ofV (cc := prog_14_method_26_code) (n := 5) (ret := none) (by decide) rfl (Nat.le_of_ble_eq_true rfl) ?_
  intro p e s m args below meth c R Q A ls H locs hx hb hr hts hown hlocks hml hnm hR hQ hA hl hP hK hN hD hS
  have hg : ∀ w ∈ gw, w.before args s = true := fun w h => hts w (List.mem_cons_of_mem _ h)
  have hown : s.vm.findClass "RangeCodersModel" = some m.cls := hown
  have hl : lv_has ls 5 [(0, Value.ref o), (1, Value.ref a), (2, Value.int (nI i)), (3, Value.int (nI bt))] := hl
  refine lv_aload_n hx hb d_M_moveChance_0 rfl (lv_at hl 1 rfl) ?_
  refine lv_iload_n hx hb d_M_moveChance_1 rfl (lv_at hl 2 rfl) ?_
  refine va_iald hx hb hK hP 1 0 rfl rfl (vp_in_nI hi (by decide)) d_M_moveChance_2 ?_
  refine lv_topi (fun v_1 ev_1 => ?_)
  have z9 : v_1 = nI pp := by subst_vars; rw [nI_clamp (by omega)]; exact hp
  subst z9
  have hpl : pp / 2 ^ sh ≤ pp := Nat.div_le_self _ _
  refine lv_istore (lv' := [(4, Value.int (nI pp)), (0, Value.ref o), (1, Value.ref a), (2, Value.int (nI i)), (3, Value.int (nI bt))]) hx hb d_M_moveChance_3 hl (by decide) rfl (fun ls hl => ?_)
  refine lv_aload_n hx hb d_M_moveChance_5 rfl (lv_at hl 2 rfl) ?_
  refine lv_iload_n hx hb d_M_moveChance_6 rfl (lv_at hl 3 rfl) ?_
  refine lv_iload_n hx hb d_M_moveChance_7 rfl (lv_at hl 4 rfl) ?_
  refine lv_if_ne (tgt := 28) hx hb d_M_moveChance_8 (by decide) (fun c_2 => ?_) (fun c_2 => ?_)
  · refine lv_iload hx hb d_M_moveChance_28 (lv_at hl 0 rfl) ?_
    refine lv_iload hx hb d_M_moveChance_30 (lv_at hl 0 rfl) ?_
    refine lv_aload_n hx hb d_M_moveChance_32 rfl (lv_at hl 1 rfl) ?_
    refine va_get (D := (dC, dI)) (ci := 9) (v := .int fShift) (C := "RangeCodersModel") (T := T_M) (N := 35) hx hb hg in_M hown hK hP 0 rfl rfl 1 (by decide) (hg _ k953) (fun _ h9 => h9) rfl d_M_moveChance_33 ?_
    refine lv_ishr hx hb d_M_moveChance_36 ?_
    refine lv_topi (fun v_3 ev_3 => ?_)
    refine lv_isub hx hb d_M_moveChance_37 ?_
    refine lv_topi (fun v_4 ev_4 => ?_)
    have hval : v_4 = nI (mvC sh bt pp) := by
      unfold mvC
      rw [if_neg (fun q => c_2 (by rw [q]; rfl))]
      subst_vars
      rw [I_shr (by omega) (by omega)]
      exact pk_sub hpl
    refine va_iast hx hb hK hP hD hS 1 0 rfl rfl (vp_in_nI hi (by decide)) d_M_moveChance_38 (fun H locs hP hD hS => ?_)
    have hPD : my_PD (dC, dI) vwCl A [(o, Sum.inr (9, mO g fForm fShift fModels fItems fEnded fLow fRange fCache fPend fGoes fOuts fIns fReads fBad fIR fAsk fBAsk fCode fRL fRR fX fWrites fThrown)), (a, Sum.inl (cI, 512, Sum.inl (upd f (nI i).toNatClampNeg v_4)))] H := ⟨hP, hD⟩
    have hP := hPD.1
    have hD := hPD.2
    exact my_vret hx hb hr hlocks hQ hK hS (Nat.le_refl _) (Nat.le_refl _) (upd f (nI i).toNatClampNeg v_4) (by rw [hval, nI_clamp (by omega)]) (hP.sub [0, 1] rfl) (hD.sub [0, 1] (by decide +kernel) rfl) d_M_moveChance_39
  · refine lv_iload hx hb d_M_moveChance_11 (lv_at hl 0 rfl) ?_
    refine lv_sipush (v := 2048) hx hb d_M_moveChance_13 (by decide) ?_
    refine lv_iload hx hb d_M_moveChance_16 (lv_at hl 0 rfl) ?_
    refine lv_isub hx hb d_M_moveChance_18 ?_
    refine lv_topi (fun v_5 ev_5 => ?_)
    refine lv_aload_n hx hb d_M_moveChance_19 rfl (lv_at hl 1 rfl) ?_
    refine va_get (D := (dC, dI)) (ci := 9) (v := .int fShift) (C := "RangeCodersModel") (T := T_M) (N := 35) hx hb hg in_M hown hK hP 0 rfl rfl 1 (by decide) (hg _ k953) (fun _ h9 => h9) rfl d_M_moveChance_20 ?_
    refine lv_ishr hx hb d_M_moveChance_23 ?_
    refine lv_topi (fun v_6 ev_6 => ?_)
    refine lv_iadd hx hb d_M_moveChance_24 ?_
    refine lv_topi (fun v_7 ev_7 => ?_)
    refine lv_goto (tgt := 38) hx hb d_M_moveChance_25 (by decide) ?_
    have hval : v_7 = nI (mvC sh bt pp) := by
      unfold mvC
      rw [if_pos ((nI_eq (b := 0) (by omega) (by decide)).mp c_2)]
      subst_vars
      rw [show (2048 : Int32) - nI pp = nI (2048 - pp) from pk_sub (a := 2048) hp2, I_shr (by omega) (by omega)]
      exact nI_add _ _
    refine va_iast hx hb hK hP hD hS 1 0 rfl rfl (vp_in_nI hi (by decide)) d_M_moveChance_38 (fun H locs hP hD hS => ?_)
    have hPD : my_PD (dC, dI) vwCl A [(o, Sum.inr (9, mO g fForm fShift fModels fItems fEnded fLow fRange fCache fPend fGoes fOuts fIns fReads fBad fIR fAsk fBAsk fCode fRL fRR fX fWrites fThrown)), (a, Sum.inl (cI, 512, Sum.inl (upd f (nI i).toNatClampNeg v_7)))] H := ⟨hP, hD⟩
    have hP := hPD.1
    have hD := hPD.2
    exact my_vret hx hb hr hlocks hQ hK hS (Nat.le_refl _) (Nat.le_refl _) (upd f (nI i).toNatClampNeg v_7) (by rw [hval, nI_clamp (by omega)]) (hP.sub [0, 1] rfl) (hD.sub [0, 1] (by decide +kernel) rfl) d_M_moveChance_39
end
section
set_option maxHeartbeats 1000000 in
set_option maxRecDepth 100000 in
/-- putBit -/
theorem c_M_putBit (l : Launch) (dC : Nat → ClassId) (dI : Nat → Nat → Nat) (cI cM cO : ClassId) (sz : Nat) (o : Nat) (g : Nat → Nat) (fForm : Int32) (fShift : Int32) (fModels : Int32) (fItems : Int32) (fEnded : Int32) (fOuts : Int32) (fIns : Int32) (fReads : Int32) (fBad : Int32) (fIR : Int32) (fAsk : Int32) (fBAsk : Int32) (fCode : Int64) (fRL : Int64) (fRR : Int64) (fX : Int64) (fWrites : Int32) (fThrown : Int32) (vNow : Nat → Int32) (vGoing : Nat → Int32) (i : Nat) (pp : Nat) (bt : Nat) (sh : Nat) (Rg : Nat) (L : Nat) (ca : Option Nat) (Pn : Nat) (bs : List Nat) (hi : i < 512) (hp : vNow i = nI pp) (hp1 : 1 ≤ pp) (hp2 : pp ≤ 2047) (hsh : sh ≤ 10) (hS9 : fShift = nI sh) (hbt : bt < 2) (hR0 : 16777216 ≤ Rg) (hR1 : Rg < 4294967296) (hL : L + Rg ≤ 8589934592) (hc : ∀ x, ca = some x → x < 256) (hG : gIs vGoing bs) (hN9 : bs.length + Pn + 4 ≤ 9000) : MetV l y_M_putBit (Cond.code y_M_putBit prog_14_method_25_code 5 none :: gw) ({ frames := 3, cells := 0, slots := 0, locals := 62 } : Room) (dC, dI) vwCl (kT cI cM cO) [Value.ref o, Value.int (nI i), Value.int (nI bt)] [(o, Sum.inr (9, mO g fForm fShift fModels fItems fEnded (lN L) (lN Rg) (caI ca) (nI Pn) (nI bs.length) fOuts fIns fReads fBad fIR fAsk fBAsk fCode fRL fRR fX fWrites fThrown)), ((g 2), Sum.inl (cI, 512, Sum.inl vNow)), ((g 6), Sum.inl (cI, 9000, Sum.inl vGoing))] sz (fun (u : (Nat → Int32) × (Nat → Int32)) => u.1 = upd vNow i (nI (mvC sh bt pp)) ∧ gIs u.2 (eB (wdS (btS pp bt Rg L ca Pn bs)))) (fun (u : (Nat → Int32) × (Nat → Int32)) => [(o, Sum.inr (9, mO g fForm fShift fModels fItems fEnded (lN (eL (wdS (btS pp bt Rg L ca Pn bs)))) (lN (eR (wdS (btS pp bt Rg L ca Pn bs)))) (caI (eC (wdS (btS pp bt Rg L ca Pn bs)))) (nI (eP (wdS (btS pp bt Rg L ca Pn bs)))) (nI (eB (wdS (btS pp bt Rg L ca Pn bs))).length) fOuts fIns fReads fBad fIR fAsk fBAsk fCode fRL fRR fX fWrites fThrown)), ((g 2), Sum.inl (cI, 512, Sum.inl u.1)), ((g 6), Sum.inl (cI, 9000, Sum.inl u.2))]) 0 0 := by
  refine my_ofV (cc := prog_14_method_25_code) (n := 5) (ret := none) (by decide) rfl (Nat.le_of_ble_eq_true rfl) ?_
  intro p e s m args below meth c R Q A ls H locs hx hb hr hts hown hlocks hml hnm hR hQ hA hl hP hK hN hD hS
  have hg : ∀ w ∈ gw, w.before args s = true := fun w h => hts w (List.mem_cons_of_mem _ h)
  have hown : s.vm.findClass "RangeCodersModel" = some m.cls := hown
  have hl : lv_has ls 5 [(0, Value.ref o), (1, Value.int (nI i)), (2, Value.int (nI bt))] := hl
  have hq1 : 8192 ≤ Rg / 2048 := by omega
  have hq2 : Rg / 2048 * pp ≤ Rg / 2048 * 2047 := Nat.mul_le_mul_left _ hp2
  have hq3 : Rg / 2048 * 1 ≤ Rg / 2048 * pp := Nat.mul_le_mul_left _ hp1
  generalize hb9 : Rg / 2048 * pp = bb at hq2 hq3
  refine lv_aload_n hx hb d_M_putBit_0 rfl (lv_at hl 0 rfl) ?_
  refine va_get (D := (dC, dI)) (ci := 9) (v := .long (lN Rg)) (C := "RangeCodersModel") (T := T_M) (N := 35) hx hb hg in_M hown hK hP 0 rfl rfl 12 (by decide) (hg _ k964) (fun _ h9 => h9) rfl d_M_putBit_1 ?_
  refine lv_bipush (v := 11) hx hb d_M_putBit_4 (by decide) ?_
  refine lv_lshr hx hb d_M_putBit_6 rfl ?_
  refine lv_topl (fun v_1 ev_1 => ?_)
  refine lv_aload_n hx hb d_M_putBit_7 rfl (lv_at hl 0 rfl) ?_
  refine va_get (D := (dC, dI)) (ci := 9) (v := .ref (g 2)) (C := "RangeCodersModel") (T := T_M) (N := 35) hx hb hg in_M hown hK hP 0 rfl rfl 5 (by decide) (hg _ k957) (fun _ h9 => h9) rfl d_M_putBit_8 ?_
  refine lv_iload_n hx hb d_M_putBit_11 rfl (lv_at hl 1 rfl) ?_
  refine va_iald hx hb hK hP 1 0 rfl rfl (vp_in_nI hi (by decide)) d_M_putBit_12 ?_
  refine lv_topi (fun v_2 ev_2 => ?_)
  refine lv_i2l hx hb d_M_putBit_13 rfl ?_
  refine lv_topl (fun v_3 ev_3 => ?_)
  refine lv_lmul hx hb d_M_putBit_14 ?_
  refine lv_topl (fun v_4 ev_4 => ?_)
  have z9 : v_4 = lN bb := by subst_vars; rw [L_shr11 (by omega), nI_clamp (by omega), hp, nI_l (by omega), lN_mul]
  subst z9
  refine lv_lstore_n (lv' := [(3, Value.long (lN bb)), (0, Value.ref o), (1, Value.int (nI i)), (2, Value.int (nI bt))]) hx hb d_M_putBit_15 rfl hl (by decide) rfl (fun ls hl => ?_)
  refine lv_iload_n hx hb d_M_putBit_16 rfl (lv_at hl 3 rfl) ?_
  refine lv_if_ne (tgt := 28) hx hb d_M_putBit_17 (by decide) (fun c_5 => ?_) (fun c_5 => ?_)
  · refine lv_aload_n hx hb d_M_putBit_28 rfl (lv_at hl 1 rfl) ?_
    refine lv_aload_n hx hb d_M_putBit_29 rfl (lv_at hl 1 rfl) ?_
    refine va_get (D := (dC, dI)) (ci := 9) (v := .long (lN L)) (C := "RangeCodersModel") (T := T_M) (N := 35) hx hb hg in_M hown hK hP 0 rfl rfl 11 (by decide) (hg _ k963) (fun _ h9 => h9) rfl d_M_putBit_30 ?_
    refine lv_lload_n hx hb d_M_putBit_33 rfl (lv_at hl 0 rfl) ?_
    refine lv_ladd hx hb d_M_putBit_34 ?_
    refine lv_topl (fun v_6 ev_6 => ?_)
    have z9 : v_6 = lN (L + bb) := by subst_vars; exact lN_add _ _
    subst z9
    refine va_put (D := (dC, dI)) (ci := 9) (v := .long (lN (L + bb))) (ty := .long) (C := "RangeCodersModel") (T := T_M) (N := 35) hx hb hg in_M t_M o_M n_M hown hK hP hD hS 0 rfl rfl 11 (by decide) (hg _ k963) (fun _ h9 => h9) rfl (o_M 11 (by decide)) rfl rfl (Nat.le_of_ble_eq_true rfl) d_M_putBit_35 (fun H locs hP hD hS => ?_)
    have hPD : my_PD (dC, dI) vwCl A [(o, Sum.inr (9, mO g fForm fShift fModels fItems fEnded (lN (L + bb)) (lN Rg) (caI ca) (nI Pn) (nI bs.length) fOuts fIns fReads fBad fIR fAsk fBAsk fCode fRL fRR fX fWrites fThrown)), ((g 2), Sum.inl (cI, 512, Sum.inl vNow)), ((g 6), Sum.inl (cI, 9000, Sum.inl vGoing))] H := ⟨hP, hD⟩
    have hP := hPD.1
    have hD := hPD.2
    refine lv_aload_n hx hb d_M_putBit_38 rfl (lv_at hl 1 rfl) ?_
    refine lv_aload_n hx hb d_M_putBit_39 rfl (lv_at hl 1 rfl) ?_
    refine va_get (D := (dC, dI)) (ci := 9) (v := .long (lN Rg)) (C := "RangeCodersModel") (T := T_M) (N := 35) hx hb hg in_M hown hK hP 0 rfl rfl 12 (by decide) (hg _ k964) (fun _ h9 => h9) rfl d_M_putBit_40 ?_
    refine lv_lload_n hx hb d_M_putBit_43 rfl (lv_at hl 0 rfl) ?_
    refine lv_lsub hx hb d_M_putBit_44 ?_
    refine lv_topl (fun v_7 ev_7 => ?_)
    have z9 : v_7 = lN (Rg - bb) := by subst_vars; exact lN_sub (by omega)
    subst z9
    refine va_put (D := (dC, dI)) (ci := 9) (v := .long (lN (Rg - bb))) (ty := .long) (C := "RangeCodersModel") (T := T_M) (N := 35) hx hb hg in_M t_M o_M n_M hown hK hP hD hS 0 rfl rfl 12 (by decide) (hg _ k964) (fun _ h9 => h9) rfl (o_M 12 (by decide)) rfl rfl (Nat.le_of_ble_eq_true rfl) d_M_putBit_45 (fun H locs hP hD hS => ?_)
    have hPD : my_PD (dC, dI) vwCl A [(o, Sum.inr (9, mO g fForm fShift fModels fItems fEnded (lN (L + bb)) (lN (Rg - bb)) (caI ca) (nI Pn) (nI bs.length) fOuts fIns fReads fBad fIR fAsk fBAsk fCode fRL fRR fX fWrites fThrown)), ((g 2), Sum.inl (cI, 512, Sum.inl vNow)), ((g 6), Sum.inl (cI, 9000, Sum.inl vGoing))] H := ⟨hP, hD⟩
    have hP := hPD.1
    have hD := hPD.2
    refine lv_aload_n hx hb d_M_putBit_48 rfl (lv_at hl 1 rfl) ?_
    refine lv_aload_n hx hb d_M_putBit_49 rfl (lv_at hl 1 rfl) ?_
    refine va_get (D := (dC, dI)) (ci := 9) (v := .ref (g 2)) (C := "RangeCodersModel") (T := T_M) (N := 35) hx hb hg in_M hown hK hP 0 rfl rfl 5 (by decide) (hg _ k957) (fun _ h9 => h9) rfl d_M_putBit_50 ?_
    refine lv_iload_n hx hb d_M_putBit_53 rfl (lv_at hl 2 rfl) ?_
    refine lv_iload_n hx hb d_M_putBit_54 rfl (lv_at hl 3 rfl) ?_
    refine my_cv (wr := [((g 6), Sum.inl (cI, 9000, Sum.inl vGoing))]) (va_runV (As := [Value.ref (g 2), Value.int (nI i), Value.int (nI bt)]) (rest := []) ⟨hx, hb, hml, hown, hts⟩ (c_M_moveChance l dC dI cI cM cO H.size o g fForm fShift fModels fItems fEnded (lN (L + bb)) (lN (Rg - bb)) (caI ca) (nI Pn) (nI bs.length) fOuts fIns fReads fBad fIR fAsk fBAsk fCode fRL fRR fX fWrites fThrown (g 2) vNow i pp bt sh (by assumption) (by assumption) (by omega) (by assumption) (by assumption) (by assumption)) (cwV 3 hts (my_gV k1131 k1133 ks37 k12 k1134) rfl rfl rfl cu_M_moveChance_3 ⟨by rw [hR]; exact Nat.le_of_ble_eq_true rfl, by rw [hR]; exact Nat.le_of_ble_eq_true rfl⟩) (my_preV hK hN (hP.sub [0, 1] rfl) (hD.sub [0, 1] (by decide +kernel) rfl) 0 rfl rfl) rfl rfl hl.1 rfl (lv_room (Nat.le_of_ble_eq_true rfl)) d_M_putBit_55 ⟨by rw [hR]; exact Nat.le_of_ble_eq_true rfl, by rw [hR]; exact Nat.le_of_ble_eq_true rfl⟩) hP hD hS hA [0, 1] [2] rfl rfl (by decide +kernel) (by decide +kernel) (fun u9 H locs hw_55 hP hD hS => ?_)
    obtain ⟨f2_55, rfl⟩ : ∃ z, z = u9 := ⟨_, rfl⟩
    have hw_55 : f2_55 = upd vNow i (nI (mvC sh bt pp)) := hw_55
    have hPD : my_PD (dC, dI) vwCl A [((g 6), Sum.inl (cI, 9000, Sum.inl vGoing)), (o, Sum.inr (9, mO g fForm fShift fModels fItems fEnded (lN (L + bb)) (lN (Rg - bb)) (caI ca) (nI Pn) (nI bs.length) fOuts fIns fReads fBad fIR fAsk fBAsk fCode fRL fRR fX fWrites fThrown)), ((g 2), Sum.inl (cI, 512, Sum.inl f2_55))] H := ⟨hP, hD⟩
    have hP := hPD.1
    have hD := hPD.2
    refine lv_aload_n hx hb d_M_putBit_58 rfl (lv_at hl 1 rfl) ?_
    refine my_cv (wr := [((g 2), Sum.inl (cI, 512, Sum.inl f2_55))]) (va_runV (As := []) (rest := []) ⟨hx, hb, hml, hown, hts⟩ (c_M_widen l dC dI cI cM cO H.size o g fForm fShift fModels fItems fEnded fOuts fIns fReads fBad fIR fAsk fBAsk fCode fRL fRR fX fWrites fThrown vGoing (Rg - bb) (L + bb) ca Pn bs (by omega) (by omega) (by omega) (hc) (hG) (hN9)) (cwV 0 hts (my_gV k1097 k1099 ks30 k12 k1100) rfl rfl rfl cu_M_widen_0 ⟨by rw [hR]; exact Nat.le_of_ble_eq_true rfl, by rw [hR]; exact Nat.le_of_ble_eq_true rfl⟩) (my_preV hK hN (hP.sub [1, 0] rfl) (hD.sub [1, 0] (by decide +kernel) rfl) 0 rfl rfl) rfl rfl hl.1 rfl (lv_room (Nat.le_of_ble_eq_true rfl)) d_M_putBit_59 ⟨by rw [hR]; exact Nat.le_of_ble_eq_true rfl, by rw [hR]; exact Nat.le_of_ble_eq_true rfl⟩) hP hD hS hA [1, 0] [2] rfl rfl (by decide +kernel) (by decide +kernel) (fun u9 H locs hw_59 hP hD hS => ?_)
    obtain ⟨v2_59, rfl⟩ : ∃ z, z = u9 := ⟨_, rfl⟩
    have hw_59 : gIs v2_59 (eB (wdS ((Rg - bb), (L + bb), ca, Pn, bs))) := hw_59
    have hPD : my_PD (dC, dI) vwCl A [((g 2), Sum.inl (cI, 512, Sum.inl f2_55)), (o, Sum.inr (9, mO g fForm fShift fModels fItems fEnded (lN (eL (wdS ((Rg - bb), (L + bb), ca, Pn, bs)))) (lN (eR (wdS ((Rg - bb), (L + bb), ca, Pn, bs)))) (caI (eC (wdS ((Rg - bb), (L + bb), ca, Pn, bs)))) (nI (eP (wdS ((Rg - bb), (L + bb), ca, Pn, bs)))) (nI (eB (wdS ((Rg - bb), (L + bb), ca, Pn, bs))).length) fOuts fIns fReads fBad fIR fAsk fBAsk fCode fRL fRR fX fWrites fThrown)), ((g 6), Sum.inl (cI, 9000, Sum.inl v2_59))] H := ⟨hP, hD⟩
    have hP := hPD.1
    have hD := hPD.2
    rw [show ((Rg - bb), (L + bb), ca, Pn, bs) = btS pp bt Rg L ca Pn bs by unfold btS; rw [if_neg (fun q => c_5 (by rw [q]; rfl)), hb9]] at hP hD hw_59
    exact my_vret hx hb hr hlocks hQ hK hS (Nat.le_refl _) (Nat.le_refl _) (f2_55, v2_59) (⟨hw_55, hw_59⟩) (hP.sub [1, 0, 2] rfl) (hD.sub [1, 0, 2] (by decide +kernel) rfl) d_M_putBit_62
  · refine lv_aload_n hx hb d_M_putBit_20 rfl (lv_at hl 1 rfl) ?_
    refine lv_lload_n hx hb d_M_putBit_21 rfl (lv_at hl 0 rfl) ?_
    refine va_put (D := (dC, dI)) (ci := 9) (v := .long (lN bb)) (ty := .long) (C := "RangeCodersModel") (T := T_M) (N := 35) hx hb hg in_M t_M o_M n_M hown hK hP hD hS 0 rfl rfl 12 (by decide) (hg _ k964) (fun _ h9 => h9) rfl (o_M 12 (by decide)) rfl rfl (Nat.le_of_ble_eq_true rfl) d_M_putBit_22 (fun H locs hP hD hS => ?_)
    have hPD : my_PD (dC, dI) vwCl A [(o, Sum.inr (9, mO g fForm fShift fModels fItems fEnded (lN L) (lN bb) (caI ca) (nI Pn) (nI bs.length) fOuts fIns fReads fBad fIR fAsk fBAsk fCode fRL fRR fX fWrites fThrown)), ((g 2), Sum.inl (cI, 512, Sum.inl vNow)), ((g 6), Sum.inl (cI, 9000, Sum.inl vGoing))] H := ⟨hP, hD⟩
    have hP := hPD.1
    have hD := hPD.2
    refine lv_goto (tgt := 48) hx hb d_M_putBit_25 (by decide) ?_
    refine lv_aload_n hx hb d_M_putBit_48 rfl (lv_at hl 1 rfl) ?_
    refine lv_aload_n hx hb d_M_putBit_49 rfl (lv_at hl 1 rfl) ?_
    refine va_get (D := (dC, dI)) (ci := 9) (v := .ref (g 2)) (C := "RangeCodersModel") (T := T_M) (N := 35) hx hb hg in_M hown hK hP 0 rfl rfl 5 (by decide) (hg _ k957) (fun _ h9 => h9) rfl d_M_putBit_50 ?_
    refine lv_iload_n hx hb d_M_putBit_53 rfl (lv_at hl 2 rfl) ?_
    refine lv_iload_n hx hb d_M_putBit_54 rfl (lv_at hl 3 rfl) ?_
    refine my_cv (wr := [((g 6), Sum.inl (cI, 9000, Sum.inl vGoing))]) (va_runV (As := [Value.ref (g 2), Value.int (nI i), Value.int (nI bt)]) (rest := []) ⟨hx, hb, hml, hown, hts⟩ (c_M_moveChance l dC dI cI cM cO H.size o g fForm fShift fModels fItems fEnded (lN L) (lN bb) (caI ca) (nI Pn) (nI bs.length) fOuts fIns fReads fBad fIR fAsk fBAsk fCode fRL fRR fX fWrites fThrown (g 2) vNow i pp bt sh (by assumption) (by assumption) (by omega) (by assumption) (by assumption) (by assumption)) (cwV 3 hts (my_gV k1131 k1133 ks37 k12 k1134) rfl rfl rfl cu_M_moveChance_3 ⟨by rw [hR]; exact Nat.le_of_ble_eq_true rfl, by rw [hR]; exact Nat.le_of_ble_eq_true rfl⟩) (my_preV hK hN (hP.sub [0, 1] rfl) (hD.sub [0, 1] (by decide +kernel) rfl) 0 rfl rfl) rfl rfl hl.1 rfl (lv_room (Nat.le_of_ble_eq_true rfl)) d_M_putBit_55 ⟨by rw [hR]; exact Nat.le_of_ble_eq_true rfl, by rw [hR]; exact Nat.le_of_ble_eq_true rfl⟩) hP hD hS hA [0, 1] [2] rfl rfl (by decide +kernel) (by decide +kernel) (fun u9 H locs hw_55 hP hD hS => ?_)
    obtain ⟨f2_55, rfl⟩ : ∃ z, z = u9 := ⟨_, rfl⟩
    have hw_55 : f2_55 = upd vNow i (nI (mvC sh bt pp)) := hw_55
    have hPD : my_PD (dC, dI) vwCl A [((g 6), Sum.inl (cI, 9000, Sum.inl vGoing)), (o, Sum.inr (9, mO g fForm fShift fModels fItems fEnded (lN L) (lN bb) (caI ca) (nI Pn) (nI bs.length) fOuts fIns fReads fBad fIR fAsk fBAsk fCode fRL fRR fX fWrites fThrown)), ((g 2), Sum.inl (cI, 512, Sum.inl f2_55))] H := ⟨hP, hD⟩
    have hP := hPD.1
    have hD := hPD.2
    refine lv_aload_n hx hb d_M_putBit_58 rfl (lv_at hl 1 rfl) ?_
    refine my_cv (wr := [((g 2), Sum.inl (cI, 512, Sum.inl f2_55))]) (va_runV (As := []) (rest := []) ⟨hx, hb, hml, hown, hts⟩ (c_M_widen l dC dI cI cM cO H.size o g fForm fShift fModels fItems fEnded fOuts fIns fReads fBad fIR fAsk fBAsk fCode fRL fRR fX fWrites fThrown vGoing bb L ca Pn bs (by omega) (by omega) (by omega) (hc) (hG) (hN9)) (cwV 0 hts (my_gV k1097 k1099 ks30 k12 k1100) rfl rfl rfl cu_M_widen_0 ⟨by rw [hR]; exact Nat.le_of_ble_eq_true rfl, by rw [hR]; exact Nat.le_of_ble_eq_true rfl⟩) (my_preV hK hN (hP.sub [1, 0] rfl) (hD.sub [1, 0] (by decide +kernel) rfl) 0 rfl rfl) rfl rfl hl.1 rfl (lv_room (Nat.le_of_ble_eq_true rfl)) d_M_putBit_59 ⟨by rw [hR]; exact Nat.le_of_ble_eq_true rfl, by rw [hR]; exact Nat.le_of_ble_eq_true rfl⟩) hP hD hS hA [1, 0] [2] rfl rfl (by decide +kernel) (by decide +kernel) (fun u9 H locs hw_59 hP hD hS => ?_)
    obtain ⟨v2_59, rfl⟩ : ∃ z, z = u9 := ⟨_, rfl⟩
    have hw_59 : gIs v2_59 (eB (wdS (bb, L, ca, Pn, bs))) := hw_59
    have hPD : my_PD (dC, dI) vwCl A [((g 2), Sum.inl (cI, 512, Sum.inl f2_55)), (o, Sum.inr (9, mO g fForm fShift fModels fItems fEnded (lN (eL (wdS (bb, L, ca, Pn, bs)))) (lN (eR (wdS (bb, L, ca, Pn, bs)))) (caI (eC (wdS (bb, L, ca, Pn, bs)))) (nI (eP (wdS (bb, L, ca, Pn, bs)))) (nI (eB (wdS (bb, L, ca, Pn, bs))).length) fOuts fIns fReads fBad fIR fAsk fBAsk fCode fRL fRR fX fWrites fThrown)), ((g 6), Sum.inl (cI, 9000, Sum.inl v2_59))] H := ⟨hP, hD⟩
    have hP := hPD.1
    have hD := hPD.2
    rw [show (bb, L, ca, Pn, bs) = btS pp bt Rg L ca Pn bs by unfold btS; rw [if_pos ((nI_eq (b := 0) (by omega) (by decide)).mp c_5), hb9]] at hP hD hw_59
    exact my_vret hx hb hr hlocks hQ hK hS (Nat.le_refl _) (Nat.le_refl _) (f2_55, v2_59) (⟨hw_55, hw_59⟩) (hP.sub [1, 0, 2] rfl) (hD.sub [1, 0, 2] (by decide +kernel) rfl) d_M_putBit_62
set_option maxHeartbeats 1000000 in
set_option maxRecDepth 100000 in
/-- addItem -/
theorem c_M_addItem (l : Launch) (dC : Nat → ClassId) (dI : Nat → Nat → Nat) (cI cM cO : ClassId) (sz : Nat) (o : Nat) (g : Nat → Nat) (fForm : Int32) (fShift : Int32) (fModels : Int32) (fEnded : Int32) (fLow : Int64) (fRange : Int64) (fCache : Int32) (fPend : Int32) (fGoes : Int32) (fOuts : Int32) (fIns : Int32) (fReads : Int32) (fBad : Int32) (fIR : Int32) (fAsk : Int32) (fBAsk : Int32) (fCode : Int64) (fRL : Int64) (fRR : Int64) (fX : Int64) (fWrites : Int32) (fThrown : Int32) (vIM : Nat → Int32) (vIW : Nat → Int32) (k : Nat) (p1 : Int32) (p2 : Int32) (hk : k < 600) : MetI l y_M_addItem (Cond.code y_M_addItem prog_14_method_28_code 3 (some .int) :: gw) ({ frames := 0, cells := 0, slots := 0, locals := 0 } : Room) (dC, dI) vwCl (kT cI cM cO) [Value.ref o, Value.int p1, Value.int p2] [(o, Sum.inr (9, mO g fForm fShift fModels (nI k) fEnded fLow fRange fCache fPend fGoes fOuts fIns fReads fBad fIR fAsk fBAsk fCode fRL fRR fX fWrites fThrown)), ((g 4), Sum.inl (cI, 600, Sum.inl vIM)), ((g 5), Sum.inl (cI, 600, Sum.inl vIW))] sz (fun (r : Int32) (u : (Nat → Int32) × (Nat → Int32)) => r = nI (k + 1) ∧ u.1 = upd vIM k p1 ∧ u.2 = upd vIW k p2) (fun (u : (Nat → Int32) × (Nat → Int32)) => [(o, Sum.inr (9, mO g fForm fShift fModels (nI (k + 1)) fEnded fLow fRange fCache fPend fGoes fOuts fIns fReads fBad fIR fAsk fBAsk fCode fRL fRR fX fWrites fThrown)), ((g 4), Sum.inl (cI, 600, Sum.inl u.1)), ((g 5), Sum.inl (cI, 600, Sum.inl u.2))]) 0 0 := by
  refine my_ofI (cc := prog_14_method_28_code) (n := 3) (ret := (some .int)) (by decide) rfl (Nat.le_of_ble_eq_true rfl) ?_
  intro p e s m args below meth c R Q A ls H locs hx hb hr hts hown hlocks hml hnm hR hQ hA hl hP hK hN hD hS
  have hg : ∀ w ∈ gw, w.before args s = true := fun w h => hts w (List.mem_cons_of_mem _ h)
  have hown : s.vm.findClass "RangeCodersModel" = some m.cls := hown
  have hl : lv_has ls 3 [(0, Value.ref o), (1, Value.int p1), (2, Value.int p2)] := hl
  refine lv_aload_n hx hb d_M_addItem_0 rfl (lv_at hl 0 rfl) ?_
  refine va_get (D := (dC, dI)) (ci := 9) (v := .ref (g 4)) (C := "RangeCodersModel") (T := T_M) (N := 35) hx hb hg in_M hown hK hP 0 rfl rfl 8 (by decide) (hg _ k960) (fun _ h9 => h9) rfl d_M_addItem_1 ?_
  refine lv_aload_n hx hb d_M_addItem_4 rfl (lv_at hl 0 rfl) ?_
  refine va_get (D := (dC, dI)) (ci := 9) (v := .int (nI k)) (C := "RangeCodersModel") (T := T_M) (N := 35) hx hb hg in_M hown hK hP 0 rfl rfl 7 (by decide) (hg _ k959) (fun _ h9 => h9) rfl d_M_addItem_5 ?_
  refine lv_iload_n hx hb d_M_addItem_8 rfl (lv_at hl 1 rfl) ?_
  refine va_iast hx hb hK hP hD hS 1 0 rfl rfl (vp_in_nI hk (by decide)) d_M_addItem_9 (fun H locs hP hD hS => ?_)
  have hPD : my_PD (dC, dI) vwCl A [(o, Sum.inr (9, mO g fForm fShift fModels (nI k) fEnded fLow fRange fCache fPend fGoes fOuts fIns fReads fBad fIR fAsk fBAsk fCode fRL fRR fX fWrites fThrown)), ((g 4), Sum.inl (cI, 600, Sum.inl (upd vIM (nI k).toNatClampNeg p1))), ((g 5), Sum.inl (cI, 600, Sum.inl vIW))] H := ⟨hP, hD⟩
  have hP := hPD.1
  have hD := hPD.2
  refine lv_aload_n hx hb d_M_addItem_10 rfl (lv_at hl 0 rfl) ?_
  refine va_get (D := (dC, dI)) (ci := 9) (v := .ref (g 5)) (C := "RangeCodersModel") (T := T_M) (N := 35) hx hb hg in_M hown hK hP 0 rfl rfl 9 (by decide) (hg _ k961) (fun _ h9 => h9) rfl d_M_addItem_11 ?_
  refine lv_aload_n hx hb d_M_addItem_14 rfl (lv_at hl 0 rfl) ?_
  refine va_get (D := (dC, dI)) (ci := 9) (v := .int (nI k)) (C := "RangeCodersModel") (T := T_M) (N := 35) hx hb hg in_M hown hK hP 0 rfl rfl 7 (by decide) (hg _ k959) (fun _ h9 => h9) rfl d_M_addItem_15 ?_
  refine lv_iload_n hx hb d_M_addItem_18 rfl (lv_at hl 2 rfl) ?_
  refine va_iast hx hb hK hP hD hS 2 0 rfl rfl (vp_in_nI hk (by decide)) d_M_addItem_19 (fun H locs hP hD hS => ?_)
  have hPD : my_PD (dC, dI) vwCl A [(o, Sum.inr (9, mO g fForm fShift fModels (nI k) fEnded fLow fRange fCache fPend fGoes fOuts fIns fReads fBad fIR fAsk fBAsk fCode fRL fRR fX fWrites fThrown)), ((g 4), Sum.inl (cI, 600, Sum.inl (upd vIM (nI k).toNatClampNeg p1))), ((g 5), Sum.inl (cI, 600, Sum.inl (upd vIW (nI k).toNatClampNeg p2)))] H := ⟨hP, hD⟩
  have hP := hPD.1
  have hD := hPD.2
  refine lv_aload_n hx hb d_M_addItem_20 rfl (lv_at hl 0 rfl) ?_
  refine lv_dup hx hb d_M_addItem_21 rfl ?_
  refine va_get (D := (dC, dI)) (ci := 9) (v := .int (nI k)) (C := "RangeCodersModel") (T := T_M) (N := 35) hx hb hg in_M hown hK hP 0 rfl rfl 7 (by decide) (hg _ k959) (fun _ h9 => h9) rfl d_M_addItem_22 ?_
  refine lv_iconst (v := 1) hx hb d_M_addItem_25 (by decide) ?_
  refine lv_iadd hx hb d_M_addItem_26 ?_
  refine lv_topi (fun v_1 ev_1 => ?_)
  have z9 : v_1 = nI (k + 1) := by subst_vars; exact nI_1 _
  subst z9
  refine va_put (D := (dC, dI)) (ci := 9) (v := .int (nI (k + 1))) (ty := .int) (C := "RangeCodersModel") (T := T_M) (N := 35) hx hb hg in_M t_M o_M n_M hown hK hP hD hS 0 rfl rfl 7 (by decide) (hg _ k959) (fun _ h9 => h9) rfl (o_M 7 (by decide)) rfl rfl (Nat.le_of_ble_eq_true rfl) d_M_addItem_27 (fun H locs hP hD hS => ?_)
  have hPD : my_PD (dC, dI) vwCl A [(o, Sum.inr (9, mO g fForm fShift fModels (nI (k + 1)) fEnded fLow fRange fCache fPend fGoes fOuts fIns fReads fBad fIR fAsk fBAsk fCode fRL fRR fX fWrites fThrown)), ((g 4), Sum.inl (cI, 600, Sum.inl (upd vIM (nI k).toNatClampNeg p1))), ((g 5), Sum.inl (cI, 600, Sum.inl (upd vIW (nI k).toNatClampNeg p2)))] H := ⟨hP, hD⟩
  have hP := hPD.1
  have hD := hPD.2
  refine lv_aload_n hx hb d_M_addItem_30 rfl (lv_at hl 0 rfl) ?_
  refine va_get (D := (dC, dI)) (ci := 9) (v := .int (nI (k + 1))) (C := "RangeCodersModel") (T := T_M) (N := 35) hx hb hg in_M hown hK hP 0 rfl rfl 7 (by decide) (hg _ k959) (fun _ h9 => h9) rfl d_M_addItem_31 ?_
  exact my_iret (v := (nI (k + 1))) hx hb hr (rfl) hlocks hQ hK hS (Nat.le_refl _) (Nat.le_refl _) (upd vIM (nI k).toNatClampNeg p1, upd vIW (nI k).toNatClampNeg p2) (⟨rfl, by rw [nI_clamp (by omega)], by rw [nI_clamp (by omega)]⟩) (hP.sub [0, 1, 2] rfl) (hD.sub [0, 1, 2] (by decide +kernel) rfl) d_M_addItem_34
end
section
set_option maxHeartbeats 1000000 in
set_option maxRecDepth 100000 in
/-- next -/
theorem c_M_next (l : Launch) (dC : Nat → ClassId) (dI : Nat → Nat → Nat) (cI cM cO : ClassId) (sz : Nat) (o : Nat) (g : Nat → Nat) (fForm : Int32) (fShift : Int32) (fModels : Int32) (fItems : Int32) (fEnded : Int32) (fLow : Int64) (fRange : Int64) (fCache : Int32) (fPend : Int32) (fGoes : Int32) (fOuts : Int32) (fReads : Int32) (fBad : Int32) (fIR : Int32) (fBAsk : Int32) (fCode : Int64) (fRL : Int64) (fRR : Int64) (fX : Int64) (fWrites : Int32) (fThrown : Int32) (vIn : Nat → Int32) (is : List Nat) (q : Nat) (hI : gIs vIn is) (hlen : is.length ≤ 6000) (hoct : oct is) (hq : q < 1000000) : MetI l y_M_next (Cond.code y_M_next prog_14_method_40_code 2 (some .int) :: gw) ({ frames := 0, cells := 0, slots := 0, locals := 0 } : Room) (dC, dI) vwCl (kT cI cM cO) [Value.ref o] [(o, Sum.inr (9, mO g fForm fShift fModels fItems fEnded fLow fRange fCache fPend fGoes fOuts (nI is.length) fReads fBad fIR (nI q) fBAsk fCode fRL fRR fX fWrites fThrown)), ((g 8), Sum.inl (cI, 6000, Sum.inl vIn))] sz (fun (r : Int32) (u : Unit) => r = nI (byA is q)) (fun (u : Unit) => [(o, Sum.inr (9, mO g fForm fShift fModels fItems fEnded fLow fRange fCache fPend fGoes fOuts (nI is.length) fReads fBad fIR (nI (q + 1)) fBAsk fCode fRL fRR fX fWrites fThrown)), ((g 8), Sum.inl (cI, 6000, Sum.inl vIn))]) 0 0 := by
  refine my_ofI (cc := prog_14_method_40_code) (n := 2) (ret := (some .int)) (by decide) rfl (Nat.le_of_ble_eq_true rfl) ?_
  intro p e s m args below meth c R Q A ls H locs hx hb hr hts hown hlocks hml hnm hR hQ hA hl hP hK hN hD hS
  have hg : ∀ w ∈ gw, w.before args s = true := fun w h => hts w (List.mem_cons_of_mem _ h)
  have hown : s.vm.findClass "RangeCodersModel" = some m.cls := hown
  have hl : lv_has ls 2 [(0, Value.ref o)] := hl
  refine lv_aload_n hx hb d_M_next_0 rfl (lv_at hl 0 rfl) ?_
  refine va_get (D := (dC, dI)) (ci := 9) (v := .int (nI q)) (C := "RangeCodersModel") (T := T_M) (N := 35) hx hb hg in_M hown hK hP 0 rfl rfl 24 (by decide) (hg _ k976) (fun _ h9 => h9) rfl d_M_next_1 ?_
  refine lv_aload_n hx hb d_M_next_4 rfl (lv_at hl 0 rfl) ?_
  refine va_get (D := (dC, dI)) (ci := 9) (v := .int (nI is.length)) (C := "RangeCodersModel") (T := T_M) (N := 35) hx hb hg in_M hown hK hP 0 rfl rfl 20 (by decide) (hg _ k972) (fun _ h9 => h9) rfl d_M_next_5 ?_
  refine lv_icmp_ge (tgt := 23) hx hb d_M_next_8 (by decide) (fun c_1 => ?_) (fun c_1 => ?_)
  · have hge : is.length ≤ q := (nI_cmp (by omega) (by omega)).mp c_1
    refine lv_iconst (v := 0) hx hb d_M_next_23 (by decide) ?_
    refine W.eq (g2 := F0 m 24 ls [Value.int (nI (byA is q))]) (by rw [show byA is q = 0 by unfold byA; rw [List.getD_eq_getElem?_getD, List.getElem?_eq_none hge]; rfl]; rfl) ?_
    refine lv_istore_n (lv' := [(1, Value.int (nI (byA is q))), (0, Value.ref o)]) hx hb d_M_next_24 rfl hl (by decide) rfl (fun ls hl => ?_)
    refine lv_aload_n hx hb d_M_next_25 rfl (lv_at hl 1 rfl) ?_
    refine lv_dup hx hb d_M_next_26 rfl ?_
    refine va_get (D := (dC, dI)) (ci := 9) (v := .int (nI q)) (C := "RangeCodersModel") (T := T_M) (N := 35) hx hb hg in_M hown hK hP 0 rfl rfl 24 (by decide) (hg _ k976) (fun _ h9 => h9) rfl d_M_next_27 ?_
    refine lv_iconst (v := 1) hx hb d_M_next_30 (by decide) ?_
    refine lv_iadd hx hb d_M_next_31 ?_
    refine lv_topi (fun v_2 ev_2 => ?_)
    have z9 : v_2 = nI (q + 1) := by subst_vars; exact nI_1 _
    subst z9
    refine va_put (D := (dC, dI)) (ci := 9) (v := .int (nI (q + 1))) (ty := .int) (C := "RangeCodersModel") (T := T_M) (N := 35) hx hb hg in_M t_M o_M n_M hown hK hP hD hS 0 rfl rfl 24 (by decide) (hg _ k976) (fun _ h9 => h9) rfl (o_M 24 (by decide)) rfl rfl (Nat.le_of_ble_eq_true rfl) d_M_next_32 (fun H locs hP hD hS => ?_)
    have hPD : my_PD (dC, dI) vwCl A [(o, Sum.inr (9, mO g fForm fShift fModels fItems fEnded fLow fRange fCache fPend fGoes fOuts (nI is.length) fReads fBad fIR (nI (q + 1)) fBAsk fCode fRL fRR fX fWrites fThrown)), ((g 8), Sum.inl (cI, 6000, Sum.inl vIn))] H := ⟨hP, hD⟩
    have hP := hPD.1
    have hD := hPD.2
    refine lv_iload_n hx hb d_M_next_35 rfl (lv_at hl 0 rfl) ?_
    exact my_iret (v := nI (byA is q)) hx hb hr (rfl) hlocks hQ hK hS (Nat.le_refl _) (Nat.le_refl _) () (rfl) (hP.sub [0, 1] rfl) (hD.sub [0, 1] (by decide +kernel) rfl) d_M_next_36
  · have hlt : q < is.length := by
      rcases Nat.lt_or_ge q is.length with z | z
      · exact z
      · exact absurd (nI_le z (by omega)) c_1
    refine lv_aload_n hx hb d_M_next_11 rfl (lv_at hl 0 rfl) ?_
    refine va_get (D := (dC, dI)) (ci := 9) (v := .ref (g 8)) (C := "RangeCodersModel") (T := T_M) (N := 35) hx hb hg in_M hown hK hP 0 rfl rfl 19 (by decide) (hg _ k971) (fun _ h9 => h9) rfl d_M_next_12 ?_
    refine lv_aload_n hx hb d_M_next_15 rfl (lv_at hl 0 rfl) ?_
    refine va_get (D := (dC, dI)) (ci := 9) (v := .int (nI q)) (C := "RangeCodersModel") (T := T_M) (N := 35) hx hb hg in_M hown hK hP 0 rfl rfl 24 (by decide) (hg _ k976) (fun _ h9 => h9) rfl d_M_next_16 ?_
    refine va_iald hx hb hK hP 1 0 rfl rfl (vp_in_nI (by omega) (by decide)) d_M_next_19 ?_
    refine lv_topi (fun v_3 ev_3 => ?_)
    refine lv_goto (tgt := 24) hx hb d_M_next_20 (by decide) ?_
    have z9 : v_3 = nI (byA is q) := by subst_vars; rw [nI_clamp (by omega)]; exact hI q hlt
    subst z9
    refine lv_istore_n (lv' := [(1, Value.int (nI (byA is q))), (0, Value.ref o)]) hx hb d_M_next_24 rfl hl (by decide) rfl (fun ls hl => ?_)
    refine lv_aload_n hx hb d_M_next_25 rfl (lv_at hl 1 rfl) ?_
    refine lv_dup hx hb d_M_next_26 rfl ?_
    refine va_get (D := (dC, dI)) (ci := 9) (v := .int (nI q)) (C := "RangeCodersModel") (T := T_M) (N := 35) hx hb hg in_M hown hK hP 0 rfl rfl 24 (by decide) (hg _ k976) (fun _ h9 => h9) rfl d_M_next_27 ?_
    refine lv_iconst (v := 1) hx hb d_M_next_30 (by decide) ?_
    refine lv_iadd hx hb d_M_next_31 ?_
    refine lv_topi (fun v_4 ev_4 => ?_)
    have z9 : v_4 = nI (q + 1) := by subst_vars; exact nI_1 _
    subst z9
    refine va_put (D := (dC, dI)) (ci := 9) (v := .int (nI (q + 1))) (ty := .int) (C := "RangeCodersModel") (T := T_M) (N := 35) hx hb hg in_M t_M o_M n_M hown hK hP hD hS 0 rfl rfl 24 (by decide) (hg _ k976) (fun _ h9 => h9) rfl (o_M 24 (by decide)) rfl rfl (Nat.le_of_ble_eq_true rfl) d_M_next_32 (fun H locs hP hD hS => ?_)
    have hPD : my_PD (dC, dI) vwCl A [(o, Sum.inr (9, mO g fForm fShift fModels fItems fEnded fLow fRange fCache fPend fGoes fOuts (nI is.length) fReads fBad fIR (nI (q + 1)) fBAsk fCode fRL fRR fX fWrites fThrown)), ((g 8), Sum.inl (cI, 6000, Sum.inl vIn))] H := ⟨hP, hD⟩
    have hP := hPD.1
    have hD := hPD.2
    refine lv_iload_n hx hb d_M_next_35 rfl (lv_at hl 0 rfl) ?_
    exact my_iret (v := (nI (byA is q))) hx hb hr (rfl) hlocks hQ hK hS (Nat.le_refl _) (Nat.le_refl _) () (rfl) (hP.sub [0, 1] rfl) (hD.sub [0, 1] (by decide +kernel) rfl) d_M_next_36
set_option maxHeartbeats 1000000 in
set_option maxRecDepth 100000 in
/-- four -/
theorem c_M_four (l : Launch) (dC : Nat → ClassId) (dI : Nat → Nat → Nat) (cI cM cO : ClassId) (sz : Nat) (o : Nat) (g : Nat → Nat) (fForm : Int32) (fShift : Int32) (fModels : Int32) (fItems : Int32) (fEnded : Int32) (fLow : Int64) (fRange : Int64) (fCache : Int32) (fPend : Int32) (fGoes : Int32) (fOuts : Int32) (fReads : Int32) (fBad : Int32) (fIR : Int32) (fBAsk : Int32) (fCode : Int64) (fRL : Int64) (fRR : Int64) (fX : Int64) (fWrites : Int32) (fThrown : Int32) (vIn : Nat → Int32) (is : List Nat) (q : Nat) (hI : gIs vIn is) (hlen : is.length ≤ 6000) (hoct : oct is) (hq : q < 900000) : MetL l y_M_four (Cond.code y_M_four prog_14_method_42_code 4 (some .long) :: gw) ({ frames := 1, cells := 0, slots := 0, locals := 21 } : Room) (dC, dI) vwCl (kT cI cM cO) [Value.ref o] [(o, Sum.inr (9, mO g fForm fShift fModels fItems fEnded fLow fRange fCache fPend fGoes fOuts (nI is.length) fReads fBad fIR (nI q) fBAsk fCode fRL fRR fX fWrites fThrown)), ((g 8), Sum.inl (cI, 6000, Sum.inl vIn))] sz (fun (r : Int64) (u : Unit) => r = lN (frN is q 4)) (fun (u : Unit) => [(o, Sum.inr (9, mO g fForm fShift fModels fItems fEnded fLow fRange fCache fPend fGoes fOuts (nI is.length) fReads fBad fIR (nI (q + 4)) fBAsk fCode fRL fRR fX fWrites fThrown)), ((g 8), Sum.inl (cI, 6000, Sum.inl vIn))]) 0 0 := by
  refine my_ofL (cc := prog_14_method_42_code) (n := 4) (ret := (some .long)) (by decide) rfl (Nat.le_of_ble_eq_true rfl) ?_
  intro p e s m args below meth c R Q A ls H locs hx hb hr hts hown hlocks hml hnm hR hQ hA hl hP hK hN hD hS
  have hg : ∀ w ∈ gw, w.before args s = true := fun w h => hts w (List.mem_cons_of_mem _ h)
  have hown : s.vm.findClass "RangeCodersModel" = some m.cls := hown
  have hl : lv_has ls 4 [(0, Value.ref o)] := hl
  refine lv_lconst (v := 0) hx hb d_M_four_0 (by decide) ?_
  refine lv_lstore_n (lv' := [(1, Value.long 0), (0, Value.ref o)]) hx hb d_M_four_1 rfl hl (by decide) rfl (fun ls hl => ?_)
  refine lv_iconst (v := 0) hx hb d_M_four_2 (by decide) ?_
  refine lv_istore_n (lv' := [(3, Value.int 0), (1, Value.long 0), (0, Value.ref o)]) hx hb d_M_four_3 rfl hl (by decide) rfl (fun ls hl => ?_)
  have J_4 : ∀ (n9_4 : Nat) (v9 : Int64) (i9 : Int32) (j : Nat) (hn9_4 : 4 - j = n9_4) (hv9 : v9 = lN (frN is q j)) (hi : i9 = nI j) (hj : j ≤ 4) (H : Heap) (locs : List Loc) (ls : Array Slot), va_P (dC, dI) vwCl [(o, Sum.inr (9, mO g fForm fShift fModels fItems fEnded fLow fRange fCache fPend fGoes fOuts (nI is.length) fReads fBad fIR (nI (q + j)) fBAsk fCode fRL fRR fX fWrites fThrown)), ((g 8), Sum.inl (cI, 6000, Sum.inl vIn))] H → va_D A [(o, Sum.inr (9, mO g fForm fShift fModels fItems fEnded fLow fRange fCache fPend fGoes fOuts (nI is.length) fReads fBad fIR (nI (q + j)) fBAsk fCode fRL fRR fX fWrites fThrown)), ((g 8), Sum.inl (cI, 6000, Sum.inl vIn))] → va_S A s.heap H locs → lv_has ls 4 [(3, Value.int i9), (1, Value.long v9), (0, Value.ref o)] → W p l e R s m args below meth c H locs 0 0 Q (F0 m 4 ls []) := by
    intro n9_4
    induction n9_4 using Nat.strongRecOn with
    | ind n9_4 ih9_4 =>
      intro v9 i9 j hn9_4 hv9 hi hj H locs ls hP hD hS hl
      have hfr := frN_lt hoct q j
      have hp9 : 256 ^ j ≤ 256 ^ 4 := Nat.pow_le_pow_right (by decide) hj
      refine lv_iload_n hx hb d_M_four_4 rfl (lv_at hl 0 rfl) ?_
      refine lv_iconst (v := 4) hx hb d_M_four_5 (by decide) ?_
      refine lv_icmp_ge (tgt := 26) hx hb d_M_four_6 (by decide) (fun c_1 => ?_) (fun c_1 => ?_)
      · have hj3 : j = 4 := by rw [hi] at c_1; have := (nI_cmp (a := 4) (by decide) (by omega)).mp c_1; omega
        have z9 : j = 4 := hj3
        subst z9
        refine lv_lload_n hx hb d_M_four_26 rfl (lv_at hl 1 rfl) ?_
        exact my_lret (v := v9) hx hb hr hlocks hQ hK hS (Nat.le_refl _) (Nat.le_refl _) () (hv9) (hP.sub [0, 1] rfl) (hD.sub [0, 1] (by decide +kernel) rfl) d_M_four_27
      · have hj2 : j < 4 := by
          rcases Nat.lt_or_ge j 4 with z | z
          · exact z
          · exact absurd (by rw [hi]; exact nI_le (a := 4) z (by omega)) c_1
        refine lv_lload_n hx hb d_M_four_9 rfl (lv_at hl 1 rfl) ?_
        refine lv_bipush (v := 8) hx hb d_M_four_10 (by decide) ?_
        refine lv_lshl hx hb d_M_four_12 rfl ?_
        refine lv_topl (fun v_2 ev_2 => ?_)
        refine lv_aload_n hx hb d_M_four_13 rfl (lv_at hl 2 rfl) ?_
        refine my_ci (wr := []) (va_runV (As := []) (rest := [Value.long v_2]) ⟨hx, hb, hml, hown, hts⟩ (c_M_next l dC dI cI cM cO H.size o g fForm fShift fModels fItems fEnded fLow fRange fCache fPend fGoes fOuts fReads fBad fIR fBAsk fCode fRL fRR fX fWrites fThrown vIn is (q + j) (by assumption) (by assumption) (by assumption) (by omega)) (cwV 0 hts (my_gV k1194 k1196 ks45 k12 k1197) rfl rfl rfl cu_M_next_0 ⟨by rw [hR]; exact Nat.le_of_ble_eq_true rfl, by rw [hR]; exact Nat.le_of_ble_eq_true rfl⟩) (my_preV hK hN (hP.sub [0, 1] rfl) (hD.sub [0, 1] (by decide +kernel) rfl) 0 rfl rfl) rfl rfl hl.1 rfl (lv_room (Nat.le_of_ble_eq_true rfl)) d_M_four_14 ⟨by rw [hR]; exact Nat.le_of_ble_eq_true rfl, by rw [hR]; exact Nat.le_of_ble_eq_true rfl⟩) hP hD hS hA [0, 1] [] rfl rfl (by decide +kernel) (by decide +kernel) (fun r_14 u9 H locs hw_14 hP hD hS => ?_)
        have hw_14 : r_14 = nI (byA is (q + j)) := hw_14
        have hPD : my_PD (dC, dI) vwCl A [(o, Sum.inr (9, mO g fForm fShift fModels fItems fEnded fLow fRange fCache fPend fGoes fOuts (nI is.length) fReads fBad fIR (nI ((q + j) + 1)) fBAsk fCode fRL fRR fX fWrites fThrown)), ((g 8), Sum.inl (cI, 6000, Sum.inl vIn))] H := ⟨hP, hD⟩
        have hP := hPD.1
        have hD := hPD.2
        refine lv_i2l hx hb d_M_four_17 rfl ?_
        refine lv_topl (fun v_3 ev_3 => ?_)
        refine lv_lor hx hb d_M_four_18 ?_
        refine lv_topl (fun v_4 ev_4 => ?_)
        refine lv_lstore_n (lv' := [(1, Value.long v_4), (3, Value.int i9), (0, Value.ref o)]) hx hb d_M_four_19 rfl hl (by decide) rfl (fun ls hl => ?_)
        obtain ⟨v_5, ev_5⟩ : ∃ y : Int32, y = i9 + (1) := ⟨_, rfl⟩
        refine lv_iinc (v := v_5) (lv' := [(3, Value.int v_5), (1, Value.long v_4), (0, Value.ref o)]) hx hb d_M_four_20 hl (k := 1) rfl (by rw [ev_5]; rfl) (by decide) rfl (fun ls hl => ?_)
        refine lv_goto (tgt := 4) hx hb d_M_four_23 (by decide) ?_
        exact ih9_4 _ (by first | omega | (omega)) v_4 v_5 (j + 1) rfl (by subst_vars; rw [L_shl8, nI_l (by have := hoct (q + j); omega), L_or8 (hoct _) (by have := hoct (q + j); omega)]; rfl) (by subst_vars; exact nI_1 j) (by omega) H locs ls (hP.sub [0, 1] rfl) (hD.sub [0, 1] (by decide +kernel) rfl) hS (lv_sub hl [0, 1, 2] rfl)
  exact J_4 _ 0 0 0 rfl (rfl) (rfl) (Nat.zero_le _) H locs ls (hP.sub [0, 1] rfl) (hD.sub [0, 1] (by decide +kernel) rfl) hS (lv_sub hl [0, 1, 2] rfl)
set_option maxHeartbeats 1000000 in
set_option maxRecDepth 100000 in
/-- nextBit -/
theorem c_M_nextBit (l : Launch) (dC : Nat → ClassId) (dI : Nat → Nat → Nat) (cI cM cO : ClassId) (sz : Nat) (o : Nat) (g : Nat → Nat) (fForm : Int32) (fShift : Int32) (fModels : Int32) (fItems : Int32) (fEnded : Int32) (fLow : Int64) (fRange : Int64) (fCache : Int32) (fPend : Int32) (fGoes : Int32) (fOuts : Int32) (fReads : Int32) (fBad : Int32) (fIR : Int32) (fCode : Int64) (fRL : Int64) (fRR : Int64) (fX : Int64) (fWrites : Int32) (fThrown : Int32) (vIn : Nat → Int32) (is : List Nat) (t : Nat) (fAsk : Int32) (hI : gIs vIn is) (hlen : is.length ≤ 6000) (hoct : oct is) (ht : t < 1000000) : MetI l y_M_nextBit (Cond.code y_M_nextBit prog_14_method_41_code 3 (some .int) :: gw) ({ frames := 0, cells := 0, slots := 0, locals := 0 } : Room) (dC, dI) vwCl (kT cI cM cO) [Value.ref o] [(o, Sum.inr (9, mO g fForm fShift fModels fItems fEnded fLow fRange fCache fPend fGoes fOuts (nI is.length) fReads fBad fIR fAsk (nI t) fCode fRL fRR fX fWrites fThrown)), ((g 8), Sum.inl (cI, 6000, Sum.inl vIn))] sz (fun (r : Int32) (u : Unit) => r = nI (biA is t)) (fun (u : Unit) => [(o, Sum.inr (9, mO g fForm fShift fModels fItems fEnded fLow fRange fCache fPend fGoes fOuts (nI is.length) fReads fBad fIR (nI ((t + 8) / 8)) (nI (t + 1)) fCode fRL fRR fX fWrites fThrown)), ((g 8), Sum.inl (cI, 6000, Sum.inl vIn))]) 0 0 := by
  refine my_ofI (cc := prog_14_method_41_code) (n := 3) (ret := (some .int)) (by decide) rfl (Nat.le_of_ble_eq_true rfl) ?_
  intro p e s m args below meth c R Q A ls H locs hx hb hr hts hown hlocks hml hnm hR hQ hA hl hP hK hN hD hS
  have hg : ∀ w ∈ gw, w.before args s = true := fun w h => hts w (List.mem_cons_of_mem _ h)
  have hown : s.vm.findClass "RangeCodersModel" = some m.cls := hown
  have hl : lv_has ls 3 [(0, Value.ref o)] := hl
  refine lv_aload_n hx hb d_M_nextBit_0 rfl (lv_at hl 0 rfl) ?_
  refine va_get (D := (dC, dI)) (ci := 9) (v := .int (nI t)) (C := "RangeCodersModel") (T := T_M) (N := 35) hx hb hg in_M hown hK hP 0 rfl rfl 25 (by decide) (hg _ k977) (fun _ h9 => h9) rfl d_M_nextBit_1 ?_
  refine lv_bipush (v := 8) hx hb d_M_nextBit_4 (by decide) ?_
  refine lv_idiv hx hb d_M_nextBit_6 (by decide) ?_
  refine lv_topi (fun v_1 ev_1 => ?_)
  have z9 : v_1 = nI (t / 8) := by subst_vars; exact pk_div (d := 8) (by omega) (by decide) (by decide)
  subst z9
  refine lv_istore_n (lv' := [(1, Value.int (nI (t / 8))), (0, Value.ref o)]) hx hb d_M_nextBit_7 rfl hl (by decide) rfl (fun ls hl => ?_)
  refine lv_iload_n hx hb d_M_nextBit_8 rfl (lv_at hl 0 rfl) ?_
  refine lv_aload_n hx hb d_M_nextBit_9 rfl (lv_at hl 1 rfl) ?_
  refine va_get (D := (dC, dI)) (ci := 9) (v := .int (nI is.length)) (C := "RangeCodersModel") (T := T_M) (N := 35) hx hb hg in_M hown hK hP 0 rfl rfl 20 (by decide) (hg _ k972) (fun _ h9 => h9) rfl d_M_nextBit_10 ?_
  refine lv_icmp_ge (tgt := 38) hx hb d_M_nextBit_13 (by decide) (fun c_2 => ?_) (fun c_2 => ?_)
  · have hge : is.length ≤ t / 8 := (nI_cmp (by omega) (by omega)).mp c_2
    refine lv_iconst (v := 0) hx hb d_M_nextBit_38 (by decide) ?_
    refine W.eq (g2 := F0 m 39 ls [Value.int (nI (biA is t))]) (by rw [show biA is t = 0 by unfold biA byA; rw [List.getD_eq_getElem?_getD, List.getElem?_eq_none hge]; simp]; rfl) ?_
    refine lv_istore_n (lv' := [(2, Value.int (nI (biA is t))), (1, Value.int (nI (t / 8))), (0, Value.ref o)]) hx hb d_M_nextBit_39 rfl hl (by decide) rfl (fun ls hl => ?_)
    refine lv_aload_n hx hb d_M_nextBit_40 rfl (lv_at hl 2 rfl) ?_
    refine lv_dup hx hb d_M_nextBit_41 rfl ?_
    refine va_get (D := (dC, dI)) (ci := 9) (v := .int (nI t)) (C := "RangeCodersModel") (T := T_M) (N := 35) hx hb hg in_M hown hK hP 0 rfl rfl 25 (by decide) (hg _ k977) (fun _ h9 => h9) rfl d_M_nextBit_42 ?_
    refine lv_iconst (v := 1) hx hb d_M_nextBit_45 (by decide) ?_
    refine lv_iadd hx hb d_M_nextBit_46 ?_
    refine lv_topi (fun v_3 ev_3 => ?_)
    have z9 : v_3 = nI (t + 1) := by subst_vars; exact nI_1 _
    subst z9
    refine va_put (D := (dC, dI)) (ci := 9) (v := .int (nI (t + 1))) (ty := .int) (C := "RangeCodersModel") (T := T_M) (N := 35) hx hb hg in_M t_M o_M n_M hown hK hP hD hS 0 rfl rfl 25 (by decide) (hg _ k977) (fun _ h9 => h9) rfl (o_M 25 (by decide)) rfl rfl (Nat.le_of_ble_eq_true rfl) d_M_nextBit_47 (fun H locs hP hD hS => ?_)
    have hPD : my_PD (dC, dI) vwCl A [(o, Sum.inr (9, mO g fForm fShift fModels fItems fEnded fLow fRange fCache fPend fGoes fOuts (nI is.length) fReads fBad fIR fAsk (nI (t + 1)) fCode fRL fRR fX fWrites fThrown)), ((g 8), Sum.inl (cI, 6000, Sum.inl vIn))] H := ⟨hP, hD⟩
    have hP := hPD.1
    have hD := hPD.2
    refine lv_aload_n hx hb d_M_nextBit_50 rfl (lv_at hl 2 rfl) ?_
    refine lv_aload_n hx hb d_M_nextBit_51 rfl (lv_at hl 2 rfl) ?_
    refine va_get (D := (dC, dI)) (ci := 9) (v := .int (nI (t + 1))) (C := "RangeCodersModel") (T := T_M) (N := 35) hx hb hg in_M hown hK hP 0 rfl rfl 25 (by decide) (hg _ k977) (fun _ h9 => h9) rfl d_M_nextBit_52 ?_
    refine lv_bipush (v := 7) hx hb d_M_nextBit_55 (by decide) ?_
    refine lv_iadd hx hb d_M_nextBit_57 ?_
    refine lv_topi (fun v_4 ev_4 => ?_)
    refine lv_bipush (v := 8) hx hb d_M_nextBit_58 (by decide) ?_
    refine lv_idiv hx hb d_M_nextBit_60 (by decide) ?_
    refine lv_topi (fun v_5 ev_5 => ?_)
    have z9 : v_5 = nI ((t + 8) / 8) := by subst_vars; rw [show nI (t + 1) + 7 = nI (t + 8) from nI_add (t + 1) 7]; exact pk_div (d := 8) (by omega) (by decide) (by decide)
    subst z9
    refine va_put (D := (dC, dI)) (ci := 9) (v := .int (nI ((t + 8) / 8))) (ty := .int) (C := "RangeCodersModel") (T := T_M) (N := 35) hx hb hg in_M t_M o_M n_M hown hK hP hD hS 0 rfl rfl 24 (by decide) (hg _ k976) (fun _ h9 => h9) rfl (o_M 24 (by decide)) rfl rfl (Nat.le_of_ble_eq_true rfl) d_M_nextBit_61 (fun H locs hP hD hS => ?_)
    have hPD : my_PD (dC, dI) vwCl A [(o, Sum.inr (9, mO g fForm fShift fModels fItems fEnded fLow fRange fCache fPend fGoes fOuts (nI is.length) fReads fBad fIR (nI ((t + 8) / 8)) (nI (t + 1)) fCode fRL fRR fX fWrites fThrown)), ((g 8), Sum.inl (cI, 6000, Sum.inl vIn))] H := ⟨hP, hD⟩
    have hP := hPD.1
    have hD := hPD.2
    refine lv_iload_n hx hb d_M_nextBit_64 rfl (lv_at hl 0 rfl) ?_
    exact my_iret (v := nI (biA is t)) hx hb hr (rfl) hlocks hQ hK hS (Nat.le_refl _) (Nat.le_refl _) () (rfl) (hP.sub [0, 1] rfl) (hD.sub [0, 1] (by decide +kernel) rfl) d_M_nextBit_65
  · have hlt : t / 8 < is.length := by
      rcases Nat.lt_or_ge (t / 8) is.length with z | z
      · exact z
      · exact absurd (nI_le z (by omega)) c_2
    have ho : is.getD (t / 8) 0 < 256 := hoct (t / 8)
    have h8 := Nat.mod_lt t (show 0 < 8 by decide)
    refine lv_aload_n hx hb d_M_nextBit_16 rfl (lv_at hl 1 rfl) ?_
    refine va_get (D := (dC, dI)) (ci := 9) (v := .ref (g 8)) (C := "RangeCodersModel") (T := T_M) (N := 35) hx hb hg in_M hown hK hP 0 rfl rfl 19 (by decide) (hg _ k971) (fun _ h9 => h9) rfl d_M_nextBit_17 ?_
    refine lv_iload_n hx hb d_M_nextBit_20 rfl (lv_at hl 0 rfl) ?_
    refine va_iald hx hb hK hP 1 0 rfl rfl (vp_in_nI (by omega) (by decide)) d_M_nextBit_21 ?_
    refine lv_topi (fun v_6 ev_6 => ?_)
    refine lv_bipush (v := 7) hx hb d_M_nextBit_22 (by decide) ?_
    refine lv_aload_n hx hb d_M_nextBit_24 rfl (lv_at hl 1 rfl) ?_
    refine va_get (D := (dC, dI)) (ci := 9) (v := .int (nI t)) (C := "RangeCodersModel") (T := T_M) (N := 35) hx hb hg in_M hown hK hP 0 rfl rfl 25 (by decide) (hg _ k977) (fun _ h9 => h9) rfl d_M_nextBit_25 ?_
    refine lv_bipush (v := 8) hx hb d_M_nextBit_28 (by decide) ?_
    refine lv_irem hx hb d_M_nextBit_30 (by decide) ?_
    refine lv_topi (fun v_7 ev_7 => ?_)
    refine lv_isub hx hb d_M_nextBit_31 ?_
    refine lv_topi (fun v_8 ev_8 => ?_)
    refine lv_ishr hx hb d_M_nextBit_32 ?_
    refine lv_topi (fun v_9 ev_9 => ?_)
    refine lv_iconst (v := 1) hx hb d_M_nextBit_33 (by decide) ?_
    refine lv_iand hx hb d_M_nextBit_34 ?_
    refine lv_topi (fun v_10 ev_10 => ?_)
    refine lv_goto (tgt := 39) hx hb d_M_nextBit_35 (by decide) ?_
    have z9 : v_10 = nI (biA is t) := by subst_vars; rw [nI_clamp (by omega), hI _ hlt, I_shrA (x := 7 - t % 8) (by omega) (by rw [show (nI t - nI t / 8 * 8) = nI (t % 8) from pk_rem (d := 8) (by omega) (by decide) (by decide)]; exact pk_sub (a := 7) (by omega)) (by omega), I_and1 (Nat.lt_of_le_of_lt (Nat.div_le_self _ _) (by omega))]; rfl
    subst z9
    refine lv_istore_n (lv' := [(2, Value.int (nI (biA is t))), (1, Value.int (nI (t / 8))), (0, Value.ref o)]) hx hb d_M_nextBit_39 rfl hl (by decide) rfl (fun ls hl => ?_)
    refine lv_aload_n hx hb d_M_nextBit_40 rfl (lv_at hl 2 rfl) ?_
    refine lv_dup hx hb d_M_nextBit_41 rfl ?_
    refine va_get (D := (dC, dI)) (ci := 9) (v := .int (nI t)) (C := "RangeCodersModel") (T := T_M) (N := 35) hx hb hg in_M hown hK hP 0 rfl rfl 25 (by decide) (hg _ k977) (fun _ h9 => h9) rfl d_M_nextBit_42 ?_
    refine lv_iconst (v := 1) hx hb d_M_nextBit_45 (by decide) ?_
    refine lv_iadd hx hb d_M_nextBit_46 ?_
    refine lv_topi (fun v_11 ev_11 => ?_)
    have z9 : v_11 = nI (t + 1) := by subst_vars; exact nI_1 _
    subst z9
    refine va_put (D := (dC, dI)) (ci := 9) (v := .int (nI (t + 1))) (ty := .int) (C := "RangeCodersModel") (T := T_M) (N := 35) hx hb hg in_M t_M o_M n_M hown hK hP hD hS 0 rfl rfl 25 (by decide) (hg _ k977) (fun _ h9 => h9) rfl (o_M 25 (by decide)) rfl rfl (Nat.le_of_ble_eq_true rfl) d_M_nextBit_47 (fun H locs hP hD hS => ?_)
    have hPD : my_PD (dC, dI) vwCl A [(o, Sum.inr (9, mO g fForm fShift fModels fItems fEnded fLow fRange fCache fPend fGoes fOuts (nI is.length) fReads fBad fIR fAsk (nI (t + 1)) fCode fRL fRR fX fWrites fThrown)), ((g 8), Sum.inl (cI, 6000, Sum.inl vIn))] H := ⟨hP, hD⟩
    have hP := hPD.1
    have hD := hPD.2
    refine lv_aload_n hx hb d_M_nextBit_50 rfl (lv_at hl 2 rfl) ?_
    refine lv_aload_n hx hb d_M_nextBit_51 rfl (lv_at hl 2 rfl) ?_
    refine va_get (D := (dC, dI)) (ci := 9) (v := .int (nI (t + 1))) (C := "RangeCodersModel") (T := T_M) (N := 35) hx hb hg in_M hown hK hP 0 rfl rfl 25 (by decide) (hg _ k977) (fun _ h9 => h9) rfl d_M_nextBit_52 ?_
    refine lv_bipush (v := 7) hx hb d_M_nextBit_55 (by decide) ?_
    refine lv_iadd hx hb d_M_nextBit_57 ?_
    refine lv_topi (fun v_12 ev_12 => ?_)
    refine lv_bipush (v := 8) hx hb d_M_nextBit_58 (by decide) ?_
    refine lv_idiv hx hb d_M_nextBit_60 (by decide) ?_
    refine lv_topi (fun v_13 ev_13 => ?_)
    have z9 : v_13 = nI ((t + 8) / 8) := by subst_vars; rw [show nI (t + 1) + 7 = nI (t + 8) from nI_add (t + 1) 7]; exact pk_div (d := 8) (by omega) (by decide) (by decide)
    subst z9
    refine va_put (D := (dC, dI)) (ci := 9) (v := .int (nI ((t + 8) / 8))) (ty := .int) (C := "RangeCodersModel") (T := T_M) (N := 35) hx hb hg in_M t_M o_M n_M hown hK hP hD hS 0 rfl rfl 24 (by decide) (hg _ k976) (fun _ h9 => h9) rfl (o_M 24 (by decide)) rfl rfl (Nat.le_of_ble_eq_true rfl) d_M_nextBit_61 (fun H locs hP hD hS => ?_)
    have hPD : my_PD (dC, dI) vwCl A [(o, Sum.inr (9, mO g fForm fShift fModels fItems fEnded fLow fRange fCache fPend fGoes fOuts (nI is.length) fReads fBad fIR (nI ((t + 8) / 8)) (nI (t + 1)) fCode fRL fRR fX fWrites fThrown)), ((g 8), Sum.inl (cI, 6000, Sum.inl vIn))] H := ⟨hP, hD⟩
    have hP := hPD.1
    have hD := hPD.2
    refine lv_iload_n hx hb d_M_nextBit_64 rfl (lv_at hl 0 rfl) ?_
    exact my_iret (v := (nI (biA is t))) hx hb hr (rfl) hlocks hQ hK hS (Nat.le_refl _) (Nat.le_refl _) () (rfl) (hP.sub [0, 1] rfl) (hD.sub [0, 1] (by decide +kernel) rfl) d_M_nextBit_65
set_option maxHeartbeats 1000000 in
set_option maxRecDepth 100000 in
/-- widenRead -/
theorem c_M_widenRead (l : Launch) (dC : Nat → ClassId) (dI : Nat → Nat → Nat) (cI cM cO : ClassId) (sz : Nat) (o : Nat) (g : Nat → Nat) (fForm : Int32) (fShift : Int32) (fModels : Int32) (fItems : Int32) (fEnded : Int32) (fLow : Int64) (fRange : Int64) (fCache : Int32) (fPend : Int32) (fGoes : Int32) (fOuts : Int32) (fReads : Int32) (fBad : Int32) (fIR : Int32) (fBAsk : Int32) (fRL : Int64) (fX : Int64) (fWrites : Int32) (fThrown : Int32) (vIn : Nat → Int32) (RR : Nat) (CD : Nat) (is : List Nat) (q : Nat) (hI : gIs vIn is) (hlen : is.length ≤ 6000) (hoct : oct is) (hq : q < 900000) (hR0 : 0 < RR) (hR1 : RR < 4294967296) (hC : CD < 4294967296) : MetV l y_M_widenRead (Cond.code y_M_widenRead prog_14_method_45_code 1 none :: gw) ({ frames := 1, cells := 0, slots := 0, locals := 21 } : Room) (dC, dI) vwCl (kT cI cM cO) [Value.ref o] [(o, Sum.inr (9, mO g fForm fShift fModels fItems fEnded fLow fRange fCache fPend fGoes fOuts (nI is.length) fReads fBad fIR (nI q) fBAsk (lN CD) fRL (lN RR) fX fWrites fThrown)), ((g 8), Sum.inl (cI, 6000, Sum.inl vIn))] sz (fun (u : Unit) => True) (fun (u : Unit) => [(o, Sum.inr (9, mO g fForm fShift fModels fItems fEnded fLow fRange fCache fPend fGoes fOuts (nI is.length) fReads fBad fIR (nI (wrS is (RR, CD, q)).2.2) fBAsk (lN (wrS is (RR, CD, q)).2.1) fRL (lN (wrS is (RR, CD, q)).1) fX fWrites fThrown)), ((g 8), Sum.inl (cI, 6000, Sum.inl vIn))]) 0 0 := by
  refine my_ofV (cc := prog_14_method_45_code) (n := 1) (ret := none) (by decide) rfl (Nat.le_of_ble_eq_true rfl) ?_
  intro p e s m args below meth c R Q A ls H locs hx hb hr hts hown hlocks hml hnm hR hQ hA hl hP hK hN hD hS
  have hg : ∀ w ∈ gw, w.before args s = true := fun w h => hts w (List.mem_cons_of_mem _ h)
  have hown : s.vm.findClass "RangeCodersModel" = some m.cls := hown
  have hl : lv_has ls 1 [(0, Value.ref o)] := hl
  have J_0 : ∀ (n9_0 : Nat) (r9 : RS) (k9 : Nat) (hn9_0 : k9 = n9_0) (hE9 : wrS is (RR, CD, q) = wrN is k9 r9) (hk5 : 5 ≤ k9) (hk8 : k9 ≤ 8) (hR9 : wb8 k9 ≤ r9.1) (hR32 : r9.1 < 4294967296) (hC9 : r9.2.1 < 4294967296) (hq9 : r9.2.2 + k9 ≤ 900008) (H : Heap) (locs : List Loc) (ls : Array Slot), va_P (dC, dI) vwCl [(o, Sum.inr (9, mO g fForm fShift fModels fItems fEnded fLow fRange fCache fPend fGoes fOuts (nI is.length) fReads fBad fIR (nI r9.2.2) fBAsk (lN r9.2.1) fRL (lN r9.1) fX fWrites fThrown)), ((g 8), Sum.inl (cI, 6000, Sum.inl vIn))] H → va_D A [(o, Sum.inr (9, mO g fForm fShift fModels fItems fEnded fLow fRange fCache fPend fGoes fOuts (nI is.length) fReads fBad fIR (nI r9.2.2) fBAsk (lN r9.2.1) fRL (lN r9.1) fX fWrites fThrown)), ((g 8), Sum.inl (cI, 6000, Sum.inl vIn))] → va_S A s.heap H locs → lv_has ls 1 [(0, Value.ref o)] → W p l e R s m args below meth c H locs 0 0 Q (F0 m 0 ls []) := by
    intro n9_0
    induction n9_0 using Nat.strongRecOn with
    | ind n9_0 ih9_0 =>
      intro r9 k9 hn9_0 hE9 hk5 hk8 hR9 hR32 hC9 hq9 H locs ls hP hD hS hl
      refine lv_aload_n hx hb d_M_widenRead_0 rfl (lv_at hl 0 rfl) ?_
      refine va_get (D := (dC, dI)) (ci := 9) (v := .long (lN r9.1)) (C := "RangeCodersModel") (T := T_M) (N := 35) hx hb hg in_M hown hK hP 0 rfl rfl 28 (by decide) (hg _ k980) (fun _ h9 => h9) rfl d_M_widenRead_1 ?_
      refine lv_ldc2 (v := 16777216) hx hb hown (hg _ k1101) d_M_widenRead_4 ?_
      refine W.lcmp hx hb d_M_widenRead_7 ?_
      refine lv_if_ge (tgt := 46) hx hb d_M_widenRead_8 (by decide) (fun c_1 => ?_) (fun c_1 => ?_)
      · rw [lg_cmp_ge] at c_1
        have hge : ¬ r9.1 < 16777216 := by have z := (L_le (a := 16777216) (by decide) (by omega)).mp c_1; omega
        have z9 : r9 = wrS is (RR, CD, q) := by rw [hE9, wrN_e hge]
        subst z9
        exact my_vret hx hb hr hlocks hQ hK hS (Nat.le_refl _) (Nat.le_refl _) () (trivial) (hP.sub [0, 1] rfl) (hD.sub [0, 1] (by decide +kernel) rfl) d_M_widenRead_46
      · rw [lg_cmp_ge] at c_1
        have hlt : r9.1 < 16777216 := by
          rcases Nat.lt_or_ge r9.1 16777216 with z | z
          · exact z
          · exact absurd ((L_le (a := 16777216) (by decide) (by omega)).mpr z) c_1
        have hk6 := wb8_k hk5 hR9 hlt
        have ho := hoct r9.2.2
        refine lv_aload_n hx hb d_M_widenRead_11 rfl (lv_at hl 0 rfl) ?_
        refine lv_aload_n hx hb d_M_widenRead_12 rfl (lv_at hl 0 rfl) ?_
        refine va_get (D := (dC, dI)) (ci := 9) (v := .long (lN r9.1)) (C := "RangeCodersModel") (T := T_M) (N := 35) hx hb hg in_M hown hK hP 0 rfl rfl 28 (by decide) (hg _ k980) (fun _ h9 => h9) rfl d_M_widenRead_13 ?_
        refine lv_bipush (v := 8) hx hb d_M_widenRead_16 (by decide) ?_
        refine lv_lshl hx hb d_M_widenRead_18 rfl ?_
        refine lv_topl (fun v_2 ev_2 => ?_)
        have z9 : v_2 = lN (r9.1 * 256) := by subst_vars; exact L_shl8 _
        subst z9
        refine va_put (D := (dC, dI)) (ci := 9) (v := .long (lN (r9.1 * 256))) (ty := .long) (C := "RangeCodersModel") (T := T_M) (N := 35) hx hb hg in_M t_M o_M n_M hown hK hP hD hS 0 rfl rfl 28 (by decide) (hg _ k980) (fun _ h9 => h9) rfl (o_M 28 (by decide)) rfl rfl (Nat.le_of_ble_eq_true rfl) d_M_widenRead_19 (fun H locs hP hD hS => ?_)
        have hPD : my_PD (dC, dI) vwCl A [(o, Sum.inr (9, mO g fForm fShift fModels fItems fEnded fLow fRange fCache fPend fGoes fOuts (nI is.length) fReads fBad fIR (nI r9.2.2) fBAsk (lN r9.2.1) fRL (lN (r9.1 * 256)) fX fWrites fThrown)), ((g 8), Sum.inl (cI, 6000, Sum.inl vIn))] H := ⟨hP, hD⟩
        have hP := hPD.1
        have hD := hPD.2
        refine lv_aload_n hx hb d_M_widenRead_22 rfl (lv_at hl 0 rfl) ?_
        refine lv_aload_n hx hb d_M_widenRead_23 rfl (lv_at hl 0 rfl) ?_
        refine va_get (D := (dC, dI)) (ci := 9) (v := .long (lN r9.2.1)) (C := "RangeCodersModel") (T := T_M) (N := 35) hx hb hg in_M hown hK hP 0 rfl rfl 26 (by decide) (hg _ k978) (fun _ h9 => h9) rfl d_M_widenRead_24 ?_
        refine lv_bipush (v := 8) hx hb d_M_widenRead_27 (by decide) ?_
        refine lv_lshl hx hb d_M_widenRead_29 rfl ?_
        refine lv_topl (fun v_3 ev_3 => ?_)
        refine lv_ldc2 (v := 4294967295) hx hb hown (hg _ k927) d_M_widenRead_30 ?_
        refine lv_land hx hb d_M_widenRead_33 ?_
        refine lv_topl (fun v_4 ev_4 => ?_)
        refine lv_aload_n hx hb d_M_widenRead_34 rfl (lv_at hl 0 rfl) ?_
        refine my_ci (wr := []) (va_runV (As := []) (rest := [Value.long v_4, Value.ref o]) ⟨hx, hb, hml, hown, hts⟩ (c_M_next l dC dI cI cM cO H.size o g fForm fShift fModels fItems fEnded fLow fRange fCache fPend fGoes fOuts fReads fBad fIR fBAsk (lN r9.2.1) fRL (lN (r9.1 * 256)) fX fWrites fThrown vIn is r9.2.2 (by assumption) (by assumption) (by assumption) (by omega)) (cwV 0 hts (my_gV k1194 k1196 ks45 k12 k1197) rfl rfl rfl cu_M_next_0 ⟨by rw [hR]; exact Nat.le_of_ble_eq_true rfl, by rw [hR]; exact Nat.le_of_ble_eq_true rfl⟩) (my_preV hK hN (hP.sub [0, 1] rfl) (hD.sub [0, 1] (by decide +kernel) rfl) 0 rfl rfl) rfl rfl hl.1 rfl (lv_room (Nat.le_of_ble_eq_true rfl)) d_M_widenRead_35 ⟨by rw [hR]; exact Nat.le_of_ble_eq_true rfl, by rw [hR]; exact Nat.le_of_ble_eq_true rfl⟩) hP hD hS hA [0, 1] [] rfl rfl (by decide +kernel) (by decide +kernel) (fun r_35 u9 H locs hw_35 hP hD hS => ?_)
        have hw_35 : r_35 = nI (byA is r9.2.2) := hw_35
        have hPD : my_PD (dC, dI) vwCl A [(o, Sum.inr (9, mO g fForm fShift fModels fItems fEnded fLow fRange fCache fPend fGoes fOuts (nI is.length) fReads fBad fIR (nI (r9.2.2 + 1)) fBAsk (lN r9.2.1) fRL (lN (r9.1 * 256)) fX fWrites fThrown)), ((g 8), Sum.inl (cI, 6000, Sum.inl vIn))] H := ⟨hP, hD⟩
        have hP := hPD.1
        have hD := hPD.2
        refine lv_i2l hx hb d_M_widenRead_38 rfl ?_
        refine lv_topl (fun v_5 ev_5 => ?_)
        refine lv_ladd hx hb d_M_widenRead_39 ?_
        refine lv_topl (fun v_6 ev_6 => ?_)
        have z9 : v_6 = lN (r9.2.1 * 256 % 4294967296 + byA is r9.2.2) := by subst_vars; rw [L_shl8, L_and32 (by omega), nI_l (by omega), lN_add]
        subst z9
        refine va_put (D := (dC, dI)) (ci := 9) (v := .long (lN (r9.2.1 * 256 % 4294967296 + byA is r9.2.2))) (ty := .long) (C := "RangeCodersModel") (T := T_M) (N := 35) hx hb hg in_M t_M o_M n_M hown hK hP hD hS 0 rfl rfl 26 (by decide) (hg _ k978) (fun _ h9 => h9) rfl (o_M 26 (by decide)) rfl rfl (Nat.le_of_ble_eq_true rfl) d_M_widenRead_40 (fun H locs hP hD hS => ?_)
        have hPD : my_PD (dC, dI) vwCl A [(o, Sum.inr (9, mO g fForm fShift fModels fItems fEnded fLow fRange fCache fPend fGoes fOuts (nI is.length) fReads fBad fIR (nI (r9.2.2 + 1)) fBAsk (lN (r9.2.1 * 256 % 4294967296 + byA is r9.2.2)) fRL (lN (r9.1 * 256)) fX fWrites fThrown)), ((g 8), Sum.inl (cI, 6000, Sum.inl vIn))] H := ⟨hP, hD⟩
        have hP := hPD.1
        have hD := hPD.2
        refine lv_goto (tgt := 0) hx hb d_M_widenRead_43 (by decide) ?_
        exact ih9_0 _ (by first | omega | (omega)) (r9.1 * 256, r9.2.1 * 256 % 4294967296 + byA is r9.2.2, r9.2.2 + 1) (k9 - 1) rfl (by rw [hE9, wrN_s (by omega) hlt]) (by omega) (by omega) (wb8_s hk6 hk8 hR9) (by show r9.1 * 256 < _; omega) (by show r9.2.1 * 256 % 4294967296 + byA is r9.2.2 < _; have := hoct r9.2.2; omega) (by show r9.2.2 + 1 + _ ≤ _; omega) H locs ls (hP.sub [0, 1] rfl) (hD.sub [0, 1] (by decide +kernel) rfl) hS (lv_sub hl [0] rfl)
  exact J_0 _ (RR, CD, q) 8 rfl (rfl) (by decide) (by decide) (hR0) (hR1) (hC) (by show q + 8 ≤ _; omega) H locs ls (hP.sub [0, 1] rfl) (hD.sub [0, 1] (by decide +kernel) rfl) hS (lv_sub hl [0] rfl)
set_option maxHeartbeats 1000000 in
set_option maxRecDepth 100000 in
/-- refill -/
theorem c_M_refill (l : Launch) (dC : Nat → ClassId) (dI : Nat → Nat → Nat) (cI cM cO : ClassId) (sz : Nat) (o : Nat) (g : Nat → Nat) (fForm : Int32) (fShift : Int32) (fModels : Int32) (fItems : Int32) (fEnded : Int32) (fLow : Int64) (fRange : Int64) (fCache : Int32) (fPend : Int32) (fGoes : Int32) (fOuts : Int32) (fReads : Int32) (fBad : Int32) (fIR : Int32) (fBAsk : Int32) (fCode : Int64) (fRL : Int64) (fRR : Int64) (fWrites : Int32) (fThrown : Int32) (vIn : Nat → Int32) (X : Nat) (is : List Nat) (q : Nat) (hI : gIs vIn is) (hlen : is.length ≤ 6000) (hoct : oct is) (hq : q < 900000) (hX0 : 0 < X) (hX1 : X < 2 ^ 40) : MetV l y_M_refill (Cond.code y_M_refill prog_14_method_54_code 1 none :: gw) ({ frames := 1, cells := 0, slots := 0, locals := 21 } : Room) (dC, dI) vwCl (kT cI cM cO) [Value.ref o] [(o, Sum.inr (9, mO g fForm fShift fModels fItems fEnded fLow fRange fCache fPend fGoes fOuts (nI is.length) fReads fBad fIR (nI q) fBAsk fCode fRL fRR (lN X) fWrites fThrown)), ((g 8), Sum.inl (cI, 6000, Sum.inl vIn))] sz (fun (u : Unit) => True) (fun (u : Unit) => [(o, Sum.inr (9, mO g fForm fShift fModels fItems fEnded fLow fRange fCache fPend fGoes fOuts (nI is.length) fReads fBad fIR (nI (rfS is (X, q)).2) fBAsk fCode fRL fRR (lN (rfS is (X, q)).1) fWrites fThrown)), ((g 8), Sum.inl (cI, 6000, Sum.inl vIn))]) 0 0 := by
  refine my_ofV (cc := prog_14_method_54_code) (n := 1) (ret := none) (by decide) rfl (Nat.le_of_ble_eq_true rfl) ?_
  intro p e s m args below meth c R Q A ls H locs hx hb hr hts hown hlocks hml hnm hR hQ hA hl hP hK hN hD hS
  have hg : ∀ w ∈ gw, w.before args s = true := fun w h => hts w (List.mem_cons_of_mem _ h)
  have hown : s.vm.findClass "RangeCodersModel" = some m.cls := hown
  have hl : lv_has ls 1 [(0, Value.ref o)] := hl
  have J_0 : ∀ (n9_0 : Nat) (r9 : Nat × Nat) (k9 : Nat) (hn9_0 : k9 = n9_0) (hE9 : rfS is (X, q) = rfN is k9 r9) (hk5 : 5 ≤ k9) (hk8 : k9 ≤ 8) (hR9 : wb8 k9 ≤ r9.1) (hR40 : r9.1 < 2 ^ 40) (hq9 : r9.2 + k9 ≤ 900008) (H : Heap) (locs : List Loc) (ls : Array Slot), va_P (dC, dI) vwCl [(o, Sum.inr (9, mO g fForm fShift fModels fItems fEnded fLow fRange fCache fPend fGoes fOuts (nI is.length) fReads fBad fIR (nI r9.2) fBAsk fCode fRL fRR (lN r9.1) fWrites fThrown)), ((g 8), Sum.inl (cI, 6000, Sum.inl vIn))] H → va_D A [(o, Sum.inr (9, mO g fForm fShift fModels fItems fEnded fLow fRange fCache fPend fGoes fOuts (nI is.length) fReads fBad fIR (nI r9.2) fBAsk fCode fRL fRR (lN r9.1) fWrites fThrown)), ((g 8), Sum.inl (cI, 6000, Sum.inl vIn))] → va_S A s.heap H locs → lv_has ls 1 [(0, Value.ref o)] → W p l e R s m args below meth c H locs 0 0 Q (F0 m 0 ls []) := by
    intro n9_0
    induction n9_0 using Nat.strongRecOn with
    | ind n9_0 ih9_0 =>
      intro r9 k9 hn9_0 hE9 hk5 hk8 hR9 hR40 hq9 H locs ls hP hD hS hl
      refine lv_aload_n hx hb d_M_refill_0 rfl (lv_at hl 0 rfl) ?_
      refine va_get (D := (dC, dI)) (ci := 9) (v := .long (lN r9.1)) (C := "RangeCodersModel") (T := T_M) (N := 35) hx hb hg in_M hown hK hP 0 rfl rfl 29 (by decide) (hg _ k981) (fun _ h9 => h9) rfl d_M_refill_1 ?_
      refine lv_ldc2 (v := 8388608) hx hb hown (hg _ k1155) d_M_refill_4 ?_
      refine W.lcmp hx hb d_M_refill_7 ?_
      refine lv_if_ge (tgt := 31) hx hb d_M_refill_8 (by decide) (fun c_1 => ?_) (fun c_1 => ?_)
      · rw [lg_cmp_ge] at c_1
        have hge : ¬ r9.1 < 8388608 := by have z := (L_le (a := 8388608) (by decide) (by omega)).mp c_1; omega
        have z9 : r9 = rfS is (X, q) := by rw [hE9, rfN_e hge]
        subst z9
        exact my_vret hx hb hr hlocks hQ hK hS (Nat.le_refl _) (Nat.le_refl _) () (trivial) (hP.sub [0, 1] rfl) (hD.sub [0, 1] (by decide +kernel) rfl) d_M_refill_31
      · rw [lg_cmp_ge] at c_1
        have hlt : r9.1 < 8388608 := by
          rcases Nat.lt_or_ge r9.1 8388608 with z | z
          · exact z
          · exact absurd ((L_le (a := 8388608) (by decide) (by omega)).mpr z) c_1
        have hk6 := wb8_k hk5 hR9 (by omega)
        have ho := hoct r9.2
        refine lv_aload_n hx hb d_M_refill_11 rfl (lv_at hl 0 rfl) ?_
        refine lv_aload_n hx hb d_M_refill_12 rfl (lv_at hl 0 rfl) ?_
        refine va_get (D := (dC, dI)) (ci := 9) (v := .long (lN r9.1)) (C := "RangeCodersModel") (T := T_M) (N := 35) hx hb hg in_M hown hK hP 0 rfl rfl 29 (by decide) (hg _ k981) (fun _ h9 => h9) rfl d_M_refill_13 ?_
        refine lv_bipush (v := 8) hx hb d_M_refill_16 (by decide) ?_
        refine lv_lshl hx hb d_M_refill_18 rfl ?_
        refine lv_topl (fun v_2 ev_2 => ?_)
        refine lv_aload_n hx hb d_M_refill_19 rfl (lv_at hl 0 rfl) ?_
        refine my_ci (wr := []) (va_runV (As := []) (rest := [Value.long v_2, Value.ref o]) ⟨hx, hb, hml, hown, hts⟩ (c_M_next l dC dI cI cM cO H.size o g fForm fShift fModels fItems fEnded fLow fRange fCache fPend fGoes fOuts fReads fBad fIR fBAsk fCode fRL fRR (lN r9.1) fWrites fThrown vIn is r9.2 (by assumption) (by assumption) (by assumption) (by omega)) (cwV 0 hts (my_gV k1194 k1196 ks45 k12 k1197) rfl rfl rfl cu_M_next_0 ⟨by rw [hR]; exact Nat.le_of_ble_eq_true rfl, by rw [hR]; exact Nat.le_of_ble_eq_true rfl⟩) (my_preV hK hN (hP.sub [0, 1] rfl) (hD.sub [0, 1] (by decide +kernel) rfl) 0 rfl rfl) rfl rfl hl.1 rfl (lv_room (Nat.le_of_ble_eq_true rfl)) d_M_refill_20 ⟨by rw [hR]; exact Nat.le_of_ble_eq_true rfl, by rw [hR]; exact Nat.le_of_ble_eq_true rfl⟩) hP hD hS hA [0, 1] [] rfl rfl (by decide +kernel) (by decide +kernel) (fun r_20 u9 H locs hw_20 hP hD hS => ?_)
        have hw_20 : r_20 = nI (byA is r9.2) := hw_20
        have hPD : my_PD (dC, dI) vwCl A [(o, Sum.inr (9, mO g fForm fShift fModels fItems fEnded fLow fRange fCache fPend fGoes fOuts (nI is.length) fReads fBad fIR (nI (r9.2 + 1)) fBAsk fCode fRL fRR (lN r9.1) fWrites fThrown)), ((g 8), Sum.inl (cI, 6000, Sum.inl vIn))] H := ⟨hP, hD⟩
        have hP := hPD.1
        have hD := hPD.2
        refine lv_i2l hx hb d_M_refill_23 rfl ?_
        refine lv_topl (fun v_3 ev_3 => ?_)
        refine lv_lor hx hb d_M_refill_24 ?_
        refine lv_topl (fun v_4 ev_4 => ?_)
        have z9 : v_4 = lN (r9.1 * 256 + byA is r9.2) := by subst_vars; rw [L_shl8, nI_l (by omega), L_or8 ho (by omega)]
        subst z9
        refine va_put (D := (dC, dI)) (ci := 9) (v := .long (lN (r9.1 * 256 + byA is r9.2))) (ty := .long) (C := "RangeCodersModel") (T := T_M) (N := 35) hx hb hg in_M t_M o_M n_M hown hK hP hD hS 0 rfl rfl 29 (by decide) (hg _ k981) (fun _ h9 => h9) rfl (o_M 29 (by decide)) rfl rfl (Nat.le_of_ble_eq_true rfl) d_M_refill_25 (fun H locs hP hD hS => ?_)
        have hPD : my_PD (dC, dI) vwCl A [(o, Sum.inr (9, mO g fForm fShift fModels fItems fEnded fLow fRange fCache fPend fGoes fOuts (nI is.length) fReads fBad fIR (nI (r9.2 + 1)) fBAsk fCode fRL fRR (lN (r9.1 * 256 + byA is r9.2)) fWrites fThrown)), ((g 8), Sum.inl (cI, 6000, Sum.inl vIn))] H := ⟨hP, hD⟩
        have hP := hPD.1
        have hD := hPD.2
        refine lv_goto (tgt := 0) hx hb d_M_refill_28 (by decide) ?_
        exact ih9_0 _ (by first | omega | (omega)) (r9.1 * 256 + byA is r9.2, r9.2 + 1) (k9 - 1) rfl (by rw [hE9, rfN_s (by omega) hlt]) (by omega) (by omega) (Nat.le_trans (wb8_s hk6 hk8 hR9) (Nat.le_add_right _ _)) (by show r9.1 * 256 + byA is r9.2 < _; omega) (by show r9.2 + 1 + _ ≤ _; omega) H locs ls (hP.sub [0, 1] rfl) (hD.sub [0, 1] (by decide +kernel) rfl) hS (lv_sub hl [0] rfl)
  exact J_0 _ (X, q) 8 rfl (rfl) (by decide) (by decide) (hX0) (hX1) (by show q + 8 ≤ _; omega) H locs ls (hP.sub [0, 1] rfl) (hD.sub [0, 1] (by decide +kernel) rfl) hS (lv_sub hl [0] rfl)
end
section
set_option maxHeartbeats 1000000 in
set_option maxRecDepth 100000 in
/-- widenPlain -/
theorem c_M_widenPlain (l : Launch) (dC : Nat → ClassId) (dI : Nat → Nat → Nat) (cI cM cO : ClassId) (sz : Nat) (o : Nat) (g : Nat → Nat) (fForm : Int32) (fShift : Int32) (fModels : Int32) (fItems : Int32) (fEnded : Int32) (fCache : Int32) (fPend : Int32) (fOuts : Int32) (fIns : Int32) (fReads : Int32) (fBad : Int32) (fIR : Int32) (fAsk : Int32) (fBAsk : Int32) (fCode : Int64) (fRL : Int64) (fRR : Int64) (fX : Int64) (fWrites : Int32) (fThrown : Int32) (vGoing : Nat → Int32) (Rg : Nat) (L : Nat) (bs : List Nat) (hp : pOk Rg L) (hG : gIs vGoing bs) (hN9 : bs.length + 5 ≤ 9000) : MetV l y_M_widenPlain (Cond.code y_M_widenPlain prog_14_method_20_code 3 none :: gw) ({ frames := 1, cells := 0, slots := 0, locals := 21 } : Room) (dC, dI) vwCl (kT cI cM cO) [Value.ref o] [(o, Sum.inr (9, mO g fForm fShift fModels fItems fEnded (lN L) (lN Rg) fCache fPend (nI bs.length) fOuts fIns fReads fBad fIR fAsk fBAsk fCode fRL fRR fX fWrites fThrown)), ((g 6), Sum.inl (cI, 9000, Sum.inl vGoing))] sz (fun (u : (Nat → Int32)) => gIs u (plS (Rg, L, bs)).2.2) (fun (u : (Nat → Int32)) => [(o, Sum.inr (9, mO g fForm fShift fModels fItems fEnded (lN (plS (Rg, L, bs)).2.1) (lN (plS (Rg, L, bs)).1) fCache fPend (nI (plS (Rg, L, bs)).2.2.length) fOuts fIns fReads fBad fIR fAsk fBAsk fCode fRL fRR fX fWrites fThrown)), ((g 6), Sum.inl (cI, 9000, Sum.inl u))]) 0 0 := by
  refine my_ofV (cc := prog_14_method_20_code) (n := 3) (ret := none) (by decide) rfl (Nat.le_of_ble_eq_true rfl) ?_
  intro p e s m args below meth c R Q A ls H locs hx hb hr hts hown hlocks hml hnm hR hQ hA hl hP hK hN hD hS
  have hg : ∀ w ∈ gw, w.before args s = true := fun w h => hts w (List.mem_cons_of_mem _ h)
  have hown : s.vm.findClass "RangeCodersModel" = some m.cls := hown
  have hl : lv_has ls 3 [(0, Value.ref o)] := hl
  refine lv_iconst (v := 1) hx hb d_M_widenPlain_0 (by decide) ?_
  refine lv_istore_n (lv' := [(1, Value.int 1), (0, Value.ref o)]) hx hb d_M_widenPlain_1 rfl hl (by decide) rfl (fun ls hl => ?_)
  refine lv_iload_n hx hb d_M_widenPlain_2 rfl (lv_at hl 0 rfl) ?_
  refine lv_if_eq (tgt := 133) hx hb d_M_widenPlain_3 (by decide) (fun c_1 => ?_) (fun c_1 => ?_)
  · exact absurd c_1 (by decide)
  · have J_6 : ∀ (n9_6 : Nat) (e9 : PS) (vK : Nat → Int32) (k9 : Nat) (hn9_6 : k9 = n9_6) (hE9 : plS (Rg, L, bs) = plN k9 e9) (hi9 : plI k9 e9.1 e9.2.1) (hg9 : gIs vK e9.2.2) (hM9 : e9.2.2.length + k9 ≤ 9003) (H : Heap) (locs : List Loc) (ls : Array Slot), va_P (dC, dI) vwCl [(o, Sum.inr (9, mO g fForm fShift fModels fItems fEnded (lN e9.2.1) (lN e9.1) fCache fPend (nI e9.2.2.length) fOuts fIns fReads fBad fIR fAsk fBAsk fCode fRL fRR fX fWrites fThrown)), ((g 6), Sum.inl (cI, 9000, Sum.inl vK))] H → va_D A [(o, Sum.inr (9, mO g fForm fShift fModels fItems fEnded (lN e9.2.1) (lN e9.1) fCache fPend (nI e9.2.2.length) fOuts fIns fReads fBad fIR fAsk fBAsk fCode fRL fRR fX fWrites fThrown)), ((g 6), Sum.inl (cI, 9000, Sum.inl vK))] → va_S A s.heap H locs → lv_has ls 3 [(0, Value.ref o)] → W p l e R s m args below meth c H locs 0 0 Q (F0 m 6 ls []) := by
      intro n9_6
      induction n9_6 using Nat.strongRecOn with
      | ind n9_6 ih9_6 =>
        intro e9 vK k9 hn9_6 hE9 hi9 hg9 hM9 H locs ls hP hD hS hl
        obtain ⟨⟨hL1, hR1, hS1, hS2⟩, hk4, hk8, -⟩ := id hi9
        refine lv_aload_n hx hb d_M_widenPlain_6 rfl (lv_at hl 0 rfl) ?_
        refine va_get (D := (dC, dI)) (ci := 9) (v := .long (lN e9.2.1)) (C := "RangeCodersModel") (T := T_M) (N := 35) hx hb hg in_M hown hK hP 0 rfl rfl 11 (by decide) (hg _ k963) (fun _ h9 => h9) rfl d_M_widenPlain_7 ?_
        refine lv_bipush (v := 24) hx hb d_M_widenPlain_10 (by decide) ?_
        refine lv_lshr hx hb d_M_widenPlain_12 rfl ?_
        refine lv_topl (fun v_2 ev_2 => ?_)
        refine lv_aload_n hx hb d_M_widenPlain_13 rfl (lv_at hl 0 rfl) ?_
        refine va_get (D := (dC, dI)) (ci := 9) (v := .long (lN e9.2.1)) (C := "RangeCodersModel") (T := T_M) (N := 35) hx hb hg in_M hown hK hP 0 rfl rfl 11 (by decide) (hg _ k963) (fun _ h9 => h9) rfl d_M_widenPlain_14 ?_
        refine lv_aload_n hx hb d_M_widenPlain_17 rfl (lv_at hl 0 rfl) ?_
        refine va_get (D := (dC, dI)) (ci := 9) (v := .long (lN e9.1)) (C := "RangeCodersModel") (T := T_M) (N := 35) hx hb hg in_M hown hK hP 0 rfl rfl 12 (by decide) (hg _ k964) (fun _ h9 => h9) rfl d_M_widenPlain_18 ?_
        refine lv_ladd hx hb d_M_widenPlain_21 ?_
        refine lv_topl (fun v_3 ev_3 => ?_)
        refine lv_ldc2 (v := 4294967295) hx hb hown (hg _ k927) d_M_widenPlain_22 ?_
        refine lv_land hx hb d_M_widenPlain_25 ?_
        refine lv_topl (fun v_4 ev_4 => ?_)
        refine lv_bipush (v := 24) hx hb d_M_widenPlain_26 (by decide) ?_
        refine lv_lshr hx hb d_M_widenPlain_28 rfl ?_
        refine lv_topl (fun v_5 ev_5 => ?_)
        have hx9 : v_2 = lN (e9.2.1 / 16777216) := by subst_vars; exact L_shr24 (by omega)
        have hy9 : v_5 = lN ((e9.2.1 + e9.1) % 4294967296 / 16777216) := by subst_vars; rw [lN_add, L_and32 (by omega), L_shr24 (by omega)]
        refine W.lcmp hx hb d_M_widenPlain_29 ?_
        refine lv_if_ne (tgt := 37) hx hb d_M_widenPlain_30 (by decide) (fun c_6 => ?_) (fun c_6 => ?_)
        · rw [lg_cmp_eq] at c_6
          have hsm : ¬ smT e9.2.1 e9.1 := fun z => c_6 (by rw [hx9, hy9]; exact congrArg lN z)
          refine lv_iconst (v := 0) hx hb d_M_widenPlain_37 (by decide) ?_
          refine lv_istore_n (lv' := [(2, Value.int 0), (0, Value.ref o)]) hx hb d_M_widenPlain_38 rfl hl (by decide) rfl (fun ls hl => ?_)
          refine lv_iload_n hx hb d_M_widenPlain_39 rfl (lv_at hl 0 rfl) ?_
          refine lv_if_ne (tgt := 54) hx hb d_M_widenPlain_40 (by decide) (fun c_7 => ?_) (fun c_7 => ?_)
          · exact absurd rfl c_7
          · refine lv_aload_n hx hb d_M_widenPlain_43 rfl (lv_at hl 1 rfl) ?_
            refine va_get (D := (dC, dI)) (ci := 9) (v := .long (lN e9.1)) (C := "RangeCodersModel") (T := T_M) (N := 35) hx hb hg in_M hown hK hP 0 rfl rfl 12 (by decide) (hg _ k964) (fun _ h9 => h9) rfl d_M_widenPlain_44 ?_
            refine lv_ldc2 (v := 65536) hx hb hown (hg _ k1117) d_M_widenPlain_47 ?_
            refine W.lcmp hx hb d_M_widenPlain_50 ?_
            refine lv_if_ge (tgt := 58) hx hb d_M_widenPlain_51 (by decide) (fun c_8 => ?_) (fun c_8 => ?_)
            · rw [lg_cmp_ge] at c_8
              have hge : 65536 ≤ e9.1 := (L_le (a := 65536) (by decide) (by omega)).mp c_8
              have hnm : ¬ mvP e9.2.1 e9.1 := fun z => z.elim (fun z => hsm z) (fun z => by omega)
              refine lv_iconst (v := 0) hx hb d_M_widenPlain_58 (by decide) ?_
              refine lv_istore_n (lv' := [(1, Value.int 0), (2, Value.int 0), (0, Value.ref o)]) hx hb d_M_widenPlain_59 rfl hl (by decide) rfl (fun ls hl => ?_)
              refine lv_iload_n hx hb d_M_widenPlain_60 rfl (lv_at hl 0 rfl) ?_
              refine lv_if_eq (tgt := 130) hx hb d_M_widenPlain_61 (by decide) (fun c_9 => ?_) (fun c_9 => ?_)
              · refine lv_goto (tgt := 2) hx hb d_M_widenPlain_130 (by decide) ?_
                refine lv_iload_n hx hb d_M_widenPlain_2 rfl (lv_at hl 0 rfl) ?_
                refine lv_if_eq (tgt := 133) hx hb d_M_widenPlain_3 (by decide) (fun c_10 => ?_) (fun c_10 => ?_)
                · have z9 : e9 = plS (Rg, L, bs) := by rw [hE9, plN_e hnm]
                  subst z9
                  exact my_vret hx hb hr hlocks hQ hK hS (Nat.le_refl _) (Nat.le_refl _) vK (hg9) (hP.sub [0, 1] rfl) (hD.sub [0, 1] (by decide +kernel) rfl) d_M_widenPlain_133
                · exact absurd (by decide) c_10
              · exact absurd (by decide) c_9
            · rw [lg_cmp_ge] at c_8
              have hlt : e9.1 < 65536 := by
                rcases Nat.lt_or_ge e9.1 65536 with z | z
                · exact z
                · exact absurd ((L_le (a := 65536) (by decide) (by omega)).mpr z) c_8
              refine lv_iconst (v := 1) hx hb d_M_widenPlain_54 (by decide) ?_
              refine lv_goto (tgt := 59) hx hb d_M_widenPlain_55 (by decide) ?_
              refine lv_istore_n (lv' := [(1, Value.int 1), (2, Value.int 0), (0, Value.ref o)]) hx hb d_M_widenPlain_59 rfl hl (by decide) rfl (fun ls hl => ?_)
              refine lv_iload_n hx hb d_M_widenPlain_60 rfl (lv_at hl 0 rfl) ?_
              refine lv_if_eq (tgt := 130) hx hb d_M_widenPlain_61 (by decide) (fun c_11 => ?_) (fun c_11 => ?_)
              · exact absurd c_11 (by decide)
              · have hmv : mvP e9.2.1 e9.1 := Or.inr hlt
                have hst := plI_st hi9 hmv
                have hng : ngL e9.2.1 < 65536 := Nat.mod_lt _ (by decide)
                refine lv_aload_n hx hb d_M_widenPlain_64 rfl (lv_at hl 2 rfl) ?_
                refine lv_iload_n hx hb d_M_widenPlain_65 rfl (lv_at hl 1 rfl) ?_
                refine lv_if_eq (tgt := 76) hx hb d_M_widenPlain_66 (by decide) (fun c_12 => ?_) (fun c_12 => ?_)
                · refine lv_aload_n hx hb d_M_widenPlain_76 rfl (lv_at hl 2 rfl) ?_
                  refine va_get (D := (dC, dI)) (ci := 9) (v := .long (lN e9.2.1)) (C := "RangeCodersModel") (T := T_M) (N := 35) hx hb hg in_M hown hK hP 0 rfl rfl 11 (by decide) (hg _ k963) (fun _ h9 => h9) rfl d_M_widenPlain_77 ?_
                  refine lv_lneg hx hb d_M_widenPlain_80 ?_
                  refine lv_topl (fun v_13 ev_13 => ?_)
                  refine lv_ldc2 (v := 65535) hx hb hown (hg _ k1118) d_M_widenPlain_81 ?_
                  refine lv_land hx hb d_M_widenPlain_84 ?_
                  refine lv_topl (fun v_14 ev_14 => ?_)
                  have z9 : v_14 = lN (ngL e9.2.1) := by subst_vars; exact L_ngA (by omega)
                  subst z9
                  refine va_put (D := (dC, dI)) (ci := 9) (v := .long (lN (ngL e9.2.1))) (ty := .long) (C := "RangeCodersModel") (T := T_M) (N := 35) hx hb hg in_M t_M o_M n_M hown hK hP hD hS 0 rfl rfl 12 (by decide) (hg _ k964) (fun _ h9 => h9) rfl (o_M 12 (by decide)) rfl rfl (Nat.le_of_ble_eq_true rfl) d_M_widenPlain_85 (fun H locs hP hD hS => ?_)
                  have hPD : my_PD (dC, dI) vwCl A [(o, Sum.inr (9, mO g fForm fShift fModels fItems fEnded (lN e9.2.1) (lN (ngL e9.2.1)) fCache fPend (nI e9.2.2.length) fOuts fIns fReads fBad fIR fAsk fBAsk fCode fRL fRR fX fWrites fThrown)), ((g 6), Sum.inl (cI, 9000, Sum.inl vK))] H := ⟨hP, hD⟩
                  have hP := hPD.1
                  have hD := hPD.2
                  refine lv_aload_n hx hb d_M_widenPlain_88 rfl (lv_at hl 2 rfl) ?_
                  refine lv_aload_n hx hb d_M_widenPlain_89 rfl (lv_at hl 2 rfl) ?_
                  refine va_get (D := (dC, dI)) (ci := 9) (v := .long (lN e9.2.1)) (C := "RangeCodersModel") (T := T_M) (N := 35) hx hb hg in_M hown hK hP 0 rfl rfl 11 (by decide) (hg _ k963) (fun _ h9 => h9) rfl d_M_widenPlain_90 ?_
                  refine lv_bipush (v := 24) hx hb d_M_widenPlain_93 (by decide) ?_
                  refine lv_lshr hx hb d_M_widenPlain_95 rfl ?_
                  refine lv_topl (fun v_15 ev_15 => ?_)
                  refine lv_l2i hx hb d_M_widenPlain_96 rfl ?_
                  refine lv_topi (fun v_16 ev_16 => ?_)
                  have z9 : v_16 = nI (e9.2.1 / 16777216) := by subst_vars; rw [L_shr24 (by omega)]; exact lN_i _
                  subst z9
                  refine my_cv (wr := []) (va_runV (As := [Value.int (nI (e9.2.1 / 16777216))]) (rest := []) ⟨hx, hb, hml, hown, hts⟩ (c_M_write l dC dI cI cM cO H.size o g fForm fShift fModels fItems fEnded (lN e9.2.1) (lN (ngL e9.2.1)) fCache fPend fOuts fIns fReads fBad fIR fAsk fBAsk fCode fRL fRR fX fWrites fThrown vK e9.2.2 (e9.2.1 / 16777216) (hg9) (by omega) (by omega)) (cwV 1 hts (my_gV k1107 k1109 ks32 k12 k1110) rfl rfl rfl cu_M_write_1 ⟨by rw [hR]; exact Nat.le_of_ble_eq_true rfl, by rw [hR]; exact Nat.le_of_ble_eq_true rfl⟩) (my_preV hK hN (hP.sub [0, 1] rfl) (hD.sub [0, 1] (by decide +kernel) rfl) 0 rfl rfl) rfl rfl hl.1 rfl (lv_room (Nat.le_of_ble_eq_true rfl)) d_M_widenPlain_97 ⟨by rw [hR]; exact Nat.le_of_ble_eq_true rfl, by rw [hR]; exact Nat.le_of_ble_eq_true rfl⟩) hP hD hS hA [0, 1] [] rfl rfl (by decide +kernel) (by decide +kernel) (fun u9 H locs hw_97 hP hD hS => ?_)
                  obtain ⟨v2_97, rfl⟩ : ∃ z, z = u9 := ⟨_, rfl⟩
                  have hw_97 : gIs v2_97 (e9.2.2 ++ [(e9.2.1 / 16777216) % 256]) := hw_97
                  have hPD : my_PD (dC, dI) vwCl A [(o, Sum.inr (9, mO g fForm fShift fModels fItems fEnded (lN e9.2.1) (lN (ngL e9.2.1)) fCache fPend (nI (e9.2.2 ++ [(e9.2.1 / 16777216) % 256]).length) fOuts fIns fReads fBad fIR fAsk fBAsk fCode fRL fRR fX fWrites fThrown)), ((g 6), Sum.inl (cI, 9000, Sum.inl v2_97))] H := ⟨hP, hD⟩
                  have hP := hPD.1
                  have hD := hPD.2
                  refine lv_aload_n hx hb d_M_widenPlain_100 rfl (lv_at hl 2 rfl) ?_
                  refine lv_aload_n hx hb d_M_widenPlain_101 rfl (lv_at hl 2 rfl) ?_
                  refine va_get (D := (dC, dI)) (ci := 9) (v := .long (lN e9.2.1)) (C := "RangeCodersModel") (T := T_M) (N := 35) hx hb hg in_M hown hK hP 0 rfl rfl 11 (by decide) (hg _ k963) (fun _ h9 => h9) rfl d_M_widenPlain_102 ?_
                  refine lv_bipush (v := 8) hx hb d_M_widenPlain_105 (by decide) ?_
                  refine lv_lshl hx hb d_M_widenPlain_107 rfl ?_
                  refine lv_topl (fun v_17 ev_17 => ?_)
                  refine lv_ldc2 (v := 4294967295) hx hb hown (hg _ k927) d_M_widenPlain_108 ?_
                  refine lv_land hx hb d_M_widenPlain_111 ?_
                  refine lv_topl (fun v_18 ev_18 => ?_)
                  have z9 : v_18 = lN (mvL e9.2.1) := by subst_vars; rw [L_shl8, L_and32 (by omega)]; rfl
                  subst z9
                  refine va_put (D := (dC, dI)) (ci := 9) (v := .long (lN (mvL e9.2.1))) (ty := .long) (C := "RangeCodersModel") (T := T_M) (N := 35) hx hb hg in_M t_M o_M n_M hown hK hP hD hS 0 rfl rfl 11 (by decide) (hg _ k963) (fun _ h9 => h9) rfl (o_M 11 (by decide)) rfl rfl (Nat.le_of_ble_eq_true rfl) d_M_widenPlain_112 (fun H locs hP hD hS => ?_)
                  have hPD : my_PD (dC, dI) vwCl A [(o, Sum.inr (9, mO g fForm fShift fModels fItems fEnded (lN (mvL e9.2.1)) (lN (ngL e9.2.1)) fCache fPend (nI (e9.2.2 ++ [(e9.2.1 / 16777216) % 256]).length) fOuts fIns fReads fBad fIR fAsk fBAsk fCode fRL fRR fX fWrites fThrown)), ((g 6), Sum.inl (cI, 9000, Sum.inl v2_97))] H := ⟨hP, hD⟩
                  have hP := hPD.1
                  have hD := hPD.2
                  refine lv_aload_n hx hb d_M_widenPlain_115 rfl (lv_at hl 2 rfl) ?_
                  refine lv_aload_n hx hb d_M_widenPlain_116 rfl (lv_at hl 2 rfl) ?_
                  refine va_get (D := (dC, dI)) (ci := 9) (v := .long (lN (ngL e9.2.1))) (C := "RangeCodersModel") (T := T_M) (N := 35) hx hb hg in_M hown hK hP 0 rfl rfl 12 (by decide) (hg _ k964) (fun _ h9 => h9) rfl d_M_widenPlain_117 ?_
                  refine lv_bipush (v := 8) hx hb d_M_widenPlain_120 (by decide) ?_
                  refine lv_lshl hx hb d_M_widenPlain_122 rfl ?_
                  refine lv_topl (fun v_19 ev_19 => ?_)
                  refine lv_ldc2 (v := 4294967295) hx hb hown (hg _ k927) d_M_widenPlain_123 ?_
                  refine lv_land hx hb d_M_widenPlain_126 ?_
                  refine lv_topl (fun v_20 ev_20 => ?_)
                  have z9 : v_20 = lN (mvR e9.2.1 e9.1) := by subst_vars; rw [L_shl8, L_and32 (by omega)]; unfold mvR; rw [if_neg hsm]
                  subst z9
                  refine va_put (D := (dC, dI)) (ci := 9) (v := .long (lN (mvR e9.2.1 e9.1))) (ty := .long) (C := "RangeCodersModel") (T := T_M) (N := 35) hx hb hg in_M t_M o_M n_M hown hK hP hD hS 0 rfl rfl 12 (by decide) (hg _ k964) (fun _ h9 => h9) rfl (o_M 12 (by decide)) rfl rfl (Nat.le_of_ble_eq_true rfl) d_M_widenPlain_127 (fun H locs hP hD hS => ?_)
                  have hPD : my_PD (dC, dI) vwCl A [(o, Sum.inr (9, mO g fForm fShift fModels fItems fEnded (lN (mvL e9.2.1)) (lN (mvR e9.2.1 e9.1)) fCache fPend (nI (e9.2.2 ++ [(e9.2.1 / 16777216) % 256]).length) fOuts fIns fReads fBad fIR fAsk fBAsk fCode fRL fRR fX fWrites fThrown)), ((g 6), Sum.inl (cI, 9000, Sum.inl v2_97))] H := ⟨hP, hD⟩
                  have hP := hPD.1
                  have hD := hPD.2
                  refine lv_goto (tgt := 2) hx hb d_M_widenPlain_130 (by decide) ?_
                  refine lv_iload_n hx hb d_M_widenPlain_2 rfl (lv_at hl 0 rfl) ?_
                  refine lv_if_eq (tgt := 133) hx hb d_M_widenPlain_3 (by decide) (fun c_21 => ?_) (fun c_21 => ?_)
                  · exact absurd c_21 (by decide)
                  · exact ih9_6 _ (by first | omega | (omega)) (mvR e9.2.1 e9.1, mvL e9.2.1, e9.2.2 ++ [e9.2.1 / 16777216 % 256]) v2_97 (k9 - 1) rfl (by rw [hE9, plN_s (by omega) hmv]) (hst.2) (hw_97) (by show (e9.2.2 ++ [e9.2.1 / 16777216 % 256]).length + _ ≤ _; rw [List.length_append, List.length_singleton]; omega) H locs ls (hP.sub [0, 1] rfl) (hD.sub [0, 1] (by decide +kernel) rfl) hS (lv_sub hl [2] rfl)
                · exact absurd (by decide) c_12
        · rw [lg_cmp_eq] at c_6
          have hsm : smT e9.2.1 e9.1 := (pk_lEQ (by omega) (by omega)).mp (by rw [← hx9, ← hy9]; exact c_6)
          refine lv_iconst (v := 1) hx hb d_M_widenPlain_33 (by decide) ?_
          refine lv_goto (tgt := 38) hx hb d_M_widenPlain_34 (by decide) ?_
          refine lv_istore_n (lv' := [(2, Value.int 1), (0, Value.ref o)]) hx hb d_M_widenPlain_38 rfl hl (by decide) rfl (fun ls hl => ?_)
          refine lv_iload_n hx hb d_M_widenPlain_39 rfl (lv_at hl 0 rfl) ?_
          refine lv_if_ne (tgt := 54) hx hb d_M_widenPlain_40 (by decide) (fun c_22 => ?_) (fun c_22 => ?_)
          · refine lv_iconst (v := 1) hx hb d_M_widenPlain_54 (by decide) ?_
            refine lv_goto (tgt := 59) hx hb d_M_widenPlain_55 (by decide) ?_
            refine lv_istore_n (lv' := [(1, Value.int 1), (2, Value.int 1), (0, Value.ref o)]) hx hb d_M_widenPlain_59 rfl hl (by decide) rfl (fun ls hl => ?_)
            refine lv_iload_n hx hb d_M_widenPlain_60 rfl (lv_at hl 0 rfl) ?_
            refine lv_if_eq (tgt := 130) hx hb d_M_widenPlain_61 (by decide) (fun c_23 => ?_) (fun c_23 => ?_)
            · exact absurd c_23 (by decide)
            · have hmv : mvP e9.2.1 e9.1 := Or.inl hsm
              have hst := plI_st hi9 hmv
              have hng : ngL e9.2.1 < 65536 := Nat.mod_lt _ (by decide)
              refine lv_aload_n hx hb d_M_widenPlain_64 rfl (lv_at hl 2 rfl) ?_
              refine lv_iload_n hx hb d_M_widenPlain_65 rfl (lv_at hl 1 rfl) ?_
              refine lv_if_eq (tgt := 76) hx hb d_M_widenPlain_66 (by decide) (fun c_24 => ?_) (fun c_24 => ?_)
              · exact absurd c_24 (by decide)
              · refine lv_aload_n hx hb d_M_widenPlain_69 rfl (lv_at hl 2 rfl) ?_
                refine va_get (D := (dC, dI)) (ci := 9) (v := .long (lN e9.1)) (C := "RangeCodersModel") (T := T_M) (N := 35) hx hb hg in_M hown hK hP 0 rfl rfl 12 (by decide) (hg _ k964) (fun _ h9 => h9) rfl d_M_widenPlain_70 ?_
                refine lv_goto (tgt := 85) hx hb d_M_widenPlain_73 (by decide) ?_
                refine va_put (D := (dC, dI)) (ci := 9) (v := .long (lN e9.1)) (ty := .long) (C := "RangeCodersModel") (T := T_M) (N := 35) hx hb hg in_M t_M o_M n_M hown hK hP hD hS 0 rfl rfl 12 (by decide) (hg _ k964) (fun _ h9 => h9) rfl (o_M 12 (by decide)) rfl rfl (Nat.le_of_ble_eq_true rfl) d_M_widenPlain_85 (fun H locs hP hD hS => ?_)
                have hPD : my_PD (dC, dI) vwCl A [(o, Sum.inr (9, mO g fForm fShift fModels fItems fEnded (lN e9.2.1) (lN e9.1) fCache fPend (nI e9.2.2.length) fOuts fIns fReads fBad fIR fAsk fBAsk fCode fRL fRR fX fWrites fThrown)), ((g 6), Sum.inl (cI, 9000, Sum.inl vK))] H := ⟨hP, hD⟩
                have hP := hPD.1
                have hD := hPD.2
                refine lv_aload_n hx hb d_M_widenPlain_88 rfl (lv_at hl 2 rfl) ?_
                refine lv_aload_n hx hb d_M_widenPlain_89 rfl (lv_at hl 2 rfl) ?_
                refine va_get (D := (dC, dI)) (ci := 9) (v := .long (lN e9.2.1)) (C := "RangeCodersModel") (T := T_M) (N := 35) hx hb hg in_M hown hK hP 0 rfl rfl 11 (by decide) (hg _ k963) (fun _ h9 => h9) rfl d_M_widenPlain_90 ?_
                refine lv_bipush (v := 24) hx hb d_M_widenPlain_93 (by decide) ?_
                refine lv_lshr hx hb d_M_widenPlain_95 rfl ?_
                refine lv_topl (fun v_25 ev_25 => ?_)
                refine lv_l2i hx hb d_M_widenPlain_96 rfl ?_
                refine lv_topi (fun v_26 ev_26 => ?_)
                have z9 : v_26 = nI (e9.2.1 / 16777216) := by subst_vars; rw [L_shr24 (by omega)]; exact lN_i _
                subst z9
                refine my_cv (wr := []) (va_runV (As := [Value.int (nI (e9.2.1 / 16777216))]) (rest := []) ⟨hx, hb, hml, hown, hts⟩ (c_M_write l dC dI cI cM cO H.size o g fForm fShift fModels fItems fEnded (lN e9.2.1) (lN e9.1) fCache fPend fOuts fIns fReads fBad fIR fAsk fBAsk fCode fRL fRR fX fWrites fThrown vK e9.2.2 (e9.2.1 / 16777216) (hg9) (by omega) (by omega)) (cwV 1 hts (my_gV k1107 k1109 ks32 k12 k1110) rfl rfl rfl cu_M_write_1 ⟨by rw [hR]; exact Nat.le_of_ble_eq_true rfl, by rw [hR]; exact Nat.le_of_ble_eq_true rfl⟩) (my_preV hK hN (hP.sub [0, 1] rfl) (hD.sub [0, 1] (by decide +kernel) rfl) 0 rfl rfl) rfl rfl hl.1 rfl (lv_room (Nat.le_of_ble_eq_true rfl)) d_M_widenPlain_97 ⟨by rw [hR]; exact Nat.le_of_ble_eq_true rfl, by rw [hR]; exact Nat.le_of_ble_eq_true rfl⟩) hP hD hS hA [0, 1] [] rfl rfl (by decide +kernel) (by decide +kernel) (fun u9 H locs hw_97 hP hD hS => ?_)
                obtain ⟨v2_97, rfl⟩ : ∃ z, z = u9 := ⟨_, rfl⟩
                have hw_97 : gIs v2_97 (e9.2.2 ++ [(e9.2.1 / 16777216) % 256]) := hw_97
                have hPD : my_PD (dC, dI) vwCl A [(o, Sum.inr (9, mO g fForm fShift fModels fItems fEnded (lN e9.2.1) (lN e9.1) fCache fPend (nI (e9.2.2 ++ [(e9.2.1 / 16777216) % 256]).length) fOuts fIns fReads fBad fIR fAsk fBAsk fCode fRL fRR fX fWrites fThrown)), ((g 6), Sum.inl (cI, 9000, Sum.inl v2_97))] H := ⟨hP, hD⟩
                have hP := hPD.1
                have hD := hPD.2
                refine lv_aload_n hx hb d_M_widenPlain_100 rfl (lv_at hl 2 rfl) ?_
                refine lv_aload_n hx hb d_M_widenPlain_101 rfl (lv_at hl 2 rfl) ?_
                refine va_get (D := (dC, dI)) (ci := 9) (v := .long (lN e9.2.1)) (C := "RangeCodersModel") (T := T_M) (N := 35) hx hb hg in_M hown hK hP 0 rfl rfl 11 (by decide) (hg _ k963) (fun _ h9 => h9) rfl d_M_widenPlain_102 ?_
                refine lv_bipush (v := 8) hx hb d_M_widenPlain_105 (by decide) ?_
                refine lv_lshl hx hb d_M_widenPlain_107 rfl ?_
                refine lv_topl (fun v_27 ev_27 => ?_)
                refine lv_ldc2 (v := 4294967295) hx hb hown (hg _ k927) d_M_widenPlain_108 ?_
                refine lv_land hx hb d_M_widenPlain_111 ?_
                refine lv_topl (fun v_28 ev_28 => ?_)
                have z9 : v_28 = lN (mvL e9.2.1) := by subst_vars; rw [L_shl8, L_and32 (by omega)]; rfl
                subst z9
                refine va_put (D := (dC, dI)) (ci := 9) (v := .long (lN (mvL e9.2.1))) (ty := .long) (C := "RangeCodersModel") (T := T_M) (N := 35) hx hb hg in_M t_M o_M n_M hown hK hP hD hS 0 rfl rfl 11 (by decide) (hg _ k963) (fun _ h9 => h9) rfl (o_M 11 (by decide)) rfl rfl (Nat.le_of_ble_eq_true rfl) d_M_widenPlain_112 (fun H locs hP hD hS => ?_)
                have hPD : my_PD (dC, dI) vwCl A [(o, Sum.inr (9, mO g fForm fShift fModels fItems fEnded (lN (mvL e9.2.1)) (lN e9.1) fCache fPend (nI (e9.2.2 ++ [(e9.2.1 / 16777216) % 256]).length) fOuts fIns fReads fBad fIR fAsk fBAsk fCode fRL fRR fX fWrites fThrown)), ((g 6), Sum.inl (cI, 9000, Sum.inl v2_97))] H := ⟨hP, hD⟩
                have hP := hPD.1
                have hD := hPD.2
                refine lv_aload_n hx hb d_M_widenPlain_115 rfl (lv_at hl 2 rfl) ?_
                refine lv_aload_n hx hb d_M_widenPlain_116 rfl (lv_at hl 2 rfl) ?_
                refine va_get (D := (dC, dI)) (ci := 9) (v := .long (lN e9.1)) (C := "RangeCodersModel") (T := T_M) (N := 35) hx hb hg in_M hown hK hP 0 rfl rfl 12 (by decide) (hg _ k964) (fun _ h9 => h9) rfl d_M_widenPlain_117 ?_
                refine lv_bipush (v := 8) hx hb d_M_widenPlain_120 (by decide) ?_
                refine lv_lshl hx hb d_M_widenPlain_122 rfl ?_
                refine lv_topl (fun v_29 ev_29 => ?_)
                refine lv_ldc2 (v := 4294967295) hx hb hown (hg _ k927) d_M_widenPlain_123 ?_
                refine lv_land hx hb d_M_widenPlain_126 ?_
                refine lv_topl (fun v_30 ev_30 => ?_)
                have z9 : v_30 = lN (mvR e9.2.1 e9.1) := by subst_vars; rw [L_shl8, L_and32 (by omega)]; unfold mvR; rw [if_pos hsm]
                subst z9
                refine va_put (D := (dC, dI)) (ci := 9) (v := .long (lN (mvR e9.2.1 e9.1))) (ty := .long) (C := "RangeCodersModel") (T := T_M) (N := 35) hx hb hg in_M t_M o_M n_M hown hK hP hD hS 0 rfl rfl 12 (by decide) (hg _ k964) (fun _ h9 => h9) rfl (o_M 12 (by decide)) rfl rfl (Nat.le_of_ble_eq_true rfl) d_M_widenPlain_127 (fun H locs hP hD hS => ?_)
                have hPD : my_PD (dC, dI) vwCl A [(o, Sum.inr (9, mO g fForm fShift fModels fItems fEnded (lN (mvL e9.2.1)) (lN (mvR e9.2.1 e9.1)) fCache fPend (nI (e9.2.2 ++ [(e9.2.1 / 16777216) % 256]).length) fOuts fIns fReads fBad fIR fAsk fBAsk fCode fRL fRR fX fWrites fThrown)), ((g 6), Sum.inl (cI, 9000, Sum.inl v2_97))] H := ⟨hP, hD⟩
                have hP := hPD.1
                have hD := hPD.2
                refine lv_goto (tgt := 2) hx hb d_M_widenPlain_130 (by decide) ?_
                refine lv_iload_n hx hb d_M_widenPlain_2 rfl (lv_at hl 0 rfl) ?_
                refine lv_if_eq (tgt := 133) hx hb d_M_widenPlain_3 (by decide) (fun c_31 => ?_) (fun c_31 => ?_)
                · exact absurd c_31 (by decide)
                · exact ih9_6 _ (by first | omega | (omega)) (mvR e9.2.1 e9.1, mvL e9.2.1, e9.2.2 ++ [e9.2.1 / 16777216 % 256]) v2_97 (k9 - 1) rfl (by rw [hE9, plN_s (by omega) hmv]) (hst.2) (hw_97) (by show (e9.2.2 ++ [e9.2.1 / 16777216 % 256]).length + _ ≤ _; rw [List.length_append, List.length_singleton]; omega) H locs ls (hP.sub [0, 1] rfl) (hD.sub [0, 1] (by decide +kernel) rfl) hS (lv_sub hl [2] rfl)
          · exact absurd c_22 (by decide)
    exact J_6 _ (Rg, L, bs) vGoing 8 rfl (rfl) (plI_0 hp) (hG) (by show bs.length + 8 ≤ _; omega) H locs ls (hP.sub [0, 1] rfl) (hD.sub [0, 1] (by decide +kernel) rfl) hS (lv_sub hl [1] rfl)
end
section
set_option maxHeartbeats 1000000 in
set_option maxRecDepth 100000 in
/-- widenReadPlain -/
theorem c_M_widenReadPlain (l : Launch) (dC : Nat → ClassId) (dI : Nat → Nat → Nat) (cI cM cO : ClassId) (sz : Nat) (o : Nat) (g : Nat → Nat) (fForm : Int32) (fShift : Int32) (fModels : Int32) (fItems : Int32) (fEnded : Int32) (fLow : Int64) (fRange : Int64) (fCache : Int32) (fPend : Int32) (fGoes : Int32) (fOuts : Int32) (fReads : Int32) (fBad : Int32) (fIR : Int32) (fBAsk : Int32) (fX : Int64) (fWrites : Int32) (fThrown : Int32) (vIn : Nat → Int32) (RR : Nat) (L : Nat) (CD : Nat) (is : List Nat) (q : Nat) (hI : gIs vIn is) (hlen : is.length ≤ 6000) (hoct : oct is) (hq : q < 900000) (hp : pOk RR L) (hC : CD < 4294967296) : MetV l y_M_widenReadPlain (Cond.code y_M_widenReadPlain prog_14_method_46_code 3 none :: gw) ({ frames := 1, cells := 0, slots := 0, locals := 21 } : Room) (dC, dI) vwCl (kT cI cM cO) [Value.ref o] [(o, Sum.inr (9, mO g fForm fShift fModels fItems fEnded fLow fRange fCache fPend fGoes fOuts (nI is.length) fReads fBad fIR (nI q) fBAsk (lN CD) (lN L) (lN RR) fX fWrites fThrown)), ((g 8), Sum.inl (cI, 6000, Sum.inl vIn))] sz (fun (u : Unit) => True) (fun (u : Unit) => [(o, Sum.inr (9, mO g fForm fShift fModels fItems fEnded fLow fRange fCache fPend fGoes fOuts (nI is.length) fReads fBad fIR (nI (prS is (RR, L, CD, q)).2.2.2) fBAsk (lN (prS is (RR, L, CD, q)).2.2.1) (lN (prS is (RR, L, CD, q)).2.1) (lN (prS is (RR, L, CD, q)).1) fX fWrites fThrown)), ((g 8), Sum.inl (cI, 6000, Sum.inl vIn))]) 0 0 := by
  refine my_ofV (cc := prog_14_method_46_code) (n := 3) (ret := none) (by decide) rfl (Nat.le_of_ble_eq_true rfl) ?_
  intro p e s m args below meth c R Q A ls H locs hx hb hr hts hown hlocks hml hnm hR hQ hA hl hP hK hN hD hS
  have hg : ∀ w ∈ gw, w.before args s = true := fun w h => hts w (List.mem_cons_of_mem _ h)
  have hown : s.vm.findClass "RangeCodersModel" = some m.cls := hown
  have hl : lv_has ls 3 [(0, Value.ref o)] := hl
  refine lv_iconst (v := 1) hx hb d_M_widenReadPlain_0 (by decide) ?_
  refine lv_istore_n (lv' := [(1, Value.int 1), (0, Value.ref o)]) hx hb d_M_widenReadPlain_1 rfl hl (by decide) rfl (fun ls hl => ?_)
  refine lv_iload_n hx hb d_M_widenReadPlain_2 rfl (lv_at hl 0 rfl) ?_
  refine lv_if_eq (tgt := 142) hx hb d_M_widenReadPlain_3 (by decide) (fun c_1 => ?_) (fun c_1 => ?_)
  · exact absurd c_1 (by decide)
  · have J_6 : ∀ (n9_6 : Nat) (e9 : RP) (k9 : Nat) (hn9_6 : k9 = n9_6) (hE9 : prS is (RR, L, CD, q) = prN is k9 e9) (hi9 : plI k9 e9.1 e9.2.1) (hC9 : e9.2.2.1 < 4294967296) (hq9 : e9.2.2.2 + k9 ≤ 900008) (H : Heap) (locs : List Loc) (ls : Array Slot), va_P (dC, dI) vwCl [(o, Sum.inr (9, mO g fForm fShift fModels fItems fEnded fLow fRange fCache fPend fGoes fOuts (nI is.length) fReads fBad fIR (nI e9.2.2.2) fBAsk (lN e9.2.2.1) (lN e9.2.1) (lN e9.1) fX fWrites fThrown)), ((g 8), Sum.inl (cI, 6000, Sum.inl vIn))] H → va_D A [(o, Sum.inr (9, mO g fForm fShift fModels fItems fEnded fLow fRange fCache fPend fGoes fOuts (nI is.length) fReads fBad fIR (nI e9.2.2.2) fBAsk (lN e9.2.2.1) (lN e9.2.1) (lN e9.1) fX fWrites fThrown)), ((g 8), Sum.inl (cI, 6000, Sum.inl vIn))] → va_S A s.heap H locs → lv_has ls 3 [(0, Value.ref o)] → W p l e R s m args below meth c H locs 0 0 Q (F0 m 6 ls []) := by
      intro n9_6
      induction n9_6 using Nat.strongRecOn with
      | ind n9_6 ih9_6 =>
        intro e9 k9 hn9_6 hE9 hi9 hC9 hq9 H locs ls hP hD hS hl
        obtain ⟨⟨hL1, hR1, hS1, hS2⟩, hk4, hk8, -⟩ := id hi9
        have ho := hoct e9.2.2.2
        refine lv_aload_n hx hb d_M_widenReadPlain_6 rfl (lv_at hl 0 rfl) ?_
        refine va_get (D := (dC, dI)) (ci := 9) (v := .long (lN e9.2.1)) (C := "RangeCodersModel") (T := T_M) (N := 35) hx hb hg in_M hown hK hP 0 rfl rfl 27 (by decide) (hg _ k979) (fun _ h9 => h9) rfl d_M_widenReadPlain_7 ?_
        refine lv_bipush (v := 24) hx hb d_M_widenReadPlain_10 (by decide) ?_
        refine lv_lshr hx hb d_M_widenReadPlain_12 rfl ?_
        refine lv_topl (fun v_2 ev_2 => ?_)
        refine lv_aload_n hx hb d_M_widenReadPlain_13 rfl (lv_at hl 0 rfl) ?_
        refine va_get (D := (dC, dI)) (ci := 9) (v := .long (lN e9.2.1)) (C := "RangeCodersModel") (T := T_M) (N := 35) hx hb hg in_M hown hK hP 0 rfl rfl 27 (by decide) (hg _ k979) (fun _ h9 => h9) rfl d_M_widenReadPlain_14 ?_
        refine lv_aload_n hx hb d_M_widenReadPlain_17 rfl (lv_at hl 0 rfl) ?_
        refine va_get (D := (dC, dI)) (ci := 9) (v := .long (lN e9.1)) (C := "RangeCodersModel") (T := T_M) (N := 35) hx hb hg in_M hown hK hP 0 rfl rfl 28 (by decide) (hg _ k980) (fun _ h9 => h9) rfl d_M_widenReadPlain_18 ?_
        refine lv_ladd hx hb d_M_widenReadPlain_21 ?_
        refine lv_topl (fun v_3 ev_3 => ?_)
        refine lv_ldc2 (v := 4294967295) hx hb hown (hg _ k927) d_M_widenReadPlain_22 ?_
        refine lv_land hx hb d_M_widenReadPlain_25 ?_
        refine lv_topl (fun v_4 ev_4 => ?_)
        refine lv_bipush (v := 24) hx hb d_M_widenReadPlain_26 (by decide) ?_
        refine lv_lshr hx hb d_M_widenReadPlain_28 rfl ?_
        refine lv_topl (fun v_5 ev_5 => ?_)
        have hx9 : v_2 = lN (e9.2.1 / 16777216) := by subst_vars; exact L_shr24 (by omega)
        have hy9 : v_5 = lN ((e9.2.1 + e9.1) % 4294967296 / 16777216) := by subst_vars; rw [lN_add, L_and32 (by omega), L_shr24 (by omega)]
        refine W.lcmp hx hb d_M_widenReadPlain_29 ?_
        refine lv_if_ne (tgt := 37) hx hb d_M_widenReadPlain_30 (by decide) (fun c_6 => ?_) (fun c_6 => ?_)
        · rw [lg_cmp_eq] at c_6
          have hsm : ¬ smT e9.2.1 e9.1 := fun z => c_6 (by rw [hx9, hy9]; exact congrArg lN z)
          refine lv_iconst (v := 0) hx hb d_M_widenReadPlain_37 (by decide) ?_
          refine lv_istore_n (lv' := [(2, Value.int 0), (0, Value.ref o)]) hx hb d_M_widenReadPlain_38 rfl hl (by decide) rfl (fun ls hl => ?_)
          refine lv_iload_n hx hb d_M_widenReadPlain_39 rfl (lv_at hl 0 rfl) ?_
          refine lv_if_ne (tgt := 54) hx hb d_M_widenReadPlain_40 (by decide) (fun c_7 => ?_) (fun c_7 => ?_)
          · exact absurd rfl c_7
          · refine lv_aload_n hx hb d_M_widenReadPlain_43 rfl (lv_at hl 1 rfl) ?_
            refine va_get (D := (dC, dI)) (ci := 9) (v := .long (lN e9.1)) (C := "RangeCodersModel") (T := T_M) (N := 35) hx hb hg in_M hown hK hP 0 rfl rfl 28 (by decide) (hg _ k980) (fun _ h9 => h9) rfl d_M_widenReadPlain_44 ?_
            refine lv_ldc2 (v := 65536) hx hb hown (hg _ k1117) d_M_widenReadPlain_47 ?_
            refine W.lcmp hx hb d_M_widenReadPlain_50 ?_
            refine lv_if_ge (tgt := 58) hx hb d_M_widenReadPlain_51 (by decide) (fun c_8 => ?_) (fun c_8 => ?_)
            · rw [lg_cmp_ge] at c_8
              have hge : 65536 ≤ e9.1 := (L_le (a := 65536) (by decide) (by omega)).mp c_8
              have hnm : ¬ mvP e9.2.1 e9.1 := fun z => z.elim (fun z => hsm z) (fun z => by omega)
              refine lv_iconst (v := 0) hx hb d_M_widenReadPlain_58 (by decide) ?_
              refine lv_istore_n (lv' := [(1, Value.int 0), (2, Value.int 0), (0, Value.ref o)]) hx hb d_M_widenReadPlain_59 rfl hl (by decide) rfl (fun ls hl => ?_)
              refine lv_iload_n hx hb d_M_widenReadPlain_60 rfl (lv_at hl 0 rfl) ?_
              refine lv_if_eq (tgt := 139) hx hb d_M_widenReadPlain_61 (by decide) (fun c_9 => ?_) (fun c_9 => ?_)
              · refine lv_goto (tgt := 2) hx hb d_M_widenReadPlain_139 (by decide) ?_
                refine lv_iload_n hx hb d_M_widenReadPlain_2 rfl (lv_at hl 0 rfl) ?_
                refine lv_if_eq (tgt := 142) hx hb d_M_widenReadPlain_3 (by decide) (fun c_10 => ?_) (fun c_10 => ?_)
                · have z9 : e9 = prS is (RR, L, CD, q) := by rw [hE9, prN_e hnm]
                  subst z9
                  exact my_vret hx hb hr hlocks hQ hK hS (Nat.le_refl _) (Nat.le_refl _) () (trivial) (hP.sub [0, 1] rfl) (hD.sub [0, 1] (by decide +kernel) rfl) d_M_widenReadPlain_142
                · exact absurd (by decide) c_10
              · exact absurd (by decide) c_9
            · rw [lg_cmp_ge] at c_8
              have hlt : e9.1 < 65536 := by
                rcases Nat.lt_or_ge e9.1 65536 with z | z
                · exact z
                · exact absurd ((L_le (a := 65536) (by decide) (by omega)).mpr z) c_8
              refine lv_iconst (v := 1) hx hb d_M_widenReadPlain_54 (by decide) ?_
              refine lv_goto (tgt := 59) hx hb d_M_widenReadPlain_55 (by decide) ?_
              refine lv_istore_n (lv' := [(1, Value.int 1), (2, Value.int 0), (0, Value.ref o)]) hx hb d_M_widenReadPlain_59 rfl hl (by decide) rfl (fun ls hl => ?_)
              refine lv_iload_n hx hb d_M_widenReadPlain_60 rfl (lv_at hl 0 rfl) ?_
              refine lv_if_eq (tgt := 139) hx hb d_M_widenReadPlain_61 (by decide) (fun c_11 => ?_) (fun c_11 => ?_)
              · exact absurd c_11 (by decide)
              · have hmv : mvP e9.2.1 e9.1 := Or.inr hlt
                have hst := plI_st hi9 hmv
                have hng : ngL e9.2.1 < 65536 := Nat.mod_lt _ (by decide)
                refine lv_aload_n hx hb d_M_widenReadPlain_64 rfl (lv_at hl 2 rfl) ?_
                refine lv_iload_n hx hb d_M_widenReadPlain_65 rfl (lv_at hl 1 rfl) ?_
                refine lv_if_eq (tgt := 76) hx hb d_M_widenReadPlain_66 (by decide) (fun c_12 => ?_) (fun c_12 => ?_)
                · refine lv_aload_n hx hb d_M_widenReadPlain_76 rfl (lv_at hl 2 rfl) ?_
                  refine va_get (D := (dC, dI)) (ci := 9) (v := .long (lN e9.2.1)) (C := "RangeCodersModel") (T := T_M) (N := 35) hx hb hg in_M hown hK hP 0 rfl rfl 27 (by decide) (hg _ k979) (fun _ h9 => h9) rfl d_M_widenReadPlain_77 ?_
                  refine lv_lneg hx hb d_M_widenReadPlain_80 ?_
                  refine lv_topl (fun v_13 ev_13 => ?_)
                  refine lv_ldc2 (v := 65535) hx hb hown (hg _ k1118) d_M_widenReadPlain_81 ?_
                  refine lv_land hx hb d_M_widenReadPlain_84 ?_
                  refine lv_topl (fun v_14 ev_14 => ?_)
                  have z9 : v_14 = lN (ngL e9.2.1) := by subst_vars; exact L_ngA (by omega)
                  subst z9
                  refine va_put (D := (dC, dI)) (ci := 9) (v := .long (lN (ngL e9.2.1))) (ty := .long) (C := "RangeCodersModel") (T := T_M) (N := 35) hx hb hg in_M t_M o_M n_M hown hK hP hD hS 0 rfl rfl 28 (by decide) (hg _ k980) (fun _ h9 => h9) rfl (o_M 28 (by decide)) rfl rfl (Nat.le_of_ble_eq_true rfl) d_M_widenReadPlain_85 (fun H locs hP hD hS => ?_)
                  have hPD : my_PD (dC, dI) vwCl A [(o, Sum.inr (9, mO g fForm fShift fModels fItems fEnded fLow fRange fCache fPend fGoes fOuts (nI is.length) fReads fBad fIR (nI e9.2.2.2) fBAsk (lN e9.2.2.1) (lN e9.2.1) (lN (ngL e9.2.1)) fX fWrites fThrown)), ((g 8), Sum.inl (cI, 6000, Sum.inl vIn))] H := ⟨hP, hD⟩
                  have hP := hPD.1
                  have hD := hPD.2
                  refine lv_aload_n hx hb d_M_widenReadPlain_88 rfl (lv_at hl 2 rfl) ?_
                  refine lv_aload_n hx hb d_M_widenReadPlain_89 rfl (lv_at hl 2 rfl) ?_
                  refine va_get (D := (dC, dI)) (ci := 9) (v := .long (lN e9.2.1)) (C := "RangeCodersModel") (T := T_M) (N := 35) hx hb hg in_M hown hK hP 0 rfl rfl 27 (by decide) (hg _ k979) (fun _ h9 => h9) rfl d_M_widenReadPlain_90 ?_
                  refine lv_bipush (v := 8) hx hb d_M_widenReadPlain_93 (by decide) ?_
                  refine lv_lshl hx hb d_M_widenReadPlain_95 rfl ?_
                  refine lv_topl (fun v_15 ev_15 => ?_)
                  refine lv_ldc2 (v := 4294967295) hx hb hown (hg _ k927) d_M_widenReadPlain_96 ?_
                  refine lv_land hx hb d_M_widenReadPlain_99 ?_
                  refine lv_topl (fun v_16 ev_16 => ?_)
                  have z9 : v_16 = lN (mvL e9.2.1) := by subst_vars; rw [L_shl8, L_and32 (by omega)]; rfl
                  subst z9
                  refine va_put (D := (dC, dI)) (ci := 9) (v := .long (lN (mvL e9.2.1))) (ty := .long) (C := "RangeCodersModel") (T := T_M) (N := 35) hx hb hg in_M t_M o_M n_M hown hK hP hD hS 0 rfl rfl 27 (by decide) (hg _ k979) (fun _ h9 => h9) rfl (o_M 27 (by decide)) rfl rfl (Nat.le_of_ble_eq_true rfl) d_M_widenReadPlain_100 (fun H locs hP hD hS => ?_)
                  have hPD : my_PD (dC, dI) vwCl A [(o, Sum.inr (9, mO g fForm fShift fModels fItems fEnded fLow fRange fCache fPend fGoes fOuts (nI is.length) fReads fBad fIR (nI e9.2.2.2) fBAsk (lN e9.2.2.1) (lN (mvL e9.2.1)) (lN (ngL e9.2.1)) fX fWrites fThrown)), ((g 8), Sum.inl (cI, 6000, Sum.inl vIn))] H := ⟨hP, hD⟩
                  have hP := hPD.1
                  have hD := hPD.2
                  refine lv_aload_n hx hb d_M_widenReadPlain_103 rfl (lv_at hl 2 rfl) ?_
                  refine lv_aload_n hx hb d_M_widenReadPlain_104 rfl (lv_at hl 2 rfl) ?_
                  refine va_get (D := (dC, dI)) (ci := 9) (v := .long (lN (ngL e9.2.1))) (C := "RangeCodersModel") (T := T_M) (N := 35) hx hb hg in_M hown hK hP 0 rfl rfl 28 (by decide) (hg _ k980) (fun _ h9 => h9) rfl d_M_widenReadPlain_105 ?_
                  refine lv_bipush (v := 8) hx hb d_M_widenReadPlain_108 (by decide) ?_
                  refine lv_lshl hx hb d_M_widenReadPlain_110 rfl ?_
                  refine lv_topl (fun v_17 ev_17 => ?_)
                  refine lv_ldc2 (v := 4294967295) hx hb hown (hg _ k927) d_M_widenReadPlain_111 ?_
                  refine lv_land hx hb d_M_widenReadPlain_114 ?_
                  refine lv_topl (fun v_18 ev_18 => ?_)
                  have z9 : v_18 = lN (mvR e9.2.1 e9.1) := by subst_vars; rw [L_shl8, L_and32 (by omega)]; unfold mvR; rw [if_neg hsm]
                  subst z9
                  refine va_put (D := (dC, dI)) (ci := 9) (v := .long (lN (mvR e9.2.1 e9.1))) (ty := .long) (C := "RangeCodersModel") (T := T_M) (N := 35) hx hb hg in_M t_M o_M n_M hown hK hP hD hS 0 rfl rfl 28 (by decide) (hg _ k980) (fun _ h9 => h9) rfl (o_M 28 (by decide)) rfl rfl (Nat.le_of_ble_eq_true rfl) d_M_widenReadPlain_115 (fun H locs hP hD hS => ?_)
                  have hPD : my_PD (dC, dI) vwCl A [(o, Sum.inr (9, mO g fForm fShift fModels fItems fEnded fLow fRange fCache fPend fGoes fOuts (nI is.length) fReads fBad fIR (nI e9.2.2.2) fBAsk (lN e9.2.2.1) (lN (mvL e9.2.1)) (lN (mvR e9.2.1 e9.1)) fX fWrites fThrown)), ((g 8), Sum.inl (cI, 6000, Sum.inl vIn))] H := ⟨hP, hD⟩
                  have hP := hPD.1
                  have hD := hPD.2
                  refine lv_aload_n hx hb d_M_widenReadPlain_118 rfl (lv_at hl 2 rfl) ?_
                  refine lv_aload_n hx hb d_M_widenReadPlain_119 rfl (lv_at hl 2 rfl) ?_
                  refine va_get (D := (dC, dI)) (ci := 9) (v := .long (lN e9.2.2.1)) (C := "RangeCodersModel") (T := T_M) (N := 35) hx hb hg in_M hown hK hP 0 rfl rfl 26 (by decide) (hg _ k978) (fun _ h9 => h9) rfl d_M_widenReadPlain_120 ?_
                  refine lv_bipush (v := 8) hx hb d_M_widenReadPlain_123 (by decide) ?_
                  refine lv_lshl hx hb d_M_widenReadPlain_125 rfl ?_
                  refine lv_topl (fun v_19 ev_19 => ?_)
                  refine lv_ldc2 (v := 4294967295) hx hb hown (hg _ k927) d_M_widenReadPlain_126 ?_
                  refine lv_land hx hb d_M_widenReadPlain_129 ?_
                  refine lv_topl (fun v_20 ev_20 => ?_)
                  refine lv_aload_n hx hb d_M_widenReadPlain_130 rfl (lv_at hl 2 rfl) ?_
                  refine my_ci (wr := []) (va_runV (As := []) (rest := [Value.long v_20, Value.ref o]) ⟨hx, hb, hml, hown, hts⟩ (c_M_next l dC dI cI cM cO H.size o g fForm fShift fModels fItems fEnded fLow fRange fCache fPend fGoes fOuts fReads fBad fIR fBAsk (lN e9.2.2.1) (lN (mvL e9.2.1)) (lN (mvR e9.2.1 e9.1)) fX fWrites fThrown vIn is e9.2.2.2 (by assumption) (by assumption) (by assumption) (by omega)) (cwV 0 hts (my_gV k1194 k1196 ks45 k12 k1197) rfl rfl rfl cu_M_next_0 ⟨by rw [hR]; exact Nat.le_of_ble_eq_true rfl, by rw [hR]; exact Nat.le_of_ble_eq_true rfl⟩) (my_preV hK hN (hP.sub [0, 1] rfl) (hD.sub [0, 1] (by decide +kernel) rfl) 0 rfl rfl) rfl rfl hl.1 rfl (lv_room (Nat.le_of_ble_eq_true rfl)) d_M_widenReadPlain_131 ⟨by rw [hR]; exact Nat.le_of_ble_eq_true rfl, by rw [hR]; exact Nat.le_of_ble_eq_true rfl⟩) hP hD hS hA [0, 1] [] rfl rfl (by decide +kernel) (by decide +kernel) (fun r_131 u9 H locs hw_131 hP hD hS => ?_)
                  have hw_131 : r_131 = nI (byA is e9.2.2.2) := hw_131
                  have hPD : my_PD (dC, dI) vwCl A [(o, Sum.inr (9, mO g fForm fShift fModels fItems fEnded fLow fRange fCache fPend fGoes fOuts (nI is.length) fReads fBad fIR (nI (e9.2.2.2 + 1)) fBAsk (lN e9.2.2.1) (lN (mvL e9.2.1)) (lN (mvR e9.2.1 e9.1)) fX fWrites fThrown)), ((g 8), Sum.inl (cI, 6000, Sum.inl vIn))] H := ⟨hP, hD⟩
                  have hP := hPD.1
                  have hD := hPD.2
                  refine lv_i2l hx hb d_M_widenReadPlain_134 rfl ?_
                  refine lv_topl (fun v_21 ev_21 => ?_)
                  refine lv_ladd hx hb d_M_widenReadPlain_135 ?_
                  refine lv_topl (fun v_22 ev_22 => ?_)
                  have z9 : v_22 = lN (e9.2.2.1 * 256 % 4294967296 + byA is e9.2.2.2) := by subst_vars; rw [L_shl8, L_and32 (by omega), nI_l (by omega), lN_add]
                  subst z9
                  refine va_put (D := (dC, dI)) (ci := 9) (v := .long (lN (e9.2.2.1 * 256 % 4294967296 + byA is e9.2.2.2))) (ty := .long) (C := "RangeCodersModel") (T := T_M) (N := 35) hx hb hg in_M t_M o_M n_M hown hK hP hD hS 0 rfl rfl 26 (by decide) (hg _ k978) (fun _ h9 => h9) rfl (o_M 26 (by decide)) rfl rfl (Nat.le_of_ble_eq_true rfl) d_M_widenReadPlain_136 (fun H locs hP hD hS => ?_)
                  have hPD : my_PD (dC, dI) vwCl A [(o, Sum.inr (9, mO g fForm fShift fModels fItems fEnded fLow fRange fCache fPend fGoes fOuts (nI is.length) fReads fBad fIR (nI (e9.2.2.2 + 1)) fBAsk (lN (e9.2.2.1 * 256 % 4294967296 + byA is e9.2.2.2)) (lN (mvL e9.2.1)) (lN (mvR e9.2.1 e9.1)) fX fWrites fThrown)), ((g 8), Sum.inl (cI, 6000, Sum.inl vIn))] H := ⟨hP, hD⟩
                  have hP := hPD.1
                  have hD := hPD.2
                  refine lv_goto (tgt := 2) hx hb d_M_widenReadPlain_139 (by decide) ?_
                  refine lv_iload_n hx hb d_M_widenReadPlain_2 rfl (lv_at hl 0 rfl) ?_
                  refine lv_if_eq (tgt := 142) hx hb d_M_widenReadPlain_3 (by decide) (fun c_23 => ?_) (fun c_23 => ?_)
                  · exact absurd c_23 (by decide)
                  · exact ih9_6 _ (by first | omega | (omega)) (mvR e9.2.1 e9.1, mvL e9.2.1, e9.2.2.1 * 256 % 4294967296 + byA is e9.2.2.2, e9.2.2.2 + 1) (k9 - 1) rfl (by rw [hE9, prN_s (by omega) hmv]) (hst.2) (by show e9.2.2.1 * 256 % 4294967296 + byA is e9.2.2.2 < _; omega) (by show e9.2.2.2 + 1 + _ ≤ _; omega) H locs ls (hP.sub [0, 1] rfl) (hD.sub [0, 1] (by decide +kernel) rfl) hS (lv_sub hl [2] rfl)
                · exact absurd (by decide) c_12
        · rw [lg_cmp_eq] at c_6
          have hsm : smT e9.2.1 e9.1 := (pk_lEQ (by omega) (by omega)).mp (by rw [← hx9, ← hy9]; exact c_6)
          refine lv_iconst (v := 1) hx hb d_M_widenReadPlain_33 (by decide) ?_
          refine lv_goto (tgt := 38) hx hb d_M_widenReadPlain_34 (by decide) ?_
          refine lv_istore_n (lv' := [(2, Value.int 1), (0, Value.ref o)]) hx hb d_M_widenReadPlain_38 rfl hl (by decide) rfl (fun ls hl => ?_)
          refine lv_iload_n hx hb d_M_widenReadPlain_39 rfl (lv_at hl 0 rfl) ?_
          refine lv_if_ne (tgt := 54) hx hb d_M_widenReadPlain_40 (by decide) (fun c_24 => ?_) (fun c_24 => ?_)
          · refine lv_iconst (v := 1) hx hb d_M_widenReadPlain_54 (by decide) ?_
            refine lv_goto (tgt := 59) hx hb d_M_widenReadPlain_55 (by decide) ?_
            refine lv_istore_n (lv' := [(1, Value.int 1), (2, Value.int 1), (0, Value.ref o)]) hx hb d_M_widenReadPlain_59 rfl hl (by decide) rfl (fun ls hl => ?_)
            refine lv_iload_n hx hb d_M_widenReadPlain_60 rfl (lv_at hl 0 rfl) ?_
            refine lv_if_eq (tgt := 139) hx hb d_M_widenReadPlain_61 (by decide) (fun c_25 => ?_) (fun c_25 => ?_)
            · exact absurd c_25 (by decide)
            · have hmv : mvP e9.2.1 e9.1 := Or.inl hsm
              have hst := plI_st hi9 hmv
              have hng : ngL e9.2.1 < 65536 := Nat.mod_lt _ (by decide)
              refine lv_aload_n hx hb d_M_widenReadPlain_64 rfl (lv_at hl 2 rfl) ?_
              refine lv_iload_n hx hb d_M_widenReadPlain_65 rfl (lv_at hl 1 rfl) ?_
              refine lv_if_eq (tgt := 76) hx hb d_M_widenReadPlain_66 (by decide) (fun c_26 => ?_) (fun c_26 => ?_)
              · exact absurd c_26 (by decide)
              · refine lv_aload_n hx hb d_M_widenReadPlain_69 rfl (lv_at hl 2 rfl) ?_
                refine va_get (D := (dC, dI)) (ci := 9) (v := .long (lN e9.1)) (C := "RangeCodersModel") (T := T_M) (N := 35) hx hb hg in_M hown hK hP 0 rfl rfl 28 (by decide) (hg _ k980) (fun _ h9 => h9) rfl d_M_widenReadPlain_70 ?_
                refine lv_goto (tgt := 85) hx hb d_M_widenReadPlain_73 (by decide) ?_
                refine va_put (D := (dC, dI)) (ci := 9) (v := .long (lN e9.1)) (ty := .long) (C := "RangeCodersModel") (T := T_M) (N := 35) hx hb hg in_M t_M o_M n_M hown hK hP hD hS 0 rfl rfl 28 (by decide) (hg _ k980) (fun _ h9 => h9) rfl (o_M 28 (by decide)) rfl rfl (Nat.le_of_ble_eq_true rfl) d_M_widenReadPlain_85 (fun H locs hP hD hS => ?_)
                have hPD : my_PD (dC, dI) vwCl A [(o, Sum.inr (9, mO g fForm fShift fModels fItems fEnded fLow fRange fCache fPend fGoes fOuts (nI is.length) fReads fBad fIR (nI e9.2.2.2) fBAsk (lN e9.2.2.1) (lN e9.2.1) (lN e9.1) fX fWrites fThrown)), ((g 8), Sum.inl (cI, 6000, Sum.inl vIn))] H := ⟨hP, hD⟩
                have hP := hPD.1
                have hD := hPD.2
                refine lv_aload_n hx hb d_M_widenReadPlain_88 rfl (lv_at hl 2 rfl) ?_
                refine lv_aload_n hx hb d_M_widenReadPlain_89 rfl (lv_at hl 2 rfl) ?_
                refine va_get (D := (dC, dI)) (ci := 9) (v := .long (lN e9.2.1)) (C := "RangeCodersModel") (T := T_M) (N := 35) hx hb hg in_M hown hK hP 0 rfl rfl 27 (by decide) (hg _ k979) (fun _ h9 => h9) rfl d_M_widenReadPlain_90 ?_
                refine lv_bipush (v := 8) hx hb d_M_widenReadPlain_93 (by decide) ?_
                refine lv_lshl hx hb d_M_widenReadPlain_95 rfl ?_
                refine lv_topl (fun v_27 ev_27 => ?_)
                refine lv_ldc2 (v := 4294967295) hx hb hown (hg _ k927) d_M_widenReadPlain_96 ?_
                refine lv_land hx hb d_M_widenReadPlain_99 ?_
                refine lv_topl (fun v_28 ev_28 => ?_)
                have z9 : v_28 = lN (mvL e9.2.1) := by subst_vars; rw [L_shl8, L_and32 (by omega)]; rfl
                subst z9
                refine va_put (D := (dC, dI)) (ci := 9) (v := .long (lN (mvL e9.2.1))) (ty := .long) (C := "RangeCodersModel") (T := T_M) (N := 35) hx hb hg in_M t_M o_M n_M hown hK hP hD hS 0 rfl rfl 27 (by decide) (hg _ k979) (fun _ h9 => h9) rfl (o_M 27 (by decide)) rfl rfl (Nat.le_of_ble_eq_true rfl) d_M_widenReadPlain_100 (fun H locs hP hD hS => ?_)
                have hPD : my_PD (dC, dI) vwCl A [(o, Sum.inr (9, mO g fForm fShift fModels fItems fEnded fLow fRange fCache fPend fGoes fOuts (nI is.length) fReads fBad fIR (nI e9.2.2.2) fBAsk (lN e9.2.2.1) (lN (mvL e9.2.1)) (lN e9.1) fX fWrites fThrown)), ((g 8), Sum.inl (cI, 6000, Sum.inl vIn))] H := ⟨hP, hD⟩
                have hP := hPD.1
                have hD := hPD.2
                refine lv_aload_n hx hb d_M_widenReadPlain_103 rfl (lv_at hl 2 rfl) ?_
                refine lv_aload_n hx hb d_M_widenReadPlain_104 rfl (lv_at hl 2 rfl) ?_
                refine va_get (D := (dC, dI)) (ci := 9) (v := .long (lN e9.1)) (C := "RangeCodersModel") (T := T_M) (N := 35) hx hb hg in_M hown hK hP 0 rfl rfl 28 (by decide) (hg _ k980) (fun _ h9 => h9) rfl d_M_widenReadPlain_105 ?_
                refine lv_bipush (v := 8) hx hb d_M_widenReadPlain_108 (by decide) ?_
                refine lv_lshl hx hb d_M_widenReadPlain_110 rfl ?_
                refine lv_topl (fun v_29 ev_29 => ?_)
                refine lv_ldc2 (v := 4294967295) hx hb hown (hg _ k927) d_M_widenReadPlain_111 ?_
                refine lv_land hx hb d_M_widenReadPlain_114 ?_
                refine lv_topl (fun v_30 ev_30 => ?_)
                have z9 : v_30 = lN (mvR e9.2.1 e9.1) := by subst_vars; rw [L_shl8, L_and32 (by omega)]; unfold mvR; rw [if_pos hsm]
                subst z9
                refine va_put (D := (dC, dI)) (ci := 9) (v := .long (lN (mvR e9.2.1 e9.1))) (ty := .long) (C := "RangeCodersModel") (T := T_M) (N := 35) hx hb hg in_M t_M o_M n_M hown hK hP hD hS 0 rfl rfl 28 (by decide) (hg _ k980) (fun _ h9 => h9) rfl (o_M 28 (by decide)) rfl rfl (Nat.le_of_ble_eq_true rfl) d_M_widenReadPlain_115 (fun H locs hP hD hS => ?_)
                have hPD : my_PD (dC, dI) vwCl A [(o, Sum.inr (9, mO g fForm fShift fModels fItems fEnded fLow fRange fCache fPend fGoes fOuts (nI is.length) fReads fBad fIR (nI e9.2.2.2) fBAsk (lN e9.2.2.1) (lN (mvL e9.2.1)) (lN (mvR e9.2.1 e9.1)) fX fWrites fThrown)), ((g 8), Sum.inl (cI, 6000, Sum.inl vIn))] H := ⟨hP, hD⟩
                have hP := hPD.1
                have hD := hPD.2
                refine lv_aload_n hx hb d_M_widenReadPlain_118 rfl (lv_at hl 2 rfl) ?_
                refine lv_aload_n hx hb d_M_widenReadPlain_119 rfl (lv_at hl 2 rfl) ?_
                refine va_get (D := (dC, dI)) (ci := 9) (v := .long (lN e9.2.2.1)) (C := "RangeCodersModel") (T := T_M) (N := 35) hx hb hg in_M hown hK hP 0 rfl rfl 26 (by decide) (hg _ k978) (fun _ h9 => h9) rfl d_M_widenReadPlain_120 ?_
                refine lv_bipush (v := 8) hx hb d_M_widenReadPlain_123 (by decide) ?_
                refine lv_lshl hx hb d_M_widenReadPlain_125 rfl ?_
                refine lv_topl (fun v_31 ev_31 => ?_)
                refine lv_ldc2 (v := 4294967295) hx hb hown (hg _ k927) d_M_widenReadPlain_126 ?_
                refine lv_land hx hb d_M_widenReadPlain_129 ?_
                refine lv_topl (fun v_32 ev_32 => ?_)
                refine lv_aload_n hx hb d_M_widenReadPlain_130 rfl (lv_at hl 2 rfl) ?_
                refine my_ci (wr := []) (va_runV (As := []) (rest := [Value.long v_32, Value.ref o]) ⟨hx, hb, hml, hown, hts⟩ (c_M_next l dC dI cI cM cO H.size o g fForm fShift fModels fItems fEnded fLow fRange fCache fPend fGoes fOuts fReads fBad fIR fBAsk (lN e9.2.2.1) (lN (mvL e9.2.1)) (lN (mvR e9.2.1 e9.1)) fX fWrites fThrown vIn is e9.2.2.2 (by assumption) (by assumption) (by assumption) (by omega)) (cwV 0 hts (my_gV k1194 k1196 ks45 k12 k1197) rfl rfl rfl cu_M_next_0 ⟨by rw [hR]; exact Nat.le_of_ble_eq_true rfl, by rw [hR]; exact Nat.le_of_ble_eq_true rfl⟩) (my_preV hK hN (hP.sub [0, 1] rfl) (hD.sub [0, 1] (by decide +kernel) rfl) 0 rfl rfl) rfl rfl hl.1 rfl (lv_room (Nat.le_of_ble_eq_true rfl)) d_M_widenReadPlain_131 ⟨by rw [hR]; exact Nat.le_of_ble_eq_true rfl, by rw [hR]; exact Nat.le_of_ble_eq_true rfl⟩) hP hD hS hA [0, 1] [] rfl rfl (by decide +kernel) (by decide +kernel) (fun r_131 u9 H locs hw_131 hP hD hS => ?_)
                have hw_131 : r_131 = nI (byA is e9.2.2.2) := hw_131
                have hPD : my_PD (dC, dI) vwCl A [(o, Sum.inr (9, mO g fForm fShift fModels fItems fEnded fLow fRange fCache fPend fGoes fOuts (nI is.length) fReads fBad fIR (nI (e9.2.2.2 + 1)) fBAsk (lN e9.2.2.1) (lN (mvL e9.2.1)) (lN (mvR e9.2.1 e9.1)) fX fWrites fThrown)), ((g 8), Sum.inl (cI, 6000, Sum.inl vIn))] H := ⟨hP, hD⟩
                have hP := hPD.1
                have hD := hPD.2
                refine lv_i2l hx hb d_M_widenReadPlain_134 rfl ?_
                refine lv_topl (fun v_33 ev_33 => ?_)
                refine lv_ladd hx hb d_M_widenReadPlain_135 ?_
                refine lv_topl (fun v_34 ev_34 => ?_)
                have z9 : v_34 = lN (e9.2.2.1 * 256 % 4294967296 + byA is e9.2.2.2) := by subst_vars; rw [L_shl8, L_and32 (by omega), nI_l (by omega), lN_add]
                subst z9
                refine va_put (D := (dC, dI)) (ci := 9) (v := .long (lN (e9.2.2.1 * 256 % 4294967296 + byA is e9.2.2.2))) (ty := .long) (C := "RangeCodersModel") (T := T_M) (N := 35) hx hb hg in_M t_M o_M n_M hown hK hP hD hS 0 rfl rfl 26 (by decide) (hg _ k978) (fun _ h9 => h9) rfl (o_M 26 (by decide)) rfl rfl (Nat.le_of_ble_eq_true rfl) d_M_widenReadPlain_136 (fun H locs hP hD hS => ?_)
                have hPD : my_PD (dC, dI) vwCl A [(o, Sum.inr (9, mO g fForm fShift fModels fItems fEnded fLow fRange fCache fPend fGoes fOuts (nI is.length) fReads fBad fIR (nI (e9.2.2.2 + 1)) fBAsk (lN (e9.2.2.1 * 256 % 4294967296 + byA is e9.2.2.2)) (lN (mvL e9.2.1)) (lN (mvR e9.2.1 e9.1)) fX fWrites fThrown)), ((g 8), Sum.inl (cI, 6000, Sum.inl vIn))] H := ⟨hP, hD⟩
                have hP := hPD.1
                have hD := hPD.2
                refine lv_goto (tgt := 2) hx hb d_M_widenReadPlain_139 (by decide) ?_
                refine lv_iload_n hx hb d_M_widenReadPlain_2 rfl (lv_at hl 0 rfl) ?_
                refine lv_if_eq (tgt := 142) hx hb d_M_widenReadPlain_3 (by decide) (fun c_35 => ?_) (fun c_35 => ?_)
                · exact absurd c_35 (by decide)
                · exact ih9_6 _ (by first | omega | (omega)) (mvR e9.2.1 e9.1, mvL e9.2.1, e9.2.2.1 * 256 % 4294967296 + byA is e9.2.2.2, e9.2.2.2 + 1) (k9 - 1) rfl (by rw [hE9, prN_s (by omega) hmv]) (hst.2) (by show e9.2.2.1 * 256 % 4294967296 + byA is e9.2.2.2 < _; omega) (by show e9.2.2.2 + 1 + _ ≤ _; omega) H locs ls (hP.sub [0, 1] rfl) (hD.sub [0, 1] (by decide +kernel) rfl) hS (lv_sub hl [2] rfl)
          · exact absurd c_24 (by decide)
    exact J_6 _ (RR, L, CD, q) 8 rfl (rfl) (plI_0 hp) (hC) (by show q + 8 ≤ _; omega) H locs ls (hP.sub [0, 1] rfl) (hD.sub [0, 1] (by decide +kernel) rfl) hS (lv_sub hl [1] rfl)
end
section
set_option maxHeartbeats 1000000 in
set_option maxRecDepth 100000 in
/-- narrow, form 0 -/
theorem c_M_narrow0 (l : Launch) (dC : Nat → ClassId) (dI : Nat → Nat → Nat) (cI cM cO : ClassId) (sz : Nat) (o : Nat) (g : Nat → Nat) (fShift : Int32) (fModels : Int32) (fItems : Int32) (fEnded : Int32) (fOuts : Int32) (fIns : Int32) (fReads : Int32) (fBad : Int32) (fIR : Int32) (fAsk : Int32) (fBAsk : Int32) (fCode : Int64) (fRL : Int64) (fRR : Int64) (fX : Int64) (fWrites : Int32) (fThrown : Int32) (vGoing : Nat → Int32) (cc : Nat) (ff : Nat) (tt : Nat) (Rg : Nat) (L : Nat) (ca : Option Nat) (Pn : Nat) (bs : List Nat) (ht0 : 0 < tt) (ht1 : tt < 2 ^ 31) (hcf : cc + ff ≤ tt) (hff : 0 < ff) (hRt : tt ≤ Rg) (hR1 : Rg < 4294967296) (hL : L + Rg ≤ 8589934592) (hc : ∀ x, ca = some x → x < 256) (hG : gIs vGoing bs) (hN9 : bs.length + Pn + 4 ≤ 9000) : MetV l y_M_narrow (Cond.code y_M_narrow prog_14_method_21_code 6 none :: gw) ({ frames := 3, cells := 0, slots := 0, locals := 62 } : Room) (dC, dI) vwCl (kT cI cM cO) [Value.ref o, Value.int (nI cc), Value.int (nI ff), Value.int (nI tt)] [(o, Sum.inr (9, mO g 0 fShift fModels fItems fEnded (lN L) (lN Rg) (caI ca) (nI Pn) (nI bs.length) fOuts fIns fReads fBad fIR fAsk fBAsk fCode fRL fRR fX fWrites fThrown)), ((g 6), Sum.inl (cI, 9000, Sum.inl vGoing))] sz (fun (u : (Nat → Int32)) => gIs u (eB (wdS (Rg / tt * ff, L + Rg / tt * cc, ca, Pn, bs)))) (fun (u : (Nat → Int32)) => [(o, Sum.inr (9, mO g 0 fShift fModels fItems fEnded (lN (eL (wdS (Rg / tt * ff, L + Rg / tt * cc, ca, Pn, bs)))) (lN (eR (wdS (Rg / tt * ff, L + Rg / tt * cc, ca, Pn, bs)))) (caI (eC (wdS (Rg / tt * ff, L + Rg / tt * cc, ca, Pn, bs)))) (nI (eP (wdS (Rg / tt * ff, L + Rg / tt * cc, ca, Pn, bs)))) (nI (eB (wdS (Rg / tt * ff, L + Rg / tt * cc, ca, Pn, bs))).length) fOuts fIns fReads fBad fIR fAsk fBAsk fCode fRL fRR fX fWrites fThrown)), ((g 6), Sum.inl (cI, 9000, Sum.inl u))]) 0 0 := by
  refine my_ofV (cc := prog_14_method_21_code) (n := 6) (ret := none) (by decide) rfl (Nat.le_of_ble_eq_true rfl) ?_
  intro p e s m args below meth c R Q A ls H locs hx hb hr hts hown hlocks hml hnm hR hQ hA hl hP hK hN hD hS
  have hg : ∀ w ∈ gw, w.before args s = true := fun w h => hts w (List.mem_cons_of_mem _ h)
  have hown : s.vm.findClass "RangeCodersModel" = some m.cls := hown
  have hl : lv_has ls 6 [(0, Value.ref o), (1, Value.int (nI cc)), (2, Value.int (nI ff)), (3, Value.int (nI tt))] := hl
  have hd1 : Rg / tt * tt ≤ Rg := Nat.div_mul_le_self _ _
  have hd2 : Rg / tt * cc + Rg / tt * ff ≤ Rg / tt * tt := by rw [← Nat.mul_add]; exact Nat.mul_le_mul_left _ hcf
  have hd3 : 0 < Rg / tt := Nat.div_pos hRt ht0
  have hd4 : 0 < Rg / tt * ff := Nat.mul_pos hd3 hff
  have hd5 : Rg / tt ≤ Rg := Nat.div_le_self _ _
  generalize hrc : Rg / tt * cc = rc at hd2
  generalize hrf : Rg / tt * ff = rf at hd2 hd4
  refine lv_aload_n hx hb d_M_narrow_0 rfl (lv_at hl 0 rfl) ?_
  refine va_get (D := (dC, dI)) (ci := 9) (v := .long (lN Rg)) (C := "RangeCodersModel") (T := T_M) (N := 35) hx hb hg in_M hown hK hP 0 rfl rfl 12 (by decide) (hg _ k964) (fun _ h9 => h9) rfl d_M_narrow_1 ?_
  refine lv_iload_n hx hb d_M_narrow_4 rfl (lv_at hl 3 rfl) ?_
  refine lv_i2l hx hb d_M_narrow_5 rfl ?_
  refine lv_topl (fun v_1 ev_1 => ?_)
  refine lv_ldiv hx hb d_M_narrow_6 (by subst_vars; rw [nI_l (by omega)]; intro z; have := (pk_lEQ (b := 0) (by omega) (by decide)).mp z; omega) ?_
  refine lv_topl (fun v_2 ev_2 => ?_)
  have z9 : v_2 = lN (Rg / tt) := by subst_vars; rw [nI_l (by omega)]; exact pk_lDiv (by omega) ht0 (by omega)
  subst z9
  refine lv_lstore (lv' := [(4, Value.long (lN (Rg / tt))), (0, Value.ref o), (1, Value.int (nI cc)), (2, Value.int (nI ff)), (3, Value.int (nI tt))]) hx hb d_M_narrow_7 hl (by decide) rfl (fun ls hl => ?_)
  refine lv_aload_n hx hb d_M_narrow_9 rfl (lv_at hl 1 rfl) ?_
  refine lv_aload_n hx hb d_M_narrow_10 rfl (lv_at hl 1 rfl) ?_
  refine va_get (D := (dC, dI)) (ci := 9) (v := .long (lN L)) (C := "RangeCodersModel") (T := T_M) (N := 35) hx hb hg in_M hown hK hP 0 rfl rfl 11 (by decide) (hg _ k963) (fun _ h9 => h9) rfl d_M_narrow_11 ?_
  refine lv_lload hx hb d_M_narrow_14 (lv_at hl 0 rfl) ?_
  refine lv_iload_n hx hb d_M_narrow_16 rfl (lv_at hl 2 rfl) ?_
  refine lv_i2l hx hb d_M_narrow_17 rfl ?_
  refine lv_topl (fun v_3 ev_3 => ?_)
  refine lv_lmul hx hb d_M_narrow_18 ?_
  refine lv_topl (fun v_4 ev_4 => ?_)
  refine lv_ladd hx hb d_M_narrow_19 ?_
  refine lv_topl (fun v_5 ev_5 => ?_)
  have z9 : v_5 = lN (L + rc) := by subst_vars; rw [nI_l (by omega), lN_mul, lN_add]
  subst z9
  refine va_put (D := (dC, dI)) (ci := 9) (v := .long (lN (L + rc))) (ty := .long) (C := "RangeCodersModel") (T := T_M) (N := 35) hx hb hg in_M t_M o_M n_M hown hK hP hD hS 0 rfl rfl 11 (by decide) (hg _ k963) (fun _ h9 => h9) rfl (o_M 11 (by decide)) rfl rfl (Nat.le_of_ble_eq_true rfl) d_M_narrow_20 (fun H locs hP hD hS => ?_)
  have hPD : my_PD (dC, dI) vwCl A [(o, Sum.inr (9, mO g 0 fShift fModels fItems fEnded (lN (L + rc)) (lN Rg) (caI ca) (nI Pn) (nI bs.length) fOuts fIns fReads fBad fIR fAsk fBAsk fCode fRL fRR fX fWrites fThrown)), ((g 6), Sum.inl (cI, 9000, Sum.inl vGoing))] H := ⟨hP, hD⟩
  have hP := hPD.1
  have hD := hPD.2
  refine lv_aload_n hx hb d_M_narrow_23 rfl (lv_at hl 1 rfl) ?_
  refine lv_lload hx hb d_M_narrow_24 (lv_at hl 0 rfl) ?_
  refine lv_iload_n hx hb d_M_narrow_26 rfl (lv_at hl 3 rfl) ?_
  refine lv_i2l hx hb d_M_narrow_27 rfl ?_
  refine lv_topl (fun v_6 ev_6 => ?_)
  refine lv_lmul hx hb d_M_narrow_28 ?_
  refine lv_topl (fun v_7 ev_7 => ?_)
  have z9 : v_7 = lN rf := by subst_vars; rw [nI_l (by omega), lN_mul]
  subst z9
  refine va_put (D := (dC, dI)) (ci := 9) (v := .long (lN rf)) (ty := .long) (C := "RangeCodersModel") (T := T_M) (N := 35) hx hb hg in_M t_M o_M n_M hown hK hP hD hS 0 rfl rfl 12 (by decide) (hg _ k964) (fun _ h9 => h9) rfl (o_M 12 (by decide)) rfl rfl (Nat.le_of_ble_eq_true rfl) d_M_narrow_29 (fun H locs hP hD hS => ?_)
  have hPD : my_PD (dC, dI) vwCl A [(o, Sum.inr (9, mO g 0 fShift fModels fItems fEnded (lN (L + rc)) (lN rf) (caI ca) (nI Pn) (nI bs.length) fOuts fIns fReads fBad fIR fAsk fBAsk fCode fRL fRR fX fWrites fThrown)), ((g 6), Sum.inl (cI, 9000, Sum.inl vGoing))] H := ⟨hP, hD⟩
  have hP := hPD.1
  have hD := hPD.2
  refine lv_aload_n hx hb d_M_narrow_32 rfl (lv_at hl 1 rfl) ?_
  refine va_get (D := (dC, dI)) (ci := 9) (v := .int 0) (C := "RangeCodersModel") (T := T_M) (N := 35) hx hb hg in_M hown hK hP 0 rfl rfl 0 (by decide) (hg _ k952) (fun _ h9 => h9) rfl d_M_narrow_33 ?_
  refine lv_if_ne (tgt := 46) hx hb d_M_narrow_36 (by decide) (fun c_8 => ?_) (fun c_8 => ?_)
  · exact absurd rfl c_8
  · refine lv_aload_n hx hb d_M_narrow_39 rfl (lv_at hl 1 rfl) ?_
    refine my_cv (wr := []) (va_runV (As := []) (rest := []) ⟨hx, hb, hml, hown, hts⟩ (c_M_widen l dC dI cI cM cO H.size o g 0 fShift fModels fItems fEnded fOuts fIns fReads fBad fIR fAsk fBAsk fCode fRL fRR fX fWrites fThrown vGoing rf (L + rc) ca Pn bs (hd4) (by omega) (by omega) (by assumption) (by assumption) (by assumption)) (cwV 0 hts (my_gV k1097 k1099 ks30 k12 k1100) rfl rfl rfl cu_M_widen_0 ⟨by rw [hR]; exact Nat.le_of_ble_eq_true rfl, by rw [hR]; exact Nat.le_of_ble_eq_true rfl⟩) (my_preV hK hN (hP.sub [0, 1] rfl) (hD.sub [0, 1] (by decide +kernel) rfl) 0 rfl rfl) rfl rfl hl.1 rfl (lv_room (Nat.le_of_ble_eq_true rfl)) d_M_narrow_40 ⟨by rw [hR]; exact Nat.le_of_ble_eq_true rfl, by rw [hR]; exact Nat.le_of_ble_eq_true rfl⟩) hP hD hS hA [0, 1] [] rfl rfl (by decide +kernel) (by decide +kernel) (fun u9 H locs hw_40 hP hD hS => ?_)
    obtain ⟨v2_40, rfl⟩ : ∃ z, z = u9 := ⟨_, rfl⟩
    have hw_40 : gIs v2_40 (eB (wdS (rf, (L + rc), ca, Pn, bs))) := hw_40
    have hPD : my_PD (dC, dI) vwCl A [(o, Sum.inr (9, mO g 0 fShift fModels fItems fEnded (lN (eL (wdS (rf, (L + rc), ca, Pn, bs)))) (lN (eR (wdS (rf, (L + rc), ca, Pn, bs)))) (caI (eC (wdS (rf, (L + rc), ca, Pn, bs)))) (nI (eP (wdS (rf, (L + rc), ca, Pn, bs)))) (nI (eB (wdS (rf, (L + rc), ca, Pn, bs))).length) fOuts fIns fReads fBad fIR fAsk fBAsk fCode fRL fRR fX fWrites fThrown)), ((g 6), Sum.inl (cI, 9000, Sum.inl v2_40))] H := ⟨hP, hD⟩
    have hP := hPD.1
    have hD := hPD.2
    refine lv_goto (tgt := 62) hx hb d_M_narrow_43 (by decide) ?_
    subst hrc
    subst hrf
    
    
    exact my_vret hx hb hr hlocks hQ hK hS (Nat.le_refl _) (Nat.le_refl _) v2_40 (hw_40) (hP.sub [0, 1] rfl) (hD.sub [0, 1] (by decide +kernel) rfl) d_M_narrow_62
set_option maxHeartbeats 1000000 in
set_option maxRecDepth 100000 in
/-- narrow, form 1 -/
theorem c_M_narrow1 (l : Launch) (dC : Nat → ClassId) (dI : Nat → Nat → Nat) (cI cM cO : ClassId) (sz : Nat) (o : Nat) (g : Nat → Nat) (fShift : Int32) (fModels : Int32) (fItems : Int32) (fEnded : Int32) (fCache : Int32) (fPend : Int32) (fOuts : Int32) (fIns : Int32) (fReads : Int32) (fBad : Int32) (fIR : Int32) (fAsk : Int32) (fBAsk : Int32) (fCode : Int64) (fRL : Int64) (fRR : Int64) (fX : Int64) (fWrites : Int32) (fThrown : Int32) (vGoing : Nat → Int32) (cc : Nat) (ff : Nat) (tt : Nat) (Rg : Nat) (L : Nat) (bs : List Nat) (ht0 : 0 < tt) (ht1 : tt < 2 ^ 31) (hcf : cc + ff ≤ tt) (hff : 0 < ff) (hRt : tt ≤ Rg) (hp : pOk Rg L) (hG : gIs vGoing bs) (hN9 : bs.length + 5 ≤ 9000) : MetV l y_M_narrow (Cond.code y_M_narrow prog_14_method_21_code 6 none :: gw) ({ frames := 2, cells := 0, slots := 0, locals := 43 } : Room) (dC, dI) vwCl (kT cI cM cO) [Value.ref o, Value.int (nI cc), Value.int (nI ff), Value.int (nI tt)] [(o, Sum.inr (9, mO g 1 fShift fModels fItems fEnded (lN L) (lN Rg) fCache fPend (nI bs.length) fOuts fIns fReads fBad fIR fAsk fBAsk fCode fRL fRR fX fWrites fThrown)), ((g 6), Sum.inl (cI, 9000, Sum.inl vGoing))] sz (fun (u : (Nat → Int32)) => gIs u (plS (Rg / tt * ff, L + Rg / tt * cc, bs)).2.2) (fun (u : (Nat → Int32)) => [(o, Sum.inr (9, mO g 1 fShift fModels fItems fEnded (lN (plS (Rg / tt * ff, L + Rg / tt * cc, bs)).2.1) (lN (plS (Rg / tt * ff, L + Rg / tt * cc, bs)).1) fCache fPend (nI (plS (Rg / tt * ff, L + Rg / tt * cc, bs)).2.2.length) fOuts fIns fReads fBad fIR fAsk fBAsk fCode fRL fRR fX fWrites fThrown)), ((g 6), Sum.inl (cI, 9000, Sum.inl u))]) 0 0 := by
  refine my_ofV (cc := prog_14_method_21_code) (n := 6) (ret := none) (by decide) rfl (Nat.le_of_ble_eq_true rfl) ?_
  intro p e s m args below meth c R Q A ls H locs hx hb hr hts hown hlocks hml hnm hR hQ hA hl hP hK hN hD hS
  have hg : ∀ w ∈ gw, w.before args s = true := fun w h => hts w (List.mem_cons_of_mem _ h)
  have hown : s.vm.findClass "RangeCodersModel" = some m.cls := hown
  have hl : lv_has ls 6 [(0, Value.ref o), (1, Value.int (nI cc)), (2, Value.int (nI ff)), (3, Value.int (nI tt))] := hl
  obtain ⟨hp1, hp2, hp3, hp4⟩ := hp
  have hd1 : Rg / tt * tt ≤ Rg := Nat.div_mul_le_self _ _
  have hd2 : Rg / tt * cc + Rg / tt * ff ≤ Rg / tt * tt := by rw [← Nat.mul_add]; exact Nat.mul_le_mul_left _ hcf
  have hd3 : 0 < Rg / tt := Nat.div_pos hRt ht0
  have hd4 : 0 < Rg / tt * ff := Nat.mul_pos hd3 hff
  have hd5 : Rg / tt ≤ Rg := Nat.div_le_self _ _
  generalize hrc : Rg / tt * cc = rc at hd2
  generalize hrf : Rg / tt * ff = rf at hd2 hd4
  refine lv_aload_n hx hb d_M_narrow_0 rfl (lv_at hl 0 rfl) ?_
  refine va_get (D := (dC, dI)) (ci := 9) (v := .long (lN Rg)) (C := "RangeCodersModel") (T := T_M) (N := 35) hx hb hg in_M hown hK hP 0 rfl rfl 12 (by decide) (hg _ k964) (fun _ h9 => h9) rfl d_M_narrow_1 ?_
  refine lv_iload_n hx hb d_M_narrow_4 rfl (lv_at hl 3 rfl) ?_
  refine lv_i2l hx hb d_M_narrow_5 rfl ?_
  refine lv_topl (fun v_1 ev_1 => ?_)
  refine lv_ldiv hx hb d_M_narrow_6 (by subst_vars; rw [nI_l (by omega)]; intro z; have := (pk_lEQ (b := 0) (by omega) (by decide)).mp z; omega) ?_
  refine lv_topl (fun v_2 ev_2 => ?_)
  have z9 : v_2 = lN (Rg / tt) := by subst_vars; rw [nI_l (by omega)]; exact pk_lDiv (by omega) ht0 (by omega)
  subst z9
  refine lv_lstore (lv' := [(4, Value.long (lN (Rg / tt))), (0, Value.ref o), (1, Value.int (nI cc)), (2, Value.int (nI ff)), (3, Value.int (nI tt))]) hx hb d_M_narrow_7 hl (by decide) rfl (fun ls hl => ?_)
  refine lv_aload_n hx hb d_M_narrow_9 rfl (lv_at hl 1 rfl) ?_
  refine lv_aload_n hx hb d_M_narrow_10 rfl (lv_at hl 1 rfl) ?_
  refine va_get (D := (dC, dI)) (ci := 9) (v := .long (lN L)) (C := "RangeCodersModel") (T := T_M) (N := 35) hx hb hg in_M hown hK hP 0 rfl rfl 11 (by decide) (hg _ k963) (fun _ h9 => h9) rfl d_M_narrow_11 ?_
  refine lv_lload hx hb d_M_narrow_14 (lv_at hl 0 rfl) ?_
  refine lv_iload_n hx hb d_M_narrow_16 rfl (lv_at hl 2 rfl) ?_
  refine lv_i2l hx hb d_M_narrow_17 rfl ?_
  refine lv_topl (fun v_3 ev_3 => ?_)
  refine lv_lmul hx hb d_M_narrow_18 ?_
  refine lv_topl (fun v_4 ev_4 => ?_)
  refine lv_ladd hx hb d_M_narrow_19 ?_
  refine lv_topl (fun v_5 ev_5 => ?_)
  have z9 : v_5 = lN (L + rc) := by subst_vars; rw [nI_l (by omega), lN_mul, lN_add]
  subst z9
  refine va_put (D := (dC, dI)) (ci := 9) (v := .long (lN (L + rc))) (ty := .long) (C := "RangeCodersModel") (T := T_M) (N := 35) hx hb hg in_M t_M o_M n_M hown hK hP hD hS 0 rfl rfl 11 (by decide) (hg _ k963) (fun _ h9 => h9) rfl (o_M 11 (by decide)) rfl rfl (Nat.le_of_ble_eq_true rfl) d_M_narrow_20 (fun H locs hP hD hS => ?_)
  have hPD : my_PD (dC, dI) vwCl A [(o, Sum.inr (9, mO g 1 fShift fModels fItems fEnded (lN (L + rc)) (lN Rg) fCache fPend (nI bs.length) fOuts fIns fReads fBad fIR fAsk fBAsk fCode fRL fRR fX fWrites fThrown)), ((g 6), Sum.inl (cI, 9000, Sum.inl vGoing))] H := ⟨hP, hD⟩
  have hP := hPD.1
  have hD := hPD.2
  refine lv_aload_n hx hb d_M_narrow_23 rfl (lv_at hl 1 rfl) ?_
  refine lv_lload hx hb d_M_narrow_24 (lv_at hl 0 rfl) ?_
  refine lv_iload_n hx hb d_M_narrow_26 rfl (lv_at hl 3 rfl) ?_
  refine lv_i2l hx hb d_M_narrow_27 rfl ?_
  refine lv_topl (fun v_6 ev_6 => ?_)
  refine lv_lmul hx hb d_M_narrow_28 ?_
  refine lv_topl (fun v_7 ev_7 => ?_)
  have z9 : v_7 = lN rf := by subst_vars; rw [nI_l (by omega), lN_mul]
  subst z9
  refine va_put (D := (dC, dI)) (ci := 9) (v := .long (lN rf)) (ty := .long) (C := "RangeCodersModel") (T := T_M) (N := 35) hx hb hg in_M t_M o_M n_M hown hK hP hD hS 0 rfl rfl 12 (by decide) (hg _ k964) (fun _ h9 => h9) rfl (o_M 12 (by decide)) rfl rfl (Nat.le_of_ble_eq_true rfl) d_M_narrow_29 (fun H locs hP hD hS => ?_)
  have hPD : my_PD (dC, dI) vwCl A [(o, Sum.inr (9, mO g 1 fShift fModels fItems fEnded (lN (L + rc)) (lN rf) fCache fPend (nI bs.length) fOuts fIns fReads fBad fIR fAsk fBAsk fCode fRL fRR fX fWrites fThrown)), ((g 6), Sum.inl (cI, 9000, Sum.inl vGoing))] H := ⟨hP, hD⟩
  have hP := hPD.1
  have hD := hPD.2
  refine lv_aload_n hx hb d_M_narrow_32 rfl (lv_at hl 1 rfl) ?_
  refine va_get (D := (dC, dI)) (ci := 9) (v := .int 1) (C := "RangeCodersModel") (T := T_M) (N := 35) hx hb hg in_M hown hK hP 0 rfl rfl 0 (by decide) (hg _ k952) (fun _ h9 => h9) rfl d_M_narrow_33 ?_
  refine lv_if_ne (tgt := 46) hx hb d_M_narrow_36 (by decide) (fun c_8 => ?_) (fun c_8 => ?_)
  · refine lv_aload_n hx hb d_M_narrow_46 rfl (lv_at hl 1 rfl) ?_
    refine lv_aload_n hx hb d_M_narrow_47 rfl (lv_at hl 1 rfl) ?_
    refine va_get (D := (dC, dI)) (ci := 9) (v := .long (lN (L + rc))) (C := "RangeCodersModel") (T := T_M) (N := 35) hx hb hg in_M hown hK hP 0 rfl rfl 11 (by decide) (hg _ k963) (fun _ h9 => h9) rfl d_M_narrow_48 ?_
    refine lv_ldc2 (v := 4294967295) hx hb hown (hg _ k927) d_M_narrow_51 ?_
    refine lv_land hx hb d_M_narrow_54 ?_
    refine lv_topl (fun v_9 ev_9 => ?_)
    have z9 : v_9 = lN (L + rc) := by subst_vars; rw [L_and32 (by omega), Nat.mod_eq_of_lt (by omega)]
    subst z9
    refine va_put (D := (dC, dI)) (ci := 9) (v := .long (lN (L + rc))) (ty := .long) (C := "RangeCodersModel") (T := T_M) (N := 35) hx hb hg in_M t_M o_M n_M hown hK hP hD hS 0 rfl rfl 11 (by decide) (hg _ k963) (fun _ h9 => h9) rfl (o_M 11 (by decide)) rfl rfl (Nat.le_of_ble_eq_true rfl) d_M_narrow_55 (fun H locs hP hD hS => ?_)
    have hPD : my_PD (dC, dI) vwCl A [(o, Sum.inr (9, mO g 1 fShift fModels fItems fEnded (lN (L + rc)) (lN rf) fCache fPend (nI bs.length) fOuts fIns fReads fBad fIR fAsk fBAsk fCode fRL fRR fX fWrites fThrown)), ((g 6), Sum.inl (cI, 9000, Sum.inl vGoing))] H := ⟨hP, hD⟩
    have hP := hPD.1
    have hD := hPD.2
    refine lv_aload_n hx hb d_M_narrow_58 rfl (lv_at hl 1 rfl) ?_
    refine my_cv (wr := []) (va_runV (As := []) (rest := []) ⟨hx, hb, hml, hown, hts⟩ (c_M_widenPlain l dC dI cI cM cO H.size o g 1 fShift fModels fItems fEnded fCache fPend fOuts fIns fReads fBad fIR fAsk fBAsk fCode fRL fRR fX fWrites fThrown vGoing rf (L + rc) bs (⟨by omega, by omega, by omega, fun z => by have := hp4 (by omega); omega⟩) (by assumption) (by assumption)) (cwV 0 hts (my_gV k1113 k1115 ks33 k12 k1116) rfl rfl rfl cu_M_widenPlain_0 ⟨by rw [hR]; exact Nat.le_of_ble_eq_true rfl, by rw [hR]; exact Nat.le_of_ble_eq_true rfl⟩) (my_preV hK hN (hP.sub [0, 1] rfl) (hD.sub [0, 1] (by decide +kernel) rfl) 0 rfl rfl) rfl rfl hl.1 rfl (lv_room (Nat.le_of_ble_eq_true rfl)) d_M_narrow_59 ⟨by rw [hR]; exact Nat.le_of_ble_eq_true rfl, by rw [hR]; exact Nat.le_of_ble_eq_true rfl⟩) hP hD hS hA [0, 1] [] rfl rfl (by decide +kernel) (by decide +kernel) (fun u9 H locs hw_59 hP hD hS => ?_)
    obtain ⟨v2_59, rfl⟩ : ∃ z, z = u9 := ⟨_, rfl⟩
    have hw_59 : gIs v2_59 (plS (rf, (L + rc), bs)).2.2 := hw_59
    have hPD : my_PD (dC, dI) vwCl A [(o, Sum.inr (9, mO g 1 fShift fModels fItems fEnded (lN (plS (rf, (L + rc), bs)).2.1) (lN (plS (rf, (L + rc), bs)).1) fCache fPend (nI (plS (rf, (L + rc), bs)).2.2.length) fOuts fIns fReads fBad fIR fAsk fBAsk fCode fRL fRR fX fWrites fThrown)), ((g 6), Sum.inl (cI, 9000, Sum.inl v2_59))] H := ⟨hP, hD⟩
    have hP := hPD.1
    have hD := hPD.2
    subst hrc
    subst hrf
    
    
    exact my_vret hx hb hr hlocks hQ hK hS (Nat.le_refl _) (Nat.le_refl _) v2_59 (hw_59) (hP.sub [0, 1] rfl) (hD.sub [0, 1] (by decide +kernel) rfl) d_M_narrow_62
  · exact absurd c_8 (by decide)
end
section
set_option maxHeartbeats 1000000 in
set_option maxRecDepth 100000 in
/-- putValue, form 2 -/
theorem c_M_putValue2 (l : Launch) (dC : Nat → ClassId) (dI : Nat → Nat → Nat) (cI cM cO : ClassId) (sz : Nat) (o : Nat) (g : Nat → Nat) (fShift : Int32) (fModels : Int32) (fItems : Int32) (fEnded : Int32) (fOuts : Int32) (fIns : Int32) (fReads : Int32) (fBad : Int32) (fIR : Int32) (fAsk : Int32) (fBAsk : Int32) (fCode : Int64) (fRL : Int64) (fRR : Int64) (fX : Int64) (fWrites : Int32) (fThrown : Int32) (vGoing : Nat → Int32) (v : Nat) (b : Nat) (Rg : Nat) (L : Nat) (ca : Option Nat) (Pn : Nat) (bs : List Nat) (hb1 : 1 ≤ b) (hb2 : b ≤ 12) (hv : v < 4096) (hE : eInv (Rg, L, ca, Pn, bs)) (hG : gIs vGoing bs) (hN9 : bs.length + Pn + 20 ≤ 9000) : MetV l y_M_putValue (Cond.code y_M_putValue prog_14_method_27_code 4 none :: gw) ({ frames := 3, cells := 0, slots := 0, locals := 62 } : Room) (dC, dI) vwCl (kT cI cM cO) [Value.ref o, Value.int (nI v), Value.int (nI b)] [(o, Sum.inr (9, mO g 2 fShift fModels fItems fEnded (lN L) (lN Rg) (caI ca) (nI Pn) (nI bs.length) fOuts fIns fReads fBad fIR fAsk fBAsk fCode fRL fRR fX fWrites fThrown)), ((g 6), Sum.inl (cI, 9000, Sum.inl vGoing))] sz (fun (u : (Nat → Int32)) => gIs u (eB (vbN v b (Rg, L, ca, Pn, bs)))) (fun (u : (Nat → Int32)) => [(o, Sum.inr (9, mO g 2 fShift fModels fItems fEnded (lN (eL (vbN v b (Rg, L, ca, Pn, bs)))) (lN (eR (vbN v b (Rg, L, ca, Pn, bs)))) (caI (eC (vbN v b (Rg, L, ca, Pn, bs)))) (nI (eP (vbN v b (Rg, L, ca, Pn, bs)))) (nI (eB (vbN v b (Rg, L, ca, Pn, bs))).length) fOuts fIns fReads fBad fIR fAsk fBAsk fCode fRL fRR fX fWrites fThrown)), ((g 6), Sum.inl (cI, 9000, Sum.inl u))]) 0 0 := by
  refine my_ofV (cc := prog_14_method_27_code) (n := 4) (ret := none) (by decide) rfl (Nat.le_of_ble_eq_true rfl) ?_
  intro p e s m args below meth c R Q A ls H locs hx hb hr hts hown hlocks hml hnm hR hQ hA hl hP hK hN hD hS
  have hg : ∀ w ∈ gw, w.before args s = true := fun w h => hts w (List.mem_cons_of_mem _ h)
  have hown : s.vm.findClass "RangeCodersModel" = some m.cls := hown
  have hl : lv_has ls 4 [(0, Value.ref o), (1, Value.int (nI v)), (2, Value.int (nI b))] := hl
  refine lv_aload_n hx hb d_M_putValue_0 rfl (lv_at hl 0 rfl) ?_
  refine va_get (D := (dC, dI)) (ci := 9) (v := .int 2) (C := "RangeCodersModel") (T := T_M) (N := 35) hx hb hg in_M hown hK hP 0 rfl rfl 0 (by decide) (hg _ k952) (fun _ h9 => h9) rfl d_M_putValue_1 ?_
  refine lv_iconst (v := 2) hx hb d_M_putValue_4 (by decide) ?_
  refine lv_icmp_ge (tgt := 20) hx hb d_M_putValue_5 (by decide) (fun c_1 => ?_) (fun c_1 => ?_)
  · refine lv_aload_n hx hb d_M_putValue_20 rfl (lv_at hl 0 rfl) ?_
    refine va_get (D := (dC, dI)) (ci := 9) (v := .int 2) (C := "RangeCodersModel") (T := T_M) (N := 35) hx hb hg in_M hown hK hP 0 rfl rfl 0 (by decide) (hg _ k952) (fun _ h9 => h9) rfl d_M_putValue_21 ?_
    refine lv_iconst (v := 2) hx hb d_M_putValue_24 (by decide) ?_
    refine lv_icmp_ne (tgt := 85) hx hb d_M_putValue_25 (by decide) (fun c_2 => ?_) (fun c_2 => ?_)
    · exact absurd rfl c_2
    · refine lv_iload_n hx hb d_M_putValue_28 rfl (lv_at hl 2 rfl) ?_
      refine lv_iconst (v := 1) hx hb d_M_putValue_29 (by decide) ?_
      refine lv_isub hx hb d_M_putValue_30 ?_
      refine lv_topi (fun v_3 ev_3 => ?_)
      refine lv_istore_n (lv' := [(3, Value.int v_3), (0, Value.ref o), (1, Value.int (nI v)), (2, Value.int (nI b))]) hx hb d_M_putValue_31 rfl hl (by decide) rfl (fun ls hl => ?_)
      have J_32 : ∀ (n9_32 : Nat) (i9 : Int32) (j : Nat) (e9 : ES) (vK : Nat → Int32) (hn9_32 : j = n9_32) (hi : i9 + 1 = nI j) (hj : j ≤ b) (hE9 : vbN v b (Rg, L, ca, Pn, bs) = vbN v j e9) (hI9 : eInv e9) (hg9 : gIs vK (eB e9)) (hM9 : eN e9 + j ≤ 9000 - 19 + b) (H : Heap) (locs : List Loc) (ls : Array Slot), va_P (dC, dI) vwCl [(o, Sum.inr (9, mO g 2 fShift fModels fItems fEnded (lN (eL e9)) (lN (eR e9)) (caI (eC e9)) (nI (eP e9)) (nI (eB e9).length) fOuts fIns fReads fBad fIR fAsk fBAsk fCode fRL fRR fX fWrites fThrown)), ((g 6), Sum.inl (cI, 9000, Sum.inl vK))] H → va_D A [(o, Sum.inr (9, mO g 2 fShift fModels fItems fEnded (lN (eL e9)) (lN (eR e9)) (caI (eC e9)) (nI (eP e9)) (nI (eB e9).length) fOuts fIns fReads fBad fIR fAsk fBAsk fCode fRL fRR fX fWrites fThrown)), ((g 6), Sum.inl (cI, 9000, Sum.inl vK))] → va_S A s.heap H locs → lv_has ls 4 [(3, Value.int i9), (0, Value.ref o), (1, Value.int (nI v)), (2, Value.int (nI b))] → W p l e R s m args below meth c H locs 0 0 Q (F0 m 32 ls []) := by
        intro n9_32
        induction n9_32 using Nat.strongRecOn with
        | ind n9_32 ih9_32 =>
          intro i9 j e9 vK hn9_32 hi hj hE9 hI9 hg9 hM9 H locs ls hP hD hS hl
          refine lv_iload_n hx hb d_M_putValue_32 rfl (lv_at hl 0 rfl) ?_
          refine lv_if_lt (tgt := 85) hx hb d_M_putValue_33 (by decide) (fun c_4 => ?_) (fun c_4 => ?_)
          · have hj0 : j = 0 := by
              rcases Nat.eq_zero_or_pos j with z | z
              · exact z
              · exact absurd (show i9 < 0 from c_4) (by rw [show i9 = nI (j - 1) from by rw [← Int32.add_sub_cancel (a := i9) (b := 1), hi]; exact pk_sub (b := 1) z]; exact nI_pos (by omega))
            have z9 : e9 = vbN v b (Rg, L, ca, Pn, bs) := by rw [hE9, hj0]; rfl
            subst z9
            exact my_vret hx hb hr hlocks hQ hK hS (Nat.le_refl _) (Nat.le_refl _) vK (hg9) (hP.sub [0, 1] rfl) (hD.sub [0, 1] (by decide +kernel) rfl) d_M_putValue_85
          · have hj0 : 1 ≤ j := by
              rcases Nat.eq_zero_or_pos j with z | z
              · subst z; exact absurd (show i9 < 0 by rw [show i9 = -1 from by rw [← Int32.add_sub_cancel (a := i9) (b := 1), hi]; rfl]; decide) c_4
              · exact z
            have hi9 : i9 = nI (j - 1) := by rw [← Int32.add_sub_cancel (a := i9) (b := 1), hi]; exact pk_sub (b := 1) hj0
            obtain ⟨hI1, hI2, hI3, hI4⟩ := id hI9
            have hvl : v / 2 ^ (j - 1) ≤ v := Nat.div_le_self _ _
            refine lv_aload_n hx hb d_M_putValue_36 rfl (lv_at hl 1 rfl) ?_
            refine lv_aload_n hx hb d_M_putValue_37 rfl (lv_at hl 1 rfl) ?_
            refine va_get (D := (dC, dI)) (ci := 9) (v := .long (lN (eR e9))) (C := "RangeCodersModel") (T := T_M) (N := 35) hx hb hg in_M hown hK hP 0 rfl rfl 12 (by decide) (hg _ k964) (fun _ h9 => h9) rfl d_M_putValue_38 ?_
            refine lv_iconst (v := 1) hx hb d_M_putValue_41 (by decide) ?_
            refine lv_lshr hx hb d_M_putValue_42 rfl ?_
            refine lv_topl (fun v_5 ev_5 => ?_)
            have z9 : v_5 = lN (eR e9 / 2) := by subst_vars; exact L_shr1 (by omega)
            subst z9
            refine va_put (D := (dC, dI)) (ci := 9) (v := .long (lN (eR e9 / 2))) (ty := .long) (C := "RangeCodersModel") (T := T_M) (N := 35) hx hb hg in_M t_M o_M n_M hown hK hP hD hS 0 rfl rfl 12 (by decide) (hg _ k964) (fun _ h9 => h9) rfl (o_M 12 (by decide)) rfl rfl (Nat.le_of_ble_eq_true rfl) d_M_putValue_43 (fun H locs hP hD hS => ?_)
            have hPD : my_PD (dC, dI) vwCl A [(o, Sum.inr (9, mO g 2 fShift fModels fItems fEnded (lN (eL e9)) (lN (eR e9 / 2)) (caI (eC e9)) (nI (eP e9)) (nI (eB e9).length) fOuts fIns fReads fBad fIR fAsk fBAsk fCode fRL fRR fX fWrites fThrown)), ((g 6), Sum.inl (cI, 9000, Sum.inl vK))] H := ⟨hP, hD⟩
            have hP := hPD.1
            have hD := hPD.2
            refine lv_aload_n hx hb d_M_putValue_46 rfl (lv_at hl 1 rfl) ?_
            refine lv_iload_n hx hb d_M_putValue_47 rfl (lv_at hl 2 rfl) ?_
            refine lv_iload_n hx hb d_M_putValue_48 rfl (lv_at hl 0 rfl) ?_
            refine lv_ishr hx hb d_M_putValue_49 ?_
            refine lv_topi (fun v_6 ev_6 => ?_)
            refine lv_iconst (v := 1) hx hb d_M_putValue_50 (by decide) ?_
            refine lv_iand hx hb d_M_putValue_51 ?_
            refine lv_topi (fun v_7 ev_7 => ?_)
            have z9 : v_7 = nI (v / 2 ^ (j - 1) % 2) := by subst_vars; rw [I_shr (by omega) (by omega)]; exact I_and1 (by omega)
            subst z9
            refine lv_iconst (v := 1) hx hb d_M_putValue_52 (by decide) ?_
            refine lv_icmp_ne (tgt := 68) hx hb d_M_putValue_53 (by decide) (fun c_8 => ?_) (fun c_8 => ?_)
            · refine lv_aload_n hx hb d_M_putValue_68 rfl (lv_at hl 1 rfl) ?_
              refine va_get (D := (dC, dI)) (ci := 9) (v := .long (lN (eL e9))) (C := "RangeCodersModel") (T := T_M) (N := 35) hx hb hg in_M hown hK hP 0 rfl rfl 11 (by decide) (hg _ k963) (fun _ h9 => h9) rfl d_M_putValue_69 ?_
              refine W.eq (g2 := F0 m 72 ls [Value.long (lN (if v / 2 ^ (j - 1) % 2 = 1 then eL e9 + eR e9 / 2 else eL e9)), Value.ref o]) (by rw [if_neg (fun z => c_8 (by rw [z]; rfl))]) ?_
              refine va_put (D := (dC, dI)) (ci := 9) (v := .long (lN (if v / 2 ^ (j - 1) % 2 = 1 then eL e9 + eR e9 / 2 else eL e9))) (ty := .long) (C := "RangeCodersModel") (T := T_M) (N := 35) hx hb hg in_M t_M o_M n_M hown hK hP hD hS 0 rfl rfl 11 (by decide) (hg _ k963) (fun _ h9 => h9) rfl (o_M 11 (by decide)) rfl rfl (Nat.le_of_ble_eq_true rfl) d_M_putValue_72 (fun H locs hP hD hS => ?_)
              have hPD : my_PD (dC, dI) vwCl A [(o, Sum.inr (9, mO g 2 fShift fModels fItems fEnded (lN (if v / 2 ^ (j - 1) % 2 = 1 then eL e9 + eR e9 / 2 else eL e9)) (lN (eR e9 / 2)) (caI (eC e9)) (nI (eP e9)) (nI (eB e9).length) fOuts fIns fReads fBad fIR fAsk fBAsk fCode fRL fRR fX fWrites fThrown)), ((g 6), Sum.inl (cI, 9000, Sum.inl vK))] H := ⟨hP, hD⟩
              have hP := hPD.1
              have hD := hPD.2
              have hLL : (if v / 2 ^ (j - 1) % 2 = 1 then eL e9 + eR e9 / 2 else eL e9) < 8589934592 := by split <;> omega
              refine lv_aload_n hx hb d_M_putValue_75 rfl (lv_at hl 1 rfl) ?_
              refine my_cv (wr := []) (va_runV (As := []) (rest := []) ⟨hx, hb, hml, hown, hts⟩ (c_M_widen l dC dI cI cM cO H.size o g 2 fShift fModels fItems fEnded fOuts fIns fReads fBad fIR fAsk fBAsk fCode fRL fRR fX fWrites fThrown vK (eR e9 / 2) (if v / 2 ^ (j - 1) % 2 = 1 then eL e9 + eR e9 / 2 else eL e9) (eC e9) (eP e9) (eB e9) (by omega) (by omega) (hLL) (hI4) (hg9) (by have z : eN e9 = (eB e9).length + eP e9 + 1 := rfl; omega)) (cwV 0 hts (my_gV k1097 k1099 ks30 k12 k1100) rfl rfl rfl cu_M_widen_0 ⟨by rw [hR]; exact Nat.le_of_ble_eq_true rfl, by rw [hR]; exact Nat.le_of_ble_eq_true rfl⟩) (my_preV hK hN (hP.sub [0, 1] rfl) (hD.sub [0, 1] (by decide +kernel) rfl) 0 rfl rfl) rfl rfl hl.1 rfl (lv_room (Nat.le_of_ble_eq_true rfl)) d_M_putValue_76 ⟨by rw [hR]; exact Nat.le_of_ble_eq_true rfl, by rw [hR]; exact Nat.le_of_ble_eq_true rfl⟩) hP hD hS hA [0, 1] [] rfl rfl (by decide +kernel) (by decide +kernel) (fun u9 H locs hw_76 hP hD hS => ?_)
              obtain ⟨v2_76, rfl⟩ : ∃ z, z = u9 := ⟨_, rfl⟩
              have hw_76 : gIs v2_76 (eB (wdS ((eR e9 / 2), (if v / 2 ^ (j - 1) % 2 = 1 then eL e9 + eR e9 / 2 else eL e9), (eC e9), (eP e9), (eB e9)))) := hw_76
              have hPD : my_PD (dC, dI) vwCl A [(o, Sum.inr (9, mO g 2 fShift fModels fItems fEnded (lN (eL (wdS ((eR e9 / 2), (if v / 2 ^ (j - 1) % 2 = 1 then eL e9 + eR e9 / 2 else eL e9), (eC e9), (eP e9), (eB e9))))) (lN (eR (wdS ((eR e9 / 2), (if v / 2 ^ (j - 1) % 2 = 1 then eL e9 + eR e9 / 2 else eL e9), (eC e9), (eP e9), (eB e9))))) (caI (eC (wdS ((eR e9 / 2), (if v / 2 ^ (j - 1) % 2 = 1 then eL e9 + eR e9 / 2 else eL e9), (eC e9), (eP e9), (eB e9))))) (nI (eP (wdS ((eR e9 / 2), (if v / 2 ^ (j - 1) % 2 = 1 then eL e9 + eR e9 / 2 else eL e9), (eC e9), (eP e9), (eB e9))))) (nI (eB (wdS ((eR e9 / 2), (if v / 2 ^ (j - 1) % 2 = 1 then eL e9 + eR e9 / 2 else eL e9), (eC e9), (eP e9), (eB e9)))).length) fOuts fIns fReads fBad fIR fAsk fBAsk fCode fRL fRR fX fWrites fThrown)), ((g 6), Sum.inl (cI, 9000, Sum.inl v2_76))] H := ⟨hP, hD⟩
              have hP := hPD.1
              have hD := hPD.2
              obtain ⟨v_9, ev_9⟩ : ∃ y : Int32, y = i9 + (-1) := ⟨_, rfl⟩
              refine lv_iinc (v := v_9) (lv' := [(3, Value.int v_9), (0, Value.ref o), (1, Value.int (nI v)), (2, Value.int (nI b))]) hx hb d_M_putValue_79 hl (k := 0) rfl (by rw [ev_9]; rfl) (by decide) rfl (fun ls hl => ?_)
              refine lv_goto (tgt := 32) hx hb d_M_putValue_82 (by decide) ?_
              exact ih9_32 _ (by first | omega | (omega)) v_9 (j - 1) (wdS (eR e9 / 2, (if v / 2 ^ (j - 1) % 2 = 1 then eL e9 + eR e9 / 2 else eL e9), e9.2.2)) v2_76 rfl (by subst_vars; rw [Int32.add_assoc, show (-1 : Int32) + 1 = 0 from by decide, Int32.add_zero]) (by omega) (by rw [hE9, show vbN v j e9 = vbN v (j - 1 + 1) e9 by rw [Nat.sub_add_cancel hj0]]; rfl) ((vb_inv hI9 _).1) (hw_76) (by have z := (vb_inv hI9 (v / 2 ^ (j - 1) % 2 = 1)).2; omega) H locs ls (hP.sub [0, 1] rfl) (hD.sub [0, 1] (by decide +kernel) rfl) hS (lv_sub hl [0, 1, 2, 3] rfl)
            · refine lv_aload_n hx hb d_M_putValue_56 rfl (lv_at hl 1 rfl) ?_
              refine va_get (D := (dC, dI)) (ci := 9) (v := .long (lN (eL e9))) (C := "RangeCodersModel") (T := T_M) (N := 35) hx hb hg in_M hown hK hP 0 rfl rfl 11 (by decide) (hg _ k963) (fun _ h9 => h9) rfl d_M_putValue_57 ?_
              refine lv_aload_n hx hb d_M_putValue_60 rfl (lv_at hl 1 rfl) ?_
              refine va_get (D := (dC, dI)) (ci := 9) (v := .long (lN (eR e9 / 2))) (C := "RangeCodersModel") (T := T_M) (N := 35) hx hb hg in_M hown hK hP 0 rfl rfl 12 (by decide) (hg _ k964) (fun _ h9 => h9) rfl d_M_putValue_61 ?_
              refine lv_ladd hx hb d_M_putValue_64 ?_
              refine lv_topl (fun v_10 ev_10 => ?_)
              refine lv_goto (tgt := 72) hx hb d_M_putValue_65 (by decide) ?_
              have z9 : v_10 = lN (if v / 2 ^ (j - 1) % 2 = 1 then eL e9 + eR e9 / 2 else eL e9) := by subst_vars; rw [if_pos ((nI_eq (b := 1) (by omega) (by decide)).mp c_8)]; exact lN_add _ _
              subst z9
              refine va_put (D := (dC, dI)) (ci := 9) (v := .long (lN (if v / 2 ^ (j - 1) % 2 = 1 then eL e9 + eR e9 / 2 else eL e9))) (ty := .long) (C := "RangeCodersModel") (T := T_M) (N := 35) hx hb hg in_M t_M o_M n_M hown hK hP hD hS 0 rfl rfl 11 (by decide) (hg _ k963) (fun _ h9 => h9) rfl (o_M 11 (by decide)) rfl rfl (Nat.le_of_ble_eq_true rfl) d_M_putValue_72 (fun H locs hP hD hS => ?_)
              have hPD : my_PD (dC, dI) vwCl A [(o, Sum.inr (9, mO g 2 fShift fModels fItems fEnded (lN (if v / 2 ^ (j - 1) % 2 = 1 then eL e9 + eR e9 / 2 else eL e9)) (lN (eR e9 / 2)) (caI (eC e9)) (nI (eP e9)) (nI (eB e9).length) fOuts fIns fReads fBad fIR fAsk fBAsk fCode fRL fRR fX fWrites fThrown)), ((g 6), Sum.inl (cI, 9000, Sum.inl vK))] H := ⟨hP, hD⟩
              have hP := hPD.1
              have hD := hPD.2
              have hLL : (if v / 2 ^ (j - 1) % 2 = 1 then eL e9 + eR e9 / 2 else eL e9) < 8589934592 := by split <;> omega
              refine lv_aload_n hx hb d_M_putValue_75 rfl (lv_at hl 1 rfl) ?_
              refine my_cv (wr := []) (va_runV (As := []) (rest := []) ⟨hx, hb, hml, hown, hts⟩ (c_M_widen l dC dI cI cM cO H.size o g 2 fShift fModels fItems fEnded fOuts fIns fReads fBad fIR fAsk fBAsk fCode fRL fRR fX fWrites fThrown vK (eR e9 / 2) (if v / 2 ^ (j - 1) % 2 = 1 then eL e9 + eR e9 / 2 else eL e9) (eC e9) (eP e9) (eB e9) (by omega) (by omega) (hLL) (hI4) (hg9) (by have z : eN e9 = (eB e9).length + eP e9 + 1 := rfl; omega)) (cwV 0 hts (my_gV k1097 k1099 ks30 k12 k1100) rfl rfl rfl cu_M_widen_0 ⟨by rw [hR]; exact Nat.le_of_ble_eq_true rfl, by rw [hR]; exact Nat.le_of_ble_eq_true rfl⟩) (my_preV hK hN (hP.sub [0, 1] rfl) (hD.sub [0, 1] (by decide +kernel) rfl) 0 rfl rfl) rfl rfl hl.1 rfl (lv_room (Nat.le_of_ble_eq_true rfl)) d_M_putValue_76 ⟨by rw [hR]; exact Nat.le_of_ble_eq_true rfl, by rw [hR]; exact Nat.le_of_ble_eq_true rfl⟩) hP hD hS hA [0, 1] [] rfl rfl (by decide +kernel) (by decide +kernel) (fun u9 H locs hw_76 hP hD hS => ?_)
              obtain ⟨v2_76, rfl⟩ : ∃ z, z = u9 := ⟨_, rfl⟩
              have hw_76 : gIs v2_76 (eB (wdS ((eR e9 / 2), (if v / 2 ^ (j - 1) % 2 = 1 then eL e9 + eR e9 / 2 else eL e9), (eC e9), (eP e9), (eB e9)))) := hw_76
              have hPD : my_PD (dC, dI) vwCl A [(o, Sum.inr (9, mO g 2 fShift fModels fItems fEnded (lN (eL (wdS ((eR e9 / 2), (if v / 2 ^ (j - 1) % 2 = 1 then eL e9 + eR e9 / 2 else eL e9), (eC e9), (eP e9), (eB e9))))) (lN (eR (wdS ((eR e9 / 2), (if v / 2 ^ (j - 1) % 2 = 1 then eL e9 + eR e9 / 2 else eL e9), (eC e9), (eP e9), (eB e9))))) (caI (eC (wdS ((eR e9 / 2), (if v / 2 ^ (j - 1) % 2 = 1 then eL e9 + eR e9 / 2 else eL e9), (eC e9), (eP e9), (eB e9))))) (nI (eP (wdS ((eR e9 / 2), (if v / 2 ^ (j - 1) % 2 = 1 then eL e9 + eR e9 / 2 else eL e9), (eC e9), (eP e9), (eB e9))))) (nI (eB (wdS ((eR e9 / 2), (if v / 2 ^ (j - 1) % 2 = 1 then eL e9 + eR e9 / 2 else eL e9), (eC e9), (eP e9), (eB e9)))).length) fOuts fIns fReads fBad fIR fAsk fBAsk fCode fRL fRR fX fWrites fThrown)), ((g 6), Sum.inl (cI, 9000, Sum.inl v2_76))] H := ⟨hP, hD⟩
              have hP := hPD.1
              have hD := hPD.2
              obtain ⟨v_11, ev_11⟩ : ∃ y : Int32, y = i9 + (-1) := ⟨_, rfl⟩
              refine lv_iinc (v := v_11) (lv' := [(3, Value.int v_11), (0, Value.ref o), (1, Value.int (nI v)), (2, Value.int (nI b))]) hx hb d_M_putValue_79 hl (k := 0) rfl (by rw [ev_11]; rfl) (by decide) rfl (fun ls hl => ?_)
              refine lv_goto (tgt := 32) hx hb d_M_putValue_82 (by decide) ?_
              exact ih9_32 _ (by first | omega | (omega)) v_11 (j - 1) (wdS (eR e9 / 2, (if v / 2 ^ (j - 1) % 2 = 1 then eL e9 + eR e9 / 2 else eL e9), e9.2.2)) v2_76 rfl (by subst_vars; rw [Int32.add_assoc, show (-1 : Int32) + 1 = 0 from by decide, Int32.add_zero]) (by omega) (by rw [hE9, show vbN v j e9 = vbN v (j - 1 + 1) e9 by rw [Nat.sub_add_cancel hj0]]; rfl) ((vb_inv hI9 _).1) (hw_76) (by have z := (vb_inv hI9 (v / 2 ^ (j - 1) % 2 = 1)).2; omega) H locs ls (hP.sub [0, 1] rfl) (hD.sub [0, 1] (by decide +kernel) rfl) hS (lv_sub hl [0, 1, 2, 3] rfl)
      exact J_32 _ v_3 b (Rg, L, ca, Pn, bs) vGoing rfl (by subst_vars; rw [Int32.sub_add_cancel]) (Nat.le_refl _) (rfl) (hE) (hG) (by show bs.length + Pn + 1 + b ≤ _; omega) H locs ls (hP.sub [0, 1] rfl) (hD.sub [0, 1] (by decide +kernel) rfl) hS (lv_sub hl [0, 1, 2, 3] rfl)
  · exact absurd (by decide) c_1
end
section
set_option maxHeartbeats 1000000 in
set_option maxRecDepth 100000 in
/-- putValue, form 0 -/
theorem c_M_putValue0 (l : Launch) (dC : Nat → ClassId) (dI : Nat → Nat → Nat) (cI cM cO : ClassId) (sz : Nat) (o : Nat) (g : Nat → Nat) (fShift : Int32) (fModels : Int32) (fItems : Int32) (fEnded : Int32) (fOuts : Int32) (fIns : Int32) (fReads : Int32) (fBad : Int32) (fIR : Int32) (fAsk : Int32) (fBAsk : Int32) (fCode : Int64) (fRL : Int64) (fRR : Int64) (fX : Int64) (fWrites : Int32) (fThrown : Int32) (vGoing : Nat → Int32) (v : Nat) (b : Nat) (Rg : Nat) (L : Nat) (ca : Option Nat) (Pn : Nat) (bs : List Nat) (hb1 : 1 ≤ b) (hb2 : b ≤ 12) (hv : v < 2 ^ b) (hE : eInv (Rg, L, ca, Pn, bs)) (hG : gIs vGoing bs) (hN9 : bs.length + Pn + 20 ≤ 9000) : MetV l y_M_putValue (Cond.code y_M_putValue prog_14_method_27_code 4 none :: gw) ({ frames := 4, cells := 0, slots := 0, locals := 87 } : Room) (dC, dI) vwCl (kT cI cM cO) [Value.ref o, Value.int (nI v), Value.int (nI b)] [(o, Sum.inr (9, mO g 0 fShift fModels fItems fEnded (lN L) (lN Rg) (caI ca) (nI Pn) (nI bs.length) fOuts fIns fReads fBad fIR fAsk fBAsk fCode fRL fRR fX fWrites fThrown)), ((g 6), Sum.inl (cI, 9000, Sum.inl vGoing))] sz (fun (u : (Nat → Int32)) => gIs u (eB (wdS (Rg / 2 ^ b * 1, L + Rg / 2 ^ b * v, ca, Pn, bs)))) (fun (u : (Nat → Int32)) => [(o, Sum.inr (9, mO g 0 fShift fModels fItems fEnded (lN (eL (wdS (Rg / 2 ^ b * 1, L + Rg / 2 ^ b * v, ca, Pn, bs)))) (lN (eR (wdS (Rg / 2 ^ b * 1, L + Rg / 2 ^ b * v, ca, Pn, bs)))) (caI (eC (wdS (Rg / 2 ^ b * 1, L + Rg / 2 ^ b * v, ca, Pn, bs)))) (nI (eP (wdS (Rg / 2 ^ b * 1, L + Rg / 2 ^ b * v, ca, Pn, bs)))) (nI (eB (wdS (Rg / 2 ^ b * 1, L + Rg / 2 ^ b * v, ca, Pn, bs))).length) fOuts fIns fReads fBad fIR fAsk fBAsk fCode fRL fRR fX fWrites fThrown)), ((g 6), Sum.inl (cI, 9000, Sum.inl u))]) 0 0 := by
  refine my_ofV (cc := prog_14_method_27_code) (n := 4) (ret := none) (by decide) rfl (Nat.le_of_ble_eq_true rfl) ?_
  intro p e s m args below meth c R Q A ls H locs hx hb hr hts hown hlocks hml hnm hR hQ hA hl hP hK hN hD hS
  have hg : ∀ w ∈ gw, w.before args s = true := fun w h => hts w (List.mem_cons_of_mem _ h)
  have hown : s.vm.findClass "RangeCodersModel" = some m.cls := hown
  have hl : lv_has ls 4 [(0, Value.ref o), (1, Value.int (nI v)), (2, Value.int (nI b))] := hl
  obtain ⟨hI1, hI2, hI3, hI4⟩ := id hE
  simp only [eR, eL, eC] at hI1 hI2 hI3 hI4
  have hpw : 2 ^ b ≤ 2 ^ 12 := Nat.pow_le_pow_right (by decide) hb2
  have hpw0 : 0 < 2 ^ b := Nat.pow_pos (by decide)
  refine lv_aload_n hx hb d_M_putValue_0 rfl (lv_at hl 0 rfl) ?_
  refine va_get (D := (dC, dI)) (ci := 9) (v := .int 0) (C := "RangeCodersModel") (T := T_M) (N := 35) hx hb hg in_M hown hK hP 0 rfl rfl 0 (by decide) (hg _ k952) (fun _ h9 => h9) rfl d_M_putValue_1 ?_
  refine lv_iconst (v := 2) hx hb d_M_putValue_4 (by decide) ?_
  refine lv_icmp_ge (tgt := 20) hx hb d_M_putValue_5 (by decide) (fun c_1 => ?_) (fun c_1 => ?_)
  · exact absurd c_1 (by decide)
  · refine lv_aload_n hx hb d_M_putValue_8 rfl (lv_at hl 0 rfl) ?_
    refine lv_iload_n hx hb d_M_putValue_9 rfl (lv_at hl 1 rfl) ?_
    refine lv_iconst (v := 1) hx hb d_M_putValue_10 (by decide) ?_
    refine lv_iconst (v := 1) hx hb d_M_putValue_11 (by decide) ?_
    refine lv_iload_n hx hb d_M_putValue_12 rfl (lv_at hl 2 rfl) ?_
    refine lv_ishl hx hb d_M_putValue_13 ?_
    refine lv_topi (fun v_2 ev_2 => ?_)
    have z9 : v_2 = nI (2 ^ b) := by subst_vars; exact shl1 b (by omega)
    subst z9
    refine W.eq (g2 := F0 m 14 ls [Value.int (nI (2 ^ b)), Value.int (nI 1), Value.int (nI v), Value.ref o]) rfl ?_
    refine my_cv (wr := []) (va_runV (As := [Value.int (nI v), Value.int (nI 1), Value.int (nI (2 ^ b))]) (rest := []) ⟨hx, hb, hml, hown, hts⟩ (c_M_narrow0 l dC dI cI cM cO H.size o g fShift fModels fItems fEnded fOuts fIns fReads fBad fIR fAsk fBAsk fCode fRL fRR fX fWrites fThrown vGoing v 1 (2 ^ b) Rg L ca Pn bs (hpw0) (by omega) (hv) (by decide) (by omega) (hI2) (hI3) (hI4) (by assumption) (by omega)) (cwV 3 hts (my_gV k1093 k1095 ks29 k12 k1096) rfl rfl rfl cu_M_narrow_3 ⟨by rw [hR]; exact Nat.le_of_ble_eq_true rfl, by rw [hR]; exact Nat.le_of_ble_eq_true rfl⟩) (my_preV hK hN (hP.sub [0, 1] rfl) (hD.sub [0, 1] (by decide +kernel) rfl) 0 rfl rfl) rfl rfl hl.1 rfl (lv_room (Nat.le_of_ble_eq_true rfl)) d_M_putValue_14 ⟨by rw [hR]; exact Nat.le_of_ble_eq_true rfl, by rw [hR]; exact Nat.le_of_ble_eq_true rfl⟩) hP hD hS hA [0, 1] [] rfl rfl (by decide +kernel) (by decide +kernel) (fun u9 H locs hw_14 hP hD hS => ?_)
    obtain ⟨v2_14, rfl⟩ : ∃ z, z = u9 := ⟨_, rfl⟩
    have hw_14 : gIs v2_14 (eB (wdS (Rg / (2 ^ b) * 1, L + Rg / (2 ^ b) * v, ca, Pn, bs))) := hw_14
    have hPD : my_PD (dC, dI) vwCl A [(o, Sum.inr (9, mO g 0 fShift fModels fItems fEnded (lN (eL (wdS (Rg / (2 ^ b) * 1, L + Rg / (2 ^ b) * v, ca, Pn, bs)))) (lN (eR (wdS (Rg / (2 ^ b) * 1, L + Rg / (2 ^ b) * v, ca, Pn, bs)))) (caI (eC (wdS (Rg / (2 ^ b) * 1, L + Rg / (2 ^ b) * v, ca, Pn, bs)))) (nI (eP (wdS (Rg / (2 ^ b) * 1, L + Rg / (2 ^ b) * v, ca, Pn, bs)))) (nI (eB (wdS (Rg / (2 ^ b) * 1, L + Rg / (2 ^ b) * v, ca, Pn, bs))).length) fOuts fIns fReads fBad fIR fAsk fBAsk fCode fRL fRR fX fWrites fThrown)), ((g 6), Sum.inl (cI, 9000, Sum.inl v2_14))] H := ⟨hP, hD⟩
    have hP := hPD.1
    have hD := hPD.2
    refine lv_goto (tgt := 85) hx hb d_M_putValue_17 (by decide) ?_
    exact my_vret hx hb hr hlocks hQ hK hS (Nat.le_refl _) (Nat.le_refl _) v2_14 (hw_14) (hP.sub [0, 1] rfl) (hD.sub [0, 1] (by decide +kernel) rfl) d_M_putValue_85
set_option maxHeartbeats 1000000 in
set_option maxRecDepth 100000 in
/-- putValue, form 1 -/
theorem c_M_putValue1 (l : Launch) (dC : Nat → ClassId) (dI : Nat → Nat → Nat) (cI cM cO : ClassId) (sz : Nat) (o : Nat) (g : Nat → Nat) (fShift : Int32) (fModels : Int32) (fItems : Int32) (fEnded : Int32) (fCache : Int32) (fPend : Int32) (fOuts : Int32) (fIns : Int32) (fReads : Int32) (fBad : Int32) (fIR : Int32) (fAsk : Int32) (fBAsk : Int32) (fCode : Int64) (fRL : Int64) (fRR : Int64) (fX : Int64) (fWrites : Int32) (fThrown : Int32) (vGoing : Nat → Int32) (v : Nat) (b : Nat) (Rg : Nat) (L : Nat) (bs : List Nat) (hb1 : 1 ≤ b) (hb2 : b ≤ 12) (hv : v < 2 ^ b) (hp : pOk Rg L) (hR6 : 65536 ≤ Rg) (hG : gIs vGoing bs) (hN9 : bs.length + 5 ≤ 9000) : MetV l y_M_putValue (Cond.code y_M_putValue prog_14_method_27_code 4 none :: gw) ({ frames := 3, cells := 0, slots := 0, locals := 68 } : Room) (dC, dI) vwCl (kT cI cM cO) [Value.ref o, Value.int (nI v), Value.int (nI b)] [(o, Sum.inr (9, mO g 1 fShift fModels fItems fEnded (lN L) (lN Rg) fCache fPend (nI bs.length) fOuts fIns fReads fBad fIR fAsk fBAsk fCode fRL fRR fX fWrites fThrown)), ((g 6), Sum.inl (cI, 9000, Sum.inl vGoing))] sz (fun (u : (Nat → Int32)) => gIs u (plS (Rg / 2 ^ b * 1, L + Rg / 2 ^ b * v, bs)).2.2) (fun (u : (Nat → Int32)) => [(o, Sum.inr (9, mO g 1 fShift fModels fItems fEnded (lN (plS (Rg / 2 ^ b * 1, L + Rg / 2 ^ b * v, bs)).2.1) (lN (plS (Rg / 2 ^ b * 1, L + Rg / 2 ^ b * v, bs)).1) fCache fPend (nI (plS (Rg / 2 ^ b * 1, L + Rg / 2 ^ b * v, bs)).2.2.length) fOuts fIns fReads fBad fIR fAsk fBAsk fCode fRL fRR fX fWrites fThrown)), ((g 6), Sum.inl (cI, 9000, Sum.inl u))]) 0 0 := by
  refine my_ofV (cc := prog_14_method_27_code) (n := 4) (ret := none) (by decide) rfl (Nat.le_of_ble_eq_true rfl) ?_
  intro p e s m args below meth c R Q A ls H locs hx hb hr hts hown hlocks hml hnm hR hQ hA hl hP hK hN hD hS
  have hg : ∀ w ∈ gw, w.before args s = true := fun w h => hts w (List.mem_cons_of_mem _ h)
  have hown : s.vm.findClass "RangeCodersModel" = some m.cls := hown
  have hl : lv_has ls 4 [(0, Value.ref o), (1, Value.int (nI v)), (2, Value.int (nI b))] := hl
  have hpw : 2 ^ b ≤ 2 ^ 12 := Nat.pow_le_pow_right (by decide) hb2
  have hpw0 : 0 < 2 ^ b := Nat.pow_pos (by decide)
  refine lv_aload_n hx hb d_M_putValue_0 rfl (lv_at hl 0 rfl) ?_
  refine va_get (D := (dC, dI)) (ci := 9) (v := .int 1) (C := "RangeCodersModel") (T := T_M) (N := 35) hx hb hg in_M hown hK hP 0 rfl rfl 0 (by decide) (hg _ k952) (fun _ h9 => h9) rfl d_M_putValue_1 ?_
  refine lv_iconst (v := 2) hx hb d_M_putValue_4 (by decide) ?_
  refine lv_icmp_ge (tgt := 20) hx hb d_M_putValue_5 (by decide) (fun c_1 => ?_) (fun c_1 => ?_)
  · exact absurd c_1 (by decide)
  · refine lv_aload_n hx hb d_M_putValue_8 rfl (lv_at hl 0 rfl) ?_
    refine lv_iload_n hx hb d_M_putValue_9 rfl (lv_at hl 1 rfl) ?_
    refine lv_iconst (v := 1) hx hb d_M_putValue_10 (by decide) ?_
    refine lv_iconst (v := 1) hx hb d_M_putValue_11 (by decide) ?_
    refine lv_iload_n hx hb d_M_putValue_12 rfl (lv_at hl 2 rfl) ?_
    refine lv_ishl hx hb d_M_putValue_13 ?_
    refine lv_topi (fun v_2 ev_2 => ?_)
    have z9 : v_2 = nI (2 ^ b) := by subst_vars; exact shl1 b (by omega)
    subst z9
    refine W.eq (g2 := F0 m 14 ls [Value.int (nI (2 ^ b)), Value.int (nI 1), Value.int (nI v), Value.ref o]) rfl ?_
    refine my_cv (wr := []) (va_runV (As := [Value.int (nI v), Value.int (nI 1), Value.int (nI (2 ^ b))]) (rest := []) ⟨hx, hb, hml, hown, hts⟩ (c_M_narrow1 l dC dI cI cM cO H.size o g fShift fModels fItems fEnded fCache fPend fOuts fIns fReads fBad fIR fAsk fBAsk fCode fRL fRR fX fWrites fThrown vGoing v 1 (2 ^ b) Rg L bs (hpw0) (by omega) (hv) (by decide) (by omega) (hp) (by assumption) (by omega)) (cwV 3 hts (my_gV k1093 k1095 ks29 k12 k1096) rfl rfl rfl cu_M_narrow_3 ⟨by rw [hR]; exact Nat.le_of_ble_eq_true rfl, by rw [hR]; exact Nat.le_of_ble_eq_true rfl⟩) (my_preV hK hN (hP.sub [0, 1] rfl) (hD.sub [0, 1] (by decide +kernel) rfl) 0 rfl rfl) rfl rfl hl.1 rfl (lv_room (Nat.le_of_ble_eq_true rfl)) d_M_putValue_14 ⟨by rw [hR]; exact Nat.le_of_ble_eq_true rfl, by rw [hR]; exact Nat.le_of_ble_eq_true rfl⟩) hP hD hS hA [0, 1] [] rfl rfl (by decide +kernel) (by decide +kernel) (fun u9 H locs hw_14 hP hD hS => ?_)
    obtain ⟨v2_14, rfl⟩ : ∃ z, z = u9 := ⟨_, rfl⟩
    have hw_14 : gIs v2_14 (plS (Rg / (2 ^ b) * 1, L + Rg / (2 ^ b) * v, bs)).2.2 := hw_14
    have hPD : my_PD (dC, dI) vwCl A [(o, Sum.inr (9, mO g 1 fShift fModels fItems fEnded (lN (plS (Rg / (2 ^ b) * 1, L + Rg / (2 ^ b) * v, bs)).2.1) (lN (plS (Rg / (2 ^ b) * 1, L + Rg / (2 ^ b) * v, bs)).1) fCache fPend (nI (plS (Rg / (2 ^ b) * 1, L + Rg / (2 ^ b) * v, bs)).2.2.length) fOuts fIns fReads fBad fIR fAsk fBAsk fCode fRL fRR fX fWrites fThrown)), ((g 6), Sum.inl (cI, 9000, Sum.inl v2_14))] H := ⟨hP, hD⟩
    have hP := hPD.1
    have hD := hPD.2
    refine lv_goto (tgt := 85) hx hb d_M_putValue_17 (by decide) ?_
    exact my_vret hx hb hr hlocks hQ hK hS (Nat.le_refl _) (Nat.le_refl _) v2_14 (hw_14) (hP.sub [0, 1] rfl) (hD.sub [0, 1] (by decide +kernel) rfl) d_M_putValue_85
set_option maxHeartbeats 1000000 in
set_option maxRecDepth 100000 in
/-- putValue, form 3 -/
theorem c_M_putValue3 (l : Launch) (dC : Nat → ClassId) (dI : Nat → Nat → Nat) (cI cM cO : ClassId) (sz : Nat) (o : Nat) (g : Nat → Nat) (fShift : Int32) (fModels : Int32) (fItems : Int32) (fEnded : Int32) (fLow : Int64) (fRange : Int64) (fCache : Int32) (fPend : Int32) (fGoes : Int32) (fOuts : Int32) (fIns : Int32) (fReads : Int32) (fBad : Int32) (fIR : Int32) (fAsk : Int32) (fBAsk : Int32) (fCode : Int64) (fRL : Int64) (fRR : Int64) (fX : Int64) (fWrites : Int32) (fThrown : Int32) (p1 : Int32) (p2 : Int32) : MetV l y_M_putValue (Cond.code y_M_putValue prog_14_method_27_code 4 none :: gw) ({ frames := 0, cells := 0, slots := 0, locals := 0 } : Room) (dC, dI) vwCl (kT cI cM cO) [Value.ref o, Value.int p1, Value.int p2] [(o, Sum.inr (9, mO g 3 fShift fModels fItems fEnded fLow fRange fCache fPend fGoes fOuts fIns fReads fBad fIR fAsk fBAsk fCode fRL fRR fX fWrites fThrown))] sz (fun (u : Unit) => True) (fun (u : Unit) => [(o, Sum.inr (9, mO g 3 fShift fModels fItems fEnded fLow fRange fCache fPend fGoes fOuts fIns fReads fBad fIR fAsk fBAsk fCode fRL fRR fX fWrites fThrown))]) 0 0 := by
  refine my_ofV (cc := prog_14_method_27_code) (n := 4) (ret := none) (by decide) rfl (Nat.le_of_ble_eq_true rfl) ?_
  intro p e s m args below meth c R Q A ls H locs hx hb hr hts hown hlocks hml hnm hR hQ hA hl hP hK hN hD hS
  have hg : ∀ w ∈ gw, w.before args s = true := fun w h => hts w (List.mem_cons_of_mem _ h)
  have hown : s.vm.findClass "RangeCodersModel" = some m.cls := hown
  have hl : lv_has ls 4 [(0, Value.ref o), (1, Value.int p1), (2, Value.int p2)] := hl
  refine lv_aload_n hx hb d_M_putValue_0 rfl (lv_at hl 0 rfl) ?_
  refine va_get (D := (dC, dI)) (ci := 9) (v := .int 3) (C := "RangeCodersModel") (T := T_M) (N := 35) hx hb hg in_M hown hK hP 0 rfl rfl 0 (by decide) (hg _ k952) (fun _ h9 => h9) rfl d_M_putValue_1 ?_
  refine lv_iconst (v := 2) hx hb d_M_putValue_4 (by decide) ?_
  refine lv_icmp_ge (tgt := 20) hx hb d_M_putValue_5 (by decide) (fun c_1 => ?_) (fun c_1 => ?_)
  · refine lv_aload_n hx hb d_M_putValue_20 rfl (lv_at hl 0 rfl) ?_
    refine va_get (D := (dC, dI)) (ci := 9) (v := .int 3) (C := "RangeCodersModel") (T := T_M) (N := 35) hx hb hg in_M hown hK hP 0 rfl rfl 0 (by decide) (hg _ k952) (fun _ h9 => h9) rfl d_M_putValue_21 ?_
    refine lv_iconst (v := 2) hx hb d_M_putValue_24 (by decide) ?_
    refine lv_icmp_ne (tgt := 85) hx hb d_M_putValue_25 (by decide) (fun c_2 => ?_) (fun c_2 => ?_)
    · exact my_vret hx hb hr hlocks hQ hK hS (Nat.le_refl _) (Nat.le_refl _) () (trivial) (hP.sub [0] rfl) (hD.sub [0] (by decide +kernel) rfl) d_M_putValue_85
    · exact absurd c_2 (by decide)
  · exact absurd (by decide) c_1
set_option maxHeartbeats 1000000 in
set_option maxRecDepth 100000 in
/-- putSign, form 3 -/
theorem c_M_putSign3 (l : Launch) (dC : Nat → ClassId) (dI : Nat → Nat → Nat) (cI cM cO : ClassId) (sz : Nat) (o : Nat) (g : Nat → Nat) (fShift : Int32) (fModels : Int32) (fItems : Int32) (fEnded : Int32) (fLow : Int64) (fRange : Int64) (fCache : Int32) (fPend : Int32) (fGoes : Int32) (fOuts : Int32) (fIns : Int32) (fReads : Int32) (fBad : Int32) (fIR : Int32) (fAsk : Int32) (fBAsk : Int32) (fCode : Int64) (fRL : Int64) (fRR : Int64) (fX : Int64) (fWrites : Int32) (fThrown : Int32) (p1 : Int32) (p2 : Int32) : MetV l y_M_putSign (Cond.code y_M_putSign prog_14_method_24_code 6 none :: gw) ({ frames := 0, cells := 0, slots := 0, locals := 0 } : Room) (dC, dI) vwCl (kT cI cM cO) [Value.ref o, Value.int p1, Value.int p2] [(o, Sum.inr (9, mO g 3 fShift fModels fItems fEnded fLow fRange fCache fPend fGoes fOuts fIns fReads fBad fIR fAsk fBAsk fCode fRL fRR fX fWrites fThrown))] sz (fun (u : Unit) => True) (fun (u : Unit) => [(o, Sum.inr (9, mO g 3 fShift fModels fItems fEnded fLow fRange fCache fPend fGoes fOuts fIns fReads fBad fIR fAsk fBAsk fCode fRL fRR fX fWrites fThrown))]) 0 0 := by
  refine my_ofV (cc := prog_14_method_24_code) (n := 6) (ret := none) (by decide) rfl (Nat.le_of_ble_eq_true rfl) ?_
  intro p e s m args below meth c R Q A ls H locs hx hb hr hts hown hlocks hml hnm hR hQ hA hl hP hK hN hD hS
  have hg : ∀ w ∈ gw, w.before args s = true := fun w h => hts w (List.mem_cons_of_mem _ h)
  have hown : s.vm.findClass "RangeCodersModel" = some m.cls := hown
  have hl : lv_has ls 6 [(0, Value.ref o), (1, Value.int p1), (2, Value.int p2)] := hl
  refine lv_aload_n hx hb d_M_putSign_0 rfl (lv_at hl 0 rfl) ?_
  refine va_get (D := (dC, dI)) (ci := 9) (v := .int 3) (C := "RangeCodersModel") (T := T_M) (N := 35) hx hb hg in_M hown hK hP 0 rfl rfl 0 (by decide) (hg _ k952) (fun _ h9 => h9) rfl d_M_putSign_1 ?_
  refine lv_iconst (v := 2) hx hb d_M_putSign_4 (by decide) ?_
  refine lv_icmp_ge (tgt := 55) hx hb d_M_putSign_5 (by decide) (fun c_1 => ?_) (fun c_1 => ?_)
  · refine lv_aload_n hx hb d_M_putSign_55 rfl (lv_at hl 0 rfl) ?_
    refine va_get (D := (dC, dI)) (ci := 9) (v := .int 3) (C := "RangeCodersModel") (T := T_M) (N := 35) hx hb hg in_M hown hK hP 0 rfl rfl 0 (by decide) (hg _ k952) (fun _ h9 => h9) rfl d_M_putSign_56 ?_
    refine lv_iconst (v := 2) hx hb d_M_putSign_59 (by decide) ?_
    refine lv_icmp_ne (tgt := 112) hx hb d_M_putSign_60 (by decide) (fun c_2 => ?_) (fun c_2 => ?_)
    · exact my_vret hx hb hr hlocks hQ hK hS (Nat.le_refl _) (Nat.le_refl _) () (trivial) (hP.sub [0] rfl) (hD.sub [0] (by decide +kernel) rfl) d_M_putSign_112
    · exact absurd c_2 (by decide)
  · exact absurd (by decide) c_1
set_option maxHeartbeats 1000000 in
set_option maxRecDepth 100000 in
/-- putValue, form 4 -/
theorem c_M_putValue4 (l : Launch) (dC : Nat → ClassId) (dI : Nat → Nat → Nat) (cI cM cO : ClassId) (sz : Nat) (o : Nat) (g : Nat → Nat) (fShift : Int32) (fModels : Int32) (fItems : Int32) (fEnded : Int32) (fLow : Int64) (fRange : Int64) (fCache : Int32) (fPend : Int32) (fGoes : Int32) (fOuts : Int32) (fIns : Int32) (fReads : Int32) (fBad : Int32) (fIR : Int32) (fAsk : Int32) (fBAsk : Int32) (fCode : Int64) (fRL : Int64) (fRR : Int64) (fX : Int64) (fWrites : Int32) (fThrown : Int32) (p1 : Int32) (p2 : Int32) : MetV l y_M_putValue (Cond.code y_M_putValue prog_14_method_27_code 4 none :: gw) ({ frames := 0, cells := 0, slots := 0, locals := 0 } : Room) (dC, dI) vwCl (kT cI cM cO) [Value.ref o, Value.int p1, Value.int p2] [(o, Sum.inr (9, mO g 4 fShift fModels fItems fEnded fLow fRange fCache fPend fGoes fOuts fIns fReads fBad fIR fAsk fBAsk fCode fRL fRR fX fWrites fThrown))] sz (fun (u : Unit) => True) (fun (u : Unit) => [(o, Sum.inr (9, mO g 4 fShift fModels fItems fEnded fLow fRange fCache fPend fGoes fOuts fIns fReads fBad fIR fAsk fBAsk fCode fRL fRR fX fWrites fThrown))]) 0 0 := by
  refine my_ofV (cc := prog_14_method_27_code) (n := 4) (ret := none) (by decide) rfl (Nat.le_of_ble_eq_true rfl) ?_
  intro p e s m args below meth c R Q A ls H locs hx hb hr hts hown hlocks hml hnm hR hQ hA hl hP hK hN hD hS
  have hg : ∀ w ∈ gw, w.before args s = true := fun w h => hts w (List.mem_cons_of_mem _ h)
  have hown : s.vm.findClass "RangeCodersModel" = some m.cls := hown
  have hl : lv_has ls 4 [(0, Value.ref o), (1, Value.int p1), (2, Value.int p2)] := hl
  refine lv_aload_n hx hb d_M_putValue_0 rfl (lv_at hl 0 rfl) ?_
  refine va_get (D := (dC, dI)) (ci := 9) (v := .int 4) (C := "RangeCodersModel") (T := T_M) (N := 35) hx hb hg in_M hown hK hP 0 rfl rfl 0 (by decide) (hg _ k952) (fun _ h9 => h9) rfl d_M_putValue_1 ?_
  refine lv_iconst (v := 2) hx hb d_M_putValue_4 (by decide) ?_
  refine lv_icmp_ge (tgt := 20) hx hb d_M_putValue_5 (by decide) (fun c_1 => ?_) (fun c_1 => ?_)
  · refine lv_aload_n hx hb d_M_putValue_20 rfl (lv_at hl 0 rfl) ?_
    refine va_get (D := (dC, dI)) (ci := 9) (v := .int 4) (C := "RangeCodersModel") (T := T_M) (N := 35) hx hb hg in_M hown hK hP 0 rfl rfl 0 (by decide) (hg _ k952) (fun _ h9 => h9) rfl d_M_putValue_21 ?_
    refine lv_iconst (v := 2) hx hb d_M_putValue_24 (by decide) ?_
    refine lv_icmp_ne (tgt := 85) hx hb d_M_putValue_25 (by decide) (fun c_2 => ?_) (fun c_2 => ?_)
    · exact my_vret hx hb hr hlocks hQ hK hS (Nat.le_refl _) (Nat.le_refl _) () (trivial) (hP.sub [0] rfl) (hD.sub [0] (by decide +kernel) rfl) d_M_putValue_85
    · exact absurd c_2 (by decide)
  · exact absurd (by decide) c_1
set_option maxHeartbeats 1000000 in
set_option maxRecDepth 100000 in
/-- putSign, form 4 -/
theorem c_M_putSign4 (l : Launch) (dC : Nat → ClassId) (dI : Nat → Nat → Nat) (cI cM cO : ClassId) (sz : Nat) (o : Nat) (g : Nat → Nat) (fShift : Int32) (fModels : Int32) (fItems : Int32) (fEnded : Int32) (fLow : Int64) (fRange : Int64) (fCache : Int32) (fPend : Int32) (fGoes : Int32) (fOuts : Int32) (fIns : Int32) (fReads : Int32) (fBad : Int32) (fIR : Int32) (fAsk : Int32) (fBAsk : Int32) (fCode : Int64) (fRL : Int64) (fRR : Int64) (fX : Int64) (fWrites : Int32) (fThrown : Int32) (p1 : Int32) (p2 : Int32) : MetV l y_M_putSign (Cond.code y_M_putSign prog_14_method_24_code 6 none :: gw) ({ frames := 0, cells := 0, slots := 0, locals := 0 } : Room) (dC, dI) vwCl (kT cI cM cO) [Value.ref o, Value.int p1, Value.int p2] [(o, Sum.inr (9, mO g 4 fShift fModels fItems fEnded fLow fRange fCache fPend fGoes fOuts fIns fReads fBad fIR fAsk fBAsk fCode fRL fRR fX fWrites fThrown))] sz (fun (u : Unit) => True) (fun (u : Unit) => [(o, Sum.inr (9, mO g 4 fShift fModels fItems fEnded fLow fRange fCache fPend fGoes fOuts fIns fReads fBad fIR fAsk fBAsk fCode fRL fRR fX fWrites fThrown))]) 0 0 := by
  refine my_ofV (cc := prog_14_method_24_code) (n := 6) (ret := none) (by decide) rfl (Nat.le_of_ble_eq_true rfl) ?_
  intro p e s m args below meth c R Q A ls H locs hx hb hr hts hown hlocks hml hnm hR hQ hA hl hP hK hN hD hS
  have hg : ∀ w ∈ gw, w.before args s = true := fun w h => hts w (List.mem_cons_of_mem _ h)
  have hown : s.vm.findClass "RangeCodersModel" = some m.cls := hown
  have hl : lv_has ls 6 [(0, Value.ref o), (1, Value.int p1), (2, Value.int p2)] := hl
  refine lv_aload_n hx hb d_M_putSign_0 rfl (lv_at hl 0 rfl) ?_
  refine va_get (D := (dC, dI)) (ci := 9) (v := .int 4) (C := "RangeCodersModel") (T := T_M) (N := 35) hx hb hg in_M hown hK hP 0 rfl rfl 0 (by decide) (hg _ k952) (fun _ h9 => h9) rfl d_M_putSign_1 ?_
  refine lv_iconst (v := 2) hx hb d_M_putSign_4 (by decide) ?_
  refine lv_icmp_ge (tgt := 55) hx hb d_M_putSign_5 (by decide) (fun c_1 => ?_) (fun c_1 => ?_)
  · refine lv_aload_n hx hb d_M_putSign_55 rfl (lv_at hl 0 rfl) ?_
    refine va_get (D := (dC, dI)) (ci := 9) (v := .int 4) (C := "RangeCodersModel") (T := T_M) (N := 35) hx hb hg in_M hown hK hP 0 rfl rfl 0 (by decide) (hg _ k952) (fun _ h9 => h9) rfl d_M_putSign_56 ?_
    refine lv_iconst (v := 2) hx hb d_M_putSign_59 (by decide) ?_
    refine lv_icmp_ne (tgt := 112) hx hb d_M_putSign_60 (by decide) (fun c_2 => ?_) (fun c_2 => ?_)
    · exact my_vret hx hb hr hlocks hQ hK hS (Nat.le_refl _) (Nat.le_refl _) () (trivial) (hP.sub [0] rfl) (hD.sub [0] (by decide +kernel) rfl) d_M_putSign_112
    · exact absurd c_2 (by decide)
  · exact absurd (by decide) c_1
end
section
set_option maxHeartbeats 1000000 in
set_option maxRecDepth 100000 in
/-- putSign, form 0 -/
theorem c_M_putSign0 (l : Launch) (dC : Nat → ClassId) (dI : Nat → Nat → Nat) (cI cM cO : ClassId) (sz : Nat) (o : Nat) (g : Nat → Nat) (fShift : Int32) (fModels : Int32) (fItems : Int32) (fEnded : Int32) (fOuts : Int32) (fIns : Int32) (fReads : Int32) (fBad : Int32) (fIR : Int32) (fAsk : Int32) (fBAsk : Int32) (fCode : Int64) (fRL : Int64) (fRR : Int64) (fX : Int64) (fWrites : Int32) (fThrown : Int32) (vMany : Nat → Int32) (vNow : Nat → Int32) (vGoing : Nat → Int32) (mm : Nat) (n : Nat) (t : Nat) (F : Nat → Nat) (Rg : Nat) (L : Nat) (ca : Option Nat) (Pn : Nat) (bs : List Nat) (hmm : mm < 8) (hn : vMany mm = nI n) (hn2 : n ≤ 64) (ht : t < n) (hf : sgI vNow (64 * mm) n F) (hFt : 0 < F t) (hsum : ns F n ≤ 8192) (hE : eInv (Rg, L, ca, Pn, bs)) (hG : gIs vGoing bs) (hN9 : bs.length + Pn + 20 ≤ 9000) : MetV l y_M_putSign (Cond.code y_M_putSign prog_14_method_24_code 6 none :: gw) ({ frames := 4, cells := 0, slots := 0, locals := 87 } : Room) (dC, dI) vwCl (kT cI cM cO) [Value.ref o, Value.int (nI mm), Value.int (nI t)] [(o, Sum.inr (9, mO g 0 fShift fModels fItems fEnded (lN L) (lN Rg) (caI ca) (nI Pn) (nI bs.length) fOuts fIns fReads fBad fIR fAsk fBAsk fCode fRL fRR fX fWrites fThrown)), ((g 0), Sum.inl (cI, 8, Sum.inl vMany)), ((g 2), Sum.inl (cI, 512, Sum.inl vNow)), ((g 6), Sum.inl (cI, 9000, Sum.inl vGoing))] sz (fun (u : (Nat → Int32) × (Nat → Int32)) => sgI u.1 (64 * mm) n (lrn n t F) ∧ sgO u.1 vNow (64 * mm) n ∧ gIs u.2 (eB (wdS (Rg / ns F n * F t, L + Rg / ns F n * ns F t, ca, Pn, bs)))) (fun (u : (Nat → Int32) × (Nat → Int32)) => [(o, Sum.inr (9, mO g 0 fShift fModels fItems fEnded (lN (eL (wdS (Rg / ns F n * F t, L + Rg / ns F n * ns F t, ca, Pn, bs)))) (lN (eR (wdS (Rg / ns F n * F t, L + Rg / ns F n * ns F t, ca, Pn, bs)))) (caI (eC (wdS (Rg / ns F n * F t, L + Rg / ns F n * ns F t, ca, Pn, bs)))) (nI (eP (wdS (Rg / ns F n * F t, L + Rg / ns F n * ns F t, ca, Pn, bs)))) (nI (eB (wdS (Rg / ns F n * F t, L + Rg / ns F n * ns F t, ca, Pn, bs))).length) fOuts fIns fReads fBad fIR fAsk fBAsk fCode fRL fRR fX fWrites fThrown)), ((g 0), Sum.inl (cI, 8, Sum.inl vMany)), ((g 2), Sum.inl (cI, 512, Sum.inl u.1)), ((g 6), Sum.inl (cI, 9000, Sum.inl u.2))]) 0 0 := by
  refine my_ofV (cc := prog_14_method_24_code) (n := 6) (ret := none) (by decide) rfl (Nat.le_of_ble_eq_true rfl) ?_
  intro p e s m args below meth c R Q A ls H locs hx hb hr hts hown hlocks hml hnm hR hQ hA hl hP hK hN hD hS
  have hg : ∀ w ∈ gw, w.before args s = true := fun w h => hts w (List.mem_cons_of_mem _ h)
  have hown : s.vm.findClass "RangeCodersModel" = some m.cls := hown
  have hl : lv_has ls 6 [(0, Value.ref o), (1, Value.int (nI mm)), (2, Value.int (nI t))] := hl
  obtain ⟨hI1, hI2, hI3, hI4⟩ := id hE
  simp only [eR, eL, eC] at hI1 hI2 hI3 hI4
  have hm1 := ns_m1 F ht
  have hbd : bd F n 100000 := fun k hk => by have := ns_ge (F := F) hk; omega
  refine lv_aload_n hx hb d_M_putSign_0 rfl (lv_at hl 0 rfl) ?_
  refine va_get (D := (dC, dI)) (ci := 9) (v := .int 0) (C := "RangeCodersModel") (T := T_M) (N := 35) hx hb hg in_M hown hK hP 0 rfl rfl 0 (by decide) (hg _ k952) (fun _ h9 => h9) rfl d_M_putSign_1 ?_
  refine lv_iconst (v := 2) hx hb d_M_putSign_4 (by decide) ?_
  refine lv_icmp_ge (tgt := 55) hx hb d_M_putSign_5 (by decide) (fun c_1 => ?_) (fun c_1 => ?_)
  · exact absurd c_1 (by decide)
  · refine lv_aload_n hx hb d_M_putSign_8 rfl (lv_at hl 0 rfl) ?_
    refine lv_aload_n hx hb d_M_putSign_9 rfl (lv_at hl 0 rfl) ?_
    refine lv_aload_n hx hb d_M_putSign_10 rfl (lv_at hl 0 rfl) ?_
    refine va_get (D := (dC, dI)) (ci := 9) (v := .ref (g 2)) (C := "RangeCodersModel") (T := T_M) (N := 35) hx hb hg in_M hown hK hP 0 rfl rfl 5 (by decide) (hg _ k957) (fun _ h9 => h9) rfl d_M_putSign_11 ?_
    refine lv_iload_n hx hb d_M_putSign_14 rfl (lv_at hl 1 rfl) ?_
    refine lv_iload_n hx hb d_M_putSign_15 rfl (lv_at hl 2 rfl) ?_
    refine my_ci (wr := [((g 0), Sum.inl (cI, 8, Sum.inl vMany)), ((g 6), Sum.inl (cI, 9000, Sum.inl vGoing))]) (va_runV (As := [Value.ref (g 2), Value.int (nI mm), Value.int (nI t)]) (rest := [Value.ref o]) ⟨hx, hb, hml, hown, hts⟩ (c_M_before l dC dI cI cM cO H.size o g 0 fShift fModels fItems fEnded (lN L) (lN Rg) (caI ca) (nI Pn) (nI bs.length) fOuts fIns fReads fBad fIR fAsk fBAsk fCode fRL fRR fX fWrites fThrown (g 2) vNow mm t F (by assumption) (by omega) (sgI_w hf (by omega))) (cwV 3 hts (my_gV k1089 k1091 ks28 k12 k1092) rfl rfl rfl cu_M_before_3 ⟨by rw [hR]; exact Nat.le_of_ble_eq_true rfl, by rw [hR]; exact Nat.le_of_ble_eq_true rfl⟩) (my_preV hK hN (hP.sub [0, 2] rfl) (hD.sub [0, 2] (by decide +kernel) rfl) 0 rfl rfl) rfl rfl hl.1 rfl (lv_room (Nat.le_of_ble_eq_true rfl)) d_M_putSign_16 ⟨by rw [hR]; exact Nat.le_of_ble_eq_true rfl, by rw [hR]; exact Nat.le_of_ble_eq_true rfl⟩) hP hD hS hA [0, 2] [1, 3] rfl rfl (by decide +kernel) (by decide +kernel) (fun r_16 u9 H locs hw_16 hP hD hS => ?_)
    have hw_16 : r_16 = nI (ns F t) := hw_16
    have hPD : my_PD (dC, dI) vwCl A [((g 0), Sum.inl (cI, 8, Sum.inl vMany)), ((g 6), Sum.inl (cI, 9000, Sum.inl vGoing)), (o, Sum.inr (9, mO g 0 fShift fModels fItems fEnded (lN L) (lN Rg) (caI ca) (nI Pn) (nI bs.length) fOuts fIns fReads fBad fIR fAsk fBAsk fCode fRL fRR fX fWrites fThrown)), ((g 2), Sum.inl (cI, 512, Sum.inl vNow))] H := ⟨hP, hD⟩
    have hP := hPD.1
    have hD := hPD.2
    refine lv_aload_n hx hb d_M_putSign_19 rfl (lv_at hl 0 rfl) ?_
    refine va_get (D := (dC, dI)) (ci := 9) (v := .ref (g 2)) (C := "RangeCodersModel") (T := T_M) (N := 35) hx hb hg in_M hown hK hP 2 rfl rfl 5 (by decide) (hg _ k957) (fun _ h9 => h9) rfl d_M_putSign_20 ?_
    refine lv_bipush (v := 64) hx hb d_M_putSign_23 (by decide) ?_
    refine lv_iload_n hx hb d_M_putSign_25 rfl (lv_at hl 1 rfl) ?_
    refine lv_imul hx hb d_M_putSign_26 ?_
    refine lv_topi (fun v_2 ev_2 => ?_)
    refine lv_iload_n hx hb d_M_putSign_27 rfl (lv_at hl 2 rfl) ?_
    refine lv_iadd hx hb d_M_putSign_28 ?_
    refine lv_topi (fun v_3 ev_3 => ?_)
    have hix : v_3 = nI (64 * mm + t) := by subst_vars; exact ix64
    refine va_iald hx hb hK hP 3 0 rfl rfl (by rw [hix]; exact vp_in_nI (by omega) (by decide)) d_M_putSign_29 ?_
    refine lv_topi (fun v_4 ev_4 => ?_)
    have z9 : v_4 = nI (F t) := by subst_vars; rw [nI_clamp (by omega)]; exact hf t ht
    subst z9
    refine lv_aload_n hx hb d_M_putSign_30 rfl (lv_at hl 0 rfl) ?_
    refine lv_aload_n hx hb d_M_putSign_31 rfl (lv_at hl 0 rfl) ?_
    refine va_get (D := (dC, dI)) (ci := 9) (v := .ref (g 2)) (C := "RangeCodersModel") (T := T_M) (N := 35) hx hb hg in_M hown hK hP 2 rfl rfl 5 (by decide) (hg _ k957) (fun _ h9 => h9) rfl d_M_putSign_32 ?_
    refine lv_iload_n hx hb d_M_putSign_35 rfl (lv_at hl 1 rfl) ?_
    refine my_ci (wr := [((g 6), Sum.inl (cI, 9000, Sum.inl vGoing))]) (va_runV (As := [Value.ref (g 2), Value.int (nI mm)]) (rest := [Value.int (nI (F t)), Value.int r_16, Value.ref o]) ⟨hx, hb, hml, hown, hts⟩ (c_M_sum l dC dI cI cM cO H.size o g 0 fShift fModels fItems fEnded (lN L) (lN Rg) (caI ca) (nI Pn) (nI bs.length) fOuts fIns fReads fBad fIR fAsk fBAsk fCode fRL fRR fX fWrites fThrown vMany (g 2) vNow mm n F (by assumption) (by assumption) (by assumption) (by assumption)) (cwV 2 hts (my_gV k936 k938 ks21 k12 k939) rfl rfl rfl cu_M_sum_2 ⟨by rw [hR]; exact Nat.le_of_ble_eq_true rfl, by rw [hR]; exact Nat.le_of_ble_eq_true rfl⟩) (my_preV hK hN (hP.sub [2, 0, 3] rfl) (hD.sub [2, 0, 3] (by decide +kernel) rfl) 0 rfl rfl) rfl rfl hl.1 rfl (lv_room (Nat.le_of_ble_eq_true rfl)) d_M_putSign_36 ⟨by rw [hR]; exact Nat.le_of_ble_eq_true rfl, by rw [hR]; exact Nat.le_of_ble_eq_true rfl⟩) hP hD hS hA [2, 0, 3] [1] rfl rfl (by decide +kernel) (by decide +kernel) (fun r_36 u9 H locs hw_36 hP hD hS => ?_)
    have hw_36 : r_36 = nI (ns F n) := hw_36
    have hPD : my_PD (dC, dI) vwCl A [((g 6), Sum.inl (cI, 9000, Sum.inl vGoing)), (o, Sum.inr (9, mO g 0 fShift fModels fItems fEnded (lN L) (lN Rg) (caI ca) (nI Pn) (nI bs.length) fOuts fIns fReads fBad fIR fAsk fBAsk fCode fRL fRR fX fWrites fThrown)), ((g 0), Sum.inl (cI, 8, Sum.inl vMany)), ((g 2), Sum.inl (cI, 512, Sum.inl vNow))] H := ⟨hP, hD⟩
    have hP := hPD.1
    have hD := hPD.2
    have z9 : r_36 = nI (ns F n) := hw_36
    subst z9
    have z9 : r_16 = nI (ns F t) := hw_16
    subst z9
    refine my_cv (wr := [((g 0), Sum.inl (cI, 8, Sum.inl vMany)), ((g 2), Sum.inl (cI, 512, Sum.inl vNow))]) (va_runV (As := [Value.int (nI (ns F t)), Value.int (nI (F t)), Value.int (nI (ns F n))]) (rest := []) ⟨hx, hb, hml, hown, hts⟩ (c_M_narrow0 l dC dI cI cM cO H.size o g fShift fModels fItems fEnded fOuts fIns fReads fBad fIR fAsk fBAsk fCode fRL fRR fX fWrites fThrown vGoing (ns F t) (F t) (ns F n) Rg L ca Pn bs (by omega) (by omega) (hm1) (hFt) (by omega) (hI2) (hI3) (hI4) (by assumption) (by omega)) (cwV 3 hts (my_gV k1093 k1095 ks29 k12 k1096) rfl rfl rfl cu_M_narrow_3 ⟨by rw [hR]; exact Nat.le_of_ble_eq_true rfl, by rw [hR]; exact Nat.le_of_ble_eq_true rfl⟩) (my_preV hK hN (hP.sub [1, 0] rfl) (hD.sub [1, 0] (by decide +kernel) rfl) 0 rfl rfl) rfl rfl hl.1 rfl (lv_room (Nat.le_of_ble_eq_true rfl)) d_M_putSign_39 ⟨by rw [hR]; exact Nat.le_of_ble_eq_true rfl, by rw [hR]; exact Nat.le_of_ble_eq_true rfl⟩) hP hD hS hA [1, 0] [2, 3] rfl rfl (by decide +kernel) (by decide +kernel) (fun u9 H locs hw_39 hP hD hS => ?_)
    obtain ⟨v2_39, rfl⟩ : ∃ z, z = u9 := ⟨_, rfl⟩
    have hw_39 : gIs v2_39 (eB (wdS (Rg / (ns F n) * (F t), L + Rg / (ns F n) * (ns F t), ca, Pn, bs))) := hw_39
    have hPD : my_PD (dC, dI) vwCl A [((g 0), Sum.inl (cI, 8, Sum.inl vMany)), ((g 2), Sum.inl (cI, 512, Sum.inl vNow)), (o, Sum.inr (9, mO g 0 fShift fModels fItems fEnded (lN (eL (wdS (Rg / (ns F n) * (F t), L + Rg / (ns F n) * (ns F t), ca, Pn, bs)))) (lN (eR (wdS (Rg / (ns F n) * (F t), L + Rg / (ns F n) * (ns F t), ca, Pn, bs)))) (caI (eC (wdS (Rg / (ns F n) * (F t), L + Rg / (ns F n) * (ns F t), ca, Pn, bs)))) (nI (eP (wdS (Rg / (ns F n) * (F t), L + Rg / (ns F n) * (ns F t), ca, Pn, bs)))) (nI (eB (wdS (Rg / (ns F n) * (F t), L + Rg / (ns F n) * (ns F t), ca, Pn, bs))).length) fOuts fIns fReads fBad fIR fAsk fBAsk fCode fRL fRR fX fWrites fThrown)), ((g 6), Sum.inl (cI, 9000, Sum.inl v2_39))] H := ⟨hP, hD⟩
    have hP := hPD.1
    have hD := hPD.2
    refine lv_aload_n hx hb d_M_putSign_42 rfl (lv_at hl 0 rfl) ?_
    refine lv_aload_n hx hb d_M_putSign_43 rfl (lv_at hl 0 rfl) ?_
    refine va_get (D := (dC, dI)) (ci := 9) (v := .ref (g 2)) (C := "RangeCodersModel") (T := T_M) (N := 35) hx hb hg in_M hown hK hP 2 rfl rfl 5 (by decide) (hg _ k957) (fun _ h9 => h9) rfl d_M_putSign_44 ?_
    refine lv_iload_n hx hb d_M_putSign_47 rfl (lv_at hl 1 rfl) ?_
    refine lv_iload_n hx hb d_M_putSign_48 rfl (lv_at hl 2 rfl) ?_
    refine my_cv (wr := [((g 6), Sum.inl (cI, 9000, Sum.inl v2_39))]) (va_runV (As := [Value.ref (g 2), Value.int (nI mm), Value.int (nI t)]) (rest := []) ⟨hx, hb, hml, hown, hts⟩ (c_M_learn l dC dI cI cM cO H.size o g 0 fShift fModels fItems fEnded (lN (eL (wdS (Rg / (ns F n) * (F t), L + Rg / (ns F n) * (ns F t), ca, Pn, bs)))) (lN (eR (wdS (Rg / (ns F n) * (F t), L + Rg / (ns F n) * (ns F t), ca, Pn, bs)))) (caI (eC (wdS (Rg / (ns F n) * (F t), L + Rg / (ns F n) * (ns F t), ca, Pn, bs)))) (nI (eP (wdS (Rg / (ns F n) * (F t), L + Rg / (ns F n) * (ns F t), ca, Pn, bs)))) (nI (eB (wdS (Rg / (ns F n) * (F t), L + Rg / (ns F n) * (ns F t), ca, Pn, bs))).length) fOuts fIns fReads fBad fIR fAsk fBAsk fCode fRL fRR fX fWrites fThrown vMany (g 2) vNow mm n t F (by assumption) (by assumption) (by assumption) (by assumption) (by assumption) (hbd)) (cwV 3 hts (my_gV k1119 k1121 ks34 k12 k1122) rfl rfl rfl cu_M_learn_3 ⟨by rw [hR]; exact Nat.le_of_ble_eq_true rfl, by rw [hR]; exact Nat.le_of_ble_eq_true rfl⟩) (my_preV hK hN (hP.sub [2, 0, 1] rfl) (hD.sub [2, 0, 1] (by decide +kernel) rfl) 0 rfl rfl) rfl rfl hl.1 rfl (lv_room (Nat.le_of_ble_eq_true rfl)) d_M_putSign_49 ⟨by rw [hR]; exact Nat.le_of_ble_eq_true rfl, by rw [hR]; exact Nat.le_of_ble_eq_true rfl⟩) hP hD hS hA [2, 0, 1] [3] rfl rfl (by decide +kernel) (by decide +kernel) (fun u9 H locs hw_49 hP hD hS => ?_)
    obtain ⟨f2_49, rfl⟩ : ∃ z, z = u9 := ⟨_, rfl⟩
    have hw_49 : sgI f2_49 (64 * mm) n (lrn n t F) ∧ sgO f2_49 vNow (64 * mm) n := hw_49
    have hPD : my_PD (dC, dI) vwCl A [((g 6), Sum.inl (cI, 9000, Sum.inl v2_39)), (o, Sum.inr (9, mO g 0 fShift fModels fItems fEnded (lN (eL (wdS (Rg / (ns F n) * (F t), L + Rg / (ns F n) * (ns F t), ca, Pn, bs)))) (lN (eR (wdS (Rg / (ns F n) * (F t), L + Rg / (ns F n) * (ns F t), ca, Pn, bs)))) (caI (eC (wdS (Rg / (ns F n) * (F t), L + Rg / (ns F n) * (ns F t), ca, Pn, bs)))) (nI (eP (wdS (Rg / (ns F n) * (F t), L + Rg / (ns F n) * (ns F t), ca, Pn, bs)))) (nI (eB (wdS (Rg / (ns F n) * (F t), L + Rg / (ns F n) * (ns F t), ca, Pn, bs))).length) fOuts fIns fReads fBad fIR fAsk fBAsk fCode fRL fRR fX fWrites fThrown)), ((g 0), Sum.inl (cI, 8, Sum.inl vMany)), ((g 2), Sum.inl (cI, 512, Sum.inl f2_49))] H := ⟨hP, hD⟩
    have hP := hPD.1
    have hD := hPD.2
    refine lv_goto (tgt := 112) hx hb d_M_putSign_52 (by decide) ?_
    exact my_vret hx hb hr hlocks hQ hK hS (Nat.le_refl _) (Nat.le_refl _) (f2_49, v2_39) (⟨hw_49.1, hw_49.2, hw_39⟩) (hP.sub [1, 2, 3, 0] rfl) (hD.sub [1, 2, 3, 0] (by decide +kernel) rfl) d_M_putSign_112
set_option maxHeartbeats 1000000 in
set_option maxRecDepth 100000 in
/-- putSign, form 1 -/
theorem c_M_putSign1 (l : Launch) (dC : Nat → ClassId) (dI : Nat → Nat → Nat) (cI cM cO : ClassId) (sz : Nat) (o : Nat) (g : Nat → Nat) (fShift : Int32) (fModels : Int32) (fItems : Int32) (fEnded : Int32) (fCache : Int32) (fPend : Int32) (fOuts : Int32) (fIns : Int32) (fReads : Int32) (fBad : Int32) (fIR : Int32) (fAsk : Int32) (fBAsk : Int32) (fCode : Int64) (fRL : Int64) (fRR : Int64) (fX : Int64) (fWrites : Int32) (fThrown : Int32) (vMany : Nat → Int32) (vNow : Nat → Int32) (vGoing : Nat → Int32) (mm : Nat) (n : Nat) (t : Nat) (F : Nat → Nat) (Rg : Nat) (L : Nat) (bs : List Nat) (hmm : mm < 8) (hn : vMany mm = nI n) (hn2 : n ≤ 64) (ht : t < n) (hf : sgI vNow (64 * mm) n F) (hFt : 0 < F t) (hsum : ns F n ≤ 8192) (hp : pOk Rg L) (hR6 : 65536 ≤ Rg) (hG : gIs vGoing bs) (hN9 : bs.length + 5 ≤ 9000) : MetV l y_M_putSign (Cond.code y_M_putSign prog_14_method_24_code 6 none :: gw) ({ frames := 3, cells := 0, slots := 0, locals := 68 } : Room) (dC, dI) vwCl (kT cI cM cO) [Value.ref o, Value.int (nI mm), Value.int (nI t)] [(o, Sum.inr (9, mO g 1 fShift fModels fItems fEnded (lN L) (lN Rg) fCache fPend (nI bs.length) fOuts fIns fReads fBad fIR fAsk fBAsk fCode fRL fRR fX fWrites fThrown)), ((g 0), Sum.inl (cI, 8, Sum.inl vMany)), ((g 2), Sum.inl (cI, 512, Sum.inl vNow)), ((g 6), Sum.inl (cI, 9000, Sum.inl vGoing))] sz (fun (u : (Nat → Int32) × (Nat → Int32)) => sgI u.1 (64 * mm) n (lrn n t F) ∧ sgO u.1 vNow (64 * mm) n ∧ gIs u.2 (plS (Rg / ns F n * F t, L + Rg / ns F n * ns F t, bs)).2.2) (fun (u : (Nat → Int32) × (Nat → Int32)) => [(o, Sum.inr (9, mO g 1 fShift fModels fItems fEnded (lN (plS (Rg / ns F n * F t, L + Rg / ns F n * ns F t, bs)).2.1) (lN (plS (Rg / ns F n * F t, L + Rg / ns F n * ns F t, bs)).1) fCache fPend (nI (plS (Rg / ns F n * F t, L + Rg / ns F n * ns F t, bs)).2.2.length) fOuts fIns fReads fBad fIR fAsk fBAsk fCode fRL fRR fX fWrites fThrown)), ((g 0), Sum.inl (cI, 8, Sum.inl vMany)), ((g 2), Sum.inl (cI, 512, Sum.inl u.1)), ((g 6), Sum.inl (cI, 9000, Sum.inl u.2))]) 0 0 := by
  refine my_ofV (cc := prog_14_method_24_code) (n := 6) (ret := none) (by decide) rfl (Nat.le_of_ble_eq_true rfl) ?_
  intro p e s m args below meth c R Q A ls H locs hx hb hr hts hown hlocks hml hnm hR hQ hA hl hP hK hN hD hS
  have hg : ∀ w ∈ gw, w.before args s = true := fun w h => hts w (List.mem_cons_of_mem _ h)
  have hown : s.vm.findClass "RangeCodersModel" = some m.cls := hown
  have hl : lv_has ls 6 [(0, Value.ref o), (1, Value.int (nI mm)), (2, Value.int (nI t))] := hl
  have hm1 := ns_m1 F ht
  have hbd : bd F n 100000 := fun k hk => by have := ns_ge (F := F) hk; omega
  refine lv_aload_n hx hb d_M_putSign_0 rfl (lv_at hl 0 rfl) ?_
  refine va_get (D := (dC, dI)) (ci := 9) (v := .int 1) (C := "RangeCodersModel") (T := T_M) (N := 35) hx hb hg in_M hown hK hP 0 rfl rfl 0 (by decide) (hg _ k952) (fun _ h9 => h9) rfl d_M_putSign_1 ?_
  refine lv_iconst (v := 2) hx hb d_M_putSign_4 (by decide) ?_
  refine lv_icmp_ge (tgt := 55) hx hb d_M_putSign_5 (by decide) (fun c_1 => ?_) (fun c_1 => ?_)
  · exact absurd c_1 (by decide)
  · refine lv_aload_n hx hb d_M_putSign_8 rfl (lv_at hl 0 rfl) ?_
    refine lv_aload_n hx hb d_M_putSign_9 rfl (lv_at hl 0 rfl) ?_
    refine lv_aload_n hx hb d_M_putSign_10 rfl (lv_at hl 0 rfl) ?_
    refine va_get (D := (dC, dI)) (ci := 9) (v := .ref (g 2)) (C := "RangeCodersModel") (T := T_M) (N := 35) hx hb hg in_M hown hK hP 0 rfl rfl 5 (by decide) (hg _ k957) (fun _ h9 => h9) rfl d_M_putSign_11 ?_
    refine lv_iload_n hx hb d_M_putSign_14 rfl (lv_at hl 1 rfl) ?_
    refine lv_iload_n hx hb d_M_putSign_15 rfl (lv_at hl 2 rfl) ?_
    refine my_ci (wr := [((g 0), Sum.inl (cI, 8, Sum.inl vMany)), ((g 6), Sum.inl (cI, 9000, Sum.inl vGoing))]) (va_runV (As := [Value.ref (g 2), Value.int (nI mm), Value.int (nI t)]) (rest := [Value.ref o]) ⟨hx, hb, hml, hown, hts⟩ (c_M_before l dC dI cI cM cO H.size o g 1 fShift fModels fItems fEnded (lN L) (lN Rg) fCache fPend (nI bs.length) fOuts fIns fReads fBad fIR fAsk fBAsk fCode fRL fRR fX fWrites fThrown (g 2) vNow mm t F (by assumption) (by omega) (sgI_w hf (by omega))) (cwV 3 hts (my_gV k1089 k1091 ks28 k12 k1092) rfl rfl rfl cu_M_before_3 ⟨by rw [hR]; exact Nat.le_of_ble_eq_true rfl, by rw [hR]; exact Nat.le_of_ble_eq_true rfl⟩) (my_preV hK hN (hP.sub [0, 2] rfl) (hD.sub [0, 2] (by decide +kernel) rfl) 0 rfl rfl) rfl rfl hl.1 rfl (lv_room (Nat.le_of_ble_eq_true rfl)) d_M_putSign_16 ⟨by rw [hR]; exact Nat.le_of_ble_eq_true rfl, by rw [hR]; exact Nat.le_of_ble_eq_true rfl⟩) hP hD hS hA [0, 2] [1, 3] rfl rfl (by decide +kernel) (by decide +kernel) (fun r_16 u9 H locs hw_16 hP hD hS => ?_)
    have hw_16 : r_16 = nI (ns F t) := hw_16
    have hPD : my_PD (dC, dI) vwCl A [((g 0), Sum.inl (cI, 8, Sum.inl vMany)), ((g 6), Sum.inl (cI, 9000, Sum.inl vGoing)), (o, Sum.inr (9, mO g 1 fShift fModels fItems fEnded (lN L) (lN Rg) fCache fPend (nI bs.length) fOuts fIns fReads fBad fIR fAsk fBAsk fCode fRL fRR fX fWrites fThrown)), ((g 2), Sum.inl (cI, 512, Sum.inl vNow))] H := ⟨hP, hD⟩
    have hP := hPD.1
    have hD := hPD.2
    refine lv_aload_n hx hb d_M_putSign_19 rfl (lv_at hl 0 rfl) ?_
    refine va_get (D := (dC, dI)) (ci := 9) (v := .ref (g 2)) (C := "RangeCodersModel") (T := T_M) (N := 35) hx hb hg in_M hown hK hP 2 rfl rfl 5 (by decide) (hg _ k957) (fun _ h9 => h9) rfl d_M_putSign_20 ?_
    refine lv_bipush (v := 64) hx hb d_M_putSign_23 (by decide) ?_
    refine lv_iload_n hx hb d_M_putSign_25 rfl (lv_at hl 1 rfl) ?_
    refine lv_imul hx hb d_M_putSign_26 ?_
    refine lv_topi (fun v_2 ev_2 => ?_)
    refine lv_iload_n hx hb d_M_putSign_27 rfl (lv_at hl 2 rfl) ?_
    refine lv_iadd hx hb d_M_putSign_28 ?_
    refine lv_topi (fun v_3 ev_3 => ?_)
    have hix : v_3 = nI (64 * mm + t) := by subst_vars; exact ix64
    refine va_iald hx hb hK hP 3 0 rfl rfl (by rw [hix]; exact vp_in_nI (by omega) (by decide)) d_M_putSign_29 ?_
    refine lv_topi (fun v_4 ev_4 => ?_)
    have z9 : v_4 = nI (F t) := by subst_vars; rw [nI_clamp (by omega)]; exact hf t ht
    subst z9
    refine lv_aload_n hx hb d_M_putSign_30 rfl (lv_at hl 0 rfl) ?_
    refine lv_aload_n hx hb d_M_putSign_31 rfl (lv_at hl 0 rfl) ?_
    refine va_get (D := (dC, dI)) (ci := 9) (v := .ref (g 2)) (C := "RangeCodersModel") (T := T_M) (N := 35) hx hb hg in_M hown hK hP 2 rfl rfl 5 (by decide) (hg _ k957) (fun _ h9 => h9) rfl d_M_putSign_32 ?_
    refine lv_iload_n hx hb d_M_putSign_35 rfl (lv_at hl 1 rfl) ?_
    refine my_ci (wr := [((g 6), Sum.inl (cI, 9000, Sum.inl vGoing))]) (va_runV (As := [Value.ref (g 2), Value.int (nI mm)]) (rest := [Value.int (nI (F t)), Value.int r_16, Value.ref o]) ⟨hx, hb, hml, hown, hts⟩ (c_M_sum l dC dI cI cM cO H.size o g 1 fShift fModels fItems fEnded (lN L) (lN Rg) fCache fPend (nI bs.length) fOuts fIns fReads fBad fIR fAsk fBAsk fCode fRL fRR fX fWrites fThrown vMany (g 2) vNow mm n F (by assumption) (by assumption) (by assumption) (by assumption)) (cwV 2 hts (my_gV k936 k938 ks21 k12 k939) rfl rfl rfl cu_M_sum_2 ⟨by rw [hR]; exact Nat.le_of_ble_eq_true rfl, by rw [hR]; exact Nat.le_of_ble_eq_true rfl⟩) (my_preV hK hN (hP.sub [2, 0, 3] rfl) (hD.sub [2, 0, 3] (by decide +kernel) rfl) 0 rfl rfl) rfl rfl hl.1 rfl (lv_room (Nat.le_of_ble_eq_true rfl)) d_M_putSign_36 ⟨by rw [hR]; exact Nat.le_of_ble_eq_true rfl, by rw [hR]; exact Nat.le_of_ble_eq_true rfl⟩) hP hD hS hA [2, 0, 3] [1] rfl rfl (by decide +kernel) (by decide +kernel) (fun r_36 u9 H locs hw_36 hP hD hS => ?_)
    have hw_36 : r_36 = nI (ns F n) := hw_36
    have hPD : my_PD (dC, dI) vwCl A [((g 6), Sum.inl (cI, 9000, Sum.inl vGoing)), (o, Sum.inr (9, mO g 1 fShift fModels fItems fEnded (lN L) (lN Rg) fCache fPend (nI bs.length) fOuts fIns fReads fBad fIR fAsk fBAsk fCode fRL fRR fX fWrites fThrown)), ((g 0), Sum.inl (cI, 8, Sum.inl vMany)), ((g 2), Sum.inl (cI, 512, Sum.inl vNow))] H := ⟨hP, hD⟩
    have hP := hPD.1
    have hD := hPD.2
    have z9 : r_36 = nI (ns F n) := hw_36
    subst z9
    have z9 : r_16 = nI (ns F t) := hw_16
    subst z9
    refine my_cv (wr := [((g 0), Sum.inl (cI, 8, Sum.inl vMany)), ((g 2), Sum.inl (cI, 512, Sum.inl vNow))]) (va_runV (As := [Value.int (nI (ns F t)), Value.int (nI (F t)), Value.int (nI (ns F n))]) (rest := []) ⟨hx, hb, hml, hown, hts⟩ (c_M_narrow1 l dC dI cI cM cO H.size o g fShift fModels fItems fEnded fCache fPend fOuts fIns fReads fBad fIR fAsk fBAsk fCode fRL fRR fX fWrites fThrown vGoing (ns F t) (F t) (ns F n) Rg L bs (by omega) (by omega) (hm1) (hFt) (by omega) (hp) (by assumption) (by omega)) (cwV 3 hts (my_gV k1093 k1095 ks29 k12 k1096) rfl rfl rfl cu_M_narrow_3 ⟨by rw [hR]; exact Nat.le_of_ble_eq_true rfl, by rw [hR]; exact Nat.le_of_ble_eq_true rfl⟩) (my_preV hK hN (hP.sub [1, 0] rfl) (hD.sub [1, 0] (by decide +kernel) rfl) 0 rfl rfl) rfl rfl hl.1 rfl (lv_room (Nat.le_of_ble_eq_true rfl)) d_M_putSign_39 ⟨by rw [hR]; exact Nat.le_of_ble_eq_true rfl, by rw [hR]; exact Nat.le_of_ble_eq_true rfl⟩) hP hD hS hA [1, 0] [2, 3] rfl rfl (by decide +kernel) (by decide +kernel) (fun u9 H locs hw_39 hP hD hS => ?_)
    obtain ⟨v2_39, rfl⟩ : ∃ z, z = u9 := ⟨_, rfl⟩
    have hw_39 : gIs v2_39 (plS (Rg / (ns F n) * (F t), L + Rg / (ns F n) * (ns F t), bs)).2.2 := hw_39
    have hPD : my_PD (dC, dI) vwCl A [((g 0), Sum.inl (cI, 8, Sum.inl vMany)), ((g 2), Sum.inl (cI, 512, Sum.inl vNow)), (o, Sum.inr (9, mO g 1 fShift fModels fItems fEnded (lN (plS (Rg / (ns F n) * (F t), L + Rg / (ns F n) * (ns F t), bs)).2.1) (lN (plS (Rg / (ns F n) * (F t), L + Rg / (ns F n) * (ns F t), bs)).1) fCache fPend (nI (plS (Rg / (ns F n) * (F t), L + Rg / (ns F n) * (ns F t), bs)).2.2.length) fOuts fIns fReads fBad fIR fAsk fBAsk fCode fRL fRR fX fWrites fThrown)), ((g 6), Sum.inl (cI, 9000, Sum.inl v2_39))] H := ⟨hP, hD⟩
    have hP := hPD.1
    have hD := hPD.2
    refine lv_aload_n hx hb d_M_putSign_42 rfl (lv_at hl 0 rfl) ?_
    refine lv_aload_n hx hb d_M_putSign_43 rfl (lv_at hl 0 rfl) ?_
    refine va_get (D := (dC, dI)) (ci := 9) (v := .ref (g 2)) (C := "RangeCodersModel") (T := T_M) (N := 35) hx hb hg in_M hown hK hP 2 rfl rfl 5 (by decide) (hg _ k957) (fun _ h9 => h9) rfl d_M_putSign_44 ?_
    refine lv_iload_n hx hb d_M_putSign_47 rfl (lv_at hl 1 rfl) ?_
    refine lv_iload_n hx hb d_M_putSign_48 rfl (lv_at hl 2 rfl) ?_
    refine my_cv (wr := [((g 6), Sum.inl (cI, 9000, Sum.inl v2_39))]) (va_runV (As := [Value.ref (g 2), Value.int (nI mm), Value.int (nI t)]) (rest := []) ⟨hx, hb, hml, hown, hts⟩ (c_M_learn l dC dI cI cM cO H.size o g 1 fShift fModels fItems fEnded (lN (plS (Rg / (ns F n) * (F t), L + Rg / (ns F n) * (ns F t), bs)).2.1) (lN (plS (Rg / (ns F n) * (F t), L + Rg / (ns F n) * (ns F t), bs)).1) fCache fPend (nI (plS (Rg / (ns F n) * (F t), L + Rg / (ns F n) * (ns F t), bs)).2.2.length) fOuts fIns fReads fBad fIR fAsk fBAsk fCode fRL fRR fX fWrites fThrown vMany (g 2) vNow mm n t F (by assumption) (by assumption) (by assumption) (by assumption) (by assumption) (hbd)) (cwV 3 hts (my_gV k1119 k1121 ks34 k12 k1122) rfl rfl rfl cu_M_learn_3 ⟨by rw [hR]; exact Nat.le_of_ble_eq_true rfl, by rw [hR]; exact Nat.le_of_ble_eq_true rfl⟩) (my_preV hK hN (hP.sub [2, 0, 1] rfl) (hD.sub [2, 0, 1] (by decide +kernel) rfl) 0 rfl rfl) rfl rfl hl.1 rfl (lv_room (Nat.le_of_ble_eq_true rfl)) d_M_putSign_49 ⟨by rw [hR]; exact Nat.le_of_ble_eq_true rfl, by rw [hR]; exact Nat.le_of_ble_eq_true rfl⟩) hP hD hS hA [2, 0, 1] [3] rfl rfl (by decide +kernel) (by decide +kernel) (fun u9 H locs hw_49 hP hD hS => ?_)
    obtain ⟨f2_49, rfl⟩ : ∃ z, z = u9 := ⟨_, rfl⟩
    have hw_49 : sgI f2_49 (64 * mm) n (lrn n t F) ∧ sgO f2_49 vNow (64 * mm) n := hw_49
    have hPD : my_PD (dC, dI) vwCl A [((g 6), Sum.inl (cI, 9000, Sum.inl v2_39)), (o, Sum.inr (9, mO g 1 fShift fModels fItems fEnded (lN (plS (Rg / (ns F n) * (F t), L + Rg / (ns F n) * (ns F t), bs)).2.1) (lN (plS (Rg / (ns F n) * (F t), L + Rg / (ns F n) * (ns F t), bs)).1) fCache fPend (nI (plS (Rg / (ns F n) * (F t), L + Rg / (ns F n) * (ns F t), bs)).2.2.length) fOuts fIns fReads fBad fIR fAsk fBAsk fCode fRL fRR fX fWrites fThrown)), ((g 0), Sum.inl (cI, 8, Sum.inl vMany)), ((g 2), Sum.inl (cI, 512, Sum.inl f2_49))] H := ⟨hP, hD⟩
    have hP := hPD.1
    have hD := hPD.2
    refine lv_goto (tgt := 112) hx hb d_M_putSign_52 (by decide) ?_
    exact my_vret hx hb hr hlocks hQ hK hS (Nat.le_refl _) (Nat.le_refl _) (f2_49, v2_39) (⟨hw_49.1, hw_49.2, hw_39⟩) (hP.sub [1, 2, 3, 0] rfl) (hD.sub [1, 2, 3, 0] (by decide +kernel) rfl) d_M_putSign_112
set_option maxHeartbeats 1000000 in
set_option maxRecDepth 100000 in
/-- putSign, form 2 -/
theorem c_M_putSign2 (l : Launch) (dC : Nat → ClassId) (dI : Nat → Nat → Nat) (cI cM cO : ClassId) (sz : Nat) (o : Nat) (g : Nat → Nat) (fModels : Int32) (fItems : Int32) (fEnded : Int32) (fOuts : Int32) (fIns : Int32) (fReads : Int32) (fBad : Int32) (fIR : Int32) (fAsk : Int32) (fBAsk : Int32) (fCode : Int64) (fRL : Int64) (fRR : Int64) (fX : Int64) (fWrites : Int32) (fThrown : Int32) (vMany : Nat → Int32) (vNow : Nat → Int32) (vGoing : Nat → Int32) (mm : Nat) (n : Nat) (t : Nat) (C : Nat → Nat) (sh : Nat) (Rg : Nat) (L : Nat) (ca : Option Nat) (Pn : Nat) (bs : List Nat) (hmm : mm < 8) (hn : vMany mm = nI n) (hn2 : n ≤ 64) (hn1 : 2 ≤ n) (ht : t < n) (hf : sgI vNow (64 * mm) 64 C) (hC : ∀ k, k < 64 → 1 ≤ C k ∧ C k ≤ 2047) (hs1 : 1 ≤ sh) (hs2 : sh ≤ 10) (hE : eInv (Rg, L, ca, Pn, bs)) (hG : gIs vGoing bs) (hN9 : bs.length + Pn + 20 ≤ 9000) : MetV l y_M_putSign (Cond.code y_M_putSign prog_14_method_24_code 6 none :: gw) ({ frames := 4, cells := 0, slots := 0, locals := 86 } : Room) (dC, dI) vwCl (kT cI cM cO) [Value.ref o, Value.int (nI mm), Value.int (nI t)] [(o, Sum.inr (9, mO g 2 (nI sh) fModels fItems fEnded (lN L) (lN Rg) (caI ca) (nI Pn) (nI bs.length) fOuts fIns fReads fBad fIR fAsk fBAsk fCode fRL fRR fX fWrites fThrown)), ((g 0), Sum.inl (cI, 8, Sum.inl vMany)), ((g 2), Sum.inl (cI, 512, Sum.inl vNow)), ((g 6), Sum.inl (cI, 9000, Sum.inl vGoing))] sz (fun (u : (Nat → Int32) × (Nat → Int32)) => sgI u.1 (64 * mm) 64 (spN sh t (lev n) 1 (Rg, L, ca, Pn, bs) C).2 ∧ sgO u.1 vNow (64 * mm) 64 ∧ gIs u.2 (eB (spN sh t (lev n) 1 (Rg, L, ca, Pn, bs) C).1)) (fun (u : (Nat → Int32) × (Nat → Int32)) => [(o, Sum.inr (9, mO g 2 (nI sh) fModels fItems fEnded (lN (eL ((spN sh t (lev n) 1 (Rg, L, ca, Pn, bs) C).1))) (lN (eR ((spN sh t (lev n) 1 (Rg, L, ca, Pn, bs) C).1))) (caI (eC ((spN sh t (lev n) 1 (Rg, L, ca, Pn, bs) C).1))) (nI (eP ((spN sh t (lev n) 1 (Rg, L, ca, Pn, bs) C).1))) (nI (eB ((spN sh t (lev n) 1 (Rg, L, ca, Pn, bs) C).1)).length) fOuts fIns fReads fBad fIR fAsk fBAsk fCode fRL fRR fX fWrites fThrown)), ((g 0), Sum.inl (cI, 8, Sum.inl vMany)), ((g 2), Sum.inl (cI, 512, Sum.inl u.1)), ((g 6), Sum.inl (cI, 9000, Sum.inl u.2))]) 0 0 := by
  refine my_ofV (cc := prog_14_method_24_code) (n := 6) (ret := none) (by decide) rfl (Nat.le_of_ble_eq_true rfl) ?_
  intro p e s m args below meth c R Q A ls H locs hx hb hr hts hown hlocks hml hnm hR hQ hA hl hP hK hN hD hS
  have hg : ∀ w ∈ gw, w.before args s = true := fun w h => hts w (List.mem_cons_of_mem _ h)
  have hown : s.vm.findClass "RangeCodersModel" = some m.cls := hown
  have hl : lv_has ls 6 [(0, Value.ref o), (1, Value.int (nI mm)), (2, Value.int (nI t))] := hl
  have hlv : lev n ≤ 6 := by unfold lev; repeat (first | omega | split)
  refine lv_aload_n hx hb d_M_putSign_0 rfl (lv_at hl 0 rfl) ?_
  refine va_get (D := (dC, dI)) (ci := 9) (v := .int 2) (C := "RangeCodersModel") (T := T_M) (N := 35) hx hb hg in_M hown hK hP 0 rfl rfl 0 (by decide) (hg _ k952) (fun _ h9 => h9) rfl d_M_putSign_1 ?_
  refine lv_iconst (v := 2) hx hb d_M_putSign_4 (by decide) ?_
  refine lv_icmp_ge (tgt := 55) hx hb d_M_putSign_5 (by decide) (fun c_1 => ?_) (fun c_1 => ?_)
  · refine lv_aload_n hx hb d_M_putSign_55 rfl (lv_at hl 0 rfl) ?_
    refine va_get (D := (dC, dI)) (ci := 9) (v := .int 2) (C := "RangeCodersModel") (T := T_M) (N := 35) hx hb hg in_M hown hK hP 0 rfl rfl 0 (by decide) (hg _ k952) (fun _ h9 => h9) rfl d_M_putSign_56 ?_
    refine lv_iconst (v := 2) hx hb d_M_putSign_59 (by decide) ?_
    refine lv_icmp_ne (tgt := 112) hx hb d_M_putSign_60 (by decide) (fun c_2 => ?_) (fun c_2 => ?_)
    · exact absurd rfl c_2
    · refine lv_iconst (v := 1) hx hb d_M_putSign_63 (by decide) ?_
      refine lv_istore_n (lv' := [(3, Value.int 1), (0, Value.ref o), (1, Value.int (nI mm)), (2, Value.int (nI t))]) hx hb d_M_putSign_64 rfl hl (by decide) rfl (fun ls hl => ?_)
      refine lv_aload_n hx hb d_M_putSign_65 rfl (lv_at hl 1 rfl) ?_
      refine lv_iload_n hx hb d_M_putSign_66 rfl (lv_at hl 2 rfl) ?_
      refine my_ci (wr := [((g 2), Sum.inl (cI, 512, Sum.inl vNow)), ((g 6), Sum.inl (cI, 9000, Sum.inl vGoing))]) (va_runV (As := [Value.int (nI mm)]) (rest := []) ⟨hx, hb, hml, hown, hts⟩ (c_M_levels l dC dI cI cM cO H.size o g 2 (nI sh) fModels fItems fEnded (lN L) (lN Rg) (caI ca) (nI Pn) (nI bs.length) fOuts fIns fReads fBad fIR fAsk fBAsk fCode fRL fRR fX fWrites fThrown vMany mm n (by assumption) (by assumption) (by assumption)) (cwV 1 hts (my_gV k1123 k1125 ks35 k12 k1126) rfl rfl rfl cu_M_levels_1 ⟨by rw [hR]; exact Nat.le_of_ble_eq_true rfl, by rw [hR]; exact Nat.le_of_ble_eq_true rfl⟩) (my_preV hK hN (hP.sub [0, 1] rfl) (hD.sub [0, 1] (by decide +kernel) rfl) 0 rfl rfl) rfl rfl hl.1 rfl (lv_room (Nat.le_of_ble_eq_true rfl)) d_M_putSign_67 ⟨by rw [hR]; exact Nat.le_of_ble_eq_true rfl, by rw [hR]; exact Nat.le_of_ble_eq_true rfl⟩) hP hD hS hA [0, 1] [2, 3] rfl rfl (by decide +kernel) (by decide +kernel) (fun r_67 u9 H locs hw_67 hP hD hS => ?_)
      have hw_67 : r_67 = nI (lev n) := hw_67
      have hPD : my_PD (dC, dI) vwCl A [((g 2), Sum.inl (cI, 512, Sum.inl vNow)), ((g 6), Sum.inl (cI, 9000, Sum.inl vGoing)), (o, Sum.inr (9, mO g 2 (nI sh) fModels fItems fEnded (lN L) (lN Rg) (caI ca) (nI Pn) (nI bs.length) fOuts fIns fReads fBad fIR fAsk fBAsk fCode fRL fRR fX fWrites fThrown)), ((g 0), Sum.inl (cI, 8, Sum.inl vMany))] H := ⟨hP, hD⟩
      have hP := hPD.1
      have hD := hPD.2
      refine lv_iconst (v := 1) hx hb d_M_putSign_70 (by decide) ?_
      refine lv_isub hx hb d_M_putSign_71 ?_
      refine lv_topi (fun v_3 ev_3 => ?_)
      have hlv2 := hw_67
      refine lv_istore (lv' := [(4, Value.int v_3), (3, Value.int 1), (0, Value.ref o), (1, Value.int (nI mm)), (2, Value.int (nI t))]) hx hb d_M_putSign_72 hl (by decide) rfl (fun ls hl => ?_)
      have J_74 : ∀ (n9_74 : Nat) (i9 : Int32) (n9v : Int32) (j : Nat) (nd : Nat) (e9 : ES) (D : Nat → Nat) (fK : Nat → Int32) (vK : Nat → Int32) (hn9_74 : j = n9_74) (hi : i9 + 1 = nI j) (hnv : n9v = nI nd) (hj : j ≤ lev n) (hE9 : spN sh t (lev n) 1 (Rg, L, ca, Pn, bs) C = spN sh t j nd e9 D) (hI9 : eInv e9) (hg9 : gIs vK (eB e9)) (hM9 : eN e9 + 2 * j ≤ 8981 + 2 * lev n) (hnd : 0 < nd ∧ nd < 2 ^ (lev n - j + 1)) (hfK : sgI fK (64 * mm) 64 D) (hoK : sgO fK vNow (64 * mm) 64) (hD9 : ∀ k, k < 64 → 1 ≤ D k ∧ D k ≤ 2047) (H : Heap) (locs : List Loc) (ls : Array Slot), va_P (dC, dI) vwCl [((g 2), Sum.inl (cI, 512, Sum.inl fK)), ((g 6), Sum.inl (cI, 9000, Sum.inl vK)), (o, Sum.inr (9, mO g 2 (nI sh) fModels fItems fEnded (lN (eL e9)) (lN (eR e9)) (caI (eC e9)) (nI (eP e9)) (nI (eB e9).length) fOuts fIns fReads fBad fIR fAsk fBAsk fCode fRL fRR fX fWrites fThrown)), ((g 0), Sum.inl (cI, 8, Sum.inl vMany))] H → va_D A [((g 2), Sum.inl (cI, 512, Sum.inl fK)), ((g 6), Sum.inl (cI, 9000, Sum.inl vK)), (o, Sum.inr (9, mO g 2 (nI sh) fModels fItems fEnded (lN (eL e9)) (lN (eR e9)) (caI (eC e9)) (nI (eP e9)) (nI (eB e9).length) fOuts fIns fReads fBad fIR fAsk fBAsk fCode fRL fRR fX fWrites fThrown)), ((g 0), Sum.inl (cI, 8, Sum.inl vMany))] → va_S A s.heap H locs → lv_has ls 6 [(4, Value.int i9), (3, Value.int n9v), (0, Value.ref o), (1, Value.int (nI mm)), (2, Value.int (nI t))] → W p l e R s m args below meth c H locs 0 0 Q (F0 m 74 ls []) := by
        intro n9_74
        induction n9_74 using Nat.strongRecOn with
        | ind n9_74 ih9_74 =>
          intro i9 n9v j nd e9 D fK vK hn9_74 hi hnv hj hE9 hI9 hg9 hM9 hnd hfK hoK hD9 H locs ls hP hD hS hl
          refine lv_iload hx hb d_M_putSign_74 (lv_at hl 0 rfl) ?_
          refine lv_if_lt (tgt := 112) hx hb d_M_putSign_76 (by decide) (fun c_4 => ?_) (fun c_4 => ?_)
          · have hj0 : j = 0 := by
              rcases Nat.eq_zero_or_pos j with z | z
              · exact z
              · exact absurd (show i9 < 0 from c_4) (by rw [show i9 = nI (j - 1) from by rw [← Int32.add_sub_cancel (a := i9) (b := 1), hi]; exact pk_sub (b := 1) z]; exact nI_pos (by omega))
            have hx9 : spN sh t (lev n) 1 (Rg, L, ca, Pn, bs) C = (e9, D) := by rw [hE9, hj0]; rfl
            have z9 : e9 = (spN sh t (lev n) 1 (Rg, L, ca, Pn, bs) C).1 := by rw [hx9]
            subst z9
            exact my_vret hx hb hr hlocks hQ hK hS (Nat.le_refl _) (Nat.le_refl _) (fK, vK) (⟨by rw [hx9]; exact hfK, hoK, hg9⟩) (hP.sub [2, 3, 0, 1] rfl) (hD.sub [2, 3, 0, 1] (by decide +kernel) rfl) d_M_putSign_112
          · have hj0 : 1 ≤ j := by
              rcases Nat.eq_zero_or_pos j with z | z
              · subst z; exact absurd (show i9 < 0 by rw [show i9 = -1 from by rw [← Int32.add_sub_cancel (a := i9) (b := 1), hi]; rfl]; decide) c_4
              · exact z
            have hi9 : i9 = nI (j - 1) := by rw [← Int32.add_sub_cancel (a := i9) (b := 1), hi]; exact pk_sub (b := 1) hj0
            obtain ⟨hI1, hI2, hI3, hI4⟩ := id hI9
            have hvl : t / 2 ^ (j - 1) ≤ t := Nat.div_le_self _ _
            have hnd64 : nd < 64 := Nat.lt_of_lt_of_le hnd.2 (Nat.pow_le_pow_right (n := 2) (by decide) (show lev n - j + 1 ≤ 6 by omega))
            have hb2 := Nat.mod_lt (t / 2 ^ (j - 1)) (show 0 < 2 by decide)
            refine lv_iload_n hx hb d_M_putSign_79 rfl (lv_at hl 4 rfl) ?_
            refine lv_iload hx hb d_M_putSign_80 (lv_at hl 0 rfl) ?_
            refine lv_ishr hx hb d_M_putSign_82 ?_
            refine lv_topi (fun v_5 ev_5 => ?_)
            refine lv_iconst (v := 1) hx hb d_M_putSign_83 (by decide) ?_
            refine lv_iand hx hb d_M_putSign_84 ?_
            refine lv_topi (fun v_6 ev_6 => ?_)
            have z9 : v_6 = nI (t / 2 ^ (j - 1) % 2) := by subst_vars; rw [I_shr (by omega) (by omega)]; exact I_and1 (by omega)
            subst z9
            refine lv_istore (lv' := [(5, Value.int (nI (t / 2 ^ (j - 1) % 2))), (4, Value.int i9), (3, Value.int n9v), (0, Value.ref o), (1, Value.int (nI mm)), (2, Value.int (nI t))]) hx hb d_M_putSign_85 hl (by decide) rfl (fun ls hl => ?_)
            refine lv_aload_n hx hb d_M_putSign_87 rfl (lv_at hl 3 rfl) ?_
            refine lv_bipush (v := 64) hx hb d_M_putSign_88 (by decide) ?_
            refine lv_iload_n hx hb d_M_putSign_90 rfl (lv_at hl 4 rfl) ?_
            refine lv_imul hx hb d_M_putSign_91 ?_
            refine lv_topi (fun v_7 ev_7 => ?_)
            refine lv_iload_n hx hb d_M_putSign_92 rfl (lv_at hl 2 rfl) ?_
            refine lv_iadd hx hb d_M_putSign_93 ?_
            refine lv_topi (fun v_8 ev_8 => ?_)
            have z9 : v_8 = nI (64 * mm + nd) := by subst_vars; exact ix64
            subst z9
            refine lv_iload hx hb d_M_putSign_94 (lv_at hl 0 rfl) ?_
            refine my_cv (wr := [((g 0), Sum.inl (cI, 8, Sum.inl vMany))]) (va_runV (As := [Value.int (nI (64 * mm + nd)), Value.int (nI (t / 2 ^ (j - 1) % 2))]) (rest := []) ⟨hx, hb, hml, hown, hts⟩ (c_M_putBit l dC dI cI cM cO H.size o g 2 (nI sh) fModels fItems fEnded fOuts fIns fReads fBad fIR fAsk fBAsk fCode fRL fRR fX fWrites fThrown fK vK (64 * mm + nd) (D nd) (t / 2 ^ (j - 1) % 2) sh (eR e9) (eL e9) (eC e9) (eP e9) (eB e9) (by omega) (hfK nd hnd64) ((hD9 nd hnd64).1) ((hD9 nd hnd64).2) (hs2) (rfl) (hb2) (hI1) (hI2) (hI3) (hI4) (hg9) (by have z : eN e9 = (eB e9).length + eP e9 + 1 := rfl; omega)) (cwV 2 hts (my_gV k1127 k1129 ks36 k12 k1130) rfl rfl rfl cu_M_putBit_2 ⟨by rw [hR]; exact Nat.le_of_ble_eq_true rfl, by rw [hR]; exact Nat.le_of_ble_eq_true rfl⟩) (my_preV hK hN (hP.sub [2, 0, 1] rfl) (hD.sub [2, 0, 1] (by decide +kernel) rfl) 0 rfl rfl) rfl rfl hl.1 rfl (lv_room (Nat.le_of_ble_eq_true rfl)) d_M_putSign_96 ⟨by rw [hR]; exact Nat.le_of_ble_eq_true rfl, by rw [hR]; exact Nat.le_of_ble_eq_true rfl⟩) hP hD hS hA [2, 0, 1] [3] rfl rfl (by decide +kernel) (by decide +kernel) (fun u9 H locs hw_96 hP hD hS => ?_)
            obtain ⟨f2_96, v2_96⟩ := u9
            have hw_96 : f2_96 = upd fK (64 * mm + nd) (nI (mvC sh (t / 2 ^ (j - 1) % 2) (D nd))) ∧ gIs v2_96 (eB (wdS (btS (D nd) (t / 2 ^ (j - 1) % 2) (eR e9) (eL e9) (eC e9) (eP e9) (eB e9)))) := hw_96
            have hPD : my_PD (dC, dI) vwCl A [((g 0), Sum.inl (cI, 8, Sum.inl vMany)), (o, Sum.inr (9, mO g 2 (nI sh) fModels fItems fEnded (lN (eL (wdS (btS (D nd) (t / 2 ^ (j - 1) % 2) (eR e9) (eL e9) (eC e9) (eP e9) (eB e9))))) (lN (eR (wdS (btS (D nd) (t / 2 ^ (j - 1) % 2) (eR e9) (eL e9) (eC e9) (eP e9) (eB e9))))) (caI (eC (wdS (btS (D nd) (t / 2 ^ (j - 1) % 2) (eR e9) (eL e9) (eC e9) (eP e9) (eB e9))))) (nI (eP (wdS (btS (D nd) (t / 2 ^ (j - 1) % 2) (eR e9) (eL e9) (eC e9) (eP e9) (eB e9))))) (nI (eB (wdS (btS (D nd) (t / 2 ^ (j - 1) % 2) (eR e9) (eL e9) (eC e9) (eP e9) (eB e9)))).length) fOuts fIns fReads fBad fIR fAsk fBAsk fCode fRL fRR fX fWrites fThrown)), ((g 2), Sum.inl (cI, 512, Sum.inl f2_96)), ((g 6), Sum.inl (cI, 9000, Sum.inl v2_96))] H := ⟨hP, hD⟩
            have hP := hPD.1
            have hD := hPD.2
            refine lv_iconst (v := 2) hx hb d_M_putSign_99 (by decide) ?_
            refine lv_iload_n hx hb d_M_putSign_100 rfl (lv_at hl 2 rfl) ?_
            refine lv_imul hx hb d_M_putSign_101 ?_
            refine lv_topi (fun v_9 ev_9 => ?_)
            refine lv_iload hx hb d_M_putSign_102 (lv_at hl 0 rfl) ?_
            refine lv_iadd hx hb d_M_putSign_104 ?_
            refine lv_topi (fun v_10 ev_10 => ?_)
            refine lv_istore_n (lv' := [(3, Value.int v_10), (5, Value.int (nI (t / 2 ^ (j - 1) % 2))), (4, Value.int i9), (0, Value.ref o), (1, Value.int (nI mm)), (2, Value.int (nI t))]) hx hb d_M_putSign_105 rfl hl (by decide) rfl (fun ls hl => ?_)
            obtain ⟨v_11, ev_11⟩ : ∃ y : Int32, y = i9 + (-1) := ⟨_, rfl⟩
            refine lv_iinc (v := v_11) (lv' := [(4, Value.int v_11), (3, Value.int v_10), (5, Value.int (nI (t / 2 ^ (j - 1) % 2))), (0, Value.ref o), (1, Value.int (nI mm)), (2, Value.int (nI t))]) hx hb d_M_putSign_106 hl (k := 2) rfl (by rw [ev_11]; rfl) (by decide) rfl (fun ls hl => ?_)
            refine lv_goto (tgt := 74) hx hb d_M_putSign_109 (by decide) ?_
            exact ih9_74 _ (by first | omega | (omega)) v_11 v_10 (j - 1) (2 * nd + t / 2 ^ (j - 1) % 2) (wdS (btS (D nd) (t / 2 ^ (j - 1) % 2) (eR e9) (eL e9) (eC e9) (eP e9) (eB e9))) (upN D nd (mvC sh (t / 2 ^ (j - 1) % 2) (D nd))) f2_96 v2_96 rfl (by subst_vars; rw [Int32.add_assoc, show (-1 : Int32) + 1 = 0 from by decide, Int32.add_zero]) (by subst_vars; rw [show (2 : Int32) * nI nd = nI (2 * nd) from pk_mul 2 nd]; exact nI_add _ _) (by omega) (by rw [hE9, show spN sh t j nd e9 D = spN sh t (j - 1 + 1) nd e9 D by rw [Nat.sub_add_cancel hj0]]; rfl) ((bt_inv hI9 (hD9 nd hnd64).1 (hD9 nd hnd64).2).1) (hw_96.2) (by have z := (bt_inv (bt := t / 2 ^ (j - 1) % 2) hI9 (hD9 nd hnd64).1 (hD9 nd hnd64).2).2; omega) (nd_st hj0 hj hnd hb2) (by rw [hw_96.1]; exact (sg_up hfK hnd64 rfl rfl).1) (by rw [hw_96.1]; exact sgO_tr (sg_up hfK hnd64 rfl rfl).2 hoK) (ch_up hs1 hD9) H locs ls (hP.sub [2, 3, 1, 0] rfl) (hD.sub [2, 3, 1, 0] (by decide +kernel) rfl) hS (lv_sub hl [0, 1, 3, 4, 5] rfl)
      exact J_74 _ v_3 1 (lev n) 1 (Rg, L, ca, Pn, bs) C vNow vGoing rfl (by subst_vars; rw [Int32.sub_add_cancel]) (rfl) (Nat.le_refl _) (rfl) (hE) (hG) (by show bs.length + Pn + 1 + 2 * lev n ≤ _; omega) (⟨by decide, by rw [Nat.sub_self]; decide⟩) (hf) (sgO_rf _ _ _) (hC) H locs ls (hP.sub [0, 1, 2, 3] rfl) (hD.sub [0, 1, 2, 3] (by decide +kernel) rfl) hS (lv_sub hl [0, 1, 2, 3, 4] rfl)
  · exact absurd (by decide) c_1
end
section
set_option maxHeartbeats 1000000 in
set_option maxRecDepth 100000 in
/-- signAt -/
theorem c_M_signAt (l : Launch) (dC : Nat → ClassId) (dI : Nat → Nat → Nat) (cI cM cO : ClassId) (sz : Nat) (o : Nat) (g : Nat → Nat) (fForm : Int32) (fShift : Int32) (fModels : Int32) (fItems : Int32) (fEnded : Int32) (fLow : Int64) (fRange : Int64) (fCache : Int32) (fPend : Int32) (fGoes : Int32) (fOuts : Int32) (fIns : Int32) (fReads : Int32) (fBad : Int32) (fIR : Int32) (fAsk : Int32) (fBAsk : Int32) (fCode : Int64) (fRL : Int64) (fRR : Int64) (fX : Int64) (fWrites : Int32) (fThrown : Int32) (vThen : Nat → Int32) (mm : Nat) (n : Nat) (F : Nat → Nat) (uu : Nat) (hmm : mm < 8) (hn2 : n ≤ 64) (hf : sgI vThen (64 * mm) n F) (hu : uu < ns F n) (hsum : ns F n ≤ 100000) : MetI l y_M_signAt (Cond.code y_M_signAt prog_14_method_49_code 7 (some .int) :: gw) ({ frames := 0, cells := 0, slots := 0, locals := 0 } : Room) (dC, dI) vwCl (kT cI cM cO) [Value.ref o, Value.int (nI mm), Value.long (lN uu)] [(o, Sum.inr (9, mO g fForm fShift fModels fItems fEnded fLow fRange fCache fPend fGoes fOuts fIns fReads fBad fIR fAsk fBAsk fCode fRL fRR fX fWrites fThrown)), ((g 3), Sum.inl (cI, 512, Sum.inl vThen))] sz (fun (r : Int32) (u : Unit) => r = nI (sgA F n uu)) (fun (u : Unit) => [(o, Sum.inr (9, mO g fForm fShift fModels fItems fEnded fLow fRange fCache fPend fGoes fOuts fIns fReads fBad fIR fAsk fBAsk fCode fRL fRR fX fWrites fThrown)), ((g 3), Sum.inl (cI, 512, Sum.inl vThen))]) 0 0 := by
  refine my_ofI (cc := prog_14_method_49_code) (n := 7) (ret := (some .int)) (by decide) rfl (Nat.le_of_ble_eq_true rfl) ?_
  intro p e s m args below meth c R Q A ls H locs hx hb hr hts hown hlocks hml hnm hR hQ hA hl hP hK hN hD hS
  have hg : ∀ w ∈ gw, w.before args s = true := fun w h => hts w (List.mem_cons_of_mem _ h)
  have hown : s.vm.findClass "RangeCodersModel" = some m.cls := hown
  have hl : lv_has ls 7 [(0, Value.ref o), (1, Value.int (nI mm)), (2, Value.long (lN uu))] := hl
  have hn0 : 0 < n := by
    rcases Nat.eq_zero_or_pos n with z | z
    · subst z; exact absurd hu (by simp [ns])
    · exact z
  refine lv_iconst (v := 0) hx hb d_M_signAt_0 (by decide) ?_
  refine lv_istore (lv' := [(4, Value.int 0), (0, Value.ref o), (1, Value.int (nI mm)), (2, Value.long (lN uu))]) hx hb d_M_signAt_1 hl (by decide) rfl (fun ls hl => ?_)
  refine lv_aload_n hx hb d_M_signAt_3 rfl (lv_at hl 1 rfl) ?_
  refine va_get (D := (dC, dI)) (ci := 9) (v := .ref (g 3)) (C := "RangeCodersModel") (T := T_M) (N := 35) hx hb hg in_M hown hK hP 0 rfl rfl 6 (by decide) (hg _ k958) (fun _ h9 => h9) rfl d_M_signAt_4 ?_
  refine lv_bipush (v := 64) hx hb d_M_signAt_7 (by decide) ?_
  refine lv_iload_n hx hb d_M_signAt_9 rfl (lv_at hl 2 rfl) ?_
  refine lv_imul hx hb d_M_signAt_10 ?_
  refine lv_topi (fun v_1 ev_1 => ?_)
  refine va_iald hx hb hK hP 1 0 rfl rfl (by subst_vars; rw [show (64 : Int32) * nI mm = nI (64 * mm) from pk_mul 64 mm]; exact vp_in_nI (by omega) (by decide)) d_M_signAt_11 ?_
  refine lv_topi (fun v_2 ev_2 => ?_)
  refine lv_i2l hx hb d_M_signAt_12 rfl ?_
  refine lv_topl (fun v_3 ev_3 => ?_)
  have hg0 := ns_ge (F := F) hn0
  have hc0 : v_3 = lN (ns F (0 + 1)) := by
    subst_vars
    rw [show (64 : Int32) * nI mm = nI (64 * mm + 0) from pk_mul 64 mm, nI_clamp (by omega), hf 0 hn0, nI_l (by omega)]
    simp [ns]
  refine lv_lstore (lv' := [(5, Value.long v_3), (4, Value.int 0), (0, Value.ref o), (1, Value.int (nI mm)), (2, Value.long (lN uu))]) hx hb d_M_signAt_13 hl (by decide) rfl (fun ls hl => ?_)
  have J_15 : ∀ (n9_15 : Nat) (s9 : Int32) (c9 : Int64) (j : Nat) (hn9_15 : n - j = n9_15) (hs : s9 = nI j) (hc9 : c9 = lN (ns F (j + 1))) (hj : j < n) (hE9 : sgA F n uu = fs F uu (n - j) j) (H : Heap) (locs : List Loc) (ls : Array Slot), va_P (dC, dI) vwCl [(o, Sum.inr (9, mO g fForm fShift fModels fItems fEnded fLow fRange fCache fPend fGoes fOuts fIns fReads fBad fIR fAsk fBAsk fCode fRL fRR fX fWrites fThrown)), ((g 3), Sum.inl (cI, 512, Sum.inl vThen))] H → va_D A [(o, Sum.inr (9, mO g fForm fShift fModels fItems fEnded fLow fRange fCache fPend fGoes fOuts fIns fReads fBad fIR fAsk fBAsk fCode fRL fRR fX fWrites fThrown)), ((g 3), Sum.inl (cI, 512, Sum.inl vThen))] → va_S A s.heap H locs → lv_has ls 7 [(5, Value.long c9), (4, Value.int s9), (0, Value.ref o), (1, Value.int (nI mm)), (2, Value.long (lN uu))] → W p l e R s m args below meth c H locs 0 0 Q (F0 m 15 ls []) := by
    intro n9_15
    induction n9_15 using Nat.strongRecOn with
    | ind n9_15 ih9_15 =>
      intro s9 c9 j hn9_15 hs hc9 hj hE9 H locs ls hP hD hS hl
      have hm1 := ns_m F (show j + 1 ≤ n from hj)
      refine lv_lload hx hb d_M_signAt_15 (lv_at hl 0 rfl) ?_
      refine lv_lload_n hx hb d_M_signAt_17 rfl (lv_at hl 4 rfl) ?_
      refine W.lcmp hx hb d_M_signAt_18 ?_
      refine lv_if_gt (tgt := 46) hx hb d_M_signAt_19 (by decide) (fun c_4 => ?_) (fun c_4 => ?_)
      · rw [lg_cmp_gt] at c_4
        have hlt : uu < ns F (j + 1) := (L_lt (by omega) (by omega)).mp (by rw [← hc9]; exact c_4)
        refine lv_iload hx hb d_M_signAt_46 (lv_at hl 1 rfl) ?_
        exact my_iret (v := s9) hx hb hr (rfl) hlocks hQ hK hS (Nat.le_refl _) (Nat.le_refl _) () (by rw [hs, hE9, show n - j = (n - (j + 1)) + 1 by omega, fs, if_pos hlt]) (hP.sub [0, 1] rfl) (hD.sub [0, 1] (by decide +kernel) rfl) d_M_signAt_48
      · rw [lg_cmp_gt] at c_4
        have hle : ns F (j + 1) ≤ uu := by
          rcases Nat.lt_or_ge uu (ns F (j + 1)) with z | z
          · exact absurd (by rw [hc9]; exact (L_lt (by omega) (by omega)).mpr z) c_4
          · exact z
        have hj1 : j + 1 < n := by
          rcases Nat.lt_or_ge (j + 1) n with z | z
          · exact z
          · have e9 : j + 1 = n := by omega
            rw [e9] at hle; omega
        have hg1 := ns_ge (F := F) hj1
        obtain ⟨v_5, ev_5⟩ : ∃ y : Int32, y = s9 + (1) := ⟨_, rfl⟩
        refine lv_iinc (v := v_5) (lv' := [(4, Value.int v_5), (5, Value.long c9), (0, Value.ref o), (1, Value.int (nI mm)), (2, Value.long (lN uu))]) hx hb d_M_signAt_22 hl (k := 1) rfl (by rw [ev_5]; rfl) (by decide) rfl (fun ls hl => ?_)
        refine lv_lload hx hb d_M_signAt_25 (lv_at hl 1 rfl) ?_
        refine lv_aload_n hx hb d_M_signAt_27 rfl (lv_at hl 2 rfl) ?_
        refine va_get (D := (dC, dI)) (ci := 9) (v := .ref (g 3)) (C := "RangeCodersModel") (T := T_M) (N := 35) hx hb hg in_M hown hK hP 0 rfl rfl 6 (by decide) (hg _ k958) (fun _ h9 => h9) rfl d_M_signAt_28 ?_
        refine lv_bipush (v := 64) hx hb d_M_signAt_31 (by decide) ?_
        refine lv_iload_n hx hb d_M_signAt_33 rfl (lv_at hl 3 rfl) ?_
        refine lv_imul hx hb d_M_signAt_34 ?_
        refine lv_topi (fun v_6 ev_6 => ?_)
        refine lv_iload hx hb d_M_signAt_35 (lv_at hl 0 rfl) ?_
        refine lv_iadd hx hb d_M_signAt_37 ?_
        refine lv_topi (fun v_7 ev_7 => ?_)
        have hix : v_7 = nI (64 * mm + (j + 1)) := by subst_vars; rw [nI_1]; exact ix64
        refine va_iald hx hb hK hP 1 0 rfl rfl (by rw [hix]; exact vp_in_nI (by omega) (by decide)) d_M_signAt_38 ?_
        refine lv_topi (fun v_8 ev_8 => ?_)
        refine lv_i2l hx hb d_M_signAt_39 rfl ?_
        refine lv_topl (fun v_9 ev_9 => ?_)
        refine lv_ladd hx hb d_M_signAt_40 ?_
        refine lv_topl (fun v_10 ev_10 => ?_)
        refine lv_lstore (lv' := [(5, Value.long v_10), (4, Value.int v_5), (0, Value.ref o), (1, Value.int (nI mm)), (2, Value.long (lN uu))]) hx hb d_M_signAt_41 hl (by decide) rfl (fun ls hl => ?_)
        refine lv_goto (tgt := 15) hx hb d_M_signAt_43 (by decide) ?_
        exact ih9_15 _ (by first | omega | (omega)) v_5 v_10 (j + 1) rfl (by subst_vars; exact nI_1 j) (by subst_vars; rw [nI_clamp (by omega), hf (j + 1) hj1, nI_l (by omega), lN_add]; rfl) (hj1) (by rw [hE9, show n - j = (n - (j + 1)) + 1 by omega, fs, if_neg (by omega)]) H locs ls (hP.sub [0, 1] rfl) (hD.sub [0, 1] (by decide +kernel) rfl) hS (lv_sub hl [0, 1, 2, 3, 4] rfl)
  exact J_15 _ 0 v_3 0 rfl (rfl) (hc0) (hn0) (rfl) H locs ls (hP.sub [0, 1] rfl) (hD.sub [0, 1] (by decide +kernel) rfl) hS (lv_sub hl [0, 1, 2, 3, 4] rfl)
set_option maxHeartbeats 1000000 in
set_option maxRecDepth 100000 in
/-- wanted, form 0 -/
theorem c_M_wanted0 (l : Launch) (dC : Nat → ClassId) (dI : Nat → Nat → Nat) (cI cM cO : ClassId) (sz : Nat) (o : Nat) (g : Nat → Nat) (fShift : Int32) (fModels : Int32) (fItems : Int32) (fEnded : Int32) (fLow : Int64) (fRange : Int64) (fCache : Int32) (fPend : Int32) (fGoes : Int32) (fOuts : Int32) (fIns : Int32) (fReads : Int32) (fBad : Int32) (fIR : Int32) (fAsk : Int32) (fBAsk : Int32) (fRL : Int64) (fX : Int64) (fWrites : Int32) (fThrown : Int32) (tt : Nat) (RR : Nat) (CD : Nat) (ht : tt < 2 ^ 31) (hR1 : RR < 4294967296) (hC : CD < 4294967296) : MetL l y_M_wanted (Cond.code y_M_wanted prog_14_method_47_code 6 (some .long) :: gw) ({ frames := 0, cells := 0, slots := 0, locals := 0 } : Room) (dC, dI) vwCl (kT cI cM cO) [Value.ref o, Value.int (nI tt)] [(o, Sum.inr (9, mO g 0 fShift fModels fItems fEnded fLow fRange fCache fPend fGoes fOuts fIns fReads fBad fIR fAsk fBAsk (lN CD) fRL (lN RR) fX fWrites fThrown))] sz (fun (r : Int64) (u : Unit) => r = oL (wnt tt RR CD)) (fun (u : Unit) => [(o, Sum.inr (9, mO g 0 fShift fModels fItems fEnded fLow fRange fCache fPend fGoes fOuts fIns fReads fBad fIR fAsk fBAsk (lN CD) fRL (lN RR) fX fWrites fThrown))]) 0 0 := by
  refine my_ofL (cc := prog_14_method_47_code) (n := 6) (ret := (some .long)) (by decide) rfl (Nat.le_of_ble_eq_true rfl) ?_
  intro p e s m args below meth c R Q A ls H locs hx hb hr hts hown hlocks hml hnm hR hQ hA hl hP hK hN hD hS
  have hg : ∀ w ∈ gw, w.before args s = true := fun w h => hts w (List.mem_cons_of_mem _ h)
  have hown : s.vm.findClass "RangeCodersModel" = some m.cls := hown
  have hl : lv_has ls 6 [(0, Value.ref o), (1, Value.int (nI tt))] := hl
  have J_15 : ∀ (r9 : Int64) (hr9 : r9 = lN (RR / tt)) (H : Heap) (locs : List Loc) (ls : Array Slot), va_P (dC, dI) vwCl [(o, Sum.inr (9, mO g 0 fShift fModels fItems fEnded fLow fRange fCache fPend fGoes fOuts fIns fReads fBad fIR fAsk fBAsk (lN CD) fRL (lN RR) fX fWrites fThrown))] H → va_D A [(o, Sum.inr (9, mO g 0 fShift fModels fItems fEnded fLow fRange fCache fPend fGoes fOuts fIns fReads fBad fIR fAsk fBAsk (lN CD) fRL (lN RR) fX fWrites fThrown))] → va_S A s.heap H locs → lv_has ls 6 [(0, Value.ref o), (1, Value.int (nI tt))] → W p l e R s m args below meth c H locs 0 0 Q (F0 m 15 ls [Value.long r9]) := by
    intro r9 hr9 H locs ls hP hD hS hl
    have hd5 : RR / tt ≤ RR := Nat.div_le_self _ _
    refine lv_lstore_n (lv' := [(2, Value.long r9), (0, Value.ref o), (1, Value.int (nI tt))]) hx hb d_M_wanted_15 rfl hl (by decide) rfl (fun ls hl => ?_)
    refine lv_lload_n hx hb d_M_wanted_16 rfl (lv_at hl 0 rfl) ?_
    refine lv_lconst (v := 0) hx hb d_M_wanted_17 (by decide) ?_
    refine W.lcmp hx hb d_M_wanted_18 ?_
    refine lv_if_ne (tgt := 26) hx hb d_M_wanted_19 (by decide) (fun c_1 => ?_) (fun c_1 => ?_)
    · rw [lg_cmp_eq] at c_1
      have hnz : ¬ RR / tt = 0 := fun z => c_1 (by rw [hr9, z]; rfl)
      have hxl : CD / (RR / tt) ≤ CD := Nat.div_le_self _ _
      have hx32 : CD < 4294967296 := hC
      refine lv_aload_n hx hb d_M_wanted_26 rfl (lv_at hl 1 rfl) ?_
      refine va_get (D := (dC, dI)) (ci := 9) (v := .int 0) (C := "RangeCodersModel") (T := T_M) (N := 35) hx hb hg in_M hown hK hP 0 rfl rfl 0 (by decide) (hg _ k952) (fun _ h9 => h9) rfl d_M_wanted_27 ?_
      refine lv_if_ne (tgt := 40) hx hb d_M_wanted_30 (by decide) (fun c_2 => ?_) (fun c_2 => ?_)
      · exact absurd rfl c_2
      · refine lv_aload_n hx hb d_M_wanted_33 rfl (lv_at hl 1 rfl) ?_
        refine va_get (D := (dC, dI)) (ci := 9) (v := .long (lN CD)) (C := "RangeCodersModel") (T := T_M) (N := 35) hx hb hg in_M hown hK hP 0 rfl rfl 26 (by decide) (hg _ k978) (fun _ h9 => h9) rfl d_M_wanted_34 ?_
        refine lv_goto (tgt := 53) hx hb d_M_wanted_37 (by decide) ?_
        refine lv_lload_n hx hb d_M_wanted_53 rfl (lv_at hl 0 rfl) ?_
        refine lv_ldiv hx hb d_M_wanted_54 (by rw [hr9]; intro z; exact hnz ((pk_lEQ (b := 0) (by omega) (by decide)).mp z)) ?_
        refine lv_topl (fun v_3 ev_3 => ?_)
        have z9 : v_3 = lN (CD / (RR / tt)) := by subst_vars; exact pk_lDiv (by omega) (Nat.pos_of_ne_zero hnz) (by omega)
        subst z9
        refine lv_lstore (lv' := [(4, Value.long (lN (CD / (RR / tt)))), (2, Value.long r9), (0, Value.ref o), (1, Value.int (nI tt))]) hx hb d_M_wanted_55 hl (by decide) rfl (fun ls hl => ?_)
        refine lv_lload hx hb d_M_wanted_57 (lv_at hl 0 rfl) ?_
        refine lv_iload_n hx hb d_M_wanted_59 rfl (lv_at hl 3 rfl) ?_
        refine lv_i2l hx hb d_M_wanted_60 rfl ?_
        refine lv_topl (fun v_4 ev_4 => ?_)
        refine W.lcmp hx hb d_M_wanted_61 ?_
        refine lv_if_ge (tgt := 70) hx hb d_M_wanted_62 (by decide) (fun c_5 => ?_) (fun c_5 => ?_)
        · rw [lg_cmp_ge] at c_5
          have hge : ¬ CD / (RR / tt) < tt := by
            have hc9 := c_5
            subst_vars
            rw [nI_l (by omega)] at hc9
            have := (L_le (by omega) (by omega)).mp hc9
            omega
          refine lv_ldc2 (v := (-1)) hx hb hown (hg _ k1214) d_M_wanted_70 ?_
          exact my_lret (v := (-1)) hx hb hr hlocks hQ hK hS (Nat.le_refl _) (Nat.le_refl _) () (by unfold wnt; rw [if_neg hnz, if_neg hge]; rfl) (hP.sub [0] rfl) (hD.sub [0] (by decide +kernel) rfl) d_M_wanted_73
        · rw [lg_cmp_ge] at c_5
          have hlt : CD / (RR / tt) < tt := by
            have hc9 := c_5
            rcases Nat.lt_or_ge (CD / (RR / tt)) tt with z | z
            · exact z
            · subst_vars
              rw [nI_l (by omega)] at hc9
              exact absurd ((L_le (by omega) (by omega)).mpr z) hc9
          refine lv_lload hx hb d_M_wanted_65 (lv_at hl 0 rfl) ?_
          refine lv_goto (tgt := 73) hx hb d_M_wanted_67 (by decide) ?_
          exact my_lret (v := (lN (CD / (RR / tt)))) hx hb hr hlocks hQ hK hS (Nat.le_refl _) (Nat.le_refl _) () (by unfold wnt; rw [if_neg hnz, if_pos hlt]; rfl) (hP.sub [0] rfl) (hD.sub [0] (by decide +kernel) rfl) d_M_wanted_73
    · rw [lg_cmp_eq] at c_1
      have hz : RR / tt = 0 := (pk_lEQ (b := 0) (by omega) (by decide)).mp (by rw [← hr9]; exact c_1)
      refine lv_ldc2 (v := (-1)) hx hb hown (hg _ k1214) d_M_wanted_22 ?_
      exact my_lret (v := (-1)) hx hb hr hlocks hQ hK hS (Nat.le_refl _) (Nat.le_refl _) () (by unfold wnt; rw [if_pos hz]; rfl) (hP.sub [0] rfl) (hD.sub [0] (by decide +kernel) rfl) d_M_wanted_25
  refine lv_iload_n hx hb d_M_wanted_0 rfl (lv_at hl 1 rfl) ?_
  refine lv_if_ne (tgt := 8) hx hb d_M_wanted_1 (by decide) (fun c_6 => ?_) (fun c_6 => ?_)
  · have htp : 0 < tt := by
      rcases Nat.eq_zero_or_pos tt with z | z
      · exact absurd (by rw [z]; rfl) c_6
      · exact z
    refine lv_aload_n hx hb d_M_wanted_8 rfl (lv_at hl 0 rfl) ?_
    refine va_get (D := (dC, dI)) (ci := 9) (v := .long (lN RR)) (C := "RangeCodersModel") (T := T_M) (N := 35) hx hb hg in_M hown hK hP 0 rfl rfl 28 (by decide) (hg _ k980) (fun _ h9 => h9) rfl d_M_wanted_9 ?_
    refine lv_iload_n hx hb d_M_wanted_12 rfl (lv_at hl 1 rfl) ?_
    refine lv_i2l hx hb d_M_wanted_13 rfl ?_
    refine lv_topl (fun v_7 ev_7 => ?_)
    refine lv_ldiv hx hb d_M_wanted_14 (by subst_vars; rw [nI_l (by omega)]; intro z; have := (pk_lEQ (b := 0) (by omega) (by decide)).mp z; omega) ?_
    refine lv_topl (fun v_8 ev_8 => ?_)
    exact J_15 v_8 (by subst_vars; rw [nI_l (by omega)]; exact pk_lDiv (by omega) htp (by omega)) H locs ls (hP.sub [0] rfl) (hD.sub [0] (by decide +kernel) rfl) hS (lv_sub hl [0, 1] rfl)
  · have htz : tt = 0 := (nI_eq (b := 0) (by omega) (by decide)).mp c_6
    refine lv_lconst (v := 0) hx hb d_M_wanted_4 (by decide) ?_
    refine lv_goto (tgt := 15) hx hb d_M_wanted_5 (by decide) ?_
    exact J_15 0 (by rw [htz, Nat.div_zero]; rfl) H locs ls (hP.sub [0] rfl) (hD.sub [0] (by decide +kernel) rfl) hS (lv_sub hl [0, 1] rfl)
set_option maxHeartbeats 1000000 in
set_option maxRecDepth 100000 in
/-- wanted, form 1 -/
theorem c_M_wanted1 (l : Launch) (dC : Nat → ClassId) (dI : Nat → Nat → Nat) (cI cM cO : ClassId) (sz : Nat) (o : Nat) (g : Nat → Nat) (fShift : Int32) (fModels : Int32) (fItems : Int32) (fEnded : Int32) (fLow : Int64) (fRange : Int64) (fCache : Int32) (fPend : Int32) (fGoes : Int32) (fOuts : Int32) (fIns : Int32) (fReads : Int32) (fBad : Int32) (fIR : Int32) (fAsk : Int32) (fBAsk : Int32) (fX : Int64) (fWrites : Int32) (fThrown : Int32) (tt : Nat) (RR : Nat) (CD : Nat) (L : Nat) (ht : tt < 2 ^ 31) (hR1 : RR < 4294967296) (hC : CD < 4294967296) (hLl : L < 4294967296) : MetL l y_M_wanted (Cond.code y_M_wanted prog_14_method_47_code 6 (some .long) :: gw) ({ frames := 0, cells := 0, slots := 0, locals := 0 } : Room) (dC, dI) vwCl (kT cI cM cO) [Value.ref o, Value.int (nI tt)] [(o, Sum.inr (9, mO g 1 fShift fModels fItems fEnded fLow fRange fCache fPend fGoes fOuts fIns fReads fBad fIR fAsk fBAsk (lN CD) (lN L) (lN RR) fX fWrites fThrown))] sz (fun (r : Int64) (u : Unit) => r = oL (wnt tt RR ((CD + 4294967296 - L) % 4294967296))) (fun (u : Unit) => [(o, Sum.inr (9, mO g 1 fShift fModels fItems fEnded fLow fRange fCache fPend fGoes fOuts fIns fReads fBad fIR fAsk fBAsk (lN CD) (lN L) (lN RR) fX fWrites fThrown))]) 0 0 := by
  refine my_ofL (cc := prog_14_method_47_code) (n := 6) (ret := (some .long)) (by decide) rfl (Nat.le_of_ble_eq_true rfl) ?_
  intro p e s m args below meth c R Q A ls H locs hx hb hr hts hown hlocks hml hnm hR hQ hA hl hP hK hN hD hS
  have hg : ∀ w ∈ gw, w.before args s = true := fun w h => hts w (List.mem_cons_of_mem _ h)
  have hown : s.vm.findClass "RangeCodersModel" = some m.cls := hown
  have hl : lv_has ls 6 [(0, Value.ref o), (1, Value.int (nI tt))] := hl
  have J_15 : ∀ (r9 : Int64) (hr9 : r9 = lN (RR / tt)) (H : Heap) (locs : List Loc) (ls : Array Slot), va_P (dC, dI) vwCl [(o, Sum.inr (9, mO g 1 fShift fModels fItems fEnded fLow fRange fCache fPend fGoes fOuts fIns fReads fBad fIR fAsk fBAsk (lN CD) (lN L) (lN RR) fX fWrites fThrown))] H → va_D A [(o, Sum.inr (9, mO g 1 fShift fModels fItems fEnded fLow fRange fCache fPend fGoes fOuts fIns fReads fBad fIR fAsk fBAsk (lN CD) (lN L) (lN RR) fX fWrites fThrown))] → va_S A s.heap H locs → lv_has ls 6 [(0, Value.ref o), (1, Value.int (nI tt))] → W p l e R s m args below meth c H locs 0 0 Q (F0 m 15 ls [Value.long r9]) := by
    intro r9 hr9 H locs ls hP hD hS hl
    have hd5 : RR / tt ≤ RR := Nat.div_le_self _ _
    refine lv_lstore_n (lv' := [(2, Value.long r9), (0, Value.ref o), (1, Value.int (nI tt))]) hx hb d_M_wanted_15 rfl hl (by decide) rfl (fun ls hl => ?_)
    refine lv_lload_n hx hb d_M_wanted_16 rfl (lv_at hl 0 rfl) ?_
    refine lv_lconst (v := 0) hx hb d_M_wanted_17 (by decide) ?_
    refine W.lcmp hx hb d_M_wanted_18 ?_
    refine lv_if_ne (tgt := 26) hx hb d_M_wanted_19 (by decide) (fun c_1 => ?_) (fun c_1 => ?_)
    · rw [lg_cmp_eq] at c_1
      have hnz : ¬ RR / tt = 0 := fun z => c_1 (by rw [hr9, z]; rfl)
      have hxl : ((CD + 4294967296 - L) % 4294967296) / (RR / tt) ≤ ((CD + 4294967296 - L) % 4294967296) := Nat.div_le_self _ _
      have hx32 : ((CD + 4294967296 - L) % 4294967296) < 4294967296 := Nat.mod_lt _ (by decide)
      refine lv_aload_n hx hb d_M_wanted_26 rfl (lv_at hl 1 rfl) ?_
      refine va_get (D := (dC, dI)) (ci := 9) (v := .int 1) (C := "RangeCodersModel") (T := T_M) (N := 35) hx hb hg in_M hown hK hP 0 rfl rfl 0 (by decide) (hg _ k952) (fun _ h9 => h9) rfl d_M_wanted_27 ?_
      refine lv_if_ne (tgt := 40) hx hb d_M_wanted_30 (by decide) (fun c_2 => ?_) (fun c_2 => ?_)
      · refine lv_aload_n hx hb d_M_wanted_40 rfl (lv_at hl 1 rfl) ?_
        refine va_get (D := (dC, dI)) (ci := 9) (v := .long (lN CD)) (C := "RangeCodersModel") (T := T_M) (N := 35) hx hb hg in_M hown hK hP 0 rfl rfl 26 (by decide) (hg _ k978) (fun _ h9 => h9) rfl d_M_wanted_41 ?_
        refine lv_aload_n hx hb d_M_wanted_44 rfl (lv_at hl 1 rfl) ?_
        refine va_get (D := (dC, dI)) (ci := 9) (v := .long (lN L)) (C := "RangeCodersModel") (T := T_M) (N := 35) hx hb hg in_M hown hK hP 0 rfl rfl 27 (by decide) (hg _ k979) (fun _ h9 => h9) rfl d_M_wanted_45 ?_
        refine lv_lsub hx hb d_M_wanted_48 ?_
        refine lv_topl (fun v_3 ev_3 => ?_)
        refine lv_ldc2 (v := 4294967295) hx hb hown (hg _ k927) d_M_wanted_49 ?_
        refine lv_land hx hb d_M_wanted_52 ?_
        refine lv_topl (fun v_4 ev_4 => ?_)
        refine lv_lload_n hx hb d_M_wanted_53 rfl (lv_at hl 0 rfl) ?_
        refine lv_ldiv hx hb d_M_wanted_54 (by rw [hr9]; intro z; exact hnz ((pk_lEQ (b := 0) (by omega) (by decide)).mp z)) ?_
        refine lv_topl (fun v_5 ev_5 => ?_)
        have z9 : v_5 = lN (((CD + 4294967296 - L) % 4294967296) / (RR / tt)) := by subst_vars; rw [L_sub32 hC hLl]; exact pk_lDiv (by omega) (Nat.pos_of_ne_zero hnz) (by omega)
        subst z9
        refine lv_lstore (lv' := [(4, Value.long (lN (((CD + 4294967296 - L) % 4294967296) / (RR / tt)))), (2, Value.long r9), (0, Value.ref o), (1, Value.int (nI tt))]) hx hb d_M_wanted_55 hl (by decide) rfl (fun ls hl => ?_)
        refine lv_lload hx hb d_M_wanted_57 (lv_at hl 0 rfl) ?_
        refine lv_iload_n hx hb d_M_wanted_59 rfl (lv_at hl 3 rfl) ?_
        refine lv_i2l hx hb d_M_wanted_60 rfl ?_
        refine lv_topl (fun v_6 ev_6 => ?_)
        refine W.lcmp hx hb d_M_wanted_61 ?_
        refine lv_if_ge (tgt := 70) hx hb d_M_wanted_62 (by decide) (fun c_7 => ?_) (fun c_7 => ?_)
        · rw [lg_cmp_ge] at c_7
          have hge : ¬ ((CD + 4294967296 - L) % 4294967296) / (RR / tt) < tt := by
            have hc9 := c_7
            subst_vars
            rw [nI_l (by omega)] at hc9
            have := (L_le (by omega) (by omega)).mp hc9
            omega
          refine lv_ldc2 (v := (-1)) hx hb hown (hg _ k1214) d_M_wanted_70 ?_
          exact my_lret (v := (-1)) hx hb hr hlocks hQ hK hS (Nat.le_refl _) (Nat.le_refl _) () (by unfold wnt; rw [if_neg hnz, if_neg hge]; rfl) (hP.sub [0] rfl) (hD.sub [0] (by decide +kernel) rfl) d_M_wanted_73
        · rw [lg_cmp_ge] at c_7
          have hlt : ((CD + 4294967296 - L) % 4294967296) / (RR / tt) < tt := by
            have hc9 := c_7
            rcases Nat.lt_or_ge (((CD + 4294967296 - L) % 4294967296) / (RR / tt)) tt with z | z
            · exact z
            · subst_vars
              rw [nI_l (by omega)] at hc9
              exact absurd ((L_le (by omega) (by omega)).mpr z) hc9
          refine lv_lload hx hb d_M_wanted_65 (lv_at hl 0 rfl) ?_
          refine lv_goto (tgt := 73) hx hb d_M_wanted_67 (by decide) ?_
          exact my_lret (v := (lN (((CD + 4294967296 - L) % 4294967296) / (RR / tt)))) hx hb hr hlocks hQ hK hS (Nat.le_refl _) (Nat.le_refl _) () (by unfold wnt; rw [if_neg hnz, if_pos hlt]; rfl) (hP.sub [0] rfl) (hD.sub [0] (by decide +kernel) rfl) d_M_wanted_73
      · exact absurd c_2 (by decide)
    · rw [lg_cmp_eq] at c_1
      have hz : RR / tt = 0 := (pk_lEQ (b := 0) (by omega) (by decide)).mp (by rw [← hr9]; exact c_1)
      refine lv_ldc2 (v := (-1)) hx hb hown (hg _ k1214) d_M_wanted_22 ?_
      exact my_lret (v := (-1)) hx hb hr hlocks hQ hK hS (Nat.le_refl _) (Nat.le_refl _) () (by unfold wnt; rw [if_pos hz]; rfl) (hP.sub [0] rfl) (hD.sub [0] (by decide +kernel) rfl) d_M_wanted_25
  refine lv_iload_n hx hb d_M_wanted_0 rfl (lv_at hl 1 rfl) ?_
  refine lv_if_ne (tgt := 8) hx hb d_M_wanted_1 (by decide) (fun c_8 => ?_) (fun c_8 => ?_)
  · have htp : 0 < tt := by
      rcases Nat.eq_zero_or_pos tt with z | z
      · exact absurd (by rw [z]; rfl) c_8
      · exact z
    refine lv_aload_n hx hb d_M_wanted_8 rfl (lv_at hl 0 rfl) ?_
    refine va_get (D := (dC, dI)) (ci := 9) (v := .long (lN RR)) (C := "RangeCodersModel") (T := T_M) (N := 35) hx hb hg in_M hown hK hP 0 rfl rfl 28 (by decide) (hg _ k980) (fun _ h9 => h9) rfl d_M_wanted_9 ?_
    refine lv_iload_n hx hb d_M_wanted_12 rfl (lv_at hl 1 rfl) ?_
    refine lv_i2l hx hb d_M_wanted_13 rfl ?_
    refine lv_topl (fun v_9 ev_9 => ?_)
    refine lv_ldiv hx hb d_M_wanted_14 (by subst_vars; rw [nI_l (by omega)]; intro z; have := (pk_lEQ (b := 0) (by omega) (by decide)).mp z; omega) ?_
    refine lv_topl (fun v_10 ev_10 => ?_)
    exact J_15 v_10 (by subst_vars; rw [nI_l (by omega)]; exact pk_lDiv (by omega) htp (by omega)) H locs ls (hP.sub [0] rfl) (hD.sub [0] (by decide +kernel) rfl) hS (lv_sub hl [0, 1] rfl)
  · have htz : tt = 0 := (nI_eq (b := 0) (by omega) (by decide)).mp c_8
    refine lv_lconst (v := 0) hx hb d_M_wanted_4 (by decide) ?_
    refine lv_goto (tgt := 15) hx hb d_M_wanted_5 (by decide) ?_
    exact J_15 0 (by rw [htz, Nat.div_zero]; rfl) H locs ls (hP.sub [0] rfl) (hD.sub [0] (by decide +kernel) rfl) hS (lv_sub hl [0, 1] rfl)
end
section
set_option maxHeartbeats 1000000 in
set_option maxRecDepth 100000 in
/-- leave, form 0 -/
theorem c_M_leave0 (l : Launch) (dC : Nat → ClassId) (dI : Nat → Nat → Nat) (cI cM cO : ClassId) (sz : Nat) (o : Nat) (g : Nat → Nat) (fShift : Int32) (fModels : Int32) (fItems : Int32) (fEnded : Int32) (fLow : Int64) (fRange : Int64) (fCache : Int32) (fPend : Int32) (fGoes : Int32) (fOuts : Int32) (fReads : Int32) (fBad : Int32) (fIR : Int32) (fBAsk : Int32) (fRL : Int64) (fX : Int64) (fWrites : Int32) (fThrown : Int32) (vIn : Nat → Int32) (cc : Nat) (ff : Nat) (tt : Nat) (RR : Nat) (CD : Nat) (is : List Nat) (q : Nat) (hI : gIs vIn is) (hlen : is.length ≤ 6000) (hoct : oct is) (hq : q < 900000) (ht0 : 0 < tt) (ht1 : tt < 2 ^ 31) (hcf : cc + ff ≤ tt) (hff : 0 < ff) (hRt : tt ≤ RR) (hR1 : RR < 4294967296) (hC : CD < 4294967296) (hcv : RR / tt * cc ≤ CD) : MetV l y_M_leave (Cond.code y_M_leave prog_14_method_48_code 6 none :: gw) ({ frames := 2, cells := 0, slots := 0, locals := 41 } : Room) (dC, dI) vwCl (kT cI cM cO) [Value.ref o, Value.int (nI cc), Value.int (nI ff), Value.int (nI tt)] [(o, Sum.inr (9, mO g 0 fShift fModels fItems fEnded fLow fRange fCache fPend fGoes fOuts (nI is.length) fReads fBad fIR (nI q) fBAsk (lN CD) fRL (lN RR) fX fWrites fThrown)), ((g 8), Sum.inl (cI, 6000, Sum.inl vIn))] sz (fun (u : Unit) => True) (fun (u : Unit) => [(o, Sum.inr (9, mO g 0 fShift fModels fItems fEnded fLow fRange fCache fPend fGoes fOuts (nI is.length) fReads fBad fIR (nI (wrS is (RR / tt * ff, CD - RR / tt * cc, q)).2.2) fBAsk (lN (wrS is (RR / tt * ff, CD - RR / tt * cc, q)).2.1) fRL (lN (wrS is (RR / tt * ff, CD - RR / tt * cc, q)).1) fX fWrites fThrown)), ((g 8), Sum.inl (cI, 6000, Sum.inl vIn))]) 0 0 := by
  refine my_ofV (cc := prog_14_method_48_code) (n := 6) (ret := none) (by decide) rfl (Nat.le_of_ble_eq_true rfl) ?_
  intro p e s m args below meth c R Q A ls H locs hx hb hr hts hown hlocks hml hnm hR hQ hA hl hP hK hN hD hS
  have hg : ∀ w ∈ gw, w.before args s = true := fun w h => hts w (List.mem_cons_of_mem _ h)
  have hown : s.vm.findClass "RangeCodersModel" = some m.cls := hown
  have hl : lv_has ls 6 [(0, Value.ref o), (1, Value.int (nI cc)), (2, Value.int (nI ff)), (3, Value.int (nI tt))] := hl
  have hd1 : RR / tt * tt ≤ RR := Nat.div_mul_le_self _ _
  have hd2 : RR / tt * cc + RR / tt * ff ≤ RR / tt * tt := by rw [← Nat.mul_add]; exact Nat.mul_le_mul_left _ hcf
  have hd3 : 0 < RR / tt := Nat.div_pos hRt ht0
  have hd4 : 0 < RR / tt * ff := Nat.mul_pos hd3 hff
  have hd5 : RR / tt ≤ RR := Nat.div_le_self _ _
  generalize hrc : RR / tt * cc = rc at hd2
  generalize hrf : RR / tt * ff = rf at hd2 hd4
  rw [hrc] at hcv
  refine lv_aload_n hx hb d_M_leave_0 rfl (lv_at hl 0 rfl) ?_
  refine va_get (D := (dC, dI)) (ci := 9) (v := .long (lN RR)) (C := "RangeCodersModel") (T := T_M) (N := 35) hx hb hg in_M hown hK hP 0 rfl rfl 28 (by decide) (hg _ k980) (fun _ h9 => h9) rfl d_M_leave_1 ?_
  refine lv_iload_n hx hb d_M_leave_4 rfl (lv_at hl 3 rfl) ?_
  refine lv_i2l hx hb d_M_leave_5 rfl ?_
  refine lv_topl (fun v_1 ev_1 => ?_)
  refine lv_ldiv hx hb d_M_leave_6 (by subst_vars; rw [nI_l (by omega)]; intro z; have := (pk_lEQ (b := 0) (by omega) (by decide)).mp z; omega) ?_
  refine lv_topl (fun v_2 ev_2 => ?_)
  have z9 : v_2 = lN (RR / tt) := by subst_vars; rw [nI_l (by omega)]; exact pk_lDiv (by omega) ht0 (by omega)
  subst z9
  refine lv_lstore (lv' := [(4, Value.long (lN (RR / tt))), (0, Value.ref o), (1, Value.int (nI cc)), (2, Value.int (nI ff)), (3, Value.int (nI tt))]) hx hb d_M_leave_7 hl (by decide) rfl (fun ls hl => ?_)
  refine lv_aload_n hx hb d_M_leave_9 rfl (lv_at hl 1 rfl) ?_
  refine lv_lload hx hb d_M_leave_10 (lv_at hl 0 rfl) ?_
  refine lv_iload_n hx hb d_M_leave_12 rfl (lv_at hl 3 rfl) ?_
  refine lv_i2l hx hb d_M_leave_13 rfl ?_
  refine lv_topl (fun v_3 ev_3 => ?_)
  refine lv_lmul hx hb d_M_leave_14 ?_
  refine lv_topl (fun v_4 ev_4 => ?_)
  have z9 : v_4 = lN rf := by subst_vars; rw [nI_l (by omega), lN_mul]
  subst z9
  refine va_put (D := (dC, dI)) (ci := 9) (v := .long (lN rf)) (ty := .long) (C := "RangeCodersModel") (T := T_M) (N := 35) hx hb hg in_M t_M o_M n_M hown hK hP hD hS 0 rfl rfl 28 (by decide) (hg _ k980) (fun _ h9 => h9) rfl (o_M 28 (by decide)) rfl rfl (Nat.le_of_ble_eq_true rfl) d_M_leave_15 (fun H locs hP hD hS => ?_)
  have hPD : my_PD (dC, dI) vwCl A [(o, Sum.inr (9, mO g 0 fShift fModels fItems fEnded fLow fRange fCache fPend fGoes fOuts (nI is.length) fReads fBad fIR (nI q) fBAsk (lN CD) fRL (lN rf) fX fWrites fThrown)), ((g 8), Sum.inl (cI, 6000, Sum.inl vIn))] H := ⟨hP, hD⟩
  have hP := hPD.1
  have hD := hPD.2
  refine lv_aload_n hx hb d_M_leave_18 rfl (lv_at hl 1 rfl) ?_
  refine va_get (D := (dC, dI)) (ci := 9) (v := .int 0) (C := "RangeCodersModel") (T := T_M) (N := 35) hx hb hg in_M hown hK hP 0 rfl rfl 0 (by decide) (hg _ k952) (fun _ h9 => h9) rfl d_M_leave_19 ?_
  refine lv_if_ne (tgt := 46) hx hb d_M_leave_22 (by decide) (fun c_5 => ?_) (fun c_5 => ?_)
  · exact absurd rfl c_5
  · refine lv_aload_n hx hb d_M_leave_25 rfl (lv_at hl 1 rfl) ?_
    refine lv_aload_n hx hb d_M_leave_26 rfl (lv_at hl 1 rfl) ?_
    refine va_get (D := (dC, dI)) (ci := 9) (v := .long (lN CD)) (C := "RangeCodersModel") (T := T_M) (N := 35) hx hb hg in_M hown hK hP 0 rfl rfl 26 (by decide) (hg _ k978) (fun _ h9 => h9) rfl d_M_leave_27 ?_
    refine lv_lload hx hb d_M_leave_30 (lv_at hl 0 rfl) ?_
    refine lv_iload_n hx hb d_M_leave_32 rfl (lv_at hl 2 rfl) ?_
    refine lv_i2l hx hb d_M_leave_33 rfl ?_
    refine lv_topl (fun v_6 ev_6 => ?_)
    refine lv_lmul hx hb d_M_leave_34 ?_
    refine lv_topl (fun v_7 ev_7 => ?_)
    refine lv_lsub hx hb d_M_leave_35 ?_
    refine lv_topl (fun v_8 ev_8 => ?_)
    have z9 : v_8 = lN (CD - rc) := by subst_vars; rw [nI_l (by omega), lN_mul]; exact lN_sub hcv
    subst z9
    refine va_put (D := (dC, dI)) (ci := 9) (v := .long (lN (CD - rc))) (ty := .long) (C := "RangeCodersModel") (T := T_M) (N := 35) hx hb hg in_M t_M o_M n_M hown hK hP hD hS 0 rfl rfl 26 (by decide) (hg _ k978) (fun _ h9 => h9) rfl (o_M 26 (by decide)) rfl rfl (Nat.le_of_ble_eq_true rfl) d_M_leave_36 (fun H locs hP hD hS => ?_)
    have hPD : my_PD (dC, dI) vwCl A [(o, Sum.inr (9, mO g 0 fShift fModels fItems fEnded fLow fRange fCache fPend fGoes fOuts (nI is.length) fReads fBad fIR (nI q) fBAsk (lN (CD - rc)) fRL (lN rf) fX fWrites fThrown)), ((g 8), Sum.inl (cI, 6000, Sum.inl vIn))] H := ⟨hP, hD⟩
    have hP := hPD.1
    have hD := hPD.2
    refine lv_aload_n hx hb d_M_leave_39 rfl (lv_at hl 1 rfl) ?_
    refine my_cv (wr := []) (va_runV (As := []) (rest := []) ⟨hx, hb, hml, hown, hts⟩ (c_M_widenRead l dC dI cI cM cO H.size o g 0 fShift fModels fItems fEnded fLow fRange fCache fPend fGoes fOuts fReads fBad fIR fBAsk fRL fX fWrites fThrown vIn rf (CD - rc) is q (by assumption) (by assumption) (by assumption) (by assumption) (hd4) (by omega) (by omega)) (cwV 0 hts (my_gV k1223 k1225 ks51 k12 k1226) rfl rfl rfl cu_M_widenRead_0 ⟨by rw [hR]; exact Nat.le_of_ble_eq_true rfl, by rw [hR]; exact Nat.le_of_ble_eq_true rfl⟩) (my_preV hK hN (hP.sub [0, 1] rfl) (hD.sub [0, 1] (by decide +kernel) rfl) 0 rfl rfl) rfl rfl hl.1 rfl (lv_room (Nat.le_of_ble_eq_true rfl)) d_M_leave_40 ⟨by rw [hR]; exact Nat.le_of_ble_eq_true rfl, by rw [hR]; exact Nat.le_of_ble_eq_true rfl⟩) hP hD hS hA [0, 1] [] rfl rfl (by decide +kernel) (by decide +kernel) (fun u9 H locs hw_40 hP hD hS => ?_)
    have hw_40 : True := hw_40
    have hPD : my_PD (dC, dI) vwCl A [(o, Sum.inr (9, mO g 0 fShift fModels fItems fEnded fLow fRange fCache fPend fGoes fOuts (nI is.length) fReads fBad fIR (nI (wrS is (rf, (CD - rc), q)).2.2) fBAsk (lN (wrS is (rf, (CD - rc), q)).2.1) fRL (lN (wrS is (rf, (CD - rc), q)).1) fX fWrites fThrown)), ((g 8), Sum.inl (cI, 6000, Sum.inl vIn))] H := ⟨hP, hD⟩
    have hP := hPD.1
    have hD := hPD.2
    refine lv_goto (tgt := 68) hx hb d_M_leave_43 (by decide) ?_
    subst hrc
    subst hrf
    
    
    exact my_vret hx hb hr hlocks hQ hK hS (Nat.le_refl _) (Nat.le_refl _) () (trivial) (hP.sub [0, 1] rfl) (hD.sub [0, 1] (by decide +kernel) rfl) d_M_leave_68
set_option maxHeartbeats 1000000 in
set_option maxRecDepth 100000 in
/-- leave, form 1 -/
theorem c_M_leave1 (l : Launch) (dC : Nat → ClassId) (dI : Nat → Nat → Nat) (cI cM cO : ClassId) (sz : Nat) (o : Nat) (g : Nat → Nat) (fShift : Int32) (fModels : Int32) (fItems : Int32) (fEnded : Int32) (fLow : Int64) (fRange : Int64) (fCache : Int32) (fPend : Int32) (fGoes : Int32) (fOuts : Int32) (fReads : Int32) (fBad : Int32) (fIR : Int32) (fBAsk : Int32) (fX : Int64) (fWrites : Int32) (fThrown : Int32) (vIn : Nat → Int32) (cc : Nat) (ff : Nat) (tt : Nat) (RR : Nat) (L : Nat) (CD : Nat) (is : List Nat) (q : Nat) (hI : gIs vIn is) (hlen : is.length ≤ 6000) (hoct : oct is) (hq : q < 900000) (ht0 : 0 < tt) (ht1 : tt < 2 ^ 31) (hcf : cc + ff ≤ tt) (hff : 0 < ff) (hRt : tt ≤ RR) (hp : pOk RR L) (hC : CD < 4294967296) : MetV l y_M_leave (Cond.code y_M_leave prog_14_method_48_code 6 none :: gw) ({ frames := 2, cells := 0, slots := 0, locals := 43 } : Room) (dC, dI) vwCl (kT cI cM cO) [Value.ref o, Value.int (nI cc), Value.int (nI ff), Value.int (nI tt)] [(o, Sum.inr (9, mO g 1 fShift fModels fItems fEnded fLow fRange fCache fPend fGoes fOuts (nI is.length) fReads fBad fIR (nI q) fBAsk (lN CD) (lN L) (lN RR) fX fWrites fThrown)), ((g 8), Sum.inl (cI, 6000, Sum.inl vIn))] sz (fun (u : Unit) => True) (fun (u : Unit) => [(o, Sum.inr (9, mO g 1 fShift fModels fItems fEnded fLow fRange fCache fPend fGoes fOuts (nI is.length) fReads fBad fIR (nI (prS is (RR / tt * ff, L + RR / tt * cc, CD, q)).2.2.2) fBAsk (lN (prS is (RR / tt * ff, L + RR / tt * cc, CD, q)).2.2.1) (lN (prS is (RR / tt * ff, L + RR / tt * cc, CD, q)).2.1) (lN (prS is (RR / tt * ff, L + RR / tt * cc, CD, q)).1) fX fWrites fThrown)), ((g 8), Sum.inl (cI, 6000, Sum.inl vIn))]) 0 0 := by
  refine my_ofV (cc := prog_14_method_48_code) (n := 6) (ret := none) (by decide) rfl (Nat.le_of_ble_eq_true rfl) ?_
  intro p e s m args below meth c R Q A ls H locs hx hb hr hts hown hlocks hml hnm hR hQ hA hl hP hK hN hD hS
  have hg : ∀ w ∈ gw, w.before args s = true := fun w h => hts w (List.mem_cons_of_mem _ h)
  have hown : s.vm.findClass "RangeCodersModel" = some m.cls := hown
  have hl : lv_has ls 6 [(0, Value.ref o), (1, Value.int (nI cc)), (2, Value.int (nI ff)), (3, Value.int (nI tt))] := hl
  obtain ⟨hp1, hp2, hp3, hp4⟩ := hp
  have hd1 : RR / tt * tt ≤ RR := Nat.div_mul_le_self _ _
  have hd2 : RR / tt * cc + RR / tt * ff ≤ RR / tt * tt := by rw [← Nat.mul_add]; exact Nat.mul_le_mul_left _ hcf
  have hd3 : 0 < RR / tt := Nat.div_pos hRt ht0
  have hd4 : 0 < RR / tt * ff := Nat.mul_pos hd3 hff
  have hd5 : RR / tt ≤ RR := Nat.div_le_self _ _
  generalize hrc : RR / tt * cc = rc at hd2
  generalize hrf : RR / tt * ff = rf at hd2 hd4
  refine lv_aload_n hx hb d_M_leave_0 rfl (lv_at hl 0 rfl) ?_
  refine va_get (D := (dC, dI)) (ci := 9) (v := .long (lN RR)) (C := "RangeCodersModel") (T := T_M) (N := 35) hx hb hg in_M hown hK hP 0 rfl rfl 28 (by decide) (hg _ k980) (fun _ h9 => h9) rfl d_M_leave_1 ?_
  refine lv_iload_n hx hb d_M_leave_4 rfl (lv_at hl 3 rfl) ?_
  refine lv_i2l hx hb d_M_leave_5 rfl ?_
  refine lv_topl (fun v_1 ev_1 => ?_)
  refine lv_ldiv hx hb d_M_leave_6 (by subst_vars; rw [nI_l (by omega)]; intro z; have := (pk_lEQ (b := 0) (by omega) (by decide)).mp z; omega) ?_
  refine lv_topl (fun v_2 ev_2 => ?_)
  have z9 : v_2 = lN (RR / tt) := by subst_vars; rw [nI_l (by omega)]; exact pk_lDiv (by omega) ht0 (by omega)
  subst z9
  refine lv_lstore (lv' := [(4, Value.long (lN (RR / tt))), (0, Value.ref o), (1, Value.int (nI cc)), (2, Value.int (nI ff)), (3, Value.int (nI tt))]) hx hb d_M_leave_7 hl (by decide) rfl (fun ls hl => ?_)
  refine lv_aload_n hx hb d_M_leave_9 rfl (lv_at hl 1 rfl) ?_
  refine lv_lload hx hb d_M_leave_10 (lv_at hl 0 rfl) ?_
  refine lv_iload_n hx hb d_M_leave_12 rfl (lv_at hl 3 rfl) ?_
  refine lv_i2l hx hb d_M_leave_13 rfl ?_
  refine lv_topl (fun v_3 ev_3 => ?_)
  refine lv_lmul hx hb d_M_leave_14 ?_
  refine lv_topl (fun v_4 ev_4 => ?_)
  have z9 : v_4 = lN rf := by subst_vars; rw [nI_l (by omega), lN_mul]
  subst z9
  refine va_put (D := (dC, dI)) (ci := 9) (v := .long (lN rf)) (ty := .long) (C := "RangeCodersModel") (T := T_M) (N := 35) hx hb hg in_M t_M o_M n_M hown hK hP hD hS 0 rfl rfl 28 (by decide) (hg _ k980) (fun _ h9 => h9) rfl (o_M 28 (by decide)) rfl rfl (Nat.le_of_ble_eq_true rfl) d_M_leave_15 (fun H locs hP hD hS => ?_)
  have hPD : my_PD (dC, dI) vwCl A [(o, Sum.inr (9, mO g 1 fShift fModels fItems fEnded fLow fRange fCache fPend fGoes fOuts (nI is.length) fReads fBad fIR (nI q) fBAsk (lN CD) (lN L) (lN rf) fX fWrites fThrown)), ((g 8), Sum.inl (cI, 6000, Sum.inl vIn))] H := ⟨hP, hD⟩
  have hP := hPD.1
  have hD := hPD.2
  refine lv_aload_n hx hb d_M_leave_18 rfl (lv_at hl 1 rfl) ?_
  refine va_get (D := (dC, dI)) (ci := 9) (v := .int 1) (C := "RangeCodersModel") (T := T_M) (N := 35) hx hb hg in_M hown hK hP 0 rfl rfl 0 (by decide) (hg _ k952) (fun _ h9 => h9) rfl d_M_leave_19 ?_
  refine lv_if_ne (tgt := 46) hx hb d_M_leave_22 (by decide) (fun c_5 => ?_) (fun c_5 => ?_)
  · refine lv_aload_n hx hb d_M_leave_46 rfl (lv_at hl 1 rfl) ?_
    refine lv_aload_n hx hb d_M_leave_47 rfl (lv_at hl 1 rfl) ?_
    refine va_get (D := (dC, dI)) (ci := 9) (v := .long (lN L)) (C := "RangeCodersModel") (T := T_M) (N := 35) hx hb hg in_M hown hK hP 0 rfl rfl 27 (by decide) (hg _ k979) (fun _ h9 => h9) rfl d_M_leave_48 ?_
    refine lv_lload hx hb d_M_leave_51 (lv_at hl 0 rfl) ?_
    refine lv_iload_n hx hb d_M_leave_53 rfl (lv_at hl 2 rfl) ?_
    refine lv_i2l hx hb d_M_leave_54 rfl ?_
    refine lv_topl (fun v_6 ev_6 => ?_)
    refine lv_lmul hx hb d_M_leave_55 ?_
    refine lv_topl (fun v_7 ev_7 => ?_)
    refine lv_ladd hx hb d_M_leave_56 ?_
    refine lv_topl (fun v_8 ev_8 => ?_)
    refine lv_ldc2 (v := 4294967295) hx hb hown (hg _ k927) d_M_leave_57 ?_
    refine lv_land hx hb d_M_leave_60 ?_
    refine lv_topl (fun v_9 ev_9 => ?_)
    have z9 : v_9 = lN (L + rc) := by subst_vars; rw [nI_l (by omega), lN_mul, lN_add, L_and32 (by omega), Nat.mod_eq_of_lt (by omega)]
    subst z9
    refine va_put (D := (dC, dI)) (ci := 9) (v := .long (lN (L + rc))) (ty := .long) (C := "RangeCodersModel") (T := T_M) (N := 35) hx hb hg in_M t_M o_M n_M hown hK hP hD hS 0 rfl rfl 27 (by decide) (hg _ k979) (fun _ h9 => h9) rfl (o_M 27 (by decide)) rfl rfl (Nat.le_of_ble_eq_true rfl) d_M_leave_61 (fun H locs hP hD hS => ?_)
    have hPD : my_PD (dC, dI) vwCl A [(o, Sum.inr (9, mO g 1 fShift fModels fItems fEnded fLow fRange fCache fPend fGoes fOuts (nI is.length) fReads fBad fIR (nI q) fBAsk (lN CD) (lN (L + rc)) (lN rf) fX fWrites fThrown)), ((g 8), Sum.inl (cI, 6000, Sum.inl vIn))] H := ⟨hP, hD⟩
    have hP := hPD.1
    have hD := hPD.2
    refine lv_aload_n hx hb d_M_leave_64 rfl (lv_at hl 1 rfl) ?_
    refine my_cv (wr := []) (va_runV (As := []) (rest := []) ⟨hx, hb, hml, hown, hts⟩ (c_M_widenReadPlain l dC dI cI cM cO H.size o g 1 fShift fModels fItems fEnded fLow fRange fCache fPend fGoes fOuts fReads fBad fIR fBAsk fX fWrites fThrown vIn rf (L + rc) CD is q (by assumption) (by assumption) (by assumption) (by assumption) (⟨by omega, by omega, by omega, fun z => by have := hp4 (by omega); omega⟩) (by assumption)) (cwV 0 hts (my_gV k1227 k1229 ks52 k12 k1230) rfl rfl rfl cu_M_widenReadPlain_0 ⟨by rw [hR]; exact Nat.le_of_ble_eq_true rfl, by rw [hR]; exact Nat.le_of_ble_eq_true rfl⟩) (my_preV hK hN (hP.sub [0, 1] rfl) (hD.sub [0, 1] (by decide +kernel) rfl) 0 rfl rfl) rfl rfl hl.1 rfl (lv_room (Nat.le_of_ble_eq_true rfl)) d_M_leave_65 ⟨by rw [hR]; exact Nat.le_of_ble_eq_true rfl, by rw [hR]; exact Nat.le_of_ble_eq_true rfl⟩) hP hD hS hA [0, 1] [] rfl rfl (by decide +kernel) (by decide +kernel) (fun u9 H locs hw_65 hP hD hS => ?_)
    have hw_65 : True := hw_65
    have hPD : my_PD (dC, dI) vwCl A [(o, Sum.inr (9, mO g 1 fShift fModels fItems fEnded fLow fRange fCache fPend fGoes fOuts (nI is.length) fReads fBad fIR (nI (prS is (rf, (L + rc), CD, q)).2.2.2) fBAsk (lN (prS is (rf, (L + rc), CD, q)).2.2.1) (lN (prS is (rf, (L + rc), CD, q)).2.1) (lN (prS is (rf, (L + rc), CD, q)).1) fX fWrites fThrown)), ((g 8), Sum.inl (cI, 6000, Sum.inl vIn))] H := ⟨hP, hD⟩
    have hP := hPD.1
    have hD := hPD.2
    subst hrc
    subst hrf
    
    
    exact my_vret hx hb hr hlocks hQ hK hS (Nat.le_refl _) (Nat.le_refl _) () (trivial) (hP.sub [0, 1] rfl) (hD.sub [0, 1] (by decide +kernel) rfl) d_M_leave_68
  · exact absurd c_5 (by decide)
set_option maxHeartbeats 1000000 in
set_option maxRecDepth 100000 in
/-- readBit -/
theorem c_M_readBit (l : Launch) (dC : Nat → ClassId) (dI : Nat → Nat → Nat) (cI cM cO : ClassId) (sz : Nat) (o : Nat) (g : Nat → Nat) (fForm : Int32) (fModels : Int32) (fItems : Int32) (fEnded : Int32) (fLow : Int64) (fRange : Int64) (fCache : Int32) (fPend : Int32) (fGoes : Int32) (fOuts : Int32) (fReads : Int32) (fBad : Int32) (fIR : Int32) (fBAsk : Int32) (fRL : Int64) (fX : Int64) (fWrites : Int32) (fThrown : Int32) (vThen : Nat → Int32) (vIn : Nat → Int32) (i : Nat) (pp : Nat) (sh : Nat) (bb : Nat) (RR : Nat) (CD : Nat) (is : List Nat) (q : Nat) (hI : gIs vIn is) (hlen : is.length ≤ 6000) (hoct : oct is) (hq : q < 900000) (hi : i < 512) (hp : vThen i = nI pp) (hp2 : pp ≤ 2048) (hsh : sh ≤ 10) (hb1 : 0 < bb) (hb2 : bb < RR) (hR1 : RR < 4294967296) (hC : CD < 4294967296) : MetI l y_M_readBit (Cond.code y_M_readBit prog_14_method_50_code 5 (some .int) :: gw) ({ frames := 2, cells := 0, slots := 0, locals := 41 } : Room) (dC, dI) vwCl (kT cI cM cO) [Value.ref o, Value.long (lN bb), Value.int (nI i)] [(o, Sum.inr (9, mO g fForm (nI sh) fModels fItems fEnded fLow fRange fCache fPend fGoes fOuts (nI is.length) fReads fBad fIR (nI q) fBAsk (lN CD) fRL (lN RR) fX fWrites fThrown)), ((g 3), Sum.inl (cI, 512, Sum.inl vThen)), ((g 8), Sum.inl (cI, 6000, Sum.inl vIn))] sz (fun (r : Int32) (u : (Nat → Int32)) => r = nI (rbt bb CD) ∧ u = upd vThen i (nI (mvC sh (rbt bb CD) pp))) (fun (u : (Nat → Int32)) => [(o, Sum.inr (9, mO g fForm (nI sh) fModels fItems fEnded fLow fRange fCache fPend fGoes fOuts (nI is.length) fReads fBad fIR (nI (wrS is (rbS bb RR CD q)).2.2) fBAsk (lN (wrS is (rbS bb RR CD q)).2.1) fRL (lN (wrS is (rbS bb RR CD q)).1) fX fWrites fThrown)), ((g 3), Sum.inl (cI, 512, Sum.inl u)), ((g 8), Sum.inl (cI, 6000, Sum.inl vIn))]) 0 0 := by
  refine my_ofI (cc := prog_14_method_50_code) (n := 5) (ret := (some .int)) (by decide) rfl (Nat.le_of_ble_eq_true rfl) ?_
  intro p e s m args below meth c R Q A ls H locs hx hb hr hts hown hlocks hml hnm hR hQ hA hl hP hK hN hD hS
  have hg : ∀ w ∈ gw, w.before args s = true := fun w h => hts w (List.mem_cons_of_mem _ h)
  have hown : s.vm.findClass "RangeCodersModel" = some m.cls := hown
  have hl : lv_has ls 5 [(0, Value.ref o), (1, Value.long (lN bb)), (3, Value.int (nI i))] := hl
  refine lv_aload_n hx hb d_M_readBit_0 rfl (lv_at hl 0 rfl) ?_
  refine va_get (D := (dC, dI)) (ci := 9) (v := .long (lN CD)) (C := "RangeCodersModel") (T := T_M) (N := 35) hx hb hg in_M hown hK hP 0 rfl rfl 26 (by decide) (hg _ k978) (fun _ h9 => h9) rfl d_M_readBit_1 ?_
  refine lv_lload_n hx hb d_M_readBit_4 rfl (lv_at hl 1 rfl) ?_
  refine W.lcmp hx hb d_M_readBit_5 ?_
  refine lv_if_ge (tgt := 13) hx hb d_M_readBit_6 (by decide) (fun c_1 => ?_) (fun c_1 => ?_)
  · rw [lg_cmp_ge] at c_1
    have hlt : ¬ CD < bb := by have := (L_le (by omega) (by omega)).mp c_1; omega
    refine lv_iconst (v := 1) hx hb d_M_readBit_13 (by decide) ?_
    refine lv_istore (lv' := [(4, Value.int 1), (0, Value.ref o), (1, Value.long (lN bb)), (3, Value.int (nI i))]) hx hb d_M_readBit_14 hl (by decide) rfl (fun ls hl => ?_)
    refine lv_iload hx hb d_M_readBit_16 (lv_at hl 0 rfl) ?_
    refine lv_if_ne (tgt := 29) hx hb d_M_readBit_18 (by decide) (fun c_2 => ?_) (fun c_2 => ?_)
    · refine lv_aload_n hx hb d_M_readBit_29 rfl (lv_at hl 1 rfl) ?_
      refine lv_aload_n hx hb d_M_readBit_30 rfl (lv_at hl 1 rfl) ?_
      refine va_get (D := (dC, dI)) (ci := 9) (v := .long (lN CD)) (C := "RangeCodersModel") (T := T_M) (N := 35) hx hb hg in_M hown hK hP 0 rfl rfl 26 (by decide) (hg _ k978) (fun _ h9 => h9) rfl d_M_readBit_31 ?_
      refine lv_lload_n hx hb d_M_readBit_34 rfl (lv_at hl 2 rfl) ?_
      refine lv_lsub hx hb d_M_readBit_35 ?_
      refine lv_topl (fun v_3 ev_3 => ?_)
      have z9 : v_3 = lN (CD - bb) := by subst_vars; exact lN_sub (by omega)
      subst z9
      refine va_put (D := (dC, dI)) (ci := 9) (v := .long (lN (CD - bb))) (ty := .long) (C := "RangeCodersModel") (T := T_M) (N := 35) hx hb hg in_M t_M o_M n_M hown hK hP hD hS 0 rfl rfl 26 (by decide) (hg _ k978) (fun _ h9 => h9) rfl (o_M 26 (by decide)) rfl rfl (Nat.le_of_ble_eq_true rfl) d_M_readBit_36 (fun H locs hP hD hS => ?_)
      have hPD : my_PD (dC, dI) vwCl A [(o, Sum.inr (9, mO g fForm (nI sh) fModels fItems fEnded fLow fRange fCache fPend fGoes fOuts (nI is.length) fReads fBad fIR (nI q) fBAsk (lN (CD - bb)) fRL (lN RR) fX fWrites fThrown)), ((g 3), Sum.inl (cI, 512, Sum.inl vThen)), ((g 8), Sum.inl (cI, 6000, Sum.inl vIn))] H := ⟨hP, hD⟩
      have hP := hPD.1
      have hD := hPD.2
      refine lv_aload_n hx hb d_M_readBit_39 rfl (lv_at hl 1 rfl) ?_
      refine lv_aload_n hx hb d_M_readBit_40 rfl (lv_at hl 1 rfl) ?_
      refine va_get (D := (dC, dI)) (ci := 9) (v := .long (lN RR)) (C := "RangeCodersModel") (T := T_M) (N := 35) hx hb hg in_M hown hK hP 0 rfl rfl 28 (by decide) (hg _ k980) (fun _ h9 => h9) rfl d_M_readBit_41 ?_
      refine lv_lload_n hx hb d_M_readBit_44 rfl (lv_at hl 2 rfl) ?_
      refine lv_lsub hx hb d_M_readBit_45 ?_
      refine lv_topl (fun v_4 ev_4 => ?_)
      have z9 : v_4 = lN (RR - bb) := by subst_vars; exact lN_sub (by omega)
      subst z9
      refine va_put (D := (dC, dI)) (ci := 9) (v := .long (lN (RR - bb))) (ty := .long) (C := "RangeCodersModel") (T := T_M) (N := 35) hx hb hg in_M t_M o_M n_M hown hK hP hD hS 0 rfl rfl 28 (by decide) (hg _ k980) (fun _ h9 => h9) rfl (o_M 28 (by decide)) rfl rfl (Nat.le_of_ble_eq_true rfl) d_M_readBit_46 (fun H locs hP hD hS => ?_)
      have hPD : my_PD (dC, dI) vwCl A [(o, Sum.inr (9, mO g fForm (nI sh) fModels fItems fEnded fLow fRange fCache fPend fGoes fOuts (nI is.length) fReads fBad fIR (nI q) fBAsk (lN (CD - bb)) fRL (lN (RR - bb)) fX fWrites fThrown)), ((g 3), Sum.inl (cI, 512, Sum.inl vThen)), ((g 8), Sum.inl (cI, 6000, Sum.inl vIn))] H := ⟨hP, hD⟩
      have hP := hPD.1
      have hD := hPD.2
      refine lv_aload_n hx hb d_M_readBit_49 rfl (lv_at hl 1 rfl) ?_
      refine lv_aload_n hx hb d_M_readBit_50 rfl (lv_at hl 1 rfl) ?_
      refine va_get (D := (dC, dI)) (ci := 9) (v := .ref (g 3)) (C := "RangeCodersModel") (T := T_M) (N := 35) hx hb hg in_M hown hK hP 0 rfl rfl 6 (by decide) (hg _ k958) (fun _ h9 => h9) rfl d_M_readBit_51 ?_
      refine lv_iload_n hx hb d_M_readBit_54 rfl (lv_at hl 3 rfl) ?_
      refine lv_iload hx hb d_M_readBit_55 (lv_at hl 0 rfl) ?_
      refine W.eq (g2 := F0 m 57 ls [Value.int (nI 1), Value.int (nI i), Value.ref (g 3), Value.ref o]) rfl ?_
      refine my_cv (wr := [((g 8), Sum.inl (cI, 6000, Sum.inl vIn))]) (va_runV (As := [Value.ref (g 3), Value.int (nI i), Value.int (nI 1)]) (rest := []) ⟨hx, hb, hml, hown, hts⟩ (c_M_moveChance l dC dI cI cM cO H.size o g fForm (nI sh) fModels fItems fEnded fLow fRange fCache fPend fGoes fOuts (nI is.length) fReads fBad fIR (nI q) fBAsk (lN (CD - bb)) fRL (lN (RR - bb)) fX fWrites fThrown (g 3) vThen i pp 1 sh (by assumption) (by assumption) (by assumption) (by assumption) (rfl) (by decide)) (cwV 3 hts (my_gV k1131 k1133 ks37 k12 k1134) rfl rfl rfl cu_M_moveChance_3 ⟨by rw [hR]; exact Nat.le_of_ble_eq_true rfl, by rw [hR]; exact Nat.le_of_ble_eq_true rfl⟩) (my_preV hK hN (hP.sub [0, 1] rfl) (hD.sub [0, 1] (by decide +kernel) rfl) 0 rfl rfl) rfl rfl hl.1 rfl (lv_room (Nat.le_of_ble_eq_true rfl)) d_M_readBit_57 ⟨by rw [hR]; exact Nat.le_of_ble_eq_true rfl, by rw [hR]; exact Nat.le_of_ble_eq_true rfl⟩) hP hD hS hA [0, 1] [2] rfl rfl (by decide +kernel) (by decide +kernel) (fun u9 H locs hw_57 hP hD hS => ?_)
      obtain ⟨f2_57, rfl⟩ : ∃ z, z = u9 := ⟨_, rfl⟩
      have hw_57 : f2_57 = upd vThen i (nI (mvC sh 1 pp)) := hw_57
      have hPD : my_PD (dC, dI) vwCl A [((g 8), Sum.inl (cI, 6000, Sum.inl vIn)), (o, Sum.inr (9, mO g fForm (nI sh) fModels fItems fEnded fLow fRange fCache fPend fGoes fOuts (nI is.length) fReads fBad fIR (nI q) fBAsk (lN (CD - bb)) fRL (lN (RR - bb)) fX fWrites fThrown)), ((g 3), Sum.inl (cI, 512, Sum.inl f2_57))] H := ⟨hP, hD⟩
      have hP := hPD.1
      have hD := hPD.2
      refine lv_aload_n hx hb d_M_readBit_60 rfl (lv_at hl 1 rfl) ?_
      refine my_cv (wr := [((g 3), Sum.inl (cI, 512, Sum.inl f2_57))]) (va_runV (As := []) (rest := []) ⟨hx, hb, hml, hown, hts⟩ (c_M_widenRead l dC dI cI cM cO H.size o g fForm (nI sh) fModels fItems fEnded fLow fRange fCache fPend fGoes fOuts fReads fBad fIR fBAsk fRL fX fWrites fThrown vIn (RR - bb) (CD - bb) is q (by assumption) (by assumption) (by assumption) (by assumption) (by omega) (by omega) (by omega)) (cwV 0 hts (my_gV k1223 k1225 ks51 k12 k1226) rfl rfl rfl cu_M_widenRead_0 ⟨by rw [hR]; exact Nat.le_of_ble_eq_true rfl, by rw [hR]; exact Nat.le_of_ble_eq_true rfl⟩) (my_preV hK hN (hP.sub [1, 0] rfl) (hD.sub [1, 0] (by decide +kernel) rfl) 0 rfl rfl) rfl rfl hl.1 rfl (lv_room (Nat.le_of_ble_eq_true rfl)) d_M_readBit_61 ⟨by rw [hR]; exact Nat.le_of_ble_eq_true rfl, by rw [hR]; exact Nat.le_of_ble_eq_true rfl⟩) hP hD hS hA [1, 0] [2] rfl rfl (by decide +kernel) (by decide +kernel) (fun u9 H locs hw_61 hP hD hS => ?_)
      have hw_61 : True := hw_61
      have hPD : my_PD (dC, dI) vwCl A [((g 3), Sum.inl (cI, 512, Sum.inl f2_57)), (o, Sum.inr (9, mO g fForm (nI sh) fModels fItems fEnded fLow fRange fCache fPend fGoes fOuts (nI is.length) fReads fBad fIR (nI (wrS is ((RR - bb), (CD - bb), q)).2.2) fBAsk (lN (wrS is ((RR - bb), (CD - bb), q)).2.1) fRL (lN (wrS is ((RR - bb), (CD - bb), q)).1) fX fWrites fThrown)), ((g 8), Sum.inl (cI, 6000, Sum.inl vIn))] H := ⟨hP, hD⟩
      have hP := hPD.1
      have hD := hPD.2
      refine lv_iload hx hb d_M_readBit_64 (lv_at hl 0 rfl) ?_
      rw [show ((RR - bb), (CD - bb), q) = rbS bb RR CD q by unfold rbS; rw [if_neg hlt]] at hP hD
      exact my_iret (v := 1) hx hb hr (rfl) hlocks hQ hK hS (Nat.le_refl _) (Nat.le_refl _) f2_57 (by unfold rbt; rw [if_neg hlt]; exact ⟨rfl, hw_57⟩) (hP.sub [1, 0, 2] rfl) (hD.sub [1, 0, 2] (by decide +kernel) rfl) d_M_readBit_66
    · exact absurd c_2 (by decide)
  · rw [lg_cmp_ge] at c_1
    have hlt : CD < bb := by
      rcases Nat.lt_or_ge CD bb with z | z
      · exact z
      · exact absurd ((L_le (by omega) (by omega)).mpr z) c_1
    refine lv_iconst (v := 0) hx hb d_M_readBit_9 (by decide) ?_
    refine lv_goto (tgt := 14) hx hb d_M_readBit_10 (by decide) ?_
    refine lv_istore (lv' := [(4, Value.int 0), (0, Value.ref o), (1, Value.long (lN bb)), (3, Value.int (nI i))]) hx hb d_M_readBit_14 hl (by decide) rfl (fun ls hl => ?_)
    refine lv_iload hx hb d_M_readBit_16 (lv_at hl 0 rfl) ?_
    refine lv_if_ne (tgt := 29) hx hb d_M_readBit_18 (by decide) (fun c_5 => ?_) (fun c_5 => ?_)
    · exact absurd rfl c_5
    · refine lv_aload_n hx hb d_M_readBit_21 rfl (lv_at hl 1 rfl) ?_
      refine lv_lload_n hx hb d_M_readBit_22 rfl (lv_at hl 2 rfl) ?_
      refine va_put (D := (dC, dI)) (ci := 9) (v := .long (lN bb)) (ty := .long) (C := "RangeCodersModel") (T := T_M) (N := 35) hx hb hg in_M t_M o_M n_M hown hK hP hD hS 0 rfl rfl 28 (by decide) (hg _ k980) (fun _ h9 => h9) rfl (o_M 28 (by decide)) rfl rfl (Nat.le_of_ble_eq_true rfl) d_M_readBit_23 (fun H locs hP hD hS => ?_)
      have hPD : my_PD (dC, dI) vwCl A [(o, Sum.inr (9, mO g fForm (nI sh) fModels fItems fEnded fLow fRange fCache fPend fGoes fOuts (nI is.length) fReads fBad fIR (nI q) fBAsk (lN CD) fRL (lN bb) fX fWrites fThrown)), ((g 3), Sum.inl (cI, 512, Sum.inl vThen)), ((g 8), Sum.inl (cI, 6000, Sum.inl vIn))] H := ⟨hP, hD⟩
      have hP := hPD.1
      have hD := hPD.2
      refine lv_goto (tgt := 49) hx hb d_M_readBit_26 (by decide) ?_
      refine lv_aload_n hx hb d_M_readBit_49 rfl (lv_at hl 1 rfl) ?_
      refine lv_aload_n hx hb d_M_readBit_50 rfl (lv_at hl 1 rfl) ?_
      refine va_get (D := (dC, dI)) (ci := 9) (v := .ref (g 3)) (C := "RangeCodersModel") (T := T_M) (N := 35) hx hb hg in_M hown hK hP 0 rfl rfl 6 (by decide) (hg _ k958) (fun _ h9 => h9) rfl d_M_readBit_51 ?_
      refine lv_iload_n hx hb d_M_readBit_54 rfl (lv_at hl 3 rfl) ?_
      refine lv_iload hx hb d_M_readBit_55 (lv_at hl 0 rfl) ?_
      refine W.eq (g2 := F0 m 57 ls [Value.int (nI 0), Value.int (nI i), Value.ref (g 3), Value.ref o]) rfl ?_
      refine my_cv (wr := [((g 8), Sum.inl (cI, 6000, Sum.inl vIn))]) (va_runV (As := [Value.ref (g 3), Value.int (nI i), Value.int (nI 0)]) (rest := []) ⟨hx, hb, hml, hown, hts⟩ (c_M_moveChance l dC dI cI cM cO H.size o g fForm (nI sh) fModels fItems fEnded fLow fRange fCache fPend fGoes fOuts (nI is.length) fReads fBad fIR (nI q) fBAsk (lN CD) fRL (lN bb) fX fWrites fThrown (g 3) vThen i pp 0 sh (by assumption) (by assumption) (by assumption) (by assumption) (rfl) (by decide)) (cwV 3 hts (my_gV k1131 k1133 ks37 k12 k1134) rfl rfl rfl cu_M_moveChance_3 ⟨by rw [hR]; exact Nat.le_of_ble_eq_true rfl, by rw [hR]; exact Nat.le_of_ble_eq_true rfl⟩) (my_preV hK hN (hP.sub [0, 1] rfl) (hD.sub [0, 1] (by decide +kernel) rfl) 0 rfl rfl) rfl rfl hl.1 rfl (lv_room (Nat.le_of_ble_eq_true rfl)) d_M_readBit_57 ⟨by rw [hR]; exact Nat.le_of_ble_eq_true rfl, by rw [hR]; exact Nat.le_of_ble_eq_true rfl⟩) hP hD hS hA [0, 1] [2] rfl rfl (by decide +kernel) (by decide +kernel) (fun u9 H locs hw_57 hP hD hS => ?_)
      obtain ⟨f2_57, rfl⟩ : ∃ z, z = u9 := ⟨_, rfl⟩
      have hw_57 : f2_57 = upd vThen i (nI (mvC sh 0 pp)) := hw_57
      have hPD : my_PD (dC, dI) vwCl A [((g 8), Sum.inl (cI, 6000, Sum.inl vIn)), (o, Sum.inr (9, mO g fForm (nI sh) fModels fItems fEnded fLow fRange fCache fPend fGoes fOuts (nI is.length) fReads fBad fIR (nI q) fBAsk (lN CD) fRL (lN bb) fX fWrites fThrown)), ((g 3), Sum.inl (cI, 512, Sum.inl f2_57))] H := ⟨hP, hD⟩
      have hP := hPD.1
      have hD := hPD.2
      refine lv_aload_n hx hb d_M_readBit_60 rfl (lv_at hl 1 rfl) ?_
      refine my_cv (wr := [((g 3), Sum.inl (cI, 512, Sum.inl f2_57))]) (va_runV (As := []) (rest := []) ⟨hx, hb, hml, hown, hts⟩ (c_M_widenRead l dC dI cI cM cO H.size o g fForm (nI sh) fModels fItems fEnded fLow fRange fCache fPend fGoes fOuts fReads fBad fIR fBAsk fRL fX fWrites fThrown vIn bb CD is q (by assumption) (by assumption) (by assumption) (by assumption) (by omega) (by omega) (by omega)) (cwV 0 hts (my_gV k1223 k1225 ks51 k12 k1226) rfl rfl rfl cu_M_widenRead_0 ⟨by rw [hR]; exact Nat.le_of_ble_eq_true rfl, by rw [hR]; exact Nat.le_of_ble_eq_true rfl⟩) (my_preV hK hN (hP.sub [1, 0] rfl) (hD.sub [1, 0] (by decide +kernel) rfl) 0 rfl rfl) rfl rfl hl.1 rfl (lv_room (Nat.le_of_ble_eq_true rfl)) d_M_readBit_61 ⟨by rw [hR]; exact Nat.le_of_ble_eq_true rfl, by rw [hR]; exact Nat.le_of_ble_eq_true rfl⟩) hP hD hS hA [1, 0] [2] rfl rfl (by decide +kernel) (by decide +kernel) (fun u9 H locs hw_61 hP hD hS => ?_)
      have hw_61 : True := hw_61
      have hPD : my_PD (dC, dI) vwCl A [((g 3), Sum.inl (cI, 512, Sum.inl f2_57)), (o, Sum.inr (9, mO g fForm (nI sh) fModels fItems fEnded fLow fRange fCache fPend fGoes fOuts (nI is.length) fReads fBad fIR (nI (wrS is (bb, CD, q)).2.2) fBAsk (lN (wrS is (bb, CD, q)).2.1) fRL (lN (wrS is (bb, CD, q)).1) fX fWrites fThrown)), ((g 8), Sum.inl (cI, 6000, Sum.inl vIn))] H := ⟨hP, hD⟩
      have hP := hPD.1
      have hD := hPD.2
      refine lv_iload hx hb d_M_readBit_64 (lv_at hl 0 rfl) ?_
      rw [show (bb, CD, q) = rbS bb RR CD q by unfold rbS; rw [if_pos hlt]] at hP hD
      exact my_iret (v := 0) hx hb hr (rfl) hlocks hQ hK hS (Nat.le_refl _) (Nat.le_refl _) f2_57 (by unfold rbt; rw [if_pos hlt]; exact ⟨rfl, hw_57⟩) (hP.sub [1, 0, 2] rfl) (hD.sub [1, 0, 2] (by decide +kernel) rfl) d_M_readBit_66
end
section
set_option maxHeartbeats 1000000 in
set_option maxRecDepth 100000 in
/-- plainBits -/
theorem c_M_plainBits (l : Launch) (dC : Nat → ClassId) (dI : Nat → Nat → Nat) (cI cM cO : ClassId) (sz : Nat) (o : Nat) (g : Nat → Nat) (fForm : Int32) (fShift : Int32) (fModels : Int32) (fItems : Int32) (fEnded : Int32) (fLow : Int64) (fRange : Int64) (fCache : Int32) (fPend : Int32) (fGoes : Int32) (fOuts : Int32) (fReads : Int32) (fBad : Int32) (fIR : Int32) (fBAsk : Int32) (fRL : Int64) (fX : Int64) (fWrites : Int32) (fThrown : Int32) (vIn : Nat → Int32) (b : Nat) (RR : Nat) (CD : Nat) (is : List Nat) (q : Nat) (hIn : gIs vIn is) (hlen : is.length ≤ 6000) (hoct : oct is) (hq : q < 800000) (hb2 : b ≤ 12) (hI : rInv (RR, CD, q)) : MetI l y_M_plainBits (Cond.code y_M_plainBits prog_14_method_59_code 5 (some .int) :: gw) ({ frames := 2, cells := 0, slots := 0, locals := 41 } : Room) (dC, dI) vwCl (kT cI cM cO) [Value.ref o, Value.int (nI b)] [(o, Sum.inr (9, mO g fForm fShift fModels fItems fEnded fLow fRange fCache fPend fGoes fOuts (nI is.length) fReads fBad fIR (nI q) fBAsk (lN CD) fRL (lN RR) fX fWrites fThrown)), ((g 8), Sum.inl (cI, 6000, Sum.inl vIn))] sz (fun (r : Int32) (u : Unit) => r = oI (pbS is b (RR, CD, q)).1) (fun (u : Unit) => [(o, Sum.inr (9, mO g fForm fShift fModels fItems fEnded fLow fRange fCache fPend fGoes fOuts (nI is.length) fReads fBad fIR (nI (pbS is b (RR, CD, q)).2.2.2) fBAsk (lN (pbS is b (RR, CD, q)).2.2.1) fRL (lN (pbS is b (RR, CD, q)).2.1) fX fWrites fThrown)), ((g 8), Sum.inl (cI, 6000, Sum.inl vIn))]) 0 0 := by
  refine my_ofI (cc := prog_14_method_59_code) (n := 5) (ret := (some .int)) (by decide) rfl (Nat.le_of_ble_eq_true rfl) ?_
  intro p e s m args below meth c R Q A ls H locs hx hb hr hts hown hlocks hml hnm hR hQ hA hl hP hK hN hD hS
  have hg : ∀ w ∈ gw, w.before args s = true := fun w h => hts w (List.mem_cons_of_mem _ h)
  have hown : s.vm.findClass "RangeCodersModel" = some m.cls := hown
  have hl : lv_has ls 5 [(0, Value.ref o), (1, Value.int (nI b))] := hl
  obtain ⟨hi1, hi2, hi3⟩ := id hI
  simp only at hi1 hi2 hi3
  refine lv_aload_n hx hb d_M_plainBits_0 rfl (lv_at hl 0 rfl) ?_
  refine va_get (D := (dC, dI)) (ci := 9) (v := .long (lN CD)) (C := "RangeCodersModel") (T := T_M) (N := 35) hx hb hg in_M hown hK hP 0 rfl rfl 26 (by decide) (hg _ k978) (fun _ h9 => h9) rfl d_M_plainBits_1 ?_
  refine lv_aload_n hx hb d_M_plainBits_4 rfl (lv_at hl 0 rfl) ?_
  refine va_get (D := (dC, dI)) (ci := 9) (v := .long (lN RR)) (C := "RangeCodersModel") (T := T_M) (N := 35) hx hb hg in_M hown hK hP 0 rfl rfl 28 (by decide) (hg _ k980) (fun _ h9 => h9) rfl d_M_plainBits_5 ?_
  refine W.lcmp hx hb d_M_plainBits_8 ?_
  refine lv_if_lt (tgt := 14) hx hb d_M_plainBits_9 (by decide) (fun c_1 => ?_) (fun c_1 => ?_)
  · rw [lg_cmp_lt] at c_1
    have hlt0 : CD < RR := (L_lt (by omega) (by omega)).mp c_1
    refine lv_iconst (v := 0) hx hb d_M_plainBits_14 (by decide) ?_
    refine lv_istore_n (lv' := [(2, Value.int 0), (0, Value.ref o), (1, Value.int (nI b))]) hx hb d_M_plainBits_15 rfl hl (by decide) rfl (fun ls hl => ?_)
    refine lv_iconst (v := 0) hx hb d_M_plainBits_16 (by decide) ?_
    refine lv_istore_n (lv' := [(3, Value.int 0), (2, Value.int 0), (0, Value.ref o), (1, Value.int (nI b))]) hx hb d_M_plainBits_17 rfl hl (by decide) rfl (fun ls hl => ?_)
    have J_18 : ∀ (n9_18 : Nat) (i9 : Int32) (v9 : Int32) (j : Nat) (vv : Nat) (r9 : RS) (hn9_18 : b - j = n9_18) (hi : i9 = nI j) (hv : v9 = nI vv) (hj : j ≤ b) (hE9 : pbS is b (RR, CD, q) = pbN is (b - j) vv r9) (hI9 : rInv r9) (hq9 : r9.2.2 ≤ q + 3 * j) (hvv : vv < 2 ^ j) (H : Heap) (locs : List Loc) (ls : Array Slot), va_P (dC, dI) vwCl [(o, Sum.inr (9, mO g fForm fShift fModels fItems fEnded fLow fRange fCache fPend fGoes fOuts (nI is.length) fReads fBad fIR (nI r9.2.2) fBAsk (lN r9.2.1) fRL (lN r9.1) fX fWrites fThrown)), ((g 8), Sum.inl (cI, 6000, Sum.inl vIn))] H → va_D A [(o, Sum.inr (9, mO g fForm fShift fModels fItems fEnded fLow fRange fCache fPend fGoes fOuts (nI is.length) fReads fBad fIR (nI r9.2.2) fBAsk (lN r9.2.1) fRL (lN r9.1) fX fWrites fThrown)), ((g 8), Sum.inl (cI, 6000, Sum.inl vIn))] → va_S A s.heap H locs → lv_has ls 5 [(3, Value.int i9), (2, Value.int v9), (0, Value.ref o), (1, Value.int (nI b))] → W p l e R s m args below meth c H locs 0 0 Q (F0 m 18 ls []) := by
      intro n9_18
      induction n9_18 using Nat.strongRecOn with
      | ind n9_18 ih9_18 =>
        intro i9 v9 j vv r9 hn9_18 hi hv hj hE9 hI9 hq9 hvv H locs ls hP hD hS hl
        obtain ⟨hr1, hr2, hr3⟩ := id hI9
        have hp9 : 2 ^ j ≤ 2 ^ 12 := Nat.pow_le_pow_right (by decide) (by omega)
        refine lv_iload_n hx hb d_M_plainBits_18 rfl (lv_at hl 0 rfl) ?_
        refine lv_iload_n hx hb d_M_plainBits_19 rfl (lv_at hl 3 rfl) ?_
        refine lv_icmp_ge (tgt := 109) hx hb d_M_plainBits_20 (by decide) (fun c_2 => ?_) (fun c_2 => ?_)
        · have hj3 : j = b := by rw [hi] at c_2; have := (nI_cmp (by omega) (by omega)).mp c_2; omega
          have hxx : pbS is b (RR, CD, q) = (some vv, r9) := by rw [hE9, hj3, Nat.sub_self]; rfl
          refine lv_iload_n hx hb d_M_plainBits_109 rfl (lv_at hl 1 rfl) ?_
          exact my_iret (v := v9) hx hb hr (rfl) hlocks hQ hK hS (Nat.le_refl _) (Nat.le_refl _) () (by rw [hxx]; exact hv) (by rw [hxx]; exact (hP.sub [0, 1] rfl)) (by rw [hxx]; exact (hD.sub [0, 1] (by decide +kernel) rfl)) d_M_plainBits_110
        · have hj2 : j < b := by
            rcases Nat.lt_or_ge j b with z | z
            · exact z
            · exact absurd (by rw [hi]; exact nI_le z (by omega)) c_2
          refine lv_aload_n hx hb d_M_plainBits_23 rfl (lv_at hl 2 rfl) ?_
          refine lv_aload_n hx hb d_M_plainBits_24 rfl (lv_at hl 2 rfl) ?_
          refine va_get (D := (dC, dI)) (ci := 9) (v := .long (lN r9.1)) (C := "RangeCodersModel") (T := T_M) (N := 35) hx hb hg in_M hown hK hP 0 rfl rfl 28 (by decide) (hg _ k980) (fun _ h9 => h9) rfl d_M_plainBits_25 ?_
          refine lv_iconst (v := 1) hx hb d_M_plainBits_28 (by decide) ?_
          refine lv_lshr hx hb d_M_plainBits_29 rfl ?_
          refine lv_topl (fun v_3 ev_3 => ?_)
          have z9 : v_3 = lN (r9.1 / 2) := by subst_vars; exact L_shr1 (by omega)
          subst z9
          refine va_put (D := (dC, dI)) (ci := 9) (v := .long (lN (r9.1 / 2))) (ty := .long) (C := "RangeCodersModel") (T := T_M) (N := 35) hx hb hg in_M t_M o_M n_M hown hK hP hD hS 0 rfl rfl 28 (by decide) (hg _ k980) (fun _ h9 => h9) rfl (o_M 28 (by decide)) rfl rfl (Nat.le_of_ble_eq_true rfl) d_M_plainBits_30 (fun H locs hP hD hS => ?_)
          have hPD : my_PD (dC, dI) vwCl A [(o, Sum.inr (9, mO g fForm fShift fModels fItems fEnded fLow fRange fCache fPend fGoes fOuts (nI is.length) fReads fBad fIR (nI r9.2.2) fBAsk (lN r9.2.1) fRL (lN (r9.1 / 2)) fX fWrites fThrown)), ((g 8), Sum.inl (cI, 6000, Sum.inl vIn))] H := ⟨hP, hD⟩
          have hP := hPD.1
          have hD := hPD.2
          refine lv_aload_n hx hb d_M_plainBits_33 rfl (lv_at hl 2 rfl) ?_
          refine va_get (D := (dC, dI)) (ci := 9) (v := .long (lN r9.2.1)) (C := "RangeCodersModel") (T := T_M) (N := 35) hx hb hg in_M hown hK hP 0 rfl rfl 26 (by decide) (hg _ k978) (fun _ h9 => h9) rfl d_M_plainBits_34 ?_
          refine lv_aload_n hx hb d_M_plainBits_37 rfl (lv_at hl 2 rfl) ?_
          refine va_get (D := (dC, dI)) (ci := 9) (v := .long (lN (r9.1 / 2))) (C := "RangeCodersModel") (T := T_M) (N := 35) hx hb hg in_M hown hK hP 0 rfl rfl 28 (by decide) (hg _ k980) (fun _ h9 => h9) rfl d_M_plainBits_38 ?_
          refine W.lcmp hx hb d_M_plainBits_41 ?_
          refine lv_if_ge (tgt := 49) hx hb d_M_plainBits_42 (by decide) (fun c_4 => ?_) (fun c_4 => ?_)
          · rw [lg_cmp_ge] at c_4
            have hlt : ¬ r9.2.1 < r9.1 / 2 := by have := (L_le (by omega) (by omega)).mp c_4; omega
            have hcr : crd r9 = r9.2.1 - r9.1 / 2 := by unfold crd; rw [if_neg hlt]
            have hrb : rbt (r9.1 / 2) r9.2.1 = 1 := by unfold rbt; rw [if_neg hlt]
            refine lv_iconst (v := 1) hx hb d_M_plainBits_49 (by decide) ?_
            refine lv_istore (lv' := [(4, Value.int 1), (3, Value.int i9), (2, Value.int v9), (0, Value.ref o), (1, Value.int (nI b))]) hx hb d_M_plainBits_50 hl (by decide) rfl (fun ls hl => ?_)
            refine lv_aload_n hx hb d_M_plainBits_52 rfl (lv_at hl 3 rfl) ?_
            refine lv_iload hx hb d_M_plainBits_53 (lv_at hl 0 rfl) ?_
            refine lv_iconst (v := 1) hx hb d_M_plainBits_55 (by decide) ?_
            refine lv_icmp_ne (tgt := 71) hx hb d_M_plainBits_56 (by decide) (fun c_5 => ?_) (fun c_5 => ?_)
            · exact absurd rfl c_5
            · refine lv_aload_n hx hb d_M_plainBits_59 rfl (lv_at hl 3 rfl) ?_
              refine va_get (D := (dC, dI)) (ci := 9) (v := .long (lN r9.2.1)) (C := "RangeCodersModel") (T := T_M) (N := 35) hx hb hg in_M hown hK hP 0 rfl rfl 26 (by decide) (hg _ k978) (fun _ h9 => h9) rfl d_M_plainBits_60 ?_
              refine lv_aload_n hx hb d_M_plainBits_63 rfl (lv_at hl 3 rfl) ?_
              refine va_get (D := (dC, dI)) (ci := 9) (v := .long (lN (r9.1 / 2))) (C := "RangeCodersModel") (T := T_M) (N := 35) hx hb hg in_M hown hK hP 0 rfl rfl 28 (by decide) (hg _ k980) (fun _ h9 => h9) rfl d_M_plainBits_64 ?_
              refine lv_lsub hx hb d_M_plainBits_67 ?_
              refine lv_topl (fun v_6 ev_6 => ?_)
              refine lv_goto (tgt := 75) hx hb d_M_plainBits_68 (by decide) ?_
              have z9 : v_6 = lN (crd r9) := by subst_vars; rw [hcr]; exact lN_sub (by omega)
              subst z9
              refine va_put (D := (dC, dI)) (ci := 9) (v := .long (lN (crd r9))) (ty := .long) (C := "RangeCodersModel") (T := T_M) (N := 35) hx hb hg in_M t_M o_M n_M hown hK hP hD hS 0 rfl rfl 26 (by decide) (hg _ k978) (fun _ h9 => h9) rfl (o_M 26 (by decide)) rfl rfl (Nat.le_of_ble_eq_true rfl) d_M_plainBits_75 (fun H locs hP hD hS => ?_)
              have hPD : my_PD (dC, dI) vwCl A [(o, Sum.inr (9, mO g fForm fShift fModels fItems fEnded fLow fRange fCache fPend fGoes fOuts (nI is.length) fReads fBad fIR (nI r9.2.2) fBAsk (lN (crd r9)) fRL (lN (r9.1 / 2)) fX fWrites fThrown)), ((g 8), Sum.inl (cI, 6000, Sum.inl vIn))] H := ⟨hP, hD⟩
              have hP := hPD.1
              have hD := hPD.2
              have hc32 : crd r9 < 4294967296 := by rw [hcr]; omega
              refine lv_aload_n hx hb d_M_plainBits_78 rfl (lv_at hl 3 rfl) ?_
              refine va_get (D := (dC, dI)) (ci := 9) (v := .long (lN (crd r9))) (C := "RangeCodersModel") (T := T_M) (N := 35) hx hb hg in_M hown hK hP 0 rfl rfl 26 (by decide) (hg _ k978) (fun _ h9 => h9) rfl d_M_plainBits_79 ?_
              refine lv_aload_n hx hb d_M_plainBits_82 rfl (lv_at hl 3 rfl) ?_
              refine va_get (D := (dC, dI)) (ci := 9) (v := .long (lN (r9.1 / 2))) (C := "RangeCodersModel") (T := T_M) (N := 35) hx hb hg in_M hown hK hP 0 rfl rfl 28 (by decide) (hg _ k980) (fun _ h9 => h9) rfl d_M_plainBits_83 ?_
              refine W.lcmp hx hb d_M_plainBits_86 ?_
              refine lv_if_lt (tgt := 92) hx hb d_M_plainBits_87 (by decide) (fun c_7 => ?_) (fun c_7 => ?_)
              · rw [lg_cmp_lt] at c_7
                have hlt2 : crd r9 < r9.1 / 2 := (L_lt (by omega) (by omega)).mp c_7
                have hwr := wr_inv hoct (r := (r9.1 / 2, crd r9, r9.2.2)) (by show 0 < r9.1 / 2; omega) (by show r9.1 / 2 < _; omega) hc32
                refine lv_iconst (v := 2) hx hb d_M_plainBits_92 (by decide) ?_
                refine lv_iload_n hx hb d_M_plainBits_93 rfl (lv_at hl 2 rfl) ?_
                refine lv_imul hx hb d_M_plainBits_94 ?_
                refine lv_topi (fun v_8 ev_8 => ?_)
                refine lv_iload hx hb d_M_plainBits_95 (lv_at hl 0 rfl) ?_
                refine lv_iadd hx hb d_M_plainBits_97 ?_
                refine lv_topi (fun v_9 ev_9 => ?_)
                have hvn : v_9 = nI (2 * vv + rbt (r9.1 / 2) r9.2.1) := by subst_vars; rw [hrb, show (2 : Int32) * nI vv = nI (2 * vv) from pk_mul 2 vv]; exact nI_add (2 * vv) 1
                refine lv_istore_n (lv' := [(2, Value.int v_9), (4, Value.int 1), (3, Value.int i9), (0, Value.ref o), (1, Value.int (nI b))]) hx hb d_M_plainBits_98 rfl hl (by decide) rfl (fun ls hl => ?_)
                refine lv_aload_n hx hb d_M_plainBits_99 rfl (lv_at hl 3 rfl) ?_
                refine my_cv (wr := []) (va_runV (As := []) (rest := []) ⟨hx, hb, hml, hown, hts⟩ (c_M_widenRead l dC dI cI cM cO H.size o g fForm fShift fModels fItems fEnded fLow fRange fCache fPend fGoes fOuts fReads fBad fIR fBAsk fRL fX fWrites fThrown vIn (r9.1 / 2) (crd r9) is r9.2.2 (hIn) (by assumption) (by assumption) (by omega) (by omega) (by omega) (hc32)) (cwV 0 hts (my_gV k1223 k1225 ks51 k12 k1226) rfl rfl rfl cu_M_widenRead_0 ⟨by rw [hR]; exact Nat.le_of_ble_eq_true rfl, by rw [hR]; exact Nat.le_of_ble_eq_true rfl⟩) (my_preV hK hN (hP.sub [0, 1] rfl) (hD.sub [0, 1] (by decide +kernel) rfl) 0 rfl rfl) rfl rfl hl.1 rfl (lv_room (Nat.le_of_ble_eq_true rfl)) d_M_plainBits_100 ⟨by rw [hR]; exact Nat.le_of_ble_eq_true rfl, by rw [hR]; exact Nat.le_of_ble_eq_true rfl⟩) hP hD hS hA [0, 1] [] rfl rfl (by decide +kernel) (by decide +kernel) (fun u9 H locs hw_100 hP hD hS => ?_)
                have hw_100 : True := hw_100
                have hPD : my_PD (dC, dI) vwCl A [(o, Sum.inr (9, mO g fForm fShift fModels fItems fEnded fLow fRange fCache fPend fGoes fOuts (nI is.length) fReads fBad fIR (nI (wrS is ((r9.1 / 2), (crd r9), r9.2.2)).2.2) fBAsk (lN (wrS is ((r9.1 / 2), (crd r9), r9.2.2)).2.1) fRL (lN (wrS is ((r9.1 / 2), (crd r9), r9.2.2)).1) fX fWrites fThrown)), ((g 8), Sum.inl (cI, 6000, Sum.inl vIn))] H := ⟨hP, hD⟩
                have hP := hPD.1
                have hD := hPD.2
                obtain ⟨v_10, ev_10⟩ : ∃ y : Int32, y = i9 + (1) := ⟨_, rfl⟩
                refine lv_iinc (v := v_10) (lv' := [(3, Value.int v_10), (2, Value.int v_9), (4, Value.int 1), (0, Value.ref o), (1, Value.int (nI b))]) hx hb d_M_plainBits_103 hl (k := 2) rfl (by rw [ev_10]; rfl) (by decide) rfl (fun ls hl => ?_)
                refine lv_goto (tgt := 18) hx hb d_M_plainBits_106 (by decide) ?_
                exact ih9_18 _ (by first | omega | (omega)) v_10 v_9 (j + 1) (2 * vv + rbt (r9.1 / 2) r9.2.1) (wrS is (r9.1 / 2, crd r9, r9.2.2)) rfl (by subst_vars; exact nI_1 j) (hvn) (by omega) (by rw [hE9, show b - j = (b - (j + 1)) + 1 by omega, pbN, if_pos hlt2]) (hwr.1) (by have := hwr.2.1; simp only at this; omega) (by rw [Nat.pow_succ]; have := rbt_lt (r9.1 / 2) r9.2.1; omega) H locs ls (hP.sub [0, 1] rfl) (hD.sub [0, 1] (by decide +kernel) rfl) hS (lv_sub hl [0, 1, 3, 4] rfl)
              · rw [lg_cmp_lt] at c_7
                have hxx : pbS is b (RR, CD, q) = (none, (r9.1 / 2, crd r9, r9.2.2)) := by
                  rw [hE9, show b - j = (b - (j + 1)) + 1 by omega, pbN, if_neg (fun z => c_7 ((L_lt (by omega) (by omega)).mpr z))]
                refine lv_iconst (v := (-1)) hx hb d_M_plainBits_90 (by decide) ?_
                exact my_iret (v := (-1)) hx hb hr (rfl) hlocks hQ hK hS (Nat.le_refl _) (Nat.le_refl _) () (by rw [hxx]; rfl) (by rw [hxx]; exact (hP.sub [0, 1] rfl)) (by rw [hxx]; exact (hD.sub [0, 1] (by decide +kernel) rfl)) d_M_plainBits_91
          · rw [lg_cmp_ge] at c_4
            have hlt : r9.2.1 < r9.1 / 2 := by
              rcases Nat.lt_or_ge r9.2.1 (r9.1 / 2) with z | z
              · exact z
              · exact absurd ((L_le (by omega) (by omega)).mpr z) c_4
            have hcr : crd r9 = r9.2.1 := by unfold crd; rw [if_pos hlt]
            have hrb : rbt (r9.1 / 2) r9.2.1 = 0 := by unfold rbt; rw [if_pos hlt]
            refine lv_iconst (v := 0) hx hb d_M_plainBits_45 (by decide) ?_
            refine lv_goto (tgt := 50) hx hb d_M_plainBits_46 (by decide) ?_
            refine lv_istore (lv' := [(4, Value.int 0), (3, Value.int i9), (2, Value.int v9), (0, Value.ref o), (1, Value.int (nI b))]) hx hb d_M_plainBits_50 hl (by decide) rfl (fun ls hl => ?_)
            refine lv_aload_n hx hb d_M_plainBits_52 rfl (lv_at hl 3 rfl) ?_
            refine lv_iload hx hb d_M_plainBits_53 (lv_at hl 0 rfl) ?_
            refine lv_iconst (v := 1) hx hb d_M_plainBits_55 (by decide) ?_
            refine lv_icmp_ne (tgt := 71) hx hb d_M_plainBits_56 (by decide) (fun c_11 => ?_) (fun c_11 => ?_)
            · refine lv_aload_n hx hb d_M_plainBits_71 rfl (lv_at hl 3 rfl) ?_
              refine va_get (D := (dC, dI)) (ci := 9) (v := .long (lN r9.2.1)) (C := "RangeCodersModel") (T := T_M) (N := 35) hx hb hg in_M hown hK hP 0 rfl rfl 26 (by decide) (hg _ k978) (fun _ h9 => h9) rfl d_M_plainBits_72 ?_
              refine W.eq (g2 := F0 m 75 ls [Value.long (lN (crd r9)), Value.ref o]) (by rw [hcr]) ?_
              refine va_put (D := (dC, dI)) (ci := 9) (v := .long (lN (crd r9))) (ty := .long) (C := "RangeCodersModel") (T := T_M) (N := 35) hx hb hg in_M t_M o_M n_M hown hK hP hD hS 0 rfl rfl 26 (by decide) (hg _ k978) (fun _ h9 => h9) rfl (o_M 26 (by decide)) rfl rfl (Nat.le_of_ble_eq_true rfl) d_M_plainBits_75 (fun H locs hP hD hS => ?_)
              have hPD : my_PD (dC, dI) vwCl A [(o, Sum.inr (9, mO g fForm fShift fModels fItems fEnded fLow fRange fCache fPend fGoes fOuts (nI is.length) fReads fBad fIR (nI r9.2.2) fBAsk (lN (crd r9)) fRL (lN (r9.1 / 2)) fX fWrites fThrown)), ((g 8), Sum.inl (cI, 6000, Sum.inl vIn))] H := ⟨hP, hD⟩
              have hP := hPD.1
              have hD := hPD.2
              have hc32 : crd r9 < 4294967296 := by rw [hcr]; omega
              refine lv_aload_n hx hb d_M_plainBits_78 rfl (lv_at hl 3 rfl) ?_
              refine va_get (D := (dC, dI)) (ci := 9) (v := .long (lN (crd r9))) (C := "RangeCodersModel") (T := T_M) (N := 35) hx hb hg in_M hown hK hP 0 rfl rfl 26 (by decide) (hg _ k978) (fun _ h9 => h9) rfl d_M_plainBits_79 ?_
              refine lv_aload_n hx hb d_M_plainBits_82 rfl (lv_at hl 3 rfl) ?_
              refine va_get (D := (dC, dI)) (ci := 9) (v := .long (lN (r9.1 / 2))) (C := "RangeCodersModel") (T := T_M) (N := 35) hx hb hg in_M hown hK hP 0 rfl rfl 28 (by decide) (hg _ k980) (fun _ h9 => h9) rfl d_M_plainBits_83 ?_
              refine W.lcmp hx hb d_M_plainBits_86 ?_
              refine lv_if_lt (tgt := 92) hx hb d_M_plainBits_87 (by decide) (fun c_12 => ?_) (fun c_12 => ?_)
              · rw [lg_cmp_lt] at c_12
                have hlt2 : crd r9 < r9.1 / 2 := (L_lt (by omega) (by omega)).mp c_12
                have hwr := wr_inv hoct (r := (r9.1 / 2, crd r9, r9.2.2)) (by show 0 < r9.1 / 2; omega) (by show r9.1 / 2 < _; omega) hc32
                refine lv_iconst (v := 2) hx hb d_M_plainBits_92 (by decide) ?_
                refine lv_iload_n hx hb d_M_plainBits_93 rfl (lv_at hl 2 rfl) ?_
                refine lv_imul hx hb d_M_plainBits_94 ?_
                refine lv_topi (fun v_13 ev_13 => ?_)
                refine lv_iload hx hb d_M_plainBits_95 (lv_at hl 0 rfl) ?_
                refine lv_iadd hx hb d_M_plainBits_97 ?_
                refine lv_topi (fun v_14 ev_14 => ?_)
                have hvn : v_14 = nI (2 * vv + rbt (r9.1 / 2) r9.2.1) := by subst_vars; rw [hrb, show (2 : Int32) * nI vv = nI (2 * vv) from pk_mul 2 vv]; exact nI_add (2 * vv) 0
                refine lv_istore_n (lv' := [(2, Value.int v_14), (4, Value.int 0), (3, Value.int i9), (0, Value.ref o), (1, Value.int (nI b))]) hx hb d_M_plainBits_98 rfl hl (by decide) rfl (fun ls hl => ?_)
                refine lv_aload_n hx hb d_M_plainBits_99 rfl (lv_at hl 3 rfl) ?_
                refine my_cv (wr := []) (va_runV (As := []) (rest := []) ⟨hx, hb, hml, hown, hts⟩ (c_M_widenRead l dC dI cI cM cO H.size o g fForm fShift fModels fItems fEnded fLow fRange fCache fPend fGoes fOuts fReads fBad fIR fBAsk fRL fX fWrites fThrown vIn (r9.1 / 2) (crd r9) is r9.2.2 (hIn) (by assumption) (by assumption) (by omega) (by omega) (by omega) (hc32)) (cwV 0 hts (my_gV k1223 k1225 ks51 k12 k1226) rfl rfl rfl cu_M_widenRead_0 ⟨by rw [hR]; exact Nat.le_of_ble_eq_true rfl, by rw [hR]; exact Nat.le_of_ble_eq_true rfl⟩) (my_preV hK hN (hP.sub [0, 1] rfl) (hD.sub [0, 1] (by decide +kernel) rfl) 0 rfl rfl) rfl rfl hl.1 rfl (lv_room (Nat.le_of_ble_eq_true rfl)) d_M_plainBits_100 ⟨by rw [hR]; exact Nat.le_of_ble_eq_true rfl, by rw [hR]; exact Nat.le_of_ble_eq_true rfl⟩) hP hD hS hA [0, 1] [] rfl rfl (by decide +kernel) (by decide +kernel) (fun u9 H locs hw_100 hP hD hS => ?_)
                have hw_100 : True := hw_100
                have hPD : my_PD (dC, dI) vwCl A [(o, Sum.inr (9, mO g fForm fShift fModels fItems fEnded fLow fRange fCache fPend fGoes fOuts (nI is.length) fReads fBad fIR (nI (wrS is ((r9.1 / 2), (crd r9), r9.2.2)).2.2) fBAsk (lN (wrS is ((r9.1 / 2), (crd r9), r9.2.2)).2.1) fRL (lN (wrS is ((r9.1 / 2), (crd r9), r9.2.2)).1) fX fWrites fThrown)), ((g 8), Sum.inl (cI, 6000, Sum.inl vIn))] H := ⟨hP, hD⟩
                have hP := hPD.1
                have hD := hPD.2
                obtain ⟨v_15, ev_15⟩ : ∃ y : Int32, y = i9 + (1) := ⟨_, rfl⟩
                refine lv_iinc (v := v_15) (lv' := [(3, Value.int v_15), (2, Value.int v_14), (4, Value.int 0), (0, Value.ref o), (1, Value.int (nI b))]) hx hb d_M_plainBits_103 hl (k := 2) rfl (by rw [ev_15]; rfl) (by decide) rfl (fun ls hl => ?_)
                refine lv_goto (tgt := 18) hx hb d_M_plainBits_106 (by decide) ?_
                exact ih9_18 _ (by first | omega | (omega)) v_15 v_14 (j + 1) (2 * vv + rbt (r9.1 / 2) r9.2.1) (wrS is (r9.1 / 2, crd r9, r9.2.2)) rfl (by subst_vars; exact nI_1 j) (hvn) (by omega) (by rw [hE9, show b - j = (b - (j + 1)) + 1 by omega, pbN, if_pos hlt2]) (hwr.1) (by have := hwr.2.1; simp only at this; omega) (by rw [Nat.pow_succ]; have := rbt_lt (r9.1 / 2) r9.2.1; omega) H locs ls (hP.sub [0, 1] rfl) (hD.sub [0, 1] (by decide +kernel) rfl) hS (lv_sub hl [0, 1, 3, 4] rfl)
              · rw [lg_cmp_lt] at c_12
                have hxx : pbS is b (RR, CD, q) = (none, (r9.1 / 2, crd r9, r9.2.2)) := by
                  rw [hE9, show b - j = (b - (j + 1)) + 1 by omega, pbN, if_neg (fun z => c_12 ((L_lt (by omega) (by omega)).mpr z))]
                refine lv_iconst (v := (-1)) hx hb d_M_plainBits_90 (by decide) ?_
                exact my_iret (v := (-1)) hx hb hr (rfl) hlocks hQ hK hS (Nat.le_refl _) (Nat.le_refl _) () (by rw [hxx]; rfl) (by rw [hxx]; exact (hP.sub [0, 1] rfl)) (by rw [hxx]; exact (hD.sub [0, 1] (by decide +kernel) rfl)) d_M_plainBits_91
            · exact absurd c_11 (by decide)
    exact J_18 _ 0 0 0 0 (RR, CD, q) rfl (rfl) (rfl) (Nat.zero_le _) (by unfold pbS; rw [if_pos hlt0]; rfl) (hI) (Nat.le_add_right _ _) (by decide) H locs ls (hP.sub [0, 1] rfl) (hD.sub [0, 1] (by decide +kernel) rfl) hS (lv_sub hl [0, 1, 2, 3] rfl)
  · rw [lg_cmp_lt] at c_1
    have hxx : pbS is b (RR, CD, q) = (none, (RR, CD, q)) := by
      unfold pbS
      rw [if_neg (fun z => c_1 ((L_lt (by omega) (by omega)).mpr z))]
    refine lv_iconst (v := (-1)) hx hb d_M_plainBits_12 (by decide) ?_
    exact my_iret (v := (-1)) hx hb hr (rfl) hlocks hQ hK hS (Nat.le_refl _) (Nat.le_refl _) () (by rw [hxx]; rfl) (by rw [hxx]; exact (hP.sub [0, 1] rfl)) (by rw [hxx]; exact (hD.sub [0, 1] (by decide +kernel) rfl)) d_M_plainBits_13
end
section
set_option maxHeartbeats 1000000 in
set_option maxRecDepth 100000 in
/-- getNode -/
theorem c_M_getNode (l : Launch) (dC : Nat → ClassId) (dI : Nat → Nat → Nat) (cI cM cO : ClassId) (sz : Nat) (o : Nat) (g : Nat → Nat) (fForm : Int32) (fModels : Int32) (fItems : Int32) (fEnded : Int32) (fLow : Int64) (fRange : Int64) (fCache : Int32) (fPend : Int32) (fGoes : Int32) (fOuts : Int32) (fReads : Int32) (fBad : Int32) (fIR : Int32) (fBAsk : Int32) (fRL : Int64) (fX : Int64) (fWrites : Int32) (fThrown : Int32) (vMany : Nat → Int32) (vThen : Nat → Int32) (vIn : Nat → Int32) (mm : Nat) (n : Nat) (sh : Nat) (D : Nat → Nat) (RR : Nat) (CD : Nat) (is : List Nat) (q : Nat) (hmm : mm < 8) (hn : vMany mm = nI n) (hn2 : n ≤ 64) (hn1 : 2 ≤ n) (hIn : gIs vIn is) (hlen : is.length ≤ 6000) (hoct : oct is) (hq : q < 800000) (hf : sgI vThen (64 * mm) 64 D) (hC9 : ∀ k, k < 64 → 1 ≤ D k ∧ D k ≤ 2047) (hs1 : 1 ≤ sh) (hs2 : sh ≤ 10) (hI : rInv (RR, CD, q)) : MetI l y_M_getNode (Cond.code y_M_getNode prog_14_method_51_code 6 (some .int) :: gw) ({ frames := 3, cells := 0, slots := 0, locals := 65 } : Room) (dC, dI) vwCl (kT cI cM cO) [Value.ref o, Value.int (nI mm)] [(o, Sum.inr (9, mO g fForm (nI sh) fModels fItems fEnded fLow fRange fCache fPend fGoes fOuts (nI is.length) fReads fBad fIR (nI q) fBAsk (lN CD) fRL (lN RR) fX fWrites fThrown)), ((g 0), Sum.inl (cI, 8, Sum.inl vMany)), ((g 3), Sum.inl (cI, 512, Sum.inl vThen)), ((g 8), Sum.inl (cI, 6000, Sum.inl vIn))] sz (fun (r : Int32) (u : (Nat → Int32)) => r = oI (gnS is sh n (RR, CD, q) D).1 ∧ sgI u (64 * mm) 64 (gnS is sh n (RR, CD, q) D).2.2 ∧ sgO u vThen (64 * mm) 64) (fun (u : (Nat → Int32)) => [(o, Sum.inr (9, mO g fForm (nI sh) fModels fItems fEnded fLow fRange fCache fPend fGoes fOuts (nI is.length) fReads fBad fIR (nI (gnS is sh n (RR, CD, q) D).2.1.2.2) fBAsk (lN (gnS is sh n (RR, CD, q) D).2.1.2.1) fRL (lN (gnS is sh n (RR, CD, q) D).2.1.1) fX fWrites fThrown)), ((g 0), Sum.inl (cI, 8, Sum.inl vMany)), ((g 3), Sum.inl (cI, 512, Sum.inl u)), ((g 8), Sum.inl (cI, 6000, Sum.inl vIn))]) 0 0 := by
  refine my_ofI (cc := prog_14_method_51_code) (n := 6) (ret := (some .int)) (by decide) rfl (Nat.le_of_ble_eq_true rfl) ?_
  intro p e s m args below meth c R Q A ls H locs hx hb hr hts hown hlocks hml hnm hR hQ hA hl hP hK hN hD hS
  have hg : ∀ w ∈ gw, w.before args s = true := fun w h => hts w (List.mem_cons_of_mem _ h)
  have hown : s.vm.findClass "RangeCodersModel" = some m.cls := hown
  have hl : lv_has ls 6 [(0, Value.ref o), (1, Value.int (nI mm))] := hl
  obtain ⟨hi1, hi2, hi3⟩ := id hI
  simp only at hi1 hi2 hi3
  have hlv : lev n ≤ 6 := by unfold lev; repeat (first | omega | split)
  have hpw : 2 ^ lev n ≤ 2 ^ 6 := Nat.pow_le_pow_right (by decide) hlv
  refine lv_aload_n hx hb d_M_getNode_0 rfl (lv_at hl 0 rfl) ?_
  refine va_get (D := (dC, dI)) (ci := 9) (v := .long (lN CD)) (C := "RangeCodersModel") (T := T_M) (N := 35) hx hb hg in_M hown hK hP 0 rfl rfl 26 (by decide) (hg _ k978) (fun _ h9 => h9) rfl d_M_getNode_1 ?_
  refine lv_aload_n hx hb d_M_getNode_4 rfl (lv_at hl 0 rfl) ?_
  refine va_get (D := (dC, dI)) (ci := 9) (v := .long (lN RR)) (C := "RangeCodersModel") (T := T_M) (N := 35) hx hb hg in_M hown hK hP 0 rfl rfl 28 (by decide) (hg _ k980) (fun _ h9 => h9) rfl d_M_getNode_5 ?_
  refine W.lcmp hx hb d_M_getNode_8 ?_
  refine lv_if_lt (tgt := 14) hx hb d_M_getNode_9 (by decide) (fun c_1 => ?_) (fun c_1 => ?_)
  · rw [lg_cmp_lt] at c_1
    have hlt0 : CD < RR := (L_lt (by omega) (by omega)).mp c_1
    refine lv_iconst (v := 1) hx hb d_M_getNode_14 (by decide) ?_
    refine lv_istore_n (lv' := [(2, Value.int 1), (0, Value.ref o), (1, Value.int (nI mm))]) hx hb d_M_getNode_15 rfl hl (by decide) rfl (fun ls hl => ?_)
    refine lv_aload_n hx hb d_M_getNode_16 rfl (lv_at hl 1 rfl) ?_
    refine lv_iload_n hx hb d_M_getNode_17 rfl (lv_at hl 2 rfl) ?_
    refine my_ci (wr := [((g 3), Sum.inl (cI, 512, Sum.inl vThen)), ((g 8), Sum.inl (cI, 6000, Sum.inl vIn))]) (va_runV (As := [Value.int (nI mm)]) (rest := []) ⟨hx, hb, hml, hown, hts⟩ (c_M_levels l dC dI cI cM cO H.size o g fForm (nI sh) fModels fItems fEnded fLow fRange fCache fPend fGoes fOuts (nI is.length) fReads fBad fIR (nI q) fBAsk (lN CD) fRL (lN RR) fX fWrites fThrown vMany mm n (by assumption) (by assumption) (by assumption)) (cwV 1 hts (my_gV k1123 k1125 ks35 k12 k1126) rfl rfl rfl cu_M_levels_1 ⟨by rw [hR]; exact Nat.le_of_ble_eq_true rfl, by rw [hR]; exact Nat.le_of_ble_eq_true rfl⟩) (my_preV hK hN (hP.sub [0, 1] rfl) (hD.sub [0, 1] (by decide +kernel) rfl) 0 rfl rfl) rfl rfl hl.1 rfl (lv_room (Nat.le_of_ble_eq_true rfl)) d_M_getNode_18 ⟨by rw [hR]; exact Nat.le_of_ble_eq_true rfl, by rw [hR]; exact Nat.le_of_ble_eq_true rfl⟩) hP hD hS hA [0, 1] [2, 3] rfl rfl (by decide +kernel) (by decide +kernel) (fun r_18 u9 H locs hw_18 hP hD hS => ?_)
    have hw_18 : r_18 = nI (lev n) := hw_18
    have hPD : my_PD (dC, dI) vwCl A [((g 3), Sum.inl (cI, 512, Sum.inl vThen)), ((g 8), Sum.inl (cI, 6000, Sum.inl vIn)), (o, Sum.inr (9, mO g fForm (nI sh) fModels fItems fEnded fLow fRange fCache fPend fGoes fOuts (nI is.length) fReads fBad fIR (nI q) fBAsk (lN CD) fRL (lN RR) fX fWrites fThrown)), ((g 0), Sum.inl (cI, 8, Sum.inl vMany))] H := ⟨hP, hD⟩
    have hP := hPD.1
    have hD := hPD.2
    refine lv_istore_n (lv' := [(3, Value.int r_18), (2, Value.int 1), (0, Value.ref o), (1, Value.int (nI mm))]) hx hb d_M_getNode_21 rfl hl (by decide) rfl (fun ls hl => ?_)
    refine lv_iconst (v := 0) hx hb d_M_getNode_22 (by decide) ?_
    refine lv_istore (lv' := [(4, Value.int 0), (3, Value.int r_18), (2, Value.int 1), (0, Value.ref o), (1, Value.int (nI mm))]) hx hb d_M_getNode_23 hl (by decide) rfl (fun ls hl => ?_)
    have J_25 : ∀ (n9_25 : Nat) (i9 : Int32) (n9v : Int32) (w9 : Int32) (j : Nat) (nd : Nat) (r9 : RS) (D9 : Nat → Nat) (fK : Nat → Int32) (hn9_25 : lev n - j = n9_25) (hi : i9 = nI j) (hnv : n9v = nI nd) (hw9 : w9 = nI (lev n)) (hj : j ≤ lev n) (hE9 : gnN is sh (lev n) 1 (RR, CD, q) D = gnN is sh (lev n - j) nd r9 D9) (hI9 : rInv r9) (hq9 : r9.2.2 ≤ q + 3 * j) (hnd : 2 ^ (lev n - (lev n - j)) ≤ nd ∧ nd < 2 ^ (lev n - (lev n - j) + 1)) (hfK : sgI fK (64 * mm) 64 D9) (hoK : sgO fK vThen (64 * mm) 64) (hD9 : ∀ k, k < 64 → 1 ≤ D9 k ∧ D9 k ≤ 2047) (H : Heap) (locs : List Loc) (ls : Array Slot), va_P (dC, dI) vwCl [((g 3), Sum.inl (cI, 512, Sum.inl fK)), ((g 8), Sum.inl (cI, 6000, Sum.inl vIn)), (o, Sum.inr (9, mO g fForm (nI sh) fModels fItems fEnded fLow fRange fCache fPend fGoes fOuts (nI is.length) fReads fBad fIR (nI r9.2.2) fBAsk (lN r9.2.1) fRL (lN r9.1) fX fWrites fThrown)), ((g 0), Sum.inl (cI, 8, Sum.inl vMany))] H → va_D A [((g 3), Sum.inl (cI, 512, Sum.inl fK)), ((g 8), Sum.inl (cI, 6000, Sum.inl vIn)), (o, Sum.inr (9, mO g fForm (nI sh) fModels fItems fEnded fLow fRange fCache fPend fGoes fOuts (nI is.length) fReads fBad fIR (nI r9.2.2) fBAsk (lN r9.2.1) fRL (lN r9.1) fX fWrites fThrown)), ((g 0), Sum.inl (cI, 8, Sum.inl vMany))] → va_S A s.heap H locs → lv_has ls 6 [(4, Value.int i9), (3, Value.int w9), (2, Value.int n9v), (0, Value.ref o), (1, Value.int (nI mm))] → W p l e R s m args below meth c H locs 0 0 Q (F0 m 25 ls []) := by
      intro n9_25
      induction n9_25 using Nat.strongRecOn with
      | ind n9_25 ih9_25 =>
        intro i9 n9v w9 j nd r9 D9 fK hn9_25 hi hnv hw9 hj hE9 hI9 hq9 hnd hfK hoK hD9 H locs ls hP hD hS hl
        obtain ⟨hr1, hr2, hr3⟩ := id hI9
        have hjj : lev n - (lev n - j) = j := by omega
        refine lv_iload hx hb d_M_getNode_25 (lv_at hl 0 rfl) ?_
        refine lv_iload_n hx hb d_M_getNode_27 rfl (lv_at hl 1 rfl) ?_
        refine lv_icmp_ge (tgt := 72) hx hb d_M_getNode_28 (by decide) (fun c_2 => ?_) (fun c_2 => ?_)
        · have hj3 : j = lev n := by rw [hi, hw9] at c_2; have := (nI_cmp (by omega) (by omega)).mp c_2; omega
          have hz9 : gnN is sh (lev n) 1 (RR, CD, q) D = (nd, r9, D9) := by rw [hE9, hj3, Nat.sub_self]; rfl
          rw [hjj, hj3] at hnd
          have hpp : 2 ^ (lev n + 1) = 2 * 2 ^ lev n := by rw [Nat.pow_succ, Nat.mul_comm]
          refine lv_iload_n hx hb d_M_getNode_72 rfl (lv_at hl 2 rfl) ?_
          refine lv_iconst (v := 1) hx hb d_M_getNode_73 (by decide) ?_
          refine lv_iload_n hx hb d_M_getNode_74 rfl (lv_at hl 1 rfl) ?_
          refine lv_ishl hx hb d_M_getNode_75 ?_
          refine lv_topi (fun v_3 ev_3 => ?_)
          refine lv_isub hx hb d_M_getNode_76 ?_
          refine lv_topi (fun v_4 ev_4 => ?_)
          have z9 : v_4 = nI (nd - 2 ^ lev n) := by subst_vars; rw [shl1 _ (by omega)]; exact pk_sub hnd.1
          subst z9
          refine lv_istore (lv' := [(4, Value.int (nI (nd - 2 ^ lev n))), (3, Value.int w9), (2, Value.int n9v), (0, Value.ref o), (1, Value.int (nI mm))]) hx hb d_M_getNode_77 hl (by decide) rfl (fun ls hl => ?_)
          refine lv_iload hx hb d_M_getNode_79 (lv_at hl 0 rfl) ?_
          refine lv_aload_n hx hb d_M_getNode_81 rfl (lv_at hl 3 rfl) ?_
          refine va_get (D := (dC, dI)) (ci := 9) (v := .ref (g 0)) (C := "RangeCodersModel") (T := T_M) (N := 35) hx hb hg in_M hown hK hP 2 rfl rfl 3 (by decide) (hg _ k955) (fun _ h9 => h9) rfl d_M_getNode_82 ?_
          refine lv_iload_n hx hb d_M_getNode_85 rfl (lv_at hl 4 rfl) ?_
          refine va_iald hx hb hK hP 3 0 rfl rfl (vp_in_nI hmm (by decide)) d_M_getNode_86 ?_
          refine lv_topi (fun v_5 ev_5 => ?_)
          have hmn : v_5 = nI n := by subst_vars; rw [nI_clamp (by omega)]; exact hn
          refine lv_icmp_ge (tgt := 95) hx hb d_M_getNode_87 (by decide) (fun c_6 => ?_) (fun c_6 => ?_)
          · have hls : ¬ nd - 2 ^ lev n < n := by rw [hmn] at c_6; have := (nI_cmp (by omega) (by omega)).mp c_6; omega
            have hxx : gnS is sh n (RR, CD, q) D = (none, r9, D9) := by unfold gnS; rw [if_pos hlt0, hz9, if_neg hls]
            refine lv_iconst (v := (-1)) hx hb d_M_getNode_95 (by decide) ?_
            exact my_iret (v := (-1)) hx hb hr (rfl) hlocks hQ hK hS (Nat.le_refl _) (Nat.le_refl _) fK (by rw [hxx]; exact ⟨rfl, hfK, hoK⟩) (by rw [hxx]; exact (hP.sub [2, 3, 0, 1] rfl)) (by rw [hxx]; exact (hD.sub [2, 3, 0, 1] (by decide +kernel) rfl)) d_M_getNode_96
          · have hls : nd - 2 ^ lev n < n := by
              rcases Nat.lt_or_ge (nd - 2 ^ lev n) n with z | z
              · exact z
              · exact absurd (by rw [hmn]; exact nI_le z (by omega)) c_6
            have hxx : gnS is sh n (RR, CD, q) D = (some (nd - 2 ^ lev n), r9, D9) := by unfold gnS; rw [if_pos hlt0, hz9, if_pos hls]
            refine lv_iload hx hb d_M_getNode_90 (lv_at hl 0 rfl) ?_
            refine lv_goto (tgt := 96) hx hb d_M_getNode_92 (by decide) ?_
            exact my_iret (v := (nI (nd - 2 ^ lev n))) hx hb hr (rfl) hlocks hQ hK hS (Nat.le_refl _) (Nat.le_refl _) fK (by rw [hxx]; exact ⟨rfl, hfK, hoK⟩) (by rw [hxx]; exact (hP.sub [2, 3, 0, 1] rfl)) (by rw [hxx]; exact (hD.sub [2, 3, 0, 1] (by decide +kernel) rfl)) d_M_getNode_96
        · have hj2 : j < lev n := by
            rcases Nat.lt_or_ge j (lev n) with z | z
            · exact z
            · exact absurd (by rw [hi, hw9]; exact nI_le z (by omega)) c_2
          have hnd64 : nd < 64 := Nat.lt_of_lt_of_le hnd.2 (Nat.pow_le_pow_right (n := 2) (by decide) (show lev n - (lev n - j) + 1 ≤ 6 by omega))
          have hdd := hD9 nd hnd64
          have hq1 : 8192 ≤ r9.1 / 2048 := by omega
          have hq2 : r9.1 / 2048 * D9 nd ≤ r9.1 / 2048 * 2047 := Nat.mul_le_mul_left _ hdd.2
          have hq3 : r9.1 / 2048 * 1 ≤ r9.1 / 2048 * D9 nd := Nat.mul_le_mul_left _ hdd.1
          have hrb := rb_ok (CD := r9.2.1) (q := r9.2.2) (show 0 < r9.1 / 2048 * D9 nd by omega) (show r9.1 / 2048 * D9 nd < r9.1 by omega) hr2 hr3
          have hwr := wr_inv hoct hrb.1 hrb.2.1 hrb.2.2.1
          refine lv_bipush (v := 64) hx hb d_M_getNode_31 (by decide) ?_
          refine lv_iload_n hx hb d_M_getNode_33 rfl (lv_at hl 4 rfl) ?_
          refine lv_imul hx hb d_M_getNode_34 ?_
          refine lv_topi (fun v_7 ev_7 => ?_)
          refine lv_iload_n hx hb d_M_getNode_35 rfl (lv_at hl 2 rfl) ?_
          refine lv_iadd hx hb d_M_getNode_36 ?_
          refine lv_topi (fun v_8 ev_8 => ?_)
          have z9 : v_8 = nI (64 * mm + nd) := by subst_vars; exact ix64
          subst z9
          refine lv_istore (lv' := [(5, Value.int (nI (64 * mm + nd))), (4, Value.int i9), (3, Value.int w9), (2, Value.int n9v), (0, Value.ref o), (1, Value.int (nI mm))]) hx hb d_M_getNode_37 hl (by decide) rfl (fun ls hl => ?_)
          refine lv_iconst (v := 2) hx hb d_M_getNode_39 (by decide) ?_
          refine lv_iload_n hx hb d_M_getNode_40 rfl (lv_at hl 3 rfl) ?_
          refine lv_imul hx hb d_M_getNode_41 ?_
          refine lv_topi (fun v_9 ev_9 => ?_)
          refine lv_aload_n hx hb d_M_getNode_42 rfl (lv_at hl 4 rfl) ?_
          refine lv_aload_n hx hb d_M_getNode_43 rfl (lv_at hl 4 rfl) ?_
          refine va_get (D := (dC, dI)) (ci := 9) (v := .long (lN r9.1)) (C := "RangeCodersModel") (T := T_M) (N := 35) hx hb hg in_M hown hK hP 2 rfl rfl 28 (by decide) (hg _ k980) (fun _ h9 => h9) rfl d_M_getNode_44 ?_
          refine lv_bipush (v := 11) hx hb d_M_getNode_47 (by decide) ?_
          refine lv_lshr hx hb d_M_getNode_49 rfl ?_
          refine lv_topl (fun v_10 ev_10 => ?_)
          refine lv_aload_n hx hb d_M_getNode_50 rfl (lv_at hl 4 rfl) ?_
          refine va_get (D := (dC, dI)) (ci := 9) (v := .ref (g 3)) (C := "RangeCodersModel") (T := T_M) (N := 35) hx hb hg in_M hown hK hP 2 rfl rfl 6 (by decide) (hg _ k958) (fun _ h9 => h9) rfl d_M_getNode_51 ?_
          refine lv_iload hx hb d_M_getNode_54 (lv_at hl 0 rfl) ?_
          refine va_iald hx hb hK hP 0 0 rfl rfl (vp_in_nI (by omega) (by decide)) d_M_getNode_56 ?_
          refine lv_topi (fun v_11 ev_11 => ?_)
          refine lv_i2l hx hb d_M_getNode_57 rfl ?_
          refine lv_topl (fun v_12 ev_12 => ?_)
          refine lv_lmul hx hb d_M_getNode_58 ?_
          refine lv_topl (fun v_13 ev_13 => ?_)
          have z9 : v_13 = lN (r9.1 / 2048 * D9 nd) := by subst_vars; rw [L_shr11 (by omega), nI_clamp (by omega), hfK nd hnd64, nI_l (by omega), lN_mul]
          subst z9
          refine lv_iload hx hb d_M_getNode_59 (lv_at hl 0 rfl) ?_
          refine my_ci (wr := [((g 0), Sum.inl (cI, 8, Sum.inl vMany))]) (va_runV (As := [Value.long (lN (r9.1 / 2048 * D9 nd)), Value.int (nI (64 * mm + nd))]) (rest := [Value.int v_9]) ⟨hx, hb, hml, hown, hts⟩ (c_M_readBit l dC dI cI cM cO H.size o g fForm fModels fItems fEnded fLow fRange fCache fPend fGoes fOuts fReads fBad fIR fBAsk fRL fX fWrites fThrown fK vIn (64 * mm + nd) (D9 nd) sh (r9.1 / 2048 * D9 nd) r9.1 r9.2.1 is r9.2.2 (hIn) (by assumption) (by assumption) (by omega) (by omega) (hfK nd hnd64) (by omega) (hs2) (by omega) (by omega) (hr2) (hr3)) (cwV 2 hts (my_gV k1235 k1237 ks54 k12 k1238) rfl rfl rfl cu_M_readBit_2 ⟨by rw [hR]; exact Nat.le_of_ble_eq_true rfl, by rw [hR]; exact Nat.le_of_ble_eq_true rfl⟩) (my_preV hK hN (hP.sub [2, 0, 1] rfl) (hD.sub [2, 0, 1] (by decide +kernel) rfl) 0 rfl rfl) rfl rfl hl.1 rfl (lv_room (Nat.le_of_ble_eq_true rfl)) d_M_getNode_61 ⟨by rw [hR]; exact Nat.le_of_ble_eq_true rfl, by rw [hR]; exact Nat.le_of_ble_eq_true rfl⟩) hP hD hS hA [2, 0, 1] [3] rfl rfl (by decide +kernel) (by decide +kernel) (fun r_61 u9 H locs hw_61 hP hD hS => ?_)
          obtain ⟨f2_61, rfl⟩ : ∃ z, z = u9 := ⟨_, rfl⟩
          have hw_61 : r_61 = nI (rbt (r9.1 / 2048 * D9 nd) r9.2.1) ∧ f2_61 = upd fK (64 * mm + nd) (nI (mvC sh (rbt (r9.1 / 2048 * D9 nd) r9.2.1) (D9 nd))) := hw_61
          have hPD : my_PD (dC, dI) vwCl A [((g 0), Sum.inl (cI, 8, Sum.inl vMany)), (o, Sum.inr (9, mO g fForm (nI sh) fModels fItems fEnded fLow fRange fCache fPend fGoes fOuts (nI is.length) fReads fBad fIR (nI (wrS is (rbS (r9.1 / 2048 * D9 nd) r9.1 r9.2.1 r9.2.2)).2.2) fBAsk (lN (wrS is (rbS (r9.1 / 2048 * D9 nd) r9.1 r9.2.1 r9.2.2)).2.1) fRL (lN (wrS is (rbS (r9.1 / 2048 * D9 nd) r9.1 r9.2.1 r9.2.2)).1) fX fWrites fThrown)), ((g 3), Sum.inl (cI, 512, Sum.inl f2_61)), ((g 8), Sum.inl (cI, 6000, Sum.inl vIn))] H := ⟨hP, hD⟩
          have hP := hPD.1
          have hD := hPD.2
          refine lv_iadd hx hb d_M_getNode_64 ?_
          refine lv_topi (fun v_14 ev_14 => ?_)
          have hvn : v_14 = nI (2 * nd + rbt (r9.1 / 2048 * D9 nd) r9.2.1) := by rw [ev_14, hw_61.1]; subst_vars; rw [show (2 : Int32) * nI nd = nI (2 * nd) from pk_mul 2 nd]; exact nI_add _ _
          refine lv_istore_n (lv' := [(2, Value.int v_14), (5, Value.int (nI (64 * mm + nd))), (4, Value.int i9), (3, Value.int w9), (0, Value.ref o), (1, Value.int (nI mm))]) hx hb d_M_getNode_65 rfl hl (by decide) rfl (fun ls hl => ?_)
          obtain ⟨v_15, ev_15⟩ : ∃ y : Int32, y = i9 + (1) := ⟨_, rfl⟩
          refine lv_iinc (v := v_15) (lv' := [(4, Value.int v_15), (2, Value.int v_14), (5, Value.int (nI (64 * mm + nd))), (3, Value.int w9), (0, Value.ref o), (1, Value.int (nI mm))]) hx hb d_M_getNode_66 hl (k := 2) rfl (by rw [ev_15]; rfl) (by decide) rfl (fun ls hl => ?_)
          refine lv_goto (tgt := 25) hx hb d_M_getNode_69 (by decide) ?_
          exact ih9_25 _ (by first | omega | (omega)) v_15 v_14 w9 (j + 1) (2 * nd + rbt (r9.1 / 2048 * D9 nd) r9.2.1) (wrS is (rbS (r9.1 / 2048 * D9 nd) r9.1 r9.2.1 r9.2.2)) (upN D9 nd (mvC sh (rbt (r9.1 / 2048 * D9 nd) r9.2.1) (D9 nd))) f2_61 rfl (by subst_vars; exact nI_1 j) (hvn) (hw9) (by omega) (by rw [hE9, show lev n - j = (lev n - (j + 1)) + 1 by omega, gnN]) (hwr.1) (by have := hwr.2.1; rw [hrb.2.2.2] at this; omega) (by have z := nd_lo (lv := lev n) (j := lev n - j) (by omega) (by omega) hnd (rbt_lt (r9.1 / 2048 * D9 nd) r9.2.1); rw [show lev n - j - 1 = lev n - (j + 1) by omega] at z; exact z) (by rw [hw_61.2]; exact (sg_up hfK hnd64 rfl rfl).1) (by rw [hw_61.2]; exact sgO_tr (sg_up hfK hnd64 rfl rfl).2 hoK) (ch_up hs1 hD9) H locs ls (hP.sub [2, 3, 1, 0] rfl) (hD.sub [2, 3, 1, 0] (by decide +kernel) rfl) hS (lv_sub hl [0, 3, 1, 4, 5] rfl)
    exact J_25 _ 0 1 r_18 0 1 (RR, CD, q) D vThen rfl (rfl) (rfl) (hw_18) (Nat.zero_le _) (rfl) (hI) (Nat.le_add_right _ _) (by rw [Nat.sub_zero, Nat.sub_self]; decide) (hf) (sgO_rf _ _ _) (hC9) H locs ls (hP.sub [0, 1, 2, 3] rfl) (hD.sub [0, 1, 2, 3] (by decide +kernel) rfl) hS (lv_sub hl [0, 1, 2, 3, 4] rfl)
  · rw [lg_cmp_lt] at c_1
    have hxx : gnS is sh n (RR, CD, q) D = (none, (RR, CD, q), D) := by
      unfold gnS
      rw [if_neg (fun z => c_1 ((L_lt (by omega) (by omega)).mpr z))]
    refine lv_iconst (v := (-1)) hx hb d_M_getNode_12 (by decide) ?_
    exact my_iret (v := (-1)) hx hb hr (rfl) hlocks hQ hK hS (Nat.le_refl _) (Nat.le_refl _) vThen (by rw [hxx]; exact ⟨rfl, hf, sgO_rf _ _ _⟩) (by rw [hxx]; exact (hP.sub [0, 1, 2, 3] rfl)) (by rw [hxx]; exact (hD.sub [0, 1, 2, 3] (by decide +kernel) rfl)) d_M_getNode_13
end
section
/-! a sign or a VALUE of forms 0, 1, 3 is read -/
theorem pOk_lt {R L : Nat} (h : pOk R L) : R < 4294967296 := by
  obtain ⟨z1, z2, z3, z4⟩ := h
  rcases Nat.lt_or_ge R 4294967296 with z | z
  · exact z
  · have := z4 (by omega)
    omega
theorem wnt_some {tt RR x w : Nat} (h : wnt tt RR x = some w) : 0 < tt ∧ tt ≤ RR ∧ w < tt ∧ RR / tt * w ≤ x ∧ 0 < RR / tt := by
  unfold wnt at h
  split at h
  · cases h
  · rename_i h1
    split at h
    · rename_i h2
      cases h
      have hp : 0 < RR / tt := Nat.pos_of_ne_zero h1
      have ht : 0 < tt := by
        rcases Nat.eq_zero_or_pos tt with z | z
        · subst z; rw [Nat.div_zero] at hp; omega
        · exact z
      refine ⟨ht, ?_, h2, Nat.mul_div_le _ _, hp⟩
      rcases Nat.lt_or_ge RR tt with z | z
      · rw [Nat.div_eq_of_lt z] at hp; omega
      · exact z
    · cases h
theorem oL_neg {o : Option Nat} (h : ∀ v, o = some v → v < 2 ^ 63) : ¬ 0 ≤ oL o ↔ o = none := by
  cases o with
  | none => simp only [oL, iff_true]; decide
  | some v =>
    simp only [oL, reduceCtorEq, iff_false]
    exact fun z => z ((L_le (a := 0) (by decide) (h v rfl)).mpr (Nat.zero_le _))
def gr0 (is : List Nat) (n : Nat) (F : Nat → Nat) (r : RS) : Option Nat × RS × (Nat → Nat) := match wnt (ns F n) r.1 r.2.1 with
  | none => (none, r, F)
  | some w => (some (sgA F n w), wrS is (r.1 / ns F n * F (sgA F n w), r.2.1 - r.1 / ns F n * ns F (sgA F n w), r.2.2), lrn n (sgA F n w) F)
def gr1 (is : List Nat) (n : Nat) (F : Nat → Nat) (r : RP) : Option Nat × RP × (Nat → Nat) := match wnt (ns F n) r.1 ((r.2.2.1 + 4294967296 - r.2.1) % 4294967296) with
  | none => (none, r, F)
  | some w => (some (sgA F n w), prS is (r.1 / ns F n * F (sgA F n w), r.2.1 + r.1 / ns F n * ns F (sgA F n w), r.2.2.1, r.2.2.2), lrn n (sgA F n w) F)
def gv0 (is : List Nat) (b : Nat) (r : RS) : Option Nat × RS := match wnt (2 ^ b) r.1 r.2.1 with
  | none => (none, r)
  | some w => (some w, wrS is (r.1 / 2 ^ b * 1, r.2.1 - r.1 / 2 ^ b * w, r.2.2))
def gv1 (is : List Nat) (b : Nat) (r : RP) : Option Nat × RP := match wnt (2 ^ b) r.1 ((r.2.2.1 + 4294967296 - r.2.1) % 4294967296) with
  | none => (none, r)
  | some w => (some w, prS is (r.1 / 2 ^ b * 1, r.2.1 + r.1 / 2 ^ b * w, r.2.2.1, r.2.2.2))
def gs3 (is : List Nat) (n : Nat) (F : Nat → Nat) (X q : Nat) : Option Nat × (Nat × Nat) := if ns F n = 0 then (none, (X, q)) else (some (sgA F n (X % 4096)), rfS is (X / 4096 * F (sgA F n (X % 4096)) + X % 4096 - ns F (sgA F n (X % 4096)), q))
end
section
set_option maxHeartbeats 1000000 in
set_option maxRecDepth 100000 in
/-- getRanged, form 0 -/
theorem c_M_getRanged0 (l : Launch) (dC : Nat → ClassId) (dI : Nat → Nat → Nat) (cI cM cO : ClassId) (sz : Nat) (o : Nat) (g : Nat → Nat) (fShift : Int32) (fModels : Int32) (fItems : Int32) (fEnded : Int32) (fLow : Int64) (fRange : Int64) (fCache : Int32) (fPend : Int32) (fGoes : Int32) (fOuts : Int32) (fReads : Int32) (fBad : Int32) (fIR : Int32) (fBAsk : Int32) (fRL : Int64) (fX : Int64) (fWrites : Int32) (fThrown : Int32) (vMany : Nat → Int32) (vThen : Nat → Int32) (vIn : Nat → Int32) (mm : Nat) (n : Nat) (F : Nat → Nat) (RR : Nat) (CD : Nat) (is : List Nat) (q : Nat) (hmm : mm < 8) (hn : vMany mm = nI n) (hn2 : n ≤ 64) (hn0 : 0 < n) (hIn : gIs vIn is) (hlen : is.length ≤ 6000) (hoct : oct is) (hq : q < 800000) (hf : sgI vThen (64 * mm) n F) (hsum : ns F n ≤ 8192) (hR1 : RR < 4294967296) (hC : CD < 4294967296) : MetI l y_M_getRanged (Cond.code y_M_getRanged prog_14_method_52_code 6 (some .int) :: gw) ({ frames := 3, cells := 0, slots := 0, locals := 66 } : Room) (dC, dI) vwCl (kT cI cM cO) [Value.ref o, Value.int (nI mm)] [(o, Sum.inr (9, mO g 0 fShift fModels fItems fEnded fLow fRange fCache fPend fGoes fOuts (nI is.length) fReads fBad fIR (nI q) fBAsk (lN CD) fRL (lN RR) fX fWrites fThrown)), ((g 0), Sum.inl (cI, 8, Sum.inl vMany)), ((g 3), Sum.inl (cI, 512, Sum.inl vThen)), ((g 8), Sum.inl (cI, 6000, Sum.inl vIn))] sz (fun (r : Int32) (u : (Nat → Int32)) => r = oI (gr0 is n F (RR, CD, q)).1 ∧ sgI u (64 * mm) n (gr0 is n F (RR, CD, q)).2.2 ∧ sgO u vThen (64 * mm) n) (fun (u : (Nat → Int32)) => [(o, Sum.inr (9, mO g 0 fShift fModels fItems fEnded fLow fRange fCache fPend fGoes fOuts (nI is.length) fReads fBad fIR (nI (gr0 is n F (RR, CD, q)).2.1.2.2) fBAsk (lN (gr0 is n F (RR, CD, q)).2.1.2.1) fRL (lN (gr0 is n F (RR, CD, q)).2.1.1) fX fWrites fThrown)), ((g 0), Sum.inl (cI, 8, Sum.inl vMany)), ((g 3), Sum.inl (cI, 512, Sum.inl u)), ((g 8), Sum.inl (cI, 6000, Sum.inl vIn))]) 0 0 := by
  refine my_ofI (cc := prog_14_method_52_code) (n := 6) (ret := (some .int)) (by decide) rfl (Nat.le_of_ble_eq_true rfl) ?_
  intro p e s m args below meth c R Q A ls H locs hx hb hr hts hown hlocks hml hnm hR hQ hA hl hP hK hN hD hS
  have hg : ∀ w ∈ gw, w.before args s = true := fun w h => hts w (List.mem_cons_of_mem _ h)
  have hown : s.vm.findClass "RangeCodersModel" = some m.cls := hown
  have hl : lv_has ls 6 [(0, Value.ref o), (1, Value.int (nI mm))] := hl
  have hbd : bd F n 100000 := fun k hk => by have := ns_ge (F := F) hk; omega
  have hov : ∀ w, wnt (ns F n) RR CD = some w → w < 2 ^ 63 := fun w hw => by have := (wnt_some hw).2.2.1; omega
  refine lv_aload_n hx hb d_M_getRanged_0 rfl (lv_at hl 0 rfl) ?_
  refine lv_aload_n hx hb d_M_getRanged_1 rfl (lv_at hl 0 rfl) ?_
  refine va_get (D := (dC, dI)) (ci := 9) (v := .ref (g 3)) (C := "RangeCodersModel") (T := T_M) (N := 35) hx hb hg in_M hown hK hP 0 rfl rfl 6 (by decide) (hg _ k958) (fun _ h9 => h9) rfl d_M_getRanged_2 ?_
  refine lv_iload_n hx hb d_M_getRanged_5 rfl (lv_at hl 1 rfl) ?_
  refine my_ci (wr := [((g 8), Sum.inl (cI, 6000, Sum.inl vIn))]) (va_runV (As := [Value.ref (g 3), Value.int (nI mm)]) (rest := []) ⟨hx, hb, hml, hown, hts⟩ (c_M_sum l dC dI cI cM cO H.size o g 0 fShift fModels fItems fEnded fLow fRange fCache fPend fGoes fOuts (nI is.length) fReads fBad fIR (nI q) fBAsk (lN CD) fRL (lN RR) fX fWrites fThrown vMany (g 3) vThen mm n F (by assumption) (by assumption) (by assumption) (hf)) (cwV 2 hts (my_gV k936 k938 ks21 k12 k939) rfl rfl rfl cu_M_sum_2 ⟨by rw [hR]; exact Nat.le_of_ble_eq_true rfl, by rw [hR]; exact Nat.le_of_ble_eq_true rfl⟩) (my_preV hK hN (hP.sub [0, 1, 2] rfl) (hD.sub [0, 1, 2] (by decide +kernel) rfl) 0 rfl rfl) rfl rfl hl.1 rfl (lv_room (Nat.le_of_ble_eq_true rfl)) d_M_getRanged_6 ⟨by rw [hR]; exact Nat.le_of_ble_eq_true rfl, by rw [hR]; exact Nat.le_of_ble_eq_true rfl⟩) hP hD hS hA [0, 1, 2] [3] rfl rfl (by decide +kernel) (by decide +kernel) (fun r_6 u9 H locs hw_6 hP hD hS => ?_)
  have hw_6 : r_6 = nI (ns F n) := hw_6
  have hPD : my_PD (dC, dI) vwCl A [((g 8), Sum.inl (cI, 6000, Sum.inl vIn)), (o, Sum.inr (9, mO g 0 fShift fModels fItems fEnded fLow fRange fCache fPend fGoes fOuts (nI is.length) fReads fBad fIR (nI q) fBAsk (lN CD) fRL (lN RR) fX fWrites fThrown)), ((g 0), Sum.inl (cI, 8, Sum.inl vMany)), ((g 3), Sum.inl (cI, 512, Sum.inl vThen))] H := ⟨hP, hD⟩
  have hP := hPD.1
  have hD := hPD.2
  have z9 : r_6 = nI (ns F n) := hw_6
  subst z9
  refine lv_istore_n (lv' := [(2, Value.int (nI (ns F n))), (0, Value.ref o), (1, Value.int (nI mm))]) hx hb d_M_getRanged_9 rfl hl (by decide) rfl (fun ls hl => ?_)
  refine lv_aload_n hx hb d_M_getRanged_10 rfl (lv_at hl 1 rfl) ?_
  refine lv_iload_n hx hb d_M_getRanged_11 rfl (lv_at hl 0 rfl) ?_
  refine my_cl (wr := [((g 8), Sum.inl (cI, 6000, Sum.inl vIn)), ((g 0), Sum.inl (cI, 8, Sum.inl vMany)), ((g 3), Sum.inl (cI, 512, Sum.inl vThen))]) (va_runV (As := [Value.int (nI (ns F n))]) (rest := []) ⟨hx, hb, hml, hown, hts⟩ (c_M_wanted0 l dC dI cI cM cO H.size o g fShift fModels fItems fEnded fLow fRange fCache fPend fGoes fOuts (nI is.length) fReads fBad fIR (nI q) fBAsk fRL fX fWrites fThrown (ns F n) RR CD (by omega) (hR1) (by assumption)) (cwV 1 hts (my_gV k1210 k1212 ks48 k12 k1213) rfl rfl rfl cu_M_wanted_1 ⟨by rw [hR]; exact Nat.le_of_ble_eq_true rfl, by rw [hR]; exact Nat.le_of_ble_eq_true rfl⟩) (my_preV hK hN (hP.sub [1] rfl) (hD.sub [1] (by decide +kernel) rfl) 0 rfl rfl) rfl rfl hl.1 rfl (lv_room (Nat.le_of_ble_eq_true rfl)) d_M_getRanged_12 ⟨by rw [hR]; exact Nat.le_of_ble_eq_true rfl, by rw [hR]; exact Nat.le_of_ble_eq_true rfl⟩) hP hD hS hA [1] [0, 2, 3] rfl rfl (by decide +kernel) (by decide +kernel) (fun r_12 u9 H locs hw_12 hP hD hS => ?_)
  have hw_12 : r_12 = oL (wnt (ns F n) RR CD) := hw_12
  have hPD : my_PD (dC, dI) vwCl A [((g 8), Sum.inl (cI, 6000, Sum.inl vIn)), ((g 0), Sum.inl (cI, 8, Sum.inl vMany)), ((g 3), Sum.inl (cI, 512, Sum.inl vThen)), (o, Sum.inr (9, mO g 0 fShift fModels fItems fEnded fLow fRange fCache fPend fGoes fOuts (nI is.length) fReads fBad fIR (nI q) fBAsk (lN CD) fRL (lN RR) fX fWrites fThrown))] H := ⟨hP, hD⟩
  have hP := hPD.1
  have hD := hPD.2
  refine lv_lstore_n (lv' := [(3, Value.long r_12), (2, Value.int (nI (ns F n))), (0, Value.ref o), (1, Value.int (nI mm))]) hx hb d_M_getRanged_15 rfl hl (by decide) rfl (fun ls hl => ?_)
  refine lv_lload_n hx hb d_M_getRanged_16 rfl (lv_at hl 0 rfl) ?_
  refine lv_lconst (v := 0) hx hb d_M_getRanged_17 (by decide) ?_
  refine W.lcmp hx hb d_M_getRanged_18 ?_
  refine lv_if_ge (tgt := 24) hx hb d_M_getRanged_19 (by decide) (fun c_1 => ?_) (fun c_1 => ?_)
  · rw [lg_cmp_ge] at c_1
    obtain ⟨uu, huu⟩ : ∃ w, wnt (ns F n) RR CD = some w := by
      cases hh : wnt (ns F n) RR CD with
      | none => exact absurd c_1 (by rw [hw_12]; exact (oL_neg hov).mpr hh)
      | some w => exact ⟨w, rfl⟩
    have hws := wnt_some huu
    have hsg := sgA_spec hws.2.2.1
    have hm1 := ns_m1 F hsg.1
    have hxx : gr0 is n F (RR, CD, q) = (some (sgA F n uu), wrS is (RR / ns F n * F (sgA F n uu), CD - RR / ns F n * ns F (sgA F n uu), q), lrn n (sgA F n uu) F) := by unfold gr0; simp only [huu]
    have z9 : r_12 = lN uu := by rw [hw_12, huu]; rfl
    subst z9
    refine lv_aload_n hx hb d_M_getRanged_24 rfl (lv_at hl 2 rfl) ?_
    refine lv_iload_n hx hb d_M_getRanged_25 rfl (lv_at hl 3 rfl) ?_
    refine lv_lload_n hx hb d_M_getRanged_26 rfl (lv_at hl 0 rfl) ?_
    refine my_ci (wr := [((g 8), Sum.inl (cI, 6000, Sum.inl vIn)), ((g 0), Sum.inl (cI, 8, Sum.inl vMany))]) (va_runV (As := [Value.int (nI mm), Value.long (lN uu)]) (rest := []) ⟨hx, hb, hml, hown, hts⟩ (c_M_signAt l dC dI cI cM cO H.size o g 0 fShift fModels fItems fEnded fLow fRange fCache fPend fGoes fOuts (nI is.length) fReads fBad fIR (nI q) fBAsk (lN CD) fRL (lN RR) fX fWrites fThrown vThen mm n F uu (by assumption) (by assumption) (hf) (hws.2.2.1) (by omega)) (cwV 2 hts (my_gV k1215 k1217 ks49 k12 k1218) rfl rfl rfl cu_M_signAt_2 ⟨by rw [hR]; exact Nat.le_of_ble_eq_true rfl, by rw [hR]; exact Nat.le_of_ble_eq_true rfl⟩) (my_preV hK hN (hP.sub [3, 2] rfl) (hD.sub [3, 2] (by decide +kernel) rfl) 0 rfl rfl) rfl rfl hl.1 rfl (lv_room (Nat.le_of_ble_eq_true rfl)) d_M_getRanged_27 ⟨by rw [hR]; exact Nat.le_of_ble_eq_true rfl, by rw [hR]; exact Nat.le_of_ble_eq_true rfl⟩) hP hD hS hA [3, 2] [0, 1] rfl rfl (by decide +kernel) (by decide +kernel) (fun r_27 u9 H locs hw_27 hP hD hS => ?_)
    have hw_27 : r_27 = nI (sgA F n uu) := hw_27
    have hPD : my_PD (dC, dI) vwCl A [((g 8), Sum.inl (cI, 6000, Sum.inl vIn)), ((g 0), Sum.inl (cI, 8, Sum.inl vMany)), (o, Sum.inr (9, mO g 0 fShift fModels fItems fEnded fLow fRange fCache fPend fGoes fOuts (nI is.length) fReads fBad fIR (nI q) fBAsk (lN CD) fRL (lN RR) fX fWrites fThrown)), ((g 3), Sum.inl (cI, 512, Sum.inl vThen))] H := ⟨hP, hD⟩
    have hP := hPD.1
    have hD := hPD.2
    have z9 : r_27 = nI (sgA F n uu) := hw_27
    subst z9
    refine lv_istore (lv' := [(5, Value.int (nI (sgA F n uu))), (3, Value.long (lN uu)), (2, Value.int (nI (ns F n))), (0, Value.ref o), (1, Value.int (nI mm))]) hx hb d_M_getRanged_30 hl (by decide) rfl (fun ls hl => ?_)
    refine lv_aload_n hx hb d_M_getRanged_32 rfl (lv_at hl 3 rfl) ?_
    refine lv_aload_n hx hb d_M_getRanged_33 rfl (lv_at hl 3 rfl) ?_
    refine lv_aload_n hx hb d_M_getRanged_34 rfl (lv_at hl 3 rfl) ?_
    refine va_get (D := (dC, dI)) (ci := 9) (v := .ref (g 3)) (C := "RangeCodersModel") (T := T_M) (N := 35) hx hb hg in_M hown hK hP 2 rfl rfl 6 (by decide) (hg _ k958) (fun _ h9 => h9) rfl d_M_getRanged_35 ?_
    refine lv_iload_n hx hb d_M_getRanged_38 rfl (lv_at hl 4 rfl) ?_
    refine lv_iload hx hb d_M_getRanged_39 (lv_at hl 0 rfl) ?_
    refine my_ci (wr := [((g 8), Sum.inl (cI, 6000, Sum.inl vIn)), ((g 0), Sum.inl (cI, 8, Sum.inl vMany))]) (va_runV (As := [Value.ref (g 3), Value.int (nI mm), Value.int (nI (sgA F n uu))]) (rest := [Value.ref o]) ⟨hx, hb, hml, hown, hts⟩ (c_M_before l dC dI cI cM cO H.size o g 0 fShift fModels fItems fEnded fLow fRange fCache fPend fGoes fOuts (nI is.length) fReads fBad fIR (nI q) fBAsk (lN CD) fRL (lN RR) fX fWrites fThrown (g 3) vThen mm (sgA F n uu) F (by assumption) (by omega) (sgI_w hf (by omega))) (cwV 3 hts (my_gV k1089 k1091 ks28 k12 k1092) rfl rfl rfl cu_M_before_3 ⟨by rw [hR]; exact Nat.le_of_ble_eq_true rfl, by rw [hR]; exact Nat.le_of_ble_eq_true rfl⟩) (my_preV hK hN (hP.sub [2, 3] rfl) (hD.sub [2, 3] (by decide +kernel) rfl) 0 rfl rfl) rfl rfl hl.1 rfl (lv_room (Nat.le_of_ble_eq_true rfl)) d_M_getRanged_41 ⟨by rw [hR]; exact Nat.le_of_ble_eq_true rfl, by rw [hR]; exact Nat.le_of_ble_eq_true rfl⟩) hP hD hS hA [2, 3] [0, 1] rfl rfl (by decide +kernel) (by decide +kernel) (fun r_41 u9 H locs hw_41 hP hD hS => ?_)
    have hw_41 : r_41 = nI (ns F (sgA F n uu)) := hw_41
    have hPD : my_PD (dC, dI) vwCl A [((g 8), Sum.inl (cI, 6000, Sum.inl vIn)), ((g 0), Sum.inl (cI, 8, Sum.inl vMany)), (o, Sum.inr (9, mO g 0 fShift fModels fItems fEnded fLow fRange fCache fPend fGoes fOuts (nI is.length) fReads fBad fIR (nI q) fBAsk (lN CD) fRL (lN RR) fX fWrites fThrown)), ((g 3), Sum.inl (cI, 512, Sum.inl vThen))] H := ⟨hP, hD⟩
    have hP := hPD.1
    have hD := hPD.2
    have z9 : r_41 = nI (ns F (sgA F n uu)) := hw_41
    subst z9
    refine lv_aload_n hx hb d_M_getRanged_44 rfl (lv_at hl 3 rfl) ?_
    refine va_get (D := (dC, dI)) (ci := 9) (v := .ref (g 3)) (C := "RangeCodersModel") (T := T_M) (N := 35) hx hb hg in_M hown hK hP 2 rfl rfl 6 (by decide) (hg _ k958) (fun _ h9 => h9) rfl d_M_getRanged_45 ?_
    refine lv_bipush (v := 64) hx hb d_M_getRanged_48 (by decide) ?_
    refine lv_iload_n hx hb d_M_getRanged_50 rfl (lv_at hl 4 rfl) ?_
    refine lv_imul hx hb d_M_getRanged_51 ?_
    refine lv_topi (fun v_2 ev_2 => ?_)
    refine lv_iload hx hb d_M_getRanged_52 (lv_at hl 0 rfl) ?_
    refine lv_iadd hx hb d_M_getRanged_54 ?_
    refine lv_topi (fun v_3 ev_3 => ?_)
    have hix : v_3 = nI (64 * mm + sgA F n uu) := by subst_vars; exact ix64
    refine va_iald hx hb hK hP 3 0 rfl rfl (by rw [hix]; exact vp_in_nI (by omega) (by decide)) d_M_getRanged_55 ?_
    refine lv_topi (fun v_4 ev_4 => ?_)
    have z9 : v_4 = nI (F (sgA F n uu)) := by subst_vars; rw [nI_clamp (by omega)]; exact hf _ hsg.1
    subst z9
    refine lv_iload_n hx hb d_M_getRanged_56 rfl (lv_at hl 2 rfl) ?_
    refine my_cv (wr := [((g 0), Sum.inl (cI, 8, Sum.inl vMany)), ((g 3), Sum.inl (cI, 512, Sum.inl vThen))]) (va_runV (As := [Value.int (nI (ns F (sgA F n uu))), Value.int (nI (F (sgA F n uu))), Value.int (nI (ns F n))]) (rest := []) ⟨hx, hb, hml, hown, hts⟩ (c_M_leave0 l dC dI cI cM cO H.size o g fShift fModels fItems fEnded fLow fRange fCache fPend fGoes fOuts fReads fBad fIR fBAsk fRL fX fWrites fThrown vIn (ns F (sgA F n uu)) (F (sgA F n uu)) (ns F n) RR CD is q (hIn) (by assumption) (by assumption) (by omega) (hws.1) (by omega) (hm1) (by omega) (hws.2.1) (hR1) (by assumption) (Nat.le_trans (Nat.mul_le_mul_left _ hsg.2.1) hws.2.2.2.1)) (cwV 3 hts (my_gV k1219 k1221 ks50 k12 k1222) rfl rfl rfl cu_M_leave_3 ⟨by rw [hR]; exact Nat.le_of_ble_eq_true rfl, by rw [hR]; exact Nat.le_of_ble_eq_true rfl⟩) (my_preV hK hN (hP.sub [2, 0] rfl) (hD.sub [2, 0] (by decide +kernel) rfl) 0 rfl rfl) rfl rfl hl.1 rfl (lv_room (Nat.le_of_ble_eq_true rfl)) d_M_getRanged_57 ⟨by rw [hR]; exact Nat.le_of_ble_eq_true rfl, by rw [hR]; exact Nat.le_of_ble_eq_true rfl⟩) hP hD hS hA [2, 0] [1, 3] rfl rfl (by decide +kernel) (by decide +kernel) (fun u9 H locs hw_57 hP hD hS => ?_)
    have hw_57 : True := hw_57
    have hPD : my_PD (dC, dI) vwCl A [((g 0), Sum.inl (cI, 8, Sum.inl vMany)), ((g 3), Sum.inl (cI, 512, Sum.inl vThen)), (o, Sum.inr (9, mO g 0 fShift fModels fItems fEnded fLow fRange fCache fPend fGoes fOuts (nI is.length) fReads fBad fIR (nI (wrS is (RR / (ns F n) * (F (sgA F n uu)), CD - RR / (ns F n) * (ns F (sgA F n uu)), q)).2.2) fBAsk (lN (wrS is (RR / (ns F n) * (F (sgA F n uu)), CD - RR / (ns F n) * (ns F (sgA F n uu)), q)).2.1) fRL (lN (wrS is (RR / (ns F n) * (F (sgA F n uu)), CD - RR / (ns F n) * (ns F (sgA F n uu)), q)).1) fX fWrites fThrown)), ((g 8), Sum.inl (cI, 6000, Sum.inl vIn))] H := ⟨hP, hD⟩
    have hP := hPD.1
    have hD := hPD.2
    refine lv_aload_n hx hb d_M_getRanged_60 rfl (lv_at hl 3 rfl) ?_
    refine lv_aload_n hx hb d_M_getRanged_61 rfl (lv_at hl 3 rfl) ?_
    refine va_get (D := (dC, dI)) (ci := 9) (v := .ref (g 3)) (C := "RangeCodersModel") (T := T_M) (N := 35) hx hb hg in_M hown hK hP 2 rfl rfl 6 (by decide) (hg _ k958) (fun _ h9 => h9) rfl d_M_getRanged_62 ?_
    refine lv_iload_n hx hb d_M_getRanged_65 rfl (lv_at hl 4 rfl) ?_
    refine lv_iload hx hb d_M_getRanged_66 (lv_at hl 0 rfl) ?_
    refine my_cv (wr := [((g 8), Sum.inl (cI, 6000, Sum.inl vIn))]) (va_runV (As := [Value.ref (g 3), Value.int (nI mm), Value.int (nI (sgA F n uu))]) (rest := []) ⟨hx, hb, hml, hown, hts⟩ (c_M_learn l dC dI cI cM cO H.size o g 0 fShift fModels fItems fEnded fLow fRange fCache fPend fGoes fOuts (nI is.length) fReads fBad fIR (nI (wrS is (RR / (ns F n) * (F (sgA F n uu)), CD - RR / (ns F n) * (ns F (sgA F n uu)), q)).2.2) fBAsk (lN (wrS is (RR / (ns F n) * (F (sgA F n uu)), CD - RR / (ns F n) * (ns F (sgA F n uu)), q)).2.1) fRL (lN (wrS is (RR / (ns F n) * (F (sgA F n uu)), CD - RR / (ns F n) * (ns F (sgA F n uu)), q)).1) fX fWrites fThrown vMany (g 3) vThen mm n (sgA F n uu) F (by assumption) (by assumption) (by assumption) (hsg.1) (hf) (hbd)) (cwV 3 hts (my_gV k1119 k1121 ks34 k12 k1122) rfl rfl rfl cu_M_learn_3 ⟨by rw [hR]; exact Nat.le_of_ble_eq_true rfl, by rw [hR]; exact Nat.le_of_ble_eq_true rfl⟩) (my_preV hK hN (hP.sub [2, 0, 1] rfl) (hD.sub [2, 0, 1] (by decide +kernel) rfl) 0 rfl rfl) rfl rfl hl.1 rfl (lv_room (Nat.le_of_ble_eq_true rfl)) d_M_getRanged_68 ⟨by rw [hR]; exact Nat.le_of_ble_eq_true rfl, by rw [hR]; exact Nat.le_of_ble_eq_true rfl⟩) hP hD hS hA [2, 0, 1] [3] rfl rfl (by decide +kernel) (by decide +kernel) (fun u9 H locs hw_68 hP hD hS => ?_)
    obtain ⟨f2_68, rfl⟩ : ∃ z, z = u9 := ⟨_, rfl⟩
    have hw_68 : sgI f2_68 (64 * mm) n (lrn n (sgA F n uu) F) ∧ sgO f2_68 vThen (64 * mm) n := hw_68
    have hPD : my_PD (dC, dI) vwCl A [((g 8), Sum.inl (cI, 6000, Sum.inl vIn)), (o, Sum.inr (9, mO g 0 fShift fModels fItems fEnded fLow fRange fCache fPend fGoes fOuts (nI is.length) fReads fBad fIR (nI (wrS is (RR / (ns F n) * (F (sgA F n uu)), CD - RR / (ns F n) * (ns F (sgA F n uu)), q)).2.2) fBAsk (lN (wrS is (RR / (ns F n) * (F (sgA F n uu)), CD - RR / (ns F n) * (ns F (sgA F n uu)), q)).2.1) fRL (lN (wrS is (RR / (ns F n) * (F (sgA F n uu)), CD - RR / (ns F n) * (ns F (sgA F n uu)), q)).1) fX fWrites fThrown)), ((g 0), Sum.inl (cI, 8, Sum.inl vMany)), ((g 3), Sum.inl (cI, 512, Sum.inl f2_68))] H := ⟨hP, hD⟩
    have hP := hPD.1
    have hD := hPD.2
    refine lv_iload hx hb d_M_getRanged_71 (lv_at hl 0 rfl) ?_
    exact my_iret (v := (nI (sgA F n uu))) hx hb hr (rfl) hlocks hQ hK hS (Nat.le_refl _) (Nat.le_refl _) f2_68 (by rw [hxx]; exact ⟨rfl, hw_68.1, hw_68.2⟩) (by rw [hxx]; exact (hP.sub [1, 2, 3, 0] rfl)) (by rw [hxx]; exact (hD.sub [1, 2, 3, 0] (by decide +kernel) rfl)) d_M_getRanged_73
  · rw [lg_cmp_ge] at c_1
    have hno : wnt (ns F n) RR CD = none := (oL_neg hov).mp (by rw [← hw_12]; exact c_1)
    have hxx : gr0 is n F (RR, CD, q) = (none, (RR, CD, q), F) := by unfold gr0; simp only [hno]
    refine lv_iconst (v := (-1)) hx hb d_M_getRanged_22 (by decide) ?_
    exact my_iret (v := (-1)) hx hb hr (rfl) hlocks hQ hK hS (Nat.le_refl _) (Nat.le_refl _) vThen (by rw [hxx]; exact ⟨rfl, hf, sgO_rf _ _ _⟩) (by rw [hxx]; exact (hP.sub [3, 1, 2, 0] rfl)) (by rw [hxx]; exact (hD.sub [3, 1, 2, 0] (by decide +kernel) rfl)) d_M_getRanged_23
set_option maxHeartbeats 1000000 in
set_option maxRecDepth 100000 in
/-- getRanged, form 1 -/
theorem c_M_getRanged1 (l : Launch) (dC : Nat → ClassId) (dI : Nat → Nat → Nat) (cI cM cO : ClassId) (sz : Nat) (o : Nat) (g : Nat → Nat) (fShift : Int32) (fModels : Int32) (fItems : Int32) (fEnded : Int32) (fLow : Int64) (fRange : Int64) (fCache : Int32) (fPend : Int32) (fGoes : Int32) (fOuts : Int32) (fReads : Int32) (fBad : Int32) (fIR : Int32) (fBAsk : Int32) (fX : Int64) (fWrites : Int32) (fThrown : Int32) (vMany : Nat → Int32) (vThen : Nat → Int32) (vIn : Nat → Int32) (mm : Nat) (n : Nat) (F : Nat → Nat) (RR : Nat) (L : Nat) (CD : Nat) (is : List Nat) (q : Nat) (hmm : mm < 8) (hn : vMany mm = nI n) (hn2 : n ≤ 64) (hn0 : 0 < n) (hIn : gIs vIn is) (hlen : is.length ≤ 6000) (hoct : oct is) (hq : q < 800000) (hf : sgI vThen (64 * mm) n F) (hsum : ns F n ≤ 8192) (hp : pOk RR L) (hC : CD < 4294967296) : MetI l y_M_getRanged (Cond.code y_M_getRanged prog_14_method_52_code 6 (some .int) :: gw) ({ frames := 3, cells := 0, slots := 0, locals := 68 } : Room) (dC, dI) vwCl (kT cI cM cO) [Value.ref o, Value.int (nI mm)] [(o, Sum.inr (9, mO g 1 fShift fModels fItems fEnded fLow fRange fCache fPend fGoes fOuts (nI is.length) fReads fBad fIR (nI q) fBAsk (lN CD) (lN L) (lN RR) fX fWrites fThrown)), ((g 0), Sum.inl (cI, 8, Sum.inl vMany)), ((g 3), Sum.inl (cI, 512, Sum.inl vThen)), ((g 8), Sum.inl (cI, 6000, Sum.inl vIn))] sz (fun (r : Int32) (u : (Nat → Int32)) => r = oI (gr1 is n F (RR, L, CD, q)).1 ∧ sgI u (64 * mm) n (gr1 is n F (RR, L, CD, q)).2.2 ∧ sgO u vThen (64 * mm) n) (fun (u : (Nat → Int32)) => [(o, Sum.inr (9, mO g 1 fShift fModels fItems fEnded fLow fRange fCache fPend fGoes fOuts (nI is.length) fReads fBad fIR (nI (gr1 is n F (RR, L, CD, q)).2.1.2.2.2) fBAsk (lN (gr1 is n F (RR, L, CD, q)).2.1.2.2.1) (lN (gr1 is n F (RR, L, CD, q)).2.1.2.1) (lN (gr1 is n F (RR, L, CD, q)).2.1.1) fX fWrites fThrown)), ((g 0), Sum.inl (cI, 8, Sum.inl vMany)), ((g 3), Sum.inl (cI, 512, Sum.inl u)), ((g 8), Sum.inl (cI, 6000, Sum.inl vIn))]) 0 0 := by
  refine my_ofI (cc := prog_14_method_52_code) (n := 6) (ret := (some .int)) (by decide) rfl (Nat.le_of_ble_eq_true rfl) ?_
  intro p e s m args below meth c R Q A ls H locs hx hb hr hts hown hlocks hml hnm hR hQ hA hl hP hK hN hD hS
  have hg : ∀ w ∈ gw, w.before args s = true := fun w h => hts w (List.mem_cons_of_mem _ h)
  have hown : s.vm.findClass "RangeCodersModel" = some m.cls := hown
  have hl : lv_has ls 6 [(0, Value.ref o), (1, Value.int (nI mm))] := hl
  have hR9 : RR ≤ 4294967296 := by have := hp.2.2.1; omega
  have hbd : bd F n 100000 := fun k hk => by have := ns_ge (F := F) hk; omega
  have hov : ∀ w, wnt (ns F n) RR ((CD + 4294967296 - L) % 4294967296) = some w → w < 2 ^ 63 := fun w hw => by have := (wnt_some hw).2.2.1; omega
  refine lv_aload_n hx hb d_M_getRanged_0 rfl (lv_at hl 0 rfl) ?_
  refine lv_aload_n hx hb d_M_getRanged_1 rfl (lv_at hl 0 rfl) ?_
  refine va_get (D := (dC, dI)) (ci := 9) (v := .ref (g 3)) (C := "RangeCodersModel") (T := T_M) (N := 35) hx hb hg in_M hown hK hP 0 rfl rfl 6 (by decide) (hg _ k958) (fun _ h9 => h9) rfl d_M_getRanged_2 ?_
  refine lv_iload_n hx hb d_M_getRanged_5 rfl (lv_at hl 1 rfl) ?_
  refine my_ci (wr := [((g 8), Sum.inl (cI, 6000, Sum.inl vIn))]) (va_runV (As := [Value.ref (g 3), Value.int (nI mm)]) (rest := []) ⟨hx, hb, hml, hown, hts⟩ (c_M_sum l dC dI cI cM cO H.size o g 1 fShift fModels fItems fEnded fLow fRange fCache fPend fGoes fOuts (nI is.length) fReads fBad fIR (nI q) fBAsk (lN CD) (lN L) (lN RR) fX fWrites fThrown vMany (g 3) vThen mm n F (by assumption) (by assumption) (by assumption) (hf)) (cwV 2 hts (my_gV k936 k938 ks21 k12 k939) rfl rfl rfl cu_M_sum_2 ⟨by rw [hR]; exact Nat.le_of_ble_eq_true rfl, by rw [hR]; exact Nat.le_of_ble_eq_true rfl⟩) (my_preV hK hN (hP.sub [0, 1, 2] rfl) (hD.sub [0, 1, 2] (by decide +kernel) rfl) 0 rfl rfl) rfl rfl hl.1 rfl (lv_room (Nat.le_of_ble_eq_true rfl)) d_M_getRanged_6 ⟨by rw [hR]; exact Nat.le_of_ble_eq_true rfl, by rw [hR]; exact Nat.le_of_ble_eq_true rfl⟩) hP hD hS hA [0, 1, 2] [3] rfl rfl (by decide +kernel) (by decide +kernel) (fun r_6 u9 H locs hw_6 hP hD hS => ?_)
  have hw_6 : r_6 = nI (ns F n) := hw_6
  have hPD : my_PD (dC, dI) vwCl A [((g 8), Sum.inl (cI, 6000, Sum.inl vIn)), (o, Sum.inr (9, mO g 1 fShift fModels fItems fEnded fLow fRange fCache fPend fGoes fOuts (nI is.length) fReads fBad fIR (nI q) fBAsk (lN CD) (lN L) (lN RR) fX fWrites fThrown)), ((g 0), Sum.inl (cI, 8, Sum.inl vMany)), ((g 3), Sum.inl (cI, 512, Sum.inl vThen))] H := ⟨hP, hD⟩
  have hP := hPD.1
  have hD := hPD.2
  have z9 : r_6 = nI (ns F n) := hw_6
  subst z9
  refine lv_istore_n (lv' := [(2, Value.int (nI (ns F n))), (0, Value.ref o), (1, Value.int (nI mm))]) hx hb d_M_getRanged_9 rfl hl (by decide) rfl (fun ls hl => ?_)
  refine lv_aload_n hx hb d_M_getRanged_10 rfl (lv_at hl 1 rfl) ?_
  refine lv_iload_n hx hb d_M_getRanged_11 rfl (lv_at hl 0 rfl) ?_
  refine my_cl (wr := [((g 8), Sum.inl (cI, 6000, Sum.inl vIn)), ((g 0), Sum.inl (cI, 8, Sum.inl vMany)), ((g 3), Sum.inl (cI, 512, Sum.inl vThen))]) (va_runV (As := [Value.int (nI (ns F n))]) (rest := []) ⟨hx, hb, hml, hown, hts⟩ (c_M_wanted1 l dC dI cI cM cO H.size o g fShift fModels fItems fEnded fLow fRange fCache fPend fGoes fOuts (nI is.length) fReads fBad fIR (nI q) fBAsk fX fWrites fThrown (ns F n) RR CD L (by omega) (pOk_lt hp) (by assumption) (hp.1)) (cwV 1 hts (my_gV k1210 k1212 ks48 k12 k1213) rfl rfl rfl cu_M_wanted_1 ⟨by rw [hR]; exact Nat.le_of_ble_eq_true rfl, by rw [hR]; exact Nat.le_of_ble_eq_true rfl⟩) (my_preV hK hN (hP.sub [1] rfl) (hD.sub [1] (by decide +kernel) rfl) 0 rfl rfl) rfl rfl hl.1 rfl (lv_room (Nat.le_of_ble_eq_true rfl)) d_M_getRanged_12 ⟨by rw [hR]; exact Nat.le_of_ble_eq_true rfl, by rw [hR]; exact Nat.le_of_ble_eq_true rfl⟩) hP hD hS hA [1] [0, 2, 3] rfl rfl (by decide +kernel) (by decide +kernel) (fun r_12 u9 H locs hw_12 hP hD hS => ?_)
  have hw_12 : r_12 = oL (wnt (ns F n) RR ((CD + 4294967296 - L) % 4294967296)) := hw_12
  have hPD : my_PD (dC, dI) vwCl A [((g 8), Sum.inl (cI, 6000, Sum.inl vIn)), ((g 0), Sum.inl (cI, 8, Sum.inl vMany)), ((g 3), Sum.inl (cI, 512, Sum.inl vThen)), (o, Sum.inr (9, mO g 1 fShift fModels fItems fEnded fLow fRange fCache fPend fGoes fOuts (nI is.length) fReads fBad fIR (nI q) fBAsk (lN CD) (lN L) (lN RR) fX fWrites fThrown))] H := ⟨hP, hD⟩
  have hP := hPD.1
  have hD := hPD.2
  refine lv_lstore_n (lv' := [(3, Value.long r_12), (2, Value.int (nI (ns F n))), (0, Value.ref o), (1, Value.int (nI mm))]) hx hb d_M_getRanged_15 rfl hl (by decide) rfl (fun ls hl => ?_)
  refine lv_lload_n hx hb d_M_getRanged_16 rfl (lv_at hl 0 rfl) ?_
  refine lv_lconst (v := 0) hx hb d_M_getRanged_17 (by decide) ?_
  refine W.lcmp hx hb d_M_getRanged_18 ?_
  refine lv_if_ge (tgt := 24) hx hb d_M_getRanged_19 (by decide) (fun c_1 => ?_) (fun c_1 => ?_)
  · rw [lg_cmp_ge] at c_1
    obtain ⟨uu, huu⟩ : ∃ w, wnt (ns F n) RR ((CD + 4294967296 - L) % 4294967296) = some w := by
      cases hh : wnt (ns F n) RR ((CD + 4294967296 - L) % 4294967296) with
      | none => exact absurd c_1 (by rw [hw_12]; exact (oL_neg hov).mpr hh)
      | some w => exact ⟨w, rfl⟩
    have hws := wnt_some huu
    have hsg := sgA_spec hws.2.2.1
    have hm1 := ns_m1 F hsg.1
    have hxx : gr1 is n F (RR, L, CD, q) = (some (sgA F n uu), prS is (RR / ns F n * F (sgA F n uu), L + RR / ns F n * ns F (sgA F n uu), CD, q), lrn n (sgA F n uu) F) := by unfold gr1; simp only [huu]
    have z9 : r_12 = lN uu := by rw [hw_12, huu]; rfl
    subst z9
    refine lv_aload_n hx hb d_M_getRanged_24 rfl (lv_at hl 2 rfl) ?_
    refine lv_iload_n hx hb d_M_getRanged_25 rfl (lv_at hl 3 rfl) ?_
    refine lv_lload_n hx hb d_M_getRanged_26 rfl (lv_at hl 0 rfl) ?_
    refine my_ci (wr := [((g 8), Sum.inl (cI, 6000, Sum.inl vIn)), ((g 0), Sum.inl (cI, 8, Sum.inl vMany))]) (va_runV (As := [Value.int (nI mm), Value.long (lN uu)]) (rest := []) ⟨hx, hb, hml, hown, hts⟩ (c_M_signAt l dC dI cI cM cO H.size o g 1 fShift fModels fItems fEnded fLow fRange fCache fPend fGoes fOuts (nI is.length) fReads fBad fIR (nI q) fBAsk (lN CD) (lN L) (lN RR) fX fWrites fThrown vThen mm n F uu (by assumption) (by assumption) (hf) (hws.2.2.1) (by omega)) (cwV 2 hts (my_gV k1215 k1217 ks49 k12 k1218) rfl rfl rfl cu_M_signAt_2 ⟨by rw [hR]; exact Nat.le_of_ble_eq_true rfl, by rw [hR]; exact Nat.le_of_ble_eq_true rfl⟩) (my_preV hK hN (hP.sub [3, 2] rfl) (hD.sub [3, 2] (by decide +kernel) rfl) 0 rfl rfl) rfl rfl hl.1 rfl (lv_room (Nat.le_of_ble_eq_true rfl)) d_M_getRanged_27 ⟨by rw [hR]; exact Nat.le_of_ble_eq_true rfl, by rw [hR]; exact Nat.le_of_ble_eq_true rfl⟩) hP hD hS hA [3, 2] [0, 1] rfl rfl (by decide +kernel) (by decide +kernel) (fun r_27 u9 H locs hw_27 hP hD hS => ?_)
    have hw_27 : r_27 = nI (sgA F n uu) := hw_27
    have hPD : my_PD (dC, dI) vwCl A [((g 8), Sum.inl (cI, 6000, Sum.inl vIn)), ((g 0), Sum.inl (cI, 8, Sum.inl vMany)), (o, Sum.inr (9, mO g 1 fShift fModels fItems fEnded fLow fRange fCache fPend fGoes fOuts (nI is.length) fReads fBad fIR (nI q) fBAsk (lN CD) (lN L) (lN RR) fX fWrites fThrown)), ((g 3), Sum.inl (cI, 512, Sum.inl vThen))] H := ⟨hP, hD⟩
    have hP := hPD.1
    have hD := hPD.2
    have z9 : r_27 = nI (sgA F n uu) := hw_27
    subst z9
    refine lv_istore (lv' := [(5, Value.int (nI (sgA F n uu))), (3, Value.long (lN uu)), (2, Value.int (nI (ns F n))), (0, Value.ref o), (1, Value.int (nI mm))]) hx hb d_M_getRanged_30 hl (by decide) rfl (fun ls hl => ?_)
    refine lv_aload_n hx hb d_M_getRanged_32 rfl (lv_at hl 3 rfl) ?_
    refine lv_aload_n hx hb d_M_getRanged_33 rfl (lv_at hl 3 rfl) ?_
    refine lv_aload_n hx hb d_M_getRanged_34 rfl (lv_at hl 3 rfl) ?_
    refine va_get (D := (dC, dI)) (ci := 9) (v := .ref (g 3)) (C := "RangeCodersModel") (T := T_M) (N := 35) hx hb hg in_M hown hK hP 2 rfl rfl 6 (by decide) (hg _ k958) (fun _ h9 => h9) rfl d_M_getRanged_35 ?_
    refine lv_iload_n hx hb d_M_getRanged_38 rfl (lv_at hl 4 rfl) ?_
    refine lv_iload hx hb d_M_getRanged_39 (lv_at hl 0 rfl) ?_
    refine my_ci (wr := [((g 8), Sum.inl (cI, 6000, Sum.inl vIn)), ((g 0), Sum.inl (cI, 8, Sum.inl vMany))]) (va_runV (As := [Value.ref (g 3), Value.int (nI mm), Value.int (nI (sgA F n uu))]) (rest := [Value.ref o]) ⟨hx, hb, hml, hown, hts⟩ (c_M_before l dC dI cI cM cO H.size o g 1 fShift fModels fItems fEnded fLow fRange fCache fPend fGoes fOuts (nI is.length) fReads fBad fIR (nI q) fBAsk (lN CD) (lN L) (lN RR) fX fWrites fThrown (g 3) vThen mm (sgA F n uu) F (by assumption) (by omega) (sgI_w hf (by omega))) (cwV 3 hts (my_gV k1089 k1091 ks28 k12 k1092) rfl rfl rfl cu_M_before_3 ⟨by rw [hR]; exact Nat.le_of_ble_eq_true rfl, by rw [hR]; exact Nat.le_of_ble_eq_true rfl⟩) (my_preV hK hN (hP.sub [2, 3] rfl) (hD.sub [2, 3] (by decide +kernel) rfl) 0 rfl rfl) rfl rfl hl.1 rfl (lv_room (Nat.le_of_ble_eq_true rfl)) d_M_getRanged_41 ⟨by rw [hR]; exact Nat.le_of_ble_eq_true rfl, by rw [hR]; exact Nat.le_of_ble_eq_true rfl⟩) hP hD hS hA [2, 3] [0, 1] rfl rfl (by decide +kernel) (by decide +kernel) (fun r_41 u9 H locs hw_41 hP hD hS => ?_)
    have hw_41 : r_41 = nI (ns F (sgA F n uu)) := hw_41
    have hPD : my_PD (dC, dI) vwCl A [((g 8), Sum.inl (cI, 6000, Sum.inl vIn)), ((g 0), Sum.inl (cI, 8, Sum.inl vMany)), (o, Sum.inr (9, mO g 1 fShift fModels fItems fEnded fLow fRange fCache fPend fGoes fOuts (nI is.length) fReads fBad fIR (nI q) fBAsk (lN CD) (lN L) (lN RR) fX fWrites fThrown)), ((g 3), Sum.inl (cI, 512, Sum.inl vThen))] H := ⟨hP, hD⟩
    have hP := hPD.1
    have hD := hPD.2
    have z9 : r_41 = nI (ns F (sgA F n uu)) := hw_41
    subst z9
    refine lv_aload_n hx hb d_M_getRanged_44 rfl (lv_at hl 3 rfl) ?_
    refine va_get (D := (dC, dI)) (ci := 9) (v := .ref (g 3)) (C := "RangeCodersModel") (T := T_M) (N := 35) hx hb hg in_M hown hK hP 2 rfl rfl 6 (by decide) (hg _ k958) (fun _ h9 => h9) rfl d_M_getRanged_45 ?_
    refine lv_bipush (v := 64) hx hb d_M_getRanged_48 (by decide) ?_
    refine lv_iload_n hx hb d_M_getRanged_50 rfl (lv_at hl 4 rfl) ?_
    refine lv_imul hx hb d_M_getRanged_51 ?_
    refine lv_topi (fun v_2 ev_2 => ?_)
    refine lv_iload hx hb d_M_getRanged_52 (lv_at hl 0 rfl) ?_
    refine lv_iadd hx hb d_M_getRanged_54 ?_
    refine lv_topi (fun v_3 ev_3 => ?_)
    have hix : v_3 = nI (64 * mm + sgA F n uu) := by subst_vars; exact ix64
    refine va_iald hx hb hK hP 3 0 rfl rfl (by rw [hix]; exact vp_in_nI (by omega) (by decide)) d_M_getRanged_55 ?_
    refine lv_topi (fun v_4 ev_4 => ?_)
    have z9 : v_4 = nI (F (sgA F n uu)) := by subst_vars; rw [nI_clamp (by omega)]; exact hf _ hsg.1
    subst z9
    refine lv_iload_n hx hb d_M_getRanged_56 rfl (lv_at hl 2 rfl) ?_
    refine my_cv (wr := [((g 0), Sum.inl (cI, 8, Sum.inl vMany)), ((g 3), Sum.inl (cI, 512, Sum.inl vThen))]) (va_runV (As := [Value.int (nI (ns F (sgA F n uu))), Value.int (nI (F (sgA F n uu))), Value.int (nI (ns F n))]) (rest := []) ⟨hx, hb, hml, hown, hts⟩ (c_M_leave1 l dC dI cI cM cO H.size o g fShift fModels fItems fEnded fLow fRange fCache fPend fGoes fOuts fReads fBad fIR fBAsk fX fWrites fThrown vIn (ns F (sgA F n uu)) (F (sgA F n uu)) (ns F n) RR L CD is q (hIn) (by assumption) (by assumption) (by omega) (hws.1) (by omega) (hm1) (by omega) (hws.2.1) (hp) (by assumption)) (cwV 3 hts (my_gV k1219 k1221 ks50 k12 k1222) rfl rfl rfl cu_M_leave_3 ⟨by rw [hR]; exact Nat.le_of_ble_eq_true rfl, by rw [hR]; exact Nat.le_of_ble_eq_true rfl⟩) (my_preV hK hN (hP.sub [2, 0] rfl) (hD.sub [2, 0] (by decide +kernel) rfl) 0 rfl rfl) rfl rfl hl.1 rfl (lv_room (Nat.le_of_ble_eq_true rfl)) d_M_getRanged_57 ⟨by rw [hR]; exact Nat.le_of_ble_eq_true rfl, by rw [hR]; exact Nat.le_of_ble_eq_true rfl⟩) hP hD hS hA [2, 0] [1, 3] rfl rfl (by decide +kernel) (by decide +kernel) (fun u9 H locs hw_57 hP hD hS => ?_)
    have hw_57 : True := hw_57
    have hPD : my_PD (dC, dI) vwCl A [((g 0), Sum.inl (cI, 8, Sum.inl vMany)), ((g 3), Sum.inl (cI, 512, Sum.inl vThen)), (o, Sum.inr (9, mO g 1 fShift fModels fItems fEnded fLow fRange fCache fPend fGoes fOuts (nI is.length) fReads fBad fIR (nI (prS is (RR / (ns F n) * (F (sgA F n uu)), L + RR / (ns F n) * (ns F (sgA F n uu)), CD, q)).2.2.2) fBAsk (lN (prS is (RR / (ns F n) * (F (sgA F n uu)), L + RR / (ns F n) * (ns F (sgA F n uu)), CD, q)).2.2.1) (lN (prS is (RR / (ns F n) * (F (sgA F n uu)), L + RR / (ns F n) * (ns F (sgA F n uu)), CD, q)).2.1) (lN (prS is (RR / (ns F n) * (F (sgA F n uu)), L + RR / (ns F n) * (ns F (sgA F n uu)), CD, q)).1) fX fWrites fThrown)), ((g 8), Sum.inl (cI, 6000, Sum.inl vIn))] H := ⟨hP, hD⟩
    have hP := hPD.1
    have hD := hPD.2
    refine lv_aload_n hx hb d_M_getRanged_60 rfl (lv_at hl 3 rfl) ?_
    refine lv_aload_n hx hb d_M_getRanged_61 rfl (lv_at hl 3 rfl) ?_
    refine va_get (D := (dC, dI)) (ci := 9) (v := .ref (g 3)) (C := "RangeCodersModel") (T := T_M) (N := 35) hx hb hg in_M hown hK hP 2 rfl rfl 6 (by decide) (hg _ k958) (fun _ h9 => h9) rfl d_M_getRanged_62 ?_
    refine lv_iload_n hx hb d_M_getRanged_65 rfl (lv_at hl 4 rfl) ?_
    refine lv_iload hx hb d_M_getRanged_66 (lv_at hl 0 rfl) ?_
    refine my_cv (wr := [((g 8), Sum.inl (cI, 6000, Sum.inl vIn))]) (va_runV (As := [Value.ref (g 3), Value.int (nI mm), Value.int (nI (sgA F n uu))]) (rest := []) ⟨hx, hb, hml, hown, hts⟩ (c_M_learn l dC dI cI cM cO H.size o g 1 fShift fModels fItems fEnded fLow fRange fCache fPend fGoes fOuts (nI is.length) fReads fBad fIR (nI (prS is (RR / (ns F n) * (F (sgA F n uu)), L + RR / (ns F n) * (ns F (sgA F n uu)), CD, q)).2.2.2) fBAsk (lN (prS is (RR / (ns F n) * (F (sgA F n uu)), L + RR / (ns F n) * (ns F (sgA F n uu)), CD, q)).2.2.1) (lN (prS is (RR / (ns F n) * (F (sgA F n uu)), L + RR / (ns F n) * (ns F (sgA F n uu)), CD, q)).2.1) (lN (prS is (RR / (ns F n) * (F (sgA F n uu)), L + RR / (ns F n) * (ns F (sgA F n uu)), CD, q)).1) fX fWrites fThrown vMany (g 3) vThen mm n (sgA F n uu) F (by assumption) (by assumption) (by assumption) (hsg.1) (hf) (hbd)) (cwV 3 hts (my_gV k1119 k1121 ks34 k12 k1122) rfl rfl rfl cu_M_learn_3 ⟨by rw [hR]; exact Nat.le_of_ble_eq_true rfl, by rw [hR]; exact Nat.le_of_ble_eq_true rfl⟩) (my_preV hK hN (hP.sub [2, 0, 1] rfl) (hD.sub [2, 0, 1] (by decide +kernel) rfl) 0 rfl rfl) rfl rfl hl.1 rfl (lv_room (Nat.le_of_ble_eq_true rfl)) d_M_getRanged_68 ⟨by rw [hR]; exact Nat.le_of_ble_eq_true rfl, by rw [hR]; exact Nat.le_of_ble_eq_true rfl⟩) hP hD hS hA [2, 0, 1] [3] rfl rfl (by decide +kernel) (by decide +kernel) (fun u9 H locs hw_68 hP hD hS => ?_)
    obtain ⟨f2_68, rfl⟩ : ∃ z, z = u9 := ⟨_, rfl⟩
    have hw_68 : sgI f2_68 (64 * mm) n (lrn n (sgA F n uu) F) ∧ sgO f2_68 vThen (64 * mm) n := hw_68
    have hPD : my_PD (dC, dI) vwCl A [((g 8), Sum.inl (cI, 6000, Sum.inl vIn)), (o, Sum.inr (9, mO g 1 fShift fModels fItems fEnded fLow fRange fCache fPend fGoes fOuts (nI is.length) fReads fBad fIR (nI (prS is (RR / (ns F n) * (F (sgA F n uu)), L + RR / (ns F n) * (ns F (sgA F n uu)), CD, q)).2.2.2) fBAsk (lN (prS is (RR / (ns F n) * (F (sgA F n uu)), L + RR / (ns F n) * (ns F (sgA F n uu)), CD, q)).2.2.1) (lN (prS is (RR / (ns F n) * (F (sgA F n uu)), L + RR / (ns F n) * (ns F (sgA F n uu)), CD, q)).2.1) (lN (prS is (RR / (ns F n) * (F (sgA F n uu)), L + RR / (ns F n) * (ns F (sgA F n uu)), CD, q)).1) fX fWrites fThrown)), ((g 0), Sum.inl (cI, 8, Sum.inl vMany)), ((g 3), Sum.inl (cI, 512, Sum.inl f2_68))] H := ⟨hP, hD⟩
    have hP := hPD.1
    have hD := hPD.2
    refine lv_iload hx hb d_M_getRanged_71 (lv_at hl 0 rfl) ?_
    exact my_iret (v := (nI (sgA F n uu))) hx hb hr (rfl) hlocks hQ hK hS (Nat.le_refl _) (Nat.le_refl _) f2_68 (by rw [hxx]; exact ⟨rfl, hw_68.1, hw_68.2⟩) (by rw [hxx]; exact (hP.sub [1, 2, 3, 0] rfl)) (by rw [hxx]; exact (hD.sub [1, 2, 3, 0] (by decide +kernel) rfl)) d_M_getRanged_73
  · rw [lg_cmp_ge] at c_1
    have hno : wnt (ns F n) RR ((CD + 4294967296 - L) % 4294967296) = none := (oL_neg hov).mp (by rw [← hw_12]; exact c_1)
    have hxx : gr1 is n F (RR, L, CD, q) = (none, (RR, L, CD, q), F) := by unfold gr1; simp only [hno]
    refine lv_iconst (v := (-1)) hx hb d_M_getRanged_22 (by decide) ?_
    exact my_iret (v := (-1)) hx hb hr (rfl) hlocks hQ hK hS (Nat.le_refl _) (Nat.le_refl _) vThen (by rw [hxx]; exact ⟨rfl, hf, sgO_rf _ _ _⟩) (by rw [hxx]; exact (hP.sub [3, 1, 2, 0] rfl)) (by rw [hxx]; exact (hD.sub [3, 1, 2, 0] (by decide +kernel) rfl)) d_M_getRanged_23
set_option maxHeartbeats 1000000 in
set_option maxRecDepth 100000 in
/-- getStacked -/
theorem c_M_getStacked (l : Launch) (dC : Nat → ClassId) (dI : Nat → Nat → Nat) (cI cM cO : ClassId) (sz : Nat) (o : Nat) (g : Nat → Nat) (fForm : Int32) (fShift : Int32) (fModels : Int32) (fItems : Int32) (fEnded : Int32) (fLow : Int64) (fRange : Int64) (fCache : Int32) (fPend : Int32) (fGoes : Int32) (fOuts : Int32) (fReads : Int32) (fBad : Int32) (fIR : Int32) (fBAsk : Int32) (fCode : Int64) (fRL : Int64) (fRR : Int64) (fWrites : Int32) (fThrown : Int32) (vMany : Nat → Int32) (vThen : Nat → Int32) (vIn : Nat → Int32) (mm : Nat) (n : Nat) (F : Nat → Nat) (X : Nat) (is : List Nat) (q : Nat) (hmm : mm < 8) (hn : vMany mm = nI n) (hn2 : n ≤ 64) (hIn : gIs vIn is) (hlen : is.length ≤ 6000) (hoct : oct is) (hq : q < 800000) (hf : sgI vThen (64 * mm) n F) (hsum : ns F n = 0 ∨ ns F n = 4096) (hX0 : 8388608 ≤ X) (hX1 : X < 4294967296) : MetI l y_M_getStacked (Cond.code y_M_getStacked prog_14_method_53_code 4 (some .int) :: gw) ({ frames := 2, cells := 0, slots := 0, locals := 41 } : Room) (dC, dI) vwCl (kT cI cM cO) [Value.ref o, Value.int (nI mm)] [(o, Sum.inr (9, mO g fForm fShift fModels fItems fEnded fLow fRange fCache fPend fGoes fOuts (nI is.length) fReads fBad fIR (nI q) fBAsk fCode fRL fRR (lN X) fWrites fThrown)), ((g 0), Sum.inl (cI, 8, Sum.inl vMany)), ((g 3), Sum.inl (cI, 512, Sum.inl vThen)), ((g 8), Sum.inl (cI, 6000, Sum.inl vIn))] sz (fun (r : Int32) (u : Unit) => r = oI (gs3 is n F X q).1) (fun (u : Unit) => [(o, Sum.inr (9, mO g fForm fShift fModels fItems fEnded fLow fRange fCache fPend fGoes fOuts (nI is.length) fReads fBad fIR (nI (gs3 is n F X q).2.2) fBAsk fCode fRL fRR (lN (gs3 is n F X q).2.1) fWrites fThrown)), ((g 0), Sum.inl (cI, 8, Sum.inl vMany)), ((g 3), Sum.inl (cI, 512, Sum.inl vThen)), ((g 8), Sum.inl (cI, 6000, Sum.inl vIn))]) 0 0 := by
  refine my_ofI (cc := prog_14_method_53_code) (n := 4) (ret := (some .int)) (by decide) rfl (Nat.le_of_ble_eq_true rfl) ?_
  intro p e s m args below meth c R Q A ls H locs hx hb hr hts hown hlocks hml hnm hR hQ hA hl hP hK hN hD hS
  have hg : ∀ w ∈ gw, w.before args s = true := fun w h => hts w (List.mem_cons_of_mem _ h)
  have hown : s.vm.findClass "RangeCodersModel" = some m.cls := hown
  have hl : lv_has ls 4 [(0, Value.ref o), (1, Value.int (nI mm))] := hl
  refine lv_aload_n hx hb d_M_getStacked_0 rfl (lv_at hl 0 rfl) ?_
  refine lv_aload_n hx hb d_M_getStacked_1 rfl (lv_at hl 0 rfl) ?_
  refine va_get (D := (dC, dI)) (ci := 9) (v := .ref (g 3)) (C := "RangeCodersModel") (T := T_M) (N := 35) hx hb hg in_M hown hK hP 0 rfl rfl 6 (by decide) (hg _ k958) (fun _ h9 => h9) rfl d_M_getStacked_2 ?_
  refine lv_iload_n hx hb d_M_getStacked_5 rfl (lv_at hl 1 rfl) ?_
  refine my_ci (wr := [((g 8), Sum.inl (cI, 6000, Sum.inl vIn))]) (va_runV (As := [Value.ref (g 3), Value.int (nI mm)]) (rest := []) ⟨hx, hb, hml, hown, hts⟩ (c_M_sum l dC dI cI cM cO H.size o g fForm fShift fModels fItems fEnded fLow fRange fCache fPend fGoes fOuts (nI is.length) fReads fBad fIR (nI q) fBAsk fCode fRL fRR (lN X) fWrites fThrown vMany (g 3) vThen mm n F (by assumption) (by assumption) (by assumption) (hf)) (cwV 2 hts (my_gV k936 k938 ks21 k12 k939) rfl rfl rfl cu_M_sum_2 ⟨by rw [hR]; exact Nat.le_of_ble_eq_true rfl, by rw [hR]; exact Nat.le_of_ble_eq_true rfl⟩) (my_preV hK hN (hP.sub [0, 1, 2] rfl) (hD.sub [0, 1, 2] (by decide +kernel) rfl) 0 rfl rfl) rfl rfl hl.1 rfl (lv_room (Nat.le_of_ble_eq_true rfl)) d_M_getStacked_6 ⟨by rw [hR]; exact Nat.le_of_ble_eq_true rfl, by rw [hR]; exact Nat.le_of_ble_eq_true rfl⟩) hP hD hS hA [0, 1, 2] [3] rfl rfl (by decide +kernel) (by decide +kernel) (fun r_6 u9 H locs hw_6 hP hD hS => ?_)
  have hw_6 : r_6 = nI (ns F n) := hw_6
  have hPD : my_PD (dC, dI) vwCl A [((g 8), Sum.inl (cI, 6000, Sum.inl vIn)), (o, Sum.inr (9, mO g fForm fShift fModels fItems fEnded fLow fRange fCache fPend fGoes fOuts (nI is.length) fReads fBad fIR (nI q) fBAsk fCode fRL fRR (lN X) fWrites fThrown)), ((g 0), Sum.inl (cI, 8, Sum.inl vMany)), ((g 3), Sum.inl (cI, 512, Sum.inl vThen))] H := ⟨hP, hD⟩
  have hP := hPD.1
  have hD := hPD.2
  refine lv_if_ne (tgt := 14) hx hb d_M_getStacked_9 (by decide) (fun c_1 => ?_) (fun c_1 => ?_)
  · have hnz : ¬ ns F n = 0 := fun z => c_1 (by rw [hw_6, z]; rfl)
    have h40 : ns F n = 4096 := by omega
    have hv4 := Nat.mod_lt X (show 0 < 4096 by decide)
    have hsg := sgA_spec (F := F) (n := n) (u := X % 4096) (by omega)
    have hm1 := ns_m1 F hsg.1
    have hF1 : 1 ≤ F (sgA F n (X % 4096)) := by omega
    have hF2 : F (sgA F n (X % 4096)) ≤ 4096 := by omega
    have hp1 : X / 4096 * 1 ≤ X / 4096 * F (sgA F n (X % 4096)) := Nat.mul_le_mul_left _ hF1
    have hp2 : X / 4096 * F (sgA F n (X % 4096)) ≤ X / 4096 * 4096 := Nat.mul_le_mul_left _ hF2
    have hxx : gs3 is n F X q = (some (sgA F n (X % 4096)), rfS is (X / 4096 * F (sgA F n (X % 4096)) + X % 4096 - ns F (sgA F n (X % 4096)), q)) := by unfold gs3; rw [if_neg hnz]
    refine lv_aload_n hx hb d_M_getStacked_14 rfl (lv_at hl 0 rfl) ?_
    refine va_get (D := (dC, dI)) (ci := 9) (v := .long (lN X)) (C := "RangeCodersModel") (T := T_M) (N := 35) hx hb hg in_M hown hK hP 1 rfl rfl 29 (by decide) (hg _ k981) (fun _ h9 => h9) rfl d_M_getStacked_15 ?_
    refine lv_ldc2 (v := 4095) hx hb hown (hg _ k1243) d_M_getStacked_18 ?_
    refine lv_land hx hb d_M_getStacked_21 ?_
    refine lv_topl (fun v_2 ev_2 => ?_)
    refine lv_l2i hx hb d_M_getStacked_22 rfl ?_
    refine lv_topi (fun v_3 ev_3 => ?_)
    have z9 : v_3 = nI (X % 4096) := by subst_vars; rw [L_and12 (by omega)]; exact lN_i _
    subst z9
    refine lv_istore_n (lv' := [(2, Value.int (nI (X % 4096))), (0, Value.ref o), (1, Value.int (nI mm))]) hx hb d_M_getStacked_23 rfl hl (by decide) rfl (fun ls hl => ?_)
    refine lv_aload_n hx hb d_M_getStacked_24 rfl (lv_at hl 1 rfl) ?_
    refine lv_iload_n hx hb d_M_getStacked_25 rfl (lv_at hl 2 rfl) ?_
    refine lv_iload_n hx hb d_M_getStacked_26 rfl (lv_at hl 0 rfl) ?_
    refine lv_i2l hx hb d_M_getStacked_27 rfl ?_
    refine lv_topl (fun v_4 ev_4 => ?_)
    have z9 : v_4 = lN (X % 4096) := by subst_vars; exact nI_l (by omega)
    subst z9
    refine my_ci (wr := [((g 8), Sum.inl (cI, 6000, Sum.inl vIn)), ((g 0), Sum.inl (cI, 8, Sum.inl vMany))]) (va_runV (As := [Value.int (nI mm), Value.long (lN (X % 4096))]) (rest := []) ⟨hx, hb, hml, hown, hts⟩ (c_M_signAt l dC dI cI cM cO H.size o g fForm fShift fModels fItems fEnded fLow fRange fCache fPend fGoes fOuts (nI is.length) fReads fBad fIR (nI q) fBAsk fCode fRL fRR (lN X) fWrites fThrown vThen mm n F (X % 4096) (by assumption) (by assumption) (hf) (by omega) (by omega)) (cwV 2 hts (my_gV k1215 k1217 ks49 k12 k1218) rfl rfl rfl cu_M_signAt_2 ⟨by rw [hR]; exact Nat.le_of_ble_eq_true rfl, by rw [hR]; exact Nat.le_of_ble_eq_true rfl⟩) (my_preV hK hN (hP.sub [1, 3] rfl) (hD.sub [1, 3] (by decide +kernel) rfl) 0 rfl rfl) rfl rfl hl.1 rfl (lv_room (Nat.le_of_ble_eq_true rfl)) d_M_getStacked_28 ⟨by rw [hR]; exact Nat.le_of_ble_eq_true rfl, by rw [hR]; exact Nat.le_of_ble_eq_true rfl⟩) hP hD hS hA [1, 3] [0, 2] rfl rfl (by decide +kernel) (by decide +kernel) (fun r_28 u9 H locs hw_28 hP hD hS => ?_)
    have hw_28 : r_28 = nI (sgA F n (X % 4096)) := hw_28
    have hPD : my_PD (dC, dI) vwCl A [((g 8), Sum.inl (cI, 6000, Sum.inl vIn)), ((g 0), Sum.inl (cI, 8, Sum.inl vMany)), (o, Sum.inr (9, mO g fForm fShift fModels fItems fEnded fLow fRange fCache fPend fGoes fOuts (nI is.length) fReads fBad fIR (nI q) fBAsk fCode fRL fRR (lN X) fWrites fThrown)), ((g 3), Sum.inl (cI, 512, Sum.inl vThen))] H := ⟨hP, hD⟩
    have hP := hPD.1
    have hD := hPD.2
    have z9 : r_28 = nI (sgA F n (X % 4096)) := hw_28
    subst z9
    refine lv_istore_n (lv' := [(3, Value.int (nI (sgA F n (X % 4096)))), (2, Value.int (nI (X % 4096))), (0, Value.ref o), (1, Value.int (nI mm))]) hx hb d_M_getStacked_31 rfl hl (by decide) rfl (fun ls hl => ?_)
    refine lv_aload_n hx hb d_M_getStacked_32 rfl (lv_at hl 2 rfl) ?_
    refine lv_aload_n hx hb d_M_getStacked_33 rfl (lv_at hl 2 rfl) ?_
    refine va_get (D := (dC, dI)) (ci := 9) (v := .long (lN X)) (C := "RangeCodersModel") (T := T_M) (N := 35) hx hb hg in_M hown hK hP 2 rfl rfl 29 (by decide) (hg _ k981) (fun _ h9 => h9) rfl d_M_getStacked_34 ?_
    refine lv_bipush (v := 12) hx hb d_M_getStacked_37 (by decide) ?_
    refine lv_lshr hx hb d_M_getStacked_39 rfl ?_
    refine lv_topl (fun v_5 ev_5 => ?_)
    refine lv_aload_n hx hb d_M_getStacked_40 rfl (lv_at hl 2 rfl) ?_
    refine va_get (D := (dC, dI)) (ci := 9) (v := .ref (g 3)) (C := "RangeCodersModel") (T := T_M) (N := 35) hx hb hg in_M hown hK hP 2 rfl rfl 6 (by decide) (hg _ k958) (fun _ h9 => h9) rfl d_M_getStacked_41 ?_
    refine lv_bipush (v := 64) hx hb d_M_getStacked_44 (by decide) ?_
    refine lv_iload_n hx hb d_M_getStacked_46 rfl (lv_at hl 3 rfl) ?_
    refine lv_imul hx hb d_M_getStacked_47 ?_
    refine lv_topi (fun v_6 ev_6 => ?_)
    refine lv_iload_n hx hb d_M_getStacked_48 rfl (lv_at hl 0 rfl) ?_
    refine lv_iadd hx hb d_M_getStacked_49 ?_
    refine lv_topi (fun v_7 ev_7 => ?_)
    have hix : v_7 = nI (64 * mm + sgA F n (X % 4096)) := by subst_vars; exact ix64
    refine va_iald hx hb hK hP 3 0 rfl rfl (by rw [hix]; exact vp_in_nI (by omega) (by decide)) d_M_getStacked_50 ?_
    refine lv_topi (fun v_8 ev_8 => ?_)
    have z9 : v_8 = nI (F (sgA F n (X % 4096))) := by subst_vars; rw [nI_clamp (by omega)]; exact hf _ hsg.1
    subst z9
    refine lv_i2l hx hb d_M_getStacked_51 rfl ?_
    refine lv_topl (fun v_9 ev_9 => ?_)
    refine lv_lmul hx hb d_M_getStacked_52 ?_
    refine lv_topl (fun v_10 ev_10 => ?_)
    refine lv_iload_n hx hb d_M_getStacked_53 rfl (lv_at hl 1 rfl) ?_
    refine lv_i2l hx hb d_M_getStacked_54 rfl ?_
    refine lv_topl (fun v_11 ev_11 => ?_)
    refine lv_ladd hx hb d_M_getStacked_55 ?_
    refine lv_topl (fun v_12 ev_12 => ?_)
    refine lv_aload_n hx hb d_M_getStacked_56 rfl (lv_at hl 2 rfl) ?_
    refine lv_aload_n hx hb d_M_getStacked_57 rfl (lv_at hl 2 rfl) ?_
    refine va_get (D := (dC, dI)) (ci := 9) (v := .ref (g 3)) (C := "RangeCodersModel") (T := T_M) (N := 35) hx hb hg in_M hown hK hP 2 rfl rfl 6 (by decide) (hg _ k958) (fun _ h9 => h9) rfl d_M_getStacked_58 ?_
    refine lv_iload_n hx hb d_M_getStacked_61 rfl (lv_at hl 3 rfl) ?_
    refine lv_iload_n hx hb d_M_getStacked_62 rfl (lv_at hl 0 rfl) ?_
    refine my_ci (wr := [((g 8), Sum.inl (cI, 6000, Sum.inl vIn)), ((g 0), Sum.inl (cI, 8, Sum.inl vMany))]) (va_runV (As := [Value.ref (g 3), Value.int (nI mm), Value.int (nI (sgA F n (X % 4096)))]) (rest := [Value.long v_12, Value.ref o]) ⟨hx, hb, hml, hown, hts⟩ (c_M_before l dC dI cI cM cO H.size o g fForm fShift fModels fItems fEnded fLow fRange fCache fPend fGoes fOuts (nI is.length) fReads fBad fIR (nI q) fBAsk fCode fRL fRR (lN X) fWrites fThrown (g 3) vThen mm (sgA F n (X % 4096)) F (by assumption) (by omega) (sgI_w hf (by omega))) (cwV 3 hts (my_gV k1089 k1091 ks28 k12 k1092) rfl rfl rfl cu_M_before_3 ⟨by rw [hR]; exact Nat.le_of_ble_eq_true rfl, by rw [hR]; exact Nat.le_of_ble_eq_true rfl⟩) (my_preV hK hN (hP.sub [2, 3] rfl) (hD.sub [2, 3] (by decide +kernel) rfl) 0 rfl rfl) rfl rfl hl.1 rfl (lv_room (Nat.le_of_ble_eq_true rfl)) d_M_getStacked_63 ⟨by rw [hR]; exact Nat.le_of_ble_eq_true rfl, by rw [hR]; exact Nat.le_of_ble_eq_true rfl⟩) hP hD hS hA [2, 3] [0, 1] rfl rfl (by decide +kernel) (by decide +kernel) (fun r_63 u9 H locs hw_63 hP hD hS => ?_)
    have hw_63 : r_63 = nI (ns F (sgA F n (X % 4096))) := hw_63
    have hPD : my_PD (dC, dI) vwCl A [((g 8), Sum.inl (cI, 6000, Sum.inl vIn)), ((g 0), Sum.inl (cI, 8, Sum.inl vMany)), (o, Sum.inr (9, mO g fForm fShift fModels fItems fEnded fLow fRange fCache fPend fGoes fOuts (nI is.length) fReads fBad fIR (nI q) fBAsk fCode fRL fRR (lN X) fWrites fThrown)), ((g 3), Sum.inl (cI, 512, Sum.inl vThen))] H := ⟨hP, hD⟩
    have hP := hPD.1
    have hD := hPD.2
    refine lv_i2l hx hb d_M_getStacked_66 rfl ?_
    refine lv_topl (fun v_13 ev_13 => ?_)
    refine lv_lsub hx hb d_M_getStacked_67 ?_
    refine lv_topl (fun v_14 ev_14 => ?_)
    have z9 : v_14 = lN (X / 4096 * F (sgA F n (X % 4096)) + X % 4096 - ns F (sgA F n (X % 4096))) := by subst_vars; rw [hw_63, L_shr12 (by omega), nI_l (by omega), nI_l (by omega), nI_l (by omega), lN_mul, lN_add]; exact lN_sub (by omega)
    subst z9
    refine va_put (D := (dC, dI)) (ci := 9) (v := .long (lN (X / 4096 * F (sgA F n (X % 4096)) + X % 4096 - ns F (sgA F n (X % 4096))))) (ty := .long) (C := "RangeCodersModel") (T := T_M) (N := 35) hx hb hg in_M t_M o_M n_M hown hK hP hD hS 2 rfl rfl 29 (by decide) (hg _ k981) (fun _ h9 => h9) rfl (o_M 29 (by decide)) rfl rfl (Nat.le_of_ble_eq_true rfl) d_M_getStacked_68 (fun H locs hP hD hS => ?_)
    have hPD : my_PD (dC, dI) vwCl A [((g 8), Sum.inl (cI, 6000, Sum.inl vIn)), ((g 0), Sum.inl (cI, 8, Sum.inl vMany)), (o, Sum.inr (9, mO g fForm fShift fModels fItems fEnded fLow fRange fCache fPend fGoes fOuts (nI is.length) fReads fBad fIR (nI q) fBAsk fCode fRL fRR (lN (X / 4096 * F (sgA F n (X % 4096)) + X % 4096 - ns F (sgA F n (X % 4096)))) fWrites fThrown)), ((g 3), Sum.inl (cI, 512, Sum.inl vThen))] H := ⟨hP, hD⟩
    have hP := hPD.1
    have hD := hPD.2
    refine lv_aload_n hx hb d_M_getStacked_71 rfl (lv_at hl 2 rfl) ?_
    refine my_cv (wr := [((g 0), Sum.inl (cI, 8, Sum.inl vMany)), ((g 3), Sum.inl (cI, 512, Sum.inl vThen))]) (va_runV (As := []) (rest := []) ⟨hx, hb, hml, hown, hts⟩ (c_M_refill l dC dI cI cM cO H.size o g fForm fShift fModels fItems fEnded fLow fRange fCache fPend fGoes fOuts fReads fBad fIR fBAsk fCode fRL fRR fWrites fThrown vIn (X / 4096 * F (sgA F n (X % 4096)) + X % 4096 - ns F (sgA F n (X % 4096))) is q (hIn) (by assumption) (by assumption) (by omega) (by omega) (by omega)) (cwV 0 hts (my_gV k1244 k1246 ks56 k12 k1247) rfl rfl rfl cu_M_refill_0 ⟨by rw [hR]; exact Nat.le_of_ble_eq_true rfl, by rw [hR]; exact Nat.le_of_ble_eq_true rfl⟩) (my_preV hK hN (hP.sub [2, 0] rfl) (hD.sub [2, 0] (by decide +kernel) rfl) 0 rfl rfl) rfl rfl hl.1 rfl (lv_room (Nat.le_of_ble_eq_true rfl)) d_M_getStacked_72 ⟨by rw [hR]; exact Nat.le_of_ble_eq_true rfl, by rw [hR]; exact Nat.le_of_ble_eq_true rfl⟩) hP hD hS hA [2, 0] [1, 3] rfl rfl (by decide +kernel) (by decide +kernel) (fun u9 H locs hw_72 hP hD hS => ?_)
    have hw_72 : True := hw_72
    have hPD : my_PD (dC, dI) vwCl A [((g 0), Sum.inl (cI, 8, Sum.inl vMany)), ((g 3), Sum.inl (cI, 512, Sum.inl vThen)), (o, Sum.inr (9, mO g fForm fShift fModels fItems fEnded fLow fRange fCache fPend fGoes fOuts (nI is.length) fReads fBad fIR (nI (rfS is ((X / 4096 * F (sgA F n (X % 4096)) + X % 4096 - ns F (sgA F n (X % 4096))), q)).2) fBAsk fCode fRL fRR (lN (rfS is ((X / 4096 * F (sgA F n (X % 4096)) + X % 4096 - ns F (sgA F n (X % 4096))), q)).1) fWrites fThrown)), ((g 8), Sum.inl (cI, 6000, Sum.inl vIn))] H := ⟨hP, hD⟩
    have hP := hPD.1
    have hD := hPD.2
    refine lv_iload_n hx hb d_M_getStacked_75 rfl (lv_at hl 0 rfl) ?_
    exact my_iret (v := (nI (sgA F n (X % 4096)))) hx hb hr (rfl) hlocks hQ hK hS (Nat.le_refl _) (Nat.le_refl _) () (by rw [hxx]; rfl) (by rw [hxx]; exact (hP.sub [2, 0, 1, 3] rfl)) (by rw [hxx]; exact (hD.sub [2, 0, 1, 3] (by decide +kernel) rfl)) d_M_getStacked_76
  · have hz : ns F n = 0 := (nI_eq (b := 0) (by omega) (by decide)).mp (by rw [← hw_6]; exact c_1)
    have hxx : gs3 is n F X q = (none, (X, q)) := by unfold gs3; rw [if_pos hz]
    refine lv_iconst (v := (-1)) hx hb d_M_getStacked_12 (by decide) ?_
    exact my_iret (v := (-1)) hx hb hr (rfl) hlocks hQ hK hS (Nat.le_refl _) (Nat.le_refl _) () (by rw [hxx]; rfl) (by rw [hxx]; exact (hP.sub [1, 2, 3, 0] rfl)) (by rw [hxx]; exact (hD.sub [1, 2, 3, 0] (by decide +kernel) rfl)) d_M_getStacked_13
end
section
set_option maxHeartbeats 1000000 in
set_option maxRecDepth 100000 in
/-- valueOf, form 0 -/
theorem c_M_valueOf0 (l : Launch) (dC : Nat → ClassId) (dI : Nat → Nat → Nat) (cI cM cO : ClassId) (sz : Nat) (o : Nat) (g : Nat → Nat) (fShift : Int32) (fModels : Int32) (fItems : Int32) (fEnded : Int32) (fLow : Int64) (fRange : Int64) (fCache : Int32) (fPend : Int32) (fGoes : Int32) (fOuts : Int32) (fReads : Int32) (fBad : Int32) (fIR : Int32) (fBAsk : Int32) (fRL : Int64) (fX : Int64) (fWrites : Int32) (fThrown : Int32) (vIn : Nat → Int32) (b : Nat) (RR : Nat) (CD : Nat) (is : List Nat) (q : Nat) (hb1 : 1 ≤ b) (hb2 : b ≤ 12) (hIn : gIs vIn is) (hlen : is.length ≤ 6000) (hoct : oct is) (hq : q < 800000) (hR1 : RR < 4294967296) (hC : CD < 4294967296) : MetI l y_M_valueOf (Cond.code y_M_valueOf prog_14_method_58_code 5 (some .int) :: gw) ({ frames := 3, cells := 0, slots := 0, locals := 66 } : Room) (dC, dI) vwCl (kT cI cM cO) [Value.ref o, Value.int (nI b)] [(o, Sum.inr (9, mO g 0 fShift fModels fItems fEnded fLow fRange fCache fPend fGoes fOuts (nI is.length) fReads fBad fIR (nI q) fBAsk (lN CD) fRL (lN RR) fX fWrites fThrown)), ((g 8), Sum.inl (cI, 6000, Sum.inl vIn))] sz (fun (r : Int32) (u : Unit) => r = oI (gv0 is b (RR, CD, q)).1) (fun (u : Unit) => [(o, Sum.inr (9, mO g 0 fShift fModels fItems fEnded fLow fRange fCache fPend fGoes fOuts (nI is.length) fReads fBad fIR (nI (gv0 is b (RR, CD, q)).2.2.2) fBAsk (lN (gv0 is b (RR, CD, q)).2.2.1) fRL (lN (gv0 is b (RR, CD, q)).2.1) fX fWrites fThrown)), ((g 8), Sum.inl (cI, 6000, Sum.inl vIn))]) 0 0 := by
  refine my_ofI (cc := prog_14_method_58_code) (n := 5) (ret := (some .int)) (by decide) rfl (Nat.le_of_ble_eq_true rfl) ?_
  intro p e s m args below meth c R Q A ls H locs hx hb hr hts hown hlocks hml hnm hR hQ hA hl hP hK hN hD hS
  have hg : ∀ w ∈ gw, w.before args s = true := fun w h => hts w (List.mem_cons_of_mem _ h)
  have hown : s.vm.findClass "RangeCodersModel" = some m.cls := hown
  have hl : lv_has ls 5 [(0, Value.ref o), (1, Value.int (nI b))] := hl
  have hpw : 2 ^ b ≤ 2 ^ 12 := Nat.pow_le_pow_right (by decide) hb2
  have hov : ∀ w, wnt (2 ^ b) RR CD = some w → w < 2 ^ 63 := fun w hw => by have := (wnt_some hw).2.2.1; omega
  refine lv_aload_n hx hb d_M_valueOf_0 rfl (lv_at hl 0 rfl) ?_
  refine va_get (D := (dC, dI)) (ci := 9) (v := .int 0) (C := "RangeCodersModel") (T := T_M) (N := 35) hx hb hg in_M hown hK hP 0 rfl rfl 0 (by decide) (hg _ k952) (fun _ h9 => h9) rfl d_M_valueOf_1 ?_
  refine lv_iconst (v := 2) hx hb d_M_valueOf_4 (by decide) ?_
  refine lv_icmp_ge (tgt := 35) hx hb d_M_valueOf_5 (by decide) (fun c_1 => ?_) (fun c_1 => ?_)
  · exact absurd c_1 (by decide)
  · refine lv_aload_n hx hb d_M_valueOf_8 rfl (lv_at hl 0 rfl) ?_
    refine lv_iconst (v := 1) hx hb d_M_valueOf_9 (by decide) ?_
    refine lv_iload_n hx hb d_M_valueOf_10 rfl (lv_at hl 1 rfl) ?_
    refine lv_ishl hx hb d_M_valueOf_11 ?_
    refine lv_topi (fun v_2 ev_2 => ?_)
    have z9 : v_2 = nI (2 ^ b) := by subst_vars; exact shl1 b (by omega)
    subst z9
    refine my_cl (wr := [((g 8), Sum.inl (cI, 6000, Sum.inl vIn))]) (va_runV (As := [Value.int (nI (2 ^ b))]) (rest := []) ⟨hx, hb, hml, hown, hts⟩ (c_M_wanted0 l dC dI cI cM cO H.size o g fShift fModels fItems fEnded fLow fRange fCache fPend fGoes fOuts (nI is.length) fReads fBad fIR (nI q) fBAsk fRL fX fWrites fThrown (2 ^ b) RR CD (by omega) (hR1) (by assumption)) (cwV 1 hts (my_gV k1210 k1212 ks48 k12 k1213) rfl rfl rfl cu_M_wanted_1 ⟨by rw [hR]; exact Nat.le_of_ble_eq_true rfl, by rw [hR]; exact Nat.le_of_ble_eq_true rfl⟩) (my_preV hK hN (hP.sub [0] rfl) (hD.sub [0] (by decide +kernel) rfl) 0 rfl rfl) rfl rfl hl.1 rfl (lv_room (Nat.le_of_ble_eq_true rfl)) d_M_valueOf_12 ⟨by rw [hR]; exact Nat.le_of_ble_eq_true rfl, by rw [hR]; exact Nat.le_of_ble_eq_true rfl⟩) hP hD hS hA [0] [1] rfl rfl (by decide +kernel) (by decide +kernel) (fun r_12 u9 H locs hw_12 hP hD hS => ?_)
    have hw_12 : r_12 = oL (wnt (2 ^ b) RR CD) := hw_12
    have hPD : my_PD (dC, dI) vwCl A [((g 8), Sum.inl (cI, 6000, Sum.inl vIn)), (o, Sum.inr (9, mO g 0 fShift fModels fItems fEnded fLow fRange fCache fPend fGoes fOuts (nI is.length) fReads fBad fIR (nI q) fBAsk (lN CD) fRL (lN RR) fX fWrites fThrown))] H := ⟨hP, hD⟩
    have hP := hPD.1
    have hD := hPD.2
    refine lv_lstore_n (lv' := [(2, Value.long r_12), (0, Value.ref o), (1, Value.int (nI b))]) hx hb d_M_valueOf_15 rfl hl (by decide) rfl (fun ls hl => ?_)
    refine lv_lload_n hx hb d_M_valueOf_16 rfl (lv_at hl 0 rfl) ?_
    refine lv_lconst (v := 0) hx hb d_M_valueOf_17 (by decide) ?_
    refine W.lcmp hx hb d_M_valueOf_18 ?_
    refine lv_if_lt (tgt := 32) hx hb d_M_valueOf_19 (by decide) (fun c_3 => ?_) (fun c_3 => ?_)
    · rw [lg_cmp_lt] at c_3
      have hno : wnt (2 ^ b) RR CD = none := by
        cases hh : wnt (2 ^ b) RR CD with
        | none => rfl
        | some w => exact absurd c_3 (by rw [hw_12, hh]; exact fun z => absurd ((L_lt (b := 0) (by have := hov w hh; omega) (by decide)).mp z) (Nat.not_lt_zero _))
      have hxx : gv0 is b (RR, CD, q) = (none, (RR, CD, q)) := by unfold gv0; simp only [hno]
      refine lv_lload_n hx hb d_M_valueOf_32 rfl (lv_at hl 0 rfl) ?_
      refine lv_l2i hx hb d_M_valueOf_33 rfl ?_
      refine lv_topi (fun v_4 ev_4 => ?_)
      have hrr : v_4 = oI (gv0 is b (RR, CD, q)).1 := by rw [hxx]; subst_vars; rw [hno]; exact (by decide : (oL none).toInt32 = oI none)
      exact my_iret (v := v_4) hx hb hr (rfl) hlocks hQ hK hS (Nat.le_refl _) (Nat.le_refl _) () (hrr) (by rw [hxx]; exact (hP.sub [1, 0] rfl)) (by rw [hxx]; exact (hD.sub [1, 0] (by decide +kernel) rfl)) d_M_valueOf_34
    · rw [lg_cmp_lt] at c_3
      obtain ⟨uu, huu⟩ : ∃ w, wnt (2 ^ b) RR CD = some w := by
        cases hh : wnt (2 ^ b) RR CD with
        | none => exact absurd (show r_12 < 0 by rw [hw_12, hh]; decide) c_3
        | some w => exact ⟨w, rfl⟩
      have hws := wnt_some huu
      have hxx : gv0 is b (RR, CD, q) = (some uu, wrS is (RR / 2 ^ b * 1, CD - RR / 2 ^ b * uu, q)) := by unfold gv0; simp only [huu]
      have z9 : r_12 = lN uu := by rw [hw_12, huu]; rfl
      subst z9
      refine lv_aload_n hx hb d_M_valueOf_22 rfl (lv_at hl 1 rfl) ?_
      refine lv_lload_n hx hb d_M_valueOf_23 rfl (lv_at hl 0 rfl) ?_
      refine lv_l2i hx hb d_M_valueOf_24 rfl ?_
      refine lv_topi (fun v_5 ev_5 => ?_)
      have z9 : v_5 = nI uu := by subst_vars; exact lN_i _
      subst z9
      refine lv_iconst (v := 1) hx hb d_M_valueOf_25 (by decide) ?_
      refine lv_iconst (v := 1) hx hb d_M_valueOf_26 (by decide) ?_
      refine lv_iload_n hx hb d_M_valueOf_27 rfl (lv_at hl 2 rfl) ?_
      refine lv_ishl hx hb d_M_valueOf_28 ?_
      refine lv_topi (fun v_6 ev_6 => ?_)
      have z9 : v_6 = nI (2 ^ b) := by subst_vars; exact shl1 b (by omega)
      subst z9
      refine W.eq (g2 := F0 m 29 ls [Value.int (nI (2 ^ b)), Value.int (nI 1), Value.int (nI uu), Value.ref o]) rfl ?_
      refine my_cv (wr := []) (va_runV (As := [Value.int (nI uu), Value.int (nI 1), Value.int (nI (2 ^ b))]) (rest := []) ⟨hx, hb, hml, hown, hts⟩ (c_M_leave0 l dC dI cI cM cO H.size o g fShift fModels fItems fEnded fLow fRange fCache fPend fGoes fOuts fReads fBad fIR fBAsk fRL fX fWrites fThrown vIn uu 1 (2 ^ b) RR CD is q (hIn) (by assumption) (by assumption) (by omega) (hws.1) (by omega) (hws.2.2.1) (by decide) (hws.2.1) (hR1) (by assumption) (hws.2.2.2.1)) (cwV 3 hts (my_gV k1219 k1221 ks50 k12 k1222) rfl rfl rfl cu_M_leave_3 ⟨by rw [hR]; exact Nat.le_of_ble_eq_true rfl, by rw [hR]; exact Nat.le_of_ble_eq_true rfl⟩) (my_preV hK hN (hP.sub [1, 0] rfl) (hD.sub [1, 0] (by decide +kernel) rfl) 0 rfl rfl) rfl rfl hl.1 rfl (lv_room (Nat.le_of_ble_eq_true rfl)) d_M_valueOf_29 ⟨by rw [hR]; exact Nat.le_of_ble_eq_true rfl, by rw [hR]; exact Nat.le_of_ble_eq_true rfl⟩) hP hD hS hA [1, 0] [] rfl rfl (by decide +kernel) (by decide +kernel) (fun u9 H locs hw_29 hP hD hS => ?_)
      have hw_29 : True := hw_29
      have hPD : my_PD (dC, dI) vwCl A [(o, Sum.inr (9, mO g 0 fShift fModels fItems fEnded fLow fRange fCache fPend fGoes fOuts (nI is.length) fReads fBad fIR (nI (wrS is (RR / (2 ^ b) * 1, CD - RR / (2 ^ b) * uu, q)).2.2) fBAsk (lN (wrS is (RR / (2 ^ b) * 1, CD - RR / (2 ^ b) * uu, q)).2.1) fRL (lN (wrS is (RR / (2 ^ b) * 1, CD - RR / (2 ^ b) * uu, q)).1) fX fWrites fThrown)), ((g 8), Sum.inl (cI, 6000, Sum.inl vIn))] H := ⟨hP, hD⟩
      have hP := hPD.1
      have hD := hPD.2
      refine lv_lload_n hx hb d_M_valueOf_32 rfl (lv_at hl 0 rfl) ?_
      refine lv_l2i hx hb d_M_valueOf_33 rfl ?_
      refine lv_topi (fun v_7 ev_7 => ?_)
      have hrr : v_7 = oI (gv0 is b (RR, CD, q)).1 := by rw [hxx]; subst_vars; exact lN_i _
      exact my_iret (v := v_7) hx hb hr (rfl) hlocks hQ hK hS (Nat.le_refl _) (Nat.le_refl _) () (hrr) (by rw [hxx]; exact (hP.sub [0, 1] rfl)) (by rw [hxx]; exact (hD.sub [0, 1] (by decide +kernel) rfl)) d_M_valueOf_34
set_option maxHeartbeats 1000000 in
set_option maxRecDepth 100000 in
/-- valueOf, form 1 -/
theorem c_M_valueOf1 (l : Launch) (dC : Nat → ClassId) (dI : Nat → Nat → Nat) (cI cM cO : ClassId) (sz : Nat) (o : Nat) (g : Nat → Nat) (fShift : Int32) (fModels : Int32) (fItems : Int32) (fEnded : Int32) (fLow : Int64) (fRange : Int64) (fCache : Int32) (fPend : Int32) (fGoes : Int32) (fOuts : Int32) (fReads : Int32) (fBad : Int32) (fIR : Int32) (fBAsk : Int32) (fX : Int64) (fWrites : Int32) (fThrown : Int32) (vIn : Nat → Int32) (b : Nat) (RR : Nat) (L : Nat) (CD : Nat) (is : List Nat) (q : Nat) (hb1 : 1 ≤ b) (hb2 : b ≤ 12) (hIn : gIs vIn is) (hlen : is.length ≤ 6000) (hoct : oct is) (hq : q < 800000) (hp : pOk RR L) (hC : CD < 4294967296) : MetI l y_M_valueOf (Cond.code y_M_valueOf prog_14_method_58_code 5 (some .int) :: gw) ({ frames := 3, cells := 0, slots := 0, locals := 68 } : Room) (dC, dI) vwCl (kT cI cM cO) [Value.ref o, Value.int (nI b)] [(o, Sum.inr (9, mO g 1 fShift fModels fItems fEnded fLow fRange fCache fPend fGoes fOuts (nI is.length) fReads fBad fIR (nI q) fBAsk (lN CD) (lN L) (lN RR) fX fWrites fThrown)), ((g 8), Sum.inl (cI, 6000, Sum.inl vIn))] sz (fun (r : Int32) (u : Unit) => r = oI (gv1 is b (RR, L, CD, q)).1) (fun (u : Unit) => [(o, Sum.inr (9, mO g 1 fShift fModels fItems fEnded fLow fRange fCache fPend fGoes fOuts (nI is.length) fReads fBad fIR (nI (gv1 is b (RR, L, CD, q)).2.2.2.2) fBAsk (lN (gv1 is b (RR, L, CD, q)).2.2.2.1) (lN (gv1 is b (RR, L, CD, q)).2.2.1) (lN (gv1 is b (RR, L, CD, q)).2.1) fX fWrites fThrown)), ((g 8), Sum.inl (cI, 6000, Sum.inl vIn))]) 0 0 := by
  refine my_ofI (cc := prog_14_method_58_code) (n := 5) (ret := (some .int)) (by decide) rfl (Nat.le_of_ble_eq_true rfl) ?_
  intro p e s m args below meth c R Q A ls H locs hx hb hr hts hown hlocks hml hnm hR hQ hA hl hP hK hN hD hS
  have hg : ∀ w ∈ gw, w.before args s = true := fun w h => hts w (List.mem_cons_of_mem _ h)
  have hown : s.vm.findClass "RangeCodersModel" = some m.cls := hown
  have hl : lv_has ls 5 [(0, Value.ref o), (1, Value.int (nI b))] := hl
  have hpw : 2 ^ b ≤ 2 ^ 12 := Nat.pow_le_pow_right (by decide) hb2
  have hov : ∀ w, wnt (2 ^ b) RR ((CD + 4294967296 - L) % 4294967296) = some w → w < 2 ^ 63 := fun w hw => by have := (wnt_some hw).2.2.1; omega
  refine lv_aload_n hx hb d_M_valueOf_0 rfl (lv_at hl 0 rfl) ?_
  refine va_get (D := (dC, dI)) (ci := 9) (v := .int 1) (C := "RangeCodersModel") (T := T_M) (N := 35) hx hb hg in_M hown hK hP 0 rfl rfl 0 (by decide) (hg _ k952) (fun _ h9 => h9) rfl d_M_valueOf_1 ?_
  refine lv_iconst (v := 2) hx hb d_M_valueOf_4 (by decide) ?_
  refine lv_icmp_ge (tgt := 35) hx hb d_M_valueOf_5 (by decide) (fun c_1 => ?_) (fun c_1 => ?_)
  · exact absurd c_1 (by decide)
  · refine lv_aload_n hx hb d_M_valueOf_8 rfl (lv_at hl 0 rfl) ?_
    refine lv_iconst (v := 1) hx hb d_M_valueOf_9 (by decide) ?_
    refine lv_iload_n hx hb d_M_valueOf_10 rfl (lv_at hl 1 rfl) ?_
    refine lv_ishl hx hb d_M_valueOf_11 ?_
    refine lv_topi (fun v_2 ev_2 => ?_)
    have z9 : v_2 = nI (2 ^ b) := by subst_vars; exact shl1 b (by omega)
    subst z9
    refine my_cl (wr := [((g 8), Sum.inl (cI, 6000, Sum.inl vIn))]) (va_runV (As := [Value.int (nI (2 ^ b))]) (rest := []) ⟨hx, hb, hml, hown, hts⟩ (c_M_wanted1 l dC dI cI cM cO H.size o g fShift fModels fItems fEnded fLow fRange fCache fPend fGoes fOuts (nI is.length) fReads fBad fIR (nI q) fBAsk fX fWrites fThrown (2 ^ b) RR CD L (by omega) (pOk_lt hp) (by assumption) (hp.1)) (cwV 1 hts (my_gV k1210 k1212 ks48 k12 k1213) rfl rfl rfl cu_M_wanted_1 ⟨by rw [hR]; exact Nat.le_of_ble_eq_true rfl, by rw [hR]; exact Nat.le_of_ble_eq_true rfl⟩) (my_preV hK hN (hP.sub [0] rfl) (hD.sub [0] (by decide +kernel) rfl) 0 rfl rfl) rfl rfl hl.1 rfl (lv_room (Nat.le_of_ble_eq_true rfl)) d_M_valueOf_12 ⟨by rw [hR]; exact Nat.le_of_ble_eq_true rfl, by rw [hR]; exact Nat.le_of_ble_eq_true rfl⟩) hP hD hS hA [0] [1] rfl rfl (by decide +kernel) (by decide +kernel) (fun r_12 u9 H locs hw_12 hP hD hS => ?_)
    have hw_12 : r_12 = oL (wnt (2 ^ b) RR ((CD + 4294967296 - L) % 4294967296)) := hw_12
    have hPD : my_PD (dC, dI) vwCl A [((g 8), Sum.inl (cI, 6000, Sum.inl vIn)), (o, Sum.inr (9, mO g 1 fShift fModels fItems fEnded fLow fRange fCache fPend fGoes fOuts (nI is.length) fReads fBad fIR (nI q) fBAsk (lN CD) (lN L) (lN RR) fX fWrites fThrown))] H := ⟨hP, hD⟩
    have hP := hPD.1
    have hD := hPD.2
    refine lv_lstore_n (lv' := [(2, Value.long r_12), (0, Value.ref o), (1, Value.int (nI b))]) hx hb d_M_valueOf_15 rfl hl (by decide) rfl (fun ls hl => ?_)
    refine lv_lload_n hx hb d_M_valueOf_16 rfl (lv_at hl 0 rfl) ?_
    refine lv_lconst (v := 0) hx hb d_M_valueOf_17 (by decide) ?_
    refine W.lcmp hx hb d_M_valueOf_18 ?_
    refine lv_if_lt (tgt := 32) hx hb d_M_valueOf_19 (by decide) (fun c_3 => ?_) (fun c_3 => ?_)
    · rw [lg_cmp_lt] at c_3
      have hno : wnt (2 ^ b) RR ((CD + 4294967296 - L) % 4294967296) = none := by
        cases hh : wnt (2 ^ b) RR ((CD + 4294967296 - L) % 4294967296) with
        | none => rfl
        | some w => exact absurd c_3 (by rw [hw_12, hh]; exact fun z => absurd ((L_lt (b := 0) (by have := hov w hh; omega) (by decide)).mp z) (Nat.not_lt_zero _))
      have hxx : gv1 is b (RR, L, CD, q) = (none, (RR, L, CD, q)) := by unfold gv1; simp only [hno]
      refine lv_lload_n hx hb d_M_valueOf_32 rfl (lv_at hl 0 rfl) ?_
      refine lv_l2i hx hb d_M_valueOf_33 rfl ?_
      refine lv_topi (fun v_4 ev_4 => ?_)
      have hrr : v_4 = oI (gv1 is b (RR, L, CD, q)).1 := by rw [hxx]; subst_vars; rw [hno]; exact (by decide : (oL none).toInt32 = oI none)
      exact my_iret (v := v_4) hx hb hr (rfl) hlocks hQ hK hS (Nat.le_refl _) (Nat.le_refl _) () (hrr) (by rw [hxx]; exact (hP.sub [1, 0] rfl)) (by rw [hxx]; exact (hD.sub [1, 0] (by decide +kernel) rfl)) d_M_valueOf_34
    · rw [lg_cmp_lt] at c_3
      obtain ⟨uu, huu⟩ : ∃ w, wnt (2 ^ b) RR ((CD + 4294967296 - L) % 4294967296) = some w := by
        cases hh : wnt (2 ^ b) RR ((CD + 4294967296 - L) % 4294967296) with
        | none => exact absurd (show r_12 < 0 by rw [hw_12, hh]; decide) c_3
        | some w => exact ⟨w, rfl⟩
      have hws := wnt_some huu
      have hxx : gv1 is b (RR, L, CD, q) = (some uu, prS is (RR / 2 ^ b * 1, L + RR / 2 ^ b * uu, CD, q)) := by unfold gv1; simp only [huu]
      have z9 : r_12 = lN uu := by rw [hw_12, huu]; rfl
      subst z9
      refine lv_aload_n hx hb d_M_valueOf_22 rfl (lv_at hl 1 rfl) ?_
      refine lv_lload_n hx hb d_M_valueOf_23 rfl (lv_at hl 0 rfl) ?_
      refine lv_l2i hx hb d_M_valueOf_24 rfl ?_
      refine lv_topi (fun v_5 ev_5 => ?_)
      have z9 : v_5 = nI uu := by subst_vars; exact lN_i _
      subst z9
      refine lv_iconst (v := 1) hx hb d_M_valueOf_25 (by decide) ?_
      refine lv_iconst (v := 1) hx hb d_M_valueOf_26 (by decide) ?_
      refine lv_iload_n hx hb d_M_valueOf_27 rfl (lv_at hl 2 rfl) ?_
      refine lv_ishl hx hb d_M_valueOf_28 ?_
      refine lv_topi (fun v_6 ev_6 => ?_)
      have z9 : v_6 = nI (2 ^ b) := by subst_vars; exact shl1 b (by omega)
      subst z9
      refine W.eq (g2 := F0 m 29 ls [Value.int (nI (2 ^ b)), Value.int (nI 1), Value.int (nI uu), Value.ref o]) rfl ?_
      refine my_cv (wr := []) (va_runV (As := [Value.int (nI uu), Value.int (nI 1), Value.int (nI (2 ^ b))]) (rest := []) ⟨hx, hb, hml, hown, hts⟩ (c_M_leave1 l dC dI cI cM cO H.size o g fShift fModels fItems fEnded fLow fRange fCache fPend fGoes fOuts fReads fBad fIR fBAsk fX fWrites fThrown vIn uu 1 (2 ^ b) RR L CD is q (hIn) (by assumption) (by assumption) (by omega) (hws.1) (by omega) (hws.2.2.1) (by decide) (hws.2.1) (hp) (by assumption)) (cwV 3 hts (my_gV k1219 k1221 ks50 k12 k1222) rfl rfl rfl cu_M_leave_3 ⟨by rw [hR]; exact Nat.le_of_ble_eq_true rfl, by rw [hR]; exact Nat.le_of_ble_eq_true rfl⟩) (my_preV hK hN (hP.sub [1, 0] rfl) (hD.sub [1, 0] (by decide +kernel) rfl) 0 rfl rfl) rfl rfl hl.1 rfl (lv_room (Nat.le_of_ble_eq_true rfl)) d_M_valueOf_29 ⟨by rw [hR]; exact Nat.le_of_ble_eq_true rfl, by rw [hR]; exact Nat.le_of_ble_eq_true rfl⟩) hP hD hS hA [1, 0] [] rfl rfl (by decide +kernel) (by decide +kernel) (fun u9 H locs hw_29 hP hD hS => ?_)
      have hw_29 : True := hw_29
      have hPD : my_PD (dC, dI) vwCl A [(o, Sum.inr (9, mO g 1 fShift fModels fItems fEnded fLow fRange fCache fPend fGoes fOuts (nI is.length) fReads fBad fIR (nI (prS is (RR / (2 ^ b) * 1, L + RR / (2 ^ b) * uu, CD, q)).2.2.2) fBAsk (lN (prS is (RR / (2 ^ b) * 1, L + RR / (2 ^ b) * uu, CD, q)).2.2.1) (lN (prS is (RR / (2 ^ b) * 1, L + RR / (2 ^ b) * uu, CD, q)).2.1) (lN (prS is (RR / (2 ^ b) * 1, L + RR / (2 ^ b) * uu, CD, q)).1) fX fWrites fThrown)), ((g 8), Sum.inl (cI, 6000, Sum.inl vIn))] H := ⟨hP, hD⟩
      have hP := hPD.1
      have hD := hPD.2
      refine lv_lload_n hx hb d_M_valueOf_32 rfl (lv_at hl 0 rfl) ?_
      refine lv_l2i hx hb d_M_valueOf_33 rfl ?_
      refine lv_topi (fun v_7 ev_7 => ?_)
      have hrr : v_7 = oI (gv1 is b (RR, L, CD, q)).1 := by rw [hxx]; subst_vars; exact lN_i _
      exact my_iret (v := v_7) hx hb hr (rfl) hlocks hQ hK hS (Nat.le_refl _) (Nat.le_refl _) () (hrr) (by rw [hxx]; exact (hP.sub [0, 1] rfl)) (by rw [hxx]; exact (hD.sub [0, 1] (by decide +kernel) rfl)) d_M_valueOf_34
set_option maxHeartbeats 1000000 in
set_option maxRecDepth 100000 in
/-- valueOf, form 2 -/
theorem c_M_valueOf2 (l : Launch) (dC : Nat → ClassId) (dI : Nat → Nat → Nat) (cI cM cO : ClassId) (sz : Nat) (o : Nat) (g : Nat → Nat) (fShift : Int32) (fModels : Int32) (fItems : Int32) (fEnded : Int32) (fLow : Int64) (fRange : Int64) (fCache : Int32) (fPend : Int32) (fGoes : Int32) (fOuts : Int32) (fReads : Int32) (fBad : Int32) (fIR : Int32) (fBAsk : Int32) (fRL : Int64) (fX : Int64) (fWrites : Int32) (fThrown : Int32) (vIn : Nat → Int32) (b : Nat) (RR : Nat) (CD : Nat) (is : List Nat) (q : Nat) (hIn : gIs vIn is) (hlen : is.length ≤ 6000) (hoct : oct is) (hq : q < 800000) (hb2 : b ≤ 12) (hI : rInv (RR, CD, q)) : MetI l y_M_valueOf (Cond.code y_M_valueOf prog_14_method_58_code 5 (some .int) :: gw) ({ frames := 3, cells := 0, slots := 0, locals := 65 } : Room) (dC, dI) vwCl (kT cI cM cO) [Value.ref o, Value.int (nI b)] [(o, Sum.inr (9, mO g 2 fShift fModels fItems fEnded fLow fRange fCache fPend fGoes fOuts (nI is.length) fReads fBad fIR (nI q) fBAsk (lN CD) fRL (lN RR) fX fWrites fThrown)), ((g 8), Sum.inl (cI, 6000, Sum.inl vIn))] sz (fun (r : Int32) (u : Unit) => r = oI (pbS is b (RR, CD, q)).1) (fun (u : Unit) => [(o, Sum.inr (9, mO g 2 fShift fModels fItems fEnded fLow fRange fCache fPend fGoes fOuts (nI is.length) fReads fBad fIR (nI (pbS is b (RR, CD, q)).2.2.2) fBAsk (lN (pbS is b (RR, CD, q)).2.2.1) fRL (lN (pbS is b (RR, CD, q)).2.1) fX fWrites fThrown)), ((g 8), Sum.inl (cI, 6000, Sum.inl vIn))]) 0 0 := by
  refine my_ofI (cc := prog_14_method_58_code) (n := 5) (ret := (some .int)) (by decide) rfl (Nat.le_of_ble_eq_true rfl) ?_
  intro p e s m args below meth c R Q A ls H locs hx hb hr hts hown hlocks hml hnm hR hQ hA hl hP hK hN hD hS
  have hg : ∀ w ∈ gw, w.before args s = true := fun w h => hts w (List.mem_cons_of_mem _ h)
  have hown : s.vm.findClass "RangeCodersModel" = some m.cls := hown
  have hl : lv_has ls 5 [(0, Value.ref o), (1, Value.int (nI b))] := hl
  refine lv_aload_n hx hb d_M_valueOf_0 rfl (lv_at hl 0 rfl) ?_
  refine va_get (D := (dC, dI)) (ci := 9) (v := .int 2) (C := "RangeCodersModel") (T := T_M) (N := 35) hx hb hg in_M hown hK hP 0 rfl rfl 0 (by decide) (hg _ k952) (fun _ h9 => h9) rfl d_M_valueOf_1 ?_
  refine lv_iconst (v := 2) hx hb d_M_valueOf_4 (by decide) ?_
  refine lv_icmp_ge (tgt := 35) hx hb d_M_valueOf_5 (by decide) (fun c_1 => ?_) (fun c_1 => ?_)
  · refine lv_aload_n hx hb d_M_valueOf_35 rfl (lv_at hl 0 rfl) ?_
    refine va_get (D := (dC, dI)) (ci := 9) (v := .int 2) (C := "RangeCodersModel") (T := T_M) (N := 35) hx hb hg in_M hown hK hP 0 rfl rfl 0 (by decide) (hg _ k952) (fun _ h9 => h9) rfl d_M_valueOf_36 ?_
    refine lv_iconst (v := 2) hx hb d_M_valueOf_39 (by decide) ?_
    refine lv_icmp_ne (tgt := 49) hx hb d_M_valueOf_40 (by decide) (fun c_2 => ?_) (fun c_2 => ?_)
    · exact absurd rfl c_2
    · refine lv_aload_n hx hb d_M_valueOf_43 rfl (lv_at hl 0 rfl) ?_
      refine lv_iload_n hx hb d_M_valueOf_44 rfl (lv_at hl 1 rfl) ?_
      refine my_ci (wr := []) (va_runV (As := [Value.int (nI b)]) (rest := []) ⟨hx, hb, hml, hown, hts⟩ (c_M_plainBits l dC dI cI cM cO H.size o g 2 fShift fModels fItems fEnded fLow fRange fCache fPend fGoes fOuts fReads fBad fIR fBAsk fRL fX fWrites fThrown vIn b RR CD is q (by assumption) (by assumption) (by assumption) (by assumption) (by assumption) (by assumption)) (cwV 1 hts (my_gV k1264 k1266 ks60 k12 k1267) rfl rfl rfl cu_M_plainBits_1 ⟨by rw [hR]; exact Nat.le_of_ble_eq_true rfl, by rw [hR]; exact Nat.le_of_ble_eq_true rfl⟩) (my_preV hK hN (hP.sub [0, 1] rfl) (hD.sub [0, 1] (by decide +kernel) rfl) 0 rfl rfl) rfl rfl hl.1 rfl (lv_room (Nat.le_of_ble_eq_true rfl)) d_M_valueOf_45 ⟨by rw [hR]; exact Nat.le_of_ble_eq_true rfl, by rw [hR]; exact Nat.le_of_ble_eq_true rfl⟩) hP hD hS hA [0, 1] [] rfl rfl (by decide +kernel) (by decide +kernel) (fun r_45 u9 H locs hw_45 hP hD hS => ?_)
      have hw_45 : r_45 = oI (pbS is b (RR, CD, q)).1 := hw_45
      have hPD : my_PD (dC, dI) vwCl A [(o, Sum.inr (9, mO g 2 fShift fModels fItems fEnded fLow fRange fCache fPend fGoes fOuts (nI is.length) fReads fBad fIR (nI (pbS is b (RR, CD, q)).2.2.2) fBAsk (lN (pbS is b (RR, CD, q)).2.2.1) fRL (lN (pbS is b (RR, CD, q)).2.1) fX fWrites fThrown)), ((g 8), Sum.inl (cI, 6000, Sum.inl vIn))] H := ⟨hP, hD⟩
      have hP := hPD.1
      have hD := hPD.2
      exact my_iret (v := r_45) hx hb hr (rfl) hlocks hQ hK hS (Nat.le_refl _) (Nat.le_refl _) () (hw_45) (hP.sub [0, 1] rfl) (hD.sub [0, 1] (by decide +kernel) rfl) d_M_valueOf_48
  · exact absurd (by decide) c_1
end
section
/-! VALUES of forms 3, 4 are read -/
def gv3 (is : List Nat) (b X q : Nat) : Nat × Nat := rfS is (X / 4096 * (4096 / 2 ^ b) + X % 4096 - 4096 / 2 ^ b * (X % 4096 / (4096 / 2 ^ b)), q)
def bbN (is : List Nat) (t : Nat) : Nat → Nat
  | 0 => 0
  | k + 1 => 2 * bbN is t k + biA is (t + k)
theorem biA_lt (is : List Nat) (t : Nat) : biA is t < 2 := Nat.mod_lt _ (by decide)
set_option maxHeartbeats 1000000 in
set_option maxRecDepth 100000 in
/-- valueOf, form 3 -/
theorem c_M_valueOf3 (l : Launch) (dC : Nat → ClassId) (dI : Nat → Nat → Nat) (cI cM cO : ClassId) (sz : Nat) (o : Nat) (g : Nat → Nat) (fShift : Int32) (fModels : Int32) (fItems : Int32) (fEnded : Int32) (fLow : Int64) (fRange : Int64) (fCache : Int32) (fPend : Int32) (fGoes : Int32) (fOuts : Int32) (fReads : Int32) (fBad : Int32) (fIR : Int32) (fBAsk : Int32) (fCode : Int64) (fRL : Int64) (fRR : Int64) (fWrites : Int32) (fThrown : Int32) (vIn : Nat → Int32) (b : Nat) (X : Nat) (is : List Nat) (q : Nat) (hb1 : 1 ≤ b) (hb2 : b ≤ 12) (hIn : gIs vIn is) (hlen : is.length ≤ 6000) (hoct : oct is) (hq : q < 800000) (hX0 : 8388608 ≤ X) (hX1 : X < 4294967296) : MetI l y_M_valueOf (Cond.code y_M_valueOf prog_14_method_58_code 5 (some .int) :: gw) ({ frames := 2, cells := 0, slots := 0, locals := 41 } : Room) (dC, dI) vwCl (kT cI cM cO) [Value.ref o, Value.int (nI b)] [(o, Sum.inr (9, mO g 3 fShift fModels fItems fEnded fLow fRange fCache fPend fGoes fOuts (nI is.length) fReads fBad fIR (nI q) fBAsk fCode fRL fRR (lN X) fWrites fThrown)), ((g 8), Sum.inl (cI, 6000, Sum.inl vIn))] sz (fun (r : Int32) (u : Unit) => r = nI (X % 4096 / (4096 / 2 ^ b))) (fun (u : Unit) => [(o, Sum.inr (9, mO g 3 fShift fModels fItems fEnded fLow fRange fCache fPend fGoes fOuts (nI is.length) fReads fBad fIR (nI (gv3 is b X q).2) fBAsk fCode fRL fRR (lN (gv3 is b X q).1) fWrites fThrown)), ((g 8), Sum.inl (cI, 6000, Sum.inl vIn))]) 0 0 := by
  refine my_ofI (cc := prog_14_method_58_code) (n := 5) (ret := (some .int)) (by decide) rfl (Nat.le_of_ble_eq_true rfl) ?_
  intro p e s m args below meth c R Q A ls H locs hx hb hr hts hown hlocks hml hnm hR hQ hA hl hP hK hN hD hS
  have hg : ∀ w ∈ gw, w.before args s = true := fun w h => hts w (List.mem_cons_of_mem _ h)
  have hown : s.vm.findClass "RangeCodersModel" = some m.cls := hown
  have hl : lv_has ls 5 [(0, Value.ref o), (1, Value.int (nI b))] := hl
  have hf1 : 0 < 4096 / 2 ^ b := Nat.div_pos (Nat.le_trans (Nat.pow_le_pow_right (n := 2) (by decide) hb2) (by decide)) (Nat.pow_pos (by decide))
  have hf2 : 4096 / 2 ^ b ≤ 4096 := Nat.div_le_self _ _
  have hv4 := Nat.mod_lt X (show 0 < 4096 by decide)
  have hm0 : 4096 / 2 ^ b * (X % 4096 / (4096 / 2 ^ b)) ≤ X % 4096 := Nat.mul_div_le _ _
  have hp1 : X / 4096 * 1 ≤ X / 4096 * (4096 / 2 ^ b) := Nat.mul_le_mul_left _ hf1
  have hp2 : X / 4096 * (4096 / 2 ^ b) ≤ X / 4096 * 4096 := Nat.mul_le_mul_left _ hf2
  have hdl : X % 4096 / (4096 / 2 ^ b) ≤ X % 4096 := Nat.div_le_self _ _
  refine lv_aload_n hx hb d_M_valueOf_0 rfl (lv_at hl 0 rfl) ?_
  refine va_get (D := (dC, dI)) (ci := 9) (v := .int 3) (C := "RangeCodersModel") (T := T_M) (N := 35) hx hb hg in_M hown hK hP 0 rfl rfl 0 (by decide) (hg _ k952) (fun _ h9 => h9) rfl d_M_valueOf_1 ?_
  refine lv_iconst (v := 2) hx hb d_M_valueOf_4 (by decide) ?_
  refine lv_icmp_ge (tgt := 35) hx hb d_M_valueOf_5 (by decide) (fun c_1 => ?_) (fun c_1 => ?_)
  · refine lv_aload_n hx hb d_M_valueOf_35 rfl (lv_at hl 0 rfl) ?_
    refine va_get (D := (dC, dI)) (ci := 9) (v := .int 3) (C := "RangeCodersModel") (T := T_M) (N := 35) hx hb hg in_M hown hK hP 0 rfl rfl 0 (by decide) (hg _ k952) (fun _ h9 => h9) rfl d_M_valueOf_36 ?_
    refine lv_iconst (v := 2) hx hb d_M_valueOf_39 (by decide) ?_
    refine lv_icmp_ne (tgt := 49) hx hb d_M_valueOf_40 (by decide) (fun c_2 => ?_) (fun c_2 => ?_)
    · refine lv_aload_n hx hb d_M_valueOf_49 rfl (lv_at hl 0 rfl) ?_
      refine va_get (D := (dC, dI)) (ci := 9) (v := .int 3) (C := "RangeCodersModel") (T := T_M) (N := 35) hx hb hg in_M hown hK hP 0 rfl rfl 0 (by decide) (hg _ k952) (fun _ h9 => h9) rfl d_M_valueOf_50 ?_
      refine lv_iconst (v := 3) hx hb d_M_valueOf_53 (by decide) ?_
      refine lv_icmp_ne (tgt := 108) hx hb d_M_valueOf_54 (by decide) (fun c_3 => ?_) (fun c_3 => ?_)
      · exact absurd rfl c_3
      · refine lv_sipush (v := 4096) hx hb d_M_valueOf_57 (by decide) ?_
        refine lv_iload_n hx hb d_M_valueOf_60 rfl (lv_at hl 1 rfl) ?_
        refine lv_ishr hx hb d_M_valueOf_61 ?_
        refine lv_topi (fun v_4 ev_4 => ?_)
        have z9 : v_4 = nI (4096 / 2 ^ b) := by subst_vars; exact I_shr (n := 4096) (by decide) (by omega)
        subst z9
        refine lv_istore_n (lv' := [(2, Value.int (nI (4096 / 2 ^ b))), (0, Value.ref o), (1, Value.int (nI b))]) hx hb d_M_valueOf_62 rfl hl (by decide) rfl (fun ls hl => ?_)
        refine lv_aload_n hx hb d_M_valueOf_63 rfl (lv_at hl 1 rfl) ?_
        refine va_get (D := (dC, dI)) (ci := 9) (v := .long (lN X)) (C := "RangeCodersModel") (T := T_M) (N := 35) hx hb hg in_M hown hK hP 0 rfl rfl 29 (by decide) (hg _ k981) (fun _ h9 => h9) rfl d_M_valueOf_64 ?_
        refine lv_ldc2 (v := 4095) hx hb hown (hg _ k1243) d_M_valueOf_67 ?_
        refine lv_land hx hb d_M_valueOf_70 ?_
        refine lv_topl (fun v_5 ev_5 => ?_)
        refine lv_l2i hx hb d_M_valueOf_71 rfl ?_
        refine lv_topi (fun v_6 ev_6 => ?_)
        have z9 : v_6 = nI (X % 4096) := by subst_vars; rw [L_and12 (by omega)]; exact lN_i _
        subst z9
        refine lv_istore_n (lv' := [(3, Value.int (nI (X % 4096))), (2, Value.int (nI (4096 / 2 ^ b))), (0, Value.ref o), (1, Value.int (nI b))]) hx hb d_M_valueOf_72 rfl hl (by decide) rfl (fun ls hl => ?_)
        refine lv_iload_n hx hb d_M_valueOf_73 rfl (lv_at hl 0 rfl) ?_
        refine lv_iload_n hx hb d_M_valueOf_74 rfl (lv_at hl 1 rfl) ?_
        refine lv_idiv hx hb d_M_valueOf_75 (nI_ne0 hf1 (by omega)) ?_
        refine lv_topi (fun v_7 ev_7 => ?_)
        have z9 : v_7 = nI (X % 4096 / (4096 / 2 ^ b)) := by subst_vars; exact pk_div (by omega) hf1 (by omega)
        subst z9
        refine lv_istore (lv' := [(4, Value.int (nI (X % 4096 / (4096 / 2 ^ b)))), (3, Value.int (nI (X % 4096))), (2, Value.int (nI (4096 / 2 ^ b))), (0, Value.ref o), (1, Value.int (nI b))]) hx hb d_M_valueOf_76 hl (by decide) rfl (fun ls hl => ?_)
        refine lv_aload_n hx hb d_M_valueOf_78 rfl (lv_at hl 3 rfl) ?_
        refine lv_aload_n hx hb d_M_valueOf_79 rfl (lv_at hl 3 rfl) ?_
        refine va_get (D := (dC, dI)) (ci := 9) (v := .long (lN X)) (C := "RangeCodersModel") (T := T_M) (N := 35) hx hb hg in_M hown hK hP 0 rfl rfl 29 (by decide) (hg _ k981) (fun _ h9 => h9) rfl d_M_valueOf_80 ?_
        refine lv_bipush (v := 12) hx hb d_M_valueOf_83 (by decide) ?_
        refine lv_lshr hx hb d_M_valueOf_85 rfl ?_
        refine lv_topl (fun v_8 ev_8 => ?_)
        refine lv_iload_n hx hb d_M_valueOf_86 rfl (lv_at hl 2 rfl) ?_
        refine lv_i2l hx hb d_M_valueOf_87 rfl ?_
        refine lv_topl (fun v_9 ev_9 => ?_)
        refine lv_lmul hx hb d_M_valueOf_88 ?_
        refine lv_topl (fun v_10 ev_10 => ?_)
        refine lv_iload_n hx hb d_M_valueOf_89 rfl (lv_at hl 1 rfl) ?_
        refine lv_i2l hx hb d_M_valueOf_90 rfl ?_
        refine lv_topl (fun v_11 ev_11 => ?_)
        refine lv_ladd hx hb d_M_valueOf_91 ?_
        refine lv_topl (fun v_12 ev_12 => ?_)
        refine lv_iload_n hx hb d_M_valueOf_92 rfl (lv_at hl 2 rfl) ?_
        refine lv_iload hx hb d_M_valueOf_93 (lv_at hl 0 rfl) ?_
        refine lv_imul hx hb d_M_valueOf_95 ?_
        refine lv_topi (fun v_13 ev_13 => ?_)
        refine lv_i2l hx hb d_M_valueOf_96 rfl ?_
        refine lv_topl (fun v_14 ev_14 => ?_)
        refine lv_lsub hx hb d_M_valueOf_97 ?_
        refine lv_topl (fun v_15 ev_15 => ?_)
        have z9 : v_15 = lN (X / 4096 * (4096 / 2 ^ b) + X % 4096 - 4096 / 2 ^ b * (X % 4096 / (4096 / 2 ^ b))) := by subst_vars; rw [pk_mul, L_shr12 (by omega), nI_l (by omega), nI_l (by omega), nI_l (by omega), lN_mul, lN_add]; exact lN_sub (by omega)
        subst z9
        refine va_put (D := (dC, dI)) (ci := 9) (v := .long (lN (X / 4096 * (4096 / 2 ^ b) + X % 4096 - 4096 / 2 ^ b * (X % 4096 / (4096 / 2 ^ b))))) (ty := .long) (C := "RangeCodersModel") (T := T_M) (N := 35) hx hb hg in_M t_M o_M n_M hown hK hP hD hS 0 rfl rfl 29 (by decide) (hg _ k981) (fun _ h9 => h9) rfl (o_M 29 (by decide)) rfl rfl (Nat.le_of_ble_eq_true rfl) d_M_valueOf_98 (fun H locs hP hD hS => ?_)
        have hPD : my_PD (dC, dI) vwCl A [(o, Sum.inr (9, mO g 3 fShift fModels fItems fEnded fLow fRange fCache fPend fGoes fOuts (nI is.length) fReads fBad fIR (nI q) fBAsk fCode fRL fRR (lN (X / 4096 * (4096 / 2 ^ b) + X % 4096 - 4096 / 2 ^ b * (X % 4096 / (4096 / 2 ^ b)))) fWrites fThrown)), ((g 8), Sum.inl (cI, 6000, Sum.inl vIn))] H := ⟨hP, hD⟩
        have hP := hPD.1
        have hD := hPD.2
        refine lv_aload_n hx hb d_M_valueOf_101 rfl (lv_at hl 3 rfl) ?_
        refine my_cv (wr := []) (va_runV (As := []) (rest := []) ⟨hx, hb, hml, hown, hts⟩ (c_M_refill l dC dI cI cM cO H.size o g 3 fShift fModels fItems fEnded fLow fRange fCache fPend fGoes fOuts fReads fBad fIR fBAsk fCode fRL fRR fWrites fThrown vIn (X / 4096 * (4096 / 2 ^ b) + X % 4096 - 4096 / 2 ^ b * (X % 4096 / (4096 / 2 ^ b))) is q (hIn) (by assumption) (by assumption) (by omega) (by omega) (by omega)) (cwV 0 hts (my_gV k1244 k1246 ks56 k12 k1247) rfl rfl rfl cu_M_refill_0 ⟨by rw [hR]; exact Nat.le_of_ble_eq_true rfl, by rw [hR]; exact Nat.le_of_ble_eq_true rfl⟩) (my_preV hK hN (hP.sub [0, 1] rfl) (hD.sub [0, 1] (by decide +kernel) rfl) 0 rfl rfl) rfl rfl hl.1 rfl (lv_room (Nat.le_of_ble_eq_true rfl)) d_M_valueOf_102 ⟨by rw [hR]; exact Nat.le_of_ble_eq_true rfl, by rw [hR]; exact Nat.le_of_ble_eq_true rfl⟩) hP hD hS hA [0, 1] [] rfl rfl (by decide +kernel) (by decide +kernel) (fun u9 H locs hw_102 hP hD hS => ?_)
        have hw_102 : True := hw_102
        have hPD : my_PD (dC, dI) vwCl A [(o, Sum.inr (9, mO g 3 fShift fModels fItems fEnded fLow fRange fCache fPend fGoes fOuts (nI is.length) fReads fBad fIR (nI (rfS is ((X / 4096 * (4096 / 2 ^ b) + X % 4096 - 4096 / 2 ^ b * (X % 4096 / (4096 / 2 ^ b))), q)).2) fBAsk fCode fRL fRR (lN (rfS is ((X / 4096 * (4096 / 2 ^ b) + X % 4096 - 4096 / 2 ^ b * (X % 4096 / (4096 / 2 ^ b))), q)).1) fWrites fThrown)), ((g 8), Sum.inl (cI, 6000, Sum.inl vIn))] H := ⟨hP, hD⟩
        have hP := hPD.1
        have hD := hPD.2
        refine lv_iload hx hb d_M_valueOf_105 (lv_at hl 0 rfl) ?_
        exact my_iret (v := (nI (X % 4096 / (4096 / 2 ^ b)))) hx hb hr (rfl) hlocks hQ hK hS (Nat.le_refl _) (Nat.le_refl _) () (rfl) (hP.sub [0, 1] rfl) (hD.sub [0, 1] (by decide +kernel) rfl) d_M_valueOf_107
    · exact absurd c_2 (by decide)
  · exact absurd (by decide) c_1
set_option maxHeartbeats 1000000 in
set_option maxRecDepth 100000 in
/-- valueOf, form 4 -/
theorem c_M_valueOf4 (l : Launch) (dC : Nat → ClassId) (dI : Nat → Nat → Nat) (cI cM cO : ClassId) (sz : Nat) (o : Nat) (g : Nat → Nat) (fShift : Int32) (fModels : Int32) (fItems : Int32) (fEnded : Int32) (fLow : Int64) (fRange : Int64) (fCache : Int32) (fPend : Int32) (fGoes : Int32) (fOuts : Int32) (fReads : Int32) (fBad : Int32) (fIR : Int32) (fCode : Int64) (fRL : Int64) (fRR : Int64) (fX : Int64) (fWrites : Int32) (fThrown : Int32) (vIn : Nat → Int32) (b : Nat) (t : Nat) (is : List Nat) (hb1 : 1 ≤ b) (hb2 : b ≤ 9) (hIn : gIs vIn is) (hlen : is.length ≤ 6000) (hoct : oct is) (ht : t < 800000) : MetI l y_M_valueOf (Cond.code y_M_valueOf prog_14_method_58_code 5 (some .int) :: gw) ({ frames := 1, cells := 0, slots := 0, locals := 22 } : Room) (dC, dI) vwCl (kT cI cM cO) [Value.ref o, Value.int (nI b)] [(o, Sum.inr (9, mO g 4 fShift fModels fItems fEnded fLow fRange fCache fPend fGoes fOuts (nI is.length) fReads fBad fIR (nI ((t + 7) / 8)) (nI t) fCode fRL fRR fX fWrites fThrown)), ((g 8), Sum.inl (cI, 6000, Sum.inl vIn))] sz (fun (r : Int32) (u : Unit) => r = nI (bbN is t b)) (fun (u : Unit) => [(o, Sum.inr (9, mO g 4 fShift fModels fItems fEnded fLow fRange fCache fPend fGoes fOuts (nI is.length) fReads fBad fIR (nI ((t + b + 7) / 8)) (nI (t + b)) fCode fRL fRR fX fWrites fThrown)), ((g 8), Sum.inl (cI, 6000, Sum.inl vIn))]) 0 0 := by
  refine my_ofI (cc := prog_14_method_58_code) (n := 5) (ret := (some .int)) (by decide) rfl (Nat.le_of_ble_eq_true rfl) ?_
  intro p e s m args below meth c R Q A ls H locs hx hb hr hts hown hlocks hml hnm hR hQ hA hl hP hK hN hD hS
  have hg : ∀ w ∈ gw, w.before args s = true := fun w h => hts w (List.mem_cons_of_mem _ h)
  have hown : s.vm.findClass "RangeCodersModel" = some m.cls := hown
  have hl : lv_has ls 5 [(0, Value.ref o), (1, Value.int (nI b))] := hl
  refine lv_aload_n hx hb d_M_valueOf_0 rfl (lv_at hl 0 rfl) ?_
  refine va_get (D := (dC, dI)) (ci := 9) (v := .int 4) (C := "RangeCodersModel") (T := T_M) (N := 35) hx hb hg in_M hown hK hP 0 rfl rfl 0 (by decide) (hg _ k952) (fun _ h9 => h9) rfl d_M_valueOf_1 ?_
  refine lv_iconst (v := 2) hx hb d_M_valueOf_4 (by decide) ?_
  refine lv_icmp_ge (tgt := 35) hx hb d_M_valueOf_5 (by decide) (fun c_1 => ?_) (fun c_1 => ?_)
  · refine lv_aload_n hx hb d_M_valueOf_35 rfl (lv_at hl 0 rfl) ?_
    refine va_get (D := (dC, dI)) (ci := 9) (v := .int 4) (C := "RangeCodersModel") (T := T_M) (N := 35) hx hb hg in_M hown hK hP 0 rfl rfl 0 (by decide) (hg _ k952) (fun _ h9 => h9) rfl d_M_valueOf_36 ?_
    refine lv_iconst (v := 2) hx hb d_M_valueOf_39 (by decide) ?_
    refine lv_icmp_ne (tgt := 49) hx hb d_M_valueOf_40 (by decide) (fun c_2 => ?_) (fun c_2 => ?_)
    · refine lv_aload_n hx hb d_M_valueOf_49 rfl (lv_at hl 0 rfl) ?_
      refine va_get (D := (dC, dI)) (ci := 9) (v := .int 4) (C := "RangeCodersModel") (T := T_M) (N := 35) hx hb hg in_M hown hK hP 0 rfl rfl 0 (by decide) (hg _ k952) (fun _ h9 => h9) rfl d_M_valueOf_50 ?_
      refine lv_iconst (v := 3) hx hb d_M_valueOf_53 (by decide) ?_
      refine lv_icmp_ne (tgt := 108) hx hb d_M_valueOf_54 (by decide) (fun c_3 => ?_) (fun c_3 => ?_)
      · refine lv_iconst (v := 0) hx hb d_M_valueOf_108 (by decide) ?_
        refine lv_istore_n (lv' := [(2, Value.int 0), (0, Value.ref o), (1, Value.int (nI b))]) hx hb d_M_valueOf_109 rfl hl (by decide) rfl (fun ls hl => ?_)
        refine lv_iconst (v := 0) hx hb d_M_valueOf_110 (by decide) ?_
        refine lv_istore_n (lv' := [(3, Value.int 0), (2, Value.int 0), (0, Value.ref o), (1, Value.int (nI b))]) hx hb d_M_valueOf_111 rfl hl (by decide) rfl (fun ls hl => ?_)
        have J_112 : ∀ (n9_112 : Nat) (i9 : Int32) (v9 : Int32) (j : Nat) (hn9_112 : b - j = n9_112) (hi : i9 = nI j) (hv : v9 = nI (bbN is t j)) (hj : j ≤ b) (H : Heap) (locs : List Loc) (ls : Array Slot), va_P (dC, dI) vwCl [(o, Sum.inr (9, mO g 4 fShift fModels fItems fEnded fLow fRange fCache fPend fGoes fOuts (nI is.length) fReads fBad fIR (nI ((t + j + 7) / 8)) (nI (t + j)) fCode fRL fRR fX fWrites fThrown)), ((g 8), Sum.inl (cI, 6000, Sum.inl vIn))] H → va_D A [(o, Sum.inr (9, mO g 4 fShift fModels fItems fEnded fLow fRange fCache fPend fGoes fOuts (nI is.length) fReads fBad fIR (nI ((t + j + 7) / 8)) (nI (t + j)) fCode fRL fRR fX fWrites fThrown)), ((g 8), Sum.inl (cI, 6000, Sum.inl vIn))] → va_S A s.heap H locs → lv_has ls 5 [(3, Value.int i9), (2, Value.int v9), (0, Value.ref o), (1, Value.int (nI b))] → W p l e R s m args below meth c H locs 0 0 Q (F0 m 112 ls []) := by
          intro n9_112
          induction n9_112 using Nat.strongRecOn with
          | ind n9_112 ih9_112 =>
            intro i9 v9 j hn9_112 hi hv hj H locs ls hP hD hS hl
            refine lv_iload_n hx hb d_M_valueOf_112 rfl (lv_at hl 0 rfl) ?_
            refine lv_iload_n hx hb d_M_valueOf_113 rfl (lv_at hl 3 rfl) ?_
            refine lv_icmp_ge (tgt := 132) hx hb d_M_valueOf_114 (by decide) (fun c_4 => ?_) (fun c_4 => ?_)
            · have hj3 : j = b := by rw [hi] at c_4; have := (nI_cmp (by omega) (by omega)).mp c_4; omega
              have z9 : j = b := hj3
              subst z9
              refine lv_iload_n hx hb d_M_valueOf_132 rfl (lv_at hl 1 rfl) ?_
              exact my_iret (v := v9) hx hb hr (rfl) hlocks hQ hK hS (Nat.le_refl _) (Nat.le_refl _) () (hv) (hP.sub [0, 1] rfl) (hD.sub [0, 1] (by decide +kernel) rfl) d_M_valueOf_133
            · have hj2 : j < b := by
                rcases Nat.lt_or_ge j b with z | z
                · exact z
                · exact absurd (by rw [hi]; exact nI_le z (by omega)) c_4
              refine lv_iconst (v := 2) hx hb d_M_valueOf_117 (by decide) ?_
              refine lv_iload_n hx hb d_M_valueOf_118 rfl (lv_at hl 1 rfl) ?_
              refine lv_imul hx hb d_M_valueOf_119 ?_
              refine lv_topi (fun v_5 ev_5 => ?_)
              refine lv_aload_n hx hb d_M_valueOf_120 rfl (lv_at hl 2 rfl) ?_
              refine my_ci (wr := []) (va_runV (As := []) (rest := [Value.int v_5]) ⟨hx, hb, hml, hown, hts⟩ (c_M_nextBit l dC dI cI cM cO H.size o g 4 fShift fModels fItems fEnded fLow fRange fCache fPend fGoes fOuts fReads fBad fIR fCode fRL fRR fX fWrites fThrown vIn is (t + j) (nI ((t + j + 7) / 8)) (hIn) (by assumption) (by assumption) (by omega)) (cwV 0 hts (my_gV k1198 k1200 ks46 k12 k1201) rfl rfl rfl cu_M_nextBit_0 ⟨by rw [hR]; exact Nat.le_of_ble_eq_true rfl, by rw [hR]; exact Nat.le_of_ble_eq_true rfl⟩) (my_preV hK hN (hP.sub [0, 1] rfl) (hD.sub [0, 1] (by decide +kernel) rfl) 0 rfl rfl) rfl rfl hl.1 rfl (lv_room (Nat.le_of_ble_eq_true rfl)) d_M_valueOf_121 ⟨by rw [hR]; exact Nat.le_of_ble_eq_true rfl, by rw [hR]; exact Nat.le_of_ble_eq_true rfl⟩) hP hD hS hA [0, 1] [] rfl rfl (by decide +kernel) (by decide +kernel) (fun r_121 u9 H locs hw_121 hP hD hS => ?_)
              have hw_121 : r_121 = nI (biA is (t + j)) := hw_121
              have hPD : my_PD (dC, dI) vwCl A [(o, Sum.inr (9, mO g 4 fShift fModels fItems fEnded fLow fRange fCache fPend fGoes fOuts (nI is.length) fReads fBad fIR (nI (((t + j) + 8) / 8)) (nI ((t + j) + 1)) fCode fRL fRR fX fWrites fThrown)), ((g 8), Sum.inl (cI, 6000, Sum.inl vIn))] H := ⟨hP, hD⟩
              have hP := hPD.1
              have hD := hPD.2
              refine lv_iadd hx hb d_M_valueOf_124 ?_
              refine lv_topi (fun v_6 ev_6 => ?_)
              refine lv_istore_n (lv' := [(2, Value.int v_6), (3, Value.int i9), (0, Value.ref o), (1, Value.int (nI b))]) hx hb d_M_valueOf_125 rfl hl (by decide) rfl (fun ls hl => ?_)
              obtain ⟨v_7, ev_7⟩ : ∃ y : Int32, y = i9 + (1) := ⟨_, rfl⟩
              refine lv_iinc (v := v_7) (lv' := [(3, Value.int v_7), (2, Value.int v_6), (0, Value.ref o), (1, Value.int (nI b))]) hx hb d_M_valueOf_126 hl (k := 1) rfl (by rw [ev_7]; rfl) (by decide) rfl (fun ls hl => ?_)
              refine lv_goto (tgt := 112) hx hb d_M_valueOf_129 (by decide) ?_
              exact ih9_112 _ (by first | omega | (omega)) v_7 v_6 (j + 1) rfl (by subst_vars; exact nI_1 j) (by subst_vars; rw [show (2 : Int32) * nI (bbN is t j) = nI (2 * bbN is t j) from pk_mul 2 _]; exact nI_add _ _) (by omega) H locs ls (hP.sub [0, 1] rfl) (hD.sub [0, 1] (by decide +kernel) rfl) hS (lv_sub hl [0, 1, 2, 3] rfl)
        exact J_112 _ 0 0 0 rfl (rfl) (rfl) (Nat.zero_le _) H locs ls (hP.sub [0, 1] rfl) (hD.sub [0, 1] (by decide +kernel) rfl) hS (lv_sub hl [0, 1, 2, 3] rfl)
      · exact absurd c_3 (by decide)
    · exact absurd c_2 (by decide)
  · exact absurd (by decide) c_1
set_option maxHeartbeats 1000000 in
set_option maxRecDepth 100000 in
/-- spoiled -/
theorem c_M_spoiled (l : Launch) (dC : Nat → ClassId) (dI : Nat → Nat → Nat) (cI cM cO : ClassId) (sz : Nat) (o : Nat) (g : Nat → Nat) (fForm : Int32) (fShift : Int32) (fModels : Int32) (fItems : Int32) (fEnded : Int32) (fLow : Int64) (fRange : Int64) (fCache : Int32) (fPend : Int32) (fGoes : Int32) (fOuts : Int32) (fIns : Int32) (fReads : Int32) (fBad : Int32) (fIR : Int32) (fAsk : Int32) (fBAsk : Int32) (fCode : Int64) (fRL : Int64) (fRR : Int64) (fX : Int64) (fWrites : Int32) (fThrown : Int32) : MetI l y_M_spoiled (Cond.code y_M_spoiled prog_14_method_44_code 1 (some .int) :: gw) ({ frames := 0, cells := 0, slots := 0, locals := 0 } : Room) (dC, dI) vwCl (kT cI cM cO) [Value.ref o] [(o, Sum.inr (9, mO g fForm fShift fModels fItems fEnded fLow fRange fCache fPend fGoes fOuts fIns fReads fBad fIR fAsk fBAsk fCode fRL fRR fX fWrites fThrown))] sz (fun (r : Int32) (u : Unit) => r = -5) (fun (u : Unit) => [(o, Sum.inr (9, mO g fForm fShift fModels fItems fEnded fLow fRange fCache fPend fGoes fOuts fIns fReads 1 fIR fAsk fBAsk fCode fRL fRR fX fWrites fThrown))]) 0 0 := by
  refine my_ofI (cc := prog_14_method_44_code) (n := 1) (ret := (some .int)) (by decide) rfl (Nat.le_of_ble_eq_true rfl) ?_
  intro p e s m args below meth c R Q A ls H locs hx hb hr hts hown hlocks hml hnm hR hQ hA hl hP hK hN hD hS
  have hg : ∀ w ∈ gw, w.before args s = true := fun w h => hts w (List.mem_cons_of_mem _ h)
  have hown : s.vm.findClass "RangeCodersModel" = some m.cls := hown
  have hl : lv_has ls 1 [(0, Value.ref o)] := hl
  refine lv_aload_n hx hb d_M_spoiled_0 rfl (lv_at hl 0 rfl) ?_
  refine lv_iconst (v := 1) hx hb d_M_spoiled_1 (by decide) ?_
  refine va_put (D := (dC, dI)) (ci := 9) (v := .int 1) (ty := .boolean) (C := "RangeCodersModel") (T := T_M) (N := 35) hx hb hg in_M t_M o_M n_M hown hK hP hD hS 0 rfl rfl 22 (by decide) (hg _ k974) (fun _ h9 => h9) rfl (o_M 22 (by decide)) rfl rfl (Nat.le_of_ble_eq_true rfl) d_M_spoiled_2 (fun H locs hP hD hS => ?_)
  have hPD : my_PD (dC, dI) vwCl A [(o, Sum.inr (9, mO g fForm fShift fModels fItems fEnded fLow fRange fCache fPend fGoes fOuts fIns fReads 1 fIR fAsk fBAsk fCode fRL fRR fX fWrites fThrown))] H := ⟨hP, hD⟩
  have hP := hPD.1
  have hD := hPD.2
  refine lv_bipush (v := (-5)) hx hb d_M_spoiled_5 (by decide) ?_
  exact my_iret (v := (-5)) hx hb hr (rfl) hlocks hQ hK hS (Nat.le_refl _) (Nat.le_refl _) () (rfl) (hP.sub [0] rfl) (hD.sub [0] (by decide +kernel) rfl) d_M_spoiled_7
end
section
/-! the faces that need no model: bytes of OUT and IN -/
theorem gIs_set {f : Nat → Int32} {bs : List Nat} {i x : Nat} {v : Int32} (h : gIs f bs) (hx : v = nI x) : gIs (upd f i v) (bs.set i x) := by
  intro k hk
  rw [List.length_set] at hk
  by_cases e : k = i
  · subst e; rw [pk_us, hx]; simp [List.getD_eq_getElem?_getD, hk]
  · rw [pk_un e, h k hk]; simp [List.getD_eq_getElem?_getD, List.getElem?_set_ne (Ne.symm e)]
theorem I_xor (a b : Nat) : nI a ^^^ nI b = nI (a ^^^ b) := by
  show Int32.ofNat a ^^^ Int32.ofNat b = Int32.ofNat (a ^^^ b)
  apply Int32.toBitVec_inj.mp
  rw [Int32.toBitVec_xor]
  apply BitVec.eq_of_toNat_eq
  simp only [BitVec.toNat_xor]
  show (BitVec.ofNat 32 a).toNat ^^^ (BitVec.ofNat 32 b).toNat = (BitVec.ofNat 32 (a ^^^ b)).toNat
  simp only [BitVec.toNat_ofNat]
  rw [Nat.xor_mod_two_pow]
set_option maxHeartbeats 1000000 in
set_option maxRecDepth 100000 in
/-- writeBit -/
theorem c_M_writeBit (l : Launch) (dC : Nat → ClassId) (dI : Nat → Nat → Nat) (cI cM cO : ClassId) (sz : Nat) (o : Nat) (g : Nat → Nat) (fForm : Int32) (fShift : Int32) (fModels : Int32) (fItems : Int32) (fEnded : Int32) (fLow : Int64) (fRange : Int64) (fCache : Int32) (fPend : Int32) (fGoes : Int32) (fOuts : Int32) (fIns : Int32) (fReads : Int32) (fBad : Int32) (fIR : Int32) (fAsk : Int32) (fBAsk : Int32) (fCode : Int64) (fRL : Int64) (fRR : Int64) (fX : Int64) (fThrown : Int32) (vWr : Nat → Int32) (wl : List Nat) (v : Nat) (hG : gIs vWr wl) (hl9 : wl.length < 20000) (hv : v < 2 ^ 62) : MetV l y_M_writeBit (Cond.code y_M_writeBit prog_14_method_34_code 3 none :: gw) ({ frames := 0, cells := 0, slots := 0, locals := 0 } : Room) (dC, dI) vwCl (kT cI cM cO) [Value.ref o, Value.long (lN v)] [(o, Sum.inr (9, mO g fForm fShift fModels fItems fEnded fLow fRange fCache fPend fGoes fOuts fIns fReads fBad fIR fAsk fBAsk fCode fRL fRR fX (nI wl.length) fThrown)), ((g 11), Sum.inl (cI, 20000, Sum.inl vWr))] sz (fun (u : (Nat → Int32)) => gIs u (wl ++ [v % 2])) (fun (u : (Nat → Int32)) => [(o, Sum.inr (9, mO g fForm fShift fModels fItems fEnded fLow fRange fCache fPend fGoes fOuts fIns fReads fBad fIR fAsk fBAsk fCode fRL fRR fX (nI (wl ++ [v % 2]).length) fThrown)), ((g 11), Sum.inl (cI, 20000, Sum.inl u))]) 0 0 := by
  refine my_ofV (cc := prog_14_method_34_code) (n := 3) (ret := none) (by decide) rfl (Nat.le_of_ble_eq_true rfl) ?_
  intro p e s m args below meth c R Q A ls H locs hx hb hr hts hown hlocks hml hnm hR hQ hA hl hP hK hN hD hS
  have hg : ∀ w ∈ gw, w.before args s = true := fun w h => hts w (List.mem_cons_of_mem _ h)
  have hown : s.vm.findClass "RangeCodersModel" = some m.cls := hown
  have hl : lv_has ls 3 [(0, Value.ref o), (1, Value.long (lN v))] := hl
  refine lv_aload_n hx hb d_M_writeBit_0 rfl (lv_at hl 0 rfl) ?_
  refine va_get (D := (dC, dI)) (ci := 9) (v := .ref (g 11)) (C := "RangeCodersModel") (T := T_M) (N := 35) hx hb hg in_M hown hK hP 0 rfl rfl 32 (by decide) (hg _ k984) (fun _ h9 => h9) rfl d_M_writeBit_1 ?_
  refine lv_aload_n hx hb d_M_writeBit_4 rfl (lv_at hl 0 rfl) ?_
  refine va_get (D := (dC, dI)) (ci := 9) (v := .int (nI wl.length)) (C := "RangeCodersModel") (T := T_M) (N := 35) hx hb hg in_M hown hK hP 0 rfl rfl 33 (by decide) (hg _ k985) (fun _ h9 => h9) rfl d_M_writeBit_5 ?_
  refine lv_lload_n hx hb d_M_writeBit_8 rfl (lv_at hl 1 rfl) ?_
  refine lv_lconst (v := 1) hx hb d_M_writeBit_9 (by decide) ?_
  refine lv_land hx hb d_M_writeBit_10 ?_
  refine lv_topl (fun v_1 ev_1 => ?_)
  refine lv_l2i hx hb d_M_writeBit_11 rfl ?_
  refine lv_topi (fun v_2 ev_2 => ?_)
  have hval : v_2 = nI (v % 2) := by subst_vars; rw [wb_a1 (by omega)]; exact lN_i _
  refine va_iast hx hb hK hP hD hS 1 0 rfl rfl (vp_in_nI hl9 (by decide)) d_M_writeBit_12 (fun H locs hP hD hS => ?_)
  have hPD : my_PD (dC, dI) vwCl A [(o, Sum.inr (9, mO g fForm fShift fModels fItems fEnded fLow fRange fCache fPend fGoes fOuts fIns fReads fBad fIR fAsk fBAsk fCode fRL fRR fX (nI wl.length) fThrown)), ((g 11), Sum.inl (cI, 20000, Sum.inl (upd vWr (nI wl.length).toNatClampNeg v_2)))] H := ⟨hP, hD⟩
  have hP := hPD.1
  have hD := hPD.2
  refine lv_aload_n hx hb d_M_writeBit_13 rfl (lv_at hl 0 rfl) ?_
  refine lv_dup hx hb d_M_writeBit_14 rfl ?_
  refine va_get (D := (dC, dI)) (ci := 9) (v := .int (nI wl.length)) (C := "RangeCodersModel") (T := T_M) (N := 35) hx hb hg in_M hown hK hP 0 rfl rfl 33 (by decide) (hg _ k985) (fun _ h9 => h9) rfl d_M_writeBit_15 ?_
  refine lv_iconst (v := 1) hx hb d_M_writeBit_18 (by decide) ?_
  refine lv_iadd hx hb d_M_writeBit_19 ?_
  refine lv_topi (fun v_3 ev_3 => ?_)
  have z9 : v_3 = nI (wl ++ [v % 2]).length := by subst_vars; rw [List.length_append]; exact nI_1 _
  subst z9
  refine va_put (D := (dC, dI)) (ci := 9) (v := .int (nI (wl ++ [v % 2]).length)) (ty := .int) (C := "RangeCodersModel") (T := T_M) (N := 35) hx hb hg in_M t_M o_M n_M hown hK hP hD hS 0 rfl rfl 33 (by decide) (hg _ k985) (fun _ h9 => h9) rfl (o_M 33 (by decide)) rfl rfl (Nat.le_of_ble_eq_true rfl) d_M_writeBit_20 (fun H locs hP hD hS => ?_)
  have hPD : my_PD (dC, dI) vwCl A [(o, Sum.inr (9, mO g fForm fShift fModels fItems fEnded fLow fRange fCache fPend fGoes fOuts fIns fReads fBad fIR fAsk fBAsk fCode fRL fRR fX (nI (wl ++ [v % 2]).length) fThrown)), ((g 11), Sum.inl (cI, 20000, Sum.inl (upd vWr (nI wl.length).toNatClampNeg v_2)))] H := ⟨hP, hD⟩
  have hP := hPD.1
  have hD := hPD.2
  exact my_vret hx hb hr hlocks hQ hK hS (Nat.le_refl _) (Nat.le_refl _) (upd vWr (nI wl.length).toNatClampNeg v_2) (gIs_up hG (nI_clamp (by omega)) hval) (hP.sub [0, 1] rfl) (hD.sub [0, 1] (by decide +kernel) rfl) d_M_writeBit_23
set_option maxHeartbeats 1000000 in
set_option maxRecDepth 100000 in
/-- out -/
theorem c_M_out (l : Launch) (dC : Nat → ClassId) (dI : Nat → Nat → Nat) (cI cM cO : ClassId) (sz : Nat) (o : Nat) (g : Nat → Nat) (fForm : Int32) (fShift : Int32) (fModels : Int32) (fItems : Int32) (fEnded : Int32) (fLow : Int64) (fRange : Int64) (fCache : Int32) (fPend : Int32) (fGoes : Int32) (fIns : Int32) (fReads : Int32) (fBad : Int32) (fIR : Int32) (fAsk : Int32) (fBAsk : Int32) (fCode : Int64) (fRL : Int64) (fRR : Int64) (fX : Int64) (fWrites : Int32) (fThrown : Int32) (vOut : Nat → Int32) (os : List Nat) (p1 : Int32) (hO : gIs vOut os) (hl9 : os.length ≤ 9000) : MetI l y_M_out (Cond.code y_M_out prog_14_method_36_code 2 (some .int) :: gw) ({ frames := 1, cells := 0, slots := 0, locals := 22 } : Room) (dC, dI) vwCl (kT cI cM cO) [Value.ref o, Value.int p1] [(o, Sum.inr (9, mO g fForm fShift fModels fItems fEnded fLow fRange fCache fPend fGoes (nI os.length) fIns fReads fBad fIR fAsk fBAsk fCode fRL fRR fX fWrites fThrown)), ((g 7), Sum.inl (cI, 9000, Sum.inl vOut))] sz (fun (r : Int32) (u : Unit) => r = if isN os.length p1 then nI (byA os p1.toNatClampNeg) else -1) (fun (u : Unit) => [(o, Sum.inr (9, mO g fForm fShift fModels fItems fEnded fLow fRange fCache fPend fGoes (nI os.length) fIns fReads fBad fIR fAsk fBAsk fCode fRL fRR fX fWrites 0)), ((g 7), Sum.inl (cI, 9000, Sum.inl vOut))]) 0 0 := by
  refine my_ofI (cc := prog_14_method_36_code) (n := 2) (ret := (some .int)) (by decide) rfl (Nat.le_of_ble_eq_true rfl) ?_
  intro p e s m args below meth c R Q A ls H locs hx hb hr hts hown hlocks hml hnm hR hQ hA hl hP hK hN hD hS
  have hg : ∀ w ∈ gw, w.before args s = true := fun w h => hts w (List.mem_cons_of_mem _ h)
  have hown : s.vm.findClass "RangeCodersModel" = some m.cls := hown
  have hl : lv_has ls 2 [(0, Value.ref o), (1, Value.int p1)] := hl
  refine lv_aload_n hx hb d_M_out_0 rfl (lv_at hl 0 rfl) ?_
  refine lv_iconst (v := 0) hx hb d_M_out_1 (by decide) ?_
  refine va_put (D := (dC, dI)) (ci := 9) (v := .int 0) (ty := .int) (C := "RangeCodersModel") (T := T_M) (N := 35) hx hb hg in_M t_M o_M n_M hown hK hP hD hS 0 rfl rfl 34 (by decide) (hg _ k986) (fun _ h9 => h9) rfl (o_M 34 (by decide)) rfl rfl (Nat.le_of_ble_eq_true rfl) d_M_out_2 (fun H locs hP hD hS => ?_)
  have hPD : my_PD (dC, dI) vwCl A [(o, Sum.inr (9, mO g fForm fShift fModels fItems fEnded fLow fRange fCache fPend fGoes (nI os.length) fIns fReads fBad fIR fAsk fBAsk fCode fRL fRR fX fWrites 0)), ((g 7), Sum.inl (cI, 9000, Sum.inl vOut))] H := ⟨hP, hD⟩
  have hP := hPD.1
  have hD := hPD.2
  refine lv_iload_n hx hb d_M_out_5 rfl (lv_at hl 1 rfl) ?_
  refine lv_iconst (v := 0) hx hb d_M_out_6 (by decide) ?_
  refine lv_aload_n hx hb d_M_out_7 rfl (lv_at hl 0 rfl) ?_
  refine va_get (D := (dC, dI)) (ci := 9) (v := .int (nI os.length)) (C := "RangeCodersModel") (T := T_M) (N := 35) hx hb hg in_M hown hK hP 0 rfl rfl 18 (by decide) (hg _ k970) (fun _ h9 => h9) rfl d_M_out_8 ?_
  refine lv_iconst (v := 1) hx hb d_M_out_11 (by decide) ?_
  refine lv_isub hx hb d_M_out_12 ?_
  refine lv_topi (fun v_1 ev_1 => ?_)
  have z9 : v_1 = nI os.length - 1 := by subst_vars; rfl
  subst z9
  refine my_ci (wr := [(o, Sum.inr (9, mO g fForm fShift fModels fItems fEnded fLow fRange fCache fPend fGoes (nI os.length) fIns fReads fBad fIR fAsk fBAsk fCode fRL fRR fX fWrites 0)), ((g 7), Sum.inl (cI, 9000, Sum.inl vOut))]) (va_runS (As := [Value.int p1, Value.int 0, Value.int (nI os.length - 1)]) (rest := []) ⟨hx, hb, hml, hown, hts⟩ (c_M_in l dC dI cI cM cO H.size p1 0 (nI os.length - 1)) (cwS 3 hts (my_gS k1062 k1063 k12 k1064) rfl rfl rfl (by decide +kernel) ⟨by rw [hR]; exact Nat.le_of_ble_eq_true rfl, by rw [hR]; exact Nat.le_of_ble_eq_true rfl⟩) (my_pre hK hN (hP.sub [] rfl) (hD.sub [] (by decide +kernel) rfl)) rfl rfl hl.1 rfl (lv_room (Nat.le_of_ble_eq_true rfl)) d_M_out_13 ⟨by rw [hR]; exact Nat.le_of_ble_eq_true rfl, by rw [hR]; exact Nat.le_of_ble_eq_true rfl⟩) hP hD hS hA [] [0, 1] rfl rfl (by decide +kernel) (by decide +kernel) (fun r_13 u9 H locs hw_13 hP hD hS => ?_)
  have hw_13 : r_13 = if 0 ≤ p1 ∧ p1 ≤ (nI os.length - 1) then 1 else 0 := hw_13
  have hPD : my_PD (dC, dI) vwCl A [(o, Sum.inr (9, mO g fForm fShift fModels fItems fEnded fLow fRange fCache fPend fGoes (nI os.length) fIns fReads fBad fIR fAsk fBAsk fCode fRL fRR fX fWrites 0)), ((g 7), Sum.inl (cI, 9000, Sum.inl vOut))] H := ⟨hP, hD⟩
  have hP := hPD.1
  have hD := hPD.2
  refine lv_if_eq (tgt := 28) hx hb d_M_out_16 (by decide) (fun c_2 => ?_) (fun c_2 => ?_)
  · have hin := one_eq hw_13 c_2
    refine lv_iconst (v := (-1)) hx hb d_M_out_28 (by decide) ?_
    exact my_iret (v := (-1)) hx hb hr (rfl) hlocks hQ hK hS (Nat.le_refl _) (Nat.le_refl _) () (by rw [if_neg hin]) (hP.sub [0, 1] rfl) (hD.sub [0, 1] (by decide +kernel) rfl) d_M_out_29
  · have hin := one_ne hw_13 c_2
    obtain ⟨i9, hi9, ei9⟩ := (isN_iff (by omega)).mp hin
    have hc9 : p1.toNatClampNeg = i9 := by rw [ei9]; exact nI_clamp (by omega)
    refine lv_aload_n hx hb d_M_out_19 rfl (lv_at hl 0 rfl) ?_
    refine va_get (D := (dC, dI)) (ci := 9) (v := .ref (g 7)) (C := "RangeCodersModel") (T := T_M) (N := 35) hx hb hg in_M hown hK hP 0 rfl rfl 17 (by decide) (hg _ k969) (fun _ h9 => h9) rfl d_M_out_20 ?_
    refine lv_iload_n hx hb d_M_out_23 rfl (lv_at hl 1 rfl) ?_
    refine va_iald hx hb hK hP 1 0 rfl rfl (by rw [ei9]; exact vp_in_nI (by omega) (by decide)) d_M_out_24 ?_
    refine lv_topi (fun v_3 ev_3 => ?_)
    refine lv_goto (tgt := 29) hx hb d_M_out_25 (by decide) ?_
    exact my_iret (v := v_3) hx hb hr (rfl) hlocks hQ hK hS (Nat.le_refl _) (Nat.le_refl _) () (by rw [if_pos hin]; subst_vars; rw [hc9]; exact hO _ hi9) (hP.sub [0, 1] rfl) (hD.sub [0, 1] (by decide +kernel) rfl) d_M_out_29
set_option maxHeartbeats 1000000 in
set_option maxRecDepth 100000 in
/-- spoil -/
theorem c_M_spoil (l : Launch) (dC : Nat → ClassId) (dI : Nat → Nat → Nat) (cI cM cO : ClassId) (sz : Nat) (o : Nat) (g : Nat → Nat) (fForm : Int32) (fShift : Int32) (fModels : Int32) (fItems : Int32) (fEnded : Int32) (fLow : Int64) (fRange : Int64) (fCache : Int32) (fPend : Int32) (fGoes : Int32) (fOuts : Int32) (fReads : Int32) (fBad : Int32) (fIR : Int32) (fAsk : Int32) (fBAsk : Int32) (fCode : Int64) (fRL : Int64) (fRR : Int64) (fX : Int64) (fWrites : Int32) (fThrown : Int32) (vIn : Nat → Int32) (is : List Nat) (p1 : Int32) (p2 : Int32) (hI : gIs vIn is) (hl9 : is.length ≤ 6000) : MetI l y_M_spoil (Cond.code y_M_spoil prog_14_method_39_code 3 (some .int) :: gw) ({ frames := 1, cells := 0, slots := 0, locals := 22 } : Room) (dC, dI) vwCl (kT cI cM cO) [Value.ref o, Value.int p1, Value.int p2] [(o, Sum.inr (9, mO g fForm fShift fModels fItems fEnded fLow fRange fCache fPend fGoes fOuts (nI is.length) fReads fBad fIR fAsk fBAsk fCode fRL fRR fX fWrites fThrown)), ((g 8), Sum.inl (cI, 6000, Sum.inl vIn))] sz (fun (r : Int32) (u : (Nat → Int32)) => (¬ isN is.length p1 ∧ r = -1 ∧ u = vIn) ∨ (isN is.length p1 ∧ ¬ (0 ≤ p2 ∧ p2 ≤ 255) ∧ r = -2 ∧ u = vIn) ∨ (isN is.length p1 ∧ ∃ t, t < 256 ∧ p2 = nI t ∧ r = nI (byA is p1.toNatClampNeg ^^^ t) ∧ gIs u (is.set p1.toNatClampNeg (byA is p1.toNatClampNeg ^^^ t)))) (fun (u : (Nat → Int32)) => [(o, Sum.inr (9, mO g fForm fShift fModels fItems fEnded fLow fRange fCache fPend fGoes fOuts (nI is.length) fReads fBad fIR fAsk fBAsk fCode fRL fRR fX fWrites 0)), ((g 8), Sum.inl (cI, 6000, Sum.inl u))]) 0 0 := by
  refine my_ofI (cc := prog_14_method_39_code) (n := 3) (ret := (some .int)) (by decide) rfl (Nat.le_of_ble_eq_true rfl) ?_
  intro p e s m args below meth c R Q A ls H locs hx hb hr hts hown hlocks hml hnm hR hQ hA hl hP hK hN hD hS
  have hg : ∀ w ∈ gw, w.before args s = true := fun w h => hts w (List.mem_cons_of_mem _ h)
  have hown : s.vm.findClass "RangeCodersModel" = some m.cls := hown
  have hl : lv_has ls 3 [(0, Value.ref o), (1, Value.int p1), (2, Value.int p2)] := hl
  refine lv_aload_n hx hb d_M_spoil_0 rfl (lv_at hl 0 rfl) ?_
  refine lv_iconst (v := 0) hx hb d_M_spoil_1 (by decide) ?_
  refine va_put (D := (dC, dI)) (ci := 9) (v := .int 0) (ty := .int) (C := "RangeCodersModel") (T := T_M) (N := 35) hx hb hg in_M t_M o_M n_M hown hK hP hD hS 0 rfl rfl 34 (by decide) (hg _ k986) (fun _ h9 => h9) rfl (o_M 34 (by decide)) rfl rfl (Nat.le_of_ble_eq_true rfl) d_M_spoil_2 (fun H locs hP hD hS => ?_)
  have hPD : my_PD (dC, dI) vwCl A [(o, Sum.inr (9, mO g fForm fShift fModels fItems fEnded fLow fRange fCache fPend fGoes fOuts (nI is.length) fReads fBad fIR fAsk fBAsk fCode fRL fRR fX fWrites 0)), ((g 8), Sum.inl (cI, 6000, Sum.inl vIn))] H := ⟨hP, hD⟩
  have hP := hPD.1
  have hD := hPD.2
  refine lv_iload_n hx hb d_M_spoil_5 rfl (lv_at hl 1 rfl) ?_
  refine lv_iconst (v := 0) hx hb d_M_spoil_6 (by decide) ?_
  refine lv_aload_n hx hb d_M_spoil_7 rfl (lv_at hl 0 rfl) ?_
  refine va_get (D := (dC, dI)) (ci := 9) (v := .int (nI is.length)) (C := "RangeCodersModel") (T := T_M) (N := 35) hx hb hg in_M hown hK hP 0 rfl rfl 20 (by decide) (hg _ k972) (fun _ h9 => h9) rfl d_M_spoil_8 ?_
  refine lv_iconst (v := 1) hx hb d_M_spoil_11 (by decide) ?_
  refine lv_isub hx hb d_M_spoil_12 ?_
  refine lv_topi (fun v_1 ev_1 => ?_)
  have z9 : v_1 = nI is.length - 1 := by subst_vars; rfl
  subst z9
  refine my_ci (wr := [(o, Sum.inr (9, mO g fForm fShift fModels fItems fEnded fLow fRange fCache fPend fGoes fOuts (nI is.length) fReads fBad fIR fAsk fBAsk fCode fRL fRR fX fWrites 0)), ((g 8), Sum.inl (cI, 6000, Sum.inl vIn))]) (va_runS (As := [Value.int p1, Value.int 0, Value.int (nI is.length - 1)]) (rest := []) ⟨hx, hb, hml, hown, hts⟩ (c_M_in l dC dI cI cM cO H.size p1 0 (nI is.length - 1)) (cwS 3 hts (my_gS k1062 k1063 k12 k1064) rfl rfl rfl (by decide +kernel) ⟨by rw [hR]; exact Nat.le_of_ble_eq_true rfl, by rw [hR]; exact Nat.le_of_ble_eq_true rfl⟩) (my_pre hK hN (hP.sub [] rfl) (hD.sub [] (by decide +kernel) rfl)) rfl rfl hl.1 rfl (lv_room (Nat.le_of_ble_eq_true rfl)) d_M_spoil_13 ⟨by rw [hR]; exact Nat.le_of_ble_eq_true rfl, by rw [hR]; exact Nat.le_of_ble_eq_true rfl⟩) hP hD hS hA [] [0, 1] rfl rfl (by decide +kernel) (by decide +kernel) (fun r_13 u9 H locs hw_13 hP hD hS => ?_)
  have hw_13 : r_13 = if 0 ≤ p1 ∧ p1 ≤ (nI is.length - 1) then 1 else 0 := hw_13
  have hPD : my_PD (dC, dI) vwCl A [(o, Sum.inr (9, mO g fForm fShift fModels fItems fEnded fLow fRange fCache fPend fGoes fOuts (nI is.length) fReads fBad fIR fAsk fBAsk fCode fRL fRR fX fWrites 0)), ((g 8), Sum.inl (cI, 6000, Sum.inl vIn))] H := ⟨hP, hD⟩
  have hP := hPD.1
  have hD := hPD.2
  refine lv_if_ne (tgt := 21) hx hb d_M_spoil_16 (by decide) (fun c_2 => ?_) (fun c_2 => ?_)
  · have hin := one_ne hw_13 c_2
    obtain ⟨i9, hi9, ei9⟩ := (isN_iff (by omega)).mp hin
    have hc9 : p1.toNatClampNeg = i9 := by rw [ei9]; exact nI_clamp (by omega)
    refine lv_iload_n hx hb d_M_spoil_21 rfl (lv_at hl 2 rfl) ?_
    refine lv_iconst (v := 0) hx hb d_M_spoil_22 (by decide) ?_
    refine lv_sipush (v := 255) hx hb d_M_spoil_23 (by decide) ?_
    refine my_ci (wr := [(o, Sum.inr (9, mO g fForm fShift fModels fItems fEnded fLow fRange fCache fPend fGoes fOuts (nI is.length) fReads fBad fIR fAsk fBAsk fCode fRL fRR fX fWrites 0)), ((g 8), Sum.inl (cI, 6000, Sum.inl vIn))]) (va_runS (As := [Value.int p2, Value.int 0, Value.int 255]) (rest := []) ⟨hx, hb, hml, hown, hts⟩ (c_M_in l dC dI cI cM cO H.size p2 0 255) (cwS 3 hts (my_gS k1062 k1063 k12 k1064) rfl rfl rfl (by decide +kernel) ⟨by rw [hR]; exact Nat.le_of_ble_eq_true rfl, by rw [hR]; exact Nat.le_of_ble_eq_true rfl⟩) (my_pre hK hN (hP.sub [] rfl) (hD.sub [] (by decide +kernel) rfl)) rfl rfl hl.1 rfl (lv_room (Nat.le_of_ble_eq_true rfl)) d_M_spoil_26 ⟨by rw [hR]; exact Nat.le_of_ble_eq_true rfl, by rw [hR]; exact Nat.le_of_ble_eq_true rfl⟩) hP hD hS hA [] [0, 1] rfl rfl (by decide +kernel) (by decide +kernel) (fun r_26 u9 H locs hw_26 hP hD hS => ?_)
    have hw_26 : r_26 = if 0 ≤ p2 ∧ p2 ≤ 255 then 1 else 0 := hw_26
    have hPD : my_PD (dC, dI) vwCl A [(o, Sum.inr (9, mO g fForm fShift fModels fItems fEnded fLow fRange fCache fPend fGoes fOuts (nI is.length) fReads fBad fIR fAsk fBAsk fCode fRL fRR fX fWrites 0)), ((g 8), Sum.inl (cI, 6000, Sum.inl vIn))] H := ⟨hP, hD⟩
    have hP := hPD.1
    have hD := hPD.2
    refine lv_if_ne (tgt := 35) hx hb d_M_spoil_29 (by decide) (fun c_3 => ?_) (fun c_3 => ?_)
    · have hi2 := one_ne hw_26 c_3
      obtain ⟨t9, ht9, et9⟩ : ∃ t, t < 256 ∧ p2 = nI t := by
        obtain ⟨z, hz, ez⟩ := nI_of2 (M := 255) (n := 255) (by decide) (Int32.not_lt.mpr hi2.1) hi2.2
        exact ⟨z, by omega, ez⟩
      refine lv_aload_n hx hb d_M_spoil_35 rfl (lv_at hl 0 rfl) ?_
      refine va_get (D := (dC, dI)) (ci := 9) (v := .ref (g 8)) (C := "RangeCodersModel") (T := T_M) (N := 35) hx hb hg in_M hown hK hP 0 rfl rfl 19 (by decide) (hg _ k971) (fun _ h9 => h9) rfl d_M_spoil_36 ?_
      refine lv_iload_n hx hb d_M_spoil_39 rfl (lv_at hl 1 rfl) ?_
      refine lv_aload_n hx hb d_M_spoil_40 rfl (lv_at hl 0 rfl) ?_
      refine va_get (D := (dC, dI)) (ci := 9) (v := .ref (g 8)) (C := "RangeCodersModel") (T := T_M) (N := 35) hx hb hg in_M hown hK hP 0 rfl rfl 19 (by decide) (hg _ k971) (fun _ h9 => h9) rfl d_M_spoil_41 ?_
      refine lv_iload_n hx hb d_M_spoil_44 rfl (lv_at hl 1 rfl) ?_
      refine va_iald hx hb hK hP 1 0 rfl rfl (by rw [ei9]; exact vp_in_nI (by omega) (by decide)) d_M_spoil_45 ?_
      refine lv_topi (fun v_4 ev_4 => ?_)
      refine lv_iload_n hx hb d_M_spoil_46 rfl (lv_at hl 2 rfl) ?_
      refine lv_ixor hx hb d_M_spoil_47 ?_
      refine lv_topi (fun v_5 ev_5 => ?_)
      have hval : v_5 = nI (byA is i9 ^^^ t9) := by subst_vars; rw [nI_clamp (by omega), hI _ hi9]; exact I_xor _ _
      refine va_iast hx hb hK hP hD hS 1 0 rfl rfl (by rw [ei9]; exact vp_in_nI (by omega) (by decide)) d_M_spoil_48 (fun H locs hP hD hS => ?_)
      have hPD : my_PD (dC, dI) vwCl A [(o, Sum.inr (9, mO g fForm fShift fModels fItems fEnded fLow fRange fCache fPend fGoes fOuts (nI is.length) fReads fBad fIR fAsk fBAsk fCode fRL fRR fX fWrites 0)), ((g 8), Sum.inl (cI, 6000, Sum.inl (upd vIn p1.toNatClampNeg v_5)))] H := ⟨hP, hD⟩
      have hP := hPD.1
      have hD := hPD.2
      refine lv_aload_n hx hb d_M_spoil_49 rfl (lv_at hl 0 rfl) ?_
      refine va_get (D := (dC, dI)) (ci := 9) (v := .ref (g 8)) (C := "RangeCodersModel") (T := T_M) (N := 35) hx hb hg in_M hown hK hP 0 rfl rfl 19 (by decide) (hg _ k971) (fun _ h9 => h9) rfl d_M_spoil_50 ?_
      refine lv_iload_n hx hb d_M_spoil_53 rfl (lv_at hl 1 rfl) ?_
      refine va_iald hx hb hK hP 1 0 rfl rfl (by rw [ei9]; exact vp_in_nI (by omega) (by decide)) d_M_spoil_54 ?_
      refine lv_topi (fun v_6 ev_6 => ?_)
      exact my_iret (v := v_6) hx hb hr (rfl) hlocks hQ hK hS (Nat.le_refl _) (Nat.le_refl _) (upd vIn p1.toNatClampNeg v_5) (Or.inr (Or.inr ⟨hin, t9, ht9, et9, by rw [hc9, ev_6, pk_us]; exact hval, by rw [hc9]; exact gIs_set hI hval⟩)) (hP.sub [0, 1] rfl) (hD.sub [0, 1] (by decide +kernel) rfl) d_M_spoil_55
    · have hi2 := one_eq hw_26 c_3
      refine lv_bipush (v := (-2)) hx hb d_M_spoil_32 (by decide) ?_
      exact my_iret (v := (-2)) hx hb hr (rfl) hlocks hQ hK hS (Nat.le_refl _) (Nat.le_refl _) vIn (Or.inr (Or.inl ⟨hin, hi2, rfl, rfl⟩)) (hP.sub [0, 1] rfl) (hD.sub [0, 1] (by decide +kernel) rfl) d_M_spoil_34
  · have hin := one_eq hw_13 c_2
    refine lv_iconst (v := (-1)) hx hb d_M_spoil_19 (by decide) ?_
    exact my_iret (v := (-1)) hx hb hr (rfl) hlocks hQ hK hS (Nat.le_refl _) (Nat.le_refl _) vIn (Or.inl ⟨hin, rfl, rfl⟩) (hP.sub [0, 1] rfl) (hD.sub [0, 1] (by decide +kernel) rfl) d_M_spoil_20
end
