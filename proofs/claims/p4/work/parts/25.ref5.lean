set_option maxHeartbeats 1000000 in
set_option maxRecDepth 100000 in
/-- write -/
theorem c_M_write (l : Launch) (dC : Nat → ClassId) (dI : Nat → Nat → Nat) (cI cM cO : ClassId) (sz : Nat) (o : Nat) (g : Nat → Nat) (fForm : Int32) (fShift : Int32) (fModels : Int32) (fItems : Int32) (fEnded : Int32) (fLow : Int64) (fRange : Int64) (fCache : Int32) (fPend : Int32) (fOuts : Int32) (fIns : Int32) (fReads : Int32) (fBad : Int32) (fIR : Int32) (fAsk : Int32) (fBAsk : Int32) (fCode : Int64) (fRL : Int64) (fRR : Int64) (fX : Int64) (fWrites : Int32) (fThrown : Int32) (vGoing : Nat → Int32) (bs : List Nat) (v : Nat) (hG : gIs vGoing bs) (hl9 : bs.length < 9000) (hv : v < 2 ^ 31) : MetV l y_M_write (Cond.code y_M_write prog_14_method_17_code 2 none :: gw) ({ frames := 0, cells := 0, slots := 0, locals := 0 } : Room) (dC, dI) vwCl (kT cI cM cO) [Value.ref o, Value.int (nI v)] [(o, Sum.inr (9, mO g fForm fShift fModels fItems fEnded fLow fRange fCache fPend (nI bs.length) fOuts fIns fReads fBad fIR fAsk fBAsk fCode fRL fRR fX fWrites fThrown)), ((g 6), Sum.inl (cI, 9000, Sum.inl vGoing))] sz (fun (u : (Nat → Int32)) => gIs u (bs ++ [v % 256])) (fun (u : (Nat → Int32)) => [(o, Sum.inr (9, mO g fForm fShift fModels fItems fEnded fLow fRange fCache fPend (nI (bs ++ [v % 256]).length) fOuts fIns fReads fBad fIR fAsk fBAsk fCode fRL fRR fX fWrites fThrown)), ((g 6), Sum.inl (cI, 9000, Sum.inl u))]) 0 0 := by
  refine my_ofV (cc := prog_14_method_17_code) (n := 2) (ret := none) (by decide) rfl (Nat.le_of_ble_eq_true rfl) ?_
  intro p e s m args below meth c R Q A ls H locs hx hb hr hts hown hlocks hml hnm hR hQ hA hl hP hK hN hD hS
  have hg : ∀ w ∈ gw, w.before args s = true := fun w h => hts w (List.mem_cons_of_mem _ h)
  have hown : s.vm.findClass "RangeCodersModel" = some m.cls := hown
  have hl : lv_has ls 2 [(0, Value.ref o), (1, Value.int (nI v))] := hl
  refine lv_aload_n hx hb d_M_write_0 rfl (lv_at hl 0 rfl) ?_
  refine va_get (D := (dC, dI)) (ci := 9) (v := .ref (g 6)) (C := "RangeCodersModel") (T := T_M) (N := 35) hx hb hg in_M hown hK hP 0 rfl rfl 15 (by decide) (hg _ k967) (fun _ h9 => h9) rfl d_M_write_1 ?_
  refine lv_aload_n hx hb d_M_write_4 rfl (lv_at hl 0 rfl) ?_
  refine va_get (D := (dC, dI)) (ci := 9) (v := .int (nI bs.length)) (C := "RangeCodersModel") (T := T_M) (N := 35) hx hb hg in_M hown hK hP 0 rfl rfl 16 (by decide) (hg _ k968) (fun _ h9 => h9) rfl d_M_write_5 ?_
  refine lv_iload_n hx hb d_M_write_8 rfl (lv_at hl 1 rfl) ?_
  refine lv_sipush (v := 255) hx hb d_M_write_9 (by decide) ?_
  refine lv_iand hx hb d_M_write_12 ?_
  refine lv_topi (fun v_1 ev_1 => ?_)
  have hval : v_1 = nI (v % 256) := by subst_vars; exact pk_andN (by omega) 8 (by decide +kernel)
  refine va_iast hx hb hK hP hD hS 1 0 rfl rfl (vp_in_nI hl9 (by decide)) d_M_write_13 (fun H locs hP hD hS => ?_)
  have hP : va_P (dC, dI) vwCl [(o, Sum.inr (9, mO g fForm fShift fModels fItems fEnded fLow fRange fCache fPend (nI bs.length) fOuts fIns fReads fBad fIR fAsk fBAsk fCode fRL fRR fX fWrites fThrown)), ((g 6), Sum.inl (cI, 9000, Sum.inl (upd vGoing (nI bs.length).toNatClampNeg v_1)))] H := hP
  have hD : va_D A [(o, Sum.inr (9, mO g fForm fShift fModels fItems fEnded fLow fRange fCache fPend (nI bs.length) fOuts fIns fReads fBad fIR fAsk fBAsk fCode fRL fRR fX fWrites fThrown)), ((g 6), Sum.inl (cI, 9000, Sum.inl (upd vGoing (nI bs.length).toNatClampNeg v_1)))] := hD
  refine lv_aload_n hx hb d_M_write_14 rfl (lv_at hl 0 rfl) ?_
  refine lv_dup hx hb d_M_write_15 rfl ?_
  refine va_get (D := (dC, dI)) (ci := 9) (v := .int (nI bs.length)) (C := "RangeCodersModel") (T := T_M) (N := 35) hx hb hg in_M hown hK hP 0 rfl rfl 16 (by decide) (hg _ k968) (fun _ h9 => h9) rfl d_M_write_16 ?_
  refine lv_iconst (v := 1) hx hb d_M_write_19 (by decide) ?_
  refine lv_iadd hx hb d_M_write_20 ?_
  refine lv_topi (fun v_2 ev_2 => ?_)
  have z9 : v_2 = nI (bs ++ [v % 256]).length := by subst_vars; rw [List.length_append]; exact nI_1 _
  subst z9
  refine va_put (D := (dC, dI)) (ci := 9) (v := .int (nI (bs ++ [v % 256]).length)) (ty := .int) (C := "RangeCodersModel") (T := T_M) (N := 35) hx hb hg in_M t_M o_M n_M hown hK hP hD hS 0 rfl rfl 16 (by decide) (hg _ k968) (fun _ h9 => h9) rfl (by decide +kernel) rfl rfl (Nat.le_of_ble_eq_true rfl) d_M_write_21 (fun H locs hP hD hS => ?_)
  have hP : va_P (dC, dI) vwCl [(o, Sum.inr (9, mO g fForm fShift fModels fItems fEnded fLow fRange fCache fPend (nI (bs ++ [v % 256]).length) fOuts fIns fReads fBad fIR fAsk fBAsk fCode fRL fRR fX fWrites fThrown)), ((g 6), Sum.inl (cI, 9000, Sum.inl (upd vGoing (nI bs.length).toNatClampNeg v_1)))] H := hP
  have hD : va_D A [(o, Sum.inr (9, mO g fForm fShift fModels fItems fEnded fLow fRange fCache fPend (nI (bs ++ [v % 256]).length) fOuts fIns fReads fBad fIR fAsk fBAsk fCode fRL fRR fX fWrites fThrown)), ((g 6), Sum.inl (cI, 9000, Sum.inl (upd vGoing (nI bs.length).toNatClampNeg v_1)))] := hD
  exact my_vret hx hb hr hlocks hQ hK hS (Nat.le_refl _) (Nat.le_refl _) (upd vGoing (nI bs.length).toNatClampNeg v_1) (gIs_up hG (nI_clamp (by omega)) hval) (hP.sub [0, 1] rfl) (hD.sub [0, 1] (by decide +kernel) rfl) d_M_write_24
set_option maxHeartbeats 1000000 in
set_option maxRecDepth 100000 in
/-- shifted -/
theorem c_M_shifted (l : Launch) (dC : Nat → ClassId) (dI : Nat → Nat → Nat) (cI cM cO : ClassId) (sz : Nat) (o : Nat) (g : Nat → Nat) (fForm : Int32) (fShift : Int32) (fModels : Int32) (fItems : Int32) (fEnded : Int32) (fOuts : Int32) (fIns : Int32) (fReads : Int32) (fBad : Int32) (fIR : Int32) (fAsk : Int32) (fBAsk : Int32) (fCode : Int64) (fRL : Int64) (fRR : Int64) (fX : Int64) (fWrites : Int32) (fThrown : Int32) (vGoing : Nat → Int32) (Rg : Nat) (L : Nat) (ca : Option Nat) (Pn : Nat) (bs : List Nat) (hL : L < 8589934592) (hc : ∀ x, ca = some x → x < 256) (hG : gIs vGoing bs) (hN9 : bs.length + Pn + 1 ≤ 9000) : MetV l y_M_shifted (Cond.code y_M_shifted prog_14_method_18_code 2 none :: gw) ({ frames := 1, cells := 0, slots := 0, locals := 21 } : Room) (dC, dI) vwCl (kT cI cM cO) [Value.ref o] [(o, Sum.inr (9, mO g fForm fShift fModels fItems fEnded (lN L) (lN Rg) (caI ca) (nI Pn) (nI bs.length) fOuts fIns fReads fBad fIR fAsk fBAsk fCode fRL fRR fX fWrites fThrown)), ((g 6), Sum.inl (cI, 9000, Sum.inl vGoing))] sz (fun (u : (Nat → Int32)) => gIs u (shB L ca Pn bs)) (fun (u : (Nat → Int32)) => [(o, Sum.inr (9, mO g fForm fShift fModels fItems fEnded (lN (shL L)) (lN Rg) (caI (shC L ca)) (nI (shP L Pn)) (nI (shB L ca Pn bs).length) fOuts fIns fReads fBad fIR fAsk fBAsk fCode fRL fRR fX fWrites fThrown)), ((g 6), Sum.inl (cI, 9000, Sum.inl u))]) 0 0 := by
  refine my_ofV (cc := prog_14_method_18_code) (n := 2) (ret := none) (by decide) rfl (Nat.le_of_ble_eq_true rfl) ?_
  intro p e s m args below meth c R Q A ls H locs hx hb hr hts hown hlocks hml hnm hR hQ hA hl hP hK hN hD hS
  have hg : ∀ w ∈ gw, w.before args s = true := fun w h => hts w (List.mem_cons_of_mem _ h)
  have hown : s.vm.findClass "RangeCodersModel" = some m.cls := hown
  have hl : lv_has ls 2 [(0, Value.ref o)] := hl
  have J_107 : ∀ (cE : Int32) (pE : Int32) (bE : List Nat) (vE : Nat → Int32) (hcE : cE = caI (shC L ca)) (hpE : pE = nI (shP L Pn)) (hbE : bE = shB L ca Pn bs) (hgE : gIs vE bE) (H : Heap) (locs : List Loc) (ls : Array Slot), va_P (dC, dI) vwCl [(o, Sum.inr (9, mO g fForm fShift fModels fItems fEnded (lN L) (lN Rg) cE pE (nI bE.length) fOuts fIns fReads fBad fIR fAsk fBAsk fCode fRL fRR fX fWrites fThrown)), ((g 6), Sum.inl (cI, 9000, Sum.inl vE))] H → va_D A [(o, Sum.inr (9, mO g fForm fShift fModels fItems fEnded (lN L) (lN Rg) cE pE (nI bE.length) fOuts fIns fReads fBad fIR fAsk fBAsk fCode fRL fRR fX fWrites fThrown)), ((g 6), Sum.inl (cI, 9000, Sum.inl vE))] → va_S A s.heap H locs → lv_has ls 2 [(0, Value.ref o)] → W p l e R s m args below meth c H locs 0 0 Q (F0 m 107 ls []) := by
    intro cE pE bE vE hcE hpE hbE hgE H locs ls hP hD hS hl
    refine lv_aload_n hx hb d_M_shifted_107 rfl (lv_at hl 0 rfl) ?_
    refine lv_aload_n hx hb d_M_shifted_108 rfl (lv_at hl 0 rfl) ?_
    refine va_get (D := (dC, dI)) (ci := 9) (v := .long (lN L)) (C := "RangeCodersModel") (T := T_M) (N := 35) hx hb hg in_M hown hK hP 0 rfl rfl 11 (by decide) (hg _ k963) (fun _ h9 => h9) rfl d_M_shifted_109 ?_
    refine lv_ldc2 (v := 16777215) hx hb hown (hg _ k1112) d_M_shifted_112 ?_
    refine lv_land hx hb d_M_shifted_115 ?_
    refine lv_topl (fun v_1 ev_1 => ?_)
    refine lv_bipush (v := 8) hx hb d_M_shifted_116 (by decide) ?_
    refine lv_lshl hx hb d_M_shifted_118 rfl ?_
    refine lv_topl (fun v_2 ev_2 => ?_)
    have z9 : v_2 = lN (shL L) := by subst_vars; rw [L_and24 (by omega), L_shl8]; rfl
    subst z9
    refine va_put (D := (dC, dI)) (ci := 9) (v := .long (lN (shL L))) (ty := .long) (C := "RangeCodersModel") (T := T_M) (N := 35) hx hb hg in_M t_M o_M n_M hown hK hP hD hS 0 rfl rfl 11 (by decide) (hg _ k963) (fun _ h9 => h9) rfl (by decide +kernel) rfl rfl (Nat.le_of_ble_eq_true rfl) d_M_shifted_119 (fun H locs hP hD hS => ?_)
    have hP : va_P (dC, dI) vwCl [(o, Sum.inr (9, mO g fForm fShift fModels fItems fEnded (lN (shL L)) (lN Rg) cE pE (nI bE.length) fOuts fIns fReads fBad fIR fAsk fBAsk fCode fRL fRR fX fWrites fThrown)), ((g 6), Sum.inl (cI, 9000, Sum.inl vE))] H := hP
    have hD : va_D A [(o, Sum.inr (9, mO g fForm fShift fModels fItems fEnded (lN (shL L)) (lN Rg) cE pE (nI bE.length) fOuts fIns fReads fBad fIR fAsk fBAsk fCode fRL fRR fX fWrites fThrown)), ((g 6), Sum.inl (cI, 9000, Sum.inl vE))] := hD
    subst hcE
    subst hpE
    subst hbE
    exact my_vret hx hb hr hlocks hQ hK hS (Nat.le_refl _) (Nat.le_refl _) vE (hgE) (hP.sub [0, 1] rfl) (hD.sub [0, 1] (by decide +kernel) rfl) d_M_shifted_122
  have J_22 : ∀ (hO : shO L) (H : Heap) (locs : List Loc) (ls : Array Slot), va_P (dC, dI) vwCl [(o, Sum.inr (9, mO g fForm fShift fModels fItems fEnded (lN L) (lN Rg) (caI ca) (nI Pn) (nI bs.length) fOuts fIns fReads fBad fIR fAsk fBAsk fCode fRL fRR fX fWrites fThrown)), ((g 6), Sum.inl (cI, 9000, Sum.inl vGoing))] H → va_D A [(o, Sum.inr (9, mO g fForm fShift fModels fItems fEnded (lN L) (lN Rg) (caI ca) (nI Pn) (nI bs.length) fOuts fIns fReads fBad fIR fAsk fBAsk fCode fRL fRR fX fWrites fThrown)), ((g 6), Sum.inl (cI, 9000, Sum.inl vGoing))] → va_S A s.heap H locs → lv_has ls 2 [(0, Value.ref o)] → W p l e R s m args below meth c H locs 0 0 Q (F0 m 22 ls []) := by
    intro hO H locs ls hP hD hS hl
    refine lv_aload_n hx hb d_M_shifted_22 rfl (lv_at hl 0 rfl) ?_
    refine va_get (D := (dC, dI)) (ci := 9) (v := .long (lN L)) (C := "RangeCodersModel") (T := T_M) (N := 35) hx hb hg in_M hown hK hP 0 rfl rfl 11 (by decide) (hg _ k963) (fun _ h9 => h9) rfl d_M_shifted_23 ?_
    refine lv_bipush (v := 32) hx hb d_M_shifted_26 (by decide) ?_
    refine lv_lshr hx hb d_M_shifted_28 rfl ?_
    refine lv_topl (fun v_3 ev_3 => ?_)
    refine lv_l2i hx hb d_M_shifted_29 rfl ?_
    refine lv_topi (fun v_4 ev_4 => ?_)
    have z9 : v_4 = nI (L / 4294967296) := by subst_vars; rw [L_shr32 (by omega)]; exact lN_i _
    subst z9
    refine lv_istore_n (lv' := [(1, Value.int (nI (L / 4294967296))), (0, Value.ref o)]) hx hb d_M_shifted_30 rfl hl (by decide) rfl (fun ls hl => ?_)
    have J_49 : ∀ (n9_49 : Nat) (P9 : Nat) (b9 : List Nat) (vK : Nat → Int32) (hn9_49 : P9 = n9_49) (h9 : b9 ++ List.replicate P9 ((255 + L / 4294967296) % 256) = shB L ca Pn bs) (hg9 : gIs vK b9) (hl9 : b9.length + P9 ≤ 9000) (H : Heap) (locs : List Loc) (ls : Array Slot), va_P (dC, dI) vwCl [(o, Sum.inr (9, mO g fForm fShift fModels fItems fEnded (lN L) (lN Rg) (caI ca) (nI P9) (nI b9.length) fOuts fIns fReads fBad fIR fAsk fBAsk fCode fRL fRR fX fWrites fThrown)), ((g 6), Sum.inl (cI, 9000, Sum.inl vK))] H → va_D A [(o, Sum.inr (9, mO g fForm fShift fModels fItems fEnded (lN L) (lN Rg) (caI ca) (nI P9) (nI b9.length) fOuts fIns fReads fBad fIR fAsk fBAsk fCode fRL fRR fX fWrites fThrown)), ((g 6), Sum.inl (cI, 9000, Sum.inl vK))] → va_S A s.heap H locs → lv_has ls 2 [(1, Value.int (nI (L / 4294967296))), (0, Value.ref o)] → W p l e R s m args below meth c H locs 0 0 Q (F0 m 49 ls []) := by
      intro n9_49
      induction n9_49 using Nat.strongRecOn with
      | ind n9_49 ih9_49 =>
        intro P9 b9 vK hn9_49 h9 hg9 hl9 H locs ls hP hD hS hl
        refine lv_aload_n hx hb d_M_shifted_49 rfl (lv_at hl 1 rfl) ?_
        refine va_get (D := (dC, dI)) (ci := 9) (v := .int (nI P9)) (C := "RangeCodersModel") (T := T_M) (N := 35) hx hb hg in_M hown hK hP 0 rfl rfl 14 (by decide) (hg _ k966) (fun _ h9 => h9) rfl d_M_shifted_50 ?_
        refine lv_if_le (tgt := 78) hx hb d_M_shifted_53 (by decide) (fun c_5 => ?_) (fun c_5 => ?_)
        · have hP0 : P9 = 0 := by
            rcases Nat.eq_zero_or_pos P9 with q | q
            · exact q
            · exact absurd c_5 (nI_nle q (by omega))
          have hB0 : b9 = shB L ca Pn bs := by rw [← h9, hP0]; simp
          refine lv_aload_n hx hb d_M_shifted_78 rfl (lv_at hl 1 rfl) ?_
          refine lv_aload_n hx hb d_M_shifted_79 rfl (lv_at hl 1 rfl) ?_
          refine va_get (D := (dC, dI)) (ci := 9) (v := .long (lN L)) (C := "RangeCodersModel") (T := T_M) (N := 35) hx hb hg in_M hown hK hP 0 rfl rfl 11 (by decide) (hg _ k963) (fun _ h9 => h9) rfl d_M_shifted_80 ?_
          refine lv_bipush (v := 24) hx hb d_M_shifted_83 (by decide) ?_
          refine lv_lshr hx hb d_M_shifted_85 rfl ?_
          refine lv_topl (fun v_6 ev_6 => ?_)
          refine lv_ldc2 (v := 255) hx hb hown (hg _ k1111) d_M_shifted_86 ?_
          refine lv_land hx hb d_M_shifted_89 ?_
          refine lv_topl (fun v_7 ev_7 => ?_)
          refine lv_l2i hx hb d_M_shifted_90 rfl ?_
          refine lv_topi (fun v_8 ev_8 => ?_)
          have hcv : v_8 = nI (L / 16777216 % 256) := by subst_vars; rw [L_shr24 (by omega), L_and8 (by omega)]; exact lN_i _
          refine va_put (D := (dC, dI)) (ci := 9) (v := .int v_8) (ty := .int) (C := "RangeCodersModel") (T := T_M) (N := 35) hx hb hg in_M t_M o_M n_M hown hK hP hD hS 0 rfl rfl 13 (by decide) (hg _ k965) (fun _ h9 => h9) rfl (by decide +kernel) rfl rfl (Nat.le_of_ble_eq_true rfl) d_M_shifted_91 (fun H locs hP hD hS => ?_)
          have hP : va_P (dC, dI) vwCl [(o, Sum.inr (9, mO g fForm fShift fModels fItems fEnded (lN L) (lN Rg) v_8 (nI P9) (nI b9.length) fOuts fIns fReads fBad fIR fAsk fBAsk fCode fRL fRR fX fWrites fThrown)), ((g 6), Sum.inl (cI, 9000, Sum.inl vK))] H := hP
          have hD : va_D A [(o, Sum.inr (9, mO g fForm fShift fModels fItems fEnded (lN L) (lN Rg) v_8 (nI P9) (nI b9.length) fOuts fIns fReads fBad fIR fAsk fBAsk fCode fRL fRR fX fWrites fThrown)), ((g 6), Sum.inl (cI, 9000, Sum.inl vK))] := hD
          refine lv_goto (tgt := 107) hx hb d_M_shifted_94 (by decide) ?_
          exact J_107 v_8 (nI P9) b9 vK (by unfold shC; rw [if_pos hO]; exact hcv) (by unfold shP; rw [if_pos hO, hP0]) (hB0) (hg9) H locs ls (hP.sub [0, 1] rfl) (hD.sub [0, 1] (by decide +kernel) rfl) hS (lv_sub hl [1] rfl)
        · have hp1 : 0 < P9 := by
            rcases Nat.eq_zero_or_pos P9 with q | q
            · exact absurd (by rw [q]; exact Int32.le_refl _) c_5
            · exact q
          refine lv_aload_n hx hb d_M_shifted_56 rfl (lv_at hl 1 rfl) ?_
          refine lv_sipush (v := 255) hx hb d_M_shifted_57 (by decide) ?_
          refine lv_iload_n hx hb d_M_shifted_60 rfl (lv_at hl 0 rfl) ?_
          refine lv_iadd hx hb d_M_shifted_61 ?_
          refine lv_topi (fun v_9 ev_9 => ?_)
          have z9 : v_9 = nI (255 + L / 4294967296) := by subst_vars; exact nI_add 255 _
          subst z9
          refine my_cv (wr := []) (va_runV (As := [Value.int (nI (255 + L / 4294967296))]) (rest := []) ⟨hx, hb, hml, hown, hts⟩ (c_M_write l dC dI cI cM cO H.size o g fForm fShift fModels fItems fEnded (lN L) (lN Rg) (caI ca) (nI P9) fOuts fIns fReads fBad fIR fAsk fBAsk fCode fRL fRR fX fWrites fThrown vK b9 (255 + L / 4294967296) (hg9) (by omega) (by omega)) (cwV 1 hts (my_gV k1107 k1109 ks32 k12 k1110) rfl rfl rfl (by decide +kernel) ⟨by rw [hR]; exact Nat.le_of_ble_eq_true rfl, by rw [hR]; exact Nat.le_of_ble_eq_true rfl⟩) (my_preV hK hN (hP.sub [0, 1] rfl) (hD.sub [0, 1] (by decide +kernel) rfl) 0 rfl rfl) rfl rfl hl.1 rfl (lv_room (Nat.le_of_ble_eq_true rfl)) d_M_shifted_62 ⟨by rw [hR]; exact Nat.le_of_ble_eq_true rfl, by rw [hR]; exact Nat.le_of_ble_eq_true rfl⟩) hP hD hS hA [0, 1] [] rfl rfl (by decide +kernel) (by decide +kernel) (fun u9 H locs hw_62 hP hD hS => ?_)
          obtain ⟨v2_62, rfl⟩ : ∃ z, z = u9 := ⟨_, rfl⟩
          have hw_62 : gIs v2_62 (b9 ++ [(255 + L / 4294967296) % 256]) := hw_62
          have hP : va_P (dC, dI) vwCl [(o, Sum.inr (9, mO g fForm fShift fModels fItems fEnded (lN L) (lN Rg) (caI ca) (nI P9) (nI (b9 ++ [(255 + L / 4294967296) % 256]).length) fOuts fIns fReads fBad fIR fAsk fBAsk fCode fRL fRR fX fWrites fThrown)), ((g 6), Sum.inl (cI, 9000, Sum.inl v2_62))] H := hP
          have hD : va_D A [(o, Sum.inr (9, mO g fForm fShift fModels fItems fEnded (lN L) (lN Rg) (caI ca) (nI P9) (nI (b9 ++ [(255 + L / 4294967296) % 256]).length) fOuts fIns fReads fBad fIR fAsk fBAsk fCode fRL fRR fX fWrites fThrown)), ((g 6), Sum.inl (cI, 9000, Sum.inl v2_62))] := hD
          refine lv_aload_n hx hb d_M_shifted_65 rfl (lv_at hl 1 rfl) ?_
          refine lv_dup hx hb d_M_shifted_66 rfl ?_
          refine va_get (D := (dC, dI)) (ci := 9) (v := .int (nI P9)) (C := "RangeCodersModel") (T := T_M) (N := 35) hx hb hg in_M hown hK hP 0 rfl rfl 14 (by decide) (hg _ k966) (fun _ h9 => h9) rfl d_M_shifted_67 ?_
          refine lv_iconst (v := 1) hx hb d_M_shifted_70 (by decide) ?_
          refine lv_isub hx hb d_M_shifted_71 ?_
          refine lv_topi (fun v_10 ev_10 => ?_)
          have z9 : v_10 = nI (P9 - 1) := by subst_vars; exact pk_sub (b := 1) hp1
          subst z9
          refine va_put (D := (dC, dI)) (ci := 9) (v := .int (nI (P9 - 1))) (ty := .int) (C := "RangeCodersModel") (T := T_M) (N := 35) hx hb hg in_M t_M o_M n_M hown hK hP hD hS 0 rfl rfl 14 (by decide) (hg _ k966) (fun _ h9 => h9) rfl (by decide +kernel) rfl rfl (Nat.le_of_ble_eq_true rfl) d_M_shifted_72 (fun H locs hP hD hS => ?_)
          have hP : va_P (dC, dI) vwCl [(o, Sum.inr (9, mO g fForm fShift fModels fItems fEnded (lN L) (lN Rg) (caI ca) (nI (P9 - 1)) (nI (b9 ++ [(255 + L / 4294967296) % 256]).length) fOuts fIns fReads fBad fIR fAsk fBAsk fCode fRL fRR fX fWrites fThrown)), ((g 6), Sum.inl (cI, 9000, Sum.inl v2_62))] H := hP
          have hD : va_D A [(o, Sum.inr (9, mO g fForm fShift fModels fItems fEnded (lN L) (lN Rg) (caI ca) (nI (P9 - 1)) (nI (b9 ++ [(255 + L / 4294967296) % 256]).length) fOuts fIns fReads fBad fIR fAsk fBAsk fCode fRL fRR fX fWrites fThrown)), ((g 6), Sum.inl (cI, 9000, Sum.inl v2_62))] := hD
          refine lv_goto (tgt := 49) hx hb d_M_shifted_75 (by decide) ?_
          exact ih9_49 _ (by first | omega | (omega)) (P9 - 1) (b9 ++ [(255 + L / 4294967296) % 256]) v2_62 rfl (by rw [← h9]; rw [List.append_assoc]; congr 1; obtain ⟨q, hq⟩ : ∃ q, P9 = q + 1 := ⟨P9 - 1, by omega⟩; subst hq; simp [List.replicate_succ]) (hw_62) (by rw [List.length_append, List.length_singleton]; omega) H locs ls (hP.sub [0, 1] rfl) (hD.sub [0, 1] (by decide +kernel) rfl) hS (lv_sub hl [0, 1] rfl)
    refine lv_aload_n hx hb d_M_shifted_31 rfl (lv_at hl 1 rfl) ?_
    refine va_get (D := (dC, dI)) (ci := 9) (v := .int (caI ca)) (C := "RangeCodersModel") (T := T_M) (N := 35) hx hb hg in_M hown hK hP 0 rfl rfl 13 (by decide) (hg _ k965) (fun _ h9 => h9) rfl d_M_shifted_32 ?_
    refine lv_iconst (v := (-1)) hx hb d_M_shifted_35 (by decide) ?_
    refine lv_icmp_eq (tgt := 49) hx hb d_M_shifted_36 (by decide) (fun c_11 => ?_) (fun c_11 => ?_)
    · have hcn : ca = none := (caI_ne hc).mp c_11
      exact J_49 _ Pn bs vGoing rfl (by unfold shB; rw [if_pos hO, hcn]; simp [caB]) (hG) (by omega) H locs ls (hP.sub [0, 1] rfl) (hD.sub [0, 1] (by decide +kernel) rfl) hS (lv_sub hl [0, 1] rfl)
    · obtain ⟨c0, hc0⟩ : ∃ x, ca = some x := by
        cases hca : ca with
        | none => exact absurd ((caI_ne hc).mpr hca) c_11
        | some x => exact ⟨x, rfl⟩
      have hc256 := hc c0 hc0
      have hcI : caI ca = nI c0 := by rw [hc0]; rfl
      refine lv_aload_n hx hb d_M_shifted_39 rfl (lv_at hl 1 rfl) ?_
      refine lv_aload_n hx hb d_M_shifted_40 rfl (lv_at hl 1 rfl) ?_
      refine va_get (D := (dC, dI)) (ci := 9) (v := .int (caI ca)) (C := "RangeCodersModel") (T := T_M) (N := 35) hx hb hg in_M hown hK hP 0 rfl rfl 13 (by decide) (hg _ k965) (fun _ h9 => h9) rfl d_M_shifted_41 ?_
      refine lv_iload_n hx hb d_M_shifted_44 rfl (lv_at hl 0 rfl) ?_
      refine lv_iadd hx hb d_M_shifted_45 ?_
      refine lv_topi (fun v_12 ev_12 => ?_)
      have z9 : v_12 = nI (c0 + L / 4294967296) := by subst_vars; rw [hcI]; exact nI_add _ _
      subst z9
      refine my_cv (wr := []) (va_runV (As := [Value.int (nI (c0 + L / 4294967296))]) (rest := []) ⟨hx, hb, hml, hown, hts⟩ (c_M_write l dC dI cI cM cO H.size o g fForm fShift fModels fItems fEnded (lN L) (lN Rg) (caI ca) (nI Pn) fOuts fIns fReads fBad fIR fAsk fBAsk fCode fRL fRR fX fWrites fThrown vGoing bs (c0 + L / 4294967296) (hG) (by omega) (by omega)) (cwV 1 hts (my_gV k1107 k1109 ks32 k12 k1110) rfl rfl rfl (by decide +kernel) ⟨by rw [hR]; exact Nat.le_of_ble_eq_true rfl, by rw [hR]; exact Nat.le_of_ble_eq_true rfl⟩) (my_preV hK hN (hP.sub [0, 1] rfl) (hD.sub [0, 1] (by decide +kernel) rfl) 0 rfl rfl) rfl rfl hl.1 rfl (lv_room (Nat.le_of_ble_eq_true rfl)) d_M_shifted_46 ⟨by rw [hR]; exact Nat.le_of_ble_eq_true rfl, by rw [hR]; exact Nat.le_of_ble_eq_true rfl⟩) hP hD hS hA [0, 1] [] rfl rfl (by decide +kernel) (by decide +kernel) (fun u9 H locs hw_46 hP hD hS => ?_)
      obtain ⟨v2_46, rfl⟩ : ∃ z, z = u9 := ⟨_, rfl⟩
      have hw_46 : gIs v2_46 (bs ++ [(c0 + L / 4294967296) % 256]) := hw_46
      have hP : va_P (dC, dI) vwCl [(o, Sum.inr (9, mO g fForm fShift fModels fItems fEnded (lN L) (lN Rg) (caI ca) (nI Pn) (nI (bs ++ [(c0 + L / 4294967296) % 256]).length) fOuts fIns fReads fBad fIR fAsk fBAsk fCode fRL fRR fX fWrites fThrown)), ((g 6), Sum.inl (cI, 9000, Sum.inl v2_46))] H := hP
      have hD : va_D A [(o, Sum.inr (9, mO g fForm fShift fModels fItems fEnded (lN L) (lN Rg) (caI ca) (nI Pn) (nI (bs ++ [(c0 + L / 4294967296) % 256]).length) fOuts fIns fReads fBad fIR fAsk fBAsk fCode fRL fRR fX fWrites fThrown)), ((g 6), Sum.inl (cI, 9000, Sum.inl v2_46))] := hD
      exact J_49 _ Pn (bs ++ [(c0 + L / 4294967296) % 256]) v2_46 rfl (by unfold shB; rw [if_pos hO, hc0]; simp [caB]) (hw_46) (by rw [List.length_append, List.length_singleton]; omega) H locs ls (hP.sub [0, 1] rfl) (hD.sub [0, 1] (by decide +kernel) rfl) hS (lv_sub hl [0, 1] rfl)
  refine lv_aload_n hx hb d_M_shifted_0 rfl (lv_at hl 0 rfl) ?_
  refine va_get (D := (dC, dI)) (ci := 9) (v := .long (lN L)) (C := "RangeCodersModel") (T := T_M) (N := 35) hx hb hg in_M hown hK hP 0 rfl rfl 11 (by decide) (hg _ k963) (fun _ h9 => h9) rfl d_M_shifted_1 ?_
  refine lv_ldc2 (v := 4278190080) hx hb hown (hg _ k1106) d_M_shifted_4 ?_
  refine W.lcmp hx hb d_M_shifted_7 ?_
  refine lv_if_lt (tgt := 22) hx hb d_M_shifted_8 (by decide) (fun c_13 => ?_) (fun c_13 => ?_)
  · rw [lg_cmp_lt] at c_13
    exact J_22  (Or.inl ((L_lt (b := 4278190080) (by omega) (by decide)).mp c_13)) H locs ls (hP.sub [0, 1] rfl) (hD.sub [0, 1] (by decide +kernel) rfl) hS (lv_sub hl [0] rfl)
  · rw [lg_cmp_lt] at c_13
    refine lv_aload_n hx hb d_M_shifted_11 rfl (lv_at hl 0 rfl) ?_
    refine va_get (D := (dC, dI)) (ci := 9) (v := .long (lN L)) (C := "RangeCodersModel") (T := T_M) (N := 35) hx hb hg in_M hown hK hP 0 rfl rfl 11 (by decide) (hg _ k963) (fun _ h9 => h9) rfl d_M_shifted_12 ?_
    refine lv_ldc2 (v := 4294967295) hx hb hown (hg _ k927) d_M_shifted_15 ?_
    refine W.lcmp hx hb d_M_shifted_18 ?_
    refine lv_if_le (tgt := 97) hx hb d_M_shifted_19 (by decide) (fun c_14 => ?_) (fun c_14 => ?_)
    · rw [lg_cmp_le] at c_14
      have hO : ¬ shO L := fun q => q.elim (fun q => absurd ((L_lt (b := 4278190080) (by omega) (by decide)).mpr q) c_13) (fun q => absurd ((L_le (b := 4294967295) (by omega) (by decide)).mp c_14) (by omega))
      refine lv_aload_n hx hb d_M_shifted_97 rfl (lv_at hl 0 rfl) ?_
      refine lv_dup hx hb d_M_shifted_98 rfl ?_
      refine va_get (D := (dC, dI)) (ci := 9) (v := .int (nI Pn)) (C := "RangeCodersModel") (T := T_M) (N := 35) hx hb hg in_M hown hK hP 0 rfl rfl 14 (by decide) (hg _ k966) (fun _ h9 => h9) rfl d_M_shifted_99 ?_
      refine lv_iconst (v := 1) hx hb d_M_shifted_102 (by decide) ?_
      refine lv_iadd hx hb d_M_shifted_103 ?_
      refine lv_topi (fun v_15 ev_15 => ?_)
      refine va_put (D := (dC, dI)) (ci := 9) (v := .int v_15) (ty := .int) (C := "RangeCodersModel") (T := T_M) (N := 35) hx hb hg in_M t_M o_M n_M hown hK hP hD hS 0 rfl rfl 14 (by decide) (hg _ k966) (fun _ h9 => h9) rfl (by decide +kernel) rfl rfl (Nat.le_of_ble_eq_true rfl) d_M_shifted_104 (fun H locs hP hD hS => ?_)
      have hP : va_P (dC, dI) vwCl [(o, Sum.inr (9, mO g fForm fShift fModels fItems fEnded (lN L) (lN Rg) (caI ca) v_15 (nI bs.length) fOuts fIns fReads fBad fIR fAsk fBAsk fCode fRL fRR fX fWrites fThrown)), ((g 6), Sum.inl (cI, 9000, Sum.inl vGoing))] H := hP
      have hD : va_D A [(o, Sum.inr (9, mO g fForm fShift fModels fItems fEnded (lN L) (lN Rg) (caI ca) v_15 (nI bs.length) fOuts fIns fReads fBad fIR fAsk fBAsk fCode fRL fRR fX fWrites fThrown)), ((g 6), Sum.inl (cI, 9000, Sum.inl vGoing))] := hD
      exact J_107 (caI ca) v_15 bs vGoing (by unfold shC; rw [if_neg hO]) (by unfold shP; rw [if_neg hO]; subst_vars; exact nI_1 _) (by unfold shB; rw [if_neg hO]) (hG) H locs ls (hP.sub [0, 1] rfl) (hD.sub [0, 1] (by decide +kernel) rfl) hS (lv_sub hl [0] rfl)
    · rw [lg_cmp_le] at c_14
      exact J_22  (Or.inr ((Nat.lt_or_ge L 4294967296).elim (fun q => absurd ((L_le (b := 4294967295) (by omega) (by decide)).mpr (by omega)) c_14) id)) H locs ls (hP.sub [0, 1] rfl) (hD.sub [0, 1] (by decide +kernel) rfl) hS (lv_sub hl [0] rfl)

