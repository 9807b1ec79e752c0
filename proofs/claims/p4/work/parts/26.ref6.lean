set_option maxHeartbeats 1000000 in
set_option maxRecDepth 100000 in
/-- widen -/
theorem c_M_widen (l : Launch) (dC : Nat → ClassId) (dI : Nat → Nat → Nat) (cI cM cO : ClassId) (sz : Nat) (o : Nat) (g : Nat → Nat) (fForm : Int32) (fShift : Int32) (fModels : Int32) (fItems : Int32) (fEnded : Int32) (fOuts : Int32) (fIns : Int32) (fReads : Int32) (fBad : Int32) (fIR : Int32) (fAsk : Int32) (fBAsk : Int32) (fCode : Int64) (fRL : Int64) (fRR : Int64) (fX : Int64) (fWrites : Int32) (fThrown : Int32) (vGoing : Nat → Int32) (Rg : Nat) (L : Nat) (ca : Option Nat) (Pn : Nat) (bs : List Nat) (hR0 : 0 < Rg) (hR1 : Rg < 4294967296) (hL : L < 8589934592) (hc : ∀ x, ca = some x → x < 256) (hG : gIs vGoing bs) (hN9 : bs.length + Pn + 4 ≤ 9000) : MetV l y_M_widen (Cond.code y_M_widen prog_14_method_19_code 1 none :: gw) ({ frames := 2, cells := 0, slots := 0, locals := 42 } : Room) (dC, dI) vwCl (kT cI cM cO) [Value.ref o] [(o, Sum.inr (9, mO g fForm fShift fModels fItems fEnded (lN L) (lN Rg) (caI ca) (nI Pn) (nI bs.length) fOuts fIns fReads fBad fIR fAsk fBAsk fCode fRL fRR fX fWrites fThrown)), ((g 6), Sum.inl (cI, 9000, Sum.inl vGoing))] sz (fun (u : (Nat → Int32)) => gIs u (eB (wdS (Rg, L, ca, Pn, bs)))) (fun (u : (Nat → Int32)) => [(o, Sum.inr (9, mO g fForm fShift fModels fItems fEnded (lN (eL (wdS (Rg, L, ca, Pn, bs)))) (lN (eR (wdS (Rg, L, ca, Pn, bs)))) (caI (eC (wdS (Rg, L, ca, Pn, bs)))) (nI (eP (wdS (Rg, L, ca, Pn, bs)))) (nI (eB (wdS (Rg, L, ca, Pn, bs))).length) fOuts fIns fReads fBad fIR fAsk fBAsk fCode fRL fRR fX fWrites fThrown)), ((g 6), Sum.inl (cI, 9000, Sum.inl u))]) 0 0 := by
  refine my_ofV (cc := prog_14_method_19_code) (n := 1) (ret := none) (by decide) rfl (Nat.le_of_ble_eq_true rfl) ?_
  intro p e s m args below meth c R Q A ls H locs hx hb hr hts hown hlocks hml hnm hR hQ hA hl hP hK hN hD hS
  have hg : ∀ w ∈ gw, w.before args s = true := fun w h => hts w (List.mem_cons_of_mem _ h)
  have hown : s.vm.findClass "RangeCodersModel" = some m.cls := hown
  have hl : lv_has ls 1 [(0, Value.ref o)] := hl
  have J_0 : ∀ (n9_0 : Nat) (e9 : ES) (vK : Nat → Int32) (k9 : Nat) (hn9_0 : k9 = n9_0) (hE9 : wdS (Rg, L, ca, Pn, bs) = wdN k9 e9) (hk5 : 5 ≤ k9) (hk8 : k9 ≤ 8) (hR9 : wb8 k9 ≤ eR e9) (hR32 : eR e9 < 4294967296) (hO9 : eOk e9) (hg9 : gIs vK (eB e9)) (hM9 : (eB e9).length + eP e9 + k9 ≤ 9004) (H : Heap) (locs : List Loc) (ls : Array Slot), va_P (dC, dI) vwCl [(o, Sum.inr (9, mO g fForm fShift fModels fItems fEnded (lN (eL e9)) (lN (eR e9)) (caI (eC e9)) (nI (eP e9)) (nI (eB e9).length) fOuts fIns fReads fBad fIR fAsk fBAsk fCode fRL fRR fX fWrites fThrown)), ((g 6), Sum.inl (cI, 9000, Sum.inl vK))] H → va_D A [(o, Sum.inr (9, mO g fForm fShift fModels fItems fEnded (lN (eL e9)) (lN (eR e9)) (caI (eC e9)) (nI (eP e9)) (nI (eB e9).length) fOuts fIns fReads fBad fIR fAsk fBAsk fCode fRL fRR fX fWrites fThrown)), ((g 6), Sum.inl (cI, 9000, Sum.inl vK))] → va_S A s.heap H locs → lv_has ls 1 [(0, Value.ref o)] → W p l e R s m args below meth c H locs 0 0 Q (F0 m 0 ls []) := by
    intro n9_0
    induction n9_0 using Nat.strongRecOn with
    | ind n9_0 ih9_0 =>
      intro e9 vK k9 hn9_0 hE9 hk5 hk8 hR9 hR32 hO9 hg9 hM9 H locs ls hP hD hS hl
      refine lv_aload_n hx hb d_M_widen_0 rfl (lv_at hl 0 rfl) ?_
      refine va_get (D := (dC, dI)) (ci := 9) (v := .long (lN (eR e9))) (C := "RangeCodersModel") (T := T_M) (N := 35) hx hb hg in_M hown hK hP 0 rfl rfl 12 (by decide) (hg _ k964) (fun _ h9 => h9) rfl d_M_widen_1 ?_
      refine lv_ldc2 (v := 16777216) hx hb hown (hg _ k1101) d_M_widen_4 ?_
      refine W.lcmp hx hb d_M_widen_7 ?_
      refine lv_if_ge (tgt := 29) hx hb d_M_widen_8 (by decide) (fun c_1 => ?_) (fun c_1 => ?_)
      · rw [lg_cmp_ge] at c_1
        have hge : ¬ eR e9 < 16777216 := by have q := (L_le (a := 16777216) (by decide) (by omega)).mp c_1; omega
        have z9 : e9 = wdS (Rg, L, ca, Pn, bs) := by rw [hE9, wdN_e hge]
        subst z9
        exact my_vret hx hb hr hlocks hQ hK hS (Nat.le_refl _) (Nat.le_refl _) vK (hg9) (hP.sub [0, 1] rfl) (hD.sub [0, 1] (by decide +kernel) rfl) d_M_widen_29
      · rw [lg_cmp_ge] at c_1
        have hlt : eR e9 < 16777216 := by
          rcases Nat.lt_or_ge (eR e9) 16777216 with q | q
          · exact q
          · exact absurd ((L_le (a := 16777216) (by decide) (by omega)).mpr q) c_1
        have hk6 := wb8_k hk5 hR9 hlt
        refine lv_aload_n hx hb d_M_widen_11 rfl (lv_at hl 0 rfl) ?_
        refine lv_aload_n hx hb d_M_widen_12 rfl (lv_at hl 0 rfl) ?_
        refine va_get (D := (dC, dI)) (ci := 9) (v := .long (lN (eR e9))) (C := "RangeCodersModel") (T := T_M) (N := 35) hx hb hg in_M hown hK hP 0 rfl rfl 12 (by decide) (hg _ k964) (fun _ h9 => h9) rfl d_M_widen_13 ?_
        refine lv_bipush (v := 8) hx hb d_M_widen_16 (by decide) ?_
        refine lv_lshl hx hb d_M_widen_18 rfl ?_
        refine lv_topl (fun v_2 ev_2 => ?_)
        have z9 : v_2 = lN (eR e9 * 256) := by subst_vars; exact L_shl8 _
        subst z9
        refine va_put (D := (dC, dI)) (ci := 9) (v := .long (lN (eR e9 * 256))) (ty := .long) (C := "RangeCodersModel") (T := T_M) (N := 35) hx hb hg in_M t_M o_M n_M hown hK hP hD hS 0 rfl rfl 12 (by decide) (hg _ k964) (fun _ h9 => h9) rfl (by decide +kernel) rfl rfl (Nat.le_of_ble_eq_true rfl) d_M_widen_19 (fun H locs hP hD hS => ?_)
        have hP : va_P (dC, dI) vwCl [(o, Sum.inr (9, mO g fForm fShift fModels fItems fEnded (lN (eL e9)) (lN (eR e9 * 256)) (caI (eC e9)) (nI (eP e9)) (nI (eB e9).length) fOuts fIns fReads fBad fIR fAsk fBAsk fCode fRL fRR fX fWrites fThrown)), ((g 6), Sum.inl (cI, 9000, Sum.inl vK))] H := hP
        have hD : va_D A [(o, Sum.inr (9, mO g fForm fShift fModels fItems fEnded (lN (eL e9)) (lN (eR e9 * 256)) (caI (eC e9)) (nI (eP e9)) (nI (eB e9).length) fOuts fIns fReads fBad fIR fAsk fBAsk fCode fRL fRR fX fWrites fThrown)), ((g 6), Sum.inl (cI, 9000, Sum.inl vK))] := hD
        refine lv_aload_n hx hb d_M_widen_22 rfl (lv_at hl 0 rfl) ?_
        refine my_cv (wr := []) (va_runV (As := []) (rest := []) ⟨hx, hb, hml, hown, hts⟩ (c_M_shifted l dC dI cI cM cO H.size o g fForm fShift fModels fItems fEnded fOuts fIns fReads fBad fIR fAsk fBAsk fCode fRL fRR fX fWrites fThrown vK (eR e9 * 256) (eL e9) (eC e9) (eP e9) (eB e9) (hO9.1) (hO9.2) (hg9) (by omega)) (cwV 0 hts (my_gV k1102 k1104 ks31 k12 k1105) rfl rfl rfl (by decide +kernel) ⟨by rw [hR]; exact Nat.le_of_ble_eq_true rfl, by rw [hR]; exact Nat.le_of_ble_eq_true rfl⟩) (my_preV hK hN (hP.sub [0, 1] rfl) (hD.sub [0, 1] (by decide +kernel) rfl) 0 rfl rfl) rfl rfl hl.1 rfl (lv_room (Nat.le_of_ble_eq_true rfl)) d_M_widen_23 ⟨by rw [hR]; exact Nat.le_of_ble_eq_true rfl, by rw [hR]; exact Nat.le_of_ble_eq_true rfl⟩) hP hD hS hA [0, 1] [] rfl rfl (by decide +kernel) (by decide +kernel) (fun u9 H locs hw_23 hP hD hS => ?_)
        obtain ⟨v2_23, rfl⟩ : ∃ z, z = u9 := ⟨_, rfl⟩
        have hw_23 : gIs v2_23 (shB (eL e9) (eC e9) (eP e9) (eB e9)) := hw_23
        have hP : va_P (dC, dI) vwCl [(o, Sum.inr (9, mO g fForm fShift fModels fItems fEnded (lN (shL (eL e9))) (lN (eR e9 * 256)) (caI (shC (eL e9) (eC e9))) (nI (shP (eL e9) (eP e9))) (nI (shB (eL e9) (eC e9) (eP e9) (eB e9)).length) fOuts fIns fReads fBad fIR fAsk fBAsk fCode fRL fRR fX fWrites fThrown)), ((g 6), Sum.inl (cI, 9000, Sum.inl v2_23))] H := hP
        have hD : va_D A [(o, Sum.inr (9, mO g fForm fShift fModels fItems fEnded (lN (shL (eL e9))) (lN (eR e9 * 256)) (caI (shC (eL e9) (eC e9))) (nI (shP (eL e9) (eP e9))) (nI (shB (eL e9) (eC e9) (eP e9) (eB e9)).length) fOuts fIns fReads fBad fIR fAsk fBAsk fCode fRL fRR fX fWrites fThrown)), ((g 6), Sum.inl (cI, 9000, Sum.inl v2_23))] := hD
        refine lv_goto (tgt := 0) hx hb d_M_widen_26 (by decide) ?_
        exact ih9_0 _ (by first | omega | (omega)) (shS (eR e9 * 256, e9.2)) v2_23 (k9 - 1) rfl (by rw [hE9, wdN_s (by omega) hlt]) (by omega) (by omega) (wb8_s hk6 hk8 hR9) (by show eR e9 * 256 < _; omega) (eOk_sh (e := (eR e9 * 256, e9.2)) hO9) (hw_23) (by have q := eN_sh (eR e9 * 256, e9.2); simp only [eN, eB, eP] at q hM9 ⊢; omega) H locs ls (hP.sub [0, 1] rfl) (hD.sub [0, 1] (by decide +kernel) rfl) hS (lv_sub hl [0] rfl)
  exact J_0 _ (Rg, L, ca, Pn, bs) vGoing 8 rfl (rfl) (by decide) (by decide) (hR0) (hR1) (⟨hL, hc⟩) (hG) (by show bs.length + Pn + 8 ≤ _; omega) H locs ls (hP.sub [0, 1] rfl) (hD.sub [0, 1] (by decide +kernel) rfl) hS (lv_sub hl [0] rfl)
set_option maxHeartbeats 1000000 in
set_option maxRecDepth 100000 in
/-- moveChance -/
theorem c_M_moveChance (l : Launch) (dC : Nat → ClassId) (dI : Nat → Nat → Nat) (cI cM cO : ClassId) (sz : Nat) (o : Nat) (g : Nat → Nat) (fForm : Int32) (fShift : Int32) (fModels : Int32) (fItems : Int32) (fEnded : Int32) (fLow : Int64) (fRange : Int64) (fCache : Int32) (fPend : Int32) (fGoes : Int32) (fOuts : Int32) (fIns : Int32) (fReads : Int32) (fBad : Int32) (fIR : Int32) (fAsk : Int32) (fBAsk : Int32) (fCode : Int64) (fRL : Int64) (fRR : Int64) (fX : Int64) (fWrites : Int32) (fThrown : Int32) (a : Nat) (f : Nat → Int32) (i : Nat) (pp : Nat) (bt : Nat) (sh : Nat) (hi : i < 512) (hp : f i = nI pp) (hp2 : pp ≤ 2048) (hsh : sh ≤ 10) (hS9 : fShift = nI sh) (hbt : bt < 2) : MetV l y_M_moveChance (Cond.code y_M_moveChance prog_14_method_26_code 5 none :: gw) ({ frames := 0, cells := 0, slots := 0, locals := 0 } : Room) (dC, dI) vwCl (kT cI cM cO) [Value.ref o, Value.ref a, Value.int (nI i), Value.int (nI bt)] [(o, Sum.inr (9, mO g fForm fShift fModels fItems fEnded fLow fRange fCache fPend fGoes fOuts fIns fReads fBad fIR fAsk fBAsk fCode fRL fRR fX fWrites fThrown)), (a, Sum.inl (cI, 512, Sum.inl f))] sz (fun (u : (Nat → Int32)) => u = upd f i (nI (mvC sh bt pp))) (fun (u : (Nat → Int32)) => [(o, Sum.inr (9, mO g fForm fShift fModels fItems fEnded fLow fRange fCache fPend fGoes fOuts fIns fReads fBad fIR fAsk fBAsk fCode fRL fRR fX fWrites fThrown)), (a, Sum.inl (cI, 512, Sum.inl u))]) 0 0 := by
  refine my_ofV (cc := prog_14_method_26_code) (n := 5) (ret := none) (by decide) rfl (Nat.le_of_ble_eq_true rfl) ?_
  intro p e s m args below meth c R Q A ls H locs hx hb hr hts hown hlocks hml hnm hR hQ hA hl hP hK hN hD hS
  have hg : ∀ w ∈ gw, w.before args s = true := fun w h => hts w (List.mem_cons_of_mem _ h)
  have hown : s.vm.findClass "RangeCodersModel" = some m.cls := hown
  have hl : lv_has ls 5 [(0, Value.ref o), (1, Value.ref a), (2, Value.int (nI i)), (3, Value.int (nI bt))] := hl
  refine lv_aload_n hx hb d_M_moveChance_0 rfl (lv_at hl 1 rfl) ?_
  refine lv_iload_n hx hb d_M_moveChance_1 rfl (lv_at hl 2 rfl) ?_
  refine va_iald hx hb hK hP 1 0 rfl rfl (vp_in_nI hi (by decide)) d_M_moveChance_2 ?_
  refine lv_topi (fun v_1 ev_1 => ?_)
  have z9 : v_1 = nI pp := by subst_vars; rw [nI_clamp (by omega)]; exact hp
  subst z9
  have hpl : pp / 2 ^ sh ≤ pp := Nat.div_le_self _ _
  refine lv_istore (lv' := [(4, Value.int (nI pp)), (0, Value.ref o), (1, Value.ref a), (2, Value.int (nI i)), (3, Value.int (nI bt))]) hx hb d_M_moveChance_3 hl (by decide) rfl (fun ls hl => ?_)
  refine lv_aload_n hx hb d_M_moveChance_5 rfl (lv_at hl 2 rfl) ?_
  refine lv_iload_n hx hb d_M_moveChance_6 rfl (lv_at hl 3 rfl) ?_
  refine lv_iload_n hx hb d_M_moveChance_7 rfl (lv_at hl 4 rfl) ?_
  refine lv_if_ne (tgt := 28) hx hb d_M_moveChance_8 (by decide) (fun c_2 => ?_) (fun c_2 => ?_)
  · refine lv_iload hx hb d_M_moveChance_28 (lv_at hl 0 rfl) ?_
    refine lv_iload hx hb d_M_moveChance_30 (lv_at hl 0 rfl) ?_
    refine lv_aload_n hx hb d_M_moveChance_32 rfl (lv_at hl 1 rfl) ?_
    refine va_get (D := (dC, dI)) (ci := 9) (v := .int fShift) (C := "RangeCodersModel") (T := T_M) (N := 35) hx hb hg in_M hown hK hP 0 rfl rfl 1 (by decide) (hg _ k953) (fun _ h9 => h9) rfl d_M_moveChance_33 ?_
    refine lv_ishr hx hb d_M_moveChance_36 ?_
    refine lv_topi (fun v_3 ev_3 => ?_)
    refine lv_isub hx hb d_M_moveChance_37 ?_
    refine lv_topi (fun v_4 ev_4 => ?_)
    have hval : v_4 = nI (mvC sh bt pp) := by
      unfold mvC
      rw [if_neg (fun q => c_2 (by rw [q]; rfl))]
      subst_vars
      rw [I_shr (by omega) (by omega)]
      exact pk_sub hpl
    refine va_iast hx hb hK hP hD hS 1 0 rfl rfl (vp_in_nI hi (by decide)) d_M_moveChance_38 (fun H locs hP hD hS => ?_)
    have hP : va_P (dC, dI) vwCl [(o, Sum.inr (9, mO g fForm fShift fModels fItems fEnded fLow fRange fCache fPend fGoes fOuts fIns fReads fBad fIR fAsk fBAsk fCode fRL fRR fX fWrites fThrown)), (a, Sum.inl (cI, 512, Sum.inl (upd f (nI i).toNatClampNeg v_4)))] H := hP
    have hD : va_D A [(o, Sum.inr (9, mO g fForm fShift fModels fItems fEnded fLow fRange fCache fPend fGoes fOuts fIns fReads fBad fIR fAsk fBAsk fCode fRL fRR fX fWrites fThrown)), (a, Sum.inl (cI, 512, Sum.inl (upd f (nI i).toNatClampNeg v_4)))] := hD
    exact my_vret hx hb hr hlocks hQ hK hS (Nat.le_refl _) (Nat.le_refl _) (upd f (nI i).toNatClampNeg v_4) (by rw [hval, nI_clamp (by omega)]) (hP.sub [0, 1] rfl) (hD.sub [0, 1] (by decide +kernel) rfl) d_M_moveChance_39
  · refine lv_iload hx hb d_M_moveChance_11 (lv_at hl 0 rfl) ?_
    refine lv_sipush (v := 2048) hx hb d_M_moveChance_13 (by decide) ?_
    refine lv_iload hx hb d_M_moveChance_16 (lv_at hl 0 rfl) ?_
    refine lv_isub hx hb d_M_moveChance_18 ?_
    refine lv_topi (fun v_5 ev_5 => ?_)
    refine lv_aload_n hx hb d_M_moveChance_19 rfl (lv_at hl 1 rfl) ?_
    refine va_get (D := (dC, dI)) (ci := 9) (v := .int fShift) (C := "RangeCodersModel") (T := T_M) (N := 35) hx hb hg in_M hown hK hP 0 rfl rfl 1 (by decide) (hg _ k953) (fun _ h9 => h9) rfl d_M_moveChance_20 ?_
    refine lv_ishr hx hb d_M_moveChance_23 ?_
    refine lv_topi (fun v_6 ev_6 => ?_)
    refine lv_iadd hx hb d_M_moveChance_24 ?_
    refine lv_topi (fun v_7 ev_7 => ?_)
    refine lv_goto (tgt := 38) hx hb d_M_moveChance_25 (by decide) ?_
    have hval : v_7 = nI (mvC sh bt pp) := by
      unfold mvC
      rw [if_pos ((nI_eq (b := 0) (by omega) (by decide)).mp c_2)]
      subst_vars
      rw [show (2048 : Int32) - nI pp = nI (2048 - pp) from pk_sub (a := 2048) hp2, I_shr (by omega) (by omega)]
      exact nI_add _ _
    refine va_iast hx hb hK hP hD hS 1 0 rfl rfl (vp_in_nI hi (by decide)) d_M_moveChance_38 (fun H locs hP hD hS => ?_)
    have hP : va_P (dC, dI) vwCl [(o, Sum.inr (9, mO g fForm fShift fModels fItems fEnded fLow fRange fCache fPend fGoes fOuts fIns fReads fBad fIR fAsk fBAsk fCode fRL fRR fX fWrites fThrown)), (a, Sum.inl (cI, 512, Sum.inl (upd f (nI i).toNatClampNeg v_7)))] H := hP
    have hD : va_D A [(o, Sum.inr (9, mO g fForm fShift fModels fItems fEnded fLow fRange fCache fPend fGoes fOuts fIns fReads fBad fIR fAsk fBAsk fCode fRL fRR fX fWrites fThrown)), (a, Sum.inl (cI, 512, Sum.inl (upd f (nI i).toNatClampNeg v_7)))] := hD
    exact my_vret hx hb hr hlocks hQ hK hS (Nat.le_refl _) (Nat.le_refl _) (upd f (nI i).toNatClampNeg v_7) (by rw [hval, nI_clamp (by omega)]) (hP.sub [0, 1] rfl) (hD.sub [0, 1] (by decide +kernel) rfl) d_M_moveChance_39

