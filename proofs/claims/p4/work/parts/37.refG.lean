set_option maxHeartbeats 1000000 in
set_option maxRecDepth 100000 in
/-- signAt -/
theorem c_M_signAt (l : Launch) (dC : Nat → ClassId) (dI : Nat → Nat → Nat) (cI cM cO : ClassId) (sz : Nat) (o : Nat) (g : Nat → Nat) (fForm : Int32) (fShift : Int32) (fModels : Int32) (fItems : Int32) (fEnded : Int32) (fLow : Int64) (fRange : Int64) (fCache : Int32) (fPend : Int32) (fGoes : Int32) (fOuts : Int32) (fIns : Int32) (fReads : Int32) (fBad : Int32) (fIR : Int32) (fAsk : Int32) (fBAsk : Int32) (fCode : Int64) (fRL : Int64) (fRR : Int64) (fX : Int64) (fWrites : Int32) (fThrown : Int32) (vThen : Nat → Int32) (mm : Nat) (n : Nat) (F : Nat → Nat) (uu : Nat) (hmm : mm < 8) (hn2 : n ≤ 64) (hf : sgI vThen (64 * mm) n F) (hu : uu < ns F n) (hsum : ns F n ≤ 100000) : MetI l y_M_signAt (Cond.code y_M_signAt prog_14_method_49_code 7 (some .int) :: gw) ({ frames := 0, cells := 0, slots := 0, locals := 0 } : Room) (dC, dI) vwCl (kT cI cM cO) [Value.ref o, Value.int (nI mm), Value.long (lN uu)] [(o, Sum.inr (9, mO g fForm fShift fModels fItems fEnded fLow fRange fCache fPend fGoes fOuts fIns fReads fBad fIR fAsk fBAsk fCode fRL fRR fX fWrites fThrown)), ((g 3), Sum.inl (cI, 512, Sum.inl vThen))] sz (fun (r : Int32) (u : Unit) => r = nI (sgA F n uu)) (fun (u : Unit) => [(o, Sum.inr (9, mO g fForm fShift fModels fItems fEnded fLow fRange fCache fPend fGoes fOuts fIns fReads fBad fIR fAsk fBAsk fCode fRL fRR fX fWrites fThrown)), ((g 3), Sum.inl (cI, 512, Sum.inl vThen))]) 0 0 := by
  refine my_ofI (cc := prog_14_method_49_code) (n := 7) (ret := (some .int)) (by decide) rfl (Nat.le_of_ble_eq_true rfl) ?_
  intro p e s m args below meth c R Q A ls H locs hx hb hr hts hown hlocks hml hnm hR hQ hA hl hP hK hN hD hS
  have hg : ∀ w ∈ gw, w.before args s = true := fun w h => hts w (List.mem_cons_of_mem _ h)
  have hown : s.vm.findClass "RangeCodersModel" = some m.cls := hown
  have hl : lv_has ls 7 [(0, Value.ref o), (1, Value.int (nI mm)), (2, Value.long (lN uu))] := hl
  have hn0 : 0 < n := by
    rcases Nat.eq_zero_or_pos n with z | z
    · subst z; exact absurd hu (by simp [ns])
    · exact z
  refine lv_iconst (v := 0) hx hb d_M_signAt_0 (by decide) ?_
  refine lv_istore (lv' := [(4, Value.int 0), (0, Value.ref o), (1, Value.int (nI mm)), (2, Value.long (lN uu))]) hx hb d_M_signAt_1 hl (by decide) rfl (fun ls hl => ?_)
  refine lv_aload_n hx hb d_M_signAt_3 rfl (lv_at hl 1 rfl) ?_
  refine va_get (D := (dC, dI)) (ci := 9) (v := .ref (g 3)) (C := "RangeCodersModel") (T := T_M) (N := 35) hx hb hg in_M hown hK hP 0 rfl rfl 6 (by decide) (hg _ k958) (fun _ h9 => h9) rfl d_M_signAt_4 ?_
  refine lv_bipush (v := 64) hx hb d_M_signAt_7 (by decide) ?_
  refine lv_iload_n hx hb d_M_signAt_9 rfl (lv_at hl 2 rfl) ?_
  refine lv_imul hx hb d_M_signAt_10 ?_
  refine lv_topi (fun v_1 ev_1 => ?_)
  refine va_iald hx hb hK hP 1 0 rfl rfl (by subst_vars; rw [show (64 : Int32) * nI mm = nI (64 * mm) from pk_mul 64 mm]; exact vp_in_nI (by omega) (by decide)) d_M_signAt_11 ?_
  refine lv_topi (fun v_2 ev_2 => ?_)
  refine lv_i2l hx hb d_M_signAt_12 rfl ?_
  refine lv_topl (fun v_3 ev_3 => ?_)
  have hg0 := ns_ge (F := F) hn0
  have hc0 : v_3 = lN (ns F (0 + 1)) := by
    subst_vars
    rw [show (64 : Int32) * nI mm = nI (64 * mm + 0) from pk_mul 64 mm, nI_clamp (by omega), hf 0 hn0, nI_l (by omega)]
    simp [ns]
  refine lv_lstore (lv' := [(5, Value.long v_3), (4, Value.int 0), (0, Value.ref o), (1, Value.int (nI mm)), (2, Value.long (lN uu))]) hx hb d_M_signAt_13 hl (by decide) rfl (fun ls hl => ?_)
  have J_15 : ∀ (n9_15 : Nat) (s9 : Int32) (c9 : Int64) (j : Nat) (hn9_15 : n - j = n9_15) (hs : s9 = nI j) (hc9 : c9 = lN (ns F (j + 1))) (hj : j < n) (hE9 : sgA F n uu = fs F uu (n - j) j) (H : Heap) (locs : List Loc) (ls : Array Slot), va_P (dC, dI) vwCl [(o, Sum.inr (9, mO g fForm fShift fModels fItems fEnded fLow fRange fCache fPend fGoes fOuts fIns fReads fBad fIR fAsk fBAsk fCode fRL fRR fX fWrites fThrown)), ((g 3), Sum.inl (cI, 512, Sum.inl vThen))] H → va_D A [(o, Sum.inr (9, mO g fForm fShift fModels fItems fEnded fLow fRange fCache fPend fGoes fOuts fIns fReads fBad fIR fAsk fBAsk fCode fRL fRR fX fWrites fThrown)), ((g 3), Sum.inl (cI, 512, Sum.inl vThen))] → va_S A s.heap H locs → lv_has ls 7 [(5, Value.long c9), (4, Value.int s9), (0, Value.ref o), (1, Value.int (nI mm)), (2, Value.long (lN uu))] → W p l e R s m args below meth c H locs 0 0 Q (F0 m 15 ls []) := by
    intro n9_15
    induction n9_15 using Nat.strongRecOn with
    | ind n9_15 ih9_15 =>
      intro s9 c9 j hn9_15 hs hc9 hj hE9 H locs ls hP hD hS hl
      have hm1 := ns_m F (show j + 1 ≤ n from hj)
      refine lv_lload hx hb d_M_signAt_15 (lv_at hl 0 rfl) ?_
      refine lv_lload_n hx hb d_M_signAt_17 rfl (lv_at hl 4 rfl) ?_
      refine W.lcmp hx hb d_M_signAt_18 ?_
      refine lv_if_gt (tgt := 46) hx hb d_M_signAt_19 (by decide) (fun c_4 => ?_) (fun c_4 => ?_)
      · rw [lg_cmp_gt] at c_4
        have hlt : uu < ns F (j + 1) := (L_lt (by omega) (by omega)).mp (by rw [← hc9]; exact c_4)
        refine lv_iload hx hb d_M_signAt_46 (lv_at hl 1 rfl) ?_
        exact my_iret (v := s9) hx hb hr (rfl) hlocks hQ hK hS (Nat.le_refl _) (Nat.le_refl _) () (by rw [hs, hE9, show n - j = (n - (j + 1)) + 1 by omega, fs, if_pos hlt]) (hP.sub [0, 1] rfl) (hD.sub [0, 1] (by decide +kernel) rfl) d_M_signAt_48
      · rw [lg_cmp_gt] at c_4
        have hle : ns F (j + 1) ≤ uu := by
          rcases Nat.lt_or_ge uu (ns F (j + 1)) with z | z
          · exact absurd (by rw [hc9]; exact (L_lt (by omega) (by omega)).mpr z) c_4
          · exact z
        have hj1 : j + 1 < n := by
          rcases Nat.lt_or_ge (j + 1) n with z | z
          · exact z
          · have e9 : j + 1 = n := by omega
            rw [e9] at hle; omega
        have hg1 := ns_ge (F := F) hj1
        obtain ⟨v_5, ev_5⟩ : ∃ y : Int32, y = s9 + (1) := ⟨_, rfl⟩
        refine lv_iinc (v := v_5) (lv' := [(4, Value.int v_5), (5, Value.long c9), (0, Value.ref o), (1, Value.int (nI mm)), (2, Value.long (lN uu))]) hx hb d_M_signAt_22 hl (k := 1) rfl (by rw [ev_5]; rfl) (by decide) rfl (fun ls hl => ?_)
        refine lv_lload hx hb d_M_signAt_25 (lv_at hl 1 rfl) ?_
        refine lv_aload_n hx hb d_M_signAt_27 rfl (lv_at hl 2 rfl) ?_
        refine va_get (D := (dC, dI)) (ci := 9) (v := .ref (g 3)) (C := "RangeCodersModel") (T := T_M) (N := 35) hx hb hg in_M hown hK hP 0 rfl rfl 6 (by decide) (hg _ k958) (fun _ h9 => h9) rfl d_M_signAt_28 ?_
        refine lv_bipush (v := 64) hx hb d_M_signAt_31 (by decide) ?_
        refine lv_iload_n hx hb d_M_signAt_33 rfl (lv_at hl 3 rfl) ?_
        refine lv_imul hx hb d_M_signAt_34 ?_
        refine lv_topi (fun v_6 ev_6 => ?_)
        refine lv_iload hx hb d_M_signAt_35 (lv_at hl 0 rfl) ?_
        refine lv_iadd hx hb d_M_signAt_37 ?_
        refine lv_topi (fun v_7 ev_7 => ?_)
        have hix : v_7 = nI (64 * mm + (j + 1)) := by subst_vars; rw [nI_1]; exact ix64
        refine va_iald hx hb hK hP 1 0 rfl rfl (by rw [hix]; exact vp_in_nI (by omega) (by decide)) d_M_signAt_38 ?_
        refine lv_topi (fun v_8 ev_8 => ?_)
        refine lv_i2l hx hb d_M_signAt_39 rfl ?_
        refine lv_topl (fun v_9 ev_9 => ?_)
        refine lv_ladd hx hb d_M_signAt_40 ?_
        refine lv_topl (fun v_10 ev_10 => ?_)
        refine lv_lstore (lv' := [(5, Value.long v_10), (4, Value.int v_5), (0, Value.ref o), (1, Value.int (nI mm)), (2, Value.long (lN uu))]) hx hb d_M_signAt_41 hl (by decide) rfl (fun ls hl => ?_)
        refine lv_goto (tgt := 15) hx hb d_M_signAt_43 (by decide) ?_
        exact ih9_15 _ (by first | omega | (omega)) v_5 v_10 (j + 1) rfl (by subst_vars; exact nI_1 j) (by subst_vars; rw [nI_clamp (by omega), hf (j + 1) hj1, nI_l (by omega), lN_add]; rfl) (hj1) (by rw [hE9, show n - j = (n - (j + 1)) + 1 by omega, fs, if_neg (by omega)]) H locs ls (hP.sub [0, 1] rfl) (hD.sub [0, 1] (by decide +kernel) rfl) hS (lv_sub hl [0, 1, 2, 3, 4] rfl)
  exact J_15 _ 0 v_3 0 rfl (rfl) (hc0) (hn0) (rfl) H locs ls (hP.sub [0, 1] rfl) (hD.sub [0, 1] (by decide +kernel) rfl) hS (lv_sub hl [0, 1, 2, 3, 4] rfl)
set_option maxHeartbeats 1000000 in
set_option maxRecDepth 100000 in
/-- wanted, form 0 -/
theorem c_M_wanted0 (l : Launch) (dC : Nat → ClassId) (dI : Nat → Nat → Nat) (cI cM cO : ClassId) (sz : Nat) (o : Nat) (g : Nat → Nat) (fShift : Int32) (fModels : Int32) (fItems : Int32) (fEnded : Int32) (fLow : Int64) (fRange : Int64) (fCache : Int32) (fPend : Int32) (fGoes : Int32) (fOuts : Int32) (fIns : Int32) (fReads : Int32) (fBad : Int32) (fIR : Int32) (fAsk : Int32) (fBAsk : Int32) (fRL : Int64) (fX : Int64) (fWrites : Int32) (fThrown : Int32) (tt : Nat) (RR : Nat) (CD : Nat) (ht : tt < 2 ^ 31) (hR1 : RR < 4294967296) (hC : CD < 4294967296) : MetL l y_M_wanted (Cond.code y_M_wanted prog_14_method_47_code 6 (some .long) :: gw) ({ frames := 0, cells := 0, slots := 0, locals := 0 } : Room) (dC, dI) vwCl (kT cI cM cO) [Value.ref o, Value.int (nI tt)] [(o, Sum.inr (9, mO g 0 fShift fModels fItems fEnded fLow fRange fCache fPend fGoes fOuts fIns fReads fBad fIR fAsk fBAsk (lN CD) fRL (lN RR) fX fWrites fThrown))] sz (fun (r : Int64) (u : Unit) => r = oL (wnt tt RR CD)) (fun (u : Unit) => [(o, Sum.inr (9, mO g 0 fShift fModels fItems fEnded fLow fRange fCache fPend fGoes fOuts fIns fReads fBad fIR fAsk fBAsk (lN CD) fRL (lN RR) fX fWrites fThrown))]) 0 0 := by
  refine my_ofL (cc := prog_14_method_47_code) (n := 6) (ret := (some .long)) (by decide) rfl (Nat.le_of_ble_eq_true rfl) ?_
  intro p e s m args below meth c R Q A ls H locs hx hb hr hts hown hlocks hml hnm hR hQ hA hl hP hK hN hD hS
  have hg : ∀ w ∈ gw, w.before args s = true := fun w h => hts w (List.mem_cons_of_mem _ h)
  have hown : s.vm.findClass "RangeCodersModel" = some m.cls := hown
  have hl : lv_has ls 6 [(0, Value.ref o), (1, Value.int (nI tt))] := hl
  have J_15 : ∀ (r9 : Int64) (hr9 : r9 = lN (RR / tt)) (H : Heap) (locs : List Loc) (ls : Array Slot), va_P (dC, dI) vwCl [(o, Sum.inr (9, mO g 0 fShift fModels fItems fEnded fLow fRange fCache fPend fGoes fOuts fIns fReads fBad fIR fAsk fBAsk (lN CD) fRL (lN RR) fX fWrites fThrown))] H → va_D A [(o, Sum.inr (9, mO g 0 fShift fModels fItems fEnded fLow fRange fCache fPend fGoes fOuts fIns fReads fBad fIR fAsk fBAsk (lN CD) fRL (lN RR) fX fWrites fThrown))] → va_S A s.heap H locs → lv_has ls 6 [(0, Value.ref o), (1, Value.int (nI tt))] → W p l e R s m args below meth c H locs 0 0 Q (F0 m 15 ls [Value.long r9]) := by
    intro r9 hr9 H locs ls hP hD hS hl
    have hd5 : RR / tt ≤ RR := Nat.div_le_self _ _
    refine lv_lstore_n (lv' := [(2, Value.long r9), (0, Value.ref o), (1, Value.int (nI tt))]) hx hb d_M_wanted_15 rfl hl (by decide) rfl (fun ls hl => ?_)
    refine lv_lload_n hx hb d_M_wanted_16 rfl (lv_at hl 0 rfl) ?_
    refine lv_lconst (v := 0) hx hb d_M_wanted_17 (by decide) ?_
    refine W.lcmp hx hb d_M_wanted_18 ?_
    refine lv_if_ne (tgt := 26) hx hb d_M_wanted_19 (by decide) (fun c_1 => ?_) (fun c_1 => ?_)
    · rw [lg_cmp_eq] at c_1
      have hnz : ¬ RR / tt = 0 := fun z => c_1 (by rw [hr9, z]; rfl)
      have hxl : CD / (RR / tt) ≤ CD := Nat.div_le_self _ _
      have hx32 : CD < 4294967296 := hC
      refine lv_aload_n hx hb d_M_wanted_26 rfl (lv_at hl 1 rfl) ?_
      refine va_get (D := (dC, dI)) (ci := 9) (v := .int 0) (C := "RangeCodersModel") (T := T_M) (N := 35) hx hb hg in_M hown hK hP 0 rfl rfl 0 (by decide) (hg _ k952) (fun _ h9 => h9) rfl d_M_wanted_27 ?_
      refine lv_if_ne (tgt := 40) hx hb d_M_wanted_30 (by decide) (fun c_2 => ?_) (fun c_2 => ?_)
      · exact absurd rfl c_2
      · refine lv_aload_n hx hb d_M_wanted_33 rfl (lv_at hl 1 rfl) ?_
        refine va_get (D := (dC, dI)) (ci := 9) (v := .long (lN CD)) (C := "RangeCodersModel") (T := T_M) (N := 35) hx hb hg in_M hown hK hP 0 rfl rfl 26 (by decide) (hg _ k978) (fun _ h9 => h9) rfl d_M_wanted_34 ?_
        refine lv_goto (tgt := 53) hx hb d_M_wanted_37 (by decide) ?_
        refine lv_lload_n hx hb d_M_wanted_53 rfl (lv_at hl 0 rfl) ?_
        refine lv_ldiv hx hb d_M_wanted_54 (by rw [hr9]; intro z; exact hnz ((pk_lEQ (b := 0) (by omega) (by decide)).mp z)) ?_
        refine lv_topl (fun v_3 ev_3 => ?_)
        have z9 : v_3 = lN (CD / (RR / tt)) := by subst_vars; exact pk_lDiv (by omega) (Nat.pos_of_ne_zero hnz) (by omega)
        subst z9
        refine lv_lstore (lv' := [(4, Value.long (lN (CD / (RR / tt)))), (2, Value.long r9), (0, Value.ref o), (1, Value.int (nI tt))]) hx hb d_M_wanted_55 hl (by decide) rfl (fun ls hl => ?_)
        refine lv_lload hx hb d_M_wanted_57 (lv_at hl 0 rfl) ?_
        refine lv_iload_n hx hb d_M_wanted_59 rfl (lv_at hl 3 rfl) ?_
        refine lv_i2l hx hb d_M_wanted_60 rfl ?_
        refine lv_topl (fun v_4 ev_4 => ?_)
        refine W.lcmp hx hb d_M_wanted_61 ?_
        refine lv_if_ge (tgt := 70) hx hb d_M_wanted_62 (by decide) (fun c_5 => ?_) (fun c_5 => ?_)
        · rw [lg_cmp_ge] at c_5
          have hge : ¬ CD / (RR / tt) < tt := by
            have hc9 := c_5
            subst_vars
            rw [nI_l (by omega)] at hc9
            have := (L_le (by omega) (by omega)).mp hc9
            omega
          refine lv_ldc2 (v := (-1)) hx hb hown (hg _ k1214) d_M_wanted_70 ?_
          exact my_lret (v := (-1)) hx hb hr hlocks hQ hK hS (Nat.le_refl _) (Nat.le_refl _) () (by unfold wnt; rw [if_neg hnz, if_neg hge]; rfl) (hP.sub [0] rfl) (hD.sub [0] (by decide +kernel) rfl) d_M_wanted_73
        · rw [lg_cmp_ge] at c_5
          have hlt : CD / (RR / tt) < tt := by
            have hc9 := c_5
            rcases Nat.lt_or_ge (CD / (RR / tt)) tt with z | z
            · exact z
            · subst_vars
              rw [nI_l (by omega)] at hc9
              exact absurd ((L_le (by omega) (by omega)).mpr z) hc9
          refine lv_lload hx hb d_M_wanted_65 (lv_at hl 0 rfl) ?_
          refine lv_goto (tgt := 73) hx hb d_M_wanted_67 (by decide) ?_
          exact my_lret (v := (lN (CD / (RR / tt)))) hx hb hr hlocks hQ hK hS (Nat.le_refl _) (Nat.le_refl _) () (by unfold wnt; rw [if_neg hnz, if_pos hlt]; rfl) (hP.sub [0] rfl) (hD.sub [0] (by decide +kernel) rfl) d_M_wanted_73
    · rw [lg_cmp_eq] at c_1
      have hz : RR / tt = 0 := (pk_lEQ (b := 0) (by omega) (by decide)).mp (by rw [← hr9]; exact c_1)
      refine lv_ldc2 (v := (-1)) hx hb hown (hg _ k1214) d_M_wanted_22 ?_
      exact my_lret (v := (-1)) hx hb hr hlocks hQ hK hS (Nat.le_refl _) (Nat.le_refl _) () (by unfold wnt; rw [if_pos hz]; rfl) (hP.sub [0] rfl) (hD.sub [0] (by decide +kernel) rfl) d_M_wanted_25
  refine lv_iload_n hx hb d_M_wanted_0 rfl (lv_at hl 1 rfl) ?_
  refine lv_if_ne (tgt := 8) hx hb d_M_wanted_1 (by decide) (fun c_6 => ?_) (fun c_6 => ?_)
  · have htp : 0 < tt := by
      rcases Nat.eq_zero_or_pos tt with z | z
      · exact absurd (by rw [z]; rfl) c_6
      · exact z
    refine lv_aload_n hx hb d_M_wanted_8 rfl (lv_at hl 0 rfl) ?_
    refine va_get (D := (dC, dI)) (ci := 9) (v := .long (lN RR)) (C := "RangeCodersModel") (T := T_M) (N := 35) hx hb hg in_M hown hK hP 0 rfl rfl 28 (by decide) (hg _ k980) (fun _ h9 => h9) rfl d_M_wanted_9 ?_
    refine lv_iload_n hx hb d_M_wanted_12 rfl (lv_at hl 1 rfl) ?_
    refine lv_i2l hx hb d_M_wanted_13 rfl ?_
    refine lv_topl (fun v_7 ev_7 => ?_)
    refine lv_ldiv hx hb d_M_wanted_14 (by subst_vars; rw [nI_l (by omega)]; intro z; have := (pk_lEQ (b := 0) (by omega) (by decide)).mp z; omega) ?_
    refine lv_topl (fun v_8 ev_8 => ?_)
    exact J_15 v_8 (by subst_vars; rw [nI_l (by omega)]; exact pk_lDiv (by omega) htp (by omega)) H locs ls (hP.sub [0] rfl) (hD.sub [0] (by decide +kernel) rfl) hS (lv_sub hl [0, 1] rfl)
  · have htz : tt = 0 := (nI_eq (b := 0) (by omega) (by decide)).mp c_6
    refine lv_lconst (v := 0) hx hb d_M_wanted_4 (by decide) ?_
    refine lv_goto (tgt := 15) hx hb d_M_wanted_5 (by decide) ?_
    exact J_15 0 (by rw [htz, Nat.div_zero]; rfl) H locs ls (hP.sub [0] rfl) (hD.sub [0] (by decide +kernel) rfl) hS (lv_sub hl [0, 1] rfl)
set_option maxHeartbeats 1000000 in
set_option maxRecDepth 100000 in
/-- wanted, form 1 -/
theorem c_M_wanted1 (l : Launch) (dC : Nat → ClassId) (dI : Nat → Nat → Nat) (cI cM cO : ClassId) (sz : Nat) (o : Nat) (g : Nat → Nat) (fShift : Int32) (fModels : Int32) (fItems : Int32) (fEnded : Int32) (fLow : Int64) (fRange : Int64) (fCache : Int32) (fPend : Int32) (fGoes : Int32) (fOuts : Int32) (fIns : Int32) (fReads : Int32) (fBad : Int32) (fIR : Int32) (fAsk : Int32) (fBAsk : Int32) (fX : Int64) (fWrites : Int32) (fThrown : Int32) (tt : Nat) (RR : Nat) (CD : Nat) (L : Nat) (ht : tt < 2 ^ 31) (hR1 : RR < 4294967296) (hC : CD < 4294967296) (hLl : L < 4294967296) : MetL l y_M_wanted (Cond.code y_M_wanted prog_14_method_47_code 6 (some .long) :: gw) ({ frames := 0, cells := 0, slots := 0, locals := 0 } : Room) (dC, dI) vwCl (kT cI cM cO) [Value.ref o, Value.int (nI tt)] [(o, Sum.inr (9, mO g 1 fShift fModels fItems fEnded fLow fRange fCache fPend fGoes fOuts fIns fReads fBad fIR fAsk fBAsk (lN CD) (lN L) (lN RR) fX fWrites fThrown))] sz (fun (r : Int64) (u : Unit) => r = oL (wnt tt RR ((CD + 4294967296 - L) % 4294967296))) (fun (u : Unit) => [(o, Sum.inr (9, mO g 1 fShift fModels fItems fEnded fLow fRange fCache fPend fGoes fOuts fIns fReads fBad fIR fAsk fBAsk (lN CD) (lN L) (lN RR) fX fWrites fThrown))]) 0 0 := by
  refine my_ofL (cc := prog_14_method_47_code) (n := 6) (ret := (some .long)) (by decide) rfl (Nat.le_of_ble_eq_true rfl) ?_
  intro p e s m args below meth c R Q A ls H locs hx hb hr hts hown hlocks hml hnm hR hQ hA hl hP hK hN hD hS
  have hg : ∀ w ∈ gw, w.before args s = true := fun w h => hts w (List.mem_cons_of_mem _ h)
  have hown : s.vm.findClass "RangeCodersModel" = some m.cls := hown
  have hl : lv_has ls 6 [(0, Value.ref o), (1, Value.int (nI tt))] := hl
  have J_15 : ∀ (r9 : Int64) (hr9 : r9 = lN (RR / tt)) (H : Heap) (locs : List Loc) (ls : Array Slot), va_P (dC, dI) vwCl [(o, Sum.inr (9, mO g 1 fShift fModels fItems fEnded fLow fRange fCache fPend fGoes fOuts fIns fReads fBad fIR fAsk fBAsk (lN CD) (lN L) (lN RR) fX fWrites fThrown))] H → va_D A [(o, Sum.inr (9, mO g 1 fShift fModels fItems fEnded fLow fRange fCache fPend fGoes fOuts fIns fReads fBad fIR fAsk fBAsk (lN CD) (lN L) (lN RR) fX fWrites fThrown))] → va_S A s.heap H locs → lv_has ls 6 [(0, Value.ref o), (1, Value.int (nI tt))] → W p l e R s m args below meth c H locs 0 0 Q (F0 m 15 ls [Value.long r9]) := by
    intro r9 hr9 H locs ls hP hD hS hl
    have hd5 : RR / tt ≤ RR := Nat.div_le_self _ _
    refine lv_lstore_n (lv' := [(2, Value.long r9), (0, Value.ref o), (1, Value.int (nI tt))]) hx hb d_M_wanted_15 rfl hl (by decide) rfl (fun ls hl => ?_)
    refine lv_lload_n hx hb d_M_wanted_16 rfl (lv_at hl 0 rfl) ?_
    refine lv_lconst (v := 0) hx hb d_M_wanted_17 (by decide) ?_
    refine W.lcmp hx hb d_M_wanted_18 ?_
    refine lv_if_ne (tgt := 26) hx hb d_M_wanted_19 (by decide) (fun c_1 => ?_) (fun c_1 => ?_)
    · rw [lg_cmp_eq] at c_1
      have hnz : ¬ RR / tt = 0 := fun z => c_1 (by rw [hr9, z]; rfl)
      have hxl : ((CD + 4294967296 - L) % 4294967296) / (RR / tt) ≤ ((CD + 4294967296 - L) % 4294967296) := Nat.div_le_self _ _
      have hx32 : ((CD + 4294967296 - L) % 4294967296) < 4294967296 := Nat.mod_lt _ (by decide)
      refine lv_aload_n hx hb d_M_wanted_26 rfl (lv_at hl 1 rfl) ?_
      refine va_get (D := (dC, dI)) (ci := 9) (v := .int 1) (C := "RangeCodersModel") (T := T_M) (N := 35) hx hb hg in_M hown hK hP 0 rfl rfl 0 (by decide) (hg _ k952) (fun _ h9 => h9) rfl d_M_wanted_27 ?_
      refine lv_if_ne (tgt := 40) hx hb d_M_wanted_30 (by decide) (fun c_2 => ?_) (fun c_2 => ?_)
      · refine lv_aload_n hx hb d_M_wanted_40 rfl (lv_at hl 1 rfl) ?_
        refine va_get (D := (dC, dI)) (ci := 9) (v := .long (lN CD)) (C := "RangeCodersModel") (T := T_M) (N := 35) hx hb hg in_M hown hK hP 0 rfl rfl 26 (by decide) (hg _ k978) (fun _ h9 => h9) rfl d_M_wanted_41 ?_
        refine lv_aload_n hx hb d_M_wanted_44 rfl (lv_at hl 1 rfl) ?_
        refine va_get (D := (dC, dI)) (ci := 9) (v := .long (lN L)) (C := "RangeCodersModel") (T := T_M) (N := 35) hx hb hg in_M hown hK hP 0 rfl rfl 27 (by decide) (hg _ k979) (fun _ h9 => h9) rfl d_M_wanted_45 ?_
        refine lv_lsub hx hb d_M_wanted_48 ?_
        refine lv_topl (fun v_3 ev_3 => ?_)
        refine lv_ldc2 (v := 4294967295) hx hb hown (hg _ k927) d_M_wanted_49 ?_
        refine lv_land hx hb d_M_wanted_52 ?_
        refine lv_topl (fun v_4 ev_4 => ?_)
        refine lv_lload_n hx hb d_M_wanted_53 rfl (lv_at hl 0 rfl) ?_
        refine lv_ldiv hx hb d_M_wanted_54 (by rw [hr9]; intro z; exact hnz ((pk_lEQ (b := 0) (by omega) (by decide)).mp z)) ?_
        refine lv_topl (fun v_5 ev_5 => ?_)
        have z9 : v_5 = lN (((CD + 4294967296 - L) % 4294967296) / (RR / tt)) := by subst_vars; rw [L_sub32 hC hLl]; exact pk_lDiv (by omega) (Nat.pos_of_ne_zero hnz) (by omega)
        subst z9
        refine lv_lstore (lv' := [(4, Value.long (lN (((CD + 4294967296 - L) % 4294967296) / (RR / tt)))), (2, Value.long r9), (0, Value.ref o), (1, Value.int (nI tt))]) hx hb d_M_wanted_55 hl (by decide) rfl (fun ls hl => ?_)
        refine lv_lload hx hb d_M_wanted_57 (lv_at hl 0 rfl) ?_
        refine lv_iload_n hx hb d_M_wanted_59 rfl (lv_at hl 3 rfl) ?_
        refine lv_i2l hx hb d_M_wanted_60 rfl ?_
        refine lv_topl (fun v_6 ev_6 => ?_)
        refine W.lcmp hx hb d_M_wanted_61 ?_
        refine lv_if_ge (tgt := 70) hx hb d_M_wanted_62 (by decide) (fun c_7 => ?_) (fun c_7 => ?_)
        · rw [lg_cmp_ge] at c_7
          have hge : ¬ ((CD + 4294967296 - L) % 4294967296) / (RR / tt) < tt := by
            have hc9 := c_7
            subst_vars
            rw [nI_l (by omega)] at hc9
            have := (L_le (by omega) (by omega)).mp hc9
            omega
          refine lv_ldc2 (v := (-1)) hx hb hown (hg _ k1214) d_M_wanted_70 ?_
          exact my_lret (v := (-1)) hx hb hr hlocks hQ hK hS (Nat.le_refl _) (Nat.le_refl _) () (by unfold wnt; rw [if_neg hnz, if_neg hge]; rfl) (hP.sub [0] rfl) (hD.sub [0] (by decide +kernel) rfl) d_M_wanted_73
        · rw [lg_cmp_ge] at c_7
          have hlt : ((CD + 4294967296 - L) % 4294967296) / (RR / tt) < tt := by
            have hc9 := c_7
            rcases Nat.lt_or_ge (((CD + 4294967296 - L) % 4294967296) / (RR / tt)) tt with z | z
            · exact z
            · subst_vars
              rw [nI_l (by omega)] at hc9
              exact absurd ((L_le (by omega) (by omega)).mpr z) hc9
          refine lv_lload hx hb d_M_wanted_65 (lv_at hl 0 rfl) ?_
          refine lv_goto (tgt := 73) hx hb d_M_wanted_67 (by decide) ?_
          exact my_lret (v := (lN (((CD + 4294967296 - L) % 4294967296) / (RR / tt)))) hx hb hr hlocks hQ hK hS (Nat.le_refl _) (Nat.le_refl _) () (by unfold wnt; rw [if_neg hnz, if_pos hlt]; rfl) (hP.sub [0] rfl) (hD.sub [0] (by decide +kernel) rfl) d_M_wanted_73
      · exact absurd c_2 (by decide)
    · rw [lg_cmp_eq] at c_1
      have hz : RR / tt = 0 := (pk_lEQ (b := 0) (by omega) (by decide)).mp (by rw [← hr9]; exact c_1)
      refine lv_ldc2 (v := (-1)) hx hb hown (hg _ k1214) d_M_wanted_22 ?_
      exact my_lret (v := (-1)) hx hb hr hlocks hQ hK hS (Nat.le_refl _) (Nat.le_refl _) () (by unfold wnt; rw [if_pos hz]; rfl) (hP.sub [0] rfl) (hD.sub [0] (by decide +kernel) rfl) d_M_wanted_25
  refine lv_iload_n hx hb d_M_wanted_0 rfl (lv_at hl 1 rfl) ?_
  refine lv_if_ne (tgt := 8) hx hb d_M_wanted_1 (by decide) (fun c_8 => ?_) (fun c_8 => ?_)
  · have htp : 0 < tt := by
      rcases Nat.eq_zero_or_pos tt with z | z
      · exact absurd (by rw [z]; rfl) c_8
      · exact z
    refine lv_aload_n hx hb d_M_wanted_8 rfl (lv_at hl 0 rfl) ?_
    refine va_get (D := (dC, dI)) (ci := 9) (v := .long (lN RR)) (C := "RangeCodersModel") (T := T_M) (N := 35) hx hb hg in_M hown hK hP 0 rfl rfl 28 (by decide) (hg _ k980) (fun _ h9 => h9) rfl d_M_wanted_9 ?_
    refine lv_iload_n hx hb d_M_wanted_12 rfl (lv_at hl 1 rfl) ?_
    refine lv_i2l hx hb d_M_wanted_13 rfl ?_
    refine lv_topl (fun v_9 ev_9 => ?_)
    refine lv_ldiv hx hb d_M_wanted_14 (by subst_vars; rw [nI_l (by omega)]; intro z; have := (pk_lEQ (b := 0) (by omega) (by decide)).mp z; omega) ?_
    refine lv_topl (fun v_10 ev_10 => ?_)
    exact J_15 v_10 (by subst_vars; rw [nI_l (by omega)]; exact pk_lDiv (by omega) htp (by omega)) H locs ls (hP.sub [0] rfl) (hD.sub [0] (by decide +kernel) rfl) hS (lv_sub hl [0, 1] rfl)
  · have htz : tt = 0 := (nI_eq (b := 0) (by omega) (by decide)).mp c_8
    refine lv_lconst (v := 0) hx hb d_M_wanted_4 (by decide) ?_
    refine lv_goto (tgt := 15) hx hb d_M_wanted_5 (by decide) ?_
    exact J_15 0 (by rw [htz, Nat.div_zero]; rfl) H locs ls (hP.sub [0] rfl) (hD.sub [0] (by decide +kernel) rfl) hS (lv_sub hl [0, 1] rfl)

