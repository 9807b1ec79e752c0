set_option maxHeartbeats 1000000 in
set_option maxRecDepth 100000 in
/-- isSign -/
theorem c_M_isSign (l : Launch) (dC : Nat → ClassId) (dI : Nat → Nat → Nat) (cI cM cO : ClassId) (sz : Nat) (o : Nat) (g : Nat → Nat) (fForm : Int32) (fShift : Int32) (fModels : Int32) (fItems : Int32) (fEnded : Int32) (fLow : Int64) (fRange : Int64) (fCache : Int32) (fPend : Int32) (fGoes : Int32) (fOuts : Int32) (fIns : Int32) (fReads : Int32) (fBad : Int32) (fIR : Int32) (fAsk : Int32) (fBAsk : Int32) (fCode : Int64) (fRL : Int64) (fRR : Int64) (fX : Int64) (fWrites : Int32) (fThrown : Int32) (vMany : Nat → Int32) (km : Nat) (p1 : Int32) (p2 : Int32) (hkm : km ≤ 8) (hmod : fModels = nI km) : MetI l y_M_isSign (Cond.code y_M_isSign prog_14_method_5_code 3 (some .boolean) :: gw) ({ frames := 2, cells := 0, slots := 0, locals := 43 } : Room) (dC, dI) vwCl (kT cI cM cO) [Value.ref o, Value.int p1, Value.int p2] [(o, Sum.inr (9, mO g fForm fShift fModels fItems fEnded fLow fRange fCache fPend fGoes fOuts fIns fReads fBad fIR fAsk fBAsk fCode fRL fRR fX fWrites fThrown)), ((g 0), Sum.inl (cI, 8, Sum.inl vMany))] sz (fun (r : Int32) (u : Unit) => r = if isN km p1 ∧ (0 ≤ p2 ∧ p2 ≤ vMany p1.toNatClampNeg - 1) then 1 else 0) (fun (u : Unit) => [(o, Sum.inr (9, mO g fForm fShift fModels fItems fEnded fLow fRange fCache fPend fGoes fOuts fIns fReads fBad fIR fAsk fBAsk fCode fRL fRR fX fWrites fThrown)), ((g 0), Sum.inl (cI, 8, Sum.inl vMany))]) 0 0 := by
  refine my_ofI (cc := prog_14_method_5_code) (n := 3) (ret := (some .boolean)) (by decide) rfl (Nat.le_of_ble_eq_true rfl) ?_
  intro p e s m args below meth c R Q A ls H locs hx hb hr hts hown hlocks hml hnm hR hQ hA hl hP hK hN hD hS
  have hg : ∀ w ∈ gw, w.before args s = true := fun w h => hts w (List.mem_cons_of_mem _ h)
  have hown : s.vm.findClass "RangeCodersModel" = some m.cls := hown
  have hl : lv_has ls 3 [(0, Value.ref o), (1, Value.int p1), (2, Value.int p2)] := hl
  have hm9 : ∀ r : Int32, (r = if 0 ≤ p1 ∧ p1 ≤ fModels - 1 then 1 else 0) → (¬ r = 0 ↔ isN km p1) := fun r h => by
    rw [hmod] at h
    exact ⟨fun c => one_ne h c, fun q c => one_eq h c q⟩
  refine lv_aload_n hx hb d_M_isSign_0 rfl (lv_at hl 0 rfl) ?_
  refine lv_iload_n hx hb d_M_isSign_1 rfl (lv_at hl 1 rfl) ?_
  refine my_ci (wr := [((g 0), Sum.inl (cI, 8, Sum.inl vMany))]) (va_runV (As := [Value.int p1]) (rest := []) ⟨hx, hb, hml, hown, hts⟩ (c_M_isModel l dC dI cI cM cO H.size o g fForm fShift fModels fItems fEnded fLow fRange fCache fPend fGoes fOuts fIns fReads fBad fIR fAsk fBAsk fCode fRL fRR fX fWrites fThrown p1) (cwV 1 hts (my_gV k1073 k1075 ks26 k12 k1076) rfl rfl rfl (by decide +kernel) ⟨by rw [hR]; exact Nat.le_of_ble_eq_true rfl, by rw [hR]; exact Nat.le_of_ble_eq_true rfl⟩) (my_preV hK hN (hP.sub [0] rfl) (hD.sub [0] (by decide +kernel) rfl) 0 rfl rfl) rfl rfl hl.1 rfl (lv_room (Nat.le_of_ble_eq_true rfl)) d_M_isSign_2 ⟨by rw [hR]; exact Nat.le_of_ble_eq_true rfl, by rw [hR]; exact Nat.le_of_ble_eq_true rfl⟩) hP hD hS hA [0] [1] rfl rfl (by decide +kernel) (by decide +kernel) (fun r_2 u9 H locs hw_2 hP hD hS => ?_)
  have hw_2 : r_2 = if 0 ≤ p1 ∧ p1 ≤ fModels - 1 then 1 else 0 := hw_2
  have hP : va_P (dC, dI) vwCl [((g 0), Sum.inl (cI, 8, Sum.inl vMany)), (o, Sum.inr (9, mO g fForm fShift fModels fItems fEnded fLow fRange fCache fPend fGoes fOuts fIns fReads fBad fIR fAsk fBAsk fCode fRL fRR fX fWrites fThrown))] H := hP
  have hD : va_D A [((g 0), Sum.inl (cI, 8, Sum.inl vMany)), (o, Sum.inr (9, mO g fForm fShift fModels fItems fEnded fLow fRange fCache fPend fGoes fOuts fIns fReads fBad fIR fAsk fBAsk fCode fRL fRR fX fWrites fThrown))] := hD
  refine lv_if_eq (tgt := 28) hx hb d_M_isSign_5 (by decide) (fun c_1 => ?_) (fun c_1 => ?_)
  · refine lv_iconst (v := 0) hx hb d_M_isSign_28 (by decide) ?_
    exact my_iret (v := 0) hx hb hr (rfl) hlocks hQ hK hS (Nat.le_refl _) (Nat.le_refl _) () (by rw [if_neg (fun h => absurd ((hm9 _ hw_2).mpr h.1) (fun q => q c_1))]) (hP.sub [1, 0] rfl) (hD.sub [1, 0] (by decide +kernel) rfl) d_M_isSign_29
  · have hi1 := (hm9 _ hw_2).mp c_1
    obtain ⟨j1, hj1, ej1⟩ := (isN_iff (by omega)).mp hi1
    refine lv_iload_n hx hb d_M_isSign_8 rfl (lv_at hl 2 rfl) ?_
    refine lv_iconst (v := 0) hx hb d_M_isSign_9 (by decide) ?_
    refine lv_aload_n hx hb d_M_isSign_10 rfl (lv_at hl 0 rfl) ?_
    refine va_get (D := (dC, dI)) (ci := 9) (v := .ref (g 0)) (C := "RangeCodersModel") (T := T_M) (N := 35) hx hb hg in_M hown hK hP 1 rfl rfl 3 (by decide) (hg _ k955) (fun _ h9 => h9) rfl d_M_isSign_11 ?_
    refine lv_iload_n hx hb d_M_isSign_14 rfl (lv_at hl 1 rfl) ?_
    refine va_iald hx hb hK hP 0 0 rfl rfl (by rw [ej1]; exact vp_in_nI (by omega) (by decide)) d_M_isSign_15 ?_
    refine lv_topi (fun v_2 ev_2 => ?_)
    refine lv_iconst (v := 1) hx hb d_M_isSign_16 (by decide) ?_
    refine lv_isub hx hb d_M_isSign_17 ?_
    refine lv_topi (fun v_3 ev_3 => ?_)
    have e18 : v_3 = vMany p1.toNatClampNeg - 1 := by subst_vars; rfl
    refine my_ci (wr := [((g 0), Sum.inl (cI, 8, Sum.inl vMany)), (o, Sum.inr (9, mO g fForm fShift fModels fItems fEnded fLow fRange fCache fPend fGoes fOuts fIns fReads fBad fIR fAsk fBAsk fCode fRL fRR fX fWrites fThrown))]) (va_runS (As := [Value.int p2, Value.int 0, Value.int v_3]) (rest := []) ⟨hx, hb, hml, hown, hts⟩ (c_M_in l dC dI cI cM cO H.size p2 0 v_3) (cwS 3 hts (my_gS k1062 k1063 k12 k1064) rfl rfl rfl (by decide +kernel) ⟨by rw [hR]; exact Nat.le_of_ble_eq_true rfl, by rw [hR]; exact Nat.le_of_ble_eq_true rfl⟩) (my_pre hK hN (hP.sub [] rfl) (hD.sub [] (by decide +kernel) rfl)) rfl rfl hl.1 rfl (lv_room (Nat.le_of_ble_eq_true rfl)) d_M_isSign_18 ⟨by rw [hR]; exact Nat.le_of_ble_eq_true rfl, by rw [hR]; exact Nat.le_of_ble_eq_true rfl⟩) hP hD hS hA [] [0, 1] rfl rfl (by decide +kernel) (by decide +kernel) (fun r_18 u9 H locs hw_18 hP hD hS => ?_)
    have hw_18 : r_18 = if 0 ≤ p2 ∧ p2 ≤ v_3 then 1 else 0 := hw_18
    have hP : va_P (dC, dI) vwCl [((g 0), Sum.inl (cI, 8, Sum.inl vMany)), (o, Sum.inr (9, mO g fForm fShift fModels fItems fEnded fLow fRange fCache fPend fGoes fOuts fIns fReads fBad fIR fAsk fBAsk fCode fRL fRR fX fWrites fThrown))] H := hP
    have hD : va_D A [((g 0), Sum.inl (cI, 8, Sum.inl vMany)), (o, Sum.inr (9, mO g fForm fShift fModels fItems fEnded fLow fRange fCache fPend fGoes fOuts fIns fReads fBad fIR fAsk fBAsk fCode fRL fRR fX fWrites fThrown))] := hD
    rw [e18] at hw_18
    refine lv_if_eq (tgt := 28) hx hb d_M_isSign_21 (by decide) (fun c_4 => ?_) (fun c_4 => ?_)
    · refine lv_iconst (v := 0) hx hb d_M_isSign_28 (by decide) ?_
      exact my_iret (v := 0) hx hb hr (rfl) hlocks hQ hK hS (Nat.le_refl _) (Nat.le_refl _) () (by rw [if_neg (fun h => one_eq hw_18 c_4 h.2)]) (hP.sub [1, 0] rfl) (hD.sub [1, 0] (by decide +kernel) rfl) d_M_isSign_29
    · refine lv_iconst (v := 1) hx hb d_M_isSign_24 (by decide) ?_
      refine lv_goto (tgt := 29) hx hb d_M_isSign_25 (by decide) ?_
      exact my_iret (v := 1) hx hb hr (rfl) hlocks hQ hK hS (Nat.le_refl _) (Nat.le_refl _) () (by rw [if_pos ⟨hi1, one_ne hw_18 c_4⟩]) (hP.sub [1, 0] rfl) (hD.sub [1, 0] (by decide +kernel) rfl) d_M_isSign_29
set_option maxHeartbeats 1000000 in
set_option maxRecDepth 100000 in
/-- levels -/
theorem c_M_levels (l : Launch) (dC : Nat → ClassId) (dI : Nat → Nat → Nat) (cI cM cO : ClassId) (sz : Nat) (o : Nat) (g : Nat → Nat) (fForm : Int32) (fShift : Int32) (fModels : Int32) (fItems : Int32) (fEnded : Int32) (fLow : Int64) (fRange : Int64) (fCache : Int32) (fPend : Int32) (fGoes : Int32) (fOuts : Int32) (fIns : Int32) (fReads : Int32) (fBad : Int32) (fIR : Int32) (fAsk : Int32) (fBAsk : Int32) (fCode : Int64) (fRL : Int64) (fRR : Int64) (fX : Int64) (fWrites : Int32) (fThrown : Int32) (vMany : Nat → Int32) (mm : Nat) (n : Nat) (hmm : mm < 8) (hn : vMany mm = nI n) (hn2 : n ≤ 64) : MetI l y_M_levels (Cond.code y_M_levels prog_14_method_6_code 3 (some .int) :: gw) ({ frames := 0, cells := 0, slots := 0, locals := 0 } : Room) (dC, dI) vwCl (kT cI cM cO) [Value.ref o, Value.int (nI mm)] [(o, Sum.inr (9, mO g fForm fShift fModels fItems fEnded fLow fRange fCache fPend fGoes fOuts fIns fReads fBad fIR fAsk fBAsk fCode fRL fRR fX fWrites fThrown)), ((g 0), Sum.inl (cI, 8, Sum.inl vMany))] sz (fun (r : Int32) (u : Unit) => r = nI (lev n)) (fun (u : Unit) => [(o, Sum.inr (9, mO g fForm fShift fModels fItems fEnded fLow fRange fCache fPend fGoes fOuts fIns fReads fBad fIR fAsk fBAsk fCode fRL fRR fX fWrites fThrown)), ((g 0), Sum.inl (cI, 8, Sum.inl vMany))]) 0 0 := by
  refine my_ofI (cc := prog_14_method_6_code) (n := 3) (ret := (some .int)) (by decide) rfl (Nat.le_of_ble_eq_true rfl) ?_
  intro p e s m args below meth c R Q A ls H locs hx hb hr hts hown hlocks hml hnm hR hQ hA hl hP hK hN hD hS
  have hg : ∀ w ∈ gw, w.before args s = true := fun w h => hts w (List.mem_cons_of_mem _ h)
  have hown : s.vm.findClass "RangeCodersModel" = some m.cls := hown
  have hl : lv_has ls 3 [(0, Value.ref o), (1, Value.int (nI mm))] := hl
  refine lv_iconst (v := 0) hx hb d_M_levels_0 (by decide) ?_
  refine lv_istore_n (lv' := [(2, Value.int 0), (0, Value.ref o), (1, Value.int (nI mm))]) hx hb d_M_levels_1 rfl hl (by decide) rfl (fun ls hl => ?_)
  have J_2 : ∀ (n9_2 : Nat) (i9 : Int32) (j : Nat) (hn9_2 : 6 - j = n9_2) (hi : i9 = nI j) (hj : j ≤ 6) (hq : 0 < j → 2 ^ (j - 1) < n) (H : Heap) (locs : List Loc) (ls : Array Slot), va_P (dC, dI) vwCl [(o, Sum.inr (9, mO g fForm fShift fModels fItems fEnded fLow fRange fCache fPend fGoes fOuts fIns fReads fBad fIR fAsk fBAsk fCode fRL fRR fX fWrites fThrown)), ((g 0), Sum.inl (cI, 8, Sum.inl vMany))] H → va_D A [(o, Sum.inr (9, mO g fForm fShift fModels fItems fEnded fLow fRange fCache fPend fGoes fOuts fIns fReads fBad fIR fAsk fBAsk fCode fRL fRR fX fWrites fThrown)), ((g 0), Sum.inl (cI, 8, Sum.inl vMany))] → va_S A s.heap H locs → lv_has ls 3 [(2, Value.int i9), (0, Value.ref o), (1, Value.int (nI mm))] → W p l e R s m args below meth c H locs 0 0 Q (F0 m 2 ls []) := by
    intro n9_2
    induction n9_2 using Nat.strongRecOn with
    | ind n9_2 ih9_2 =>
      intro i9 j hn9_2 hi hj hq H locs ls hP hD hS hl
      refine lv_iconst (v := 1) hx hb d_M_levels_2 (by decide) ?_
      refine lv_iload_n hx hb d_M_levels_3 rfl (lv_at hl 0 rfl) ?_
      refine lv_ishl hx hb d_M_levels_4 ?_
      refine lv_topi (fun v_1 ev_1 => ?_)
      refine lv_aload_n hx hb d_M_levels_5 rfl (lv_at hl 1 rfl) ?_
      refine va_get (D := (dC, dI)) (ci := 9) (v := .ref (g 0)) (C := "RangeCodersModel") (T := T_M) (N := 35) hx hb hg in_M hown hK hP 0 rfl rfl 3 (by decide) (hg _ k955) (fun _ h9 => h9) rfl d_M_levels_6 ?_
      refine lv_iload_n hx hb d_M_levels_9 rfl (lv_at hl 2 rfl) ?_
      refine va_iald hx hb hK hP 1 0 rfl rfl (vp_in_nI hmm (by decide)) d_M_levels_10 ?_
      refine lv_topi (fun v_2 ev_2 => ?_)
      have hv9 : v_2 = nI n := by subst_vars; rw [nI_clamp (by omega)]; exact hn
      have hv8 : v_1 = nI (2 ^ j) := by subst_vars; exact shl1 j (by omega)
      have hp9 : 2 ^ j ≤ 2 ^ 6 := Nat.pow_le_pow_right (by decide) hj
      refine lv_icmp_ge (tgt := 20) hx hb d_M_levels_11 (by decide) (fun c_3 => ?_) (fun c_3 => ?_)
      · have hge : n ≤ 2 ^ j := by
          rw [hv9, hv8] at c_3
          exact (nI_cmp (by omega) (by omega)).mp c_3
        refine lv_iload_n hx hb d_M_levels_20 rfl (lv_at hl 0 rfl) ?_
        exact my_iret (v := i9) hx hb hr (rfl) hlocks hQ hK hS (Nat.le_refl _) (Nat.le_refl _) () (by rw [hi, lev_of hj hge hq]) (hP.sub [0, 1] rfl) (hD.sub [0, 1] (by decide +kernel) rfl) d_M_levels_21
      · have hlt : 2 ^ j < n := by
          rcases Nat.lt_or_ge (2 ^ j) n with q | q
          · exact q
          · exact absurd (by rw [hv9, hv8]; exact nI_le q (by omega)) c_3
        have hj6 : j < 6 := by
          rcases Nat.lt_or_ge j 6 with q | q
          · exact q
          · have e : j = 6 := by omega
            subst e; omega
        obtain ⟨v_4, ev_4⟩ : ∃ y : Int32, y = i9 + (1) := ⟨_, rfl⟩
        refine lv_iinc (v := v_4) (lv' := [(2, Value.int v_4), (0, Value.ref o), (1, Value.int (nI mm))]) hx hb d_M_levels_14 hl (k := 0) rfl (by rw [ev_4]; rfl) (by decide) rfl (fun ls hl => ?_)
        refine lv_goto (tgt := 2) hx hb d_M_levels_17 (by decide) ?_
        exact ih9_2 _ (by first | omega | (omega)) v_4 (j + 1) rfl (by subst_vars; exact nI_1 j) (by omega) (fun _ => hlt) H locs ls (hP.sub [0, 1] rfl) (hD.sub [0, 1] (by decide +kernel) rfl) hS (lv_sub hl [0, 1, 2] rfl)
  exact J_2 _ 0 0 rfl (rfl) (by decide) (fun h => absurd h (by decide)) H locs ls (hP.sub [0, 1] rfl) (hD.sub [0, 1] (by decide +kernel) rfl) hS (lv_sub hl [0, 1, 2] rfl)
set_option maxHeartbeats 1000000 in
set_option maxRecDepth 100000 in
/-- learn -/
theorem c_M_learn (l : Launch) (dC : Nat → ClassId) (dI : Nat → Nat → Nat) (cI cM cO : ClassId) (sz : Nat) (o : Nat) (g : Nat → Nat) (fForm : Int32) (fShift : Int32) (fModels : Int32) (fItems : Int32) (fEnded : Int32) (fLow : Int64) (fRange : Int64) (fCache : Int32) (fPend : Int32) (fGoes : Int32) (fOuts : Int32) (fIns : Int32) (fReads : Int32) (fBad : Int32) (fIR : Int32) (fAsk : Int32) (fBAsk : Int32) (fCode : Int64) (fRL : Int64) (fRR : Int64) (fX : Int64) (fWrites : Int32) (fThrown : Int32) (vMany : Nat → Int32) (a : Nat) (f : Nat → Int32) (mm : Nat) (n : Nat) (t : Nat) (F : Nat → Nat) (hmm : mm < 8) (hn : vMany mm = nI n) (hn2 : n ≤ 64) (ht : t < n) (hf : sgI f (64 * mm) n F) (hB : bd F n 100000) : MetV l y_M_learn (Cond.code y_M_learn prog_14_method_23_code 4 none :: gw) ({ frames := 1, cells := 0, slots := 0, locals := 24 } : Room) (dC, dI) vwCl (kT cI cM cO) [Value.ref o, Value.ref a, Value.int (nI mm), Value.int (nI t)] [(o, Sum.inr (9, mO g fForm fShift fModels fItems fEnded fLow fRange fCache fPend fGoes fOuts fIns fReads fBad fIR fAsk fBAsk fCode fRL fRR fX fWrites fThrown)), ((g 0), Sum.inl (cI, 8, Sum.inl vMany)), (a, Sum.inl (cI, 512, Sum.inl f))] sz (fun (u : (Nat → Int32)) => sgI u (64 * mm) n (lrn n t F) ∧ sgO u f (64 * mm) n) (fun (u : (Nat → Int32)) => [(o, Sum.inr (9, mO g fForm fShift fModels fItems fEnded fLow fRange fCache fPend fGoes fOuts fIns fReads fBad fIR fAsk fBAsk fCode fRL fRR fX fWrites fThrown)), ((g 0), Sum.inl (cI, 8, Sum.inl vMany)), (a, Sum.inl (cI, 512, Sum.inl u))]) 0 0 := by
  refine my_ofV (cc := prog_14_method_23_code) (n := 4) (ret := none) (by decide) rfl (Nat.le_of_ble_eq_true rfl) ?_
  intro p e s m args below meth c R Q A ls H locs hx hb hr hts hown hlocks hml hnm hR hQ hA hl hP hK hN hD hS
  have hg : ∀ w ∈ gw, w.before args s = true := fun w h => hts w (List.mem_cons_of_mem _ h)
  have hown : s.vm.findClass "RangeCodersModel" = some m.cls := hown
  have hl : lv_has ls 4 [(0, Value.ref o), (1, Value.ref a), (2, Value.int (nI mm)), (3, Value.int (nI t))] := hl
  refine lv_aload_n hx hb d_M_learn_0 rfl (lv_at hl 1 rfl) ?_
  refine lv_bipush (v := 64) hx hb d_M_learn_1 (by decide) ?_
  refine lv_iload_n hx hb d_M_learn_3 rfl (lv_at hl 2 rfl) ?_
  refine lv_imul hx hb d_M_learn_4 ?_
  refine lv_topi (fun v_1 ev_1 => ?_)
  refine lv_iload_n hx hb d_M_learn_5 rfl (lv_at hl 3 rfl) ?_
  refine lv_iadd hx hb d_M_learn_6 ?_
  refine lv_topi (fun v_2 ev_2 => ?_)
  have hix : v_2 = nI (64 * mm + t) := by subst_vars; exact ix64
  refine lv_aload_n hx hb d_M_learn_7 rfl (lv_at hl 1 rfl) ?_
  refine lv_bipush (v := 64) hx hb d_M_learn_8 (by decide) ?_
  refine lv_iload_n hx hb d_M_learn_10 rfl (lv_at hl 2 rfl) ?_
  refine lv_imul hx hb d_M_learn_11 ?_
  refine lv_topi (fun v_3 ev_3 => ?_)
  refine lv_iload_n hx hb d_M_learn_12 rfl (lv_at hl 3 rfl) ?_
  refine lv_iadd hx hb d_M_learn_13 ?_
  refine lv_topi (fun v_4 ev_4 => ?_)
  have hix2 : v_4 = nI (64 * mm + t) := by subst_vars; exact ix64
  refine va_iald hx hb hK hP 2 0 rfl rfl (by rw [hix2]; exact vp_in_nI (by omega) (by decide)) d_M_learn_14 ?_
  refine lv_topi (fun v_5 ev_5 => ?_)
  refine lv_bipush (v := 32) hx hb d_M_learn_15 (by decide) ?_
  refine lv_iadd hx hb d_M_learn_17 ?_
  refine lv_topi (fun v_6 ev_6 => ?_)
  have hval : v_6 = nI (F t + 32) := by
    subst_vars
    rw [nI_clamp (by omega), hf t ht]
    exact nI_add (F t) 32
  refine va_iast hx hb hK hP hD hS 2 0 rfl rfl (by rw [hix]; exact vp_in_nI (by omega) (by decide)) d_M_learn_18 (fun H locs hP hD hS => ?_)
  have hP : va_P (dC, dI) vwCl [(o, Sum.inr (9, mO g fForm fShift fModels fItems fEnded fLow fRange fCache fPend fGoes fOuts fIns fReads fBad fIR fAsk fBAsk fCode fRL fRR fX fWrites fThrown)), ((g 0), Sum.inl (cI, 8, Sum.inl vMany)), (a, Sum.inl (cI, 512, Sum.inl (upd f v_2.toNatClampNeg v_6)))] H := hP
  have hD : va_D A [(o, Sum.inr (9, mO g fForm fShift fModels fItems fEnded fLow fRange fCache fPend fGoes fOuts fIns fReads fBad fIR fAsk fBAsk fCode fRL fRR fX fWrites fThrown)), ((g 0), Sum.inl (cI, 8, Sum.inl vMany)), (a, Sum.inl (cI, 512, Sum.inl (upd f v_2.toNatClampNeg v_6)))] := hD
  have hU := sg_up hf ht (show (v_2).toNatClampNeg = 64 * mm + t by rw [hix]; exact nI_clamp (by omega)) hval
  have hb9 : bd (upN F t (F t + 32)) n 1000000 := fun k hk => by
    have h1 := hB k hk
    by_cases e : k = t
    · subst e; rw [upN_s]; omega
    · rw [upN_n _ e]; omega
  have hs9 := ns_le64 hn2 hb9
  refine lv_aload_n hx hb d_M_learn_19 rfl (lv_at hl 0 rfl) ?_
  refine lv_aload_n hx hb d_M_learn_20 rfl (lv_at hl 1 rfl) ?_
  refine lv_iload_n hx hb d_M_learn_21 rfl (lv_at hl 2 rfl) ?_
  refine my_ci (wr := []) (va_runV (As := [Value.ref a, Value.int (nI mm)]) (rest := []) ⟨hx, hb, hml, hown, hts⟩ (c_M_sum l dC dI cI cM cO H.size o g fForm fShift fModels fItems fEnded fLow fRange fCache fPend fGoes fOuts fIns fReads fBad fIR fAsk fBAsk fCode fRL fRR fX fWrites fThrown vMany a (upd f v_2.toNatClampNeg v_6) mm n (upN F t (F t + 32)) (by assumption) (by assumption) (by assumption) (hU.1)) (cwV 2 hts (my_gV k936 k938 ks21 k12 k939) rfl rfl rfl (by decide +kernel) ⟨by rw [hR]; exact Nat.le_of_ble_eq_true rfl, by rw [hR]; exact Nat.le_of_ble_eq_true rfl⟩) (my_preV hK hN (hP.sub [0, 1, 2] rfl) (hD.sub [0, 1, 2] (by decide +kernel) rfl) 0 rfl rfl) rfl rfl hl.1 rfl (lv_room (Nat.le_of_ble_eq_true rfl)) d_M_learn_22 ⟨by rw [hR]; exact Nat.le_of_ble_eq_true rfl, by rw [hR]; exact Nat.le_of_ble_eq_true rfl⟩) hP hD hS hA [0, 1, 2] [] rfl rfl (by decide +kernel) (by decide +kernel) (fun r_22 u9 H locs hw_22 hP hD hS => ?_)
  have hw_22 : r_22 = nI (ns (upN F t (F t + 32)) n) := hw_22
  have hP : va_P (dC, dI) vwCl [(o, Sum.inr (9, mO g fForm fShift fModels fItems fEnded fLow fRange fCache fPend fGoes fOuts fIns fReads fBad fIR fAsk fBAsk fCode fRL fRR fX fWrites fThrown)), ((g 0), Sum.inl (cI, 8, Sum.inl vMany)), (a, Sum.inl (cI, 512, Sum.inl (upd f v_2.toNatClampNeg v_6)))] H := hP
  have hD : va_D A [(o, Sum.inr (9, mO g fForm fShift fModels fItems fEnded fLow fRange fCache fPend fGoes fOuts fIns fReads fBad fIR fAsk fBAsk fCode fRL fRR fX fWrites fThrown)), ((g 0), Sum.inl (cI, 8, Sum.inl vMany)), (a, Sum.inl (cI, 512, Sum.inl (upd f v_2.toNatClampNeg v_6)))] := hD
  refine lv_sipush (v := 8192) hx hb d_M_learn_25 (by decide) ?_
  refine lv_icmp_le (tgt := 37) hx hb d_M_learn_28 (by decide) (fun c_7 => ?_) (fun c_7 => ?_)
  · exact my_vret hx hb hr hlocks hQ hK hS (Nat.le_refl _) (Nat.le_refl _) (upd f v_2.toNatClampNeg v_6) (by unfold lrn; rw [if_pos (by rw [hw_22] at c_7; exact (nI_cmp (b := 8192) (by omega) (by decide)).mp c_7)]; exact hU) (hP.sub [0, 1, 2] rfl) (hD.sub [0, 1, 2] (by decide +kernel) rfl) d_M_learn_37
  · have hgt : ¬ ns (upN F t (F t + 32)) n ≤ 8192 := fun q => absurd (show r_22 ≤ 8192 by rw [hw_22]; exact nI_le (b := 8192) q (by decide)) c_7
    refine lv_aload_n hx hb d_M_learn_31 rfl (lv_at hl 0 rfl) ?_
    refine lv_aload_n hx hb d_M_learn_32 rfl (lv_at hl 1 rfl) ?_
    refine lv_iload_n hx hb d_M_learn_33 rfl (lv_at hl 2 rfl) ?_
    refine my_cv (wr := []) (va_runV (As := [Value.ref a, Value.int (nI mm)]) (rest := []) ⟨hx, hb, hml, hown, hts⟩ (c_M_halve l dC dI cI cM cO H.size o g fForm fShift fModels fItems fEnded fLow fRange fCache fPend fGoes fOuts fIns fReads fBad fIR fAsk fBAsk fCode fRL fRR fX fWrites fThrown vMany a (upd f v_2.toNatClampNeg v_6) mm n (upN F t (F t + 32)) (by assumption) (by assumption) (by assumption) (hU.1) (hb9)) (cwV 2 hts (my_gV k940 k942 ks22 k12 k943) rfl rfl rfl (by decide +kernel) ⟨by rw [hR]; exact Nat.le_of_ble_eq_true rfl, by rw [hR]; exact Nat.le_of_ble_eq_true rfl⟩) (my_preV hK hN (hP.sub [0, 1, 2] rfl) (hD.sub [0, 1, 2] (by decide +kernel) rfl) 0 rfl rfl) rfl rfl hl.1 rfl (lv_room (Nat.le_of_ble_eq_true rfl)) d_M_learn_34 ⟨by rw [hR]; exact Nat.le_of_ble_eq_true rfl, by rw [hR]; exact Nat.le_of_ble_eq_true rfl⟩) hP hD hS hA [0, 1, 2] [] rfl rfl (by decide +kernel) (by decide +kernel) (fun u9 H locs hw_34 hP hD hS => ?_)
    obtain ⟨f2_34, rfl⟩ : ∃ z, z = u9 := ⟨_, rfl⟩
    have hw_34 : sgI f2_34 (64 * mm) n (hv (upN F t (F t + 32))) ∧ sgO f2_34 (upd f v_2.toNatClampNeg v_6) (64 * mm) n := hw_34
    have hP : va_P (dC, dI) vwCl [(o, Sum.inr (9, mO g fForm fShift fModels fItems fEnded fLow fRange fCache fPend fGoes fOuts fIns fReads fBad fIR fAsk fBAsk fCode fRL fRR fX fWrites fThrown)), ((g 0), Sum.inl (cI, 8, Sum.inl vMany)), (a, Sum.inl (cI, 512, Sum.inl f2_34))] H := hP
    have hD : va_D A [(o, Sum.inr (9, mO g fForm fShift fModels fItems fEnded fLow fRange fCache fPend fGoes fOuts fIns fReads fBad fIR fAsk fBAsk fCode fRL fRR fX fWrites fThrown)), ((g 0), Sum.inl (cI, 8, Sum.inl vMany)), (a, Sum.inl (cI, 512, Sum.inl f2_34))] := hD
    exact my_vret hx hb hr hlocks hQ hK hS (Nat.le_refl _) (Nat.le_refl _) f2_34 (by unfold lrn; rw [if_neg hgt]; exact ⟨hw_34.1, sgO_tr hw_34.2 hU.2⟩) (hP.sub [0, 1, 2] rfl) (hD.sub [0, 1, 2] (by decide +kernel) rfl) d_M_learn_37

