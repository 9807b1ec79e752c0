set_option maxHeartbeats 1000000 in
set_option maxRecDepth 100000 in
/-- in -/
theorem c_M_in (l : Launch) (dC : Nat → ClassId) (dI : Nat → Nat → Nat) (cI cM cO : ClassId) (sz : Nat) (v : Int32) (a : Int32) (b : Int32) : MetI l y_M_in (Cond.code y_M_in prog_14_method_3_code 3 (some .boolean) :: gw) ({ frames := 0, cells := 0, slots := 0, locals := 0 } : Room) (dC, dI) vwCl (kT cI cM cO) [Value.int v, Value.int a, Value.int b] [] sz (fun (r : Int32) (u : Unit) => r = if a ≤ v ∧ v ≤ b then 1 else 0) (fun (u : Unit) => []) 0 0 := by
  refine my_ofI (cc := prog_14_method_3_code) (n := 3) (ret := (some .boolean)) (by decide) rfl (Nat.le_of_ble_eq_true rfl) ?_
  intro p e s m args below meth c R Q A ls H locs hx hb hr hts hown hlocks hml hnm hR hQ hA hl hP hK hN hD hS
  have hg : ∀ w ∈ gw, w.before args s = true := fun w h => hts w (List.mem_cons_of_mem _ h)
  have hown : s.vm.findClass "RangeCodersModel" = some m.cls := hown
  have hl : lv_has ls 3 [(0, Value.int v), (1, Value.int a), (2, Value.int b)] := hl
  refine lv_iload_n hx hb d_M_in_0 rfl (lv_at hl 0 rfl) ?_
  refine lv_iload_n hx hb d_M_in_1 rfl (lv_at hl 1 rfl) ?_
  refine lv_icmp_lt (tgt := 14) hx hb d_M_in_2 (by decide) (fun c_1 => ?_) (fun c_1 => ?_)
  · refine lv_iconst (v := 0) hx hb d_M_in_14 (by decide) ?_
    exact my_iret (v := 0) hx hb hr (rfl) hlocks hQ hK hS (Nat.le_refl _) (Nat.le_refl _) () (by rw [if_neg (fun h => absurd c_1 (Int32.not_lt.mpr h.1))]) (hP.sub [] rfl) (hD.sub [] (by decide +kernel) rfl) d_M_in_15
  · refine lv_iload_n hx hb d_M_in_5 rfl (lv_at hl 0 rfl) ?_
    refine lv_iload_n hx hb d_M_in_6 rfl (lv_at hl 2 rfl) ?_
    refine lv_icmp_gt (tgt := 14) hx hb d_M_in_7 (by decide) (fun c_2 => ?_) (fun c_2 => ?_)
    · refine lv_iconst (v := 0) hx hb d_M_in_14 (by decide) ?_
      exact my_iret (v := 0) hx hb hr (rfl) hlocks hQ hK hS (Nat.le_refl _) (Nat.le_refl _) () (by rw [if_neg (fun h => absurd c_2 (Int32.not_lt.mpr h.2))]) (hP.sub [] rfl) (hD.sub [] (by decide +kernel) rfl) d_M_in_15
    · refine lv_iconst (v := 1) hx hb d_M_in_10 (by decide) ?_
      refine lv_goto (tgt := 15) hx hb d_M_in_11 (by decide) ?_
      exact my_iret (v := 1) hx hb hr (rfl) hlocks hQ hK hS (Nat.le_refl _) (Nat.le_refl _) () (by rw [if_pos ⟨Int32.not_lt.mp c_1, Int32.not_lt.mp c_2⟩]) (hP.sub [] rfl) (hD.sub [] (by decide +kernel) rfl) d_M_in_15
set_option maxHeartbeats 1000000 in
set_option maxRecDepth 100000 in
theorem c_M_isModel (l : Launch) (dC : Nat → ClassId) (dI : Nat → Nat → Nat) (cI cM cO : ClassId) (sz : Nat) (o : Nat) (g : Nat → Nat) (fForm : Int32) (fShift : Int32) (fModels : Int32) (fItems : Int32) (fEnded : Int32) (fLow : Int64) (fRange : Int64) (fCache : Int32) (fPend : Int32) (fGoes : Int32) (fOuts : Int32) (fIns : Int32) (fReads : Int32) (fBad : Int32) (fIR : Int32) (fAsk : Int32) (fBAsk : Int32) (fCode : Int64) (fRL : Int64) (fRR : Int64) (fX : Int64) (fWrites : Int32) (fThrown : Int32) (p1 : Int32) : MetI l y_M_isModel (Cond.code y_M_isModel prog_14_method_4_code 2 (some .boolean) :: gw) ({ frames := 1, cells := 0, slots := 0, locals := 22 } : Room) (dC, dI) vwCl (kT cI cM cO) [Value.ref o, Value.int p1] [(o, Sum.inr (9, mO g fForm fShift fModels fItems fEnded fLow fRange fCache fPend fGoes fOuts fIns fReads fBad fIR fAsk fBAsk fCode fRL fRR fX fWrites fThrown))] sz (fun (r : Int32) (u : Unit) => r = if 0 ≤ p1 ∧ p1 ≤ fModels - 1 then 1 else 0) (fun (u : Unit) => [(o, Sum.inr (9, mO g fForm fShift fModels fItems fEnded fLow fRange fCache fPend fGoes fOuts fIns fReads fBad fIR fAsk fBAsk fCode fRL fRR fX fWrites fThrown))]) 0 0 := by
  refine my_ofI (cc := prog_14_method_4_code) (n := 2) (ret := (some .boolean)) (by decide) rfl (Nat.le_of_ble_eq_true rfl) ?_
  intro p e s m args below meth c R Q A ls H locs hx hb hr hts hown hlocks hml hnm hR hQ hA hl hP hK hN hD hS
  have hg : ∀ w ∈ gw, w.before args s = true := fun w h => hts w (List.mem_cons_of_mem _ h)
  have hown : s.vm.findClass "RangeCodersModel" = some m.cls := hown
  have hl : lv_has ls 2 [(0, Value.ref o), (1, Value.int p1)] := hl
  refine lv_iload_n hx hb d_M_isModel_0 rfl (lv_at hl 1 rfl) ?_
  refine lv_iconst (v := 0) hx hb d_M_isModel_1 (by decide) ?_
  refine lv_aload_n hx hb d_M_isModel_2 rfl (lv_at hl 0 rfl) ?_
  refine va_get (D := (dC, dI)) (ci := 9) (v := .int fModels) (C := "RangeCodersModel") (T := T_M) (N := 35) hx hb hg in_M hown hK hP 0 rfl rfl 2 (by decide) (hg _ k954) (fun _ h9 => h9) rfl d_M_isModel_3 ?_
  refine lv_iconst (v := 1) hx hb d_M_isModel_6 (by decide) ?_
  refine lv_isub hx hb d_M_isModel_7 ?_
  refine lv_topi (fun v_1 ev_1 => ?_)
  refine my_ci (wr := [(o, Sum.inr (9, mO g fForm fShift fModels fItems fEnded fLow fRange fCache fPend fGoes fOuts fIns fReads fBad fIR fAsk fBAsk fCode fRL fRR fX fWrites fThrown))]) (va_runS (As := [Value.int p1, Value.int 0, Value.int v_1]) (rest := []) ⟨hx, hb, hml, hown, hts⟩ (c_M_in l dC dI cI cM cO H.size p1 0 v_1) (cwS 3 hts (my_gS k1062 k1063 k12 k1064) rfl rfl rfl (by decide +kernel) ⟨by rw [hR]; exact Nat.le_of_ble_eq_true rfl, by rw [hR]; exact Nat.le_of_ble_eq_true rfl⟩) (my_pre hK hN (hP.sub [] rfl) (hD.sub [] (by decide +kernel) rfl)) rfl rfl hl.1 rfl (lv_room (Nat.le_of_ble_eq_true rfl)) d_M_isModel_8 ⟨by rw [hR]; exact Nat.le_of_ble_eq_true rfl, by rw [hR]; exact Nat.le_of_ble_eq_true rfl⟩) hP hD hS hA [] [0] rfl rfl (by decide +kernel) (by decide +kernel) (fun r_8 u9 H locs hw_8 hP hD hS => ?_)
  have hw_8 : r_8 = if 0 ≤ p1 ∧ p1 ≤ v_1 then 1 else 0 := hw_8
  have hP : va_P (dC, dI) vwCl [(o, Sum.inr (9, mO g fForm fShift fModels fItems fEnded fLow fRange fCache fPend fGoes fOuts fIns fReads fBad fIR fAsk fBAsk fCode fRL fRR fX fWrites fThrown))] H := hP
  have hD : va_D A [(o, Sum.inr (9, mO g fForm fShift fModels fItems fEnded fLow fRange fCache fPend fGoes fOuts fIns fReads fBad fIR fAsk fBAsk fCode fRL fRR fX fWrites fThrown))] := hD
  exact my_iret (v := r_8) hx hb hr (by subst_vars; split <;> rfl) hlocks hQ hK hS (Nat.le_refl _) (Nat.le_refl _) () (by subst_vars; assumption) (hP.sub [0] rfl) (hD.sub [0] (by decide +kernel) rfl) d_M_isModel_11
set_option maxHeartbeats 1000000 in
set_option maxRecDepth 100000 in
/-- sum -/
theorem c_M_sum (l : Launch) (dC : Nat → ClassId) (dI : Nat → Nat → Nat) (cI cM cO : ClassId) (sz : Nat) (o : Nat) (g : Nat → Nat) (fForm : Int32) (fShift : Int32) (fModels : Int32) (fItems : Int32) (fEnded : Int32) (fLow : Int64) (fRange : Int64) (fCache : Int32) (fPend : Int32) (fGoes : Int32) (fOuts : Int32) (fIns : Int32) (fReads : Int32) (fBad : Int32) (fIR : Int32) (fAsk : Int32) (fBAsk : Int32) (fCode : Int64) (fRL : Int64) (fRR : Int64) (fX : Int64) (fWrites : Int32) (fThrown : Int32) (vMany : Nat → Int32) (a : Nat) (f : Nat → Int32) (mm : Nat) (n : Nat) (F : Nat → Nat) (hmm : mm < 8) (hn : vMany mm = nI n) (hn2 : n ≤ 64) (hf : sgI f (64 * mm) n F) : MetI l y_M_sum (Cond.code y_M_sum prog_14_method_8_code 5 (some .int) :: gw) ({ frames := 0, cells := 0, slots := 0, locals := 0 } : Room) (dC, dI) vwCl (kT cI cM cO) [Value.ref o, Value.ref a, Value.int (nI mm)] [(o, Sum.inr (9, mO g fForm fShift fModels fItems fEnded fLow fRange fCache fPend fGoes fOuts fIns fReads fBad fIR fAsk fBAsk fCode fRL fRR fX fWrites fThrown)), ((g 0), Sum.inl (cI, 8, Sum.inl vMany)), (a, Sum.inl (cI, 512, Sum.inl f))] sz (fun (r : Int32) (u : Unit) => r = nI (ns F n)) (fun (u : Unit) => [(o, Sum.inr (9, mO g fForm fShift fModels fItems fEnded fLow fRange fCache fPend fGoes fOuts fIns fReads fBad fIR fAsk fBAsk fCode fRL fRR fX fWrites fThrown)), ((g 0), Sum.inl (cI, 8, Sum.inl vMany)), (a, Sum.inl (cI, 512, Sum.inl f))]) 0 0 := by
  refine my_ofI (cc := prog_14_method_8_code) (n := 5) (ret := (some .int)) (by decide) rfl (Nat.le_of_ble_eq_true rfl) ?_
  intro p e s m args below meth c R Q A ls H locs hx hb hr hts hown hlocks hml hnm hR hQ hA hl hP hK hN hD hS
  have hg : ∀ w ∈ gw, w.before args s = true := fun w h => hts w (List.mem_cons_of_mem _ h)
  have hown : s.vm.findClass "RangeCodersModel" = some m.cls := hown
  have hl : lv_has ls 5 [(0, Value.ref o), (1, Value.ref a), (2, Value.int (nI mm))] := hl
  refine lv_iconst (v := 0) hx hb d_M_sum_0 (by decide) ?_
  refine lv_istore_n (lv' := [(3, Value.int 0), (0, Value.ref o), (1, Value.ref a), (2, Value.int (nI mm))]) hx hb d_M_sum_1 rfl hl (by decide) rfl (fun ls hl => ?_)
  refine lv_iconst (v := 0) hx hb d_M_sum_2 (by decide) ?_
  refine lv_istore (lv' := [(4, Value.int 0), (3, Value.int 0), (0, Value.ref o), (1, Value.ref a), (2, Value.int (nI mm))]) hx hb d_M_sum_3 hl (by decide) rfl (fun ls hl => ?_)
  have J_5 : ∀ (n9_5 : Nat) (s9 : Int32) (i9 : Int32) (j : Nat) (hn9_5 : n - j = n9_5) (hs : s9 = nI (ns F j)) (hi : i9 = nI j) (hj : j ≤ n) (H : Heap) (locs : List Loc) (ls : Array Slot), va_P (dC, dI) vwCl [(o, Sum.inr (9, mO g fForm fShift fModels fItems fEnded fLow fRange fCache fPend fGoes fOuts fIns fReads fBad fIR fAsk fBAsk fCode fRL fRR fX fWrites fThrown)), ((g 0), Sum.inl (cI, 8, Sum.inl vMany)), (a, Sum.inl (cI, 512, Sum.inl f))] H → va_D A [(o, Sum.inr (9, mO g fForm fShift fModels fItems fEnded fLow fRange fCache fPend fGoes fOuts fIns fReads fBad fIR fAsk fBAsk fCode fRL fRR fX fWrites fThrown)), ((g 0), Sum.inl (cI, 8, Sum.inl vMany)), (a, Sum.inl (cI, 512, Sum.inl f))] → va_S A s.heap H locs → lv_has ls 5 [(4, Value.int i9), (3, Value.int s9), (0, Value.ref o), (1, Value.ref a), (2, Value.int (nI mm))] → W p l e R s m args below meth c H locs 0 0 Q (F0 m 5 ls []) := by
    intro n9_5
    induction n9_5 using Nat.strongRecOn with
    | ind n9_5 ih9_5 =>
      intro s9 i9 j hn9_5 hs hi hj H locs ls hP hD hS hl
      refine lv_iload hx hb d_M_sum_5 (lv_at hl 0 rfl) ?_
      refine lv_aload_n hx hb d_M_sum_7 rfl (lv_at hl 2 rfl) ?_
      refine va_get (D := (dC, dI)) (ci := 9) (v := .ref (g 0)) (C := "RangeCodersModel") (T := T_M) (N := 35) hx hb hg in_M hown hK hP 0 rfl rfl 3 (by decide) (hg _ k955) (fun _ h9 => h9) rfl d_M_sum_8 ?_
      refine lv_iload_n hx hb d_M_sum_11 rfl (lv_at hl 4 rfl) ?_
      refine va_iald hx hb hK hP 1 0 rfl rfl (vp_in_nI hmm (by decide)) d_M_sum_12 ?_
      refine lv_topi (fun v_1 ev_1 => ?_)
      have hv9 : v_1 = nI n := by subst_vars; rw [nI_clamp (by omega)]; exact hn
      refine lv_icmp_ge (tgt := 34) hx hb d_M_sum_13 (by decide) (fun c_2 => ?_) (fun c_2 => ?_)
      · have hj3 : j = n := by
          rcases Nat.lt_or_ge j n with q | q
          · exact absurd c_2 (by rw [hv9, hi]; exact nI_ge q (by omega))
          · omega
        refine lv_iload_n hx hb d_M_sum_34 rfl (lv_at hl 1 rfl) ?_
        exact my_iret (v := s9) hx hb hr (rfl) hlocks hQ hK hS (Nat.le_refl _) (Nat.le_refl _) () (by rw [hs, hj3]) (hP.sub [0, 1, 2] rfl) (hD.sub [0, 1, 2] (by decide +kernel) rfl) d_M_sum_35
      · have hj2 : j < n := by
          rcases Nat.lt_or_ge j n with q | q
          · exact q
          · exact absurd (by rw [hv9, hi]; exact nI_le q (by omega)) c_2
        refine lv_iload_n hx hb d_M_sum_16 rfl (lv_at hl 1 rfl) ?_
        refine lv_aload_n hx hb d_M_sum_17 rfl (lv_at hl 3 rfl) ?_
        refine lv_bipush (v := 64) hx hb d_M_sum_18 (by decide) ?_
        refine lv_iload_n hx hb d_M_sum_20 rfl (lv_at hl 4 rfl) ?_
        refine lv_imul hx hb d_M_sum_21 ?_
        refine lv_topi (fun v_3 ev_3 => ?_)
        refine lv_iload hx hb d_M_sum_22 (lv_at hl 0 rfl) ?_
        refine lv_iadd hx hb d_M_sum_24 ?_
        refine lv_topi (fun v_4 ev_4 => ?_)
        have hix : v_4 = nI (64 * mm + j) := by subst_vars; exact ix64
        refine va_iald hx hb hK hP 2 0 rfl rfl (by rw [hix]; exact vp_in_nI (by omega) (by decide)) d_M_sum_25 ?_
        refine lv_topi (fun v_5 ev_5 => ?_)
        refine lv_iadd hx hb d_M_sum_26 ?_
        refine lv_topi (fun v_6 ev_6 => ?_)
        refine lv_istore_n (lv' := [(3, Value.int v_6), (4, Value.int i9), (0, Value.ref o), (1, Value.ref a), (2, Value.int (nI mm))]) hx hb d_M_sum_27 rfl hl (by decide) rfl (fun ls hl => ?_)
        obtain ⟨v_7, ev_7⟩ : ∃ y : Int32, y = i9 + (1) := ⟨_, rfl⟩
        refine lv_iinc (v := v_7) (lv' := [(4, Value.int v_7), (3, Value.int v_6), (0, Value.ref o), (1, Value.ref a), (2, Value.int (nI mm))]) hx hb d_M_sum_28 hl (k := 1) rfl (by rw [ev_7]; rfl) (by decide) rfl (fun ls hl => ?_)
        refine lv_goto (tgt := 5) hx hb d_M_sum_31 (by decide) ?_
        exact ih9_5 _ (by first | omega | (omega)) v_6 v_7 (j + 1) rfl (by subst_vars; rw [nI_clamp (by omega), hf j hj2, nI_add]; rfl) (by subst_vars; exact nI_1 j) (by omega) H locs ls (hP.sub [0, 1, 2] rfl) (hD.sub [0, 1, 2] (by decide +kernel) rfl) hS (lv_sub hl [0, 1, 2, 3, 4] rfl)
  exact J_5 _ 0 0 0 rfl (rfl) (rfl) (Nat.zero_le _) H locs ls (hP.sub [0, 1, 2] rfl) (hD.sub [0, 1, 2] (by decide +kernel) rfl) hS (lv_sub hl [0, 1, 2, 3, 4] rfl)
set_option maxHeartbeats 1000000 in
set_option maxRecDepth 100000 in
/-- before -/
theorem c_M_before (l : Launch) (dC : Nat → ClassId) (dI : Nat → Nat → Nat) (cI cM cO : ClassId) (sz : Nat) (o : Nat) (g : Nat → Nat) (fForm : Int32) (fShift : Int32) (fModels : Int32) (fItems : Int32) (fEnded : Int32) (fLow : Int64) (fRange : Int64) (fCache : Int32) (fPend : Int32) (fGoes : Int32) (fOuts : Int32) (fIns : Int32) (fReads : Int32) (fBad : Int32) (fIR : Int32) (fAsk : Int32) (fBAsk : Int32) (fCode : Int64) (fRL : Int64) (fRR : Int64) (fX : Int64) (fWrites : Int32) (fThrown : Int32) (a : Nat) (f : Nat → Int32) (mm : Nat) (t : Nat) (F : Nat → Nat) (hmm : mm < 8) (ht : t ≤ 64) (hf : sgI f (64 * mm) t F) : MetI l y_M_before (Cond.code y_M_before prog_14_method_22_code 6 (some .int) :: gw) ({ frames := 0, cells := 0, slots := 0, locals := 0 } : Room) (dC, dI) vwCl (kT cI cM cO) [Value.ref o, Value.ref a, Value.int (nI mm), Value.int (nI t)] [(o, Sum.inr (9, mO g fForm fShift fModels fItems fEnded fLow fRange fCache fPend fGoes fOuts fIns fReads fBad fIR fAsk fBAsk fCode fRL fRR fX fWrites fThrown)), (a, Sum.inl (cI, 512, Sum.inl f))] sz (fun (r : Int32) (u : Unit) => r = nI (ns F t)) (fun (u : Unit) => [(o, Sum.inr (9, mO g fForm fShift fModels fItems fEnded fLow fRange fCache fPend fGoes fOuts fIns fReads fBad fIR fAsk fBAsk fCode fRL fRR fX fWrites fThrown)), (a, Sum.inl (cI, 512, Sum.inl f))]) 0 0 := by
  refine my_ofI (cc := prog_14_method_22_code) (n := 6) (ret := (some .int)) (by decide) rfl (Nat.le_of_ble_eq_true rfl) ?_
  intro p e s m args below meth c R Q A ls H locs hx hb hr hts hown hlocks hml hnm hR hQ hA hl hP hK hN hD hS
  have hg : ∀ w ∈ gw, w.before args s = true := fun w h => hts w (List.mem_cons_of_mem _ h)
  have hown : s.vm.findClass "RangeCodersModel" = some m.cls := hown
  have hl : lv_has ls 6 [(0, Value.ref o), (1, Value.ref a), (2, Value.int (nI mm)), (3, Value.int (nI t))] := hl
  refine lv_iconst (v := 0) hx hb d_M_before_0 (by decide) ?_
  refine lv_istore (lv' := [(4, Value.int 0), (0, Value.ref o), (1, Value.ref a), (2, Value.int (nI mm)), (3, Value.int (nI t))]) hx hb d_M_before_1 hl (by decide) rfl (fun ls hl => ?_)
  refine lv_iconst (v := 0) hx hb d_M_before_3 (by decide) ?_
  refine lv_istore (lv' := [(5, Value.int 0), (4, Value.int 0), (0, Value.ref o), (1, Value.ref a), (2, Value.int (nI mm)), (3, Value.int (nI t))]) hx hb d_M_before_4 hl (by decide) rfl (fun ls hl => ?_)
  have J_6 : ∀ (n9_6 : Nat) (s9 : Int32) (i9 : Int32) (j : Nat) (hn9_6 : t - j = n9_6) (hs : s9 = nI (ns F j)) (hi : i9 = nI j) (hj : j ≤ t) (H : Heap) (locs : List Loc) (ls : Array Slot), va_P (dC, dI) vwCl [(o, Sum.inr (9, mO g fForm fShift fModels fItems fEnded fLow fRange fCache fPend fGoes fOuts fIns fReads fBad fIR fAsk fBAsk fCode fRL fRR fX fWrites fThrown)), (a, Sum.inl (cI, 512, Sum.inl f))] H → va_D A [(o, Sum.inr (9, mO g fForm fShift fModels fItems fEnded fLow fRange fCache fPend fGoes fOuts fIns fReads fBad fIR fAsk fBAsk fCode fRL fRR fX fWrites fThrown)), (a, Sum.inl (cI, 512, Sum.inl f))] → va_S A s.heap H locs → lv_has ls 6 [(5, Value.int i9), (4, Value.int s9), (0, Value.ref o), (1, Value.ref a), (2, Value.int (nI mm)), (3, Value.int (nI t))] → W p l e R s m args below meth c H locs 0 0 Q (F0 m 6 ls []) := by
    intro n9_6
    induction n9_6 using Nat.strongRecOn with
    | ind n9_6 ih9_6 =>
      intro s9 i9 j hn9_6 hs hi hj H locs ls hP hD hS hl
      refine lv_iload hx hb d_M_before_6 (lv_at hl 0 rfl) ?_
      refine lv_iload_n hx hb d_M_before_8 rfl (lv_at hl 5 rfl) ?_
      refine lv_icmp_ge (tgt := 32) hx hb d_M_before_9 (by decide) (fun c_1 => ?_) (fun c_1 => ?_)
      · have hj3 : j = t := by
          rcases Nat.lt_or_ge j t with q | q
          · exact absurd c_1 (by rw [hi]; exact nI_ge q (by omega))
          · omega
        refine lv_iload hx hb d_M_before_32 (lv_at hl 1 rfl) ?_
        exact my_iret (v := s9) hx hb hr (rfl) hlocks hQ hK hS (Nat.le_refl _) (Nat.le_refl _) () (by rw [hs, hj3]) (hP.sub [0, 1] rfl) (hD.sub [0, 1] (by decide +kernel) rfl) d_M_before_34
      · have hj2 : j < t := by
          rcases Nat.lt_or_ge j t with q | q
          · exact q
          · exact absurd (by rw [hi]; exact nI_le q (by omega)) c_1
        refine lv_iload hx hb d_M_before_12 (lv_at hl 1 rfl) ?_
        refine lv_aload_n hx hb d_M_before_14 rfl (lv_at hl 3 rfl) ?_
        refine lv_bipush (v := 64) hx hb d_M_before_15 (by decide) ?_
        refine lv_iload_n hx hb d_M_before_17 rfl (lv_at hl 4 rfl) ?_
        refine lv_imul hx hb d_M_before_18 ?_
        refine lv_topi (fun v_2 ev_2 => ?_)
        refine lv_iload hx hb d_M_before_19 (lv_at hl 0 rfl) ?_
        refine lv_iadd hx hb d_M_before_21 ?_
        refine lv_topi (fun v_3 ev_3 => ?_)
        have hix : v_3 = nI (64 * mm + j) := by subst_vars; exact ix64
        refine va_iald hx hb hK hP 1 0 rfl rfl (by rw [hix]; exact vp_in_nI (by omega) (by decide)) d_M_before_22 ?_
        refine lv_topi (fun v_4 ev_4 => ?_)
        refine lv_iadd hx hb d_M_before_23 ?_
        refine lv_topi (fun v_5 ev_5 => ?_)
        refine lv_istore (lv' := [(4, Value.int v_5), (5, Value.int i9), (0, Value.ref o), (1, Value.ref a), (2, Value.int (nI mm)), (3, Value.int (nI t))]) hx hb d_M_before_24 hl (by decide) rfl (fun ls hl => ?_)
        obtain ⟨v_6, ev_6⟩ : ∃ y : Int32, y = i9 + (1) := ⟨_, rfl⟩
        refine lv_iinc (v := v_6) (lv' := [(5, Value.int v_6), (4, Value.int v_5), (0, Value.ref o), (1, Value.ref a), (2, Value.int (nI mm)), (3, Value.int (nI t))]) hx hb d_M_before_26 hl (k := 1) rfl (by rw [ev_6]; rfl) (by decide) rfl (fun ls hl => ?_)
        refine lv_goto (tgt := 6) hx hb d_M_before_29 (by decide) ?_
        exact ih9_6 _ (by first | omega | (omega)) v_5 v_6 (j + 1) rfl (by subst_vars; rw [nI_clamp (by omega), hf j hj2, nI_add]; rfl) (by subst_vars; exact nI_1 j) (by omega) H locs ls (hP.sub [0, 1] rfl) (hD.sub [0, 1] (by decide +kernel) rfl) hS (lv_sub hl [0, 1, 2, 3, 4, 5] rfl)
  exact J_6 _ 0 0 0 rfl (rfl) (rfl) (Nat.zero_le _) H locs ls (hP.sub [0, 1] rfl) (hD.sub [0, 1] (by decide +kernel) rfl) hS (lv_sub hl [0, 1, 2, 3, 4, 5] rfl)
set_option maxHeartbeats 1000000 in
set_option maxRecDepth 100000 in
/-- halve -/
theorem c_M_halve (l : Launch) (dC : Nat → ClassId) (dI : Nat → Nat → Nat) (cI cM cO : ClassId) (sz : Nat) (o : Nat) (g : Nat → Nat) (fForm : Int32) (fShift : Int32) (fModels : Int32) (fItems : Int32) (fEnded : Int32) (fLow : Int64) (fRange : Int64) (fCache : Int32) (fPend : Int32) (fGoes : Int32) (fOuts : Int32) (fIns : Int32) (fReads : Int32) (fBad : Int32) (fIR : Int32) (fAsk : Int32) (fBAsk : Int32) (fCode : Int64) (fRL : Int64) (fRR : Int64) (fX : Int64) (fWrites : Int32) (fThrown : Int32) (vMany : Nat → Int32) (a : Nat) (f : Nat → Int32) (mm : Nat) (n : Nat) (F : Nat → Nat) (hmm : mm < 8) (hn : vMany mm = nI n) (hn2 : n ≤ 64) (hf : sgI f (64 * mm) n F) (hB : bd F n 1000000) : MetV l y_M_halve (Cond.code y_M_halve prog_14_method_9_code 4 none :: gw) ({ frames := 0, cells := 0, slots := 0, locals := 0 } : Room) (dC, dI) vwCl (kT cI cM cO) [Value.ref o, Value.ref a, Value.int (nI mm)] [(o, Sum.inr (9, mO g fForm fShift fModels fItems fEnded fLow fRange fCache fPend fGoes fOuts fIns fReads fBad fIR fAsk fBAsk fCode fRL fRR fX fWrites fThrown)), ((g 0), Sum.inl (cI, 8, Sum.inl vMany)), (a, Sum.inl (cI, 512, Sum.inl f))] sz (fun (u : (Nat → Int32)) => sgI u (64 * mm) n (hv F) ∧ sgO u f (64 * mm) n) (fun (u : (Nat → Int32)) => [(o, Sum.inr (9, mO g fForm fShift fModels fItems fEnded fLow fRange fCache fPend fGoes fOuts fIns fReads fBad fIR fAsk fBAsk fCode fRL fRR fX fWrites fThrown)), ((g 0), Sum.inl (cI, 8, Sum.inl vMany)), (a, Sum.inl (cI, 512, Sum.inl u))]) 0 0 := by
  refine my_ofV (cc := prog_14_method_9_code) (n := 4) (ret := none) (by decide) rfl (Nat.le_of_ble_eq_true rfl) ?_
  intro p e s m args below meth c R Q A ls H locs hx hb hr hts hown hlocks hml hnm hR hQ hA hl hP hK hN hD hS
  have hg : ∀ w ∈ gw, w.before args s = true := fun w h => hts w (List.mem_cons_of_mem _ h)
  have hown : s.vm.findClass "RangeCodersModel" = some m.cls := hown
  have hl : lv_has ls 4 [(0, Value.ref o), (1, Value.ref a), (2, Value.int (nI mm))] := hl
  refine lv_iconst (v := 0) hx hb d_M_halve_0 (by decide) ?_
  refine lv_istore_n (lv' := [(3, Value.int 0), (0, Value.ref o), (1, Value.ref a), (2, Value.int (nI mm))]) hx hb d_M_halve_1 rfl hl (by decide) rfl (fun ls hl => ?_)
  have J_2 : ∀ (n9_2 : Nat) (fL : Nat → Int32) (i9 : Int32) (j : Nat) (hn9_2 : n - j = n9_2) (hL : sgL fL f (64 * mm) n j (hv F) F) (hi : i9 = nI j) (hj : j ≤ n) (H : Heap) (locs : List Loc) (ls : Array Slot), va_P (dC, dI) vwCl [(o, Sum.inr (9, mO g fForm fShift fModels fItems fEnded fLow fRange fCache fPend fGoes fOuts fIns fReads fBad fIR fAsk fBAsk fCode fRL fRR fX fWrites fThrown)), ((g 0), Sum.inl (cI, 8, Sum.inl vMany)), (a, Sum.inl (cI, 512, Sum.inl fL))] H → va_D A [(o, Sum.inr (9, mO g fForm fShift fModels fItems fEnded fLow fRange fCache fPend fGoes fOuts fIns fReads fBad fIR fAsk fBAsk fCode fRL fRR fX fWrites fThrown)), ((g 0), Sum.inl (cI, 8, Sum.inl vMany)), (a, Sum.inl (cI, 512, Sum.inl fL))] → va_S A s.heap H locs → lv_has ls 4 [(3, Value.int i9), (0, Value.ref o), (1, Value.ref a), (2, Value.int (nI mm))] → W p l e R s m args below meth c H locs 0 0 Q (F0 m 2 ls []) := by
    intro n9_2
    induction n9_2 using Nat.strongRecOn with
    | ind n9_2 ih9_2 =>
      intro fL i9 j hn9_2 hL hi hj H locs ls hP hD hS hl
      refine lv_iload_n hx hb d_M_halve_2 rfl (lv_at hl 0 rfl) ?_
      refine lv_aload_n hx hb d_M_halve_3 rfl (lv_at hl 1 rfl) ?_
      refine va_get (D := (dC, dI)) (ci := 9) (v := .ref (g 0)) (C := "RangeCodersModel") (T := T_M) (N := 35) hx hb hg in_M hown hK hP 0 rfl rfl 3 (by decide) (hg _ k955) (fun _ h9 => h9) rfl d_M_halve_4 ?_
      refine lv_iload_n hx hb d_M_halve_7 rfl (lv_at hl 3 rfl) ?_
      refine va_iald hx hb hK hP 1 0 rfl rfl (vp_in_nI hmm (by decide)) d_M_halve_8 ?_
      refine lv_topi (fun v_1 ev_1 => ?_)
      have hv9 : v_1 = nI n := by subst_vars; rw [nI_clamp (by omega)]; exact hn
      refine lv_icmp_ge (tgt := 38) hx hb d_M_halve_9 (by decide) (fun c_2 => ?_) (fun c_2 => ?_)
      · have hj3 : j = n := by
          rcases Nat.lt_or_ge j n with q | q
          · exact absurd c_2 (by rw [hv9, hi]; exact nI_ge q (by omega))
          · omega
        exact my_vret hx hb hr hlocks hQ hK hS (Nat.le_refl _) (Nat.le_refl _) fL (sgL_e (hj3 ▸ hL)) (hP.sub [0, 1, 2] rfl) (hD.sub [0, 1, 2] (by decide +kernel) rfl) d_M_halve_38
      · have hj2 : j < n := by
          rcases Nat.lt_or_ge j n with q | q
          · exact q
          · exact absurd (by rw [hv9, hi]; exact nI_le q (by omega)) c_2
        refine lv_aload_n hx hb d_M_halve_12 rfl (lv_at hl 2 rfl) ?_
        refine lv_bipush (v := 64) hx hb d_M_halve_13 (by decide) ?_
        refine lv_iload_n hx hb d_M_halve_15 rfl (lv_at hl 3 rfl) ?_
        refine lv_imul hx hb d_M_halve_16 ?_
        refine lv_topi (fun v_3 ev_3 => ?_)
        refine lv_iload_n hx hb d_M_halve_17 rfl (lv_at hl 0 rfl) ?_
        refine lv_iadd hx hb d_M_halve_18 ?_
        refine lv_topi (fun v_4 ev_4 => ?_)
        have hix : v_4 = nI (64 * mm + j) := by subst_vars; exact ix64
        refine lv_aload_n hx hb d_M_halve_19 rfl (lv_at hl 2 rfl) ?_
        refine lv_bipush (v := 64) hx hb d_M_halve_20 (by decide) ?_
        refine lv_iload_n hx hb d_M_halve_22 rfl (lv_at hl 3 rfl) ?_
        refine lv_imul hx hb d_M_halve_23 ?_
        refine lv_topi (fun v_5 ev_5 => ?_)
        refine lv_iload_n hx hb d_M_halve_24 rfl (lv_at hl 0 rfl) ?_
        refine lv_iadd hx hb d_M_halve_25 ?_
        refine lv_topi (fun v_6 ev_6 => ?_)
        have hix2 : v_6 = nI (64 * mm + j) := by subst_vars; exact ix64
        refine va_iald hx hb hK hP 2 0 rfl rfl (by rw [hix2]; exact vp_in_nI (by omega) (by decide)) d_M_halve_26 ?_
        refine lv_topi (fun v_7 ev_7 => ?_)
        refine lv_iconst (v := 1) hx hb d_M_halve_27 (by decide) ?_
        refine lv_iadd hx hb d_M_halve_28 ?_
        refine lv_topi (fun v_8 ev_8 => ?_)
        refine lv_iconst (v := 2) hx hb d_M_halve_29 (by decide) ?_
        refine lv_idiv hx hb d_M_halve_30 (by decide) ?_
        refine lv_topi (fun v_9 ev_9 => ?_)
        have hval : v_9 = nI (hv F j) := by
          have hb9 := hB j hj2
          subst_vars
          rw [nI_clamp (by omega), sgL_rd hL hj2]
          exact (congrArg (· / (2 : Int32)) (nI_1 (F j))).trans (pk_div (d := 2) (by omega) (by decide) (by decide))
        refine va_iast hx hb hK hP hD hS 2 0 rfl rfl (by rw [hix]; exact vp_in_nI (by omega) (by decide)) d_M_halve_31 (fun H locs hP hD hS => ?_)
        have hP : va_P (dC, dI) vwCl [(o, Sum.inr (9, mO g fForm fShift fModels fItems fEnded fLow fRange fCache fPend fGoes fOuts fIns fReads fBad fIR fAsk fBAsk fCode fRL fRR fX fWrites fThrown)), ((g 0), Sum.inl (cI, 8, Sum.inl vMany)), (a, Sum.inl (cI, 512, Sum.inl (upd fL v_4.toNatClampNeg v_9)))] H := hP
        have hD : va_D A [(o, Sum.inr (9, mO g fForm fShift fModels fItems fEnded fLow fRange fCache fPend fGoes fOuts fIns fReads fBad fIR fAsk fBAsk fCode fRL fRR fX fWrites fThrown)), ((g 0), Sum.inl (cI, 8, Sum.inl vMany)), (a, Sum.inl (cI, 512, Sum.inl (upd fL v_4.toNatClampNeg v_9)))] := hD
        obtain ⟨v_10, ev_10⟩ : ∃ y : Int32, y = i9 + (1) := ⟨_, rfl⟩
        refine lv_iinc (v := v_10) (lv' := [(3, Value.int v_10), (0, Value.ref o), (1, Value.ref a), (2, Value.int (nI mm))]) hx hb d_M_halve_32 hl (k := 0) rfl (by rw [ev_10]; rfl) (by decide) rfl (fun ls hl => ?_)
        refine lv_goto (tgt := 2) hx hb d_M_halve_35 (by decide) ?_
        exact ih9_2 _ (by first | omega | (omega)) (upd fL v_4.toNatClampNeg v_9) v_10 (j + 1) rfl (sgL_st hL hj2 (by rw [hix]; exact nI_clamp (by omega)) hval) (by subst_vars; exact nI_1 j) (by omega) H locs ls (hP.sub [0, 1, 2] rfl) (hD.sub [0, 1, 2] (by decide +kernel) rfl) hS (lv_sub hl [0, 1, 2, 3] rfl)
  exact J_2 _ f 0 0 rfl (sgL_0 hf) (rfl) (Nat.zero_le _) H locs ls (hP.sub [0, 1, 2] rfl) (hD.sub [0, 1, 2] (by decide +kernel) rfl) hS (lv_sub hl [0, 1, 2, 3] rfl)
set_option maxHeartbeats 1000000 in
set_option maxRecDepth 100000 in
/-- greatest -/
theorem c_M_greatest (l : Launch) (dC : Nat → ClassId) (dI : Nat → Nat → Nat) (cI cM cO : ClassId) (sz : Nat) (o : Nat) (g : Nat → Nat) (fForm : Int32) (fShift : Int32) (fModels : Int32) (fItems : Int32) (fEnded : Int32) (fLow : Int64) (fRange : Int64) (fCache : Int32) (fPend : Int32) (fGoes : Int32) (fOuts : Int32) (fIns : Int32) (fReads : Int32) (fBad : Int32) (fIR : Int32) (fAsk : Int32) (fBAsk : Int32) (fCode : Int64) (fRL : Int64) (fRR : Int64) (fX : Int64) (fWrites : Int32) (fThrown : Int32) (vMany : Nat → Int32) (a : Nat) (f : Nat → Int32) (mm : Nat) (n : Nat) (F : Nat → Nat) (hmm : mm < 8) (hn : vMany mm = nI n) (hn2 : n ≤ 64) (hn1 : 0 < n) (hf : sgI f (64 * mm) n F) (hB : bd F n 1000000) : MetI l y_M_greatest (Cond.code y_M_greatest prog_14_method_11_code 5 (some .int) :: gw) ({ frames := 0, cells := 0, slots := 0, locals := 0 } : Room) (dC, dI) vwCl (kT cI cM cO) [Value.ref o, Value.ref a, Value.int (nI mm)] [(o, Sum.inr (9, mO g fForm fShift fModels fItems fEnded fLow fRange fCache fPend fGoes fOuts fIns fReads fBad fIR fAsk fBAsk fCode fRL fRR fX fWrites fThrown)), ((g 0), Sum.inl (cI, 8, Sum.inl vMany)), (a, Sum.inl (cI, 512, Sum.inl f))] sz (fun (r : Int32) (u : Unit) => r = nI (64 * mm + gr F n)) (fun (u : Unit) => [(o, Sum.inr (9, mO g fForm fShift fModels fItems fEnded fLow fRange fCache fPend fGoes fOuts fIns fReads fBad fIR fAsk fBAsk fCode fRL fRR fX fWrites fThrown)), ((g 0), Sum.inl (cI, 8, Sum.inl vMany)), (a, Sum.inl (cI, 512, Sum.inl f))]) 0 0 := by
  refine my_ofI (cc := prog_14_method_11_code) (n := 5) (ret := (some .int)) (by decide) rfl (Nat.le_of_ble_eq_true rfl) ?_
  intro p e s m args below meth c R Q A ls H locs hx hb hr hts hown hlocks hml hnm hR hQ hA hl hP hK hN hD hS
  have hg : ∀ w ∈ gw, w.before args s = true := fun w h => hts w (List.mem_cons_of_mem _ h)
  have hown : s.vm.findClass "RangeCodersModel" = some m.cls := hown
  have hl : lv_has ls 5 [(0, Value.ref o), (1, Value.ref a), (2, Value.int (nI mm))] := hl
  refine lv_iconst (v := 0) hx hb d_M_greatest_0 (by decide) ?_
  refine lv_istore_n (lv' := [(3, Value.int 0), (0, Value.ref o), (1, Value.ref a), (2, Value.int (nI mm))]) hx hb d_M_greatest_1 rfl hl (by decide) rfl (fun ls hl => ?_)
  refine lv_iconst (v := 1) hx hb d_M_greatest_2 (by decide) ?_
  refine lv_istore (lv' := [(4, Value.int 1), (3, Value.int 0), (0, Value.ref o), (1, Value.ref a), (2, Value.int (nI mm))]) hx hb d_M_greatest_3 hl (by decide) rfl (fun ls hl => ?_)
  have J_5 : ∀ (n9_5 : Nat) (s9 : Int32) (i9 : Int32) (j : Nat) (hn9_5 : n - j = n9_5) (hs : s9 = nI (gr F j)) (hi : i9 = nI j) (hj : j ≤ n) (hj1 : 0 < j) (H : Heap) (locs : List Loc) (ls : Array Slot), va_P (dC, dI) vwCl [(o, Sum.inr (9, mO g fForm fShift fModels fItems fEnded fLow fRange fCache fPend fGoes fOuts fIns fReads fBad fIR fAsk fBAsk fCode fRL fRR fX fWrites fThrown)), ((g 0), Sum.inl (cI, 8, Sum.inl vMany)), (a, Sum.inl (cI, 512, Sum.inl f))] H → va_D A [(o, Sum.inr (9, mO g fForm fShift fModels fItems fEnded fLow fRange fCache fPend fGoes fOuts fIns fReads fBad fIR fAsk fBAsk fCode fRL fRR fX fWrites fThrown)), ((g 0), Sum.inl (cI, 8, Sum.inl vMany)), (a, Sum.inl (cI, 512, Sum.inl f))] → va_S A s.heap H locs → lv_has ls 5 [(4, Value.int i9), (3, Value.int s9), (0, Value.ref o), (1, Value.ref a), (2, Value.int (nI mm))] → W p l e R s m args below meth c H locs 0 0 Q (F0 m 5 ls []) := by
    intro n9_5
    induction n9_5 using Nat.strongRecOn with
    | ind n9_5 ih9_5 =>
      intro s9 i9 j hn9_5 hs hi hj hj1 H locs ls hP hD hS hl
      refine lv_iload hx hb d_M_greatest_5 (lv_at hl 0 rfl) ?_
      refine lv_aload_n hx hb d_M_greatest_7 rfl (lv_at hl 2 rfl) ?_
      refine va_get (D := (dC, dI)) (ci := 9) (v := .ref (g 0)) (C := "RangeCodersModel") (T := T_M) (N := 35) hx hb hg in_M hown hK hP 0 rfl rfl 3 (by decide) (hg _ k955) (fun _ h9 => h9) rfl d_M_greatest_8 ?_
      refine lv_iload_n hx hb d_M_greatest_11 rfl (lv_at hl 4 rfl) ?_
      refine va_iald hx hb hK hP 1 0 rfl rfl (vp_in_nI hmm (by decide)) d_M_greatest_12 ?_
      refine lv_topi (fun v_1 ev_1 => ?_)
      have hv9 : v_1 = nI n := by subst_vars; rw [nI_clamp (by omega)]; exact hn
      refine lv_icmp_ge (tgt := 49) hx hb d_M_greatest_13 (by decide) (fun c_2 => ?_) (fun c_2 => ?_)
      · have hj3 : j = n := by
          rcases Nat.lt_or_ge j n with q | q
          · exact absurd c_2 (by rw [hv9, hi]; exact nI_ge q (by omega))
          · omega
        refine lv_bipush (v := 64) hx hb d_M_greatest_49 (by decide) ?_
        refine lv_iload_n hx hb d_M_greatest_51 rfl (lv_at hl 4 rfl) ?_
        refine lv_imul hx hb d_M_greatest_52 ?_
        refine lv_topi (fun v_3 ev_3 => ?_)
        refine lv_iload_n hx hb d_M_greatest_53 rfl (lv_at hl 1 rfl) ?_
        refine lv_iadd hx hb d_M_greatest_54 ?_
        refine lv_topi (fun v_4 ev_4 => ?_)
        exact my_iret (v := v_4) hx hb hr (rfl) hlocks hQ hK hS (Nat.le_refl _) (Nat.le_refl _) () (by subst_vars; exact ix64) (hP.sub [0, 1, 2] rfl) (hD.sub [0, 1, 2] (by decide +kernel) rfl) d_M_greatest_55
      · have hj2 : j < n := by
          rcases Nat.lt_or_ge j n with q | q
          · exact q
          · exact absurd (by rw [hv9, hi]; exact nI_le q (by omega)) c_2
        have hg1 := gr_lt F hj1
        have hb1 := hB j hj2
        have hb2 := hB (gr F j) (by omega)
        refine lv_aload_n hx hb d_M_greatest_16 rfl (lv_at hl 3 rfl) ?_
        refine lv_bipush (v := 64) hx hb d_M_greatest_17 (by decide) ?_
        refine lv_iload_n hx hb d_M_greatest_19 rfl (lv_at hl 4 rfl) ?_
        refine lv_imul hx hb d_M_greatest_20 ?_
        refine lv_topi (fun v_5 ev_5 => ?_)
        refine lv_iload hx hb d_M_greatest_21 (lv_at hl 0 rfl) ?_
        refine lv_iadd hx hb d_M_greatest_23 ?_
        refine lv_topi (fun v_6 ev_6 => ?_)
        have hix : v_6 = nI (64 * mm + j) := by subst_vars; exact ix64
        refine va_iald hx hb hK hP 2 0 rfl rfl (by rw [hix]; exact vp_in_nI (by omega) (by decide)) d_M_greatest_24 ?_
        refine lv_topi (fun v_7 ev_7 => ?_)
        have hld : v_7 = nI (F j) := by rw [ev_7, hix, nI_clamp (by omega)]; exact hf j hj2
        refine lv_aload_n hx hb d_M_greatest_25 rfl (lv_at hl 3 rfl) ?_
        refine lv_bipush (v := 64) hx hb d_M_greatest_26 (by decide) ?_
        refine lv_iload_n hx hb d_M_greatest_28 rfl (lv_at hl 4 rfl) ?_
        refine lv_imul hx hb d_M_greatest_29 ?_
        refine lv_topi (fun v_8 ev_8 => ?_)
        refine lv_iload_n hx hb d_M_greatest_30 rfl (lv_at hl 1 rfl) ?_
        refine lv_iadd hx hb d_M_greatest_31 ?_
        refine lv_topi (fun v_9 ev_9 => ?_)
        have hix2 : v_9 = nI (64 * mm + gr F j) := by subst_vars; exact ix64
        refine va_iald hx hb hK hP 2 0 rfl rfl (by rw [hix2]; exact vp_in_nI (by omega) (by decide)) d_M_greatest_32 ?_
        refine lv_topi (fun v_10 ev_10 => ?_)
        have hlg : v_10 = nI (F (gr F j)) := by rw [ev_10, hix2, nI_clamp (by omega)]; exact hf _ (by omega)
        refine lv_icmp_le (tgt := 41) hx hb d_M_greatest_33 (by decide) (fun c_11 => ?_) (fun c_11 => ?_)
        · refine lv_iload_n hx hb d_M_greatest_41 rfl (lv_at hl 1 rfl) ?_
          refine lv_istore_n (lv' := [(3, Value.int s9), (4, Value.int i9), (0, Value.ref o), (1, Value.ref a), (2, Value.int (nI mm))]) hx hb d_M_greatest_42 rfl hl (by decide) rfl (fun ls hl => ?_)
          obtain ⟨v_12, ev_12⟩ : ∃ y : Int32, y = i9 + (1) := ⟨_, rfl⟩
          refine lv_iinc (v := v_12) (lv' := [(4, Value.int v_12), (3, Value.int s9), (0, Value.ref o), (1, Value.ref a), (2, Value.int (nI mm))]) hx hb d_M_greatest_43 hl (k := 1) rfl (by rw [ev_12]; rfl) (by decide) rfl (fun ls hl => ?_)
          refine lv_goto (tgt := 5) hx hb d_M_greatest_46 (by decide) ?_
          exact ih9_5 _ (by first | omega | (omega)) s9 v_12 (j + 1) rfl (by rw [gr]; rw [if_neg (by rw [hld, hlg, nI_cmp (by omega) (by omega)] at c_11; omega)]; exact hs) (by subst_vars; exact nI_1 j) (by omega) (by omega) H locs ls (hP.sub [0, 1, 2] rfl) (hD.sub [0, 1, 2] (by decide +kernel) rfl) hS (lv_sub hl [0, 1, 2, 3, 4] rfl)
        · refine lv_iload hx hb d_M_greatest_36 (lv_at hl 0 rfl) ?_
          refine lv_goto (tgt := 42) hx hb d_M_greatest_38 (by decide) ?_
          refine lv_istore_n (lv' := [(3, Value.int i9), (4, Value.int i9), (0, Value.ref o), (1, Value.ref a), (2, Value.int (nI mm))]) hx hb d_M_greatest_42 rfl hl (by decide) rfl (fun ls hl => ?_)
          obtain ⟨v_13, ev_13⟩ : ∃ y : Int32, y = i9 + (1) := ⟨_, rfl⟩
          refine lv_iinc (v := v_13) (lv' := [(4, Value.int v_13), (3, Value.int i9), (0, Value.ref o), (1, Value.ref a), (2, Value.int (nI mm))]) hx hb d_M_greatest_43 hl (k := 1) rfl (by rw [ev_13]; rfl) (by decide) rfl (fun ls hl => ?_)
          refine lv_goto (tgt := 5) hx hb d_M_greatest_46 (by decide) ?_
          exact ih9_5 _ (by first | omega | (omega)) i9 v_13 (j + 1) rfl (by rw [gr]; rw [if_pos (by rw [hld, hlg, nI_cmp (by omega) (by omega)] at c_11; omega)]; exact hi) (by subst_vars; exact nI_1 j) (by omega) (by omega) H locs ls (hP.sub [0, 1, 2] rfl) (hD.sub [0, 1, 2] (by decide +kernel) rfl) hS (lv_sub hl [0, 1, 2, 3, 4] rfl)
  exact J_5 _ 0 1 1 rfl (by rw [show gr F 1 = 0 by simp [gr]]; rfl) (rfl) (by omega) (by decide) H locs ls (hP.sub [0, 1, 2] rfl) (hD.sub [0, 1, 2] (by decide +kernel) rfl) hS (lv_sub hl [0, 1, 2, 3, 4] rfl)
set_option maxHeartbeats 1000000 in
set_option maxRecDepth 100000 in
/-- lessen -/
theorem c_M_lessen (l : Launch) (dC : Nat → ClassId) (dI : Nat → Nat → Nat) (cI cM cO : ClassId) (sz : Nat) (o : Nat) (g : Nat → Nat) (fForm : Int32) (fShift : Int32) (fModels : Int32) (fItems : Int32) (fEnded : Int32) (fLow : Int64) (fRange : Int64) (fCache : Int32) (fPend : Int32) (fGoes : Int32) (fOuts : Int32) (fIns : Int32) (fReads : Int32) (fBad : Int32) (fIR : Int32) (fAsk : Int32) (fBAsk : Int32) (fCode : Int64) (fRL : Int64) (fRR : Int64) (fX : Int64) (fWrites : Int32) (fThrown : Int32) (vMany : Nat → Int32) (a : Nat) (f : Nat → Int32) (mm : Nat) (n : Nat) (F : Nat → Nat) (hmm : mm < 8) (hn : vMany mm = nI n) (hn2 : n ≤ 64) (hf : sgI f (64 * mm) n F) (hB : bd F n 4095) : MetV l y_M_lessen (Cond.code y_M_lessen prog_14_method_10_code 3 none :: gw) ({ frames := 1, cells := 0, slots := 0, locals := 24 } : Room) (dC, dI) vwCl (kT cI cM cO) [Value.ref o, Value.ref a, Value.int (nI mm)] [(o, Sum.inr (9, mO g fForm fShift fModels fItems fEnded fLow fRange fCache fPend fGoes fOuts fIns fReads fBad fIR fAsk fBAsk fCode fRL fRR fX fWrites fThrown)), ((g 0), Sum.inl (cI, 8, Sum.inl vMany)), (a, Sum.inl (cI, 512, Sum.inl f))] sz (fun (u : (Nat → Int32)) => sgI u (64 * mm) n (les n F) ∧ sgO u f (64 * mm) n) (fun (u : (Nat → Int32)) => [(o, Sum.inr (9, mO g fForm fShift fModels fItems fEnded fLow fRange fCache fPend fGoes fOuts fIns fReads fBad fIR fAsk fBAsk fCode fRL fRR fX fWrites fThrown)), ((g 0), Sum.inl (cI, 8, Sum.inl vMany)), (a, Sum.inl (cI, 512, Sum.inl u))]) 0 0 := by
  refine my_ofV (cc := prog_14_method_10_code) (n := 3) (ret := none) (by decide) rfl (Nat.le_of_ble_eq_true rfl) ?_
  intro p e s m args below meth c R Q A ls H locs hx hb hr hts hown hlocks hml hnm hR hQ hA hl hP hK hN hD hS
  have hg : ∀ w ∈ gw, w.before args s = true := fun w h => hts w (List.mem_cons_of_mem _ h)
  have hown : s.vm.findClass "RangeCodersModel" = some m.cls := hown
  have hl : lv_has ls 3 [(0, Value.ref o), (1, Value.ref a), (2, Value.int (nI mm))] := hl
  have J_0 : ∀ (n9_0 : Nat) (fL : Nat → Int32) (F9 : Nat → Nat) (r9 : Nat) (hn9_0 : r9 = n9_0) (hI : sgI fL (64 * mm) n F9) (hO : sgO fL f (64 * mm) n) (hE : les n F = lesN n r9 F9) (hbF : bd F9 n (lb r9)) (hr1 : 27 ≤ r9) (hr2 : r9 ≤ 32) (H : Heap) (locs : List Loc) (ls : Array Slot), va_P (dC, dI) vwCl [(o, Sum.inr (9, mO g fForm fShift fModels fItems fEnded fLow fRange fCache fPend fGoes fOuts fIns fReads fBad fIR fAsk fBAsk fCode fRL fRR fX fWrites fThrown)), ((g 0), Sum.inl (cI, 8, Sum.inl vMany)), (a, Sum.inl (cI, 512, Sum.inl fL))] H → va_D A [(o, Sum.inr (9, mO g fForm fShift fModels fItems fEnded fLow fRange fCache fPend fGoes fOuts fIns fReads fBad fIR fAsk fBAsk fCode fRL fRR fX fWrites fThrown)), ((g 0), Sum.inl (cI, 8, Sum.inl vMany)), (a, Sum.inl (cI, 512, Sum.inl fL))] → va_S A s.heap H locs → lv_has ls 3 [(0, Value.ref o), (1, Value.ref a), (2, Value.int (nI mm))] → W p l e R s m args below meth c H locs 0 0 Q (F0 m 0 ls []) := by
    intro n9_0
    induction n9_0 using Nat.strongRecOn with
    | ind n9_0 ih9_0 =>
      intro fL F9 r9 hn9_0 hI hO hE hbF hr1 hr2 H locs ls hP hD hS hl
      have hb0 : bd F9 n 4095 := fun k hk => Nat.le_trans (hbF k hk) (by unfold lb; repeat (first | omega | split))
      have hs9 := ns_le64 hn2 hb0
      refine lv_aload_n hx hb d_M_lessen_0 rfl (lv_at hl 0 rfl) ?_
      refine lv_aload_n hx hb d_M_lessen_1 rfl (lv_at hl 1 rfl) ?_
      refine lv_iload_n hx hb d_M_lessen_2 rfl (lv_at hl 2 rfl) ?_
      refine my_ci (wr := []) (va_runV (As := [Value.ref a, Value.int (nI mm)]) (rest := []) ⟨hx, hb, hml, hown, hts⟩ (c_M_sum l dC dI cI cM cO H.size o g fForm fShift fModels fItems fEnded fLow fRange fCache fPend fGoes fOuts fIns fReads fBad fIR fAsk fBAsk fCode fRL fRR fX fWrites fThrown vMany a fL mm n F9 (by assumption) (by assumption) (by assumption) (hI)) (cwV 2 hts (my_gV k936 k938 ks21 k12 k939) rfl rfl rfl (by decide +kernel) ⟨by rw [hR]; exact Nat.le_of_ble_eq_true rfl, by rw [hR]; exact Nat.le_of_ble_eq_true rfl⟩) (my_preV hK hN (hP.sub [0, 1, 2] rfl) (hD.sub [0, 1, 2] (by decide +kernel) rfl) 0 rfl rfl) rfl rfl hl.1 rfl (lv_room (Nat.le_of_ble_eq_true rfl)) d_M_lessen_3 ⟨by rw [hR]; exact Nat.le_of_ble_eq_true rfl, by rw [hR]; exact Nat.le_of_ble_eq_true rfl⟩) hP hD hS hA [0, 1, 2] [] rfl rfl (by decide +kernel) (by decide +kernel) (fun r_3 u9 H locs hw_3 hP hD hS => ?_)
      have hw_3 : r_3 = nI (ns F9 n) := hw_3
      have hP : va_P (dC, dI) vwCl [(o, Sum.inr (9, mO g fForm fShift fModels fItems fEnded fLow fRange fCache fPend fGoes fOuts fIns fReads fBad fIR fAsk fBAsk fCode fRL fRR fX fWrites fThrown)), ((g 0), Sum.inl (cI, 8, Sum.inl vMany)), (a, Sum.inl (cI, 512, Sum.inl fL))] H := hP
      have hD : va_D A [(o, Sum.inr (9, mO g fForm fShift fModels fItems fEnded fLow fRange fCache fPend fGoes fOuts fIns fReads fBad fIR fAsk fBAsk fCode fRL fRR fX fWrites fThrown)), ((g 0), Sum.inl (cI, 8, Sum.inl vMany)), (a, Sum.inl (cI, 512, Sum.inl fL))] := hD
      refine lv_sipush (v := 8192) hx hb d_M_lessen_6 (by decide) ?_
      refine lv_icmp_le (tgt := 21) hx hb d_M_lessen_9 (by decide) (fun c_1 => ?_) (fun c_1 => ?_)
      · have hle : ns F9 n ≤ 8192 := by
          rw [hw_3] at c_1
          exact (nI_cmp (b := 8192) (by omega) (by decide)).mp c_1
        exact my_vret hx hb hr hlocks hQ hK hS (Nat.le_refl _) (Nat.le_refl _) fL (⟨by rw [hE, lesN_e hle]; exact hI, hO⟩) (hP.sub [0, 1, 2] rfl) (hD.sub [0, 1, 2] (by decide +kernel) rfl) d_M_lessen_21
      · have hgt : ¬ ns F9 n ≤ 8192 := fun q => absurd (show r_3 ≤ 8192 by rw [hw_3]; exact nI_le (b := 8192) q (by decide)) c_1
        have hr27 : 27 < r9 := by
          rcases Nat.lt_or_ge 27 r9 with q | q
          · exact q
          · have e : r9 = 27 := by omega
            subst e
            exact absurd (ns_le64 hn2 hbF) (by simp [lb]; omega)
        refine lv_aload_n hx hb d_M_lessen_12 rfl (lv_at hl 0 rfl) ?_
        refine lv_aload_n hx hb d_M_lessen_13 rfl (lv_at hl 1 rfl) ?_
        refine lv_iload_n hx hb d_M_lessen_14 rfl (lv_at hl 2 rfl) ?_
        refine my_cv (wr := []) (va_runV (As := [Value.ref a, Value.int (nI mm)]) (rest := []) ⟨hx, hb, hml, hown, hts⟩ (c_M_halve l dC dI cI cM cO H.size o g fForm fShift fModels fItems fEnded fLow fRange fCache fPend fGoes fOuts fIns fReads fBad fIR fAsk fBAsk fCode fRL fRR fX fWrites fThrown vMany a fL mm n F9 (by assumption) (by assumption) (by assumption) (hI) (fun k hk => Nat.le_trans (hb0 k hk) (by decide))) (cwV 2 hts (my_gV k940 k942 ks22 k12 k943) rfl rfl rfl (by decide +kernel) ⟨by rw [hR]; exact Nat.le_of_ble_eq_true rfl, by rw [hR]; exact Nat.le_of_ble_eq_true rfl⟩) (my_preV hK hN (hP.sub [0, 1, 2] rfl) (hD.sub [0, 1, 2] (by decide +kernel) rfl) 0 rfl rfl) rfl rfl hl.1 rfl (lv_room (Nat.le_of_ble_eq_true rfl)) d_M_lessen_15 ⟨by rw [hR]; exact Nat.le_of_ble_eq_true rfl, by rw [hR]; exact Nat.le_of_ble_eq_true rfl⟩) hP hD hS hA [0, 1, 2] [] rfl rfl (by decide +kernel) (by decide +kernel) (fun u9 H locs hw_15 hP hD hS => ?_)
        obtain ⟨f2_15, rfl⟩ : ∃ z, z = u9 := ⟨_, rfl⟩
        have hw_15 : sgI f2_15 (64 * mm) n (hv F9) ∧ sgO f2_15 fL (64 * mm) n := hw_15
        have hP : va_P (dC, dI) vwCl [(o, Sum.inr (9, mO g fForm fShift fModels fItems fEnded fLow fRange fCache fPend fGoes fOuts fIns fReads fBad fIR fAsk fBAsk fCode fRL fRR fX fWrites fThrown)), ((g 0), Sum.inl (cI, 8, Sum.inl vMany)), (a, Sum.inl (cI, 512, Sum.inl f2_15))] H := hP
        have hD : va_D A [(o, Sum.inr (9, mO g fForm fShift fModels fItems fEnded fLow fRange fCache fPend fGoes fOuts fIns fReads fBad fIR fAsk fBAsk fCode fRL fRR fX fWrites fThrown)), ((g 0), Sum.inl (cI, 8, Sum.inl vMany)), (a, Sum.inl (cI, 512, Sum.inl f2_15))] := hD
        refine lv_goto (tgt := 0) hx hb d_M_lessen_18 (by decide) ?_
        exact ih9_0 _ (by first | omega | (omega)) f2_15 (hv F9) (r9 - 1) rfl (hw_15.1) (sgO_tr hw_15.2 hO) (by rw [hE, lesN_s (by omega) hgt]) (fun k hk => lb_st hr27 hr2 (hbF k hk)) (by omega) (by omega) H locs ls (hP.sub [0, 1, 2] rfl) (hD.sub [0, 1, 2] (by decide +kernel) rfl) hS (lv_sub hl [0, 1, 2] rfl)
  exact J_0 _ f F 32 rfl (hf) (sgO_rf _ _ _) (rfl) (hB) (by decide) (by decide) H locs ls (hP.sub [0, 1, 2] rfl) (hD.sub [0, 1, 2] (by decide +kernel) rfl) hS (lv_sub hl [0, 1, 2] rfl)

