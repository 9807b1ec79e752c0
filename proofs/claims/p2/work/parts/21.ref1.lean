set_option maxHeartbeats 1000000 in
set_option maxRecDepth 100000 in
/-- in -/
theorem c_M_in (l : Launch) (dC : Nat → ClassId) (dI : Nat → Nat → Nat) (cI cM cO : ClassId) (sz : Nat) (v : Int32) (a : Int32) (b : Int32) : MetI l y_M_in (Cond.code y_M_in prog_14_method_3_code 3 (some .boolean) :: gw) ({ frames := 0, cells := 0, slots := 0, locals := 0 } : Room) (dC, dI) vwCl (kT cI cM cO) [.int v, .int a, .int b] [] sz (fun (r : Int32) (u : Unit) => r = if a ≤ v ∧ v ≤ b then 1 else 0) (fun (u : Unit) => []) 0 0 := by
  refine my_ofI (cc := prog_14_method_3_code) (n := 3) (ret := (some .boolean)) (by decide) rfl (Nat.le_of_ble_eq_true rfl) ?_
  intro p e s m args below meth c R Q A ls H locs hx hb hr hts hown hlocks hml hnm hR hQ hA hl hP hK hN hD hS
  have hg : ∀ w ∈ gw, w.before args s = true := fun w h => hts w (List.mem_cons_of_mem _ h)
  have hown : s.vm.findClass "RangeCodersModel" = some m.cls := hown
  have hl : lv_has ls 3 [(0, .int v), (1, .int a), (2, .int b)] := hl
  refine lv_iload_n hx hb d_M_in_0 rfl (lv_at hl 0 rfl) ?_
  refine lv_iload_n hx hb d_M_in_1 rfl (lv_at hl 1 rfl) ?_
  refine lv_icmp_lt (tgt := 14) hx hb d_M_in_2 (by decide) (fun c_1 => ?_) (fun c_1 => ?_)
  · refine lv_iconst (v := 0) hx hb d_M_in_14 (by decide) ?_
    exact my_iret (v := 0) hx hb hr (rfl) hlocks hQ hK hS (Nat.le_refl _) (Nat.le_refl _) () (by rw [if_neg (fun h => absurd c_1 (Int32.not_lt.mpr h.1))]) (hP.sub [] rfl) (hD.sub [] (by decide) rfl) d_M_in_15
  · refine lv_iload_n hx hb d_M_in_5 rfl (lv_at hl 0 rfl) ?_
    refine lv_iload_n hx hb d_M_in_6 rfl (lv_at hl 2 rfl) ?_
    refine lv_icmp_gt (tgt := 14) hx hb d_M_in_7 (by decide) (fun c_2 => ?_) (fun c_2 => ?_)
    · refine lv_iconst (v := 0) hx hb d_M_in_14 (by decide) ?_
      exact my_iret (v := 0) hx hb hr (rfl) hlocks hQ hK hS (Nat.le_refl _) (Nat.le_refl _) () (by rw [if_neg (fun h => absurd c_2 (Int32.not_lt.mpr h.2))]) (hP.sub [] rfl) (hD.sub [] (by decide) rfl) d_M_in_15
    · refine lv_iconst (v := 1) hx hb d_M_in_10 (by decide) ?_
      refine lv_goto (tgt := 15) hx hb d_M_in_11 (by decide) ?_
      exact my_iret (v := 1) hx hb hr (rfl) hlocks hQ hK hS (Nat.le_refl _) (Nat.le_refl _) () (by rw [if_pos ⟨Int32.not_lt.mp c_1, Int32.not_lt.mp c_2⟩]) (hP.sub [] rfl) (hD.sub [] (by decide) rfl) d_M_in_15
set_option maxHeartbeats 1000000 in
set_option maxRecDepth 100000 in
theorem c_M_isModel (l : Launch) (dC : Nat → ClassId) (dI : Nat → Nat → Nat) (cI cM cO : ClassId) (sz : Nat) (o : Nat) (g : Nat → Nat) (fForm : Int32) (fShift : Int32) (fModels : Int32) (fItems : Int32) (fEnded : Int32) (fLow : Int64) (fRange : Int64) (fCache : Int32) (fPend : Int32) (fGoes : Int32) (fOuts : Int32) (fIns : Int32) (fReads : Int32) (fBad : Int32) (fIR : Int32) (fAsk : Int32) (fBAsk : Int32) (fCode : Int64) (fRL : Int64) (fRR : Int64) (fX : Int64) (fWrites : Int32) (fThrown : Int32) (p1 : Int32) : MetI l y_M_isModel (Cond.code y_M_isModel prog_14_method_4_code 2 (some .boolean) :: gw) ({ frames := 1, cells := 0, slots := 0, locals := 22 } : Room) (dC, dI) vwCl (kT cI cM cO) [.ref o, .int p1] [(o, .inr (9, mO g fForm fShift fModels fItems fEnded fLow fRange fCache fPend fGoes fOuts fIns fReads fBad fIR fAsk fBAsk fCode fRL fRR fX fWrites fThrown))] sz (fun (r : Int32) (u : Unit) => r = if 0 ≤ p1 ∧ p1 ≤ fModels - 1 then 1 else 0) (fun (u : Unit) => [(o, .inr (9, mO g fForm fShift fModels fItems fEnded fLow fRange fCache fPend fGoes fOuts fIns fReads fBad fIR fAsk fBAsk fCode fRL fRR fX fWrites fThrown))]) 0 0 := by
  refine my_ofI (cc := prog_14_method_4_code) (n := 2) (ret := (some .boolean)) (by decide) rfl (Nat.le_of_ble_eq_true rfl) ?_
  intro p e s m args below meth c R Q A ls H locs hx hb hr hts hown hlocks hml hnm hR hQ hA hl hP hK hN hD hS
  have hg : ∀ w ∈ gw, w.before args s = true := fun w h => hts w (List.mem_cons_of_mem _ h)
  have hown : s.vm.findClass "RangeCodersModel" = some m.cls := hown
  have hl : lv_has ls 2 [(0, .ref o), (1, .int p1)] := hl
  refine lv_iload_n hx hb d_M_isModel_0 rfl (lv_at hl 1 rfl) ?_
  refine lv_iconst (v := 0) hx hb d_M_isModel_1 (by decide) ?_
  refine lv_aload_n hx hb d_M_isModel_2 rfl (lv_at hl 0 rfl) ?_
  refine va_get (D := (dC, dI)) (ci := 9) (v := .int fModels) (C := "RangeCodersModel") (T := T_M) (N := 35) hx hb hg in_M hown hK hP 0 rfl rfl 2 (by decide) (hg _ k954) (fun _ h9 => h9) rfl d_M_isModel_3 ?_
  refine lv_iconst (v := 1) hx hb d_M_isModel_6 (by decide) ?_
  refine lv_isub hx hb d_M_isModel_7 ?_
  refine lv_topi (fun v_1 ev_1 => ?_)
  refine my_ci (wr := [(o, .inr (9, mO g fForm fShift fModels fItems fEnded fLow fRange fCache fPend fGoes fOuts fIns fReads fBad fIR fAsk fBAsk fCode fRL fRR fX fWrites fThrown))]) (va_runS (As := [.int p1, .int 0, .int v_1]) (rest := []) ⟨hx, hb, hml, hown, hts⟩ (c_M_in l dC dI cI cM cO H.size p1 0 v_1) (cwS 3 hts (my_gS k1062 k1063 k12 k1064) rfl rfl rfl (by decide +kernel) ⟨by rw [hR]; exact Nat.le_of_ble_eq_true rfl, by rw [hR]; exact Nat.le_of_ble_eq_true rfl⟩) (my_pre hK hN (hP.sub [] rfl) (hD.sub [] (by decide) rfl)) rfl rfl hl.1 rfl (lv_room (Nat.le_of_ble_eq_true rfl)) d_M_isModel_8 ⟨by rw [hR]; exact Nat.le_of_ble_eq_true rfl, by rw [hR]; exact Nat.le_of_ble_eq_true rfl⟩) hP hD hS hA [] [0] rfl rfl (by decide) (by decide) (fun r_2 u9 H locs hw_r_2 hP hD hS => ?_)
  have hw_r_2 : r_2 = if 0 ≤ p1 ∧ p1 ≤ v_1 then 1 else 0 := hw_r_2
  have hP : va_P (dC, dI) vwCl [(o, .inr (9, mO g fForm fShift fModels fItems fEnded fLow fRange fCache fPend fGoes fOuts fIns fReads fBad fIR fAsk fBAsk fCode fRL fRR fX fWrites fThrown))] H := hP
  have hD : va_D A [(o, .inr (9, mO g fForm fShift fModels fItems fEnded fLow fRange fCache fPend fGoes fOuts fIns fReads fBad fIR fAsk fBAsk fCode fRL fRR fX fWrites fThrown))] := hD
  exact my_iret (v := r_2) hx hb hr (by subst_vars; split <;> rfl) hlocks hQ hK hS (Nat.le_refl _) (Nat.le_refl _) () (by subst_vars; assumption) (hP.sub [0] rfl) (hD.sub [0] (by decide) rfl) d_M_isModel_11
set_option maxHeartbeats 1000000 in
set_option maxRecDepth 100000 in
/-- sum -/
theorem c_M_sum (l : Launch) (dC : Nat → ClassId) (dI : Nat → Nat → Nat) (cI cM cO : ClassId) (sz : Nat) (o : Nat) (g : Nat → Nat) (fForm : Int32) (fShift : Int32) (fModels : Int32) (fItems : Int32) (fEnded : Int32) (fLow : Int64) (fRange : Int64) (fCache : Int32) (fPend : Int32) (fGoes : Int32) (fOuts : Int32) (fIns : Int32) (fReads : Int32) (fBad : Int32) (fIR : Int32) (fAsk : Int32) (fBAsk : Int32) (fCode : Int64) (fRL : Int64) (fRR : Int64) (fX : Int64) (fWrites : Int32) (fThrown : Int32) (vMany : Nat → Int32) (a : Nat) (f : Nat → Int32) (mm : Nat) (n : Nat) (hmm : mm < 8) (hn : vMany mm = nI n) (hn2 : n ≤ 64) : MetI l y_M_sum (Cond.code y_M_sum prog_14_method_8_code 5 (some .int) :: gw) ({ frames := 0, cells := 0, slots := 0, locals := 0 } : Room) (dC, dI) vwCl (kT cI cM cO) [.ref o, .ref a, .int (nI mm)] [(o, .inr (9, mO g fForm fShift fModels fItems fEnded fLow fRange fCache fPend fGoes fOuts fIns fReads fBad fIR fAsk fBAsk fCode fRL fRR fX fWrites fThrown)), ((g 0), .inl (cI, 8, .inl vMany)), (a, .inl (cI, 512, .inl f))] sz (fun (r : Int32) (u : Unit) => r = sm (fun k => f (64 * mm + k)) n) (fun (u : Unit) => [(o, .inr (9, mO g fForm fShift fModels fItems fEnded fLow fRange fCache fPend fGoes fOuts fIns fReads fBad fIR fAsk fBAsk fCode fRL fRR fX fWrites fThrown)), ((g 0), .inl (cI, 8, .inl vMany)), (a, .inl (cI, 512, .inl f))]) 0 0 := by
  refine my_ofI (cc := prog_14_method_8_code) (n := 5) (ret := (some .int)) (by decide) rfl (Nat.le_of_ble_eq_true rfl) ?_
  intro p e s m args below meth c R Q A ls H locs hx hb hr hts hown hlocks hml hnm hR hQ hA hl hP hK hN hD hS
  have hg : ∀ w ∈ gw, w.before args s = true := fun w h => hts w (List.mem_cons_of_mem _ h)
  have hown : s.vm.findClass "RangeCodersModel" = some m.cls := hown
  have hl : lv_has ls 5 [(0, .ref o), (1, .ref a), (2, .int (nI mm))] := hl
  refine lv_iconst (v := 0) hx hb d_M_sum_0 (by decide) ?_
  refine lv_istore_n (lv' := [(3, .int 0), (0, .ref o), (1, .ref a), (2, .int (nI mm))]) hx hb d_M_sum_1 rfl hl (by decide) rfl (fun ls hl => ?_)
  refine lv_iconst (v := 0) hx hb d_M_sum_2 (by decide) ?_
  refine lv_istore (lv' := [(4, .int 0), (3, .int 0), (0, .ref o), (1, .ref a), (2, .int (nI mm))]) hx hb d_M_sum_3 hl (by decide) rfl (fun ls hl => ?_)
  have J_5 : ∀ (n9 : Nat) (s9 : Int32) (i9 : Int32) (j : Nat) (hn9 : n - j = n9) (hs : s9 = sm (fun k => f (64 * mm + k)) j) (hi : i9 = nI j) (hj : j ≤ n) (H : Heap) (locs : List Loc) (ls : Array Slot), va_P (dC, dI) vwCl [(o, .inr (9, mO g fForm fShift fModels fItems fEnded fLow fRange fCache fPend fGoes fOuts fIns fReads fBad fIR fAsk fBAsk fCode fRL fRR fX fWrites fThrown)), ((g 0), .inl (cI, 8, .inl vMany)), (a, .inl (cI, 512, .inl f))] H → va_D A [(o, .inr (9, mO g fForm fShift fModels fItems fEnded fLow fRange fCache fPend fGoes fOuts fIns fReads fBad fIR fAsk fBAsk fCode fRL fRR fX fWrites fThrown)), ((g 0), .inl (cI, 8, .inl vMany)), (a, .inl (cI, 512, .inl f))] → va_S A s.heap H locs → lv_has ls 5 [(4, .int i9), (3, .int s9), (0, .ref o), (1, .ref a), (2, .int (nI mm))] → W p l e R s m args below meth c H locs 0 0 Q (F0 m 5 ls []) := by
    intro n9
    induction n9 using Nat.strongRecOn with
    | ind n9 ih9 =>
      intro s9 i9 j hn9 hs hi hj H locs ls hP hD hS hl
      refine lv_iload hx hb d_M_sum_5 (lv_at hl 0 rfl) ?_
      refine lv_aload_n hx hb d_M_sum_7 rfl (lv_at hl 2 rfl) ?_
      refine va_get (D := (dC, dI)) (ci := 9) (v := .ref (g 0)) (C := "RangeCodersModel") (T := T_M) (N := 35) hx hb hg in_M hown hK hP 0 rfl rfl 3 (by decide) (hg _ k955) (fun _ h9 => h9) rfl d_M_sum_8 ?_
      refine lv_iload_n hx hb d_M_sum_11 rfl (lv_at hl 4 rfl) ?_
      refine va_iald hx hb hK hP 1 0 rfl rfl (vp_in_nI hmm (by decide)) d_M_sum_12 ?_
      refine lv_topi (fun v_1 ev_1 => ?_)
      have hv9 : v_1 = nI n := by subst_vars; rw [nI_clamp (by omega)]; exact hn
      refine lv_icmp_ge (tgt := 34) hx hb d_M_sum_13 (by decide) (fun c_2 => ?_) (fun c_2 => ?_)
      · have hj3 : j = n := by
          rcases Nat.lt_or_ge j n with q | q
          · exact absurd c_2 (by rw [hv9, hi]; exact nI_ge q (by omega))
          · omega
        refine lv_iload_n hx hb d_M_sum_34 rfl (lv_at hl 1 rfl) ?_
        exact my_iret (v := s9) hx hb hr (rfl) hlocks hQ hK hS (Nat.le_refl _) (Nat.le_refl _) () (by rw [hs, hj3]) (hP.sub [0, 1, 2] rfl) (hD.sub [0, 1, 2] (by decide) rfl) d_M_sum_35
      · have hj2 : j < n := by
          rcases Nat.lt_or_ge j n with q | q
          · exact q
          · exact absurd (by rw [hv9, hi]; exact nI_le q (by omega)) c_2
        refine lv_iload_n hx hb d_M_sum_16 rfl (lv_at hl 1 rfl) ?_
        refine lv_aload_n hx hb d_M_sum_17 rfl (lv_at hl 3 rfl) ?_
        refine lv_bipush (v := 64) hx hb d_M_sum_18 (by decide) ?_
        refine lv_iload_n hx hb d_M_sum_20 rfl (lv_at hl 4 rfl) ?_
        refine lv_imul hx hb d_M_sum_21 ?_
        refine lv_topi (fun v_3 ev_3 => ?_)
        refine lv_iload hx hb d_M_sum_22 (lv_at hl 0 rfl) ?_
        refine lv_iadd hx hb d_M_sum_24 ?_
        refine lv_topi (fun v_4 ev_4 => ?_)
        have hix : v_4 = nI (64 * mm + j) := by subst_vars; exact ix64
        refine va_iald hx hb hK hP 2 0 rfl rfl (by rw [hix]; exact vp_in_nI (by omega) (by decide)) d_M_sum_25 ?_
        refine lv_topi (fun v_5 ev_5 => ?_)
        refine lv_iadd hx hb d_M_sum_26 ?_
        refine lv_topi (fun v_6 ev_6 => ?_)
        refine lv_istore_n (lv' := [(3, .int v_6), (4, .int i9), (0, .ref o), (1, .ref a), (2, .int (nI mm))]) hx hb d_M_sum_27 rfl hl (by decide) rfl (fun ls hl => ?_)
        obtain ⟨v_7, ev_7⟩ : ∃ y : Int32, y = i9 + (1) := ⟨_, rfl⟩
        refine lv_iinc (v := v_7) (lv' := [(4, .int v_7), (3, .int v_6), (0, .ref o), (1, .ref a), (2, .int (nI mm))]) hx hb d_M_sum_28 hl (k := 1) rfl (by rw [ev_7]; rfl) (by decide) rfl (fun ls hl => ?_)
        refine lv_goto (tgt := 5) hx hb d_M_sum_31 (by decide) ?_
        exact ih9 _ (by first | omega | (omega)) v_6 v_7 (j + 1) rfl (by subst_vars; rw [nI_clamp (by omega)]; rfl) (by subst_vars; exact nI_1 j) (by omega) H locs ls (hP.sub [0, 1, 2] rfl) (hD.sub [0, 1, 2] (by decide) rfl) hS (lv_sub hl [0, 1, 2, 3, 4] rfl)
  exact J_5 _ 0 0 0 rfl (rfl) (rfl) (Nat.zero_le _) H locs ls (hP.sub [0, 1, 2] rfl) (hD.sub [0, 1, 2] (by decide) rfl) hS (lv_sub hl [0, 1, 2, 3, 4] rfl)
