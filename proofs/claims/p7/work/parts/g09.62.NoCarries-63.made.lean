section
set_option maxHeartbeats 2000000 in
set_option maxRecDepth 100000 in
theorem c_NoCarries_Coder_nextByte (l : Launch) (dC : Nat → ClassId) (dI : Nat → Nat → Nat) (cI cM cO : ClassId) (sz : Nat) (co : Nat) (xlow : Int64) (xrange : Int64) (xcode : Int64) (xreadLow : Int64) (xreadRange : Int64) (ri : Nat) (ro : Nat) (rw : Nat) (xasked : Int32) (rin : Int32) (ria : Nat) (rik : Nat) (rif : Nat → Int32) (hri : rOk rin rik) : MetI l y_Coder_nextByte (Cond.code y_Coder_nextByte prog_4_method_15_code 2 (some .int) :: gw) ({ frames := 2, cells := 0, slots := 0, locals := 42 } : Room) (dC, dI) vwCl (kT cI cM cO) [Value.ref co] [(co, Sum.inr (2, [Value.long xlow, Value.long xrange, Value.long xcode, Value.long xreadLow, Value.long xreadRange, Value.ref ri, Value.ref ro, Value.ref rw, Value.int xasked])), (ri, Sum.inr (0, [Value.int rin, Value.ref ria])), (ria, Sum.inl (cI, rik, Sum.inl rif))] sz (fun (r : Int32) (u : Int32) => True) (fun (u : Int32) => [(co, Sum.inr (2, [Value.long xlow, Value.long xrange, Value.long xcode, Value.long xreadLow, Value.long xreadRange, Value.ref ri, Value.ref ro, Value.ref rw, Value.int u])), (ri, Sum.inr (0, [Value.int rin, Value.ref ria])), (ria, Sum.inl (cI, rik, Sum.inl rif))]) 0 0 := by
  refine my_ofI (cc := prog_4_method_15_code) (n := 2) (ret := (some .int)) (by decide) rfl (Nat.le_of_ble_eq_true rfl) ?_
  intro p e s m args below meth c R Q A ls H locs hx hb hr hts hown hlocks hml hnm hR hQ hA hl hP hK hN hD hS
  have hg : ∀ w ∈ gw, w.before args s = true := fun w h => hts w (List.mem_cons_of_mem _ h)
  have hown : s.vm.findClass "RangeCoders$Coder" = some m.cls := hown
  have hl : lv_has ls 2 [(0, Value.ref co)] := hl
  have hlt_hri := rOk_lt hri
  refine lv_aload_n hx hb d_Coder_nextByte_0 rfl (lv_at hl 0 rfl) ?_
  refine va_get (D := (dC, dI)) (ci := 2) (v := .ref ri) (C := "RangeCoders$NoCarries") (T := T_NoCarries) (N := 9) hx hb hg in_NoCarries hown hK hP 0 rfl rfl 5 (by decide) (hg _ k101) (fun _ h9 => h9) rfl d_Coder_nextByte_1 ?_
  refine lv_aload_n hx hb d_Coder_nextByte_4 rfl (lv_at hl 0 rfl) ?_
  refine va_get (D := (dC, dI)) (ci := 2) (v := .int xasked) (C := "RangeCoders$NoCarries") (T := T_NoCarries) (N := 9) hx hb hg in_NoCarries hown hK hP 0 rfl rfl 8 (by decide) (hg _ k130) (fun _ h9 => h9) rfl d_Coder_nextByte_5 ?_
  refine my_ci (wr := [(co, Sum.inr (2, [Value.long xlow, Value.long xrange, Value.long xcode, Value.long xreadLow, Value.long xreadRange, Value.ref ri, Value.ref ro, Value.ref rw, Value.int xasked]))]) (va_runV (As := [Value.int xasked]) (rest := []) ⟨hx, hb, hml, hown, hts⟩ (c_Row_has l dC dI cI cM cO H.size ri rin ria rik rif xasked (by first | assumption | omega)) (cwV 1 hts (my_gV k750 k663 k664 k6 k665) rfl rfl rfl (by decide +kernel) ⟨by rw [hR]; exact Nat.le_of_ble_eq_true rfl, by rw [hR]; exact Nat.le_of_ble_eq_true rfl⟩) (my_preV hK hN (hP.sub [1, 2] rfl) (hD.sub [1, 2] (by decide +kernel) rfl) 0 rfl rfl) rfl rfl hl.1 rfl (lv_room (Nat.le_of_ble_eq_true rfl)) d_Coder_nextByte_8 ⟨by rw [hR]; exact Nat.le_of_ble_eq_true rfl, by rw [hR]; exact Nat.le_of_ble_eq_true rfl⟩) hP hD hS hA [1, 2] [0] rfl rfl (by decide +kernel) (by decide +kernel) (fun r_8 u9 H locs hw_8 hP hD hS => ?_)
  have hr_8 : r_8 ≠ 0 → vp_in xasked rik := hw_8
  have hPD : my_PD (dC, dI) vwCl A [(co, Sum.inr (2, [Value.long xlow, Value.long xrange, Value.long xcode, Value.long xreadLow, Value.long xreadRange, Value.ref ri, Value.ref ro, Value.ref rw, Value.int xasked])), (ri, Sum.inr (0, [Value.int rin, Value.ref ria])), (ria, Sum.inl (cI, rik, Sum.inl rif))] H := ⟨hP, hD⟩
  have hP := hPD.1
  have hD := hPD.2
  refine lv_if_eq (tgt := 28) hx hb d_Coder_nextByte_11 (by decide) (fun c_1 => ?_) (fun c_1 => ?_)
  · refine lv_iconst (v := 0) hx hb d_Coder_nextByte_28 (by decide) ?_
    refine lv_istore_n (lv' := [(1, Value.int 0), (0, Value.ref co)]) hx hb d_Coder_nextByte_29 rfl hl (by decide) rfl (fun ls hl => ?_)
    refine lv_aload_n hx hb d_Coder_nextByte_30 rfl (lv_at hl 1 rfl) ?_
    refine lv_dup hx hb d_Coder_nextByte_31 rfl ?_
    refine va_get (D := (dC, dI)) (ci := 2) (v := .int xasked) (C := "RangeCoders$NoCarries") (T := T_NoCarries) (N := 9) hx hb hg in_NoCarries hown hK hP 0 rfl rfl 8 (by decide) (hg _ k130) (fun _ h9 => h9) rfl d_Coder_nextByte_32 ?_
    refine lv_iconst (v := 1) hx hb d_Coder_nextByte_35 (by decide) ?_
    refine lv_iadd hx hb d_Coder_nextByte_36 ?_
    refine lv_topi (fun v_2 ev_2 => ?_)
    refine va_put (D := (dC, dI)) (ci := 2) (v := .int v_2) (ty := .int) (C := "RangeCoders$NoCarries") (T := T_NoCarries) (N := 9) hx hb hg in_NoCarries t_NoCarries o_NoCarries n_NoCarries hown hK hP hD hS 0 rfl rfl 8 (by decide) (hg _ k130) (fun _ h9 => h9) rfl (by decide +kernel) rfl rfl (Nat.le_of_ble_eq_true rfl) d_Coder_nextByte_37 (fun H locs hP hD hS => ?_)
    have hPD : my_PD (dC, dI) vwCl A [(co, Sum.inr (2, [Value.long xlow, Value.long xrange, Value.long xcode, Value.long xreadLow, Value.long xreadRange, Value.ref ri, Value.ref ro, Value.ref rw, Value.int v_2])), (ri, Sum.inr (0, [Value.int rin, Value.ref ria])), (ria, Sum.inl (cI, rik, Sum.inl rif))] H := ⟨hP, hD⟩
    have hP := hPD.1
    have hD := hPD.2
    refine lv_iload_n hx hb d_Coder_nextByte_40 rfl (lv_at hl 0 rfl) ?_
    exact my_iret (v := 0) hx hb hr (rfl) hlocks hQ hK hS (Nat.le_refl _) (Nat.le_refl _) (v_2) (trivial) (hP.sub [0, 1, 2] rfl) (hD.sub [0, 1, 2] (by decide +kernel) rfl) d_Coder_nextByte_41
  · refine lv_aload_n hx hb d_Coder_nextByte_14 rfl (lv_at hl 0 rfl) ?_
    refine va_get (D := (dC, dI)) (ci := 2) (v := .ref ri) (C := "RangeCoders$NoCarries") (T := T_NoCarries) (N := 9) hx hb hg in_NoCarries hown hK hP 0 rfl rfl 5 (by decide) (hg _ k101) (fun _ h9 => h9) rfl d_Coder_nextByte_15 ?_
    refine lv_aload_n hx hb d_Coder_nextByte_18 rfl (lv_at hl 0 rfl) ?_
    refine va_get (D := (dC, dI)) (ci := 2) (v := .int xasked) (C := "RangeCoders$NoCarries") (T := T_NoCarries) (N := 9) hx hb hg in_NoCarries hown hK hP 0 rfl rfl 8 (by decide) (hg _ k130) (fun _ h9 => h9) rfl d_Coder_nextByte_19 ?_
    refine my_ci (wr := [(co, Sum.inr (2, [Value.long xlow, Value.long xrange, Value.long xcode, Value.long xreadLow, Value.long xreadRange, Value.ref ri, Value.ref ro, Value.ref rw, Value.int xasked]))]) (va_runV (As := [Value.int xasked]) (rest := []) ⟨hx, hb, hml, hown, hts⟩ (c_Row_at l dC dI cI cM cO H.size ri rin ria rik rif xasked (by first | assumption | omega)) (cwV 1 hts (my_gV k751 k659 k660 k6 k661) rfl rfl rfl (by decide +kernel) ⟨by rw [hR]; exact Nat.le_of_ble_eq_true rfl, by rw [hR]; exact Nat.le_of_ble_eq_true rfl⟩) (my_preV hK hN (hP.sub [1, 2] rfl) (hD.sub [1, 2] (by decide +kernel) rfl) 0 rfl rfl) rfl rfl hl.1 rfl (lv_room (Nat.le_of_ble_eq_true rfl)) d_Coder_nextByte_22 ⟨by rw [hR]; exact Nat.le_of_ble_eq_true rfl, by rw [hR]; exact Nat.le_of_ble_eq_true rfl⟩) hP hD hS hA [1, 2] [0] rfl rfl (by decide +kernel) (by decide +kernel) (fun r_22 u9 H locs hw_22 hP hD hS => ?_)
    have hPD : my_PD (dC, dI) vwCl A [(co, Sum.inr (2, [Value.long xlow, Value.long xrange, Value.long xcode, Value.long xreadLow, Value.long xreadRange, Value.ref ri, Value.ref ro, Value.ref rw, Value.int xasked])), (ri, Sum.inr (0, [Value.int rin, Value.ref ria])), (ria, Sum.inl (cI, rik, Sum.inl rif))] H := ⟨hP, hD⟩
    have hP := hPD.1
    have hD := hPD.2
    refine lv_goto (tgt := 29) hx hb d_Coder_nextByte_25 (by decide) ?_
    refine lv_istore_n (lv' := [(1, Value.int r_22), (0, Value.ref co)]) hx hb d_Coder_nextByte_29 rfl hl (by decide) rfl (fun ls hl => ?_)
    refine lv_aload_n hx hb d_Coder_nextByte_30 rfl (lv_at hl 1 rfl) ?_
    refine lv_dup hx hb d_Coder_nextByte_31 rfl ?_
    refine va_get (D := (dC, dI)) (ci := 2) (v := .int xasked) (C := "RangeCoders$NoCarries") (T := T_NoCarries) (N := 9) hx hb hg in_NoCarries hown hK hP 0 rfl rfl 8 (by decide) (hg _ k130) (fun _ h9 => h9) rfl d_Coder_nextByte_32 ?_
    refine lv_iconst (v := 1) hx hb d_Coder_nextByte_35 (by decide) ?_
    refine lv_iadd hx hb d_Coder_nextByte_36 ?_
    refine lv_topi (fun v_3 ev_3 => ?_)
    refine va_put (D := (dC, dI)) (ci := 2) (v := .int v_3) (ty := .int) (C := "RangeCoders$NoCarries") (T := T_NoCarries) (N := 9) hx hb hg in_NoCarries t_NoCarries o_NoCarries n_NoCarries hown hK hP hD hS 0 rfl rfl 8 (by decide) (hg _ k130) (fun _ h9 => h9) rfl (by decide +kernel) rfl rfl (Nat.le_of_ble_eq_true rfl) d_Coder_nextByte_37 (fun H locs hP hD hS => ?_)
    have hPD : my_PD (dC, dI) vwCl A [(co, Sum.inr (2, [Value.long xlow, Value.long xrange, Value.long xcode, Value.long xreadLow, Value.long xreadRange, Value.ref ri, Value.ref ro, Value.ref rw, Value.int v_3])), (ri, Sum.inr (0, [Value.int rin, Value.ref ria])), (ria, Sum.inl (cI, rik, Sum.inl rif))] H := ⟨hP, hD⟩
    have hP := hPD.1
    have hD := hPD.2
    refine lv_iload_n hx hb d_Coder_nextByte_40 rfl (lv_at hl 0 rfl) ?_
    exact my_iret (v := r_22) hx hb hr (rfl) hlocks hQ hK hS (Nat.le_refl _) (Nat.le_refl _) (v_3) (trivial) (hP.sub [0, 1, 2] rfl) (hD.sub [0, 1, 2] (by decide +kernel) rfl) d_Coder_nextByte_41
set_option maxHeartbeats 2000000 in
set_option maxRecDepth 100000 in
theorem c_NoCarries_Coder_firstFourBytes (l : Launch) (dC : Nat → ClassId) (dI : Nat → Nat → Nat) (cI cM cO : ClassId) (sz : Nat) (co : Nat) (xlow : Int64) (xrange : Int64) (xcode : Int64) (xreadLow : Int64) (xreadRange : Int64) (ri : Nat) (ro : Nat) (rw : Nat) (xasked : Int32) (rin : Int32) (ria : Nat) (rik : Nat) (rif : Nat → Int32) (hri : rOk rin rik) : MetL l y_Coder_firstFourBytes (Cond.code y_Coder_firstFourBytes prog_4_method_16_code 4 (some .long) :: gw) ({ frames := 3, cells := 0, slots := 0, locals := 63 } : Room) (dC, dI) vwCl (kT cI cM cO) [Value.ref co] [(co, Sum.inr (2, [Value.long xlow, Value.long xrange, Value.long xcode, Value.long xreadLow, Value.long xreadRange, Value.ref ri, Value.ref ro, Value.ref rw, Value.int xasked])), (ri, Sum.inr (0, [Value.int rin, Value.ref ria])), (ria, Sum.inl (cI, rik, Sum.inl rif))] sz (fun (r : Int64) (u : Int32) => True) (fun (u : Int32) => [(co, Sum.inr (2, [Value.long xlow, Value.long xrange, Value.long xcode, Value.long xreadLow, Value.long xreadRange, Value.ref ri, Value.ref ro, Value.ref rw, Value.int u])), (ri, Sum.inr (0, [Value.int rin, Value.ref ria])), (ria, Sum.inl (cI, rik, Sum.inl rif))]) 0 0 := by
  refine my_ofL (cc := prog_4_method_16_code) (n := 4) (ret := (some .long)) (by decide) rfl (Nat.le_of_ble_eq_true rfl) ?_
  intro p e s m args below meth c R Q A ls H locs hx hb hr hts hown hlocks hml hnm hR hQ hA hl hP hK hN hD hS
  have hg : ∀ w ∈ gw, w.before args s = true := fun w h => hts w (List.mem_cons_of_mem _ h)
  have hown : s.vm.findClass "RangeCoders$Coder" = some m.cls := hown
  have hl : lv_has ls 4 [(0, Value.ref co)] := hl
  have hlt_hri := rOk_lt hri
  refine lv_aload_n hx hb d_Coder_firstFourBytes_0 rfl (lv_at hl 0 rfl) ?_
  refine lv_iconst (v := 0) hx hb d_Coder_firstFourBytes_1 (by decide) ?_
  refine va_put (D := (dC, dI)) (ci := 2) (v := .int 0) (ty := .int) (C := "RangeCoders$NoCarries") (T := T_NoCarries) (N := 9) hx hb hg in_NoCarries t_NoCarries o_NoCarries n_NoCarries hown hK hP hD hS 0 rfl rfl 8 (by decide) (hg _ k130) (fun _ h9 => h9) rfl (by decide +kernel) rfl rfl (Nat.le_of_ble_eq_true rfl) d_Coder_firstFourBytes_2 (fun H locs hP hD hS => ?_)
  have hPD : my_PD (dC, dI) vwCl A [(co, Sum.inr (2, [Value.long xlow, Value.long xrange, Value.long xcode, Value.long xreadLow, Value.long xreadRange, Value.ref ri, Value.ref ro, Value.ref rw, Value.int 0])), (ri, Sum.inr (0, [Value.int rin, Value.ref ria])), (ria, Sum.inl (cI, rik, Sum.inl rif))] H := ⟨hP, hD⟩
  have hP := hPD.1
  have hD := hPD.2
  refine lv_lconst (v := 0) hx hb d_Coder_firstFourBytes_5 (by decide) ?_
  refine lv_lstore_n (lv' := [(1, Value.long 0), (0, Value.ref co)]) hx hb d_Coder_firstFourBytes_6 rfl hl (by decide) rfl (fun ls hl => ?_)
  refine lv_iconst (v := 0) hx hb d_Coder_firstFourBytes_7 (by decide) ?_
  refine lv_istore_n (lv' := [(3, Value.int 0), (1, Value.long 0), (0, Value.ref co)]) hx hb d_Coder_firstFourBytes_8 rfl hl (by decide) rfl (fun ls hl => ?_)
  have J_9 : ∀ (n9_9 : Nat) (b9_0 : Int32) (b9_1 : Int64) (b9_2 : Int32) (hn9_9 : ((4 : Int32).toInt - b9_0.toInt).toNat = n9_9) (hi_9 : 0 ≤ b9_0.toInt) (H : Heap) (locs : List Loc) (ls : Array Slot), va_P (dC, dI) vwCl [(co, Sum.inr (2, [Value.long xlow, Value.long xrange, Value.long xcode, Value.long xreadLow, Value.long xreadRange, Value.ref ri, Value.ref ro, Value.ref rw, Value.int b9_2])), (ri, Sum.inr (0, [Value.int rin, Value.ref ria])), (ria, Sum.inl (cI, rik, Sum.inl rif))] H → va_D A [(co, Sum.inr (2, [Value.long xlow, Value.long xrange, Value.long xcode, Value.long xreadLow, Value.long xreadRange, Value.ref ri, Value.ref ro, Value.ref rw, Value.int b9_2])), (ri, Sum.inr (0, [Value.int rin, Value.ref ria])), (ria, Sum.inl (cI, rik, Sum.inl rif))] → va_S A s.heap H locs → lv_has ls 4 [(3, Value.int b9_0), (1, Value.long b9_1), (0, Value.ref co)] → W p l e R s m args below meth c H locs 0 0 Q (F0 m 9 ls []) := by
    intro n9_9
    induction n9_9 using Nat.strongRecOn with
    | ind n9_9 ih9_9 =>
      intro b9_0 b9_1 b9_2 hn9_9 hi_9 H locs ls hP hD hS hl
      refine lv_iload_n hx hb d_Coder_firstFourBytes_9 rfl (lv_at hl 0 rfl) ?_
      refine lv_iconst (v := 4) hx hb d_Coder_firstFourBytes_10 (by decide) ?_
      refine lv_icmp_ge (tgt := 31) hx hb d_Coder_firstFourBytes_11 (by decide) (fun c_1 => ?_) (fun c_1 => ?_)
      · refine lv_lload_n hx hb d_Coder_firstFourBytes_31 rfl (lv_at hl 1 rfl) ?_
        exact my_lret (v := b9_1) hx hb hr hlocks hQ hK hS (Nat.le_refl _) (Nat.le_refl _) (b9_2) (trivial) (hP.sub [0, 1, 2] rfl) (hD.sub [0, 1, 2] (by decide +kernel) rfl) d_Coder_firstFourBytes_32
      · refine lv_lload_n hx hb d_Coder_firstFourBytes_14 rfl (lv_at hl 1 rfl) ?_
        refine lv_bipush (v := 8) hx hb d_Coder_firstFourBytes_15 (by decide) ?_
        refine lv_lshl hx hb d_Coder_firstFourBytes_17 rfl ?_
        refine lv_topl (fun v_2 ev_2 => ?_)
        refine lv_aload_n hx hb d_Coder_firstFourBytes_18 rfl (lv_at hl 2 rfl) ?_
        refine my_ci (wr := []) (va_runU (As := []) (rest := [Value.long v_2]) ⟨hx, hb, hml, hown, hts⟩ (c_NoCarries_Coder_nextByte l dC dI cI cM cO H.size co xlow xrange xcode xreadLow xreadRange ri ro rw b9_2 rin ria rik rif (by first | assumption | omega)) (va_cwU 0 hts (my_gU k741 k743 k746 k742 k3 k749) rfl rfl rfl rfl (by decide +kernel) ⟨by rw [hR]; exact Nat.le_of_ble_eq_true rfl, by rw [hR]; exact Nat.le_of_ble_eq_true rfl⟩) (my_preV hK hN (hP.sub [0, 1, 2] rfl) (hD.sub [0, 1, 2] (by decide +kernel) rfl) 0 rfl rfl) rfl rfl hl.1 rfl (lv_room (Nat.le_of_ble_eq_true rfl)) d_Coder_firstFourBytes_19 ⟨by rw [hR]; exact Nat.le_of_ble_eq_true rfl, by rw [hR]; exact Nat.le_of_ble_eq_true rfl⟩) hP hD hS hA [0, 1, 2] [] rfl rfl (by decide +kernel) (by decide +kernel) (fun r_19 u9 H locs hw_19 hP hD hS => ?_)
        obtain ⟨xaskedq_19, rfl⟩ : ∃ z, z = u9 := ⟨_, rfl⟩
        have hPD : my_PD (dC, dI) vwCl A [(co, Sum.inr (2, [Value.long xlow, Value.long xrange, Value.long xcode, Value.long xreadLow, Value.long xreadRange, Value.ref ri, Value.ref ro, Value.ref rw, Value.int xaskedq_19])), (ri, Sum.inr (0, [Value.int rin, Value.ref ria])), (ria, Sum.inl (cI, rik, Sum.inl rif))] H := ⟨hP, hD⟩
        have hP := hPD.1
        have hD := hPD.2
        refine lv_i2l hx hb d_Coder_firstFourBytes_22 rfl ?_
        refine lv_topl (fun v_3 ev_3 => ?_)
        refine lv_lor hx hb d_Coder_firstFourBytes_23 ?_
        refine lv_topl (fun v_4 ev_4 => ?_)
        refine lv_lstore_n (lv' := [(1, Value.long v_4), (3, Value.int b9_0), (0, Value.ref co)]) hx hb d_Coder_firstFourBytes_24 rfl hl (by decide) rfl (fun ls hl => ?_)
        obtain ⟨v_5, ev_5⟩ : ∃ y : Int32, y = b9_0 + (1) := ⟨_, rfl⟩
        refine lv_iinc (v := v_5) (lv' := [(3, Value.int v_5), (1, Value.long v_4), (0, Value.ref co)]) hx hb d_Coder_firstFourBytes_25 hl (k := 1) rfl (by rw [ev_5]; rfl) (by decide) rfl (fun ls hl => ?_)
        refine lv_goto (tgt := 9) hx hb d_Coder_firstFourBytes_28 (by decide) ?_
        exact ih9_9 _ (by first | omega | (have z9 := I_up c_1 ev_5; omega)) v_5 v_4 xaskedq_19 rfl (by have z9 := I_up c_1 ev_5; omega) H locs ls (hP.sub [0, 1, 2] rfl) (hD.sub [0, 1, 2] (by decide +kernel) rfl) hS (lv_sub hl [0, 1, 2] rfl)
  exact J_9 _ (0 : Int32) (0 : Int64) (0 : Int32) rfl (by first | decide | assumption | omega) H locs ls (hP.sub [0, 1, 2] rfl) (hD.sub [0, 1, 2] (by decide +kernel) rfl) hS (lv_sub hl [0, 1, 2] rfl)
set_option maxHeartbeats 2000000 in
set_option maxRecDepth 100000 in
theorem c_NoCarries_Coder_hasWidth (l : Launch) (dC : Nat → ClassId) (dI : Nat → Nat → Nat) (cI cM cO : ClassId) (sz : Nat) (co : Nat) (xlow : Int64) (xrange : Int64) (xcode : Int64) (xreadLow : Int64) (xreadRange : Int64) (ri : Nat) (ro : Nat) (rw : Nat) (xasked : Int32) (wd : Int32) : MetI l y_Coder_hasWidth (Cond.code y_Coder_hasWidth prog_4_method_13_code 2 (some .boolean) :: gw) ({ frames := 0, cells := 0, slots := 0, locals := 0 } : Room) (dC, dI) vwCl (kT cI cM cO) [Value.ref co, Value.int wd] [(co, Sum.inr (2, [Value.long xlow, Value.long xrange, Value.long xcode, Value.long xreadLow, Value.long xreadRange, Value.ref ri, Value.ref ro, Value.ref rw, Value.int xasked]))] sz (fun (r : Int32) (u : Unit) => True) (fun (u : Unit) => [(co, Sum.inr (2, [Value.long xlow, Value.long xrange, Value.long xcode, Value.long xreadLow, Value.long xreadRange, Value.ref ri, Value.ref ro, Value.ref rw, Value.int xasked]))]) 0 0 := by
  refine my_ofI (cc := prog_4_method_13_code) (n := 2) (ret := (some .boolean)) (by decide) rfl (Nat.le_of_ble_eq_true rfl) ?_
  intro p e s m args below meth c R Q A ls H locs hx hb hr hts hown hlocks hml hnm hR hQ hA hl hP hK hN hD hS
  have hg : ∀ w ∈ gw, w.before args s = true := fun w h => hts w (List.mem_cons_of_mem _ h)
  have hown : s.vm.findClass "RangeCoders$Coder" = some m.cls := hown
  have hl : lv_has ls 2 [(0, Value.ref co), (1, Value.int wd)] := hl
  refine lv_iload_n hx hb d_Coder_hasWidth_0 rfl (lv_at hl 1 rfl) ?_
  refine lv_iconst (v := 1) hx hb d_Coder_hasWidth_1 (by decide) ?_
  refine lv_icmp_lt (tgt := 15) hx hb d_Coder_hasWidth_2 (by decide) (fun c_1 => ?_) (fun c_1 => ?_)
  · refine lv_iconst (v := 0) hx hb d_Coder_hasWidth_15 (by decide) ?_
    exact my_iret (v := 0) hx hb hr (rfl) hlocks hQ hK hS (Nat.le_refl _) (Nat.le_refl _) () (trivial) (hP.sub [0] rfl) (hD.sub [0] (by decide +kernel) rfl) d_Coder_hasWidth_16
  · refine lv_iload_n hx hb d_Coder_hasWidth_5 rfl (lv_at hl 1 rfl) ?_
    refine lv_bipush (v := 12) hx hb d_Coder_hasWidth_6 (by decide) ?_
    refine lv_icmp_gt (tgt := 15) hx hb d_Coder_hasWidth_8 (by decide) (fun c_2 => ?_) (fun c_2 => ?_)
    · refine lv_iconst (v := 0) hx hb d_Coder_hasWidth_15 (by decide) ?_
      exact my_iret (v := 0) hx hb hr (rfl) hlocks hQ hK hS (Nat.le_refl _) (Nat.le_refl _) () (trivial) (hP.sub [0] rfl) (hD.sub [0] (by decide +kernel) rfl) d_Coder_hasWidth_16
    · refine lv_iconst (v := 1) hx hb d_Coder_hasWidth_11 (by decide) ?_
      refine lv_goto (tgt := 16) hx hb d_Coder_hasWidth_12 (by decide) ?_
      exact my_iret (v := 1) hx hb hr (rfl) hlocks hQ hK hS (Nat.le_refl _) (Nat.le_refl _) () (trivial) (hP.sub [0] rfl) (hD.sub [0] (by decide +kernel) rfl) d_Coder_hasWidth_16
set_option maxHeartbeats 2000000 in
set_option maxRecDepth 100000 in
theorem c_NoCarries_Coder_bytesAsked (l : Launch) (dC : Nat → ClassId) (dI : Nat → Nat → Nat) (cI cM cO : ClassId) (sz : Nat) (co : Nat) (xlow : Int64) (xrange : Int64) (xcode : Int64) (xreadLow : Int64) (xreadRange : Int64) (ri : Nat) (ro : Nat) (rw : Nat) (xasked : Int32) : MetI l y_Coder_bytesAsked (Cond.code y_Coder_bytesAsked prog_4_method_14_code 1 (some .int) :: gw) ({ frames := 0, cells := 0, slots := 0, locals := 0 } : Room) (dC, dI) vwCl (kT cI cM cO) [Value.ref co] [(co, Sum.inr (2, [Value.long xlow, Value.long xrange, Value.long xcode, Value.long xreadLow, Value.long xreadRange, Value.ref ri, Value.ref ro, Value.ref rw, Value.int xasked]))] sz (fun (r : Int32) (u : Unit) => True) (fun (u : Unit) => [(co, Sum.inr (2, [Value.long xlow, Value.long xrange, Value.long xcode, Value.long xreadLow, Value.long xreadRange, Value.ref ri, Value.ref ro, Value.ref rw, Value.int xasked]))]) 0 0 := by
  refine my_ofI (cc := prog_4_method_14_code) (n := 1) (ret := (some .int)) (by decide) rfl (Nat.le_of_ble_eq_true rfl) ?_
  intro p e s m args below meth c R Q A ls H locs hx hb hr hts hown hlocks hml hnm hR hQ hA hl hP hK hN hD hS
  have hg : ∀ w ∈ gw, w.before args s = true := fun w h => hts w (List.mem_cons_of_mem _ h)
  have hown : s.vm.findClass "RangeCoders$Coder" = some m.cls := hown
  have hl : lv_has ls 1 [(0, Value.ref co)] := hl
  refine lv_aload_n hx hb d_Coder_bytesAsked_0 rfl (lv_at hl 0 rfl) ?_
  refine va_get (D := (dC, dI)) (ci := 2) (v := .int xasked) (C := "RangeCoders$NoCarries") (T := T_NoCarries) (N := 9) hx hb hg in_NoCarries hown hK hP 0 rfl rfl 8 (by decide) (hg _ k130) (fun _ h9 => h9) rfl d_Coder_bytesAsked_1 ?_
  exact my_iret (v := xasked) hx hb hr (rfl) hlocks hQ hK hS (Nat.le_refl _) (Nat.le_refl _) () (trivial) (hP.sub [0] rfl) (hD.sub [0] (by decide +kernel) rfl) d_Coder_bytesAsked_4
set_option maxHeartbeats 2000000 in
set_option maxRecDepth 100000 in
theorem c_NoCarries_sameTop (l : Launch) (dC : Nat → ClassId) (dI : Nat → Nat → Nat) (cI cM cO : ClassId) (sz : Nat) (lw : Int64) (rg : Int64) : MetI l y_NoCarries_sameTop (Cond.code y_NoCarries_sameTop prog_6_method_6_code 4 (some .boolean) :: gw) ({ frames := 0, cells := 0, slots := 0, locals := 0 } : Room) (dC, dI) vwCl (kT cI cM cO) [Value.long lw, Value.long rg] [] sz (fun (r : Int32) (u : Unit) => True) (fun (u : Unit) => []) 0 0 := by
  refine my_ofI (cc := prog_6_method_6_code) (n := 4) (ret := (some .boolean)) (by decide) rfl (Nat.le_of_ble_eq_true rfl) ?_
  intro p e s m args below meth c R Q A ls H locs hx hb hr hts hown hlocks hml hnm hR hQ hA hl hP hK hN hD hS
  have hg : ∀ w ∈ gw, w.before args s = true := fun w h => hts w (List.mem_cons_of_mem _ h)
  have hown : s.vm.findClass "RangeCoders$NoCarries" = some m.cls := hown
  have hl : lv_has ls 4 [(0, Value.long lw), (2, Value.long rg)] := hl
  refine lv_lload_n hx hb d_NoCarries_sameTop_0 rfl (lv_at hl 0 rfl) ?_
  refine lv_bipush (v := 24) hx hb d_NoCarries_sameTop_1 (by decide) ?_
  refine lv_lushr hx hb d_NoCarries_sameTop_3 rfl ?_
  refine lv_topl (fun v_1 ev_1 => ?_)
  refine lv_lload_n hx hb d_NoCarries_sameTop_4 rfl (lv_at hl 0 rfl) ?_
  refine lv_lload_n hx hb d_NoCarries_sameTop_5 rfl (lv_at hl 1 rfl) ?_
  refine lv_ladd hx hb d_NoCarries_sameTop_6 ?_
  refine lv_topl (fun v_2 ev_2 => ?_)
  refine lv_ldc2 (v := 4294967295) hx hb hown (hg _ k509) d_NoCarries_sameTop_7 ?_
  refine lv_land hx hb d_NoCarries_sameTop_10 ?_
  refine lv_topl (fun v_3 ev_3 => ?_)
  refine lv_bipush (v := 24) hx hb d_NoCarries_sameTop_11 (by decide) ?_
  refine lv_lushr hx hb d_NoCarries_sameTop_13 rfl ?_
  refine lv_topl (fun v_4 ev_4 => ?_)
  refine W.lcmp hx hb d_NoCarries_sameTop_14 ?_
  refine lv_if_ne (tgt := 22) hx hb d_NoCarries_sameTop_15 (by decide) (fun c_5 => ?_) (fun c_5 => ?_)
  · rw [lg_cmp_eq] at c_5
    refine lv_iconst (v := 0) hx hb d_NoCarries_sameTop_22 (by decide) ?_
    exact my_iret (v := 0) hx hb hr (rfl) hlocks hQ hK hS (Nat.le_refl _) (Nat.le_refl _) () (trivial) (hP.sub [] rfl) (hD.sub [] (by decide +kernel) rfl) d_NoCarries_sameTop_23
  · rw [lg_cmp_eq] at c_5
    refine lv_iconst (v := 1) hx hb d_NoCarries_sameTop_18 (by decide) ?_
    refine lv_goto (tgt := 23) hx hb d_NoCarries_sameTop_19 (by decide) ?_
    exact my_iret (v := 1) hx hb hr (rfl) hlocks hQ hK hS (Nat.le_refl _) (Nat.le_refl _) () (trivial) (hP.sub [] rfl) (hD.sub [] (by decide +kernel) rfl) d_NoCarries_sameTop_23
set_option maxHeartbeats 2000000 in
set_option maxRecDepth 100000 in
theorem c_NoCarries_mustMove (l : Launch) (dC : Nat → ClassId) (dI : Nat → Nat → Nat) (cI cM cO : ClassId) (sz : Nat) (lw : Int64) (rg : Int64) : MetI l y_NoCarries_mustMove (Cond.code y_NoCarries_mustMove prog_6_method_7_code 4 (some .boolean) :: gw) ({ frames := 1, cells := 0, slots := 0, locals := 23 } : Room) (dC, dI) vwCl (kT cI cM cO) [Value.long lw, Value.long rg] [] sz (fun (r : Int32) (u : Unit) => True) (fun (u : Unit) => []) 0 0 := by
  refine my_ofI (cc := prog_6_method_7_code) (n := 4) (ret := (some .boolean)) (by decide) rfl (Nat.le_of_ble_eq_true rfl) ?_
  intro p e s m args below meth c R Q A ls H locs hx hb hr hts hown hlocks hml hnm hR hQ hA hl hP hK hN hD hS
  have hg : ∀ w ∈ gw, w.before args s = true := fun w h => hts w (List.mem_cons_of_mem _ h)
  have hown : s.vm.findClass "RangeCoders$NoCarries" = some m.cls := hown
  have hl : lv_has ls 4 [(0, Value.long lw), (2, Value.long rg)] := hl
  refine lv_lload_n hx hb d_NoCarries_mustMove_0 rfl (lv_at hl 0 rfl) ?_
  refine lv_lload_n hx hb d_NoCarries_mustMove_1 rfl (lv_at hl 1 rfl) ?_
  refine my_ci (wr := []) (va_runS (As := [Value.long lw, Value.long rg]) (rest := []) ⟨hx, hb, hml, hown, hts⟩ (c_NoCarries_sameTop l dC dI cI cM cO H.size lw rg) (cwS 2 hts (my_gS k513 k514 k7 k515) rfl rfl rfl (by decide +kernel) ⟨by rw [hR]; exact Nat.le_of_ble_eq_true rfl, by rw [hR]; exact Nat.le_of_ble_eq_true rfl⟩) (my_pre hK hN (hP.sub [] rfl) (hD.sub [] (by decide +kernel) rfl)) rfl rfl hl.1 rfl (lv_room (Nat.le_of_ble_eq_true rfl)) d_NoCarries_mustMove_2 ⟨by rw [hR]; exact Nat.le_of_ble_eq_true rfl, by rw [hR]; exact Nat.le_of_ble_eq_true rfl⟩) hP hD hS hA [] [] rfl rfl (by decide +kernel) (by decide +kernel) (fun r_2 u9 H locs hw_2 hP hD hS => ?_)
  have hPD : my_PD (dC, dI) vwCl A [] H := ⟨hP, hD⟩
  have hP := hPD.1
  have hD := hPD.2
  refine lv_if_ne (tgt := 16) hx hb d_NoCarries_mustMove_5 (by decide) (fun c_1 => ?_) (fun c_1 => ?_)
  · refine lv_iconst (v := 1) hx hb d_NoCarries_mustMove_16 (by decide) ?_
    refine lv_goto (tgt := 21) hx hb d_NoCarries_mustMove_17 (by decide) ?_
    exact my_iret (v := 1) hx hb hr (rfl) hlocks hQ hK hS (Nat.le_refl _) (Nat.le_refl _) () (trivial) (hP.sub [] rfl) (hD.sub [] (by decide +kernel) rfl) d_NoCarries_mustMove_21
  · refine lv_lload_n hx hb d_NoCarries_mustMove_8 rfl (lv_at hl 1 rfl) ?_
    refine lv_ldc2 (v := 65536) hx hb hown (hg _ k516) d_NoCarries_mustMove_9 ?_
    refine W.lcmp hx hb d_NoCarries_mustMove_12 ?_
    refine lv_if_ge (tgt := 20) hx hb d_NoCarries_mustMove_13 (by decide) (fun c_2 => ?_) (fun c_2 => ?_)
    · rw [lg_cmp_ge] at c_2
      refine lv_iconst (v := 0) hx hb d_NoCarries_mustMove_20 (by decide) ?_
      exact my_iret (v := 0) hx hb hr (rfl) hlocks hQ hK hS (Nat.le_refl _) (Nat.le_refl _) () (trivial) (hP.sub [] rfl) (hD.sub [] (by decide +kernel) rfl) d_NoCarries_mustMove_21
    · rw [lg_cmp_ge] at c_2
      refine lv_iconst (v := 1) hx hb d_NoCarries_mustMove_16 (by decide) ?_
      refine lv_goto (tgt := 21) hx hb d_NoCarries_mustMove_17 (by decide) ?_
      exact my_iret (v := 1) hx hb hr (rfl) hlocks hQ hK hS (Nat.le_refl _) (Nat.le_refl _) () (trivial) (hP.sub [] rfl) (hD.sub [] (by decide +kernel) rfl) d_NoCarries_mustMove_21
set_option maxHeartbeats 2000000 in
set_option maxRecDepth 100000 in
theorem c_NoCarries_moved (l : Launch) (dC : Nat → ClassId) (dI : Nat → Nat → Nat) (cI cM cO : ClassId) (sz : Nat) (lw : Int64) (rg : Int64) : MetL l y_NoCarries_moved (Cond.code y_NoCarries_moved prog_6_method_8_code 6 (some .long) :: gw) ({ frames := 1, cells := 0, slots := 0, locals := 23 } : Room) (dC, dI) vwCl (kT cI cM cO) [Value.long lw, Value.long rg] [] sz (fun (r : Int64) (u : Unit) => True) (fun (u : Unit) => []) 0 0 := by
  refine my_ofL (cc := prog_6_method_8_code) (n := 6) (ret := (some .long)) (by decide) rfl (Nat.le_of_ble_eq_true rfl) ?_
  intro p e s m args below meth c R Q A ls H locs hx hb hr hts hown hlocks hml hnm hR hQ hA hl hP hK hN hD hS
  have hg : ∀ w ∈ gw, w.before args s = true := fun w h => hts w (List.mem_cons_of_mem _ h)
  have hown : s.vm.findClass "RangeCoders$NoCarries" = some m.cls := hown
  have hl : lv_has ls 6 [(0, Value.long lw), (2, Value.long rg)] := hl
  refine lv_lload_n hx hb d_NoCarries_moved_0 rfl (lv_at hl 0 rfl) ?_
  refine lv_lload_n hx hb d_NoCarries_moved_1 rfl (lv_at hl 1 rfl) ?_
  refine my_ci (wr := []) (va_runS (As := [Value.long lw, Value.long rg]) (rest := []) ⟨hx, hb, hml, hown, hts⟩ (c_NoCarries_sameTop l dC dI cI cM cO H.size lw rg) (cwS 2 hts (my_gS k513 k514 k7 k515) rfl rfl rfl (by decide +kernel) ⟨by rw [hR]; exact Nat.le_of_ble_eq_true rfl, by rw [hR]; exact Nat.le_of_ble_eq_true rfl⟩) (my_pre hK hN (hP.sub [] rfl) (hD.sub [] (by decide +kernel) rfl)) rfl rfl hl.1 rfl (lv_room (Nat.le_of_ble_eq_true rfl)) d_NoCarries_moved_2 ⟨by rw [hR]; exact Nat.le_of_ble_eq_true rfl, by rw [hR]; exact Nat.le_of_ble_eq_true rfl⟩) hP hD hS hA [] [] rfl rfl (by decide +kernel) (by decide +kernel) (fun r_2 u9 H locs hw_2 hP hD hS => ?_)
  have hPD : my_PD (dC, dI) vwCl A [] H := ⟨hP, hD⟩
  have hP := hPD.1
  have hD := hPD.2
  refine lv_if_eq (tgt := 12) hx hb d_NoCarries_moved_5 (by decide) (fun c_1 => ?_) (fun c_1 => ?_)
  · refine lv_lload_n hx hb d_NoCarries_moved_12 rfl (lv_at hl 0 rfl) ?_
    refine lv_lneg hx hb d_NoCarries_moved_13 ?_
    refine lv_topl (fun v_2 ev_2 => ?_)
    refine lv_ldc2 (v := 65535) hx hb hown (hg _ k520) d_NoCarries_moved_14 ?_
    refine lv_land hx hb d_NoCarries_moved_17 ?_
    refine lv_topl (fun v_3 ev_3 => ?_)
    refine lv_lstore (lv' := [(4, Value.long v_3), (0, Value.long lw), (2, Value.long rg)]) hx hb d_NoCarries_moved_18 hl (by decide) rfl (fun ls hl => ?_)
    refine lv_lload hx hb d_NoCarries_moved_20 (lv_at hl 0 rfl) ?_
    refine lv_bipush (v := 8) hx hb d_NoCarries_moved_22 (by decide) ?_
    refine lv_lshl hx hb d_NoCarries_moved_24 rfl ?_
    refine lv_topl (fun v_4 ev_4 => ?_)
    refine lv_ldc2 (v := 4294967295) hx hb hown (hg _ k509) d_NoCarries_moved_25 ?_
    refine lv_land hx hb d_NoCarries_moved_28 ?_
    refine lv_topl (fun v_5 ev_5 => ?_)
    exact my_lret (v := v_5) hx hb hr hlocks hQ hK hS (Nat.le_refl _) (Nat.le_refl _) () (trivial) (hP.sub [] rfl) (hD.sub [] (by decide +kernel) rfl) d_NoCarries_moved_29
  · refine lv_lload_n hx hb d_NoCarries_moved_8 rfl (lv_at hl 1 rfl) ?_
    refine lv_goto (tgt := 18) hx hb d_NoCarries_moved_9 (by decide) ?_
    refine lv_lstore (lv' := [(4, Value.long rg), (0, Value.long lw), (2, Value.long rg)]) hx hb d_NoCarries_moved_18 hl (by decide) rfl (fun ls hl => ?_)
    refine lv_lload hx hb d_NoCarries_moved_20 (lv_at hl 0 rfl) ?_
    refine lv_bipush (v := 8) hx hb d_NoCarries_moved_22 (by decide) ?_
    refine lv_lshl hx hb d_NoCarries_moved_24 rfl ?_
    refine lv_topl (fun v_6 ev_6 => ?_)
    refine lv_ldc2 (v := 4294967295) hx hb hown (hg _ k509) d_NoCarries_moved_25 ?_
    refine lv_land hx hb d_NoCarries_moved_28 ?_
    refine lv_topl (fun v_7 ev_7 => ?_)
    exact my_lret (v := v_7) hx hb hr hlocks hQ hK hS (Nat.le_refl _) (Nat.le_refl _) () (trivial) (hP.sub [] rfl) (hD.sub [] (by decide +kernel) rfl) d_NoCarries_moved_29
set_option maxHeartbeats 2000000 in
set_option maxRecDepth 100000 in
theorem c_NoCarries_NoCarries_readPart (l : Launch) (dC : Nat → ClassId) (dI : Nat → Nat → Nat) (cI cM cO : ClassId) (sz : Nat) (co : Nat) (xlow : Int64) (xrange : Int64) (xcode : Int64) (xreadLow : Int64) (xreadRange : Int64) (ri : Nat) (ro : Nat) (rw : Nat) (xasked : Int32) (rin : Int32) (ria : Nat) (rik : Nat) (rif : Nat → Int32) (pf : Int32) (pcc : Int32) (pt : Int32) (hri : rOk rin rik) : MetV l y_NoCarries_readPart (Cond.code y_NoCarries_readPart prog_6_method_3_code 7 none :: gw) ({ frames := 3, cells := 0, slots := 0, locals := 63 } : Room) (dC, dI) vwCl (kT cI cM cO) [Value.ref co, Value.int pf, Value.int pcc, Value.int pt] [(co, Sum.inr (2, [Value.long xlow, Value.long xrange, Value.long xcode, Value.long xreadLow, Value.long xreadRange, Value.ref ri, Value.ref ro, Value.ref rw, Value.int xasked])), (ri, Sum.inr (0, [Value.int rin, Value.ref ria])), (ria, Sum.inl (cI, rik, Sum.inl rif))] sz (fun (u : Int64 × Int64 × Int64 × Int32) => True) (fun (u : Int64 × Int64 × Int64 × Int32) => [(co, Sum.inr (2, [Value.long xlow, Value.long xrange, Value.long u.1, Value.long u.2.1, Value.long u.2.2.1, Value.ref ri, Value.ref ro, Value.ref rw, Value.int u.2.2.2])), (ri, Sum.inr (0, [Value.int rin, Value.ref ria])), (ria, Sum.inl (cI, rik, Sum.inl rif))]) 0 0 := by
  refine my_ofV (cc := prog_6_method_3_code) (n := 7) (ret := none) (by decide) rfl (Nat.le_of_ble_eq_true rfl) ?_
  intro p e s m args below meth c R Q A ls H locs hx hb hr hts hown hlocks hml hnm hR hQ hA hl hP hK hN hD hS
  have hg : ∀ w ∈ gw, w.before args s = true := fun w h => hts w (List.mem_cons_of_mem _ h)
  have hown : s.vm.findClass "RangeCoders$NoCarries" = some m.cls := hown
  have hl : lv_has ls 7 [(0, Value.ref co), (1, Value.int pf), (2, Value.int pcc), (3, Value.int pt)] := hl
  have hlt_hri := rOk_lt hri
  refine lv_iload_n hx hb d_NoCarries_readPart_0 rfl (lv_at hl 3 rfl) ?_
  refine lv_if_le (tgt := 14) hx hb d_NoCarries_readPart_1 (by decide) (fun c_1 => ?_) (fun c_1 => ?_)
  · refine lv_lconst (v := 0) hx hb d_NoCarries_readPart_14 (by decide) ?_
    refine lv_lstore (lv' := [(4, Value.long 0), (0, Value.ref co), (1, Value.int pf), (2, Value.int pcc), (3, Value.int pt)]) hx hb d_NoCarries_readPart_15 hl (by decide) rfl (fun ls hl => ?_)
    refine lv_aload_n hx hb d_NoCarries_readPart_17 rfl (lv_at hl 1 rfl) ?_
    refine lv_aload_n hx hb d_NoCarries_readPart_18 rfl (lv_at hl 1 rfl) ?_
    refine va_get (D := (dC, dI)) (ci := 2) (v := .long xreadLow) (C := "RangeCoders$NoCarries") (T := T_NoCarries) (N := 9) hx hb hg in_NoCarries hown hK hP 0 rfl rfl 3 (by decide) (hg _ k91) (fun x9 h9 => u_same (hg _ k92) x9 h9) rfl d_NoCarries_readPart_19 ?_
    refine lv_lload hx hb d_NoCarries_readPart_22 (lv_at hl 0 rfl) ?_
    refine lv_iload_n hx hb d_NoCarries_readPart_24 rfl (lv_at hl 3 rfl) ?_
    refine lv_i2l hx hb d_NoCarries_readPart_25 rfl ?_
    refine lv_topl (fun v_2 ev_2 => ?_)
    refine lv_lmul hx hb d_NoCarries_readPart_26 ?_
    refine lv_topl (fun v_3 ev_3 => ?_)
    refine lv_ladd hx hb d_NoCarries_readPart_27 ?_
    refine lv_topl (fun v_4 ev_4 => ?_)
    refine lv_ldc2 (v := 4294967295) hx hb hown (hg _ k509) d_NoCarries_readPart_28 ?_
    refine lv_land hx hb d_NoCarries_readPart_31 ?_
    refine lv_topl (fun v_5 ev_5 => ?_)
    refine va_put (D := (dC, dI)) (ci := 2) (v := .long v_5) (ty := .long) (C := "RangeCoders$NoCarries") (T := T_NoCarries) (N := 9) hx hb hg in_NoCarries t_NoCarries o_NoCarries n_NoCarries hown hK hP hD hS 0 rfl rfl 3 (by decide) (hg _ k91) (fun x9 h9 => u_same (hg _ k92) x9 h9) rfl (by decide +kernel) rfl rfl (Nat.le_of_ble_eq_true rfl) d_NoCarries_readPart_32 (fun H locs hP hD hS => ?_)
    have hPD : my_PD (dC, dI) vwCl A [(co, Sum.inr (2, [Value.long xlow, Value.long xrange, Value.long xcode, Value.long v_5, Value.long xreadRange, Value.ref ri, Value.ref ro, Value.ref rw, Value.int xasked])), (ri, Sum.inr (0, [Value.int rin, Value.ref ria])), (ria, Sum.inl (cI, rik, Sum.inl rif))] H := ⟨hP, hD⟩
    have hP := hPD.1
    have hD := hPD.2
    refine lv_aload_n hx hb d_NoCarries_readPart_35 rfl (lv_at hl 1 rfl) ?_
    refine lv_lload hx hb d_NoCarries_readPart_36 (lv_at hl 0 rfl) ?_
    refine lv_iload_n hx hb d_NoCarries_readPart_38 rfl (lv_at hl 2 rfl) ?_
    refine lv_i2l hx hb d_NoCarries_readPart_39 rfl ?_
    refine lv_topl (fun v_6 ev_6 => ?_)
    refine lv_lmul hx hb d_NoCarries_readPart_40 ?_
    refine lv_topl (fun v_7 ev_7 => ?_)
    refine lv_ldc2 (v := 4294967295) hx hb hown (hg _ k509) d_NoCarries_readPart_41 ?_
    refine lv_land hx hb d_NoCarries_readPart_44 ?_
    refine lv_topl (fun v_8 ev_8 => ?_)
    refine va_put (D := (dC, dI)) (ci := 2) (v := .long v_8) (ty := .long) (C := "RangeCoders$NoCarries") (T := T_NoCarries) (N := 9) hx hb hg in_NoCarries t_NoCarries o_NoCarries n_NoCarries hown hK hP hD hS 0 rfl rfl 4 (by decide) (hg _ k94) (fun x9 h9 => u_same (hg _ k95) x9 h9) rfl (by decide +kernel) rfl rfl (Nat.le_of_ble_eq_true rfl) d_NoCarries_readPart_45 (fun H locs hP hD hS => ?_)
    have hPD : my_PD (dC, dI) vwCl A [(co, Sum.inr (2, [Value.long xlow, Value.long xrange, Value.long xcode, Value.long v_5, Value.long v_8, Value.ref ri, Value.ref ro, Value.ref rw, Value.int xasked])), (ri, Sum.inr (0, [Value.int rin, Value.ref ria])), (ria, Sum.inl (cI, rik, Sum.inl rif))] H := ⟨hP, hD⟩
    have hP := hPD.1
    have hD := hPD.2
    refine lv_iconst (v := 0) hx hb d_NoCarries_readPart_48 (by decide) ?_
    refine lv_istore (lv' := [(6, Value.int 0), (4, Value.long 0), (0, Value.ref co), (1, Value.int pf), (2, Value.int pcc), (3, Value.int pt)]) hx hb d_NoCarries_readPart_49 hl (by decide) rfl (fun ls hl => ?_)
    have J_51 : ∀ (n9_51 : Nat) (b51_0 : Int32) (b51_1 : Int64) (b51_2 : Int64) (b51_3 : Int64) (b51_4 : Int32) (hn9_51 : ((8 : Int32).toInt - b51_0.toInt).toNat = n9_51) (hi_51 : 0 ≤ b51_0.toInt) (H : Heap) (locs : List Loc) (ls : Array Slot), va_P (dC, dI) vwCl [(co, Sum.inr (2, [Value.long xlow, Value.long xrange, Value.long b51_1, Value.long b51_2, Value.long b51_3, Value.ref ri, Value.ref ro, Value.ref rw, Value.int b51_4])), (ri, Sum.inr (0, [Value.int rin, Value.ref ria])), (ria, Sum.inl (cI, rik, Sum.inl rif))] H → va_D A [(co, Sum.inr (2, [Value.long xlow, Value.long xrange, Value.long b51_1, Value.long b51_2, Value.long b51_3, Value.ref ri, Value.ref ro, Value.ref rw, Value.int b51_4])), (ri, Sum.inr (0, [Value.int rin, Value.ref ria])), (ria, Sum.inl (cI, rik, Sum.inl rif))] → va_S A s.heap H locs → lv_has ls 7 [(6, Value.int b51_0), (4, Value.long 0), (0, Value.ref co), (1, Value.int pf), (2, Value.int pcc), (3, Value.int pt)] → W p l e R s m args below meth c H locs 0 0 Q (F0 m 51 ls []) := by
      intro n9_51
      induction n9_51 using Nat.strongRecOn with
      | ind n9_51 ih9_51 =>
        intro b51_0 b51_1 b51_2 b51_3 b51_4 hn9_51 hi_51 H locs ls hP hD hS hl
        refine lv_iload hx hb d_NoCarries_readPart_51 (lv_at hl 0 rfl) ?_
        refine lv_bipush (v := 8) hx hb d_NoCarries_readPart_53 (by decide) ?_
        refine lv_icmp_ge (tgt := 129) hx hb d_NoCarries_readPart_55 (by decide) (fun c_9 => ?_) (fun c_9 => ?_)
        · exact my_vret hx hb hr hlocks hQ hK hS (Nat.le_refl _) (Nat.le_refl _) (b51_1, b51_2, b51_3, b51_4) (trivial) (hP.sub [0, 1, 2] rfl) (hD.sub [0, 1, 2] (by decide +kernel) rfl) d_NoCarries_readPart_129
        · refine lv_aload_n hx hb d_NoCarries_readPart_58 rfl (lv_at hl 2 rfl) ?_
          refine va_get (D := (dC, dI)) (ci := 2) (v := .long b51_2) (C := "RangeCoders$NoCarries") (T := T_NoCarries) (N := 9) hx hb hg in_NoCarries hown hK hP 0 rfl rfl 3 (by decide) (hg _ k91) (fun x9 h9 => u_same (hg _ k92) x9 h9) rfl d_NoCarries_readPart_59 ?_
          refine lv_aload_n hx hb d_NoCarries_readPart_62 rfl (lv_at hl 2 rfl) ?_
          refine va_get (D := (dC, dI)) (ci := 2) (v := .long b51_3) (C := "RangeCoders$NoCarries") (T := T_NoCarries) (N := 9) hx hb hg in_NoCarries hown hK hP 0 rfl rfl 4 (by decide) (hg _ k94) (fun x9 h9 => u_same (hg _ k95) x9 h9) rfl d_NoCarries_readPart_63 ?_
          refine my_ci (wr := [(co, Sum.inr (2, [Value.long xlow, Value.long xrange, Value.long b51_1, Value.long b51_2, Value.long b51_3, Value.ref ri, Value.ref ro, Value.ref rw, Value.int b51_4])), (ri, Sum.inr (0, [Value.int rin, Value.ref ria])), (ria, Sum.inl (cI, rik, Sum.inl rif))]) (va_runS (As := [Value.long b51_2, Value.long b51_3]) (rest := []) ⟨hx, hb, hml, hown, hts⟩ (c_NoCarries_mustMove l dC dI cI cM cO H.size b51_2 b51_3) (cwS 2 hts (my_gS k510 k511 k7 k512) rfl rfl rfl (by decide +kernel) ⟨by rw [hR]; exact Nat.le_of_ble_eq_true rfl, by rw [hR]; exact Nat.le_of_ble_eq_true rfl⟩) (my_pre hK hN (hP.sub [] rfl) (hD.sub [] (by decide +kernel) rfl)) rfl rfl hl.1 rfl (lv_room (Nat.le_of_ble_eq_true rfl)) d_NoCarries_readPart_66 ⟨by rw [hR]; exact Nat.le_of_ble_eq_true rfl, by rw [hR]; exact Nat.le_of_ble_eq_true rfl⟩) hP hD hS hA [] [0, 1, 2] rfl rfl (by decide +kernel) (by decide +kernel) (fun r_66 u9 H locs hw_66 hP hD hS => ?_)
          have hPD : my_PD (dC, dI) vwCl A [(co, Sum.inr (2, [Value.long xlow, Value.long xrange, Value.long b51_1, Value.long b51_2, Value.long b51_3, Value.ref ri, Value.ref ro, Value.ref rw, Value.int b51_4])), (ri, Sum.inr (0, [Value.int rin, Value.ref ria])), (ria, Sum.inl (cI, rik, Sum.inl rif))] H := ⟨hP, hD⟩
          have hP := hPD.1
          have hD := hPD.2
          refine lv_if_eq (tgt := 129) hx hb d_NoCarries_readPart_69 (by decide) (fun c_10 => ?_) (fun c_10 => ?_)
          · exact my_vret hx hb hr hlocks hQ hK hS (Nat.le_refl _) (Nat.le_refl _) (b51_1, b51_2, b51_3, b51_4) (trivial) (hP.sub [0, 1, 2] rfl) (hD.sub [0, 1, 2] (by decide +kernel) rfl) d_NoCarries_readPart_129
          · refine lv_aload_n hx hb d_NoCarries_readPart_72 rfl (lv_at hl 2 rfl) ?_
            refine lv_aload_n hx hb d_NoCarries_readPart_73 rfl (lv_at hl 2 rfl) ?_
            refine va_get (D := (dC, dI)) (ci := 2) (v := .long b51_2) (C := "RangeCoders$NoCarries") (T := T_NoCarries) (N := 9) hx hb hg in_NoCarries hown hK hP 0 rfl rfl 3 (by decide) (hg _ k91) (fun x9 h9 => u_same (hg _ k92) x9 h9) rfl d_NoCarries_readPart_74 ?_
            refine lv_aload_n hx hb d_NoCarries_readPart_77 rfl (lv_at hl 2 rfl) ?_
            refine va_get (D := (dC, dI)) (ci := 2) (v := .long b51_3) (C := "RangeCoders$NoCarries") (T := T_NoCarries) (N := 9) hx hb hg in_NoCarries hown hK hP 0 rfl rfl 4 (by decide) (hg _ k94) (fun x9 h9 => u_same (hg _ k95) x9 h9) rfl d_NoCarries_readPart_78 ?_
            refine my_cl (wr := [(co, Sum.inr (2, [Value.long xlow, Value.long xrange, Value.long b51_1, Value.long b51_2, Value.long b51_3, Value.ref ri, Value.ref ro, Value.ref rw, Value.int b51_4])), (ri, Sum.inr (0, [Value.int rin, Value.ref ria])), (ria, Sum.inl (cI, rik, Sum.inl rif))]) (va_runS (As := [Value.long b51_2, Value.long b51_3]) (rest := [Value.ref co]) ⟨hx, hb, hml, hown, hts⟩ (c_NoCarries_moved l dC dI cI cM cO H.size b51_2 b51_3) (cwS 2 hts (my_gS k517 k518 k7 k519) rfl rfl rfl (by decide +kernel) ⟨by rw [hR]; exact Nat.le_of_ble_eq_true rfl, by rw [hR]; exact Nat.le_of_ble_eq_true rfl⟩) (my_pre hK hN (hP.sub [] rfl) (hD.sub [] (by decide +kernel) rfl)) rfl rfl hl.1 rfl (lv_room (Nat.le_of_ble_eq_true rfl)) d_NoCarries_readPart_81 ⟨by rw [hR]; exact Nat.le_of_ble_eq_true rfl, by rw [hR]; exact Nat.le_of_ble_eq_true rfl⟩) hP hD hS hA [] [0, 1, 2] rfl rfl (by decide +kernel) (by decide +kernel) (fun r_81 u9 H locs hw_81 hP hD hS => ?_)
            have hPD : my_PD (dC, dI) vwCl A [(co, Sum.inr (2, [Value.long xlow, Value.long xrange, Value.long b51_1, Value.long b51_2, Value.long b51_3, Value.ref ri, Value.ref ro, Value.ref rw, Value.int b51_4])), (ri, Sum.inr (0, [Value.int rin, Value.ref ria])), (ria, Sum.inl (cI, rik, Sum.inl rif))] H := ⟨hP, hD⟩
            have hP := hPD.1
            have hD := hPD.2
            refine va_put (D := (dC, dI)) (ci := 2) (v := .long r_81) (ty := .long) (C := "RangeCoders$NoCarries") (T := T_NoCarries) (N := 9) hx hb hg in_NoCarries t_NoCarries o_NoCarries n_NoCarries hown hK hP hD hS 0 rfl rfl 4 (by decide) (hg _ k94) (fun x9 h9 => u_same (hg _ k95) x9 h9) rfl (by decide +kernel) rfl rfl (Nat.le_of_ble_eq_true rfl) d_NoCarries_readPart_84 (fun H locs hP hD hS => ?_)
            have hPD : my_PD (dC, dI) vwCl A [(co, Sum.inr (2, [Value.long xlow, Value.long xrange, Value.long b51_1, Value.long b51_2, Value.long r_81, Value.ref ri, Value.ref ro, Value.ref rw, Value.int b51_4])), (ri, Sum.inr (0, [Value.int rin, Value.ref ria])), (ria, Sum.inl (cI, rik, Sum.inl rif))] H := ⟨hP, hD⟩
            have hP := hPD.1
            have hD := hPD.2
            refine lv_aload_n hx hb d_NoCarries_readPart_87 rfl (lv_at hl 2 rfl) ?_
            refine lv_aload_n hx hb d_NoCarries_readPart_88 rfl (lv_at hl 2 rfl) ?_
            refine va_get (D := (dC, dI)) (ci := 2) (v := .long b51_2) (C := "RangeCoders$NoCarries") (T := T_NoCarries) (N := 9) hx hb hg in_NoCarries hown hK hP 0 rfl rfl 3 (by decide) (hg _ k91) (fun x9 h9 => u_same (hg _ k92) x9 h9) rfl d_NoCarries_readPart_89 ?_
            refine lv_bipush (v := 8) hx hb d_NoCarries_readPart_92 (by decide) ?_
            refine lv_lshl hx hb d_NoCarries_readPart_94 rfl ?_
            refine lv_topl (fun v_11 ev_11 => ?_)
            refine lv_ldc2 (v := 4294967295) hx hb hown (hg _ k509) d_NoCarries_readPart_95 ?_
            refine lv_land hx hb d_NoCarries_readPart_98 ?_
            refine lv_topl (fun v_12 ev_12 => ?_)
            refine va_put (D := (dC, dI)) (ci := 2) (v := .long v_12) (ty := .long) (C := "RangeCoders$NoCarries") (T := T_NoCarries) (N := 9) hx hb hg in_NoCarries t_NoCarries o_NoCarries n_NoCarries hown hK hP hD hS 0 rfl rfl 3 (by decide) (hg _ k91) (fun x9 h9 => u_same (hg _ k92) x9 h9) rfl (by decide +kernel) rfl rfl (Nat.le_of_ble_eq_true rfl) d_NoCarries_readPart_99 (fun H locs hP hD hS => ?_)
            have hPD : my_PD (dC, dI) vwCl A [(co, Sum.inr (2, [Value.long xlow, Value.long xrange, Value.long b51_1, Value.long v_12, Value.long r_81, Value.ref ri, Value.ref ro, Value.ref rw, Value.int b51_4])), (ri, Sum.inr (0, [Value.int rin, Value.ref ria])), (ria, Sum.inl (cI, rik, Sum.inl rif))] H := ⟨hP, hD⟩
            have hP := hPD.1
            have hD := hPD.2
            refine lv_aload_n hx hb d_NoCarries_readPart_102 rfl (lv_at hl 2 rfl) ?_
            refine lv_aload_n hx hb d_NoCarries_readPart_103 rfl (lv_at hl 2 rfl) ?_
            refine va_get (D := (dC, dI)) (ci := 2) (v := .long b51_1) (C := "RangeCoders$NoCarries") (T := T_NoCarries) (N := 9) hx hb hg in_NoCarries hown hK hP 0 rfl rfl 2 (by decide) (hg _ k84) (fun x9 h9 => u_same (hg _ k85) x9 h9) rfl d_NoCarries_readPart_104 ?_
            refine lv_bipush (v := 8) hx hb d_NoCarries_readPart_107 (by decide) ?_
            refine lv_lshl hx hb d_NoCarries_readPart_109 rfl ?_
            refine lv_topl (fun v_13 ev_13 => ?_)
            refine lv_aload_n hx hb d_NoCarries_readPart_110 rfl (lv_at hl 2 rfl) ?_
            refine my_ci (wr := []) (va_runU (As := []) (rest := [Value.long v_13, Value.ref co]) ⟨hx, hb, hml, hown, hts⟩ (c_NoCarries_Coder_nextByte l dC dI cI cM cO H.size co xlow xrange b51_1 v_12 r_81 ri ro rw b51_4 rin ria rik rif (by first | assumption | omega)) (va_cwU 0 hts (my_gU k826 k827 k828 k742 k3 k749) rfl rfl rfl rfl (by decide +kernel) ⟨by rw [hR]; exact Nat.le_of_ble_eq_true rfl, by rw [hR]; exact Nat.le_of_ble_eq_true rfl⟩) (my_preV hK hN (hP.sub [0, 1, 2] rfl) (hD.sub [0, 1, 2] (by decide +kernel) rfl) 0 rfl rfl) rfl rfl hl.1 rfl (lv_room (Nat.le_of_ble_eq_true rfl)) d_NoCarries_readPart_111 ⟨by rw [hR]; exact Nat.le_of_ble_eq_true rfl, by rw [hR]; exact Nat.le_of_ble_eq_true rfl⟩) hP hD hS hA [0, 1, 2] [] rfl rfl (by decide +kernel) (by decide +kernel) (fun r_111 u9 H locs hw_111 hP hD hS => ?_)
            obtain ⟨xaskedq_111, rfl⟩ : ∃ z, z = u9 := ⟨_, rfl⟩
            have hPD : my_PD (dC, dI) vwCl A [(co, Sum.inr (2, [Value.long xlow, Value.long xrange, Value.long b51_1, Value.long v_12, Value.long r_81, Value.ref ri, Value.ref ro, Value.ref rw, Value.int xaskedq_111])), (ri, Sum.inr (0, [Value.int rin, Value.ref ria])), (ria, Sum.inl (cI, rik, Sum.inl rif))] H := ⟨hP, hD⟩
            have hP := hPD.1
            have hD := hPD.2
            refine lv_i2l hx hb d_NoCarries_readPart_114 rfl ?_
            refine lv_topl (fun v_14 ev_14 => ?_)
            refine lv_lor hx hb d_NoCarries_readPart_115 ?_
            refine lv_topl (fun v_15 ev_15 => ?_)
            refine lv_ldc2 (v := 4294967295) hx hb hown (hg _ k509) d_NoCarries_readPart_116 ?_
            refine lv_land hx hb d_NoCarries_readPart_119 ?_
            refine lv_topl (fun v_16 ev_16 => ?_)
            refine va_put (D := (dC, dI)) (ci := 2) (v := .long v_16) (ty := .long) (C := "RangeCoders$NoCarries") (T := T_NoCarries) (N := 9) hx hb hg in_NoCarries t_NoCarries o_NoCarries n_NoCarries hown hK hP hD hS 0 rfl rfl 2 (by decide) (hg _ k84) (fun x9 h9 => u_same (hg _ k85) x9 h9) rfl (by decide +kernel) rfl rfl (Nat.le_of_ble_eq_true rfl) d_NoCarries_readPart_120 (fun H locs hP hD hS => ?_)
            have hPD : my_PD (dC, dI) vwCl A [(co, Sum.inr (2, [Value.long xlow, Value.long xrange, Value.long v_16, Value.long v_12, Value.long r_81, Value.ref ri, Value.ref ro, Value.ref rw, Value.int xaskedq_111])), (ri, Sum.inr (0, [Value.int rin, Value.ref ria])), (ria, Sum.inl (cI, rik, Sum.inl rif))] H := ⟨hP, hD⟩
            have hP := hPD.1
            have hD := hPD.2
            obtain ⟨v_17, ev_17⟩ : ∃ y : Int32, y = b51_0 + (1) := ⟨_, rfl⟩
            refine lv_iinc (v := v_17) (lv' := [(6, Value.int v_17), (4, Value.long 0), (0, Value.ref co), (1, Value.int pf), (2, Value.int pcc), (3, Value.int pt)]) hx hb d_NoCarries_readPart_123 hl (k := 0) rfl (by rw [ev_17]; rfl) (by decide) rfl (fun ls hl => ?_)
            refine lv_goto (tgt := 51) hx hb d_NoCarries_readPart_126 (by decide) ?_
            exact ih9_51 _ (by first | omega | (have z9 := I_up c_9 ev_17; omega)) v_17 v_16 v_12 r_81 xaskedq_111 rfl (by have z9 := I_up c_9 ev_17; omega) H locs ls (hP.sub [0, 1, 2] rfl) (hD.sub [0, 1, 2] (by decide +kernel) rfl) hS (lv_sub hl [0, 1, 2, 3, 4, 5] rfl)
    exact J_51 _ (0 : Int32) xcode v_5 v_8 xasked rfl (by first | decide | assumption | omega) H locs ls (hP.sub [0, 1, 2] rfl) (hD.sub [0, 1, 2] (by decide +kernel) rfl) hS (lv_sub hl [0, 1, 2, 3, 4, 5] rfl)
  · refine lv_aload_n hx hb d_NoCarries_readPart_4 rfl (lv_at hl 0 rfl) ?_
    refine va_get (D := (dC, dI)) (ci := 2) (v := .long xreadRange) (C := "RangeCoders$NoCarries") (T := T_NoCarries) (N := 9) hx hb hg in_NoCarries hown hK hP 0 rfl rfl 4 (by decide) (hg _ k94) (fun x9 h9 => u_same (hg _ k95) x9 h9) rfl d_NoCarries_readPart_5 ?_
    refine lv_iload_n hx hb d_NoCarries_readPart_8 rfl (lv_at hl 3 rfl) ?_
    refine lv_i2l hx hb d_NoCarries_readPart_9 rfl ?_
    refine lv_topl (fun v_18 ev_18 => ?_)
    refine lv_ldiv hx hb d_NoCarries_readPart_10 (by rw [ev_18]; first | exact L_nzi (by assumption) | exact L_nzip (by assumption)) ?_
    refine lv_topl (fun v_19 ev_19 => ?_)
    refine lv_goto (tgt := 15) hx hb d_NoCarries_readPart_11 (by decide) ?_
    refine lv_lstore (lv' := [(4, Value.long v_19), (0, Value.ref co), (1, Value.int pf), (2, Value.int pcc), (3, Value.int pt)]) hx hb d_NoCarries_readPart_15 hl (by decide) rfl (fun ls hl => ?_)
    refine lv_aload_n hx hb d_NoCarries_readPart_17 rfl (lv_at hl 1 rfl) ?_
    refine lv_aload_n hx hb d_NoCarries_readPart_18 rfl (lv_at hl 1 rfl) ?_
    refine va_get (D := (dC, dI)) (ci := 2) (v := .long xreadLow) (C := "RangeCoders$NoCarries") (T := T_NoCarries) (N := 9) hx hb hg in_NoCarries hown hK hP 0 rfl rfl 3 (by decide) (hg _ k91) (fun x9 h9 => u_same (hg _ k92) x9 h9) rfl d_NoCarries_readPart_19 ?_
    refine lv_lload hx hb d_NoCarries_readPart_22 (lv_at hl 0 rfl) ?_
    refine lv_iload_n hx hb d_NoCarries_readPart_24 rfl (lv_at hl 3 rfl) ?_
    refine lv_i2l hx hb d_NoCarries_readPart_25 rfl ?_
    refine lv_topl (fun v_20 ev_20 => ?_)
    refine lv_lmul hx hb d_NoCarries_readPart_26 ?_
    refine lv_topl (fun v_21 ev_21 => ?_)
    refine lv_ladd hx hb d_NoCarries_readPart_27 ?_
    refine lv_topl (fun v_22 ev_22 => ?_)
    refine lv_ldc2 (v := 4294967295) hx hb hown (hg _ k509) d_NoCarries_readPart_28 ?_
    refine lv_land hx hb d_NoCarries_readPart_31 ?_
    refine lv_topl (fun v_23 ev_23 => ?_)
    refine va_put (D := (dC, dI)) (ci := 2) (v := .long v_23) (ty := .long) (C := "RangeCoders$NoCarries") (T := T_NoCarries) (N := 9) hx hb hg in_NoCarries t_NoCarries o_NoCarries n_NoCarries hown hK hP hD hS 0 rfl rfl 3 (by decide) (hg _ k91) (fun x9 h9 => u_same (hg _ k92) x9 h9) rfl (by decide +kernel) rfl rfl (Nat.le_of_ble_eq_true rfl) d_NoCarries_readPart_32 (fun H locs hP hD hS => ?_)
    have hPD : my_PD (dC, dI) vwCl A [(co, Sum.inr (2, [Value.long xlow, Value.long xrange, Value.long xcode, Value.long v_23, Value.long xreadRange, Value.ref ri, Value.ref ro, Value.ref rw, Value.int xasked])), (ri, Sum.inr (0, [Value.int rin, Value.ref ria])), (ria, Sum.inl (cI, rik, Sum.inl rif))] H := ⟨hP, hD⟩
    have hP := hPD.1
    have hD := hPD.2
    refine lv_aload_n hx hb d_NoCarries_readPart_35 rfl (lv_at hl 1 rfl) ?_
    refine lv_lload hx hb d_NoCarries_readPart_36 (lv_at hl 0 rfl) ?_
    refine lv_iload_n hx hb d_NoCarries_readPart_38 rfl (lv_at hl 2 rfl) ?_
    refine lv_i2l hx hb d_NoCarries_readPart_39 rfl ?_
    refine lv_topl (fun v_24 ev_24 => ?_)
    refine lv_lmul hx hb d_NoCarries_readPart_40 ?_
    refine lv_topl (fun v_25 ev_25 => ?_)
    refine lv_ldc2 (v := 4294967295) hx hb hown (hg _ k509) d_NoCarries_readPart_41 ?_
    refine lv_land hx hb d_NoCarries_readPart_44 ?_
    refine lv_topl (fun v_26 ev_26 => ?_)
    refine va_put (D := (dC, dI)) (ci := 2) (v := .long v_26) (ty := .long) (C := "RangeCoders$NoCarries") (T := T_NoCarries) (N := 9) hx hb hg in_NoCarries t_NoCarries o_NoCarries n_NoCarries hown hK hP hD hS 0 rfl rfl 4 (by decide) (hg _ k94) (fun x9 h9 => u_same (hg _ k95) x9 h9) rfl (by decide +kernel) rfl rfl (Nat.le_of_ble_eq_true rfl) d_NoCarries_readPart_45 (fun H locs hP hD hS => ?_)
    have hPD : my_PD (dC, dI) vwCl A [(co, Sum.inr (2, [Value.long xlow, Value.long xrange, Value.long xcode, Value.long v_23, Value.long v_26, Value.ref ri, Value.ref ro, Value.ref rw, Value.int xasked])), (ri, Sum.inr (0, [Value.int rin, Value.ref ria])), (ria, Sum.inl (cI, rik, Sum.inl rif))] H := ⟨hP, hD⟩
    have hP := hPD.1
    have hD := hPD.2
    refine lv_iconst (v := 0) hx hb d_NoCarries_readPart_48 (by decide) ?_
    refine lv_istore (lv' := [(6, Value.int 0), (4, Value.long v_19), (0, Value.ref co), (1, Value.int pf), (2, Value.int pcc), (3, Value.int pt)]) hx hb d_NoCarries_readPart_49 hl (by decide) rfl (fun ls hl => ?_)
    have J_51 : ∀ (n9_51 : Nat) (b51_0 : Int32) (b51_1 : Int64) (b51_2 : Int64) (b51_3 : Int64) (b51_4 : Int32) (hn9_51 : ((8 : Int32).toInt - b51_0.toInt).toNat = n9_51) (hi_51 : 0 ≤ b51_0.toInt) (H : Heap) (locs : List Loc) (ls : Array Slot), va_P (dC, dI) vwCl [(co, Sum.inr (2, [Value.long xlow, Value.long xrange, Value.long b51_1, Value.long b51_2, Value.long b51_3, Value.ref ri, Value.ref ro, Value.ref rw, Value.int b51_4])), (ri, Sum.inr (0, [Value.int rin, Value.ref ria])), (ria, Sum.inl (cI, rik, Sum.inl rif))] H → va_D A [(co, Sum.inr (2, [Value.long xlow, Value.long xrange, Value.long b51_1, Value.long b51_2, Value.long b51_3, Value.ref ri, Value.ref ro, Value.ref rw, Value.int b51_4])), (ri, Sum.inr (0, [Value.int rin, Value.ref ria])), (ria, Sum.inl (cI, rik, Sum.inl rif))] → va_S A s.heap H locs → lv_has ls 7 [(6, Value.int b51_0), (4, Value.long v_19), (0, Value.ref co), (1, Value.int pf), (2, Value.int pcc), (3, Value.int pt)] → W p l e R s m args below meth c H locs 0 0 Q (F0 m 51 ls []) := by
      intro n9_51
      induction n9_51 using Nat.strongRecOn with
      | ind n9_51 ih9_51 =>
        intro b51_0 b51_1 b51_2 b51_3 b51_4 hn9_51 hi_51 H locs ls hP hD hS hl
        refine lv_iload hx hb d_NoCarries_readPart_51 (lv_at hl 0 rfl) ?_
        refine lv_bipush (v := 8) hx hb d_NoCarries_readPart_53 (by decide) ?_
        refine lv_icmp_ge (tgt := 129) hx hb d_NoCarries_readPart_55 (by decide) (fun c_27 => ?_) (fun c_27 => ?_)
        · exact my_vret hx hb hr hlocks hQ hK hS (Nat.le_refl _) (Nat.le_refl _) (b51_1, b51_2, b51_3, b51_4) (trivial) (hP.sub [0, 1, 2] rfl) (hD.sub [0, 1, 2] (by decide +kernel) rfl) d_NoCarries_readPart_129
        · refine lv_aload_n hx hb d_NoCarries_readPart_58 rfl (lv_at hl 2 rfl) ?_
          refine va_get (D := (dC, dI)) (ci := 2) (v := .long b51_2) (C := "RangeCoders$NoCarries") (T := T_NoCarries) (N := 9) hx hb hg in_NoCarries hown hK hP 0 rfl rfl 3 (by decide) (hg _ k91) (fun x9 h9 => u_same (hg _ k92) x9 h9) rfl d_NoCarries_readPart_59 ?_
          refine lv_aload_n hx hb d_NoCarries_readPart_62 rfl (lv_at hl 2 rfl) ?_
          refine va_get (D := (dC, dI)) (ci := 2) (v := .long b51_3) (C := "RangeCoders$NoCarries") (T := T_NoCarries) (N := 9) hx hb hg in_NoCarries hown hK hP 0 rfl rfl 4 (by decide) (hg _ k94) (fun x9 h9 => u_same (hg _ k95) x9 h9) rfl d_NoCarries_readPart_63 ?_
          refine my_ci (wr := [(co, Sum.inr (2, [Value.long xlow, Value.long xrange, Value.long b51_1, Value.long b51_2, Value.long b51_3, Value.ref ri, Value.ref ro, Value.ref rw, Value.int b51_4])), (ri, Sum.inr (0, [Value.int rin, Value.ref ria])), (ria, Sum.inl (cI, rik, Sum.inl rif))]) (va_runS (As := [Value.long b51_2, Value.long b51_3]) (rest := []) ⟨hx, hb, hml, hown, hts⟩ (c_NoCarries_mustMove l dC dI cI cM cO H.size b51_2 b51_3) (cwS 2 hts (my_gS k510 k511 k7 k512) rfl rfl rfl (by decide +kernel) ⟨by rw [hR]; exact Nat.le_of_ble_eq_true rfl, by rw [hR]; exact Nat.le_of_ble_eq_true rfl⟩) (my_pre hK hN (hP.sub [] rfl) (hD.sub [] (by decide +kernel) rfl)) rfl rfl hl.1 rfl (lv_room (Nat.le_of_ble_eq_true rfl)) d_NoCarries_readPart_66 ⟨by rw [hR]; exact Nat.le_of_ble_eq_true rfl, by rw [hR]; exact Nat.le_of_ble_eq_true rfl⟩) hP hD hS hA [] [0, 1, 2] rfl rfl (by decide +kernel) (by decide +kernel) (fun r_66 u9 H locs hw_66 hP hD hS => ?_)
          have hPD : my_PD (dC, dI) vwCl A [(co, Sum.inr (2, [Value.long xlow, Value.long xrange, Value.long b51_1, Value.long b51_2, Value.long b51_3, Value.ref ri, Value.ref ro, Value.ref rw, Value.int b51_4])), (ri, Sum.inr (0, [Value.int rin, Value.ref ria])), (ria, Sum.inl (cI, rik, Sum.inl rif))] H := ⟨hP, hD⟩
          have hP := hPD.1
          have hD := hPD.2
          refine lv_if_eq (tgt := 129) hx hb d_NoCarries_readPart_69 (by decide) (fun c_28 => ?_) (fun c_28 => ?_)
          · exact my_vret hx hb hr hlocks hQ hK hS (Nat.le_refl _) (Nat.le_refl _) (b51_1, b51_2, b51_3, b51_4) (trivial) (hP.sub [0, 1, 2] rfl) (hD.sub [0, 1, 2] (by decide +kernel) rfl) d_NoCarries_readPart_129
          · refine lv_aload_n hx hb d_NoCarries_readPart_72 rfl (lv_at hl 2 rfl) ?_
            refine lv_aload_n hx hb d_NoCarries_readPart_73 rfl (lv_at hl 2 rfl) ?_
            refine va_get (D := (dC, dI)) (ci := 2) (v := .long b51_2) (C := "RangeCoders$NoCarries") (T := T_NoCarries) (N := 9) hx hb hg in_NoCarries hown hK hP 0 rfl rfl 3 (by decide) (hg _ k91) (fun x9 h9 => u_same (hg _ k92) x9 h9) rfl d_NoCarries_readPart_74 ?_
            refine lv_aload_n hx hb d_NoCarries_readPart_77 rfl (lv_at hl 2 rfl) ?_
            refine va_get (D := (dC, dI)) (ci := 2) (v := .long b51_3) (C := "RangeCoders$NoCarries") (T := T_NoCarries) (N := 9) hx hb hg in_NoCarries hown hK hP 0 rfl rfl 4 (by decide) (hg _ k94) (fun x9 h9 => u_same (hg _ k95) x9 h9) rfl d_NoCarries_readPart_78 ?_
            refine my_cl (wr := [(co, Sum.inr (2, [Value.long xlow, Value.long xrange, Value.long b51_1, Value.long b51_2, Value.long b51_3, Value.ref ri, Value.ref ro, Value.ref rw, Value.int b51_4])), (ri, Sum.inr (0, [Value.int rin, Value.ref ria])), (ria, Sum.inl (cI, rik, Sum.inl rif))]) (va_runS (As := [Value.long b51_2, Value.long b51_3]) (rest := [Value.ref co]) ⟨hx, hb, hml, hown, hts⟩ (c_NoCarries_moved l dC dI cI cM cO H.size b51_2 b51_3) (cwS 2 hts (my_gS k517 k518 k7 k519) rfl rfl rfl (by decide +kernel) ⟨by rw [hR]; exact Nat.le_of_ble_eq_true rfl, by rw [hR]; exact Nat.le_of_ble_eq_true rfl⟩) (my_pre hK hN (hP.sub [] rfl) (hD.sub [] (by decide +kernel) rfl)) rfl rfl hl.1 rfl (lv_room (Nat.le_of_ble_eq_true rfl)) d_NoCarries_readPart_81 ⟨by rw [hR]; exact Nat.le_of_ble_eq_true rfl, by rw [hR]; exact Nat.le_of_ble_eq_true rfl⟩) hP hD hS hA [] [0, 1, 2] rfl rfl (by decide +kernel) (by decide +kernel) (fun r_81 u9 H locs hw_81 hP hD hS => ?_)
            have hPD : my_PD (dC, dI) vwCl A [(co, Sum.inr (2, [Value.long xlow, Value.long xrange, Value.long b51_1, Value.long b51_2, Value.long b51_3, Value.ref ri, Value.ref ro, Value.ref rw, Value.int b51_4])), (ri, Sum.inr (0, [Value.int rin, Value.ref ria])), (ria, Sum.inl (cI, rik, Sum.inl rif))] H := ⟨hP, hD⟩
            have hP := hPD.1
            have hD := hPD.2
            refine va_put (D := (dC, dI)) (ci := 2) (v := .long r_81) (ty := .long) (C := "RangeCoders$NoCarries") (T := T_NoCarries) (N := 9) hx hb hg in_NoCarries t_NoCarries o_NoCarries n_NoCarries hown hK hP hD hS 0 rfl rfl 4 (by decide) (hg _ k94) (fun x9 h9 => u_same (hg _ k95) x9 h9) rfl (by decide +kernel) rfl rfl (Nat.le_of_ble_eq_true rfl) d_NoCarries_readPart_84 (fun H locs hP hD hS => ?_)
            have hPD : my_PD (dC, dI) vwCl A [(co, Sum.inr (2, [Value.long xlow, Value.long xrange, Value.long b51_1, Value.long b51_2, Value.long r_81, Value.ref ri, Value.ref ro, Value.ref rw, Value.int b51_4])), (ri, Sum.inr (0, [Value.int rin, Value.ref ria])), (ria, Sum.inl (cI, rik, Sum.inl rif))] H := ⟨hP, hD⟩
            have hP := hPD.1
            have hD := hPD.2
            refine lv_aload_n hx hb d_NoCarries_readPart_87 rfl (lv_at hl 2 rfl) ?_
            refine lv_aload_n hx hb d_NoCarries_readPart_88 rfl (lv_at hl 2 rfl) ?_
            refine va_get (D := (dC, dI)) (ci := 2) (v := .long b51_2) (C := "RangeCoders$NoCarries") (T := T_NoCarries) (N := 9) hx hb hg in_NoCarries hown hK hP 0 rfl rfl 3 (by decide) (hg _ k91) (fun x9 h9 => u_same (hg _ k92) x9 h9) rfl d_NoCarries_readPart_89 ?_
            refine lv_bipush (v := 8) hx hb d_NoCarries_readPart_92 (by decide) ?_
            refine lv_lshl hx hb d_NoCarries_readPart_94 rfl ?_
            refine lv_topl (fun v_29 ev_29 => ?_)
            refine lv_ldc2 (v := 4294967295) hx hb hown (hg _ k509) d_NoCarries_readPart_95 ?_
            refine lv_land hx hb d_NoCarries_readPart_98 ?_
            refine lv_topl (fun v_30 ev_30 => ?_)
            refine va_put (D := (dC, dI)) (ci := 2) (v := .long v_30) (ty := .long) (C := "RangeCoders$NoCarries") (T := T_NoCarries) (N := 9) hx hb hg in_NoCarries t_NoCarries o_NoCarries n_NoCarries hown hK hP hD hS 0 rfl rfl 3 (by decide) (hg _ k91) (fun x9 h9 => u_same (hg _ k92) x9 h9) rfl (by decide +kernel) rfl rfl (Nat.le_of_ble_eq_true rfl) d_NoCarries_readPart_99 (fun H locs hP hD hS => ?_)
            have hPD : my_PD (dC, dI) vwCl A [(co, Sum.inr (2, [Value.long xlow, Value.long xrange, Value.long b51_1, Value.long v_30, Value.long r_81, Value.ref ri, Value.ref ro, Value.ref rw, Value.int b51_4])), (ri, Sum.inr (0, [Value.int rin, Value.ref ria])), (ria, Sum.inl (cI, rik, Sum.inl rif))] H := ⟨hP, hD⟩
            have hP := hPD.1
            have hD := hPD.2
            refine lv_aload_n hx hb d_NoCarries_readPart_102 rfl (lv_at hl 2 rfl) ?_
            refine lv_aload_n hx hb d_NoCarries_readPart_103 rfl (lv_at hl 2 rfl) ?_
            refine va_get (D := (dC, dI)) (ci := 2) (v := .long b51_1) (C := "RangeCoders$NoCarries") (T := T_NoCarries) (N := 9) hx hb hg in_NoCarries hown hK hP 0 rfl rfl 2 (by decide) (hg _ k84) (fun x9 h9 => u_same (hg _ k85) x9 h9) rfl d_NoCarries_readPart_104 ?_
            refine lv_bipush (v := 8) hx hb d_NoCarries_readPart_107 (by decide) ?_
            refine lv_lshl hx hb d_NoCarries_readPart_109 rfl ?_
            refine lv_topl (fun v_31 ev_31 => ?_)
            refine lv_aload_n hx hb d_NoCarries_readPart_110 rfl (lv_at hl 2 rfl) ?_
            refine my_ci (wr := []) (va_runU (As := []) (rest := [Value.long v_31, Value.ref co]) ⟨hx, hb, hml, hown, hts⟩ (c_NoCarries_Coder_nextByte l dC dI cI cM cO H.size co xlow xrange b51_1 v_30 r_81 ri ro rw b51_4 rin ria rik rif (by first | assumption | omega)) (va_cwU 0 hts (my_gU k826 k827 k828 k742 k3 k749) rfl rfl rfl rfl (by decide +kernel) ⟨by rw [hR]; exact Nat.le_of_ble_eq_true rfl, by rw [hR]; exact Nat.le_of_ble_eq_true rfl⟩) (my_preV hK hN (hP.sub [0, 1, 2] rfl) (hD.sub [0, 1, 2] (by decide +kernel) rfl) 0 rfl rfl) rfl rfl hl.1 rfl (lv_room (Nat.le_of_ble_eq_true rfl)) d_NoCarries_readPart_111 ⟨by rw [hR]; exact Nat.le_of_ble_eq_true rfl, by rw [hR]; exact Nat.le_of_ble_eq_true rfl⟩) hP hD hS hA [0, 1, 2] [] rfl rfl (by decide +kernel) (by decide +kernel) (fun r_111 u9 H locs hw_111 hP hD hS => ?_)
            obtain ⟨xaskedq_111, rfl⟩ : ∃ z, z = u9 := ⟨_, rfl⟩
            have hPD : my_PD (dC, dI) vwCl A [(co, Sum.inr (2, [Value.long xlow, Value.long xrange, Value.long b51_1, Value.long v_30, Value.long r_81, Value.ref ri, Value.ref ro, Value.ref rw, Value.int xaskedq_111])), (ri, Sum.inr (0, [Value.int rin, Value.ref ria])), (ria, Sum.inl (cI, rik, Sum.inl rif))] H := ⟨hP, hD⟩
            have hP := hPD.1
            have hD := hPD.2
            refine lv_i2l hx hb d_NoCarries_readPart_114 rfl ?_
            refine lv_topl (fun v_32 ev_32 => ?_)
            refine lv_lor hx hb d_NoCarries_readPart_115 ?_
            refine lv_topl (fun v_33 ev_33 => ?_)
            refine lv_ldc2 (v := 4294967295) hx hb hown (hg _ k509) d_NoCarries_readPart_116 ?_
            refine lv_land hx hb d_NoCarries_readPart_119 ?_
            refine lv_topl (fun v_34 ev_34 => ?_)
            refine va_put (D := (dC, dI)) (ci := 2) (v := .long v_34) (ty := .long) (C := "RangeCoders$NoCarries") (T := T_NoCarries) (N := 9) hx hb hg in_NoCarries t_NoCarries o_NoCarries n_NoCarries hown hK hP hD hS 0 rfl rfl 2 (by decide) (hg _ k84) (fun x9 h9 => u_same (hg _ k85) x9 h9) rfl (by decide +kernel) rfl rfl (Nat.le_of_ble_eq_true rfl) d_NoCarries_readPart_120 (fun H locs hP hD hS => ?_)
            have hPD : my_PD (dC, dI) vwCl A [(co, Sum.inr (2, [Value.long xlow, Value.long xrange, Value.long v_34, Value.long v_30, Value.long r_81, Value.ref ri, Value.ref ro, Value.ref rw, Value.int xaskedq_111])), (ri, Sum.inr (0, [Value.int rin, Value.ref ria])), (ria, Sum.inl (cI, rik, Sum.inl rif))] H := ⟨hP, hD⟩
            have hP := hPD.1
            have hD := hPD.2
            obtain ⟨v_35, ev_35⟩ : ∃ y : Int32, y = b51_0 + (1) := ⟨_, rfl⟩
            refine lv_iinc (v := v_35) (lv' := [(6, Value.int v_35), (4, Value.long v_19), (0, Value.ref co), (1, Value.int pf), (2, Value.int pcc), (3, Value.int pt)]) hx hb d_NoCarries_readPart_123 hl (k := 0) rfl (by rw [ev_35]; rfl) (by decide) rfl (fun ls hl => ?_)
            refine lv_goto (tgt := 51) hx hb d_NoCarries_readPart_126 (by decide) ?_
            exact ih9_51 _ (by first | omega | (have z9 := I_up c_27 ev_35; omega)) v_35 v_34 v_30 r_81 xaskedq_111 rfl (by have z9 := I_up c_27 ev_35; omega) H locs ls (hP.sub [0, 1, 2] rfl) (hD.sub [0, 1, 2] (by decide +kernel) rfl) hS (lv_sub hl [0, 1, 2, 3, 4, 5] rfl)
    exact J_51 _ (0 : Int32) xcode v_23 v_26 xasked rfl (by first | decide | assumption | omega) H locs ls (hP.sub [0, 1, 2] rfl) (hD.sub [0, 1, 2] (by decide +kernel) rfl) hS (lv_sub hl [0, 1, 2, 3, 4, 5] rfl)
set_option maxHeartbeats 2000000 in
set_option maxRecDepth 100000 in
theorem c_NoCarries_Ranged_prepare (l : Launch) (dC : Nat → ClassId) (dI : Nat → Nat → Nat) (cI cM cO : ClassId) (sz : Nat) (co : Nat) (xlow : Int64) (xrange : Int64) (xcode : Int64) (xreadLow : Int64) (xreadRange : Int64) (ri : Nat) (ro : Nat) (rw : Nat) (xasked : Int32) (oo : Nat) (osg : Int32) (osm : Int32) (ofc : Int32) (oca : Nat) (opa : Nat) (ol : Nat) (ocf : Nat → Int32) (opl : Nat) (opf : Nat → Int32) (ka : Nat) (kl : Nat) (kf : Nat → Int32) (hol : ol ≤ 64) (hopl : opl ≤ 512) (hkl : kl ≤ 64) : MetV l y_Ranged_prepare (Cond.code y_Ranged_prepare prog_8_method_5_code 3 none :: gw) ({ frames := 2, cells := 0, slots := 0, locals := 44 } : Room) (dC, dI) vwCl (kT cI cM cO) [Value.ref co, Value.ref oo, Value.ref ka] [(co, Sum.inr (2, [Value.long xlow, Value.long xrange, Value.long xcode, Value.long xreadLow, Value.long xreadRange, Value.ref ri, Value.ref ro, Value.ref rw, Value.int xasked])), (oo, Sum.inr (7, [Value.int osg, Value.int osm, Value.int ofc, Value.ref oca, Value.ref opa])), (oca, Sum.inl (cI, ol, Sum.inl ocf)), (opa, Sum.inl (cI, opl, Sum.inl opf)), (ka, Sum.inl (cI, kl, Sum.inl kf))] sz (fun (u : Int32 × (Nat → Int32)) => True) (fun (u : Int32 × (Nat → Int32)) => [(co, Sum.inr (2, [Value.long xlow, Value.long xrange, Value.long xcode, Value.long xreadLow, Value.long xreadRange, Value.ref ri, Value.ref ro, Value.ref rw, Value.int xasked])), (oo, Sum.inr (7, [Value.int osg, Value.int u.1, Value.int ofc, Value.ref oca, Value.ref opa])), (oca, Sum.inl (cI, ol, Sum.inl u.2)), (opa, Sum.inl (cI, opl, Sum.inl opf)), (ka, Sum.inl (cI, kl, Sum.inl kf))]) 0 0 := by
  refine my_ofV (cc := prog_8_method_5_code) (n := 3) (ret := none) (by decide) rfl (Nat.le_of_ble_eq_true rfl) ?_
  intro p e s m args below meth c R Q A ls H locs hx hb hr hts hown hlocks hml hnm hR hQ hA hl hP hK hN hD hS
  have hg : ∀ w ∈ gw, w.before args s = true := fun w h => hts w (List.mem_cons_of_mem _ h)
  have hown : s.vm.findClass "RangeCoders$Ranged" = some m.cls := hown
  have hl : lv_has ls 3 [(0, Value.ref co), (1, Value.ref oo), (2, Value.ref ka)] := hl
  refine lv_aload_n hx hb d_Ranged_prepare_0 rfl (lv_at hl 1 rfl) ?_
  refine lv_aload_n hx hb d_Ranged_prepare_1 rfl (lv_at hl 2 rfl) ?_
  refine my_cv (wr := [(co, Sum.inr (2, [Value.long xlow, Value.long xrange, Value.long xcode, Value.long xreadLow, Value.long xreadRange, Value.ref ri, Value.ref ro, Value.ref rw, Value.int xasked]))]) (va_runV (As := [Value.ref ka]) (rest := []) ⟨hx, hb, hml, hown, hts⟩ (c_Odds_fromCounts l dC dI cI cM cO H.size oo osg osm ofc oca opa ol ocf opl opf ka kl kf (by first | assumption | omega) (by first | assumption | omega) (by first | assumption | omega)) (cwV 1 hts (my_gV k367 k368 k369 k14 k370) rfl rfl rfl (by decide +kernel) ⟨by rw [hR]; exact Nat.le_of_ble_eq_true rfl, by rw [hR]; exact Nat.le_of_ble_eq_true rfl⟩) (my_preV hK hN (hP.sub [1, 2, 3, 4] rfl) (hD.sub [1, 2, 3, 4] (by decide +kernel) rfl) 0 rfl rfl) rfl rfl hl.1 rfl (lv_room (Nat.le_of_ble_eq_true rfl)) d_Ranged_prepare_2 ⟨by rw [hR]; exact Nat.le_of_ble_eq_true rfl, by rw [hR]; exact Nat.le_of_ble_eq_true rfl⟩) hP hD hS hA [1, 2, 3, 4] [0] rfl rfl (by decide +kernel) (by decide +kernel) (fun u9 H locs hw_2 hP hD hS => ?_)
  obtain ⟨osmq_2, ocfq_2⟩ := u9
  have hPD : my_PD (dC, dI) vwCl A [(co, Sum.inr (2, [Value.long xlow, Value.long xrange, Value.long xcode, Value.long xreadLow, Value.long xreadRange, Value.ref ri, Value.ref ro, Value.ref rw, Value.int xasked])), (oo, Sum.inr (7, [Value.int osg, Value.int osmq_2, Value.int ofc, Value.ref oca, Value.ref opa])), (oca, Sum.inl (cI, ol, Sum.inl ocfq_2)), (opa, Sum.inl (cI, opl, Sum.inl opf)), (ka, Sum.inl (cI, kl, Sum.inl kf))] H := ⟨hP, hD⟩
  have hP := hPD.1
  have hD := hPD.2
  exact my_vret hx hb hr hlocks hQ hK hS (Nat.le_refl _) (Nat.le_refl _) (osmq_2, ocfq_2) (trivial) (hP.sub [0, 1, 2, 3, 4] rfl) (hD.sub [0, 1, 2, 3, 4] (by decide +kernel) rfl) d_Ranged_prepare_5
set_option maxHeartbeats 2000000 in
set_option maxRecDepth 100000 in
theorem c_NoCarries_Ranged_nextShare (l : Launch) (dC : Nat → ClassId) (dI : Nat → Nat → Nat) (cI cM cO : ClassId) (sz : Nat) (co : Nat) (xlow : Int64) (xrange : Int64) (xcode : Int64) (xreadLow : Int64) (xreadRange : Int64) (ri : Nat) (ro : Nat) (rw : Nat) (xasked : Int32) (pt : Int32) : MetI l y_Ranged_nextShare (Cond.code y_Ranged_nextShare prog_8_method_14_code 6 (some .int) :: gw) ({ frames := 0, cells := 0, slots := 0, locals := 0 } : Room) (dC, dI) vwCl (kT cI cM cO) [Value.ref co, Value.int pt] [(co, Sum.inr (2, [Value.long xlow, Value.long xrange, Value.long xcode, Value.long xreadLow, Value.long xreadRange, Value.ref ri, Value.ref ro, Value.ref rw, Value.int xasked]))] sz (fun (r : Int32) (u : Unit) => True) (fun (u : Unit) => [(co, Sum.inr (2, [Value.long xlow, Value.long xrange, Value.long xcode, Value.long xreadLow, Value.long xreadRange, Value.ref ri, Value.ref ro, Value.ref rw, Value.int xasked]))]) 0 0 := by
  refine my_ofI (cc := prog_8_method_14_code) (n := 6) (ret := (some .int)) (by decide) rfl (Nat.le_of_ble_eq_true rfl) ?_
  intro p e s m args below meth c R Q A ls H locs hx hb hr hts hown hlocks hml hnm hR hQ hA hl hP hK hN hD hS
  have hg : ∀ w ∈ gw, w.before args s = true := fun w h => hts w (List.mem_cons_of_mem _ h)
  have hown : s.vm.findClass "RangeCoders$Ranged" = some m.cls := hown
  have hl : lv_has ls 6 [(0, Value.ref co), (1, Value.int pt)] := hl
  refine lv_iload_n hx hb d_Ranged_nextShare_0 rfl (lv_at hl 1 rfl) ?_
  refine lv_if_le (tgt := 14) hx hb d_Ranged_nextShare_1 (by decide) (fun c_1 => ?_) (fun c_1 => ?_)
  · refine lv_lconst (v := 0) hx hb d_Ranged_nextShare_14 (by decide) ?_
    refine lv_lstore_n (lv' := [(2, Value.long 0), (0, Value.ref co), (1, Value.int pt)]) hx hb d_Ranged_nextShare_15 rfl hl (by decide) rfl (fun ls hl => ?_)
    refine lv_lload_n hx hb d_Ranged_nextShare_16 rfl (lv_at hl 0 rfl) ?_
    refine lv_lconst (v := 0) hx hb d_Ranged_nextShare_17 (by decide) ?_
    refine W.lcmp hx hb d_Ranged_nextShare_18 ?_
    refine lv_if_gt (tgt := 24) hx hb d_Ranged_nextShare_19 (by decide) (fun c_2 => ?_) (fun c_2 => ?_)
    · rw [lg_cmp_gt] at c_2
      refine lv_aload_n hx hb d_Ranged_nextShare_24 rfl (lv_at hl 1 rfl) ?_
      refine va_get (D := (dC, dI)) (ci := 2) (v := .long xcode) (C := "RangeCoders$NoCarries") (T := T_NoCarries) (N := 9) hx hb hg in_NoCarries hown hK hP 0 rfl rfl 2 (by decide) (hg _ k90) (fun _ h9 => h9) rfl d_Ranged_nextShare_25 ?_
      refine lv_aload_n hx hb d_Ranged_nextShare_28 rfl (lv_at hl 1 rfl) ?_
      refine va_get (D := (dC, dI)) (ci := 2) (v := .long xreadLow) (C := "RangeCoders$NoCarries") (T := T_NoCarries) (N := 9) hx hb hg in_NoCarries hown hK hP 0 rfl rfl 3 (by decide) (hg _ k93) (fun _ h9 => h9) rfl d_Ranged_nextShare_29 ?_
      refine lv_lsub hx hb d_Ranged_nextShare_32 ?_
      refine lv_topl (fun v_3 ev_3 => ?_)
      refine lv_ldc2 (v := 4294967295) hx hb hown (hg _ k67) d_Ranged_nextShare_33 ?_
      refine lv_land hx hb d_Ranged_nextShare_36 ?_
      refine lv_topl (fun v_4 ev_4 => ?_)
      refine lv_lload_n hx hb d_Ranged_nextShare_37 rfl (lv_at hl 0 rfl) ?_
      refine lv_ldiv hx hb d_Ranged_nextShare_38 (by first | decide | exact L_nzp (by assumption) | exact L_nz (by assumption)) ?_
      refine lv_topl (fun v_5 ev_5 => ?_)
      refine lv_lstore (lv' := [(4, Value.long v_5), (2, Value.long 0), (0, Value.ref co), (1, Value.int pt)]) hx hb d_Ranged_nextShare_39 hl (by decide) rfl (fun ls hl => ?_)
      refine lv_lload hx hb d_Ranged_nextShare_41 (lv_at hl 0 rfl) ?_
      refine lv_iload_n hx hb d_Ranged_nextShare_43 rfl (lv_at hl 3 rfl) ?_
      refine lv_i2l hx hb d_Ranged_nextShare_44 rfl ?_
      refine lv_topl (fun v_6 ev_6 => ?_)
      refine W.lcmp hx hb d_Ranged_nextShare_45 ?_
      refine lv_if_ge (tgt := 55) hx hb d_Ranged_nextShare_46 (by decide) (fun c_7 => ?_) (fun c_7 => ?_)
      · rw [lg_cmp_ge] at c_7
        refine lv_iconst (v := (-1)) hx hb d_Ranged_nextShare_55 (by decide) ?_
        exact my_iret (v := (-1)) hx hb hr (rfl) hlocks hQ hK hS (Nat.le_refl _) (Nat.le_refl _) () (trivial) (hP.sub [0] rfl) (hD.sub [0] (by decide +kernel) rfl) d_Ranged_nextShare_56
      · rw [lg_cmp_ge] at c_7
        refine lv_lload hx hb d_Ranged_nextShare_49 (lv_at hl 0 rfl) ?_
        refine lv_l2i hx hb d_Ranged_nextShare_51 rfl ?_
        refine lv_topi (fun v_8 ev_8 => ?_)
        refine lv_goto (tgt := 56) hx hb d_Ranged_nextShare_52 (by decide) ?_
        exact my_iret (v := v_8) hx hb hr (rfl) hlocks hQ hK hS (Nat.le_refl _) (Nat.le_refl _) () (trivial) (hP.sub [0] rfl) (hD.sub [0] (by decide +kernel) rfl) d_Ranged_nextShare_56
    · rw [lg_cmp_gt] at c_2
      refine lv_iconst (v := (-1)) hx hb d_Ranged_nextShare_22 (by decide) ?_
      exact my_iret (v := (-1)) hx hb hr (rfl) hlocks hQ hK hS (Nat.le_refl _) (Nat.le_refl _) () (trivial) (hP.sub [0] rfl) (hD.sub [0] (by decide +kernel) rfl) d_Ranged_nextShare_23
  · refine lv_aload_n hx hb d_Ranged_nextShare_4 rfl (lv_at hl 0 rfl) ?_
    refine va_get (D := (dC, dI)) (ci := 2) (v := .long xreadRange) (C := "RangeCoders$NoCarries") (T := T_NoCarries) (N := 9) hx hb hg in_NoCarries hown hK hP 0 rfl rfl 4 (by decide) (hg _ k100) (fun _ h9 => h9) rfl d_Ranged_nextShare_5 ?_
    refine lv_iload_n hx hb d_Ranged_nextShare_8 rfl (lv_at hl 1 rfl) ?_
    refine lv_i2l hx hb d_Ranged_nextShare_9 rfl ?_
    refine lv_topl (fun v_9 ev_9 => ?_)
    refine lv_ldiv hx hb d_Ranged_nextShare_10 (by rw [ev_9]; first | exact L_nzi (by assumption) | exact L_nzip (by assumption)) ?_
    refine lv_topl (fun v_10 ev_10 => ?_)
    refine lv_goto (tgt := 15) hx hb d_Ranged_nextShare_11 (by decide) ?_
    refine lv_lstore_n (lv' := [(2, Value.long v_10), (0, Value.ref co), (1, Value.int pt)]) hx hb d_Ranged_nextShare_15 rfl hl (by decide) rfl (fun ls hl => ?_)
    refine lv_lload_n hx hb d_Ranged_nextShare_16 rfl (lv_at hl 0 rfl) ?_
    refine lv_lconst (v := 0) hx hb d_Ranged_nextShare_17 (by decide) ?_
    refine W.lcmp hx hb d_Ranged_nextShare_18 ?_
    refine lv_if_gt (tgt := 24) hx hb d_Ranged_nextShare_19 (by decide) (fun c_11 => ?_) (fun c_11 => ?_)
    · rw [lg_cmp_gt] at c_11
      refine lv_aload_n hx hb d_Ranged_nextShare_24 rfl (lv_at hl 1 rfl) ?_
      refine va_get (D := (dC, dI)) (ci := 2) (v := .long xcode) (C := "RangeCoders$NoCarries") (T := T_NoCarries) (N := 9) hx hb hg in_NoCarries hown hK hP 0 rfl rfl 2 (by decide) (hg _ k90) (fun _ h9 => h9) rfl d_Ranged_nextShare_25 ?_
      refine lv_aload_n hx hb d_Ranged_nextShare_28 rfl (lv_at hl 1 rfl) ?_
      refine va_get (D := (dC, dI)) (ci := 2) (v := .long xreadLow) (C := "RangeCoders$NoCarries") (T := T_NoCarries) (N := 9) hx hb hg in_NoCarries hown hK hP 0 rfl rfl 3 (by decide) (hg _ k93) (fun _ h9 => h9) rfl d_Ranged_nextShare_29 ?_
      refine lv_lsub hx hb d_Ranged_nextShare_32 ?_
      refine lv_topl (fun v_12 ev_12 => ?_)
      refine lv_ldc2 (v := 4294967295) hx hb hown (hg _ k67) d_Ranged_nextShare_33 ?_
      refine lv_land hx hb d_Ranged_nextShare_36 ?_
      refine lv_topl (fun v_13 ev_13 => ?_)
      refine lv_lload_n hx hb d_Ranged_nextShare_37 rfl (lv_at hl 0 rfl) ?_
      refine lv_ldiv hx hb d_Ranged_nextShare_38 (by first | decide | exact L_nzp (by assumption) | exact L_nz (by assumption)) ?_
      refine lv_topl (fun v_14 ev_14 => ?_)
      refine lv_lstore (lv' := [(4, Value.long v_14), (2, Value.long v_10), (0, Value.ref co), (1, Value.int pt)]) hx hb d_Ranged_nextShare_39 hl (by decide) rfl (fun ls hl => ?_)
      refine lv_lload hx hb d_Ranged_nextShare_41 (lv_at hl 0 rfl) ?_
      refine lv_iload_n hx hb d_Ranged_nextShare_43 rfl (lv_at hl 3 rfl) ?_
      refine lv_i2l hx hb d_Ranged_nextShare_44 rfl ?_
      refine lv_topl (fun v_15 ev_15 => ?_)
      refine W.lcmp hx hb d_Ranged_nextShare_45 ?_
      refine lv_if_ge (tgt := 55) hx hb d_Ranged_nextShare_46 (by decide) (fun c_16 => ?_) (fun c_16 => ?_)
      · rw [lg_cmp_ge] at c_16
        refine lv_iconst (v := (-1)) hx hb d_Ranged_nextShare_55 (by decide) ?_
        exact my_iret (v := (-1)) hx hb hr (rfl) hlocks hQ hK hS (Nat.le_refl _) (Nat.le_refl _) () (trivial) (hP.sub [0] rfl) (hD.sub [0] (by decide +kernel) rfl) d_Ranged_nextShare_56
      · rw [lg_cmp_ge] at c_16
        refine lv_lload hx hb d_Ranged_nextShare_49 (lv_at hl 0 rfl) ?_
        refine lv_l2i hx hb d_Ranged_nextShare_51 rfl ?_
        refine lv_topi (fun v_17 ev_17 => ?_)
        refine lv_goto (tgt := 56) hx hb d_Ranged_nextShare_52 (by decide) ?_
        exact my_iret (v := v_17) hx hb hr (rfl) hlocks hQ hK hS (Nat.le_refl _) (Nat.le_refl _) () (trivial) (hP.sub [0] rfl) (hD.sub [0] (by decide +kernel) rfl) d_Ranged_nextShare_56
    · rw [lg_cmp_gt] at c_11
      refine lv_iconst (v := (-1)) hx hb d_Ranged_nextShare_22 (by decide) ?_
      exact my_iret (v := (-1)) hx hb hr (rfl) hlocks hQ hK hS (Nat.le_refl _) (Nat.le_refl _) () (trivial) (hP.sub [0] rfl) (hD.sub [0] (by decide +kernel) rfl) d_Ranged_nextShare_23
set_option maxHeartbeats 2000000 in
set_option maxRecDepth 100000 in
theorem c_NoCarries_Ranged_nextSign (l : Launch) (dC : Nat → ClassId) (dI : Nat → Nat → Nat) (cI cM cO : ClassId) (sz : Nat) (co : Nat) (xlow : Int64) (xrange : Int64) (xcode : Int64) (xreadLow : Int64) (xreadRange : Int64) (ri : Nat) (ro : Nat) (rw : Nat) (xasked : Int32) (rin : Int32) (ria : Nat) (rik : Nat) (rif : Nat → Int32) (oo : Nat) (osg : Int32) (osm : Int32) (ofc : Int32) (oca : Nat) (opa : Nat) (ol : Nat) (ocf : Nat → Int32) (opl : Nat) (opf : Nat → Int32) (hri : rOk rin rik) (hol : ol ≤ 64) (hopl : opl ≤ 512) : MetI l y_Ranged_nextSign (Cond.code y_Ranged_nextSign prog_8_method_11_code 4 (some .int) :: gw) ({ frames := 4, cells := 0, slots := 0, locals := 89 } : Room) (dC, dI) vwCl (kT cI cM cO) [Value.ref co, Value.ref oo] [(co, Sum.inr (2, [Value.long xlow, Value.long xrange, Value.long xcode, Value.long xreadLow, Value.long xreadRange, Value.ref ri, Value.ref ro, Value.ref rw, Value.int xasked])), (ri, Sum.inr (0, [Value.int rin, Value.ref ria])), (ria, Sum.inl (cI, rik, Sum.inl rif)), (oo, Sum.inr (7, [Value.int osg, Value.int osm, Value.int ofc, Value.ref oca, Value.ref opa])), (oca, Sum.inl (cI, ol, Sum.inl ocf)), (opa, Sum.inl (cI, opl, Sum.inl opf))] sz (fun (r : Int32) (u : Int64 × Int64 × Int64 × Int32 × Int32 × (Nat → Int32)) => True) (fun (u : Int64 × Int64 × Int64 × Int32 × Int32 × (Nat → Int32)) => [(co, Sum.inr (2, [Value.long xlow, Value.long xrange, Value.long u.1, Value.long u.2.1, Value.long u.2.2.1, Value.ref ri, Value.ref ro, Value.ref rw, Value.int u.2.2.2.1])), (ri, Sum.inr (0, [Value.int rin, Value.ref ria])), (ria, Sum.inl (cI, rik, Sum.inl rif)), (oo, Sum.inr (7, [Value.int osg, Value.int u.2.2.2.2.1, Value.int ofc, Value.ref oca, Value.ref opa])), (oca, Sum.inl (cI, ol, Sum.inl u.2.2.2.2.2)), (opa, Sum.inl (cI, opl, Sum.inl opf))]) 0 0 := by
  refine my_ofI (cc := prog_8_method_11_code) (n := 4) (ret := (some .int)) (by decide) rfl (Nat.le_of_ble_eq_true rfl) ?_
  intro p e s m args below meth c R Q A ls H locs hx hb hr hts hown hlocks hml hnm hR hQ hA hl hP hK hN hD hS
  have hg : ∀ w ∈ gw, w.before args s = true := fun w h => hts w (List.mem_cons_of_mem _ h)
  have hown : s.vm.findClass "RangeCoders$Ranged" = some m.cls := hown
  have hl : lv_has ls 4 [(0, Value.ref co), (1, Value.ref oo)] := hl
  have hlt_hri := rOk_lt hri
  refine lv_aload_n hx hb d_Ranged_nextSign_0 rfl (lv_at hl 0 rfl) ?_
  refine lv_aload_n hx hb d_Ranged_nextSign_1 rfl (lv_at hl 1 rfl) ?_
  refine va_get (D := (dC, dI)) (ci := 7) (v := .int osm) (C := "RangeCoders$Odds") (T := T_Odds) (N := 5) hx hb hg in_Odds hown hK hP 3 rfl rfl 1 (by decide) (hg _ k306) (fun _ h9 => h9) rfl d_Ranged_nextSign_2 ?_
  refine my_ci (wr := [(ri, Sum.inr (0, [Value.int rin, Value.ref ria])), (ria, Sum.inl (cI, rik, Sum.inl rif)), (oo, Sum.inr (7, [Value.int osg, Value.int osm, Value.int ofc, Value.ref oca, Value.ref opa])), (oca, Sum.inl (cI, ol, Sum.inl ocf)), (opa, Sum.inl (cI, opl, Sum.inl opf))]) (va_runU (As := [Value.int osm]) (rest := []) ⟨hx, hb, hml, hown, hts⟩ (c_NoCarries_Ranged_nextShare l dC dI cI cM cO H.size co xlow xrange xcode xreadLow xreadRange ri ro rw xasked osm) (va_cwU 1 hts (my_gU k807 k1289 kx5 k809 k4 k810) rfl rfl rfl rfl (by decide +kernel) ⟨by rw [hR]; exact Nat.le_of_ble_eq_true rfl, by rw [hR]; exact Nat.le_of_ble_eq_true rfl⟩) (my_preV hK hN (hP.sub [0] rfl) (hD.sub [0] (by decide +kernel) rfl) 0 rfl rfl) rfl rfl hl.1 rfl (lv_room (Nat.le_of_ble_eq_true rfl)) d_Ranged_nextSign_5 ⟨by rw [hR]; exact Nat.le_of_ble_eq_true rfl, by rw [hR]; exact Nat.le_of_ble_eq_true rfl⟩) hP hD hS hA [0] [1, 2, 3, 4, 5] rfl rfl (by decide +kernel) (by decide +kernel) (fun r_5 u9 H locs hw_5 hP hD hS => ?_)
  have hPD : my_PD (dC, dI) vwCl A [(ri, Sum.inr (0, [Value.int rin, Value.ref ria])), (ria, Sum.inl (cI, rik, Sum.inl rif)), (oo, Sum.inr (7, [Value.int osg, Value.int osm, Value.int ofc, Value.ref oca, Value.ref opa])), (oca, Sum.inl (cI, ol, Sum.inl ocf)), (opa, Sum.inl (cI, opl, Sum.inl opf)), (co, Sum.inr (2, [Value.long xlow, Value.long xrange, Value.long xcode, Value.long xreadLow, Value.long xreadRange, Value.ref ri, Value.ref ro, Value.ref rw, Value.int xasked]))] H := ⟨hP, hD⟩
  have hP := hPD.1
  have hD := hPD.2
  refine lv_istore_n (lv' := [(2, Value.int r_5), (0, Value.ref co), (1, Value.ref oo)]) hx hb d_Ranged_nextSign_8 rfl hl (by decide) rfl (fun ls hl => ?_)
  refine lv_iload_n hx hb d_Ranged_nextSign_9 rfl (lv_at hl 0 rfl) ?_
  refine lv_iconst (v := (-1)) hx hb d_Ranged_nextSign_10 (by decide) ?_
  refine lv_icmp_ne (tgt := 18) hx hb d_Ranged_nextSign_11 (by decide) (fun c_1 => ?_) (fun c_1 => ?_)
  · refine lv_aload_n hx hb d_Ranged_nextSign_18 rfl (lv_at hl 2 rfl) ?_
    refine lv_iload_n hx hb d_Ranged_nextSign_19 rfl (lv_at hl 0 rfl) ?_
    refine my_ci (wr := [(ri, Sum.inr (0, [Value.int rin, Value.ref ria])), (ria, Sum.inl (cI, rik, Sum.inl rif)), (co, Sum.inr (2, [Value.long xlow, Value.long xrange, Value.long xcode, Value.long xreadLow, Value.long xreadRange, Value.ref ri, Value.ref ro, Value.ref rw, Value.int xasked]))]) (va_runV (As := [Value.int r_5]) (rest := []) ⟨hx, hb, hml, hown, hts⟩ (c_Odds_signAt l dC dI cI cM cO H.size oo osg osm ofc oca opa ol ocf opl opf r_5 (by first | assumption | omega) (by first | assumption | omega)) (cwV 1 hts (my_gV k811 k812 k813 k14 k814) rfl rfl rfl (by decide +kernel) ⟨by rw [hR]; exact Nat.le_of_ble_eq_true rfl, by rw [hR]; exact Nat.le_of_ble_eq_true rfl⟩) (my_preV hK hN (hP.sub [2, 3, 4] rfl) (hD.sub [2, 3, 4] (by decide +kernel) rfl) 0 rfl rfl) rfl rfl hl.1 rfl (lv_room (Nat.le_of_ble_eq_true rfl)) d_Ranged_nextSign_20 ⟨by rw [hR]; exact Nat.le_of_ble_eq_true rfl, by rw [hR]; exact Nat.le_of_ble_eq_true rfl⟩) hP hD hS hA [2, 3, 4] [0, 1, 5] rfl rfl (by decide +kernel) (by decide +kernel) (fun r_20 u9 H locs hw_20 hP hD hS => ?_)
    have hPD : my_PD (dC, dI) vwCl A [(ri, Sum.inr (0, [Value.int rin, Value.ref ria])), (ria, Sum.inl (cI, rik, Sum.inl rif)), (co, Sum.inr (2, [Value.long xlow, Value.long xrange, Value.long xcode, Value.long xreadLow, Value.long xreadRange, Value.ref ri, Value.ref ro, Value.ref rw, Value.int xasked])), (oo, Sum.inr (7, [Value.int osg, Value.int osm, Value.int ofc, Value.ref oca, Value.ref opa])), (oca, Sum.inl (cI, ol, Sum.inl ocf)), (opa, Sum.inl (cI, opl, Sum.inl opf))] H := ⟨hP, hD⟩
    have hP := hPD.1
    have hD := hPD.2
    refine lv_istore_n (lv' := [(3, Value.int r_20), (2, Value.int r_5), (0, Value.ref co), (1, Value.ref oo)]) hx hb d_Ranged_nextSign_23 rfl hl (by decide) rfl (fun ls hl => ?_)
    refine lv_iload_n hx hb d_Ranged_nextSign_24 rfl (lv_at hl 0 rfl) ?_
    refine lv_iconst (v := (-1)) hx hb d_Ranged_nextSign_25 (by decide) ?_
    refine lv_icmp_eq (tgt := 52) hx hb d_Ranged_nextSign_26 (by decide) (fun c_2 => ?_) (fun c_2 => ?_)
    · refine lv_iload_n hx hb d_Ranged_nextSign_52 rfl (lv_at hl 0 rfl) ?_
      exact my_iret (v := r_20) hx hb hr (rfl) hlocks hQ hK hS (Nat.le_refl _) (Nat.le_refl _) (xcode, xreadLow, xreadRange, xasked, osm, ocf) (trivial) (hP.sub [2, 0, 1, 3, 4, 5] rfl) (hD.sub [2, 0, 1, 3, 4, 5] (by decide +kernel) rfl) d_Ranged_nextSign_53
    · refine lv_aload_n hx hb d_Ranged_nextSign_29 rfl (lv_at hl 2 rfl) ?_
      refine lv_aload_n hx hb d_Ranged_nextSign_30 rfl (lv_at hl 3 rfl) ?_
      refine lv_iload_n hx hb d_Ranged_nextSign_31 rfl (lv_at hl 0 rfl) ?_
      refine my_ci (wr := [(ri, Sum.inr (0, [Value.int rin, Value.ref ria])), (ria, Sum.inl (cI, rik, Sum.inl rif)), (co, Sum.inr (2, [Value.long xlow, Value.long xrange, Value.long xcode, Value.long xreadLow, Value.long xreadRange, Value.ref ri, Value.ref ro, Value.ref rw, Value.int xasked]))]) (va_runV (As := [Value.int r_20]) (rest := [Value.ref co]) ⟨hx, hb, hml, hown, hts⟩ (c_Odds_at l dC dI cI cM cO H.size oo osg osm ofc oca opa ol ocf opl opf r_20 (by first | assumption | omega) (by first | assumption | omega)) (cwV 1 hts (my_gV k493 k436 k437 k14 k438) rfl rfl rfl (by decide +kernel) ⟨by rw [hR]; exact Nat.le_of_ble_eq_true rfl, by rw [hR]; exact Nat.le_of_ble_eq_true rfl⟩) (my_preV hK hN (hP.sub [3, 4, 5] rfl) (hD.sub [3, 4, 5] (by decide +kernel) rfl) 0 rfl rfl) rfl rfl hl.1 rfl (lv_room (Nat.le_of_ble_eq_true rfl)) d_Ranged_nextSign_32 ⟨by rw [hR]; exact Nat.le_of_ble_eq_true rfl, by rw [hR]; exact Nat.le_of_ble_eq_true rfl⟩) hP hD hS hA [3, 4, 5] [0, 1, 2] rfl rfl (by decide +kernel) (by decide +kernel) (fun r_32 u9 H locs hw_32 hP hD hS => ?_)
      have hPD : my_PD (dC, dI) vwCl A [(ri, Sum.inr (0, [Value.int rin, Value.ref ria])), (ria, Sum.inl (cI, rik, Sum.inl rif)), (co, Sum.inr (2, [Value.long xlow, Value.long xrange, Value.long xcode, Value.long xreadLow, Value.long xreadRange, Value.ref ri, Value.ref ro, Value.ref rw, Value.int xasked])), (oo, Sum.inr (7, [Value.int osg, Value.int osm, Value.int ofc, Value.ref oca, Value.ref opa])), (oca, Sum.inl (cI, ol, Sum.inl ocf)), (opa, Sum.inl (cI, opl, Sum.inl opf))] H := ⟨hP, hD⟩
      have hP := hPD.1
      have hD := hPD.2
      refine lv_aload_n hx hb d_Ranged_nextSign_35 rfl (lv_at hl 3 rfl) ?_
      refine lv_iload_n hx hb d_Ranged_nextSign_36 rfl (lv_at hl 0 rfl) ?_
      refine my_ci (wr := [(ri, Sum.inr (0, [Value.int rin, Value.ref ria])), (ria, Sum.inl (cI, rik, Sum.inl rif)), (co, Sum.inr (2, [Value.long xlow, Value.long xrange, Value.long xcode, Value.long xreadLow, Value.long xreadRange, Value.ref ri, Value.ref ro, Value.ref rw, Value.int xasked]))]) (va_runV (As := [Value.int r_20]) (rest := [Value.int r_32, Value.ref co]) ⟨hx, hb, hml, hown, hts⟩ (c_Odds_below l dC dI cI cM cO H.size oo osg osm ofc oca opa ol ocf opl opf r_20 (by first | assumption | omega) (by first | assumption | omega)) (cwV 1 hts (my_gV k494 k495 k496 k14 k497) rfl rfl rfl (by decide +kernel) ⟨by rw [hR]; exact Nat.le_of_ble_eq_true rfl, by rw [hR]; exact Nat.le_of_ble_eq_true rfl⟩) (my_preV hK hN (hP.sub [3, 4, 5] rfl) (hD.sub [3, 4, 5] (by decide +kernel) rfl) 0 rfl rfl) rfl rfl hl.1 rfl (lv_room (Nat.le_of_ble_eq_true rfl)) d_Ranged_nextSign_37 ⟨by rw [hR]; exact Nat.le_of_ble_eq_true rfl, by rw [hR]; exact Nat.le_of_ble_eq_true rfl⟩) hP hD hS hA [3, 4, 5] [0, 1, 2] rfl rfl (by decide +kernel) (by decide +kernel) (fun r_37 u9 H locs hw_37 hP hD hS => ?_)
      have hPD : my_PD (dC, dI) vwCl A [(ri, Sum.inr (0, [Value.int rin, Value.ref ria])), (ria, Sum.inl (cI, rik, Sum.inl rif)), (co, Sum.inr (2, [Value.long xlow, Value.long xrange, Value.long xcode, Value.long xreadLow, Value.long xreadRange, Value.ref ri, Value.ref ro, Value.ref rw, Value.int xasked])), (oo, Sum.inr (7, [Value.int osg, Value.int osm, Value.int ofc, Value.ref oca, Value.ref opa])), (oca, Sum.inl (cI, ol, Sum.inl ocf)), (opa, Sum.inl (cI, opl, Sum.inl opf))] H := ⟨hP, hD⟩
      have hP := hPD.1
      have hD := hPD.2
      refine lv_aload_n hx hb d_Ranged_nextSign_40 rfl (lv_at hl 3 rfl) ?_
      refine va_get (D := (dC, dI)) (ci := 7) (v := .int osm) (C := "RangeCoders$Odds") (T := T_Odds) (N := 5) hx hb hg in_Odds hown hK hP 3 rfl rfl 1 (by decide) (hg _ k306) (fun _ h9 => h9) rfl d_Ranged_nextSign_41 ?_
      refine my_cv (wr := [(oo, Sum.inr (7, [Value.int osg, Value.int osm, Value.int ofc, Value.ref oca, Value.ref opa])), (oca, Sum.inl (cI, ol, Sum.inl ocf)), (opa, Sum.inl (cI, opl, Sum.inl opf))]) (va_runU (As := [Value.int r_32, Value.int r_37, Value.int osm]) (rest := []) ⟨hx, hb, hml, hown, hts⟩ (c_NoCarries_NoCarries_readPart l dC dI cI cM cO H.size co xlow xrange xcode xreadLow xreadRange ri ro rw xasked rin ria rik rif r_32 r_37 osm (by first | assumption | omega)) (va_cwA 3 hts (my_gU k815 k817 k823 k824 k7 k825) rfl rfl rfl (hN.1 _ j816 rfl) (by decide +kernel) ⟨by rw [hR]; exact Nat.le_of_ble_eq_true rfl, by rw [hR]; exact Nat.le_of_ble_eq_true rfl⟩) (my_preV hK hN (hP.sub [2, 0, 1] rfl) (hD.sub [2, 0, 1] (by decide +kernel) rfl) 0 rfl rfl) rfl rfl hl.1 rfl (lv_room (Nat.le_of_ble_eq_true rfl)) d_Ranged_nextSign_44 ⟨by rw [hR]; exact Nat.le_of_ble_eq_true rfl, by rw [hR]; exact Nat.le_of_ble_eq_true rfl⟩) hP hD hS hA [2, 0, 1] [3, 4, 5] rfl rfl (by decide +kernel) (by decide +kernel) (fun u9 H locs hw_44 hP hD hS => ?_)
      obtain ⟨xcodeq_44, xreadLowq_44, xreadRangeq_44, xaskedq_44⟩ := u9
      have hPD : my_PD (dC, dI) vwCl A [(oo, Sum.inr (7, [Value.int osg, Value.int osm, Value.int ofc, Value.ref oca, Value.ref opa])), (oca, Sum.inl (cI, ol, Sum.inl ocf)), (opa, Sum.inl (cI, opl, Sum.inl opf)), (co, Sum.inr (2, [Value.long xlow, Value.long xrange, Value.long xcodeq_44, Value.long xreadLowq_44, Value.long xreadRangeq_44, Value.ref ri, Value.ref ro, Value.ref rw, Value.int xaskedq_44])), (ri, Sum.inr (0, [Value.int rin, Value.ref ria])), (ria, Sum.inl (cI, rik, Sum.inl rif))] H := ⟨hP, hD⟩
      have hP := hPD.1
      have hD := hPD.2
      refine lv_aload_n hx hb d_Ranged_nextSign_47 rfl (lv_at hl 3 rfl) ?_
      refine lv_iload_n hx hb d_Ranged_nextSign_48 rfl (lv_at hl 0 rfl) ?_
      refine my_cv (wr := [(co, Sum.inr (2, [Value.long xlow, Value.long xrange, Value.long xcodeq_44, Value.long xreadLowq_44, Value.long xreadRangeq_44, Value.ref ri, Value.ref ro, Value.ref rw, Value.int xaskedq_44])), (ri, Sum.inr (0, [Value.int rin, Value.ref ria])), (ria, Sum.inl (cI, rik, Sum.inl rif))]) (va_runV (As := [Value.int r_20]) (rest := []) ⟨hx, hb, hml, hown, hts⟩ (c_Odds_learn l dC dI cI cM cO H.size oo osg osm ofc oca opa ol ocf opl opf r_20 (by first | assumption | omega) (by first | assumption | omega)) (cwV 1 hts (my_gV k526 k527 k528 k14 k529) rfl rfl rfl (by decide +kernel) ⟨by rw [hR]; exact Nat.le_of_ble_eq_true rfl, by rw [hR]; exact Nat.le_of_ble_eq_true rfl⟩) (my_preV hK hN (hP.sub [0, 1, 2] rfl) (hD.sub [0, 1, 2] (by decide +kernel) rfl) 0 rfl rfl) rfl rfl hl.1 rfl (lv_room (Nat.le_of_ble_eq_true rfl)) d_Ranged_nextSign_49 ⟨by rw [hR]; exact Nat.le_of_ble_eq_true rfl, by rw [hR]; exact Nat.le_of_ble_eq_true rfl⟩) hP hD hS hA [0, 1, 2] [3, 4, 5] rfl rfl (by decide +kernel) (by decide +kernel) (fun u9 H locs hw_49 hP hD hS => ?_)
      obtain ⟨osmq_49, ocfq_49⟩ := u9
      have hPD : my_PD (dC, dI) vwCl A [(co, Sum.inr (2, [Value.long xlow, Value.long xrange, Value.long xcodeq_44, Value.long xreadLowq_44, Value.long xreadRangeq_44, Value.ref ri, Value.ref ro, Value.ref rw, Value.int xaskedq_44])), (ri, Sum.inr (0, [Value.int rin, Value.ref ria])), (ria, Sum.inl (cI, rik, Sum.inl rif)), (oo, Sum.inr (7, [Value.int osg, Value.int osmq_49, Value.int ofc, Value.ref oca, Value.ref opa])), (oca, Sum.inl (cI, ol, Sum.inl ocfq_49)), (opa, Sum.inl (cI, opl, Sum.inl opf))] H := ⟨hP, hD⟩
      have hP := hPD.1
      have hD := hPD.2
      refine lv_iload_n hx hb d_Ranged_nextSign_52 rfl (lv_at hl 0 rfl) ?_
      exact my_iret (v := r_20) hx hb hr (rfl) hlocks hQ hK hS (Nat.le_refl _) (Nat.le_refl _) (xcodeq_44, xreadLowq_44, xreadRangeq_44, xaskedq_44, osmq_49, ocfq_49) (trivial) (hP.sub [0, 1, 2, 3, 4, 5] rfl) (hD.sub [0, 1, 2, 3, 4, 5] (by decide +kernel) rfl) d_Ranged_nextSign_53
  · refine lv_iconst (v := (-1)) hx hb d_Ranged_nextSign_14 (by decide) ?_
    refine lv_goto (tgt := 23) hx hb d_Ranged_nextSign_15 (by decide) ?_
    refine lv_istore_n (lv' := [(3, Value.int (-1)), (2, Value.int r_5), (0, Value.ref co), (1, Value.ref oo)]) hx hb d_Ranged_nextSign_23 rfl hl (by decide) rfl (fun ls hl => ?_)
    refine lv_iload_n hx hb d_Ranged_nextSign_24 rfl (lv_at hl 0 rfl) ?_
    refine lv_iconst (v := (-1)) hx hb d_Ranged_nextSign_25 (by decide) ?_
    refine lv_icmp_eq (tgt := 52) hx hb d_Ranged_nextSign_26 (by decide) (fun c_3 => ?_) (fun c_3 => ?_)
    · refine lv_iload_n hx hb d_Ranged_nextSign_52 rfl (lv_at hl 0 rfl) ?_
      exact my_iret (v := (-1)) hx hb hr (rfl) hlocks hQ hK hS (Nat.le_refl _) (Nat.le_refl _) (xcode, xreadLow, xreadRange, xasked, osm, ocf) (trivial) (hP.sub [5, 0, 1, 2, 3, 4] rfl) (hD.sub [5, 0, 1, 2, 3, 4] (by decide +kernel) rfl) d_Ranged_nextSign_53
    · exact absurd (by decide) c_3
set_option maxHeartbeats 2000000 in
set_option maxRecDepth 100000 in
theorem c_NoCarries_Ranged_nextValue (l : Launch) (dC : Nat → ClassId) (dI : Nat → Nat → Nat) (cI cM cO : ClassId) (sz : Nat) (co : Nat) (xlow : Int64) (xrange : Int64) (xcode : Int64) (xreadLow : Int64) (xreadRange : Int64) (ri : Nat) (ro : Nat) (rw : Nat) (xasked : Int32) (rin : Int32) (ria : Nat) (rik : Nat) (rif : Nat → Int32) (wd : Int32) (hri : rOk rin rik) : MetI l y_Ranged_nextValue (Cond.code y_Ranged_nextValue prog_8_method_12_code 3 (some .int) :: gw) ({ frames := 4, cells := 0, slots := 0, locals := 89 } : Room) (dC, dI) vwCl (kT cI cM cO) [Value.ref co, Value.int wd] [(co, Sum.inr (2, [Value.long xlow, Value.long xrange, Value.long xcode, Value.long xreadLow, Value.long xreadRange, Value.ref ri, Value.ref ro, Value.ref rw, Value.int xasked])), (ri, Sum.inr (0, [Value.int rin, Value.ref ria])), (ria, Sum.inl (cI, rik, Sum.inl rif))] sz (fun (r : Int32) (u : Int64 × Int64 × Int64 × Int32) => True) (fun (u : Int64 × Int64 × Int64 × Int32) => [(co, Sum.inr (2, [Value.long xlow, Value.long xrange, Value.long u.1, Value.long u.2.1, Value.long u.2.2.1, Value.ref ri, Value.ref ro, Value.ref rw, Value.int u.2.2.2])), (ri, Sum.inr (0, [Value.int rin, Value.ref ria])), (ria, Sum.inl (cI, rik, Sum.inl rif))]) 0 0 := by
  refine my_ofI (cc := prog_8_method_12_code) (n := 3) (ret := (some .int)) (by decide) rfl (Nat.le_of_ble_eq_true rfl) ?_
  intro p e s m args below meth c R Q A ls H locs hx hb hr hts hown hlocks hml hnm hR hQ hA hl hP hK hN hD hS
  have hg : ∀ w ∈ gw, w.before args s = true := fun w h => hts w (List.mem_cons_of_mem _ h)
  have hown : s.vm.findClass "RangeCoders$Ranged" = some m.cls := hown
  have hl : lv_has ls 3 [(0, Value.ref co), (1, Value.int wd)] := hl
  have hlt_hri := rOk_lt hri
  refine lv_aload_n hx hb d_Ranged_nextValue_0 rfl (lv_at hl 0 rfl) ?_
  refine lv_iconst (v := 1) hx hb d_Ranged_nextValue_1 (by decide) ?_
  refine lv_iload_n hx hb d_Ranged_nextValue_2 rfl (lv_at hl 1 rfl) ?_
  refine lv_ishl hx hb d_Ranged_nextValue_3 ?_
  refine lv_topi (fun v_1 ev_1 => ?_)
  refine my_ci (wr := [(ri, Sum.inr (0, [Value.int rin, Value.ref ria])), (ria, Sum.inl (cI, rik, Sum.inl rif))]) (va_runU (As := [Value.int v_1]) (rest := []) ⟨hx, hb, hml, hown, hts⟩ (c_NoCarries_Ranged_nextShare l dC dI cI cM cO H.size co xlow xrange xcode xreadLow xreadRange ri ro rw xasked v_1) (va_cwU 1 hts (my_gU k807 k1289 kx5 k809 k4 k810) rfl rfl rfl rfl (by decide +kernel) ⟨by rw [hR]; exact Nat.le_of_ble_eq_true rfl, by rw [hR]; exact Nat.le_of_ble_eq_true rfl⟩) (my_preV hK hN (hP.sub [0] rfl) (hD.sub [0] (by decide +kernel) rfl) 0 rfl rfl) rfl rfl hl.1 rfl (lv_room (Nat.le_of_ble_eq_true rfl)) d_Ranged_nextValue_4 ⟨by rw [hR]; exact Nat.le_of_ble_eq_true rfl, by rw [hR]; exact Nat.le_of_ble_eq_true rfl⟩) hP hD hS hA [0] [1, 2] rfl rfl (by decide +kernel) (by decide +kernel) (fun r_4 u9 H locs hw_4 hP hD hS => ?_)
  have hPD : my_PD (dC, dI) vwCl A [(ri, Sum.inr (0, [Value.int rin, Value.ref ria])), (ria, Sum.inl (cI, rik, Sum.inl rif)), (co, Sum.inr (2, [Value.long xlow, Value.long xrange, Value.long xcode, Value.long xreadLow, Value.long xreadRange, Value.ref ri, Value.ref ro, Value.ref rw, Value.int xasked]))] H := ⟨hP, hD⟩
  have hP := hPD.1
  have hD := hPD.2
  refine lv_istore_n (lv' := [(2, Value.int r_4), (0, Value.ref co), (1, Value.int wd)]) hx hb d_Ranged_nextValue_7 rfl hl (by decide) rfl (fun ls hl => ?_)
  refine lv_iload_n hx hb d_Ranged_nextValue_8 rfl (lv_at hl 0 rfl) ?_
  refine lv_iconst (v := (-1)) hx hb d_Ranged_nextValue_9 (by decide) ?_
  refine lv_icmp_eq (tgt := 22) hx hb d_Ranged_nextValue_10 (by decide) (fun c_2 => ?_) (fun c_2 => ?_)
  · refine lv_iload_n hx hb d_Ranged_nextValue_22 rfl (lv_at hl 0 rfl) ?_
    exact my_iret (v := r_4) hx hb hr (rfl) hlocks hQ hK hS (Nat.le_refl _) (Nat.le_refl _) (xcode, xreadLow, xreadRange, xasked) (trivial) (hP.sub [2, 0, 1] rfl) (hD.sub [2, 0, 1] (by decide +kernel) rfl) d_Ranged_nextValue_23
  · refine lv_aload_n hx hb d_Ranged_nextValue_13 rfl (lv_at hl 1 rfl) ?_
    refine lv_iconst (v := 1) hx hb d_Ranged_nextValue_14 (by decide) ?_
    refine lv_iload_n hx hb d_Ranged_nextValue_15 rfl (lv_at hl 0 rfl) ?_
    refine lv_iconst (v := 1) hx hb d_Ranged_nextValue_16 (by decide) ?_
    refine lv_iload_n hx hb d_Ranged_nextValue_17 rfl (lv_at hl 2 rfl) ?_
    refine lv_ishl hx hb d_Ranged_nextValue_18 ?_
    refine lv_topi (fun v_3 ev_3 => ?_)
    refine my_cv (wr := []) (va_runU (As := [Value.int 1, Value.int r_4, Value.int v_3]) (rest := []) ⟨hx, hb, hml, hown, hts⟩ (c_NoCarries_NoCarries_readPart l dC dI cI cM cO H.size co xlow xrange xcode xreadLow xreadRange ri ro rw xasked rin ria rik rif 1 r_4 v_3 (by first | assumption | omega)) (va_cwA 3 hts (my_gU k815 k817 k823 k824 k7 k825) rfl rfl rfl (hN.1 _ j816 rfl) (by decide +kernel) ⟨by rw [hR]; exact Nat.le_of_ble_eq_true rfl, by rw [hR]; exact Nat.le_of_ble_eq_true rfl⟩) (my_preV hK hN (hP.sub [2, 0, 1] rfl) (hD.sub [2, 0, 1] (by decide +kernel) rfl) 0 rfl rfl) rfl rfl hl.1 rfl (lv_room (Nat.le_of_ble_eq_true rfl)) d_Ranged_nextValue_19 ⟨by rw [hR]; exact Nat.le_of_ble_eq_true rfl, by rw [hR]; exact Nat.le_of_ble_eq_true rfl⟩) hP hD hS hA [2, 0, 1] [] rfl rfl (by decide +kernel) (by decide +kernel) (fun u9 H locs hw_19 hP hD hS => ?_)
    obtain ⟨xcodeq_19, xreadLowq_19, xreadRangeq_19, xaskedq_19⟩ := u9
    have hPD : my_PD (dC, dI) vwCl A [(co, Sum.inr (2, [Value.long xlow, Value.long xrange, Value.long xcodeq_19, Value.long xreadLowq_19, Value.long xreadRangeq_19, Value.ref ri, Value.ref ro, Value.ref rw, Value.int xaskedq_19])), (ri, Sum.inr (0, [Value.int rin, Value.ref ria])), (ria, Sum.inl (cI, rik, Sum.inl rif))] H := ⟨hP, hD⟩
    have hP := hPD.1
    have hD := hPD.2
    refine lv_iload_n hx hb d_Ranged_nextValue_22 rfl (lv_at hl 0 rfl) ?_
    exact my_iret (v := r_4) hx hb hr (rfl) hlocks hQ hK hS (Nat.le_refl _) (Nat.le_refl _) (xcodeq_19, xreadLowq_19, xreadRangeq_19, xaskedq_19) (trivial) (hP.sub [0, 1, 2] rfl) (hD.sub [0, 1, 2] (by decide +kernel) rfl) d_Ranged_nextValue_23
set_option maxHeartbeats 2000000 in
set_option maxRecDepth 100000 in
theorem c_NoCarries_Ranged_openReading (l : Launch) (dC : Nat → ClassId) (dI : Nat → Nat → Nat) (cI cM cO : ClassId) (sz : Nat) (co : Nat) (xlow : Int64) (xrange : Int64) (xcode : Int64) (xreadLow : Int64) (xreadRange : Int64) (ri : Nat) (ro : Nat) (rw : Nat) (xasked : Int32) (rin : Int32) (ria : Nat) (rik : Nat) (rif : Nat → Int32) (hri : rOk rin rik) : MetI l y_Ranged_openReading (Cond.code y_Ranged_openReading prog_8_method_10_code 1 (some .boolean) :: gw) ({ frames := 4, cells := 0, slots := 0, locals := 86 } : Room) (dC, dI) vwCl (kT cI cM cO) [Value.ref co] [(co, Sum.inr (2, [Value.long xlow, Value.long xrange, Value.long xcode, Value.long xreadLow, Value.long xreadRange, Value.ref ri, Value.ref ro, Value.ref rw, Value.int xasked])), (ri, Sum.inr (0, [Value.int rin, Value.ref ria])), (ria, Sum.inl (cI, rik, Sum.inl rif))] sz (fun (r : Int32) (u : Int64 × Int64 × Int64 × Int32) => True) (fun (u : Int64 × Int64 × Int64 × Int32) => [(co, Sum.inr (2, [Value.long xlow, Value.long xrange, Value.long u.1, Value.long u.2.1, Value.long u.2.2.1, Value.ref ri, Value.ref ro, Value.ref rw, Value.int u.2.2.2])), (ri, Sum.inr (0, [Value.int rin, Value.ref ria])), (ria, Sum.inl (cI, rik, Sum.inl rif))]) 0 0 := by
  refine my_ofI (cc := prog_8_method_10_code) (n := 1) (ret := (some .boolean)) (by decide) rfl (Nat.le_of_ble_eq_true rfl) ?_
  intro p e s m args below meth c R Q A ls H locs hx hb hr hts hown hlocks hml hnm hR hQ hA hl hP hK hN hD hS
  have hg : ∀ w ∈ gw, w.before args s = true := fun w h => hts w (List.mem_cons_of_mem _ h)
  have hown : s.vm.findClass "RangeCoders$Ranged" = some m.cls := hown
  have hl : lv_has ls 1 [(0, Value.ref co)] := hl
  have hlt_hri := rOk_lt hri
  refine lv_aload_n hx hb d_Ranged_openReading_0 rfl (lv_at hl 0 rfl) ?_
  refine lv_aload_n hx hb d_Ranged_openReading_1 rfl (lv_at hl 0 rfl) ?_
  refine my_cl (wr := []) (va_runU (As := []) (rest := [Value.ref co]) ⟨hx, hb, hml, hown, hts⟩ (c_NoCarries_Coder_firstFourBytes l dC dI cI cM cO H.size co xlow xrange xcode xreadLow xreadRange ri ro rw xasked rin ria rik rif (by first | assumption | omega)) (va_cwU 0 hts (my_gU k733 k734 k738 k739 k3 k740) rfl rfl rfl rfl (by decide +kernel) ⟨by rw [hR]; exact Nat.le_of_ble_eq_true rfl, by rw [hR]; exact Nat.le_of_ble_eq_true rfl⟩) (my_preV hK hN (hP.sub [0, 1, 2] rfl) (hD.sub [0, 1, 2] (by decide +kernel) rfl) 0 rfl rfl) rfl rfl hl.1 rfl (lv_room (Nat.le_of_ble_eq_true rfl)) d_Ranged_openReading_2 ⟨by rw [hR]; exact Nat.le_of_ble_eq_true rfl, by rw [hR]; exact Nat.le_of_ble_eq_true rfl⟩) hP hD hS hA [0, 1, 2] [] rfl rfl (by decide +kernel) (by decide +kernel) (fun r_2 u9 H locs hw_2 hP hD hS => ?_)
  obtain ⟨xaskedq_2, rfl⟩ : ∃ z, z = u9 := ⟨_, rfl⟩
  have hPD : my_PD (dC, dI) vwCl A [(co, Sum.inr (2, [Value.long xlow, Value.long xrange, Value.long xcode, Value.long xreadLow, Value.long xreadRange, Value.ref ri, Value.ref ro, Value.ref rw, Value.int xaskedq_2])), (ri, Sum.inr (0, [Value.int rin, Value.ref ria])), (ria, Sum.inl (cI, rik, Sum.inl rif))] H := ⟨hP, hD⟩
  have hP := hPD.1
  have hD := hPD.2
  refine va_put (D := (dC, dI)) (ci := 2) (v := .long r_2) (ty := .long) (C := "RangeCoders$NoCarries") (T := T_NoCarries) (N := 9) hx hb hg in_NoCarries t_NoCarries o_NoCarries n_NoCarries hown hK hP hD hS 0 rfl rfl 2 (by decide) (hg _ k90) (fun _ h9 => h9) rfl (by decide +kernel) rfl rfl (Nat.le_of_ble_eq_true rfl) d_Ranged_openReading_5 (fun H locs hP hD hS => ?_)
  have hPD : my_PD (dC, dI) vwCl A [(co, Sum.inr (2, [Value.long xlow, Value.long xrange, Value.long r_2, Value.long xreadLow, Value.long xreadRange, Value.ref ri, Value.ref ro, Value.ref rw, Value.int xaskedq_2])), (ri, Sum.inr (0, [Value.int rin, Value.ref ria])), (ria, Sum.inl (cI, rik, Sum.inl rif))] H := ⟨hP, hD⟩
  have hP := hPD.1
  have hD := hPD.2
  refine lv_aload_n hx hb d_Ranged_openReading_8 rfl (lv_at hl 0 rfl) ?_
  refine lv_lconst (v := 0) hx hb d_Ranged_openReading_9 (by decide) ?_
  refine va_put (D := (dC, dI)) (ci := 2) (v := .long 0) (ty := .long) (C := "RangeCoders$NoCarries") (T := T_NoCarries) (N := 9) hx hb hg in_NoCarries t_NoCarries o_NoCarries n_NoCarries hown hK hP hD hS 0 rfl rfl 3 (by decide) (hg _ k93) (fun _ h9 => h9) rfl (by decide +kernel) rfl rfl (Nat.le_of_ble_eq_true rfl) d_Ranged_openReading_10 (fun H locs hP hD hS => ?_)
  have hPD : my_PD (dC, dI) vwCl A [(co, Sum.inr (2, [Value.long xlow, Value.long xrange, Value.long r_2, Value.long 0, Value.long xreadRange, Value.ref ri, Value.ref ro, Value.ref rw, Value.int xaskedq_2])), (ri, Sum.inr (0, [Value.int rin, Value.ref ria])), (ria, Sum.inl (cI, rik, Sum.inl rif))] H := ⟨hP, hD⟩
  have hP := hPD.1
  have hD := hPD.2
  refine lv_aload_n hx hb d_Ranged_openReading_13 rfl (lv_at hl 0 rfl) ?_
  refine lv_ldc2 (v := 4294967295) hx hb hown (hg _ k67) d_Ranged_openReading_14 ?_
  refine va_put (D := (dC, dI)) (ci := 2) (v := .long 4294967295) (ty := .long) (C := "RangeCoders$NoCarries") (T := T_NoCarries) (N := 9) hx hb hg in_NoCarries t_NoCarries o_NoCarries n_NoCarries hown hK hP hD hS 0 rfl rfl 4 (by decide) (hg _ k100) (fun _ h9 => h9) rfl (by decide +kernel) rfl rfl (Nat.le_of_ble_eq_true rfl) d_Ranged_openReading_17 (fun H locs hP hD hS => ?_)
  have hPD : my_PD (dC, dI) vwCl A [(co, Sum.inr (2, [Value.long xlow, Value.long xrange, Value.long r_2, Value.long 0, Value.long 4294967295, Value.ref ri, Value.ref ro, Value.ref rw, Value.int xaskedq_2])), (ri, Sum.inr (0, [Value.int rin, Value.ref ria])), (ria, Sum.inl (cI, rik, Sum.inl rif))] H := ⟨hP, hD⟩
  have hP := hPD.1
  have hD := hPD.2
  refine lv_iconst (v := 1) hx hb d_Ranged_openReading_20 (by decide) ?_
  exact my_iret (v := 1) hx hb hr (rfl) hlocks hQ hK hS (Nat.le_refl _) (Nat.le_refl _) (r_2, (0 : Int64), (4294967295 : Int64), xaskedq_2) (trivial) (hP.sub [0, 1, 2] rfl) (hD.sub [0, 1, 2] (by decide +kernel) rfl) d_Ranged_openReading_21
set_option maxHeartbeats 2000000 in
set_option maxRecDepth 100000 in
theorem c_NoCarries_Ranged_register (l : Launch) (dC : Nat → ClassId) (dI : Nat → Nat → Nat) (cI cM cO : ClassId) (sz : Nat) (co : Nat) (xlow : Int64) (xrange : Int64) (xcode : Int64) (xreadLow : Int64) (xreadRange : Int64) (ri : Nat) (ro : Nat) (rw : Nat) (xasked : Int32) (wh : Int32) : MetL l y_Ranged_register (Cond.code y_Ranged_register prog_8_method_13_code 2 (some .long) :: gw) ({ frames := 0, cells := 0, slots := 0, locals := 0 } : Room) (dC, dI) vwCl (kT cI cM cO) [Value.ref co, Value.int wh] [(co, Sum.inr (2, [Value.long xlow, Value.long xrange, Value.long xcode, Value.long xreadLow, Value.long xreadRange, Value.ref ri, Value.ref ro, Value.ref rw, Value.int xasked]))] sz (fun (r : Int64) (u : Unit) => True) (fun (u : Unit) => [(co, Sum.inr (2, [Value.long xlow, Value.long xrange, Value.long xcode, Value.long xreadLow, Value.long xreadRange, Value.ref ri, Value.ref ro, Value.ref rw, Value.int xasked]))]) 0 0 := by
  refine my_ofL (cc := prog_8_method_13_code) (n := 2) (ret := (some .long)) (by decide) rfl (Nat.le_of_ble_eq_true rfl) ?_
  intro p e s m args below meth c R Q A ls H locs hx hb hr hts hown hlocks hml hnm hR hQ hA hl hP hK hN hD hS
  have hg : ∀ w ∈ gw, w.before args s = true := fun w h => hts w (List.mem_cons_of_mem _ h)
  have hown : s.vm.findClass "RangeCoders$Ranged" = some m.cls := hown
  have hl : lv_has ls 2 [(0, Value.ref co), (1, Value.int wh)] := hl
  refine lv_iload_n hx hb d_Ranged_register_0 rfl (lv_at hl 1 rfl) ?_
  by_cases c_1 : wh = 0
  · refine lv_tableIn (tgt := 36) hx hb d_Ranged_register_1 (by rw [c_1]; decide) (by rw [c_1]; decide) (by rw [c_1]; rfl) (by decide) ?_
    refine lv_aload_n hx hb d_Ranged_register_36 rfl (lv_at hl 0 rfl) ?_
    refine va_get (D := (dC, dI)) (ci := 2) (v := .long xlow) (C := "RangeCoders$NoCarries") (T := T_NoCarries) (N := 9) hx hb hg in_NoCarries hown hK hP 0 rfl rfl 0 (by decide) (hg _ k74) (fun _ h9 => h9) rfl d_Ranged_register_37 ?_
    exact my_lret (v := xlow) hx hb hr hlocks hQ hK hS (Nat.le_refl _) (Nat.le_refl _) () (trivial) (hP.sub [0] rfl) (hD.sub [0] (by decide +kernel) rfl) d_Ranged_register_40
  by_cases c_2 : wh = 1
  · refine lv_tableIn (tgt := 41) hx hb d_Ranged_register_1 (by rw [c_2]; decide) (by rw [c_2]; decide) (by rw [c_2]; rfl) (by decide) ?_
    refine lv_aload_n hx hb d_Ranged_register_41 rfl (lv_at hl 0 rfl) ?_
    refine va_get (D := (dC, dI)) (ci := 2) (v := .long xrange) (C := "RangeCoders$NoCarries") (T := T_NoCarries) (N := 9) hx hb hg in_NoCarries hown hK hP 0 rfl rfl 1 (by decide) (hg _ k77) (fun _ h9 => h9) rfl d_Ranged_register_42 ?_
    exact my_lret (v := xrange) hx hb hr hlocks hQ hK hS (Nat.le_refl _) (Nat.le_refl _) () (trivial) (hP.sub [0] rfl) (hD.sub [0] (by decide +kernel) rfl) d_Ranged_register_45
  by_cases c_3 : wh = 2
  · refine lv_tableIn (tgt := 46) hx hb d_Ranged_register_1 (by rw [c_3]; decide) (by rw [c_3]; decide) (by rw [c_3]; rfl) (by decide) ?_
    refine lv_aload_n hx hb d_Ranged_register_46 rfl (lv_at hl 0 rfl) ?_
    refine va_get (D := (dC, dI)) (ci := 2) (v := .long xcode) (C := "RangeCoders$NoCarries") (T := T_NoCarries) (N := 9) hx hb hg in_NoCarries hown hK hP 0 rfl rfl 2 (by decide) (hg _ k90) (fun _ h9 => h9) rfl d_Ranged_register_47 ?_
    exact my_lret (v := xcode) hx hb hr hlocks hQ hK hS (Nat.le_refl _) (Nat.le_refl _) () (trivial) (hP.sub [0] rfl) (hD.sub [0] (by decide +kernel) rfl) d_Ranged_register_50
  by_cases c_4 : wh = 3
  · refine lv_tableIn (tgt := 51) hx hb d_Ranged_register_1 (by rw [c_4]; decide) (by rw [c_4]; decide) (by rw [c_4]; rfl) (by decide) ?_
    refine lv_aload_n hx hb d_Ranged_register_51 rfl (lv_at hl 0 rfl) ?_
    refine va_get (D := (dC, dI)) (ci := 2) (v := .long xreadLow) (C := "RangeCoders$NoCarries") (T := T_NoCarries) (N := 9) hx hb hg in_NoCarries hown hK hP 0 rfl rfl 3 (by decide) (hg _ k93) (fun _ h9 => h9) rfl d_Ranged_register_52 ?_
    exact my_lret (v := xreadLow) hx hb hr hlocks hQ hK hS (Nat.le_refl _) (Nat.le_refl _) () (trivial) (hP.sub [0] rfl) (hD.sub [0] (by decide +kernel) rfl) d_Ranged_register_55
  by_cases c_5 : wh = 4
  · refine lv_tableIn (tgt := 56) hx hb d_Ranged_register_1 (by rw [c_5]; decide) (by rw [c_5]; decide) (by rw [c_5]; rfl) (by decide) ?_
    refine lv_aload_n hx hb d_Ranged_register_56 rfl (lv_at hl 0 rfl) ?_
    refine va_get (D := (dC, dI)) (ci := 2) (v := .long xreadRange) (C := "RangeCoders$NoCarries") (T := T_NoCarries) (N := 9) hx hb hg in_NoCarries hown hK hP 0 rfl rfl 4 (by decide) (hg _ k100) (fun _ h9 => h9) rfl d_Ranged_register_57 ?_
    exact my_lret (v := xreadRange) hx hb hr hlocks hQ hK hS (Nat.le_refl _) (Nat.le_refl _) () (trivial) (hP.sub [0] rfl) (hD.sub [0] (by decide +kernel) rfl) d_Ranged_register_60
  refine lv_tableOut (tgt := 61) hx hb d_Ranged_register_1 (by have ac_1 : wh.toInt ≠ 0 := fun z => c_1 (Int32.toInt_inj.mp z); have ac_2 : wh.toInt ≠ 1 := fun z => c_2 (Int32.toInt_inj.mp z); have ac_3 : wh.toInt ≠ 2 := fun z => c_3 (Int32.toInt_inj.mp z); have ac_4 : wh.toInt ≠ 3 := fun z => c_4 (Int32.toInt_inj.mp z); have ac_5 : wh.toInt ≠ 4 := fun z => c_5 (Int32.toInt_inj.mp z); omega) (by decide) ?_
  refine lv_lconst (v := 0) hx hb d_Ranged_register_61 (by decide) ?_
  exact my_lret (v := 0) hx hb hr hlocks hQ hK hS (Nat.le_refl _) (Nat.le_refl _) () (trivial) (hP.sub [0] rfl) (hD.sub [0] (by decide +kernel) rfl) d_Ranged_register_62
end
section
set_option maxHeartbeats 2000000 in
set_option maxRecDepth 100000 in
theorem c_Stack_Coder_nextByte (l : Launch) (dC : Nat → ClassId) (dI : Nat → Nat → Nat) (cI cM cO : ClassId) (sz : Nat) (co : Nat) (xx : Int64) (xreadX : Int64) (soa : Nat) (sna : Nat) (swa : Nat) (xkept : Int32) (ri : Nat) (ro : Nat) (rw : Nat) (xasked : Int32) (rin : Int32) (ria : Nat) (rik : Nat) (rif : Nat → Int32) (hri : rOk rin rik) : MetI l y_Coder_nextByte (Cond.code y_Coder_nextByte prog_4_method_15_code 2 (some .int) :: gw) ({ frames := 2, cells := 0, slots := 0, locals := 42 } : Room) (dC, dI) vwCl (kT cI cM cO) [Value.ref co] [(co, Sum.inr (4, [Value.long xx, Value.long xreadX, Value.ref soa, Value.ref sna, Value.ref swa, Value.int xkept, Value.ref ri, Value.ref ro, Value.ref rw, Value.int xasked])), (ri, Sum.inr (0, [Value.int rin, Value.ref ria])), (ria, Sum.inl (cI, rik, Sum.inl rif))] sz (fun (r : Int32) (u : Int32) => True) (fun (u : Int32) => [(co, Sum.inr (4, [Value.long xx, Value.long xreadX, Value.ref soa, Value.ref sna, Value.ref swa, Value.int xkept, Value.ref ri, Value.ref ro, Value.ref rw, Value.int u])), (ri, Sum.inr (0, [Value.int rin, Value.ref ria])), (ria, Sum.inl (cI, rik, Sum.inl rif))]) 0 0 := by
  refine my_ofI (cc := prog_4_method_15_code) (n := 2) (ret := (some .int)) (by decide) rfl (Nat.le_of_ble_eq_true rfl) ?_
  intro p e s m args below meth c R Q A ls H locs hx hb hr hts hown hlocks hml hnm hR hQ hA hl hP hK hN hD hS
  have hg : ∀ w ∈ gw, w.before args s = true := fun w h => hts w (List.mem_cons_of_mem _ h)
  have hown : s.vm.findClass "RangeCoders$Coder" = some m.cls := hown
  have hl : lv_has ls 2 [(0, Value.ref co)] := hl
  have hlt_hri := rOk_lt hri
  refine lv_aload_n hx hb d_Coder_nextByte_0 rfl (lv_at hl 0 rfl) ?_
  refine va_get (D := (dC, dI)) (ci := 4) (v := .ref ri) (C := "RangeCoders$Stack") (T := T_Stack) (N := 10) hx hb hg in_Stack hown hK hP 0 rfl rfl 6 (by decide) (hg _ k101) (fun _ h9 => h9) rfl d_Coder_nextByte_1 ?_
  refine lv_aload_n hx hb d_Coder_nextByte_4 rfl (lv_at hl 0 rfl) ?_
  refine va_get (D := (dC, dI)) (ci := 4) (v := .int xasked) (C := "RangeCoders$Stack") (T := T_Stack) (N := 10) hx hb hg in_Stack hown hK hP 0 rfl rfl 9 (by decide) (hg _ k130) (fun _ h9 => h9) rfl d_Coder_nextByte_5 ?_
  refine my_ci (wr := [(co, Sum.inr (4, [Value.long xx, Value.long xreadX, Value.ref soa, Value.ref sna, Value.ref swa, Value.int xkept, Value.ref ri, Value.ref ro, Value.ref rw, Value.int xasked]))]) (va_runV (As := [Value.int xasked]) (rest := []) ⟨hx, hb, hml, hown, hts⟩ (c_Row_has l dC dI cI cM cO H.size ri rin ria rik rif xasked (by first | assumption | omega)) (cwV 1 hts (my_gV k750 k663 k664 k6 k665) rfl rfl rfl (by decide +kernel) ⟨by rw [hR]; exact Nat.le_of_ble_eq_true rfl, by rw [hR]; exact Nat.le_of_ble_eq_true rfl⟩) (my_preV hK hN (hP.sub [1, 2] rfl) (hD.sub [1, 2] (by decide +kernel) rfl) 0 rfl rfl) rfl rfl hl.1 rfl (lv_room (Nat.le_of_ble_eq_true rfl)) d_Coder_nextByte_8 ⟨by rw [hR]; exact Nat.le_of_ble_eq_true rfl, by rw [hR]; exact Nat.le_of_ble_eq_true rfl⟩) hP hD hS hA [1, 2] [0] rfl rfl (by decide +kernel) (by decide +kernel) (fun r_8 u9 H locs hw_8 hP hD hS => ?_)
  have hr_8 : r_8 ≠ 0 → vp_in xasked rik := hw_8
  have hPD : my_PD (dC, dI) vwCl A [(co, Sum.inr (4, [Value.long xx, Value.long xreadX, Value.ref soa, Value.ref sna, Value.ref swa, Value.int xkept, Value.ref ri, Value.ref ro, Value.ref rw, Value.int xasked])), (ri, Sum.inr (0, [Value.int rin, Value.ref ria])), (ria, Sum.inl (cI, rik, Sum.inl rif))] H := ⟨hP, hD⟩
  have hP := hPD.1
  have hD := hPD.2
  refine lv_if_eq (tgt := 28) hx hb d_Coder_nextByte_11 (by decide) (fun c_1 => ?_) (fun c_1 => ?_)
  · refine lv_iconst (v := 0) hx hb d_Coder_nextByte_28 (by decide) ?_
    refine lv_istore_n (lv' := [(1, Value.int 0), (0, Value.ref co)]) hx hb d_Coder_nextByte_29 rfl hl (by decide) rfl (fun ls hl => ?_)
    refine lv_aload_n hx hb d_Coder_nextByte_30 rfl (lv_at hl 1 rfl) ?_
    refine lv_dup hx hb d_Coder_nextByte_31 rfl ?_
    refine va_get (D := (dC, dI)) (ci := 4) (v := .int xasked) (C := "RangeCoders$Stack") (T := T_Stack) (N := 10) hx hb hg in_Stack hown hK hP 0 rfl rfl 9 (by decide) (hg _ k130) (fun _ h9 => h9) rfl d_Coder_nextByte_32 ?_
    refine lv_iconst (v := 1) hx hb d_Coder_nextByte_35 (by decide) ?_
    refine lv_iadd hx hb d_Coder_nextByte_36 ?_
    refine lv_topi (fun v_2 ev_2 => ?_)
    refine va_put (D := (dC, dI)) (ci := 4) (v := .int v_2) (ty := .int) (C := "RangeCoders$Stack") (T := T_Stack) (N := 10) hx hb hg in_Stack t_Stack o_Stack n_Stack hown hK hP hD hS 0 rfl rfl 9 (by decide) (hg _ k130) (fun _ h9 => h9) rfl (by decide +kernel) rfl rfl (Nat.le_of_ble_eq_true rfl) d_Coder_nextByte_37 (fun H locs hP hD hS => ?_)
    have hPD : my_PD (dC, dI) vwCl A [(co, Sum.inr (4, [Value.long xx, Value.long xreadX, Value.ref soa, Value.ref sna, Value.ref swa, Value.int xkept, Value.ref ri, Value.ref ro, Value.ref rw, Value.int v_2])), (ri, Sum.inr (0, [Value.int rin, Value.ref ria])), (ria, Sum.inl (cI, rik, Sum.inl rif))] H := ⟨hP, hD⟩
    have hP := hPD.1
    have hD := hPD.2
    refine lv_iload_n hx hb d_Coder_nextByte_40 rfl (lv_at hl 0 rfl) ?_
    exact my_iret (v := 0) hx hb hr (rfl) hlocks hQ hK hS (Nat.le_refl _) (Nat.le_refl _) (v_2) (trivial) (hP.sub [0, 1, 2] rfl) (hD.sub [0, 1, 2] (by decide +kernel) rfl) d_Coder_nextByte_41
  · refine lv_aload_n hx hb d_Coder_nextByte_14 rfl (lv_at hl 0 rfl) ?_
    refine va_get (D := (dC, dI)) (ci := 4) (v := .ref ri) (C := "RangeCoders$Stack") (T := T_Stack) (N := 10) hx hb hg in_Stack hown hK hP 0 rfl rfl 6 (by decide) (hg _ k101) (fun _ h9 => h9) rfl d_Coder_nextByte_15 ?_
    refine lv_aload_n hx hb d_Coder_nextByte_18 rfl (lv_at hl 0 rfl) ?_
    refine va_get (D := (dC, dI)) (ci := 4) (v := .int xasked) (C := "RangeCoders$Stack") (T := T_Stack) (N := 10) hx hb hg in_Stack hown hK hP 0 rfl rfl 9 (by decide) (hg _ k130) (fun _ h9 => h9) rfl d_Coder_nextByte_19 ?_
    refine my_ci (wr := [(co, Sum.inr (4, [Value.long xx, Value.long xreadX, Value.ref soa, Value.ref sna, Value.ref swa, Value.int xkept, Value.ref ri, Value.ref ro, Value.ref rw, Value.int xasked]))]) (va_runV (As := [Value.int xasked]) (rest := []) ⟨hx, hb, hml, hown, hts⟩ (c_Row_at l dC dI cI cM cO H.size ri rin ria rik rif xasked (by first | assumption | omega)) (cwV 1 hts (my_gV k751 k659 k660 k6 k661) rfl rfl rfl (by decide +kernel) ⟨by rw [hR]; exact Nat.le_of_ble_eq_true rfl, by rw [hR]; exact Nat.le_of_ble_eq_true rfl⟩) (my_preV hK hN (hP.sub [1, 2] rfl) (hD.sub [1, 2] (by decide +kernel) rfl) 0 rfl rfl) rfl rfl hl.1 rfl (lv_room (Nat.le_of_ble_eq_true rfl)) d_Coder_nextByte_22 ⟨by rw [hR]; exact Nat.le_of_ble_eq_true rfl, by rw [hR]; exact Nat.le_of_ble_eq_true rfl⟩) hP hD hS hA [1, 2] [0] rfl rfl (by decide +kernel) (by decide +kernel) (fun r_22 u9 H locs hw_22 hP hD hS => ?_)
    have hPD : my_PD (dC, dI) vwCl A [(co, Sum.inr (4, [Value.long xx, Value.long xreadX, Value.ref soa, Value.ref sna, Value.ref swa, Value.int xkept, Value.ref ri, Value.ref ro, Value.ref rw, Value.int xasked])), (ri, Sum.inr (0, [Value.int rin, Value.ref ria])), (ria, Sum.inl (cI, rik, Sum.inl rif))] H := ⟨hP, hD⟩
    have hP := hPD.1
    have hD := hPD.2
    refine lv_goto (tgt := 29) hx hb d_Coder_nextByte_25 (by decide) ?_
    refine lv_istore_n (lv' := [(1, Value.int r_22), (0, Value.ref co)]) hx hb d_Coder_nextByte_29 rfl hl (by decide) rfl (fun ls hl => ?_)
    refine lv_aload_n hx hb d_Coder_nextByte_30 rfl (lv_at hl 1 rfl) ?_
    refine lv_dup hx hb d_Coder_nextByte_31 rfl ?_
    refine va_get (D := (dC, dI)) (ci := 4) (v := .int xasked) (C := "RangeCoders$Stack") (T := T_Stack) (N := 10) hx hb hg in_Stack hown hK hP 0 rfl rfl 9 (by decide) (hg _ k130) (fun _ h9 => h9) rfl d_Coder_nextByte_32 ?_
    refine lv_iconst (v := 1) hx hb d_Coder_nextByte_35 (by decide) ?_
    refine lv_iadd hx hb d_Coder_nextByte_36 ?_
    refine lv_topi (fun v_3 ev_3 => ?_)
    refine va_put (D := (dC, dI)) (ci := 4) (v := .int v_3) (ty := .int) (C := "RangeCoders$Stack") (T := T_Stack) (N := 10) hx hb hg in_Stack t_Stack o_Stack n_Stack hown hK hP hD hS 0 rfl rfl 9 (by decide) (hg _ k130) (fun _ h9 => h9) rfl (by decide +kernel) rfl rfl (Nat.le_of_ble_eq_true rfl) d_Coder_nextByte_37 (fun H locs hP hD hS => ?_)
    have hPD : my_PD (dC, dI) vwCl A [(co, Sum.inr (4, [Value.long xx, Value.long xreadX, Value.ref soa, Value.ref sna, Value.ref swa, Value.int xkept, Value.ref ri, Value.ref ro, Value.ref rw, Value.int v_3])), (ri, Sum.inr (0, [Value.int rin, Value.ref ria])), (ria, Sum.inl (cI, rik, Sum.inl rif))] H := ⟨hP, hD⟩
    have hP := hPD.1
    have hD := hPD.2
    refine lv_iload_n hx hb d_Coder_nextByte_40 rfl (lv_at hl 0 rfl) ?_
    exact my_iret (v := r_22) hx hb hr (rfl) hlocks hQ hK hS (Nat.le_refl _) (Nat.le_refl _) (v_3) (trivial) (hP.sub [0, 1, 2] rfl) (hD.sub [0, 1, 2] (by decide +kernel) rfl) d_Coder_nextByte_41
set_option maxHeartbeats 2000000 in
set_option maxRecDepth 100000 in
theorem c_Stack_Coder_firstFourBytes (l : Launch) (dC : Nat → ClassId) (dI : Nat → Nat → Nat) (cI cM cO : ClassId) (sz : Nat) (co : Nat) (xx : Int64) (xreadX : Int64) (soa : Nat) (sna : Nat) (swa : Nat) (xkept : Int32) (ri : Nat) (ro : Nat) (rw : Nat) (xasked : Int32) (rin : Int32) (ria : Nat) (rik : Nat) (rif : Nat → Int32) (hri : rOk rin rik) : MetL l y_Coder_firstFourBytes (Cond.code y_Coder_firstFourBytes prog_4_method_16_code 4 (some .long) :: gw) ({ frames := 3, cells := 0, slots := 0, locals := 63 } : Room) (dC, dI) vwCl (kT cI cM cO) [Value.ref co] [(co, Sum.inr (4, [Value.long xx, Value.long xreadX, Value.ref soa, Value.ref sna, Value.ref swa, Value.int xkept, Value.ref ri, Value.ref ro, Value.ref rw, Value.int xasked])), (ri, Sum.inr (0, [Value.int rin, Value.ref ria])), (ria, Sum.inl (cI, rik, Sum.inl rif))] sz (fun (r : Int64) (u : Int32) => True) (fun (u : Int32) => [(co, Sum.inr (4, [Value.long xx, Value.long xreadX, Value.ref soa, Value.ref sna, Value.ref swa, Value.int xkept, Value.ref ri, Value.ref ro, Value.ref rw, Value.int u])), (ri, Sum.inr (0, [Value.int rin, Value.ref ria])), (ria, Sum.inl (cI, rik, Sum.inl rif))]) 0 0 := by
  refine my_ofL (cc := prog_4_method_16_code) (n := 4) (ret := (some .long)) (by decide) rfl (Nat.le_of_ble_eq_true rfl) ?_
  intro p e s m args below meth c R Q A ls H locs hx hb hr hts hown hlocks hml hnm hR hQ hA hl hP hK hN hD hS
  have hg : ∀ w ∈ gw, w.before args s = true := fun w h => hts w (List.mem_cons_of_mem _ h)
  have hown : s.vm.findClass "RangeCoders$Coder" = some m.cls := hown
  have hl : lv_has ls 4 [(0, Value.ref co)] := hl
  have hlt_hri := rOk_lt hri
  refine lv_aload_n hx hb d_Coder_firstFourBytes_0 rfl (lv_at hl 0 rfl) ?_
  refine lv_iconst (v := 0) hx hb d_Coder_firstFourBytes_1 (by decide) ?_
  refine va_put (D := (dC, dI)) (ci := 4) (v := .int 0) (ty := .int) (C := "RangeCoders$Stack") (T := T_Stack) (N := 10) hx hb hg in_Stack t_Stack o_Stack n_Stack hown hK hP hD hS 0 rfl rfl 9 (by decide) (hg _ k130) (fun _ h9 => h9) rfl (by decide +kernel) rfl rfl (Nat.le_of_ble_eq_true rfl) d_Coder_firstFourBytes_2 (fun H locs hP hD hS => ?_)
  have hPD : my_PD (dC, dI) vwCl A [(co, Sum.inr (4, [Value.long xx, Value.long xreadX, Value.ref soa, Value.ref sna, Value.ref swa, Value.int xkept, Value.ref ri, Value.ref ro, Value.ref rw, Value.int 0])), (ri, Sum.inr (0, [Value.int rin, Value.ref ria])), (ria, Sum.inl (cI, rik, Sum.inl rif))] H := ⟨hP, hD⟩
  have hP := hPD.1
  have hD := hPD.2
  refine lv_lconst (v := 0) hx hb d_Coder_firstFourBytes_5 (by decide) ?_
  refine lv_lstore_n (lv' := [(1, Value.long 0), (0, Value.ref co)]) hx hb d_Coder_firstFourBytes_6 rfl hl (by decide) rfl (fun ls hl => ?_)
  refine lv_iconst (v := 0) hx hb d_Coder_firstFourBytes_7 (by decide) ?_
  refine lv_istore_n (lv' := [(3, Value.int 0), (1, Value.long 0), (0, Value.ref co)]) hx hb d_Coder_firstFourBytes_8 rfl hl (by decide) rfl (fun ls hl => ?_)
  have J_9 : ∀ (n9_9 : Nat) (b9_0 : Int32) (b9_1 : Int64) (b9_2 : Int32) (hn9_9 : ((4 : Int32).toInt - b9_0.toInt).toNat = n9_9) (hi_9 : 0 ≤ b9_0.toInt) (H : Heap) (locs : List Loc) (ls : Array Slot), va_P (dC, dI) vwCl [(co, Sum.inr (4, [Value.long xx, Value.long xreadX, Value.ref soa, Value.ref sna, Value.ref swa, Value.int xkept, Value.ref ri, Value.ref ro, Value.ref rw, Value.int b9_2])), (ri, Sum.inr (0, [Value.int rin, Value.ref ria])), (ria, Sum.inl (cI, rik, Sum.inl rif))] H → va_D A [(co, Sum.inr (4, [Value.long xx, Value.long xreadX, Value.ref soa, Value.ref sna, Value.ref swa, Value.int xkept, Value.ref ri, Value.ref ro, Value.ref rw, Value.int b9_2])), (ri, Sum.inr (0, [Value.int rin, Value.ref ria])), (ria, Sum.inl (cI, rik, Sum.inl rif))] → va_S A s.heap H locs → lv_has ls 4 [(3, Value.int b9_0), (1, Value.long b9_1), (0, Value.ref co)] → W p l e R s m args below meth c H locs 0 0 Q (F0 m 9 ls []) := by
    intro n9_9
    induction n9_9 using Nat.strongRecOn with
    | ind n9_9 ih9_9 =>
      intro b9_0 b9_1 b9_2 hn9_9 hi_9 H locs ls hP hD hS hl
      refine lv_iload_n hx hb d_Coder_firstFourBytes_9 rfl (lv_at hl 0 rfl) ?_
      refine lv_iconst (v := 4) hx hb d_Coder_firstFourBytes_10 (by decide) ?_
      refine lv_icmp_ge (tgt := 31) hx hb d_Coder_firstFourBytes_11 (by decide) (fun c_1 => ?_) (fun c_1 => ?_)
      · refine lv_lload_n hx hb d_Coder_firstFourBytes_31 rfl (lv_at hl 1 rfl) ?_
        exact my_lret (v := b9_1) hx hb hr hlocks hQ hK hS (Nat.le_refl _) (Nat.le_refl _) (b9_2) (trivial) (hP.sub [0, 1, 2] rfl) (hD.sub [0, 1, 2] (by decide +kernel) rfl) d_Coder_firstFourBytes_32
      · refine lv_lload_n hx hb d_Coder_firstFourBytes_14 rfl (lv_at hl 1 rfl) ?_
        refine lv_bipush (v := 8) hx hb d_Coder_firstFourBytes_15 (by decide) ?_
        refine lv_lshl hx hb d_Coder_firstFourBytes_17 rfl ?_
        refine lv_topl (fun v_2 ev_2 => ?_)
        refine lv_aload_n hx hb d_Coder_firstFourBytes_18 rfl (lv_at hl 2 rfl) ?_
        refine my_ci (wr := []) (va_runU (As := []) (rest := [Value.long v_2]) ⟨hx, hb, hml, hown, hts⟩ (c_Stack_Coder_nextByte l dC dI cI cM cO H.size co xx xreadX soa sna swa xkept ri ro rw b9_2 rin ria rik rif (by first | assumption | omega)) (va_cwU 0 hts (my_gU k741 k743 k747 k742 k3 k749) rfl rfl rfl rfl (by decide +kernel) ⟨by rw [hR]; exact Nat.le_of_ble_eq_true rfl, by rw [hR]; exact Nat.le_of_ble_eq_true rfl⟩) (my_preV hK hN (hP.sub [0, 1, 2] rfl) (hD.sub [0, 1, 2] (by decide +kernel) rfl) 0 rfl rfl) rfl rfl hl.1 rfl (lv_room (Nat.le_of_ble_eq_true rfl)) d_Coder_firstFourBytes_19 ⟨by rw [hR]; exact Nat.le_of_ble_eq_true rfl, by rw [hR]; exact Nat.le_of_ble_eq_true rfl⟩) hP hD hS hA [0, 1, 2] [] rfl rfl (by decide +kernel) (by decide +kernel) (fun r_19 u9 H locs hw_19 hP hD hS => ?_)
        obtain ⟨xaskedq_19, rfl⟩ : ∃ z, z = u9 := ⟨_, rfl⟩
        have hPD : my_PD (dC, dI) vwCl A [(co, Sum.inr (4, [Value.long xx, Value.long xreadX, Value.ref soa, Value.ref sna, Value.ref swa, Value.int xkept, Value.ref ri, Value.ref ro, Value.ref rw, Value.int xaskedq_19])), (ri, Sum.inr (0, [Value.int rin, Value.ref ria])), (ria, Sum.inl (cI, rik, Sum.inl rif))] H := ⟨hP, hD⟩
        have hP := hPD.1
        have hD := hPD.2
        refine lv_i2l hx hb d_Coder_firstFourBytes_22 rfl ?_
        refine lv_topl (fun v_3 ev_3 => ?_)
        refine lv_lor hx hb d_Coder_firstFourBytes_23 ?_
        refine lv_topl (fun v_4 ev_4 => ?_)
        refine lv_lstore_n (lv' := [(1, Value.long v_4), (3, Value.int b9_0), (0, Value.ref co)]) hx hb d_Coder_firstFourBytes_24 rfl hl (by decide) rfl (fun ls hl => ?_)
        obtain ⟨v_5, ev_5⟩ : ∃ y : Int32, y = b9_0 + (1) := ⟨_, rfl⟩
        refine lv_iinc (v := v_5) (lv' := [(3, Value.int v_5), (1, Value.long v_4), (0, Value.ref co)]) hx hb d_Coder_firstFourBytes_25 hl (k := 1) rfl (by rw [ev_5]; rfl) (by decide) rfl (fun ls hl => ?_)
        refine lv_goto (tgt := 9) hx hb d_Coder_firstFourBytes_28 (by decide) ?_
        exact ih9_9 _ (by first | omega | (have z9 := I_up c_1 ev_5; omega)) v_5 v_4 xaskedq_19 rfl (by have z9 := I_up c_1 ev_5; omega) H locs ls (hP.sub [0, 1, 2] rfl) (hD.sub [0, 1, 2] (by decide +kernel) rfl) hS (lv_sub hl [0, 1, 2] rfl)
  exact J_9 _ (0 : Int32) (0 : Int64) (0 : Int32) rfl (by first | decide | assumption | omega) H locs ls (hP.sub [0, 1, 2] rfl) (hD.sub [0, 1, 2] (by decide +kernel) rfl) hS (lv_sub hl [0, 1, 2] rfl)
set_option maxHeartbeats 2000000 in
set_option maxRecDepth 100000 in
theorem c_Stack_Coder_hasWidth (l : Launch) (dC : Nat → ClassId) (dI : Nat → Nat → Nat) (cI cM cO : ClassId) (sz : Nat) (co : Nat) (xx : Int64) (xreadX : Int64) (soa : Nat) (sna : Nat) (swa : Nat) (xkept : Int32) (ri : Nat) (ro : Nat) (rw : Nat) (xasked : Int32) (wd : Int32) : MetI l y_Coder_hasWidth (Cond.code y_Coder_hasWidth prog_4_method_13_code 2 (some .boolean) :: gw) ({ frames := 0, cells := 0, slots := 0, locals := 0 } : Room) (dC, dI) vwCl (kT cI cM cO) [Value.ref co, Value.int wd] [(co, Sum.inr (4, [Value.long xx, Value.long xreadX, Value.ref soa, Value.ref sna, Value.ref swa, Value.int xkept, Value.ref ri, Value.ref ro, Value.ref rw, Value.int xasked]))] sz (fun (r : Int32) (u : Unit) => True) (fun (u : Unit) => [(co, Sum.inr (4, [Value.long xx, Value.long xreadX, Value.ref soa, Value.ref sna, Value.ref swa, Value.int xkept, Value.ref ri, Value.ref ro, Value.ref rw, Value.int xasked]))]) 0 0 := by
  refine my_ofI (cc := prog_4_method_13_code) (n := 2) (ret := (some .boolean)) (by decide) rfl (Nat.le_of_ble_eq_true rfl) ?_
  intro p e s m args below meth c R Q A ls H locs hx hb hr hts hown hlocks hml hnm hR hQ hA hl hP hK hN hD hS
  have hg : ∀ w ∈ gw, w.before args s = true := fun w h => hts w (List.mem_cons_of_mem _ h)
  have hown : s.vm.findClass "RangeCoders$Coder" = some m.cls := hown
  have hl : lv_has ls 2 [(0, Value.ref co), (1, Value.int wd)] := hl
  refine lv_iload_n hx hb d_Coder_hasWidth_0 rfl (lv_at hl 1 rfl) ?_
  refine lv_iconst (v := 1) hx hb d_Coder_hasWidth_1 (by decide) ?_
  refine lv_icmp_lt (tgt := 15) hx hb d_Coder_hasWidth_2 (by decide) (fun c_1 => ?_) (fun c_1 => ?_)
  · refine lv_iconst (v := 0) hx hb d_Coder_hasWidth_15 (by decide) ?_
    exact my_iret (v := 0) hx hb hr (rfl) hlocks hQ hK hS (Nat.le_refl _) (Nat.le_refl _) () (trivial) (hP.sub [0] rfl) (hD.sub [0] (by decide +kernel) rfl) d_Coder_hasWidth_16
  · refine lv_iload_n hx hb d_Coder_hasWidth_5 rfl (lv_at hl 1 rfl) ?_
    refine lv_bipush (v := 12) hx hb d_Coder_hasWidth_6 (by decide) ?_
    refine lv_icmp_gt (tgt := 15) hx hb d_Coder_hasWidth_8 (by decide) (fun c_2 => ?_) (fun c_2 => ?_)
    · refine lv_iconst (v := 0) hx hb d_Coder_hasWidth_15 (by decide) ?_
      exact my_iret (v := 0) hx hb hr (rfl) hlocks hQ hK hS (Nat.le_refl _) (Nat.le_refl _) () (trivial) (hP.sub [0] rfl) (hD.sub [0] (by decide +kernel) rfl) d_Coder_hasWidth_16
    · refine lv_iconst (v := 1) hx hb d_Coder_hasWidth_11 (by decide) ?_
      refine lv_goto (tgt := 16) hx hb d_Coder_hasWidth_12 (by decide) ?_
      exact my_iret (v := 1) hx hb hr (rfl) hlocks hQ hK hS (Nat.le_refl _) (Nat.le_refl _) () (trivial) (hP.sub [0] rfl) (hD.sub [0] (by decide +kernel) rfl) d_Coder_hasWidth_16
set_option maxHeartbeats 2000000 in
set_option maxRecDepth 100000 in
theorem c_Stack_Coder_bytesAsked (l : Launch) (dC : Nat → ClassId) (dI : Nat → Nat → Nat) (cI cM cO : ClassId) (sz : Nat) (co : Nat) (xx : Int64) (xreadX : Int64) (soa : Nat) (sna : Nat) (swa : Nat) (xkept : Int32) (ri : Nat) (ro : Nat) (rw : Nat) (xasked : Int32) : MetI l y_Coder_bytesAsked (Cond.code y_Coder_bytesAsked prog_4_method_14_code 1 (some .int) :: gw) ({ frames := 0, cells := 0, slots := 0, locals := 0 } : Room) (dC, dI) vwCl (kT cI cM cO) [Value.ref co] [(co, Sum.inr (4, [Value.long xx, Value.long xreadX, Value.ref soa, Value.ref sna, Value.ref swa, Value.int xkept, Value.ref ri, Value.ref ro, Value.ref rw, Value.int xasked]))] sz (fun (r : Int32) (u : Unit) => True) (fun (u : Unit) => [(co, Sum.inr (4, [Value.long xx, Value.long xreadX, Value.ref soa, Value.ref sna, Value.ref swa, Value.int xkept, Value.ref ri, Value.ref ro, Value.ref rw, Value.int xasked]))]) 0 0 := by
  refine my_ofI (cc := prog_4_method_14_code) (n := 1) (ret := (some .int)) (by decide) rfl (Nat.le_of_ble_eq_true rfl) ?_
  intro p e s m args below meth c R Q A ls H locs hx hb hr hts hown hlocks hml hnm hR hQ hA hl hP hK hN hD hS
  have hg : ∀ w ∈ gw, w.before args s = true := fun w h => hts w (List.mem_cons_of_mem _ h)
  have hown : s.vm.findClass "RangeCoders$Coder" = some m.cls := hown
  have hl : lv_has ls 1 [(0, Value.ref co)] := hl
  refine lv_aload_n hx hb d_Coder_bytesAsked_0 rfl (lv_at hl 0 rfl) ?_
  refine va_get (D := (dC, dI)) (ci := 4) (v := .int xasked) (C := "RangeCoders$Stack") (T := T_Stack) (N := 10) hx hb hg in_Stack hown hK hP 0 rfl rfl 9 (by decide) (hg _ k130) (fun _ h9 => h9) rfl d_Coder_bytesAsked_1 ?_
  exact my_iret (v := xasked) hx hb hr (rfl) hlocks hQ hK hS (Nat.le_refl _) (Nat.le_refl _) () (trivial) (hP.sub [0] rfl) (hD.sub [0] (by decide +kernel) rfl) d_Coder_bytesAsked_4
set_option maxHeartbeats 2000000 in
set_option maxRecDepth 100000 in
theorem c_Stack_Stacked_register (l : Launch) (dC : Nat → ClassId) (dI : Nat → Nat → Nat) (cI cM cO : ClassId) (sz : Nat) (co : Nat) (xx : Int64) (xreadX : Int64) (soa : Nat) (sna : Nat) (swa : Nat) (xkept : Int32) (ri : Nat) (ro : Nat) (rw : Nat) (xasked : Int32) (wh : Int32) : MetL l y_Stacked_register (Cond.code y_Stacked_register prog_11_method_10_code 2 (some .long) :: gw) ({ frames := 0, cells := 0, slots := 0, locals := 0 } : Room) (dC, dI) vwCl (kT cI cM cO) [Value.ref co, Value.int wh] [(co, Sum.inr (4, [Value.long xx, Value.long xreadX, Value.ref soa, Value.ref sna, Value.ref swa, Value.int xkept, Value.ref ri, Value.ref ro, Value.ref rw, Value.int xasked]))] sz (fun (r : Int64) (u : Unit) => True) (fun (u : Unit) => [(co, Sum.inr (4, [Value.long xx, Value.long xreadX, Value.ref soa, Value.ref sna, Value.ref swa, Value.int xkept, Value.ref ri, Value.ref ro, Value.ref rw, Value.int xasked]))]) 0 0 := by
  refine my_ofL (cc := prog_11_method_10_code) (n := 2) (ret := (some .long)) (by decide) rfl (Nat.le_of_ble_eq_true rfl) ?_
  intro p e s m args below meth c R Q A ls H locs hx hb hr hts hown hlocks hml hnm hR hQ hA hl hP hK hN hD hS
  have hg : ∀ w ∈ gw, w.before args s = true := fun w h => hts w (List.mem_cons_of_mem _ h)
  have hown : s.vm.findClass "RangeCoders$Stacked" = some m.cls := hown
  have hl : lv_has ls 2 [(0, Value.ref co), (1, Value.int wh)] := hl
  refine lv_iload_n hx hb d_Stacked_register_0 rfl (lv_at hl 1 rfl) ?_
  refine lv_iconst (v := 5) hx hb d_Stacked_register_1 (by decide) ?_
  refine lv_icmp_ne (tgt := 12) hx hb d_Stacked_register_2 (by decide) (fun c_1 => ?_) (fun c_1 => ?_)
  · refine lv_lconst (v := 0) hx hb d_Stacked_register_12 (by decide) ?_
    exact my_lret (v := 0) hx hb hr hlocks hQ hK hS (Nat.le_refl _) (Nat.le_refl _) () (trivial) (hP.sub [0] rfl) (hD.sub [0] (by decide +kernel) rfl) d_Stacked_register_13
  · refine lv_aload_n hx hb d_Stacked_register_5 rfl (lv_at hl 0 rfl) ?_
    refine va_get (D := (dC, dI)) (ci := 4) (v := .long xreadX) (C := "RangeCoders$Stack") (T := T_Stack) (N := 10) hx hb hg in_Stack hown hK hP 0 rfl rfl 1 (by decide) (hg _ k217) (fun _ h9 => h9) rfl d_Stacked_register_6 ?_
    refine lv_goto (tgt := 13) hx hb d_Stacked_register_9 (by decide) ?_
    exact my_lret (v := xreadX) hx hb hr hlocks hQ hK hS (Nat.le_refl _) (Nat.le_refl _) () (trivial) (hP.sub [0] rfl) (hD.sub [0] (by decide +kernel) rfl) d_Stacked_register_13
set_option maxHeartbeats 2000000 in
set_option maxRecDepth 100000 in
theorem c_Stack_Stack_prepare (l : Launch) (dC : Nat → ClassId) (dI : Nat → Nat → Nat) (cI cM cO : ClassId) (sz : Nat) (co : Nat) (xx : Int64) (xreadX : Int64) (soa : Nat) (sna : Nat) (swa : Nat) (xkept : Int32) (ri : Nat) (ro : Nat) (rw : Nat) (xasked : Int32) (oo : Nat) (osg : Int32) (osm : Int32) (ofc : Int32) (oca : Nat) (opa : Nat) (ol : Nat) (ocf : Nat → Int32) (opl : Nat) (opf : Nat → Int32) (ka : Nat) (kl : Nat) (kf : Nat → Int32) (hol : ol ≤ 64) (hopl : opl ≤ 512) (hol0 : 1 ≤ ol) (hkl : kl ≤ 64) : MetV l y_Stack_prepare (Cond.code y_Stack_prepare prog_10_method_2_code 3 none :: gw) ({ frames := 3, cells := 0, slots := 0, locals := 67 } : Room) (dC, dI) vwCl (kT cI cM cO) [Value.ref co, Value.ref oo, Value.ref ka] [(co, Sum.inr (4, [Value.long xx, Value.long xreadX, Value.ref soa, Value.ref sna, Value.ref swa, Value.int xkept, Value.ref ri, Value.ref ro, Value.ref rw, Value.int xasked])), (oo, Sum.inr (7, [Value.int osg, Value.int osm, Value.int ofc, Value.ref oca, Value.ref opa])), (oca, Sum.inl (cI, ol, Sum.inl ocf)), (opa, Sum.inl (cI, opl, Sum.inl opf)), (ka, Sum.inl (cI, kl, Sum.inl kf))] sz (fun (u : Int32 × (Nat → Int32)) => True) (fun (u : Int32 × (Nat → Int32)) => [(co, Sum.inr (4, [Value.long xx, Value.long xreadX, Value.ref soa, Value.ref sna, Value.ref swa, Value.int xkept, Value.ref ri, Value.ref ro, Value.ref rw, Value.int xasked])), (oo, Sum.inr (7, [Value.int osg, Value.int u.1, Value.int ofc, Value.ref oca, Value.ref opa])), (oca, Sum.inl (cI, ol, Sum.inl u.2)), (opa, Sum.inl (cI, opl, Sum.inl opf)), (ka, Sum.inl (cI, kl, Sum.inl kf))]) 0 0 := by
  refine my_ofV (cc := prog_10_method_2_code) (n := 3) (ret := none) (by decide) rfl (Nat.le_of_ble_eq_true rfl) ?_
  intro p e s m args below meth c R Q A ls H locs hx hb hr hts hown hlocks hml hnm hR hQ hA hl hP hK hN hD hS
  have hg : ∀ w ∈ gw, w.before args s = true := fun w h => hts w (List.mem_cons_of_mem _ h)
  have hown : s.vm.findClass "RangeCoders$Stack" = some m.cls := hown
  have hl : lv_has ls 3 [(0, Value.ref co), (1, Value.ref oo), (2, Value.ref ka)] := hl
  refine lv_aload_n hx hb d_Stack_prepare_0 rfl (lv_at hl 1 rfl) ?_
  refine lv_sipush (v := 4096) hx hb d_Stack_prepare_1 (by decide) ?_
  refine lv_aload_n hx hb d_Stack_prepare_4 rfl (lv_at hl 2 rfl) ?_
  refine my_cv (wr := [(co, Sum.inr (4, [Value.long xx, Value.long xreadX, Value.ref soa, Value.ref sna, Value.ref swa, Value.int xkept, Value.ref ri, Value.ref ro, Value.ref rw, Value.int xasked]))]) (va_runV (As := [Value.int 4096, Value.ref ka]) (rest := []) ⟨hx, hb, hml, hown, hts⟩ (c_Odds_scaleTo l dC dI cI cM cO H.size oo osg osm ofc oca opa ol ocf opl opf 4096 ka kl kf (by first | assumption | omega) (by first | assumption | omega) (by first | assumption | omega) (by first | assumption | omega)) (cwV 2 hts (my_gV k383 k384 k385 k14 k386) rfl rfl rfl (by decide +kernel) ⟨by rw [hR]; exact Nat.le_of_ble_eq_true rfl, by rw [hR]; exact Nat.le_of_ble_eq_true rfl⟩) (my_preV hK hN (hP.sub [1, 2, 3, 4] rfl) (hD.sub [1, 2, 3, 4] (by decide +kernel) rfl) 0 rfl rfl) rfl rfl hl.1 rfl (lv_room (Nat.le_of_ble_eq_true rfl)) d_Stack_prepare_5 ⟨by rw [hR]; exact Nat.le_of_ble_eq_true rfl, by rw [hR]; exact Nat.le_of_ble_eq_true rfl⟩) hP hD hS hA [1, 2, 3, 4] [0] rfl rfl (by decide +kernel) (by decide +kernel) (fun u9 H locs hw_5 hP hD hS => ?_)
  obtain ⟨osmq_5, ocfq_5⟩ := u9
  have hPD : my_PD (dC, dI) vwCl A [(co, Sum.inr (4, [Value.long xx, Value.long xreadX, Value.ref soa, Value.ref sna, Value.ref swa, Value.int xkept, Value.ref ri, Value.ref ro, Value.ref rw, Value.int xasked])), (oo, Sum.inr (7, [Value.int osg, Value.int osmq_5, Value.int ofc, Value.ref oca, Value.ref opa])), (oca, Sum.inl (cI, ol, Sum.inl ocfq_5)), (opa, Sum.inl (cI, opl, Sum.inl opf)), (ka, Sum.inl (cI, kl, Sum.inl kf))] H := ⟨hP, hD⟩
  have hP := hPD.1
  have hD := hPD.2
  exact my_vret hx hb hr hlocks hQ hK hS (Nat.le_refl _) (Nat.le_refl _) (osmq_5, ocfq_5) (trivial) (hP.sub [0, 1, 2, 3, 4] rfl) (hD.sub [0, 1, 2, 3, 4] (by decide +kernel) rfl) d_Stack_prepare_8
set_option maxHeartbeats 2000000 in
set_option maxRecDepth 100000 in
theorem c_Stack_Stack_openReading (l : Launch) (dC : Nat → ClassId) (dI : Nat → Nat → Nat) (cI cM cO : ClassId) (sz : Nat) (co : Nat) (xx : Int64) (xreadX : Int64) (soa : Nat) (sna : Nat) (swa : Nat) (xkept : Int32) (ri : Nat) (ro : Nat) (rw : Nat) (xasked : Int32) (rin : Int32) (ria : Nat) (rik : Nat) (rif : Nat → Int32) (hri : rOk rin rik) : MetI l y_Stack_openReading (Cond.code y_Stack_openReading prog_10_method_7_code 1 (some .boolean) :: gw) ({ frames := 4, cells := 0, slots := 0, locals := 86 } : Room) (dC, dI) vwCl (kT cI cM cO) [Value.ref co] [(co, Sum.inr (4, [Value.long xx, Value.long xreadX, Value.ref soa, Value.ref sna, Value.ref swa, Value.int xkept, Value.ref ri, Value.ref ro, Value.ref rw, Value.int xasked])), (ri, Sum.inr (0, [Value.int rin, Value.ref ria])), (ria, Sum.inl (cI, rik, Sum.inl rif))] sz (fun (r : Int32) (u : Int64 × Int32) => True) (fun (u : Int64 × Int32) => [(co, Sum.inr (4, [Value.long xx, Value.long u.1, Value.ref soa, Value.ref sna, Value.ref swa, Value.int xkept, Value.ref ri, Value.ref ro, Value.ref rw, Value.int u.2])), (ri, Sum.inr (0, [Value.int rin, Value.ref ria])), (ria, Sum.inl (cI, rik, Sum.inl rif))]) 0 0 := by
  refine my_ofI (cc := prog_10_method_7_code) (n := 1) (ret := (some .boolean)) (by decide) rfl (Nat.le_of_ble_eq_true rfl) ?_
  intro p e s m args below meth c R Q A ls H locs hx hb hr hts hown hlocks hml hnm hR hQ hA hl hP hK hN hD hS
  have hg : ∀ w ∈ gw, w.before args s = true := fun w h => hts w (List.mem_cons_of_mem _ h)
  have hown : s.vm.findClass "RangeCoders$Stack" = some m.cls := hown
  have hl : lv_has ls 1 [(0, Value.ref co)] := hl
  have hlt_hri := rOk_lt hri
  refine lv_aload_n hx hb d_Stack_openReading_0 rfl (lv_at hl 0 rfl) ?_
  refine lv_aload_n hx hb d_Stack_openReading_1 rfl (lv_at hl 0 rfl) ?_
  refine my_cl (wr := []) (va_runU (As := []) (rest := [Value.ref co]) ⟨hx, hb, hml, hown, hts⟩ (c_Stack_Coder_firstFourBytes l dC dI cI cM cO H.size co xx xreadX soa sna swa xkept ri ro rw xasked rin ria rik rif (by first | assumption | omega)) (va_cwU 0 hts (my_gU k757 k758 k759 k739 k3 k740) rfl rfl rfl rfl (by decide +kernel) ⟨by rw [hR]; exact Nat.le_of_ble_eq_true rfl, by rw [hR]; exact Nat.le_of_ble_eq_true rfl⟩) (my_preV hK hN (hP.sub [0, 1, 2] rfl) (hD.sub [0, 1, 2] (by decide +kernel) rfl) 0 rfl rfl) rfl rfl hl.1 rfl (lv_room (Nat.le_of_ble_eq_true rfl)) d_Stack_openReading_2 ⟨by rw [hR]; exact Nat.le_of_ble_eq_true rfl, by rw [hR]; exact Nat.le_of_ble_eq_true rfl⟩) hP hD hS hA [0, 1, 2] [] rfl rfl (by decide +kernel) (by decide +kernel) (fun r_2 u9 H locs hw_2 hP hD hS => ?_)
  obtain ⟨xaskedq_2, rfl⟩ : ∃ z, z = u9 := ⟨_, rfl⟩
  have hPD : my_PD (dC, dI) vwCl A [(co, Sum.inr (4, [Value.long xx, Value.long xreadX, Value.ref soa, Value.ref sna, Value.ref swa, Value.int xkept, Value.ref ri, Value.ref ro, Value.ref rw, Value.int xaskedq_2])), (ri, Sum.inr (0, [Value.int rin, Value.ref ria])), (ria, Sum.inl (cI, rik, Sum.inl rif))] H := ⟨hP, hD⟩
  have hP := hPD.1
  have hD := hPD.2
  refine va_put (D := (dC, dI)) (ci := 4) (v := .long r_2) (ty := .long) (C := "RangeCoders$Stack") (T := T_Stack) (N := 10) hx hb hg in_Stack t_Stack o_Stack n_Stack hown hK hP hD hS 0 rfl rfl 1 (by decide) (hg _ k215) (fun x9 h9 => u_same (hg _ k216) x9 h9) rfl (by decide +kernel) rfl rfl (Nat.le_of_ble_eq_true rfl) d_Stack_openReading_5 (fun H locs hP hD hS => ?_)
  have hPD : my_PD (dC, dI) vwCl A [(co, Sum.inr (4, [Value.long xx, Value.long r_2, Value.ref soa, Value.ref sna, Value.ref swa, Value.int xkept, Value.ref ri, Value.ref ro, Value.ref rw, Value.int xaskedq_2])), (ri, Sum.inr (0, [Value.int rin, Value.ref ria])), (ria, Sum.inl (cI, rik, Sum.inl rif))] H := ⟨hP, hD⟩
  have hP := hPD.1
  have hD := hPD.2
  refine lv_aload_n hx hb d_Stack_openReading_8 rfl (lv_at hl 0 rfl) ?_
  refine va_get (D := (dC, dI)) (ci := 4) (v := .long r_2) (C := "RangeCoders$Stack") (T := T_Stack) (N := 10) hx hb hg in_Stack hown hK hP 0 rfl rfl 1 (by decide) (hg _ k215) (fun x9 h9 => u_same (hg _ k216) x9 h9) rfl d_Stack_openReading_9 ?_
  refine lv_ldc2 (v := 8388608) hx hb hown (hg _ k603) d_Stack_openReading_12 ?_
  refine W.lcmp hx hb d_Stack_openReading_15 ?_
  refine lv_if_lt (tgt := 23) hx hb d_Stack_openReading_16 (by decide) (fun c_1 => ?_) (fun c_1 => ?_)
  · rw [lg_cmp_lt] at c_1
    refine lv_iconst (v := 0) hx hb d_Stack_openReading_23 (by decide) ?_
    exact my_iret (v := 0) hx hb hr (rfl) hlocks hQ hK hS (Nat.le_refl _) (Nat.le_refl _) (r_2, xaskedq_2) (trivial) (hP.sub [0, 1, 2] rfl) (hD.sub [0, 1, 2] (by decide +kernel) rfl) d_Stack_openReading_24
  · rw [lg_cmp_lt] at c_1
    refine lv_iconst (v := 1) hx hb d_Stack_openReading_19 (by decide) ?_
    refine lv_goto (tgt := 24) hx hb d_Stack_openReading_20 (by decide) ?_
    exact my_iret (v := 1) hx hb hr (rfl) hlocks hQ hK hS (Nat.le_refl _) (Nat.le_refl _) (r_2, xaskedq_2) (trivial) (hP.sub [0, 1, 2] rfl) (hD.sub [0, 1, 2] (by decide +kernel) rfl) d_Stack_openReading_24
set_option maxHeartbeats 2000000 in
set_option maxRecDepth 100000 in
theorem c_Stack_Stack_unstackPart (l : Launch) (dC : Nat → ClassId) (dI : Nat → Nat → Nat) (cI cM cO : ClassId) (sz : Nat) (co : Nat) (xx : Int64) (xreadX : Int64) (soa : Nat) (sna : Nat) (swa : Nat) (xkept : Int32) (ri : Nat) (ro : Nat) (rw : Nat) (xasked : Int32) (rin : Int32) (ria : Nat) (rik : Nat) (rif : Nat → Int32) (pf : Int32) (rst : Int32) (hri : rOk rin rik) : MetV l y_Stack_unstackPart (Cond.code y_Stack_unstackPart prog_10_method_12_code 4 none :: gw) ({ frames := 3, cells := 0, slots := 0, locals := 63 } : Room) (dC, dI) vwCl (kT cI cM cO) [Value.ref co, Value.int pf, Value.int rst] [(co, Sum.inr (4, [Value.long xx, Value.long xreadX, Value.ref soa, Value.ref sna, Value.ref swa, Value.int xkept, Value.ref ri, Value.ref ro, Value.ref rw, Value.int xasked])), (ri, Sum.inr (0, [Value.int rin, Value.ref ria])), (ria, Sum.inl (cI, rik, Sum.inl rif))] sz (fun (u : Int64 × Int32) => True) (fun (u : Int64 × Int32) => [(co, Sum.inr (4, [Value.long xx, Value.long u.1, Value.ref soa, Value.ref sna, Value.ref swa, Value.int xkept, Value.ref ri, Value.ref ro, Value.ref rw, Value.int u.2])), (ri, Sum.inr (0, [Value.int rin, Value.ref ria])), (ria, Sum.inl (cI, rik, Sum.inl rif))]) 0 0 := by
  refine my_ofV (cc := prog_10_method_12_code) (n := 4) (ret := none) (by decide) rfl (Nat.le_of_ble_eq_true rfl) ?_
  intro p e s m args below meth c R Q A ls H locs hx hb hr hts hown hlocks hml hnm hR hQ hA hl hP hK hN hD hS
  have hg : ∀ w ∈ gw, w.before args s = true := fun w h => hts w (List.mem_cons_of_mem _ h)
  have hown : s.vm.findClass "RangeCoders$Stack" = some m.cls := hown
  have hl : lv_has ls 4 [(0, Value.ref co), (1, Value.int pf), (2, Value.int rst)] := hl
  have hlt_hri := rOk_lt hri
  refine lv_aload_n hx hb d_Stack_unstackPart_0 rfl (lv_at hl 0 rfl) ?_
  refine lv_iload_n hx hb d_Stack_unstackPart_1 rfl (lv_at hl 1 rfl) ?_
  refine lv_i2l hx hb d_Stack_unstackPart_2 rfl ?_
  refine lv_topl (fun v_1 ev_1 => ?_)
  refine lv_aload_n hx hb d_Stack_unstackPart_3 rfl (lv_at hl 0 rfl) ?_
  refine va_get (D := (dC, dI)) (ci := 4) (v := .long xreadX) (C := "RangeCoders$Stack") (T := T_Stack) (N := 10) hx hb hg in_Stack hown hK hP 0 rfl rfl 1 (by decide) (hg _ k215) (fun x9 h9 => u_same (hg _ k216) x9 h9) rfl d_Stack_unstackPart_4 ?_
  refine lv_bipush (v := 12) hx hb d_Stack_unstackPart_7 (by decide) ?_
  refine lv_lushr hx hb d_Stack_unstackPart_9 rfl ?_
  refine lv_topl (fun v_2 ev_2 => ?_)
  refine lv_lmul hx hb d_Stack_unstackPart_10 ?_
  refine lv_topl (fun v_3 ev_3 => ?_)
  refine lv_iload_n hx hb d_Stack_unstackPart_11 rfl (lv_at hl 2 rfl) ?_
  refine lv_i2l hx hb d_Stack_unstackPart_12 rfl ?_
  refine lv_topl (fun v_4 ev_4 => ?_)
  refine lv_ladd hx hb d_Stack_unstackPart_13 ?_
  refine lv_topl (fun v_5 ev_5 => ?_)
  refine va_put (D := (dC, dI)) (ci := 4) (v := .long v_5) (ty := .long) (C := "RangeCoders$Stack") (T := T_Stack) (N := 10) hx hb hg in_Stack t_Stack o_Stack n_Stack hown hK hP hD hS 0 rfl rfl 1 (by decide) (hg _ k215) (fun x9 h9 => u_same (hg _ k216) x9 h9) rfl (by decide +kernel) rfl rfl (Nat.le_of_ble_eq_true rfl) d_Stack_unstackPart_14 (fun H locs hP hD hS => ?_)
  have hPD : my_PD (dC, dI) vwCl A [(co, Sum.inr (4, [Value.long xx, Value.long v_5, Value.ref soa, Value.ref sna, Value.ref swa, Value.int xkept, Value.ref ri, Value.ref ro, Value.ref rw, Value.int xasked])), (ri, Sum.inr (0, [Value.int rin, Value.ref ria])), (ria, Sum.inl (cI, rik, Sum.inl rif))] H := ⟨hP, hD⟩
  have hP := hPD.1
  have hD := hPD.2
  refine lv_iconst (v := 0) hx hb d_Stack_unstackPart_17 (by decide) ?_
  refine lv_istore_n (lv' := [(3, Value.int 0), (0, Value.ref co), (1, Value.int pf), (2, Value.int rst)]) hx hb d_Stack_unstackPart_18 rfl hl (by decide) rfl (fun ls hl => ?_)
  have J_19 : ∀ (n9_19 : Nat) (b19_0 : Int32) (b19_1 : Int64) (b19_2 : Int32) (hn9_19 : ((8 : Int32).toInt - b19_0.toInt).toNat = n9_19) (hi_19 : 0 ≤ b19_0.toInt) (H : Heap) (locs : List Loc) (ls : Array Slot), va_P (dC, dI) vwCl [(co, Sum.inr (4, [Value.long xx, Value.long b19_1, Value.ref soa, Value.ref sna, Value.ref swa, Value.int xkept, Value.ref ri, Value.ref ro, Value.ref rw, Value.int b19_2])), (ri, Sum.inr (0, [Value.int rin, Value.ref ria])), (ria, Sum.inl (cI, rik, Sum.inl rif))] H → va_D A [(co, Sum.inr (4, [Value.long xx, Value.long b19_1, Value.ref soa, Value.ref sna, Value.ref swa, Value.int xkept, Value.ref ri, Value.ref ro, Value.ref rw, Value.int b19_2])), (ri, Sum.inr (0, [Value.int rin, Value.ref ria])), (ria, Sum.inl (cI, rik, Sum.inl rif))] → va_S A s.heap H locs → lv_has ls 4 [(3, Value.int b19_0), (0, Value.ref co), (1, Value.int pf), (2, Value.int rst)] → W p l e R s m args below meth c H locs 0 0 Q (F0 m 19 ls []) := by
    intro n9_19
    induction n9_19 using Nat.strongRecOn with
    | ind n9_19 ih9_19 =>
      intro b19_0 b19_1 b19_2 hn9_19 hi_19 H locs ls hP hD hS hl
      refine lv_iload_n hx hb d_Stack_unstackPart_19 rfl (lv_at hl 0 rfl) ?_
      refine lv_bipush (v := 8) hx hb d_Stack_unstackPart_20 (by decide) ?_
      refine lv_icmp_ge (tgt := 59) hx hb d_Stack_unstackPart_22 (by decide) (fun c_6 => ?_) (fun c_6 => ?_)
      · exact my_vret hx hb hr hlocks hQ hK hS (Nat.le_refl _) (Nat.le_refl _) (b19_1, b19_2) (trivial) (hP.sub [0, 1, 2] rfl) (hD.sub [0, 1, 2] (by decide +kernel) rfl) d_Stack_unstackPart_59
      · refine lv_aload_n hx hb d_Stack_unstackPart_25 rfl (lv_at hl 1 rfl) ?_
        refine va_get (D := (dC, dI)) (ci := 4) (v := .long b19_1) (C := "RangeCoders$Stack") (T := T_Stack) (N := 10) hx hb hg in_Stack hown hK hP 0 rfl rfl 1 (by decide) (hg _ k215) (fun x9 h9 => u_same (hg _ k216) x9 h9) rfl d_Stack_unstackPart_26 ?_
        refine lv_ldc2 (v := 8388608) hx hb hown (hg _ k603) d_Stack_unstackPart_29 ?_
        refine W.lcmp hx hb d_Stack_unstackPart_32 ?_
        refine lv_if_ge (tgt := 59) hx hb d_Stack_unstackPart_33 (by decide) (fun c_7 => ?_) (fun c_7 => ?_)
        · rw [lg_cmp_ge] at c_7
          exact my_vret hx hb hr hlocks hQ hK hS (Nat.le_refl _) (Nat.le_refl _) (b19_1, b19_2) (trivial) (hP.sub [0, 1, 2] rfl) (hD.sub [0, 1, 2] (by decide +kernel) rfl) d_Stack_unstackPart_59
        · rw [lg_cmp_ge] at c_7
          refine lv_aload_n hx hb d_Stack_unstackPart_36 rfl (lv_at hl 1 rfl) ?_
          refine lv_aload_n hx hb d_Stack_unstackPart_37 rfl (lv_at hl 1 rfl) ?_
          refine va_get (D := (dC, dI)) (ci := 4) (v := .long b19_1) (C := "RangeCoders$Stack") (T := T_Stack) (N := 10) hx hb hg in_Stack hown hK hP 0 rfl rfl 1 (by decide) (hg _ k215) (fun x9 h9 => u_same (hg _ k216) x9 h9) rfl d_Stack_unstackPart_38 ?_
          refine lv_bipush (v := 8) hx hb d_Stack_unstackPart_41 (by decide) ?_
          refine lv_lshl hx hb d_Stack_unstackPart_43 rfl ?_
          refine lv_topl (fun v_8 ev_8 => ?_)
          refine lv_aload_n hx hb d_Stack_unstackPart_44 rfl (lv_at hl 1 rfl) ?_
          refine my_ci (wr := []) (va_runU (As := []) (rest := [Value.long v_8, Value.ref co]) ⟨hx, hb, hml, hown, hts⟩ (c_Stack_Coder_nextByte l dC dI cI cM cO H.size co xx b19_1 soa sna swa xkept ri ro rw b19_2 rin ria rik rif (by first | assumption | omega)) (va_cwU 0 hts (my_gU k839 k840 k841 k742 k3 k749) rfl rfl rfl rfl (by decide +kernel) ⟨by rw [hR]; exact Nat.le_of_ble_eq_true rfl, by rw [hR]; exact Nat.le_of_ble_eq_true rfl⟩) (my_preV hK hN (hP.sub [0, 1, 2] rfl) (hD.sub [0, 1, 2] (by decide +kernel) rfl) 0 rfl rfl) rfl rfl hl.1 rfl (lv_room (Nat.le_of_ble_eq_true rfl)) d_Stack_unstackPart_45 ⟨by rw [hR]; exact Nat.le_of_ble_eq_true rfl, by rw [hR]; exact Nat.le_of_ble_eq_true rfl⟩) hP hD hS hA [0, 1, 2] [] rfl rfl (by decide +kernel) (by decide +kernel) (fun r_45 u9 H locs hw_45 hP hD hS => ?_)
          obtain ⟨xaskedq_45, rfl⟩ : ∃ z, z = u9 := ⟨_, rfl⟩
          have hPD : my_PD (dC, dI) vwCl A [(co, Sum.inr (4, [Value.long xx, Value.long b19_1, Value.ref soa, Value.ref sna, Value.ref swa, Value.int xkept, Value.ref ri, Value.ref ro, Value.ref rw, Value.int xaskedq_45])), (ri, Sum.inr (0, [Value.int rin, Value.ref ria])), (ria, Sum.inl (cI, rik, Sum.inl rif))] H := ⟨hP, hD⟩
          have hP := hPD.1
          have hD := hPD.2
          refine lv_i2l hx hb d_Stack_unstackPart_48 rfl ?_
          refine lv_topl (fun v_9 ev_9 => ?_)
          refine lv_lor hx hb d_Stack_unstackPart_49 ?_
          refine lv_topl (fun v_10 ev_10 => ?_)
          refine va_put (D := (dC, dI)) (ci := 4) (v := .long v_10) (ty := .long) (C := "RangeCoders$Stack") (T := T_Stack) (N := 10) hx hb hg in_Stack t_Stack o_Stack n_Stack hown hK hP hD hS 0 rfl rfl 1 (by decide) (hg _ k215) (fun x9 h9 => u_same (hg _ k216) x9 h9) rfl (by decide +kernel) rfl rfl (Nat.le_of_ble_eq_true rfl) d_Stack_unstackPart_50 (fun H locs hP hD hS => ?_)
          have hPD : my_PD (dC, dI) vwCl A [(co, Sum.inr (4, [Value.long xx, Value.long v_10, Value.ref soa, Value.ref sna, Value.ref swa, Value.int xkept, Value.ref ri, Value.ref ro, Value.ref rw, Value.int xaskedq_45])), (ri, Sum.inr (0, [Value.int rin, Value.ref ria])), (ria, Sum.inl (cI, rik, Sum.inl rif))] H := ⟨hP, hD⟩
          have hP := hPD.1
          have hD := hPD.2
          obtain ⟨v_11, ev_11⟩ : ∃ y : Int32, y = b19_0 + (1) := ⟨_, rfl⟩
          refine lv_iinc (v := v_11) (lv' := [(3, Value.int v_11), (0, Value.ref co), (1, Value.int pf), (2, Value.int rst)]) hx hb d_Stack_unstackPart_53 hl (k := 0) rfl (by rw [ev_11]; rfl) (by decide) rfl (fun ls hl => ?_)
          refine lv_goto (tgt := 19) hx hb d_Stack_unstackPart_56 (by decide) ?_
          exact ih9_19 _ (by first | omega | (have z9 := I_up c_6 ev_11; omega)) v_11 v_10 xaskedq_45 rfl (by have z9 := I_up c_6 ev_11; omega) H locs ls (hP.sub [0, 1, 2] rfl) (hD.sub [0, 1, 2] (by decide +kernel) rfl) hS (lv_sub hl [0, 1, 2, 3] rfl)
  exact J_19 _ (0 : Int32) v_5 xasked rfl (by first | decide | assumption | omega) H locs ls (hP.sub [0, 1, 2] rfl) (hD.sub [0, 1, 2] (by decide +kernel) rfl) hS (lv_sub hl [0, 1, 2, 3] rfl)
set_option maxHeartbeats 2000000 in
set_option maxRecDepth 100000 in
theorem c_Stack_Stack_nextSign (l : Launch) (dC : Nat → ClassId) (dI : Nat → Nat → Nat) (cI cM cO : ClassId) (sz : Nat) (co : Nat) (xx : Int64) (xreadX : Int64) (soa : Nat) (sna : Nat) (swa : Nat) (xkept : Int32) (ri : Nat) (ro : Nat) (rw : Nat) (xasked : Int32) (rin : Int32) (ria : Nat) (rik : Nat) (rif : Nat → Int32) (oo : Nat) (osg : Int32) (osm : Int32) (ofc : Int32) (oca : Nat) (opa : Nat) (ol : Nat) (ocf : Nat → Int32) (opl : Nat) (opf : Nat → Int32) (hri : rOk rin rik) (hol : ol ≤ 64) (hopl : opl ≤ 512) : MetI l y_Stack_nextSign (Cond.code y_Stack_nextSign prog_10_method_8_code 4 (some .int) :: gw) ({ frames := 4, cells := 0, slots := 0, locals := 86 } : Room) (dC, dI) vwCl (kT cI cM cO) [Value.ref co, Value.ref oo] [(co, Sum.inr (4, [Value.long xx, Value.long xreadX, Value.ref soa, Value.ref sna, Value.ref swa, Value.int xkept, Value.ref ri, Value.ref ro, Value.ref rw, Value.int xasked])), (ri, Sum.inr (0, [Value.int rin, Value.ref ria])), (ria, Sum.inl (cI, rik, Sum.inl rif)), (oo, Sum.inr (7, [Value.int osg, Value.int osm, Value.int ofc, Value.ref oca, Value.ref opa])), (oca, Sum.inl (cI, ol, Sum.inl ocf)), (opa, Sum.inl (cI, opl, Sum.inl opf))] sz (fun (r : Int32) (u : Int64 × Int32) => True) (fun (u : Int64 × Int32) => [(co, Sum.inr (4, [Value.long xx, Value.long u.1, Value.ref soa, Value.ref sna, Value.ref swa, Value.int xkept, Value.ref ri, Value.ref ro, Value.ref rw, Value.int u.2])), (ri, Sum.inr (0, [Value.int rin, Value.ref ria])), (ria, Sum.inl (cI, rik, Sum.inl rif)), (oo, Sum.inr (7, [Value.int osg, Value.int osm, Value.int ofc, Value.ref oca, Value.ref opa])), (oca, Sum.inl (cI, ol, Sum.inl ocf)), (opa, Sum.inl (cI, opl, Sum.inl opf))]) 0 0 := by
  refine my_ofI (cc := prog_10_method_8_code) (n := 4) (ret := (some .int)) (by decide) rfl (Nat.le_of_ble_eq_true rfl) ?_
  intro p e s m args below meth c R Q A ls H locs hx hb hr hts hown hlocks hml hnm hR hQ hA hl hP hK hN hD hS
  have hg : ∀ w ∈ gw, w.before args s = true := fun w h => hts w (List.mem_cons_of_mem _ h)
  have hown : s.vm.findClass "RangeCoders$Stack" = some m.cls := hown
  have hl : lv_has ls 4 [(0, Value.ref co), (1, Value.ref oo)] := hl
  have hlt_hri := rOk_lt hri
  refine lv_aload_n hx hb d_Stack_nextSign_0 rfl (lv_at hl 0 rfl) ?_
  refine va_get (D := (dC, dI)) (ci := 4) (v := .long xreadX) (C := "RangeCoders$Stack") (T := T_Stack) (N := 10) hx hb hg in_Stack hown hK hP 0 rfl rfl 1 (by decide) (hg _ k215) (fun x9 h9 => u_same (hg _ k216) x9 h9) rfl d_Stack_nextSign_1 ?_
  refine lv_ldc2 (v := 4095) hx hb hown (hg _ k833) d_Stack_nextSign_4 ?_
  refine lv_land hx hb d_Stack_nextSign_7 ?_
  refine lv_topl (fun v_1 ev_1 => ?_)
  refine lv_l2i hx hb d_Stack_nextSign_8 rfl ?_
  refine lv_topi (fun v_2 ev_2 => ?_)
  refine lv_istore_n (lv' := [(2, Value.int v_2), (0, Value.ref co), (1, Value.ref oo)]) hx hb d_Stack_nextSign_9 rfl hl (by decide) rfl (fun ls hl => ?_)
  refine lv_aload_n hx hb d_Stack_nextSign_10 rfl (lv_at hl 2 rfl) ?_
  refine lv_iload_n hx hb d_Stack_nextSign_11 rfl (lv_at hl 0 rfl) ?_
  refine my_ci (wr := [(co, Sum.inr (4, [Value.long xx, Value.long xreadX, Value.ref soa, Value.ref sna, Value.ref swa, Value.int xkept, Value.ref ri, Value.ref ro, Value.ref rw, Value.int xasked])), (ri, Sum.inr (0, [Value.int rin, Value.ref ria])), (ria, Sum.inl (cI, rik, Sum.inl rif))]) (va_runV (As := [Value.int v_2]) (rest := []) ⟨hx, hb, hml, hown, hts⟩ (c_Odds_signAt l dC dI cI cM cO H.size oo osg osm ofc oca opa ol ocf opl opf v_2 (by first | assumption | omega) (by first | assumption | omega)) (cwV 1 hts (my_gV k834 k812 k813 k14 k814) rfl rfl rfl (by decide +kernel) ⟨by rw [hR]; exact Nat.le_of_ble_eq_true rfl, by rw [hR]; exact Nat.le_of_ble_eq_true rfl⟩) (my_preV hK hN (hP.sub [3, 4, 5] rfl) (hD.sub [3, 4, 5] (by decide +kernel) rfl) 0 rfl rfl) rfl rfl hl.1 rfl (lv_room (Nat.le_of_ble_eq_true rfl)) d_Stack_nextSign_12 ⟨by rw [hR]; exact Nat.le_of_ble_eq_true rfl, by rw [hR]; exact Nat.le_of_ble_eq_true rfl⟩) hP hD hS hA [3, 4, 5] [0, 1, 2] rfl rfl (by decide +kernel) (by decide +kernel) (fun r_12 u9 H locs hw_12 hP hD hS => ?_)
  have hPD : my_PD (dC, dI) vwCl A [(co, Sum.inr (4, [Value.long xx, Value.long xreadX, Value.ref soa, Value.ref sna, Value.ref swa, Value.int xkept, Value.ref ri, Value.ref ro, Value.ref rw, Value.int xasked])), (ri, Sum.inr (0, [Value.int rin, Value.ref ria])), (ria, Sum.inl (cI, rik, Sum.inl rif)), (oo, Sum.inr (7, [Value.int osg, Value.int osm, Value.int ofc, Value.ref oca, Value.ref opa])), (oca, Sum.inl (cI, ol, Sum.inl ocf)), (opa, Sum.inl (cI, opl, Sum.inl opf))] H := ⟨hP, hD⟩
  have hP := hPD.1
  have hD := hPD.2
  refine lv_istore_n (lv' := [(3, Value.int r_12), (2, Value.int v_2), (0, Value.ref co), (1, Value.ref oo)]) hx hb d_Stack_nextSign_15 rfl hl (by decide) rfl (fun ls hl => ?_)
  refine lv_iload_n hx hb d_Stack_nextSign_16 rfl (lv_at hl 0 rfl) ?_
  refine lv_iconst (v := (-1)) hx hb d_Stack_nextSign_17 (by decide) ?_
  refine lv_icmp_eq (tgt := 37) hx hb d_Stack_nextSign_18 (by decide) (fun c_3 => ?_) (fun c_3 => ?_)
  · refine lv_iload_n hx hb d_Stack_nextSign_37 rfl (lv_at hl 0 rfl) ?_
    exact my_iret (v := r_12) hx hb hr (rfl) hlocks hQ hK hS (Nat.le_refl _) (Nat.le_refl _) (xreadX, xasked) (trivial) (hP.sub [0, 1, 2, 3, 4, 5] rfl) (hD.sub [0, 1, 2, 3, 4, 5] (by decide +kernel) rfl) d_Stack_nextSign_38
  · refine lv_aload_n hx hb d_Stack_nextSign_21 rfl (lv_at hl 2 rfl) ?_
    refine lv_aload_n hx hb d_Stack_nextSign_22 rfl (lv_at hl 3 rfl) ?_
    refine lv_iload_n hx hb d_Stack_nextSign_23 rfl (lv_at hl 0 rfl) ?_
    refine my_ci (wr := [(co, Sum.inr (4, [Value.long xx, Value.long xreadX, Value.ref soa, Value.ref sna, Value.ref swa, Value.int xkept, Value.ref ri, Value.ref ro, Value.ref rw, Value.int xasked])), (ri, Sum.inr (0, [Value.int rin, Value.ref ria])), (ria, Sum.inl (cI, rik, Sum.inl rif))]) (va_runV (As := [Value.int r_12]) (rest := [Value.ref co]) ⟨hx, hb, hml, hown, hts⟩ (c_Odds_at l dC dI cI cM cO H.size oo osg osm ofc oca opa ol ocf opl opf r_12 (by first | assumption | omega) (by first | assumption | omega)) (cwV 1 hts (my_gV k636 k436 k437 k14 k438) rfl rfl rfl (by decide +kernel) ⟨by rw [hR]; exact Nat.le_of_ble_eq_true rfl, by rw [hR]; exact Nat.le_of_ble_eq_true rfl⟩) (my_preV hK hN (hP.sub [3, 4, 5] rfl) (hD.sub [3, 4, 5] (by decide +kernel) rfl) 0 rfl rfl) rfl rfl hl.1 rfl (lv_room (Nat.le_of_ble_eq_true rfl)) d_Stack_nextSign_24 ⟨by rw [hR]; exact Nat.le_of_ble_eq_true rfl, by rw [hR]; exact Nat.le_of_ble_eq_true rfl⟩) hP hD hS hA [3, 4, 5] [0, 1, 2] rfl rfl (by decide +kernel) (by decide +kernel) (fun r_24 u9 H locs hw_24 hP hD hS => ?_)
    have hPD : my_PD (dC, dI) vwCl A [(co, Sum.inr (4, [Value.long xx, Value.long xreadX, Value.ref soa, Value.ref sna, Value.ref swa, Value.int xkept, Value.ref ri, Value.ref ro, Value.ref rw, Value.int xasked])), (ri, Sum.inr (0, [Value.int rin, Value.ref ria])), (ria, Sum.inl (cI, rik, Sum.inl rif)), (oo, Sum.inr (7, [Value.int osg, Value.int osm, Value.int ofc, Value.ref oca, Value.ref opa])), (oca, Sum.inl (cI, ol, Sum.inl ocf)), (opa, Sum.inl (cI, opl, Sum.inl opf))] H := ⟨hP, hD⟩
    have hP := hPD.1
    have hD := hPD.2
    refine lv_iload_n hx hb d_Stack_nextSign_27 rfl (lv_at hl 1 rfl) ?_
    refine lv_aload_n hx hb d_Stack_nextSign_28 rfl (lv_at hl 3 rfl) ?_
    refine lv_iload_n hx hb d_Stack_nextSign_29 rfl (lv_at hl 0 rfl) ?_
    refine my_ci (wr := [(co, Sum.inr (4, [Value.long xx, Value.long xreadX, Value.ref soa, Value.ref sna, Value.ref swa, Value.int xkept, Value.ref ri, Value.ref ro, Value.ref rw, Value.int xasked])), (ri, Sum.inr (0, [Value.int rin, Value.ref ria])), (ria, Sum.inl (cI, rik, Sum.inl rif))]) (va_runV (As := [Value.int r_12]) (rest := [Value.int v_2, Value.int r_24, Value.ref co]) ⟨hx, hb, hml, hown, hts⟩ (c_Odds_below l dC dI cI cM cO H.size oo osg osm ofc oca opa ol ocf opl opf r_12 (by first | assumption | omega) (by first | assumption | omega)) (cwV 1 hts (my_gV k637 k495 k496 k14 k497) rfl rfl rfl (by decide +kernel) ⟨by rw [hR]; exact Nat.le_of_ble_eq_true rfl, by rw [hR]; exact Nat.le_of_ble_eq_true rfl⟩) (my_preV hK hN (hP.sub [3, 4, 5] rfl) (hD.sub [3, 4, 5] (by decide +kernel) rfl) 0 rfl rfl) rfl rfl hl.1 rfl (lv_room (Nat.le_of_ble_eq_true rfl)) d_Stack_nextSign_30 ⟨by rw [hR]; exact Nat.le_of_ble_eq_true rfl, by rw [hR]; exact Nat.le_of_ble_eq_true rfl⟩) hP hD hS hA [3, 4, 5] [0, 1, 2] rfl rfl (by decide +kernel) (by decide +kernel) (fun r_30 u9 H locs hw_30 hP hD hS => ?_)
    have hPD : my_PD (dC, dI) vwCl A [(co, Sum.inr (4, [Value.long xx, Value.long xreadX, Value.ref soa, Value.ref sna, Value.ref swa, Value.int xkept, Value.ref ri, Value.ref ro, Value.ref rw, Value.int xasked])), (ri, Sum.inr (0, [Value.int rin, Value.ref ria])), (ria, Sum.inl (cI, rik, Sum.inl rif)), (oo, Sum.inr (7, [Value.int osg, Value.int osm, Value.int ofc, Value.ref oca, Value.ref opa])), (oca, Sum.inl (cI, ol, Sum.inl ocf)), (opa, Sum.inl (cI, opl, Sum.inl opf))] H := ⟨hP, hD⟩
    have hP := hPD.1
    have hD := hPD.2
    refine lv_isub hx hb d_Stack_nextSign_33 ?_
    refine lv_topi (fun v_4 ev_4 => ?_)
    refine my_cv (wr := [(oo, Sum.inr (7, [Value.int osg, Value.int osm, Value.int ofc, Value.ref oca, Value.ref opa])), (oca, Sum.inl (cI, ol, Sum.inl ocf)), (opa, Sum.inl (cI, opl, Sum.inl opf))]) (va_runV (As := [Value.int r_24, Value.int v_4]) (rest := []) ⟨hx, hb, hml, hown, hts⟩ (c_Stack_Stack_unstackPart l dC dI cI cM cO H.size co xx xreadX soa sna swa xkept ri ro rw xasked rin ria rik rif r_24 v_4 (by first | assumption | omega)) (cwV 2 hts (my_gV k835 k837 ks16 k10 k838) rfl rfl rfl (by decide +kernel) ⟨by rw [hR]; exact Nat.le_of_ble_eq_true rfl, by rw [hR]; exact Nat.le_of_ble_eq_true rfl⟩) (my_preV hK hN (hP.sub [0, 1, 2] rfl) (hD.sub [0, 1, 2] (by decide +kernel) rfl) 0 rfl rfl) rfl rfl hl.1 rfl (lv_room (Nat.le_of_ble_eq_true rfl)) d_Stack_nextSign_34 ⟨by rw [hR]; exact Nat.le_of_ble_eq_true rfl, by rw [hR]; exact Nat.le_of_ble_eq_true rfl⟩) hP hD hS hA [0, 1, 2] [3, 4, 5] rfl rfl (by decide +kernel) (by decide +kernel) (fun u9 H locs hw_34 hP hD hS => ?_)
    obtain ⟨xreadXq_34, xaskedq_34⟩ := u9
    have hPD : my_PD (dC, dI) vwCl A [(oo, Sum.inr (7, [Value.int osg, Value.int osm, Value.int ofc, Value.ref oca, Value.ref opa])), (oca, Sum.inl (cI, ol, Sum.inl ocf)), (opa, Sum.inl (cI, opl, Sum.inl opf)), (co, Sum.inr (4, [Value.long xx, Value.long xreadXq_34, Value.ref soa, Value.ref sna, Value.ref swa, Value.int xkept, Value.ref ri, Value.ref ro, Value.ref rw, Value.int xaskedq_34])), (ri, Sum.inr (0, [Value.int rin, Value.ref ria])), (ria, Sum.inl (cI, rik, Sum.inl rif))] H := ⟨hP, hD⟩
    have hP := hPD.1
    have hD := hPD.2
    refine lv_iload_n hx hb d_Stack_nextSign_37 rfl (lv_at hl 0 rfl) ?_
    exact my_iret (v := r_12) hx hb hr (rfl) hlocks hQ hK hS (Nat.le_refl _) (Nat.le_refl _) (xreadXq_34, xaskedq_34) (trivial) (hP.sub [3, 4, 5, 0, 1, 2] rfl) (hD.sub [3, 4, 5, 0, 1, 2] (by decide +kernel) rfl) d_Stack_nextSign_38
set_option maxHeartbeats 2000000 in
set_option maxRecDepth 100000 in
theorem c_Stack_Stack_nextValue (l : Launch) (dC : Nat → ClassId) (dI : Nat → Nat → Nat) (cI cM cO : ClassId) (sz : Nat) (co : Nat) (xx : Int64) (xreadX : Int64) (soa : Nat) (sna : Nat) (swa : Nat) (xkept : Int32) (ri : Nat) (ro : Nat) (rw : Nat) (xasked : Int32) (rin : Int32) (ria : Nat) (rik : Nat) (rif : Nat → Int32) (wd : Int32) (hri : rOk rin rik) : MetI l y_Stack_nextValue (Cond.code y_Stack_nextValue prog_10_method_9_code 4 (some .int) :: gw) ({ frames := 4, cells := 0, slots := 0, locals := 86 } : Room) (dC, dI) vwCl (kT cI cM cO) [Value.ref co, Value.int wd] [(co, Sum.inr (4, [Value.long xx, Value.long xreadX, Value.ref soa, Value.ref sna, Value.ref swa, Value.int xkept, Value.ref ri, Value.ref ro, Value.ref rw, Value.int xasked])), (ri, Sum.inr (0, [Value.int rin, Value.ref ria])), (ria, Sum.inl (cI, rik, Sum.inl rif))] sz (fun (r : Int32) (u : Int64 × Int32) => True) (fun (u : Int64 × Int32) => [(co, Sum.inr (4, [Value.long xx, Value.long u.1, Value.ref soa, Value.ref sna, Value.ref swa, Value.int xkept, Value.ref ri, Value.ref ro, Value.ref rw, Value.int u.2])), (ri, Sum.inr (0, [Value.int rin, Value.ref ria])), (ria, Sum.inl (cI, rik, Sum.inl rif))]) 0 0 := by
  refine my_ofI (cc := prog_10_method_9_code) (n := 4) (ret := (some .int)) (by decide) rfl (Nat.le_of_ble_eq_true rfl) ?_
  intro p e s m args below meth c R Q A ls H locs hx hb hr hts hown hlocks hml hnm hR hQ hA hl hP hK hN hD hS
  have hg : ∀ w ∈ gw, w.before args s = true := fun w h => hts w (List.mem_cons_of_mem _ h)
  have hown : s.vm.findClass "RangeCoders$Stack" = some m.cls := hown
  have hl : lv_has ls 4 [(0, Value.ref co), (1, Value.int wd)] := hl
  have hlt_hri := rOk_lt hri
  refine lv_aload_n hx hb d_Stack_nextValue_0 rfl (lv_at hl 0 rfl) ?_
  refine va_get (D := (dC, dI)) (ci := 4) (v := .long xreadX) (C := "RangeCoders$Stack") (T := T_Stack) (N := 10) hx hb hg in_Stack hown hK hP 0 rfl rfl 1 (by decide) (hg _ k215) (fun x9 h9 => u_same (hg _ k216) x9 h9) rfl d_Stack_nextValue_1 ?_
  refine lv_ldc2 (v := 4095) hx hb hown (hg _ k833) d_Stack_nextValue_4 ?_
  refine lv_land hx hb d_Stack_nextValue_7 ?_
  refine lv_topl (fun v_1 ev_1 => ?_)
  refine lv_l2i hx hb d_Stack_nextValue_8 rfl ?_
  refine lv_topi (fun v_2 ev_2 => ?_)
  refine lv_istore_n (lv' := [(2, Value.int v_2), (0, Value.ref co), (1, Value.int wd)]) hx hb d_Stack_nextValue_9 rfl hl (by decide) rfl (fun ls hl => ?_)
  refine lv_sipush (v := 4096) hx hb d_Stack_nextValue_10 (by decide) ?_
  refine lv_iload_n hx hb d_Stack_nextValue_13 rfl (lv_at hl 2 rfl) ?_
  refine lv_ishr hx hb d_Stack_nextValue_14 ?_
  refine lv_topi (fun v_3 ev_3 => ?_)
  refine lv_istore_n (lv' := [(3, Value.int v_3), (2, Value.int v_2), (0, Value.ref co), (1, Value.int wd)]) hx hb d_Stack_nextValue_15 rfl hl (by decide) rfl (fun ls hl => ?_)
  refine lv_iload_n hx hb d_Stack_nextValue_16 rfl (lv_at hl 0 rfl) ?_
  refine lv_if_gt (tgt := 22) hx hb d_Stack_nextValue_17 (by decide) (fun c_4 => ?_) (fun c_4 => ?_)
  · refine lv_aload_n hx hb d_Stack_nextValue_22 rfl (lv_at hl 2 rfl) ?_
    refine lv_iload_n hx hb d_Stack_nextValue_23 rfl (lv_at hl 0 rfl) ?_
    refine lv_iload_n hx hb d_Stack_nextValue_24 rfl (lv_at hl 1 rfl) ?_
    refine lv_iload_n hx hb d_Stack_nextValue_25 rfl (lv_at hl 0 rfl) ?_
    refine lv_irem hx hb d_Stack_nextValue_26 (by first | decide | exact I_nzp (by assumption) | exact I_nz (by assumption)) ?_
    refine lv_topi (fun v_5 ev_5 => ?_)
    refine my_cv (wr := []) (va_runV (As := [Value.int v_3, Value.int v_5]) (rest := []) ⟨hx, hb, hml, hown, hts⟩ (c_Stack_Stack_unstackPart l dC dI cI cM cO H.size co xx xreadX soa sna swa xkept ri ro rw xasked rin ria rik rif v_3 v_5 (by first | assumption | omega)) (cwV 2 hts (my_gV k835 k837 ks16 k10 k838) rfl rfl rfl (by decide +kernel) ⟨by rw [hR]; exact Nat.le_of_ble_eq_true rfl, by rw [hR]; exact Nat.le_of_ble_eq_true rfl⟩) (my_preV hK hN (hP.sub [0, 1, 2] rfl) (hD.sub [0, 1, 2] (by decide +kernel) rfl) 0 rfl rfl) rfl rfl hl.1 rfl (lv_room (Nat.le_of_ble_eq_true rfl)) d_Stack_nextValue_27 ⟨by rw [hR]; exact Nat.le_of_ble_eq_true rfl, by rw [hR]; exact Nat.le_of_ble_eq_true rfl⟩) hP hD hS hA [0, 1, 2] [] rfl rfl (by decide +kernel) (by decide +kernel) (fun u9 H locs hw_27 hP hD hS => ?_)
    obtain ⟨xreadXq_27, xaskedq_27⟩ := u9
    have hPD : my_PD (dC, dI) vwCl A [(co, Sum.inr (4, [Value.long xx, Value.long xreadXq_27, Value.ref soa, Value.ref sna, Value.ref swa, Value.int xkept, Value.ref ri, Value.ref ro, Value.ref rw, Value.int xaskedq_27])), (ri, Sum.inr (0, [Value.int rin, Value.ref ria])), (ria, Sum.inl (cI, rik, Sum.inl rif))] H := ⟨hP, hD⟩
    have hP := hPD.1
    have hD := hPD.2
    refine lv_iload_n hx hb d_Stack_nextValue_30 rfl (lv_at hl 1 rfl) ?_
    refine lv_iload_n hx hb d_Stack_nextValue_31 rfl (lv_at hl 0 rfl) ?_
    refine lv_idiv hx hb d_Stack_nextValue_32 (by first | decide | exact I_nzp (by assumption) | exact I_nz (by assumption)) ?_
    refine lv_topi (fun v_6 ev_6 => ?_)
    exact my_iret (v := v_6) hx hb hr (rfl) hlocks hQ hK hS (Nat.le_refl _) (Nat.le_refl _) (xreadXq_27, xaskedq_27) (trivial) (hP.sub [0, 1, 2] rfl) (hD.sub [0, 1, 2] (by decide +kernel) rfl) d_Stack_nextValue_33
  · refine lv_iconst (v := (-1)) hx hb d_Stack_nextValue_20 (by decide) ?_
    exact my_iret (v := (-1)) hx hb hr (rfl) hlocks hQ hK hS (Nat.le_refl _) (Nat.le_refl _) (xreadX, xasked) (trivial) (hP.sub [0, 1, 2] rfl) (hD.sub [0, 1, 2] (by decide +kernel) rfl) d_Stack_nextValue_21
end
section
set_option maxHeartbeats 2000000 in
set_option maxRecDepth 100000 in
theorem c_Table_Stacked_register (l : Launch) (dC : Nat → ClassId) (dI : Nat → Nat → Nat) (cI cM cO : ClassId) (sz : Nat) (co : Nat) (xx : Int64) (xreadX : Int64) (soa : Nat) (sna : Nat) (swa : Nat) (xkept : Int32) (ri : Nat) (ro : Nat) (rw : Nat) (xasked : Int32) (wh : Int32) : MetL l y_Stacked_register (Cond.code y_Stacked_register prog_11_method_10_code 2 (some .long) :: gw) ({ frames := 0, cells := 0, slots := 0, locals := 0 } : Room) (dC, dI) vwCl (kT cI cM cO) [Value.ref co, Value.int wh] [(co, Sum.inr (5, [Value.long xx, Value.long xreadX, Value.ref soa, Value.ref sna, Value.ref swa, Value.int xkept, Value.ref ri, Value.ref ro, Value.ref rw, Value.int xasked]))] sz (fun (r : Int64) (u : Unit) => True) (fun (u : Unit) => [(co, Sum.inr (5, [Value.long xx, Value.long xreadX, Value.ref soa, Value.ref sna, Value.ref swa, Value.int xkept, Value.ref ri, Value.ref ro, Value.ref rw, Value.int xasked]))]) 0 0 := by
  refine my_ofL (cc := prog_11_method_10_code) (n := 2) (ret := (some .long)) (by decide) rfl (Nat.le_of_ble_eq_true rfl) ?_
  intro p e s m args below meth c R Q A ls H locs hx hb hr hts hown hlocks hml hnm hR hQ hA hl hP hK hN hD hS
  have hg : ∀ w ∈ gw, w.before args s = true := fun w h => hts w (List.mem_cons_of_mem _ h)
  have hown : s.vm.findClass "RangeCoders$Stacked" = some m.cls := hown
  have hl : lv_has ls 2 [(0, Value.ref co), (1, Value.int wh)] := hl
  refine lv_iload_n hx hb d_Stacked_register_0 rfl (lv_at hl 1 rfl) ?_
  refine lv_iconst (v := 5) hx hb d_Stacked_register_1 (by decide) ?_
  refine lv_icmp_ne (tgt := 12) hx hb d_Stacked_register_2 (by decide) (fun c_1 => ?_) (fun c_1 => ?_)
  · refine lv_lconst (v := 0) hx hb d_Stacked_register_12 (by decide) ?_
    exact my_lret (v := 0) hx hb hr hlocks hQ hK hS (Nat.le_refl _) (Nat.le_refl _) () (trivial) (hP.sub [0] rfl) (hD.sub [0] (by decide +kernel) rfl) d_Stacked_register_13
  · refine lv_aload_n hx hb d_Stacked_register_5 rfl (lv_at hl 0 rfl) ?_
    refine va_get (D := (dC, dI)) (ci := 5) (v := .long xreadX) (C := "RangeCoders$Table") (T := T_Table) (N := 10) hx hb hg in_Table hown hK hP 0 rfl rfl 1 (by decide) (hg _ k217) (fun _ h9 => h9) rfl d_Stacked_register_6 ?_
    refine lv_goto (tgt := 13) hx hb d_Stacked_register_9 (by decide) ?_
    exact my_lret (v := xreadX) hx hb hr hlocks hQ hK hS (Nat.le_refl _) (Nat.le_refl _) () (trivial) (hP.sub [0] rfl) (hD.sub [0] (by decide +kernel) rfl) d_Stacked_register_13
set_option maxHeartbeats 2000000 in
set_option maxRecDepth 100000 in
theorem c_Table_Table_prepare (l : Launch) (dC : Nat → ClassId) (dI : Nat → Nat → Nat) (cI cM cO : ClassId) (sz : Nat) (co : Nat) (xx : Int64) (xreadX : Int64) (soa : Nat) (sna : Nat) (swa : Nat) (xkept : Int32) (ri : Nat) (ro : Nat) (rw : Nat) (xasked : Int32) (oo : Nat) (osg : Int32) (osm : Int32) (ofc : Int32) (oca : Nat) (opa : Nat) (ol : Nat) (ocf : Nat → Int32) (opl : Nat) (opf : Nat → Int32) (ka : Nat) (kl : Nat) (kf : Nat → Int32) (hol : ol ≤ 64) (hopl : opl ≤ 512) (hol0 : 1 ≤ ol) (hkl : kl ≤ 64) : MetV l y_Table_prepare (Cond.code y_Table_prepare prog_12_method_3_code 3 none :: gw) ({ frames := 3, cells := 0, slots := 0, locals := 67 } : Room) (dC, dI) vwCl (kT cI cM cO) [Value.ref co, Value.ref oo, Value.ref ka] [(co, Sum.inr (5, [Value.long xx, Value.long xreadX, Value.ref soa, Value.ref sna, Value.ref swa, Value.int xkept, Value.ref ri, Value.ref ro, Value.ref rw, Value.int xasked])), (oo, Sum.inr (7, [Value.int osg, Value.int osm, Value.int ofc, Value.ref oca, Value.ref opa])), (oca, Sum.inl (cI, ol, Sum.inl ocf)), (opa, Sum.inl (cI, opl, Sum.inl opf)), (ka, Sum.inl (cI, kl, Sum.inl kf))] sz (fun (u : Int32 × (Nat → Int32) × (Nat → Int32)) => True) (fun (u : Int32 × (Nat → Int32) × (Nat → Int32)) => [(co, Sum.inr (5, [Value.long xx, Value.long xreadX, Value.ref soa, Value.ref sna, Value.ref swa, Value.int xkept, Value.ref ri, Value.ref ro, Value.ref rw, Value.int xasked])), (oo, Sum.inr (7, [Value.int osg, Value.int u.1, Value.int ofc, Value.ref oca, Value.ref opa])), (oca, Sum.inl (cI, ol, Sum.inl u.2.1)), (opa, Sum.inl (cI, opl, Sum.inl u.2.2)), (ka, Sum.inl (cI, kl, Sum.inl kf))]) 0 0 := by
  refine my_ofV (cc := prog_12_method_3_code) (n := 3) (ret := none) (by decide) rfl (Nat.le_of_ble_eq_true rfl) ?_
  intro p e s m args below meth c R Q A ls H locs hx hb hr hts hown hlocks hml hnm hR hQ hA hl hP hK hN hD hS
  have hg : ∀ w ∈ gw, w.before args s = true := fun w h => hts w (List.mem_cons_of_mem _ h)
  have hown : s.vm.findClass "RangeCoders$Table" = some m.cls := hown
  have hl : lv_has ls 3 [(0, Value.ref co), (1, Value.ref oo), (2, Value.ref ka)] := hl
  refine lv_aload_n hx hb d_Table_prepare_0 rfl (lv_at hl 1 rfl) ?_
  refine lv_sipush (v := 512) hx hb d_Table_prepare_1 (by decide) ?_
  refine lv_aload_n hx hb d_Table_prepare_4 rfl (lv_at hl 2 rfl) ?_
  refine my_cv (wr := [(co, Sum.inr (5, [Value.long xx, Value.long xreadX, Value.ref soa, Value.ref sna, Value.ref swa, Value.int xkept, Value.ref ri, Value.ref ro, Value.ref rw, Value.int xasked]))]) (va_runV (As := [Value.int 512, Value.ref ka]) (rest := []) ⟨hx, hb, hml, hown, hts⟩ (c_Odds_scaleTo l dC dI cI cM cO H.size oo osg osm ofc oca opa ol ocf opl opf 512 ka kl kf (by first | assumption | omega) (by first | assumption | omega) (by first | assumption | omega) (by first | assumption | omega)) (cwV 2 hts (my_gV k403 k384 k385 k14 k386) rfl rfl rfl (by decide +kernel) ⟨by rw [hR]; exact Nat.le_of_ble_eq_true rfl, by rw [hR]; exact Nat.le_of_ble_eq_true rfl⟩) (my_preV hK hN (hP.sub [1, 2, 3, 4] rfl) (hD.sub [1, 2, 3, 4] (by decide +kernel) rfl) 0 rfl rfl) rfl rfl hl.1 rfl (lv_room (Nat.le_of_ble_eq_true rfl)) d_Table_prepare_5 ⟨by rw [hR]; exact Nat.le_of_ble_eq_true rfl, by rw [hR]; exact Nat.le_of_ble_eq_true rfl⟩) hP hD hS hA [1, 2, 3, 4] [0] rfl rfl (by decide +kernel) (by decide +kernel) (fun u9 H locs hw_5 hP hD hS => ?_)
  obtain ⟨osmq_5, ocfq_5⟩ := u9
  have hPD : my_PD (dC, dI) vwCl A [(co, Sum.inr (5, [Value.long xx, Value.long xreadX, Value.ref soa, Value.ref sna, Value.ref swa, Value.int xkept, Value.ref ri, Value.ref ro, Value.ref rw, Value.int xasked])), (oo, Sum.inr (7, [Value.int osg, Value.int osmq_5, Value.int ofc, Value.ref oca, Value.ref opa])), (oca, Sum.inl (cI, ol, Sum.inl ocfq_5)), (opa, Sum.inl (cI, opl, Sum.inl opf)), (ka, Sum.inl (cI, kl, Sum.inl kf))] H := ⟨hP, hD⟩
  have hP := hPD.1
  have hD := hPD.2
  refine lv_aload_n hx hb d_Table_prepare_8 rfl (lv_at hl 1 rfl) ?_
  refine my_cv (wr := [(co, Sum.inr (5, [Value.long xx, Value.long xreadX, Value.ref soa, Value.ref sna, Value.ref swa, Value.int xkept, Value.ref ri, Value.ref ro, Value.ref rw, Value.int xasked])), (ka, Sum.inl (cI, kl, Sum.inl kf))]) (va_runV (As := []) (rest := []) ⟨hx, hb, hml, hown, hts⟩ (c_Odds_spread l dC dI cI cM cO H.size oo osg osmq_5 ofc oca opa ol ocfq_5 opl opf (by first | assumption | omega) (by first | assumption | omega)) (cwV 0 hts (my_gV k404 k405 k406 k14 k407) rfl rfl rfl (by decide +kernel) ⟨by rw [hR]; exact Nat.le_of_ble_eq_true rfl, by rw [hR]; exact Nat.le_of_ble_eq_true rfl⟩) (my_preV hK hN (hP.sub [1, 2, 3] rfl) (hD.sub [1, 2, 3] (by decide +kernel) rfl) 0 rfl rfl) rfl rfl hl.1 rfl (lv_room (Nat.le_of_ble_eq_true rfl)) d_Table_prepare_9 ⟨by rw [hR]; exact Nat.le_of_ble_eq_true rfl, by rw [hR]; exact Nat.le_of_ble_eq_true rfl⟩) hP hD hS hA [1, 2, 3] [0, 4] rfl rfl (by decide +kernel) (by decide +kernel) (fun u9 H locs hw_9 hP hD hS => ?_)
  obtain ⟨opfq_9, rfl⟩ : ∃ z, z = u9 := ⟨_, rfl⟩
  have hPD : my_PD (dC, dI) vwCl A [(co, Sum.inr (5, [Value.long xx, Value.long xreadX, Value.ref soa, Value.ref sna, Value.ref swa, Value.int xkept, Value.ref ri, Value.ref ro, Value.ref rw, Value.int xasked])), (ka, Sum.inl (cI, kl, Sum.inl kf)), (oo, Sum.inr (7, [Value.int osg, Value.int osmq_5, Value.int ofc, Value.ref oca, Value.ref opa])), (oca, Sum.inl (cI, ol, Sum.inl ocfq_5)), (opa, Sum.inl (cI, opl, Sum.inl opfq_9))] H := ⟨hP, hD⟩
  have hP := hPD.1
  have hD := hPD.2
  exact my_vret hx hb hr hlocks hQ hK hS (Nat.le_refl _) (Nat.le_refl _) (osmq_5, ocfq_5, opfq_9) (trivial) (hP.sub [0, 2, 3, 4, 1] rfl) (hD.sub [0, 2, 3, 4, 1] (by decide +kernel) rfl) d_Table_prepare_12
set_option maxHeartbeats 2000000 in
set_option maxRecDepth 100000 in
theorem c_Table_Table_hasWidth (l : Launch) (dC : Nat → ClassId) (dI : Nat → Nat → Nat) (cI cM cO : ClassId) (sz : Nat) (co : Nat) (xx : Int64) (xreadX : Int64) (soa : Nat) (sna : Nat) (swa : Nat) (xkept : Int32) (ri : Nat) (ro : Nat) (rw : Nat) (xasked : Int32) (wd : Int32) : MetI l y_Table_hasWidth (Cond.code y_Table_hasWidth prog_12_method_4_code 2 (some .boolean) :: gw) ({ frames := 0, cells := 0, slots := 0, locals := 0 } : Room) (dC, dI) vwCl (kT cI cM cO) [Value.ref co, Value.int wd] [(co, Sum.inr (5, [Value.long xx, Value.long xreadX, Value.ref soa, Value.ref sna, Value.ref swa, Value.int xkept, Value.ref ri, Value.ref ro, Value.ref rw, Value.int xasked]))] sz (fun (r : Int32) (u : Unit) => True) (fun (u : Unit) => [(co, Sum.inr (5, [Value.long xx, Value.long xreadX, Value.ref soa, Value.ref sna, Value.ref swa, Value.int xkept, Value.ref ri, Value.ref ro, Value.ref rw, Value.int xasked]))]) 0 0 := by
  refine my_ofI (cc := prog_12_method_4_code) (n := 2) (ret := (some .boolean)) (by decide) rfl (Nat.le_of_ble_eq_true rfl) ?_
  intro p e s m args below meth c R Q A ls H locs hx hb hr hts hown hlocks hml hnm hR hQ hA hl hP hK hN hD hS
  have hg : ∀ w ∈ gw, w.before args s = true := fun w h => hts w (List.mem_cons_of_mem _ h)
  have hown : s.vm.findClass "RangeCoders$Table" = some m.cls := hown
  have hl : lv_has ls 2 [(0, Value.ref co), (1, Value.int wd)] := hl
  refine lv_iload_n hx hb d_Table_hasWidth_0 rfl (lv_at hl 1 rfl) ?_
  refine lv_iconst (v := 1) hx hb d_Table_hasWidth_1 (by decide) ?_
  refine lv_icmp_lt (tgt := 15) hx hb d_Table_hasWidth_2 (by decide) (fun c_1 => ?_) (fun c_1 => ?_)
  · refine lv_iconst (v := 0) hx hb d_Table_hasWidth_15 (by decide) ?_
    exact my_iret (v := 0) hx hb hr (rfl) hlocks hQ hK hS (Nat.le_refl _) (Nat.le_refl _) () (trivial) (hP.sub [0] rfl) (hD.sub [0] (by decide +kernel) rfl) d_Table_hasWidth_16
  · refine lv_iload_n hx hb d_Table_hasWidth_5 rfl (lv_at hl 1 rfl) ?_
    refine lv_bipush (v := 9) hx hb d_Table_hasWidth_6 (by decide) ?_
    refine lv_icmp_gt (tgt := 15) hx hb d_Table_hasWidth_8 (by decide) (fun c_2 => ?_) (fun c_2 => ?_)
    · refine lv_iconst (v := 0) hx hb d_Table_hasWidth_15 (by decide) ?_
      exact my_iret (v := 0) hx hb hr (rfl) hlocks hQ hK hS (Nat.le_refl _) (Nat.le_refl _) () (trivial) (hP.sub [0] rfl) (hD.sub [0] (by decide +kernel) rfl) d_Table_hasWidth_16
    · refine lv_iconst (v := 1) hx hb d_Table_hasWidth_11 (by decide) ?_
      refine lv_goto (tgt := 16) hx hb d_Table_hasWidth_12 (by decide) ?_
      exact my_iret (v := 1) hx hb hr (rfl) hlocks hQ hK hS (Nat.le_refl _) (Nat.le_refl _) () (trivial) (hP.sub [0] rfl) (hD.sub [0] (by decide +kernel) rfl) d_Table_hasWidth_16
set_option maxHeartbeats 2000000 in
set_option maxRecDepth 100000 in
theorem c_Table_Table_bytesAsked (l : Launch) (dC : Nat → ClassId) (dI : Nat → Nat → Nat) (cI cM cO : ClassId) (sz : Nat) (co : Nat) (xx : Int64) (xreadX : Int64) (soa : Nat) (sna : Nat) (swa : Nat) (xkept : Int32) (ri : Nat) (ro : Nat) (rw : Nat) (xasked : Int32) : MetI l y_Table_bytesAsked (Cond.code y_Table_bytesAsked prog_12_method_5_code 1 (some .int) :: gw) ({ frames := 0, cells := 0, slots := 0, locals := 0 } : Room) (dC, dI) vwCl (kT cI cM cO) [Value.ref co] [(co, Sum.inr (5, [Value.long xx, Value.long xreadX, Value.ref soa, Value.ref sna, Value.ref swa, Value.int xkept, Value.ref ri, Value.ref ro, Value.ref rw, Value.int xasked]))] sz (fun (r : Int32) (u : Unit) => True) (fun (u : Unit) => [(co, Sum.inr (5, [Value.long xx, Value.long xreadX, Value.ref soa, Value.ref sna, Value.ref swa, Value.int xkept, Value.ref ri, Value.ref ro, Value.ref rw, Value.int xasked]))]) 0 0 := by
  refine my_ofI (cc := prog_12_method_5_code) (n := 1) (ret := (some .int)) (by decide) rfl (Nat.le_of_ble_eq_true rfl) ?_
  intro p e s m args below meth c R Q A ls H locs hx hb hr hts hown hlocks hml hnm hR hQ hA hl hP hK hN hD hS
  have hg : ∀ w ∈ gw, w.before args s = true := fun w h => hts w (List.mem_cons_of_mem _ h)
  have hown : s.vm.findClass "RangeCoders$Table" = some m.cls := hown
  have hl : lv_has ls 1 [(0, Value.ref co)] := hl
  refine lv_aload_n hx hb d_Table_bytesAsked_0 rfl (lv_at hl 0 rfl) ?_
  refine va_get (D := (dC, dI)) (ci := 5) (v := .int xasked) (C := "RangeCoders$Table") (T := T_Table) (N := 10) hx hb hg in_Table hown hK hP 0 rfl rfl 9 (by decide) (hg _ k126) (fun x9 h9 => u_same (hg _ k127) x9 h9) rfl d_Table_bytesAsked_1 ?_
  refine lv_bipush (v := 7) hx hb d_Table_bytesAsked_4 (by decide) ?_
  refine lv_iadd hx hb d_Table_bytesAsked_6 ?_
  refine lv_topi (fun v_1 ev_1 => ?_)
  refine lv_bipush (v := 8) hx hb d_Table_bytesAsked_7 (by decide) ?_
  refine lv_idiv hx hb d_Table_bytesAsked_9 (by first | decide | exact I_nzp (by assumption) | exact I_nz (by assumption)) ?_
  refine lv_topi (fun v_2 ev_2 => ?_)
  exact my_iret (v := v_2) hx hb hr (rfl) hlocks hQ hK hS (Nat.le_refl _) (Nat.le_refl _) () (trivial) (hP.sub [0] rfl) (hD.sub [0] (by decide +kernel) rfl) d_Table_bytesAsked_10
set_option maxHeartbeats 2000000 in
set_option maxRecDepth 100000 in
theorem c_Table_Table_nextInBit (l : Launch) (dC : Nat → ClassId) (dI : Nat → Nat → Nat) (cI cM cO : ClassId) (sz : Nat) (co : Nat) (xx : Int64) (xreadX : Int64) (soa : Nat) (sna : Nat) (swa : Nat) (xkept : Int32) (ri : Nat) (ro : Nat) (rw : Nat) (xasked : Int32) (rin : Int32) (ria : Nat) (rik : Nat) (rif : Nat → Int32) (hri : rOk rin rik) : MetI l y_Table_nextInBit (Cond.code y_Table_nextInBit prog_12_method_14_code 3 (some .int) :: gw) ({ frames := 2, cells := 0, slots := 0, locals := 42 } : Room) (dC, dI) vwCl (kT cI cM cO) [Value.ref co] [(co, Sum.inr (5, [Value.long xx, Value.long xreadX, Value.ref soa, Value.ref sna, Value.ref swa, Value.int xkept, Value.ref ri, Value.ref ro, Value.ref rw, Value.int xasked])), (ri, Sum.inr (0, [Value.int rin, Value.ref ria])), (ria, Sum.inl (cI, rik, Sum.inl rif))] sz (fun (r : Int32) (u : Int32) => True) (fun (u : Int32) => [(co, Sum.inr (5, [Value.long xx, Value.long xreadX, Value.ref soa, Value.ref sna, Value.ref swa, Value.int xkept, Value.ref ri, Value.ref ro, Value.ref rw, Value.int u])), (ri, Sum.inr (0, [Value.int rin, Value.ref ria])), (ria, Sum.inl (cI, rik, Sum.inl rif))]) 0 0 := by
  refine my_ofI (cc := prog_12_method_14_code) (n := 3) (ret := (some .int)) (by decide) rfl (Nat.le_of_ble_eq_true rfl) ?_
  intro p e s m args below meth c R Q A ls H locs hx hb hr hts hown hlocks hml hnm hR hQ hA hl hP hK hN hD hS
  have hg : ∀ w ∈ gw, w.before args s = true := fun w h => hts w (List.mem_cons_of_mem _ h)
  have hown : s.vm.findClass "RangeCoders$Table" = some m.cls := hown
  have hl : lv_has ls 3 [(0, Value.ref co)] := hl
  have hlt_hri := rOk_lt hri
  refine lv_aload_n hx hb d_Table_nextInBit_0 rfl (lv_at hl 0 rfl) ?_
  refine va_get (D := (dC, dI)) (ci := 5) (v := .int xasked) (C := "RangeCoders$Table") (T := T_Table) (N := 10) hx hb hg in_Table hown hK hP 0 rfl rfl 9 (by decide) (hg _ k126) (fun x9 h9 => u_same (hg _ k127) x9 h9) rfl d_Table_nextInBit_1 ?_
  refine lv_bipush (v := 8) hx hb d_Table_nextInBit_4 (by decide) ?_
  refine lv_idiv hx hb d_Table_nextInBit_6 (by first | decide | exact I_nzp (by assumption) | exact I_nz (by assumption)) ?_
  refine lv_topi (fun v_1 ev_1 => ?_)
  refine lv_istore_n (lv' := [(1, Value.int v_1), (0, Value.ref co)]) hx hb d_Table_nextInBit_7 rfl hl (by decide) rfl (fun ls hl => ?_)
  refine lv_aload_n hx hb d_Table_nextInBit_8 rfl (lv_at hl 1 rfl) ?_
  refine va_get (D := (dC, dI)) (ci := 5) (v := .ref ri) (C := "RangeCoders$Table") (T := T_Table) (N := 10) hx hb hg in_Table hown hK hP 0 rfl rfl 6 (by decide) (hg _ k103) (fun x9 h9 => u_same (hg _ k104) x9 h9) rfl d_Table_nextInBit_9 ?_
  refine lv_iload_n hx hb d_Table_nextInBit_12 rfl (lv_at hl 0 rfl) ?_
  refine my_ci (wr := [(co, Sum.inr (5, [Value.long xx, Value.long xreadX, Value.ref soa, Value.ref sna, Value.ref swa, Value.int xkept, Value.ref ri, Value.ref ro, Value.ref rw, Value.int xasked]))]) (va_runV (As := [Value.int v_1]) (rest := []) ⟨hx, hb, hml, hown, hts⟩ (c_Row_has l dC dI cI cM cO H.size ri rin ria rik rif v_1 (by first | assumption | omega)) (cwV 1 hts (my_gV k676 k663 k664 k6 k665) rfl rfl rfl (by decide +kernel) ⟨by rw [hR]; exact Nat.le_of_ble_eq_true rfl, by rw [hR]; exact Nat.le_of_ble_eq_true rfl⟩) (my_preV hK hN (hP.sub [1, 2] rfl) (hD.sub [1, 2] (by decide +kernel) rfl) 0 rfl rfl) rfl rfl hl.1 rfl (lv_room (Nat.le_of_ble_eq_true rfl)) d_Table_nextInBit_13 ⟨by rw [hR]; exact Nat.le_of_ble_eq_true rfl, by rw [hR]; exact Nat.le_of_ble_eq_true rfl⟩) hP hD hS hA [1, 2] [0] rfl rfl (by decide +kernel) (by decide +kernel) (fun r_13 u9 H locs hw_13 hP hD hS => ?_)
  have hr_13 : r_13 ≠ 0 → vp_in v_1 rik := hw_13
  have hPD : my_PD (dC, dI) vwCl A [(co, Sum.inr (5, [Value.long xx, Value.long xreadX, Value.ref soa, Value.ref sna, Value.ref swa, Value.int xkept, Value.ref ri, Value.ref ro, Value.ref rw, Value.int xasked])), (ri, Sum.inr (0, [Value.int rin, Value.ref ria])), (ria, Sum.inl (cI, rik, Sum.inl rif))] H := ⟨hP, hD⟩
  have hP := hPD.1
  have hD := hPD.2
  refine lv_if_eq (tgt := 43) hx hb d_Table_nextInBit_16 (by decide) (fun c_2 => ?_) (fun c_2 => ?_)
  · refine lv_iconst (v := 0) hx hb d_Table_nextInBit_43 (by decide) ?_
    refine lv_istore_n (lv' := [(2, Value.int 0), (1, Value.int v_1), (0, Value.ref co)]) hx hb d_Table_nextInBit_44 rfl hl (by decide) rfl (fun ls hl => ?_)
    refine lv_aload_n hx hb d_Table_nextInBit_45 rfl (lv_at hl 2 rfl) ?_
    refine lv_dup hx hb d_Table_nextInBit_46 rfl ?_
    refine va_get (D := (dC, dI)) (ci := 5) (v := .int xasked) (C := "RangeCoders$Table") (T := T_Table) (N := 10) hx hb hg in_Table hown hK hP 0 rfl rfl 9 (by decide) (hg _ k126) (fun x9 h9 => u_same (hg _ k127) x9 h9) rfl d_Table_nextInBit_47 ?_
    refine lv_iconst (v := 1) hx hb d_Table_nextInBit_50 (by decide) ?_
    refine lv_iadd hx hb d_Table_nextInBit_51 ?_
    refine lv_topi (fun v_3 ev_3 => ?_)
    refine va_put (D := (dC, dI)) (ci := 5) (v := .int v_3) (ty := .int) (C := "RangeCoders$Table") (T := T_Table) (N := 10) hx hb hg in_Table t_Table o_Table n_Table hown hK hP hD hS 0 rfl rfl 9 (by decide) (hg _ k126) (fun x9 h9 => u_same (hg _ k127) x9 h9) rfl (by decide +kernel) rfl rfl (Nat.le_of_ble_eq_true rfl) d_Table_nextInBit_52 (fun H locs hP hD hS => ?_)
    have hPD : my_PD (dC, dI) vwCl A [(co, Sum.inr (5, [Value.long xx, Value.long xreadX, Value.ref soa, Value.ref sna, Value.ref swa, Value.int xkept, Value.ref ri, Value.ref ro, Value.ref rw, Value.int v_3])), (ri, Sum.inr (0, [Value.int rin, Value.ref ria])), (ria, Sum.inl (cI, rik, Sum.inl rif))] H := ⟨hP, hD⟩
    have hP := hPD.1
    have hD := hPD.2
    refine lv_iload_n hx hb d_Table_nextInBit_55 rfl (lv_at hl 0 rfl) ?_
    exact my_iret (v := 0) hx hb hr (rfl) hlocks hQ hK hS (Nat.le_refl _) (Nat.le_refl _) (v_3) (trivial) (hP.sub [0, 1, 2] rfl) (hD.sub [0, 1, 2] (by decide +kernel) rfl) d_Table_nextInBit_56
  · refine lv_aload_n hx hb d_Table_nextInBit_19 rfl (lv_at hl 1 rfl) ?_
    refine va_get (D := (dC, dI)) (ci := 5) (v := .ref ri) (C := "RangeCoders$Table") (T := T_Table) (N := 10) hx hb hg in_Table hown hK hP 0 rfl rfl 6 (by decide) (hg _ k103) (fun x9 h9 => u_same (hg _ k104) x9 h9) rfl d_Table_nextInBit_20 ?_
    refine lv_iload_n hx hb d_Table_nextInBit_23 rfl (lv_at hl 0 rfl) ?_
    refine my_ci (wr := [(co, Sum.inr (5, [Value.long xx, Value.long xreadX, Value.ref soa, Value.ref sna, Value.ref swa, Value.int xkept, Value.ref ri, Value.ref ro, Value.ref rw, Value.int xasked]))]) (va_runV (As := [Value.int v_1]) (rest := []) ⟨hx, hb, hml, hown, hts⟩ (c_Row_at l dC dI cI cM cO H.size ri rin ria rik rif v_1 (by first | assumption | omega)) (cwV 1 hts (my_gV k677 k659 k660 k6 k661) rfl rfl rfl (by decide +kernel) ⟨by rw [hR]; exact Nat.le_of_ble_eq_true rfl, by rw [hR]; exact Nat.le_of_ble_eq_true rfl⟩) (my_preV hK hN (hP.sub [1, 2] rfl) (hD.sub [1, 2] (by decide +kernel) rfl) 0 rfl rfl) rfl rfl hl.1 rfl (lv_room (Nat.le_of_ble_eq_true rfl)) d_Table_nextInBit_24 ⟨by rw [hR]; exact Nat.le_of_ble_eq_true rfl, by rw [hR]; exact Nat.le_of_ble_eq_true rfl⟩) hP hD hS hA [1, 2] [0] rfl rfl (by decide +kernel) (by decide +kernel) (fun r_24 u9 H locs hw_24 hP hD hS => ?_)
    have hPD : my_PD (dC, dI) vwCl A [(co, Sum.inr (5, [Value.long xx, Value.long xreadX, Value.ref soa, Value.ref sna, Value.ref swa, Value.int xkept, Value.ref ri, Value.ref ro, Value.ref rw, Value.int xasked])), (ri, Sum.inr (0, [Value.int rin, Value.ref ria])), (ria, Sum.inl (cI, rik, Sum.inl rif))] H := ⟨hP, hD⟩
    have hP := hPD.1
    have hD := hPD.2
    refine lv_bipush (v := 7) hx hb d_Table_nextInBit_27 (by decide) ?_
    refine lv_aload_n hx hb d_Table_nextInBit_29 rfl (lv_at hl 1 rfl) ?_
    refine va_get (D := (dC, dI)) (ci := 5) (v := .int xasked) (C := "RangeCoders$Table") (T := T_Table) (N := 10) hx hb hg in_Table hown hK hP 0 rfl rfl 9 (by decide) (hg _ k126) (fun x9 h9 => u_same (hg _ k127) x9 h9) rfl d_Table_nextInBit_30 ?_
    refine lv_bipush (v := 8) hx hb d_Table_nextInBit_33 (by decide) ?_
    refine lv_irem hx hb d_Table_nextInBit_35 (by first | decide | exact I_nzp (by assumption) | exact I_nz (by assumption)) ?_
    refine lv_topi (fun v_4 ev_4 => ?_)
    refine lv_isub hx hb d_Table_nextInBit_36 ?_
    refine lv_topi (fun v_5 ev_5 => ?_)
    refine lv_iushr hx hb d_Table_nextInBit_37 rfl ?_
    refine lv_topi (fun v_6 ev_6 => ?_)
    refine lv_iconst (v := 1) hx hb d_Table_nextInBit_38 (by decide) ?_
    refine lv_iand hx hb d_Table_nextInBit_39 ?_
    refine lv_topi (fun v_7 ev_7 => ?_)
    refine lv_goto (tgt := 44) hx hb d_Table_nextInBit_40 (by decide) ?_
    refine lv_istore_n (lv' := [(2, Value.int v_7), (1, Value.int v_1), (0, Value.ref co)]) hx hb d_Table_nextInBit_44 rfl hl (by decide) rfl (fun ls hl => ?_)
    refine lv_aload_n hx hb d_Table_nextInBit_45 rfl (lv_at hl 2 rfl) ?_
    refine lv_dup hx hb d_Table_nextInBit_46 rfl ?_
    refine va_get (D := (dC, dI)) (ci := 5) (v := .int xasked) (C := "RangeCoders$Table") (T := T_Table) (N := 10) hx hb hg in_Table hown hK hP 0 rfl rfl 9 (by decide) (hg _ k126) (fun x9 h9 => u_same (hg _ k127) x9 h9) rfl d_Table_nextInBit_47 ?_
    refine lv_iconst (v := 1) hx hb d_Table_nextInBit_50 (by decide) ?_
    refine lv_iadd hx hb d_Table_nextInBit_51 ?_
    refine lv_topi (fun v_8 ev_8 => ?_)
    refine va_put (D := (dC, dI)) (ci := 5) (v := .int v_8) (ty := .int) (C := "RangeCoders$Table") (T := T_Table) (N := 10) hx hb hg in_Table t_Table o_Table n_Table hown hK hP hD hS 0 rfl rfl 9 (by decide) (hg _ k126) (fun x9 h9 => u_same (hg _ k127) x9 h9) rfl (by decide +kernel) rfl rfl (Nat.le_of_ble_eq_true rfl) d_Table_nextInBit_52 (fun H locs hP hD hS => ?_)
    have hPD : my_PD (dC, dI) vwCl A [(co, Sum.inr (5, [Value.long xx, Value.long xreadX, Value.ref soa, Value.ref sna, Value.ref swa, Value.int xkept, Value.ref ri, Value.ref ro, Value.ref rw, Value.int v_8])), (ri, Sum.inr (0, [Value.int rin, Value.ref ria])), (ria, Sum.inl (cI, rik, Sum.inl rif))] H := ⟨hP, hD⟩
    have hP := hPD.1
    have hD := hPD.2
    refine lv_iload_n hx hb d_Table_nextInBit_55 rfl (lv_at hl 0 rfl) ?_
    exact my_iret (v := v_7) hx hb hr (rfl) hlocks hQ hK hS (Nat.le_refl _) (Nat.le_refl _) (v_8) (trivial) (hP.sub [0, 1, 2] rfl) (hD.sub [0, 1, 2] (by decide +kernel) rfl) d_Table_nextInBit_56
set_option maxHeartbeats 2000000 in
set_option maxRecDepth 100000 in
theorem c_Table_Table_nextValue (l : Launch) (dC : Nat → ClassId) (dI : Nat → Nat → Nat) (cI cM cO : ClassId) (sz : Nat) (co : Nat) (xx : Int64) (xreadX : Int64) (soa : Nat) (sna : Nat) (swa : Nat) (xkept : Int32) (ri : Nat) (ro : Nat) (rw : Nat) (xasked : Int32) (rin : Int32) (ria : Nat) (rik : Nat) (rif : Nat → Int32) (wd : Int32) (hri : rOk rin rik) : MetI l y_Table_nextValue (Cond.code y_Table_nextValue prog_12_method_12_code 4 (some .int) :: gw) ({ frames := 3, cells := 0, slots := 0, locals := 64 } : Room) (dC, dI) vwCl (kT cI cM cO) [Value.ref co, Value.int wd] [(co, Sum.inr (5, [Value.long xx, Value.long xreadX, Value.ref soa, Value.ref sna, Value.ref swa, Value.int xkept, Value.ref ri, Value.ref ro, Value.ref rw, Value.int xasked])), (ri, Sum.inr (0, [Value.int rin, Value.ref ria])), (ria, Sum.inl (cI, rik, Sum.inl rif))] sz (fun (r : Int32) (u : Int32) => True) (fun (u : Int32) => [(co, Sum.inr (5, [Value.long xx, Value.long xreadX, Value.ref soa, Value.ref sna, Value.ref swa, Value.int xkept, Value.ref ri, Value.ref ro, Value.ref rw, Value.int u])), (ri, Sum.inr (0, [Value.int rin, Value.ref ria])), (ria, Sum.inl (cI, rik, Sum.inl rif))]) 0 0 := by
  refine my_ofI (cc := prog_12_method_12_code) (n := 4) (ret := (some .int)) (by decide) rfl (Nat.le_of_ble_eq_true rfl) ?_
  intro p e s m args below meth c R Q A ls H locs hx hb hr hts hown hlocks hml hnm hR hQ hA hl hP hK hN hD hS
  have hg : ∀ w ∈ gw, w.before args s = true := fun w h => hts w (List.mem_cons_of_mem _ h)
  have hown : s.vm.findClass "RangeCoders$Table" = some m.cls := hown
  have hl : lv_has ls 4 [(0, Value.ref co), (1, Value.int wd)] := hl
  have hlt_hri := rOk_lt hri
  refine lv_iconst (v := 0) hx hb d_Table_nextValue_0 (by decide) ?_
  refine lv_istore_n (lv' := [(2, Value.int 0), (0, Value.ref co), (1, Value.int wd)]) hx hb d_Table_nextValue_1 rfl hl (by decide) rfl (fun ls hl => ?_)
  refine lv_iconst (v := 0) hx hb d_Table_nextValue_2 (by decide) ?_
  refine lv_istore_n (lv' := [(3, Value.int 0), (2, Value.int 0), (0, Value.ref co), (1, Value.int wd)]) hx hb d_Table_nextValue_3 rfl hl (by decide) rfl (fun ls hl => ?_)
  have J_4 : ∀ (n9_4 : Nat) (b4_0 : Int32) (b4_1 : Int32) (b4_2 : Int32) (hn9_4 : (wd.toInt - b4_0.toInt).toNat = n9_4) (hi_4 : 0 ≤ b4_0.toInt) (H : Heap) (locs : List Loc) (ls : Array Slot), va_P (dC, dI) vwCl [(co, Sum.inr (5, [Value.long xx, Value.long xreadX, Value.ref soa, Value.ref sna, Value.ref swa, Value.int xkept, Value.ref ri, Value.ref ro, Value.ref rw, Value.int b4_2])), (ri, Sum.inr (0, [Value.int rin, Value.ref ria])), (ria, Sum.inl (cI, rik, Sum.inl rif))] H → va_D A [(co, Sum.inr (5, [Value.long xx, Value.long xreadX, Value.ref soa, Value.ref sna, Value.ref swa, Value.int xkept, Value.ref ri, Value.ref ro, Value.ref rw, Value.int b4_2])), (ri, Sum.inr (0, [Value.int rin, Value.ref ria])), (ria, Sum.inl (cI, rik, Sum.inl rif))] → va_S A s.heap H locs → lv_has ls 4 [(3, Value.int b4_0), (2, Value.int b4_1), (0, Value.ref co), (1, Value.int wd)] → W p l e R s m args below meth c H locs 0 0 Q (F0 m 4 ls []) := by
    intro n9_4
    induction n9_4 using Nat.strongRecOn with
    | ind n9_4 ih9_4 =>
      intro b4_0 b4_1 b4_2 hn9_4 hi_4 H locs ls hP hD hS hl
      refine lv_iload_n hx hb d_Table_nextValue_4 rfl (lv_at hl 0 rfl) ?_
      refine lv_iload_n hx hb d_Table_nextValue_5 rfl (lv_at hl 3 rfl) ?_
      refine lv_icmp_ge (tgt := 24) hx hb d_Table_nextValue_6 (by decide) (fun c_1 => ?_) (fun c_1 => ?_)
      · refine lv_iload_n hx hb d_Table_nextValue_24 rfl (lv_at hl 1 rfl) ?_
        exact my_iret (v := b4_1) hx hb hr (rfl) hlocks hQ hK hS (Nat.le_refl _) (Nat.le_refl _) (b4_2) (trivial) (hP.sub [0, 1, 2] rfl) (hD.sub [0, 1, 2] (by decide +kernel) rfl) d_Table_nextValue_25
      · refine lv_iconst (v := 2) hx hb d_Table_nextValue_9 (by decide) ?_
        refine lv_iload_n hx hb d_Table_nextValue_10 rfl (lv_at hl 1 rfl) ?_
        refine lv_imul hx hb d_Table_nextValue_11 ?_
        refine lv_topi (fun v_2 ev_2 => ?_)
        refine lv_aload_n hx hb d_Table_nextValue_12 rfl (lv_at hl 2 rfl) ?_
        refine my_ci (wr := []) (va_runV (As := []) (rest := [Value.int v_2]) ⟨hx, hb, hml, hown, hts⟩ (c_Table_Table_nextInBit l dC dI cI cM cO H.size co xx xreadX soa sna swa xkept ri ro rw b4_2 rin ria rik rif (by first | assumption | omega)) (cwV 0 hts (my_gV k767 k769 ks12 k11 k770) rfl rfl rfl (by decide +kernel) ⟨by rw [hR]; exact Nat.le_of_ble_eq_true rfl, by rw [hR]; exact Nat.le_of_ble_eq_true rfl⟩) (my_preV hK hN (hP.sub [0, 1, 2] rfl) (hD.sub [0, 1, 2] (by decide +kernel) rfl) 0 rfl rfl) rfl rfl hl.1 rfl (lv_room (Nat.le_of_ble_eq_true rfl)) d_Table_nextValue_13 ⟨by rw [hR]; exact Nat.le_of_ble_eq_true rfl, by rw [hR]; exact Nat.le_of_ble_eq_true rfl⟩) hP hD hS hA [0, 1, 2] [] rfl rfl (by decide +kernel) (by decide +kernel) (fun r_13 u9 H locs hw_13 hP hD hS => ?_)
        obtain ⟨xaskedq_13, rfl⟩ : ∃ z, z = u9 := ⟨_, rfl⟩
        have hPD : my_PD (dC, dI) vwCl A [(co, Sum.inr (5, [Value.long xx, Value.long xreadX, Value.ref soa, Value.ref sna, Value.ref swa, Value.int xkept, Value.ref ri, Value.ref ro, Value.ref rw, Value.int xaskedq_13])), (ri, Sum.inr (0, [Value.int rin, Value.ref ria])), (ria, Sum.inl (cI, rik, Sum.inl rif))] H := ⟨hP, hD⟩
        have hP := hPD.1
        have hD := hPD.2
        refine lv_iadd hx hb d_Table_nextValue_16 ?_
        refine lv_topi (fun v_3 ev_3 => ?_)
        refine lv_istore_n (lv' := [(2, Value.int v_3), (3, Value.int b4_0), (0, Value.ref co), (1, Value.int wd)]) hx hb d_Table_nextValue_17 rfl hl (by decide) rfl (fun ls hl => ?_)
        obtain ⟨v_4, ev_4⟩ : ∃ y : Int32, y = b4_0 + (1) := ⟨_, rfl⟩
        refine lv_iinc (v := v_4) (lv' := [(3, Value.int v_4), (2, Value.int v_3), (0, Value.ref co), (1, Value.int wd)]) hx hb d_Table_nextValue_18 hl (k := 1) rfl (by rw [ev_4]; rfl) (by decide) rfl (fun ls hl => ?_)
        refine lv_goto (tgt := 4) hx hb d_Table_nextValue_21 (by decide) ?_
        exact ih9_4 _ (by first | omega | (have z9 := I_up c_1 ev_4; omega)) v_4 v_3 xaskedq_13 rfl (by have z9 := I_up c_1 ev_4; omega) H locs ls (hP.sub [0, 1, 2] rfl) (hD.sub [0, 1, 2] (by decide +kernel) rfl) hS (lv_sub hl [0, 1, 2, 3] rfl)
  exact J_4 _ (0 : Int32) (0 : Int32) xasked rfl (by first | decide | assumption | omega) H locs ls (hP.sub [0, 1, 2] rfl) (hD.sub [0, 1, 2] (by decide +kernel) rfl) hS (lv_sub hl [0, 1, 2, 3] rfl)
set_option maxHeartbeats 2000000 in
set_option maxRecDepth 100000 in
theorem c_Table_Table_openReading (l : Launch) (dC : Nat → ClassId) (dI : Nat → Nat → Nat) (cI cM cO : ClassId) (sz : Nat) (co : Nat) (xx : Int64) (xreadX : Int64) (soa : Nat) (sna : Nat) (swa : Nat) (xkept : Int32) (ri : Nat) (ro : Nat) (rw : Nat) (xasked : Int32) (rin : Int32) (ria : Nat) (rik : Nat) (rif : Nat → Int32) (hri : rOk rin rik) : MetI l y_Table_openReading (Cond.code y_Table_openReading prog_12_method_10_code 1 (some .boolean) :: gw) ({ frames := 4, cells := 0, slots := 0, locals := 87 } : Room) (dC, dI) vwCl (kT cI cM cO) [Value.ref co] [(co, Sum.inr (5, [Value.long xx, Value.long xreadX, Value.ref soa, Value.ref sna, Value.ref swa, Value.int xkept, Value.ref ri, Value.ref ro, Value.ref rw, Value.int xasked])), (ri, Sum.inr (0, [Value.int rin, Value.ref ria])), (ria, Sum.inl (cI, rik, Sum.inl rif))] sz (fun (r : Int32) (u : Int64 × Int32) => True) (fun (u : Int64 × Int32) => [(co, Sum.inr (5, [Value.long xx, Value.long u.1, Value.ref soa, Value.ref sna, Value.ref swa, Value.int xkept, Value.ref ri, Value.ref ro, Value.ref rw, Value.int u.2])), (ri, Sum.inr (0, [Value.int rin, Value.ref ria])), (ria, Sum.inl (cI, rik, Sum.inl rif))]) 0 0 := by
  refine my_ofI (cc := prog_12_method_10_code) (n := 1) (ret := (some .boolean)) (by decide) rfl (Nat.le_of_ble_eq_true rfl) ?_
  intro p e s m args below meth c R Q A ls H locs hx hb hr hts hown hlocks hml hnm hR hQ hA hl hP hK hN hD hS
  have hg : ∀ w ∈ gw, w.before args s = true := fun w h => hts w (List.mem_cons_of_mem _ h)
  have hown : s.vm.findClass "RangeCoders$Table" = some m.cls := hown
  have hl : lv_has ls 1 [(0, Value.ref co)] := hl
  have hlt_hri := rOk_lt hri
  refine lv_aload_n hx hb d_Table_openReading_0 rfl (lv_at hl 0 rfl) ?_
  refine lv_iconst (v := 0) hx hb d_Table_openReading_1 (by decide) ?_
  refine va_put (D := (dC, dI)) (ci := 5) (v := .int 0) (ty := .int) (C := "RangeCoders$Table") (T := T_Table) (N := 10) hx hb hg in_Table t_Table o_Table n_Table hown hK hP hD hS 0 rfl rfl 9 (by decide) (hg _ k126) (fun x9 h9 => u_same (hg _ k127) x9 h9) rfl (by decide +kernel) rfl rfl (Nat.le_of_ble_eq_true rfl) d_Table_openReading_2 (fun H locs hP hD hS => ?_)
  have hPD : my_PD (dC, dI) vwCl A [(co, Sum.inr (5, [Value.long xx, Value.long xreadX, Value.ref soa, Value.ref sna, Value.ref swa, Value.int xkept, Value.ref ri, Value.ref ro, Value.ref rw, Value.int 0])), (ri, Sum.inr (0, [Value.int rin, Value.ref ria])), (ria, Sum.inl (cI, rik, Sum.inl rif))] H := ⟨hP, hD⟩
  have hP := hPD.1
  have hD := hPD.2
  refine lv_aload_n hx hb d_Table_openReading_5 rfl (lv_at hl 0 rfl) ?_
  refine lv_sipush (v := 512) hx hb d_Table_openReading_6 (by decide) ?_
  refine lv_aload_n hx hb d_Table_openReading_9 rfl (lv_at hl 0 rfl) ?_
  refine lv_bipush (v := 9) hx hb d_Table_openReading_10 (by decide) ?_
  refine my_ci (wr := []) (va_runV (As := [Value.int 9]) (rest := [Value.int 512, Value.ref co]) ⟨hx, hb, hml, hown, hts⟩ (c_Table_Table_nextValue l dC dI cI cM cO H.size co xx xreadX soa sna swa xkept ri ro rw 0 rin ria rik rif 9 (by first | assumption | omega)) (cwV 1 hts (my_gV k763 k764 k765 k11 k766) rfl rfl rfl (by decide +kernel) ⟨by rw [hR]; exact Nat.le_of_ble_eq_true rfl, by rw [hR]; exact Nat.le_of_ble_eq_true rfl⟩) (my_preV hK hN (hP.sub [0, 1, 2] rfl) (hD.sub [0, 1, 2] (by decide +kernel) rfl) 0 rfl rfl) rfl rfl hl.1 rfl (lv_room (Nat.le_of_ble_eq_true rfl)) d_Table_openReading_12 ⟨by rw [hR]; exact Nat.le_of_ble_eq_true rfl, by rw [hR]; exact Nat.le_of_ble_eq_true rfl⟩) hP hD hS hA [0, 1, 2] [] rfl rfl (by decide +kernel) (by decide +kernel) (fun r_12 u9 H locs hw_12 hP hD hS => ?_)
  obtain ⟨xaskedq_12, rfl⟩ : ∃ z, z = u9 := ⟨_, rfl⟩
  have hPD : my_PD (dC, dI) vwCl A [(co, Sum.inr (5, [Value.long xx, Value.long xreadX, Value.ref soa, Value.ref sna, Value.ref swa, Value.int xkept, Value.ref ri, Value.ref ro, Value.ref rw, Value.int xaskedq_12])), (ri, Sum.inr (0, [Value.int rin, Value.ref ria])), (ria, Sum.inl (cI, rik, Sum.inl rif))] H := ⟨hP, hD⟩
  have hP := hPD.1
  have hD := hPD.2
  refine lv_iadd hx hb d_Table_openReading_15 ?_
  refine lv_topi (fun v_1 ev_1 => ?_)
  refine lv_i2l hx hb d_Table_openReading_16 rfl ?_
  refine lv_topl (fun v_2 ev_2 => ?_)
  refine va_put (D := (dC, dI)) (ci := 5) (v := .long v_2) (ty := .long) (C := "RangeCoders$Table") (T := T_Table) (N := 10) hx hb hg in_Table t_Table o_Table n_Table hown hK hP hD hS 0 rfl rfl 1 (by decide) (hg _ k218) (fun x9 h9 => u_same (hg _ k219) x9 h9) rfl (by decide +kernel) rfl rfl (Nat.le_of_ble_eq_true rfl) d_Table_openReading_17 (fun H locs hP hD hS => ?_)
  have hPD : my_PD (dC, dI) vwCl A [(co, Sum.inr (5, [Value.long xx, Value.long v_2, Value.ref soa, Value.ref sna, Value.ref swa, Value.int xkept, Value.ref ri, Value.ref ro, Value.ref rw, Value.int xaskedq_12])), (ri, Sum.inr (0, [Value.int rin, Value.ref ria])), (ria, Sum.inl (cI, rik, Sum.inl rif))] H := ⟨hP, hD⟩
  have hP := hPD.1
  have hD := hPD.2
  refine lv_iconst (v := 1) hx hb d_Table_openReading_20 (by decide) ?_
  exact my_iret (v := 1) hx hb hr (rfl) hlocks hQ hK hS (Nat.le_refl _) (Nat.le_refl _) (v_2, xaskedq_12) (trivial) (hP.sub [0, 1, 2] rfl) (hD.sub [0, 1, 2] (by decide +kernel) rfl) d_Table_openReading_21
set_option maxHeartbeats 2000000 in
set_option maxRecDepth 100000 in
theorem c_Table_Table_nextSign (l : Launch) (dC : Nat → ClassId) (dI : Nat → Nat → Nat) (cI cM cO : ClassId) (sz : Nat) (co : Nat) (xx : Int64) (xreadX : Int64) (soa : Nat) (sna : Nat) (swa : Nat) (xkept : Int32) (ri : Nat) (ro : Nat) (rw : Nat) (xasked : Int32) (rin : Int32) (ria : Nat) (rik : Nat) (rif : Nat → Int32) (oo : Nat) (osg : Int32) (osm : Int32) (ofc : Int32) (oca : Nat) (opa : Nat) (ol : Nat) (ocf : Nat → Int32) (opl : Nat) (opf : Nat → Int32) (hri : rOk rin rik) (hol : ol ≤ 64) (hopl : opl ≤ 512) : MetI l y_Table_nextSign (Cond.code y_Table_nextSign prog_12_method_11_code 5 (some .int) :: gw) ({ frames := 3, cells := 0, slots := 0, locals := 64 } : Room) (dC, dI) vwCl (kT cI cM cO) [Value.ref co, Value.ref oo] [(co, Sum.inr (5, [Value.long xx, Value.long xreadX, Value.ref soa, Value.ref sna, Value.ref swa, Value.int xkept, Value.ref ri, Value.ref ro, Value.ref rw, Value.int xasked])), (ri, Sum.inr (0, [Value.int rin, Value.ref ria])), (ria, Sum.inl (cI, rik, Sum.inl rif)), (oo, Sum.inr (7, [Value.int osg, Value.int osm, Value.int ofc, Value.ref oca, Value.ref opa])), (oca, Sum.inl (cI, ol, Sum.inl ocf)), (opa, Sum.inl (cI, opl, Sum.inl opf))] sz (fun (r : Int32) (u : Int64 × Int32) => True) (fun (u : Int64 × Int32) => [(co, Sum.inr (5, [Value.long xx, Value.long u.1, Value.ref soa, Value.ref sna, Value.ref swa, Value.int xkept, Value.ref ri, Value.ref ro, Value.ref rw, Value.int u.2])), (ri, Sum.inr (0, [Value.int rin, Value.ref ria])), (ria, Sum.inl (cI, rik, Sum.inl rif)), (oo, Sum.inr (7, [Value.int osg, Value.int osm, Value.int ofc, Value.ref oca, Value.ref opa])), (oca, Sum.inl (cI, ol, Sum.inl ocf)), (opa, Sum.inl (cI, opl, Sum.inl opf))]) 0 0 := by
  refine my_ofI (cc := prog_12_method_11_code) (n := 5) (ret := (some .int)) (by decide) rfl (Nat.le_of_ble_eq_true rfl) ?_
  intro p e s m args below meth c R Q A ls H locs hx hb hr hts hown hlocks hml hnm hR hQ hA hl hP hK hN hD hS
  have hg : ∀ w ∈ gw, w.before args s = true := fun w h => hts w (List.mem_cons_of_mem _ h)
  have hown : s.vm.findClass "RangeCoders$Table" = some m.cls := hown
  have hl : lv_has ls 5 [(0, Value.ref co), (1, Value.ref oo)] := hl
  have hlt_hri := rOk_lt hri
  refine lv_aload_n hx hb d_Table_nextSign_0 rfl (lv_at hl 1 rfl) ?_
  refine va_get (D := (dC, dI)) (ci := 7) (v := .int osm) (C := "RangeCoders$Odds") (T := T_Odds) (N := 5) hx hb hg in_Odds hown hK hP 3 rfl rfl 1 (by decide) (hg _ k307) (fun _ h9 => h9) rfl d_Table_nextSign_1 ?_
  refine lv_if_gt (tgt := 9) hx hb d_Table_nextSign_4 (by decide) (fun c_1 => ?_) (fun c_1 => ?_)
  · refine lv_aload_n hx hb d_Table_nextSign_9 rfl (lv_at hl 0 rfl) ?_
    refine va_get (D := (dC, dI)) (ci := 5) (v := .long xreadX) (C := "RangeCoders$Table") (T := T_Table) (N := 10) hx hb hg in_Table hown hK hP 0 rfl rfl 1 (by decide) (hg _ k218) (fun x9 h9 => u_same (hg _ k219) x9 h9) rfl d_Table_nextSign_10 ?_
    refine lv_l2i hx hb d_Table_nextSign_13 rfl ?_
    refine lv_topi (fun v_2 ev_2 => ?_)
    refine lv_sipush (v := 512) hx hb d_Table_nextSign_14 (by decide) ?_
    refine lv_isub hx hb d_Table_nextSign_17 ?_
    refine lv_topi (fun v_3 ev_3 => ?_)
    refine lv_istore_n (lv' := [(2, Value.int v_3), (0, Value.ref co), (1, Value.ref oo)]) hx hb d_Table_nextSign_18 rfl hl (by decide) rfl (fun ls hl => ?_)
    refine lv_aload_n hx hb d_Table_nextSign_19 rfl (lv_at hl 2 rfl) ?_
    refine lv_iload_n hx hb d_Table_nextSign_20 rfl (lv_at hl 0 rfl) ?_
    refine my_ci (wr := [(co, Sum.inr (5, [Value.long xx, Value.long xreadX, Value.ref soa, Value.ref sna, Value.ref swa, Value.int xkept, Value.ref ri, Value.ref ro, Value.ref rw, Value.int xasked])), (ri, Sum.inr (0, [Value.int rin, Value.ref ria])), (ria, Sum.inl (cI, rik, Sum.inl rif))]) (va_runV (As := [Value.int v_3]) (rest := []) ⟨hx, hb, hml, hown, hts⟩ (c_Odds_signOfPlace l dC dI cI cM cO H.size oo osg osm ofc oca opa ol ocf opl opf v_3 (by first | assumption | omega) (by first | assumption | omega)) (cwV 1 hts (my_gV k845 k846 k847 k14 k848) rfl rfl rfl (by decide +kernel) ⟨by rw [hR]; exact Nat.le_of_ble_eq_true rfl, by rw [hR]; exact Nat.le_of_ble_eq_true rfl⟩) (my_preV hK hN (hP.sub [3, 4, 5] rfl) (hD.sub [3, 4, 5] (by decide +kernel) rfl) 0 rfl rfl) rfl rfl hl.1 rfl (lv_room (Nat.le_of_ble_eq_true rfl)) d_Table_nextSign_21 ⟨by rw [hR]; exact Nat.le_of_ble_eq_true rfl, by rw [hR]; exact Nat.le_of_ble_eq_true rfl⟩) hP hD hS hA [3, 4, 5] [0, 1, 2] rfl rfl (by decide +kernel) (by decide +kernel) (fun r_21 u9 H locs hw_21 hP hD hS => ?_)
    have hPD : my_PD (dC, dI) vwCl A [(co, Sum.inr (5, [Value.long xx, Value.long xreadX, Value.ref soa, Value.ref sna, Value.ref swa, Value.int xkept, Value.ref ri, Value.ref ro, Value.ref rw, Value.int xasked])), (ri, Sum.inr (0, [Value.int rin, Value.ref ria])), (ria, Sum.inl (cI, rik, Sum.inl rif)), (oo, Sum.inr (7, [Value.int osg, Value.int osm, Value.int ofc, Value.ref oca, Value.ref opa])), (oca, Sum.inl (cI, ol, Sum.inl ocf)), (opa, Sum.inl (cI, opl, Sum.inl opf))] H := ⟨hP, hD⟩
    have hP := hPD.1
    have hD := hPD.2
    refine lv_istore_n (lv' := [(3, Value.int r_21), (2, Value.int v_3), (0, Value.ref co), (1, Value.ref oo)]) hx hb d_Table_nextSign_24 rfl hl (by decide) rfl (fun ls hl => ?_)
    refine lv_aload_n hx hb d_Table_nextSign_25 rfl (lv_at hl 2 rfl) ?_
    refine lv_aload_n hx hb d_Table_nextSign_26 rfl (lv_at hl 3 rfl) ?_
    refine lv_iload_n hx hb d_Table_nextSign_27 rfl (lv_at hl 0 rfl) ?_
    refine my_ci (wr := [(co, Sum.inr (5, [Value.long xx, Value.long xreadX, Value.ref soa, Value.ref sna, Value.ref swa, Value.int xkept, Value.ref ri, Value.ref ro, Value.ref rw, Value.int xasked])), (ri, Sum.inr (0, [Value.int rin, Value.ref ria])), (ria, Sum.inl (cI, rik, Sum.inl rif))]) (va_runV (As := [Value.int r_21]) (rest := [Value.ref co]) ⟨hx, hb, hml, hown, hts⟩ (c_Odds_at l dC dI cI cM cO H.size oo osg osm ofc oca opa ol ocf opl opf r_21 (by first | assumption | omega) (by first | assumption | omega)) (cwV 1 hts (my_gV k641 k436 k437 k14 k438) rfl rfl rfl (by decide +kernel) ⟨by rw [hR]; exact Nat.le_of_ble_eq_true rfl, by rw [hR]; exact Nat.le_of_ble_eq_true rfl⟩) (my_preV hK hN (hP.sub [3, 4, 5] rfl) (hD.sub [3, 4, 5] (by decide +kernel) rfl) 0 rfl rfl) rfl rfl hl.1 rfl (lv_room (Nat.le_of_ble_eq_true rfl)) d_Table_nextSign_28 ⟨by rw [hR]; exact Nat.le_of_ble_eq_true rfl, by rw [hR]; exact Nat.le_of_ble_eq_true rfl⟩) hP hD hS hA [3, 4, 5] [0, 1, 2] rfl rfl (by decide +kernel) (by decide +kernel) (fun r_28 u9 H locs hw_28 hP hD hS => ?_)
    have hPD : my_PD (dC, dI) vwCl A [(co, Sum.inr (5, [Value.long xx, Value.long xreadX, Value.ref soa, Value.ref sna, Value.ref swa, Value.int xkept, Value.ref ri, Value.ref ro, Value.ref rw, Value.int xasked])), (ri, Sum.inr (0, [Value.int rin, Value.ref ria])), (ria, Sum.inl (cI, rik, Sum.inl rif)), (oo, Sum.inr (7, [Value.int osg, Value.int osm, Value.int ofc, Value.ref oca, Value.ref opa])), (oca, Sum.inl (cI, ol, Sum.inl ocf)), (opa, Sum.inl (cI, opl, Sum.inl opf))] H := ⟨hP, hD⟩
    have hP := hPD.1
    have hD := hPD.2
    refine lv_aload_n hx hb d_Table_nextSign_31 rfl (lv_at hl 3 rfl) ?_
    refine lv_iload_n hx hb d_Table_nextSign_32 rfl (lv_at hl 1 rfl) ?_
    refine my_ci (wr := [(co, Sum.inr (5, [Value.long xx, Value.long xreadX, Value.ref soa, Value.ref sna, Value.ref swa, Value.int xkept, Value.ref ri, Value.ref ro, Value.ref rw, Value.int xasked])), (ri, Sum.inr (0, [Value.int rin, Value.ref ria])), (ria, Sum.inl (cI, rik, Sum.inl rif))]) (va_runV (As := [Value.int v_3]) (rest := [Value.int r_28, Value.ref co]) ⟨hx, hb, hml, hown, hts⟩ (c_Odds_numberOfPlace l dC dI cI cM cO H.size oo osg osm ofc oca opa ol ocf opl opf v_3 (by first | assumption | omega) (by first | assumption | omega)) (cwV 1 hts (my_gV k849 k850 k851 k14 k852) rfl rfl rfl (by decide +kernel) ⟨by rw [hR]; exact Nat.le_of_ble_eq_true rfl, by rw [hR]; exact Nat.le_of_ble_eq_true rfl⟩) (my_preV hK hN (hP.sub [3, 4, 5] rfl) (hD.sub [3, 4, 5] (by decide +kernel) rfl) 0 rfl rfl) rfl rfl hl.1 rfl (lv_room (Nat.le_of_ble_eq_true rfl)) d_Table_nextSign_33 ⟨by rw [hR]; exact Nat.le_of_ble_eq_true rfl, by rw [hR]; exact Nat.le_of_ble_eq_true rfl⟩) hP hD hS hA [3, 4, 5] [0, 1, 2] rfl rfl (by decide +kernel) (by decide +kernel) (fun r_33 u9 H locs hw_33 hP hD hS => ?_)
    have hPD : my_PD (dC, dI) vwCl A [(co, Sum.inr (5, [Value.long xx, Value.long xreadX, Value.ref soa, Value.ref sna, Value.ref swa, Value.int xkept, Value.ref ri, Value.ref ro, Value.ref rw, Value.int xasked])), (ri, Sum.inr (0, [Value.int rin, Value.ref ria])), (ria, Sum.inl (cI, rik, Sum.inl rif)), (oo, Sum.inr (7, [Value.int osg, Value.int osm, Value.int ofc, Value.ref oca, Value.ref opa])), (oca, Sum.inl (cI, ol, Sum.inl ocf)), (opa, Sum.inl (cI, opl, Sum.inl opf))] H := ⟨hP, hD⟩
    have hP := hPD.1
    have hD := hPD.2
    refine lv_iadd hx hb d_Table_nextSign_36 ?_
    refine lv_topi (fun v_4 ev_4 => ?_)
    refine lv_i2l hx hb d_Table_nextSign_37 rfl ?_
    refine lv_topl (fun v_5 ev_5 => ?_)
    refine va_put (D := (dC, dI)) (ci := 5) (v := .long v_5) (ty := .long) (C := "RangeCoders$Table") (T := T_Table) (N := 10) hx hb hg in_Table t_Table o_Table n_Table hown hK hP hD hS 0 rfl rfl 1 (by decide) (hg _ k218) (fun x9 h9 => u_same (hg _ k219) x9 h9) rfl (by decide +kernel) rfl rfl (Nat.le_of_ble_eq_true rfl) d_Table_nextSign_38 (fun H locs hP hD hS => ?_)
    have hPD : my_PD (dC, dI) vwCl A [(co, Sum.inr (5, [Value.long xx, Value.long v_5, Value.ref soa, Value.ref sna, Value.ref swa, Value.int xkept, Value.ref ri, Value.ref ro, Value.ref rw, Value.int xasked])), (ri, Sum.inr (0, [Value.int rin, Value.ref ria])), (ria, Sum.inl (cI, rik, Sum.inl rif)), (oo, Sum.inr (7, [Value.int osg, Value.int osm, Value.int ofc, Value.ref oca, Value.ref opa])), (oca, Sum.inl (cI, ol, Sum.inl ocf)), (opa, Sum.inl (cI, opl, Sum.inl opf))] H := ⟨hP, hD⟩
    have hP := hPD.1
    have hD := hPD.2
    refine lv_iconst (v := 0) hx hb d_Table_nextSign_41 (by decide) ?_
    refine lv_istore (lv' := [(4, Value.int 0), (3, Value.int r_21), (2, Value.int v_3), (0, Value.ref co), (1, Value.ref oo)]) hx hb d_Table_nextSign_42 hl (by decide) rfl (fun ls hl => ?_)
    have J_44 : ∀ (n9_44 : Nat) (b44_0 : Int32) (b44_1 : Int64) (b44_2 : Int32) (hn9_44 : (10 - b44_0.toInt).toNat = n9_44) (hi_44 : 0 ≤ b44_0.toInt) (H : Heap) (locs : List Loc) (ls : Array Slot), va_P (dC, dI) vwCl [(co, Sum.inr (5, [Value.long xx, Value.long b44_1, Value.ref soa, Value.ref sna, Value.ref swa, Value.int xkept, Value.ref ri, Value.ref ro, Value.ref rw, Value.int b44_2])), (ri, Sum.inr (0, [Value.int rin, Value.ref ria])), (ria, Sum.inl (cI, rik, Sum.inl rif)), (oo, Sum.inr (7, [Value.int osg, Value.int osm, Value.int ofc, Value.ref oca, Value.ref opa])), (oca, Sum.inl (cI, ol, Sum.inl ocf)), (opa, Sum.inl (cI, opl, Sum.inl opf))] H → va_D A [(co, Sum.inr (5, [Value.long xx, Value.long b44_1, Value.ref soa, Value.ref sna, Value.ref swa, Value.int xkept, Value.ref ri, Value.ref ro, Value.ref rw, Value.int b44_2])), (ri, Sum.inr (0, [Value.int rin, Value.ref ria])), (ria, Sum.inl (cI, rik, Sum.inl rif)), (oo, Sum.inr (7, [Value.int osg, Value.int osm, Value.int ofc, Value.ref oca, Value.ref opa])), (oca, Sum.inl (cI, ol, Sum.inl ocf)), (opa, Sum.inl (cI, opl, Sum.inl opf))] → va_S A s.heap H locs → lv_has ls 5 [(4, Value.int b44_0), (3, Value.int r_21), (2, Value.int v_3), (0, Value.ref co), (1, Value.ref oo)] → W p l e R s m args below meth c H locs 0 0 Q (F0 m 44 ls []) := by
      intro n9_44
      induction n9_44 using Nat.strongRecOn with
      | ind n9_44 ih9_44 =>
        intro b44_0 b44_1 b44_2 hn9_44 hi_44 H locs ls hP hD hS hl
        refine lv_iload hx hb d_Table_nextSign_44 (lv_at hl 0 rfl) ?_
        refine lv_bipush (v := 9) hx hb d_Table_nextSign_46 (by decide) ?_
        refine lv_icmp_gt (tgt := 86) hx hb d_Table_nextSign_48 (by decide) (fun c_6 => ?_) (fun c_6 => ?_)
        · refine lv_iload_n hx hb d_Table_nextSign_86 rfl (lv_at hl 1 rfl) ?_
          exact my_iret (v := r_21) hx hb hr (rfl) hlocks hQ hK hS (Nat.le_refl _) (Nat.le_refl _) (b44_1, b44_2) (trivial) (hP.sub [0, 1, 2, 3, 4, 5] rfl) (hD.sub [0, 1, 2, 3, 4, 5] (by decide +kernel) rfl) d_Table_nextSign_87
        · refine lv_aload_n hx hb d_Table_nextSign_51 rfl (lv_at hl 3 rfl) ?_
          refine va_get (D := (dC, dI)) (ci := 5) (v := .long b44_1) (C := "RangeCoders$Table") (T := T_Table) (N := 10) hx hb hg in_Table hown hK hP 0 rfl rfl 1 (by decide) (hg _ k218) (fun x9 h9 => u_same (hg _ k219) x9 h9) rfl d_Table_nextSign_52 ?_
          refine lv_ldc2 (v := 512) hx hb hown (hg _ k607) d_Table_nextSign_55 ?_
          refine W.lcmp hx hb d_Table_nextSign_58 ?_
          refine lv_if_ge (tgt := 86) hx hb d_Table_nextSign_59 (by decide) (fun c_7 => ?_) (fun c_7 => ?_)
          · rw [lg_cmp_ge] at c_7
            refine lv_iload_n hx hb d_Table_nextSign_86 rfl (lv_at hl 1 rfl) ?_
            exact my_iret (v := r_21) hx hb hr (rfl) hlocks hQ hK hS (Nat.le_refl _) (Nat.le_refl _) (b44_1, b44_2) (trivial) (hP.sub [0, 1, 2, 3, 4, 5] rfl) (hD.sub [0, 1, 2, 3, 4, 5] (by decide +kernel) rfl) d_Table_nextSign_87
          · rw [lg_cmp_ge] at c_7
            refine lv_aload_n hx hb d_Table_nextSign_62 rfl (lv_at hl 3 rfl) ?_
            refine lv_ldc2 (v := 2) hx hb hown (hg _ k642) d_Table_nextSign_63 ?_
            refine lv_aload_n hx hb d_Table_nextSign_66 rfl (lv_at hl 3 rfl) ?_
            refine va_get (D := (dC, dI)) (ci := 5) (v := .long b44_1) (C := "RangeCoders$Table") (T := T_Table) (N := 10) hx hb hg in_Table hown hK hP 0 rfl rfl 1 (by decide) (hg _ k218) (fun x9 h9 => u_same (hg _ k219) x9 h9) rfl d_Table_nextSign_67 ?_
            refine lv_lmul hx hb d_Table_nextSign_70 ?_
            refine lv_topl (fun v_8 ev_8 => ?_)
            refine lv_aload_n hx hb d_Table_nextSign_71 rfl (lv_at hl 3 rfl) ?_
            refine my_ci (wr := [(oo, Sum.inr (7, [Value.int osg, Value.int osm, Value.int ofc, Value.ref oca, Value.ref opa])), (oca, Sum.inl (cI, ol, Sum.inl ocf)), (opa, Sum.inl (cI, opl, Sum.inl opf))]) (va_runV (As := []) (rest := [Value.long v_8, Value.ref co]) ⟨hx, hb, hml, hown, hts⟩ (c_Table_Table_nextInBit l dC dI cI cM cO H.size co xx b44_1 soa sna swa xkept ri ro rw b44_2 rin ria rik rif (by first | assumption | omega)) (cwV 0 hts (my_gV k767 k769 ks12 k11 k770) rfl rfl rfl (by decide +kernel) ⟨by rw [hR]; exact Nat.le_of_ble_eq_true rfl, by rw [hR]; exact Nat.le_of_ble_eq_true rfl⟩) (my_preV hK hN (hP.sub [0, 1, 2] rfl) (hD.sub [0, 1, 2] (by decide +kernel) rfl) 0 rfl rfl) rfl rfl hl.1 rfl (lv_room (Nat.le_of_ble_eq_true rfl)) d_Table_nextSign_72 ⟨by rw [hR]; exact Nat.le_of_ble_eq_true rfl, by rw [hR]; exact Nat.le_of_ble_eq_true rfl⟩) hP hD hS hA [0, 1, 2] [3, 4, 5] rfl rfl (by decide +kernel) (by decide +kernel) (fun r_72 u9 H locs hw_72 hP hD hS => ?_)
            obtain ⟨xaskedq_72, rfl⟩ : ∃ z, z = u9 := ⟨_, rfl⟩
            have hPD : my_PD (dC, dI) vwCl A [(oo, Sum.inr (7, [Value.int osg, Value.int osm, Value.int ofc, Value.ref oca, Value.ref opa])), (oca, Sum.inl (cI, ol, Sum.inl ocf)), (opa, Sum.inl (cI, opl, Sum.inl opf)), (co, Sum.inr (5, [Value.long xx, Value.long b44_1, Value.ref soa, Value.ref sna, Value.ref swa, Value.int xkept, Value.ref ri, Value.ref ro, Value.ref rw, Value.int xaskedq_72])), (ri, Sum.inr (0, [Value.int rin, Value.ref ria])), (ria, Sum.inl (cI, rik, Sum.inl rif))] H := ⟨hP, hD⟩
            have hP := hPD.1
            have hD := hPD.2
            refine lv_i2l hx hb d_Table_nextSign_75 rfl ?_
            refine lv_topl (fun v_9 ev_9 => ?_)
            refine lv_ladd hx hb d_Table_nextSign_76 ?_
            refine lv_topl (fun v_10 ev_10 => ?_)
            refine va_put (D := (dC, dI)) (ci := 5) (v := .long v_10) (ty := .long) (C := "RangeCoders$Table") (T := T_Table) (N := 10) hx hb hg in_Table t_Table o_Table n_Table hown hK hP hD hS 3 rfl rfl 1 (by decide) (hg _ k218) (fun x9 h9 => u_same (hg _ k219) x9 h9) rfl (by decide +kernel) rfl rfl (Nat.le_of_ble_eq_true rfl) d_Table_nextSign_77 (fun H locs hP hD hS => ?_)
            have hPD : my_PD (dC, dI) vwCl A [(oo, Sum.inr (7, [Value.int osg, Value.int osm, Value.int ofc, Value.ref oca, Value.ref opa])), (oca, Sum.inl (cI, ol, Sum.inl ocf)), (opa, Sum.inl (cI, opl, Sum.inl opf)), (co, Sum.inr (5, [Value.long xx, Value.long v_10, Value.ref soa, Value.ref sna, Value.ref swa, Value.int xkept, Value.ref ri, Value.ref ro, Value.ref rw, Value.int xaskedq_72])), (ri, Sum.inr (0, [Value.int rin, Value.ref ria])), (ria, Sum.inl (cI, rik, Sum.inl rif))] H := ⟨hP, hD⟩
            have hP := hPD.1
            have hD := hPD.2
            obtain ⟨v_11, ev_11⟩ : ∃ y : Int32, y = b44_0 + (1) := ⟨_, rfl⟩
            refine lv_iinc (v := v_11) (lv' := [(4, Value.int v_11), (3, Value.int r_21), (2, Value.int v_3), (0, Value.ref co), (1, Value.ref oo)]) hx hb d_Table_nextSign_80 hl (k := 0) rfl (by rw [ev_11]; rfl) (by decide) rfl (fun ls hl => ?_)
            refine lv_goto (tgt := 44) hx hb d_Table_nextSign_83 (by decide) ?_
            exact ih9_44 _ (by first | omega | (have z9 := I_up9 c_6 ev_11; omega)) v_11 v_10 xaskedq_72 rfl (by have z9 := I_up9 c_6 ev_11; omega) H locs ls (hP.sub [3, 4, 5, 0, 1, 2] rfl) (hD.sub [3, 4, 5, 0, 1, 2] (by decide +kernel) rfl) hS (lv_sub hl [0, 1, 2, 3, 4] rfl)
    exact J_44 _ (0 : Int32) v_5 xasked rfl (by first | decide | assumption | omega) H locs ls (hP.sub [0, 1, 2, 3, 4, 5] rfl) (hD.sub [0, 1, 2, 3, 4, 5] (by decide +kernel) rfl) hS (lv_sub hl [0, 1, 2, 3, 4] rfl)
  · refine lv_iconst (v := (-1)) hx hb d_Table_nextSign_7 (by decide) ?_
    exact my_iret (v := (-1)) hx hb hr (rfl) hlocks hQ hK hS (Nat.le_refl _) (Nat.le_refl _) (xreadX, xasked) (trivial) (hP.sub [0, 1, 2, 3, 4, 5] rfl) (hD.sub [0, 1, 2, 3, 4, 5] (by decide +kernel) rfl) d_Table_nextSign_8
end
section
set_option maxHeartbeats 2000000 in
set_option maxRecDepth 100000 in
theorem c_Odds_init (l : Launch) (dC : Nat → ClassId) (dI : Nat → Nat → Nat) (cI cM cO : ClassId) (sz : Nat) (sl : Nat) (oo : Nat) (isg : Int32) (ifc : Int32) (nc : Nat) (np : Nat) (hnc : nc ≤ 64) (hnp : np ≤ 512) : MetVg l y_Odds_init (Cond.code y_Odds_init prog_7_method_1_code 5 none :: gw) ({ frames := 1, cells := 600, slots := 600, locals := 12 } : Room) (dC, dI) vwCl (kT cI cM cO) [Value.ref oo, Value.int isg, Value.int ifc, Value.int (nI nc), Value.int (nI np)] [(oo, Sum.inr (7, [Value.int 0, Value.int 0, Value.int 0, Value.null, Value.null]))] sz sl (fun (u : Nat × Nat) => True) (fun (u : Nat × Nat) => [(oo, Sum.inr (7, [Value.int isg, Value.int 0, Value.int ifc, Value.ref u.1, Value.ref u.2])), (u.1, Sum.inl (cI, nc, Sum.inl (fun _ => 0))), (u.2, Sum.inl (cI, np, Sum.inl (fun _ => 0)))]) 600 (fun (u : Nat × Nat) => 0) := by
  refine my_ofVg (cc := prog_7_method_1_code) (n := 5) (ret := none) (by decide) rfl (Nat.le_of_ble_eq_true rfl) ?_
  intro p e s m args below meth c R Q A ls H locs hx hb hr hts hown hlocks hml hnm hR hQ hA hl hP hK hN hD hS
  have hg : ∀ w ∈ gw, w.before args s = true := fun w h => hts w (List.mem_cons_of_mem _ h)
  have hown : s.vm.findClass "RangeCoders$Odds" = some m.cls := hown
  have hl : lv_has ls 5 [(0, Value.ref oo), (1, Value.int isg), (2, Value.int ifc), (3, Value.int (nI nc)), (4, Value.int (nI np))] := hl
  refine lv_aload_n hx hb d_Odds_init_0 rfl (lv_at hl 0 rfl) ?_
  refine W.objInit hx hb hown (hg _ k302) (hg _ k23) (hg _ k24) rfl (by rw [hml]; exact hl.1) rfl d_Odds_init_1 (by rw [hR]; exact Nat.le_of_ble_eq_true rfl) (by rw [hR]; exact Nat.le_of_ble_eq_true rfl) ?_
  refine W.eq (g2 := F0 m 4 ls []) rfl ?_
  refine lv_aload_n hx hb d_Odds_init_4 rfl (lv_at hl 0 rfl) ?_
  refine lv_iload_n hx hb d_Odds_init_5 rfl (lv_at hl 1 rfl) ?_
  refine va_putF (D := (dC, dI)) (ci := 7) (v := .int isg) (ty := .int) (C := "RangeCoders$Odds") (T := T_Odds) (N := 5) hx hb hg in_Odds t_Odds o_Odds n_Odds hown hK hP hD hS 0 rfl rfl 0 (by decide) (hg _ k303) (fun _ h9 => h9) rfl (by rw [hnm]; rfl) rfl (by decide +kernel) rfl rfl (Nat.le_of_ble_eq_true rfl) d_Odds_init_6 (fun H locs hP hD hS => ?_)
  have hPD : my_PD (dC, dI) vwCl A [(oo, Sum.inr (7, [Value.int isg, Value.int 0, Value.int 0, Value.null, Value.null]))] H := ⟨hP, hD⟩
  have hP := hPD.1
  have hD := hPD.2
  refine lv_aload_n hx hb d_Odds_init_9 rfl (lv_at hl 0 rfl) ?_
  refine lv_iload_n hx hb d_Odds_init_10 rfl (lv_at hl 2 rfl) ?_
  refine va_putF (D := (dC, dI)) (ci := 7) (v := .int ifc) (ty := .int) (C := "RangeCoders$Odds") (T := T_Odds) (N := 5) hx hb hg in_Odds t_Odds o_Odds n_Odds hown hK hP hD hS 0 rfl rfl 2 (by decide) (hg _ k308) (fun _ h9 => h9) rfl (by rw [hnm]; rfl) rfl (by decide +kernel) rfl rfl (Nat.le_of_ble_eq_true rfl) d_Odds_init_11 (fun H locs hP hD hS => ?_)
  have hPD : my_PD (dC, dI) vwCl A [(oo, Sum.inr (7, [Value.int isg, Value.int 0, Value.int ifc, Value.null, Value.null]))] H := ⟨hP, hD⟩
  have hP := hPD.1
  have hD := hPD.2
  refine lv_aload_n hx hb d_Odds_init_14 rfl (lv_at hl 0 rfl) ?_
  refine lv_iload_n hx hb d_Odds_init_15 rfl (lv_at hl 3 rfl) ?_
  refine lv_if_lt (tgt := 23) hx hb d_Odds_init_16 (by decide) (fun c_1 => ?_) (fun c_1 => ?_)
  · exact absurd c_1 (nI_pos (by omega))
  · refine lv_iload_n hx hb d_Odds_init_19 rfl (lv_at hl 3 rfl) ?_
    refine lv_goto (tgt := 24) hx hb d_Odds_init_20 (by decide) ?_
    refine my_newi hx hb (hg _ k66) hK 0 rfl hP hD hS hA (N' := nc) (nI_pos (by omega)) (nI_clamp (by omega)) (by omega) (by rw [hR]; exact (show 0 + 1 ≤ 600 by omega)) (by rw [hR]; exact (show 0 + nc ≤ 600 by omega)) d_Odds_init_24 (fun q_2 H hP hD hS => ?_)
    have hPD : my_PD (dC, dI) vwCl A [(oo, Sum.inr (7, [Value.int isg, Value.int 0, Value.int ifc, Value.null, Value.null])), (q_2, Sum.inl (cI, nc, Sum.inl (fun _ => 0)))] H := ⟨hP, hD⟩
    have hP := hPD.1
    have hD := hPD.2
    refine va_putF (D := (dC, dI)) (ci := 7) (v := .ref q_2) (ty := (.array .int)) (C := "RangeCoders$Odds") (T := T_Odds) (N := 5) hx hb hg in_Odds t_Odds o_Odds n_Odds hown hK hP hD hS 0 rfl rfl 3 (by decide) (hg _ k309) (fun _ h9 => h9) rfl (by rw [hnm]; rfl) rfl (by decide +kernel) rfl rfl (Nat.le_of_ble_eq_true rfl) d_Odds_init_26 (fun H locs hP hD hS => ?_)
    have hPD : my_PD (dC, dI) vwCl A [(oo, Sum.inr (7, [Value.int isg, Value.int 0, Value.int ifc, Value.ref q_2, Value.null])), (q_2, Sum.inl (cI, nc, Sum.inl (fun _ => 0)))] H := ⟨hP, hD⟩
    have hP := hPD.1
    have hD := hPD.2
    refine lv_aload_n hx hb d_Odds_init_29 rfl (lv_at hl 0 rfl) ?_
    refine lv_iload hx hb d_Odds_init_30 (lv_at hl 4 rfl) ?_
    refine lv_if_lt (tgt := 40) hx hb d_Odds_init_32 (by decide) (fun c_3 => ?_) (fun c_3 => ?_)
    · exact absurd c_3 (nI_pos (by omega))
    · refine lv_iload hx hb d_Odds_init_35 (lv_at hl 4 rfl) ?_
      refine lv_goto (tgt := 41) hx hb d_Odds_init_37 (by decide) ?_
      refine my_newi hx hb (hg _ k66) hK 0 rfl hP hD hS hA (N' := np) (nI_pos (by omega)) (nI_clamp (by omega)) (by omega) (by rw [hR]; exact (show 0 + 1 + 1 ≤ 600 by omega)) (by rw [hR]; exact (show 0 + nc + np ≤ 600 by omega)) d_Odds_init_41 (fun q_4 H hP hD hS => ?_)
      have hPD : my_PD (dC, dI) vwCl A [(oo, Sum.inr (7, [Value.int isg, Value.int 0, Value.int ifc, Value.ref q_2, Value.null])), (q_2, Sum.inl (cI, nc, Sum.inl (fun _ => 0))), (q_4, Sum.inl (cI, np, Sum.inl (fun _ => 0)))] H := ⟨hP, hD⟩
      have hP := hPD.1
      have hD := hPD.2
      refine va_putF (D := (dC, dI)) (ci := 7) (v := .ref q_4) (ty := (.array .int)) (C := "RangeCoders$Odds") (T := T_Odds) (N := 5) hx hb hg in_Odds t_Odds o_Odds n_Odds hown hK hP hD hS 0 rfl rfl 4 (by decide) (hg _ k310) (fun _ h9 => h9) rfl (by rw [hnm]; rfl) rfl (by decide +kernel) rfl rfl (Nat.le_of_ble_eq_true rfl) d_Odds_init_43 (fun H locs hP hD hS => ?_)
      have hPD : my_PD (dC, dI) vwCl A [(oo, Sum.inr (7, [Value.int isg, Value.int 0, Value.int ifc, Value.ref q_2, Value.ref q_4])), (q_2, Sum.inl (cI, nc, Sum.inl (fun _ => 0))), (q_4, Sum.inl (cI, np, Sum.inl (fun _ => 0)))] H := ⟨hP, hD⟩
      have hP := hPD.1
      have hD := hPD.2
      exact my_vretg hx hb hr hlocks hQ hK hS (q_2, q_4) (show (0 + 1 + 1) + 0 ≤ 600 by omega) (show (0 + nc + np) + 0 ≤ 600 by omega) (trivial) (hP.sub [0, 1, 2] rfl) (hD.sub [0, 1, 2] (by decide +kernel) rfl) d_Odds_init_46
end
