set_option maxHeartbeats 2000000 in
set_option maxRecDepth 100000 in
theorem c_Carries_Coder_nextByte (l : Launch) (dC : Nat → ClassId) (dI : Nat → Nat → Nat) (cI cM cO : ClassId) (sz : Nat) (co : Nat) (xcache : Int32) (xpending : Int32) (xlow : Int64) (xrange : Int64) (xcode : Int64) (xreadLow : Int64) (xreadRange : Int64) (ri : Nat) (ro : Nat) (rw : Nat) (xasked : Int32) (rin : Int32) (ria : Nat) (rik : Nat) (rif : Nat → Int32) (hri : rOk rin rik) : MetI l y_Coder_nextByte (Cond.code y_Coder_nextByte prog_4_method_15_code 2 (some .int) :: gw) ({ frames := 2, cells := 0, slots := 0, locals := 42 } : Room) (dC, dI) vwCl (kT cI cM cO) [.ref co] [(co, .inr (1, [.int xcache, .int xpending, .long xlow, .long xrange, .long xcode, .long xreadLow, .long xreadRange, .ref ri, .ref ro, .ref rw, .int xasked])), (ri, .inr (0, [.int rin, .ref ria])), (ria, .inl (cI, rik, .inl rif))] sz (fun (r : Int32) (u : Int32) => True) (fun (u : Int32) => [(co, .inr (1, [.int xcache, .int xpending, .long xlow, .long xrange, .long xcode, .long xreadLow, .long xreadRange, .ref ri, .ref ro, .ref rw, .int u])), (ri, .inr (0, [.int rin, .ref ria])), (ria, .inl (cI, rik, .inl rif))]) 0 0 := by
  refine my_ofI (cc := prog_4_method_15_code) (n := 2) (ret := (some .int)) (by decide) rfl (Nat.le_of_ble_eq_true rfl) ?_
  intro p e s m args below meth c R Q A ls H locs hx hb hr hts hown hlocks hml hnm hR hQ hA hl hP hK hN hD hS
  have hg : ∀ w ∈ gw, w.before args s = true := fun w h => hts w (List.mem_cons_of_mem _ h)
  have hown : s.vm.findClass "RangeCoders$Coder" = some m.cls := hown
  have hl : lv_has ls 2 [(0, .ref co)] := hl
  have hlt_hri := rOk_lt hri
  refine lv_aload_n hx hb d_Coder_nextByte_0 rfl (lv_at hl 0 rfl) ?_
  refine va_get (D := (dC, dI)) (ci := 1) (v := .ref ri) (C := "RangeCoders$Carries") (T := T_Carries) (N := 11) hx hb hg in_Carries hown hK hP 0 rfl rfl 7 (by decide) (hg _ k101) (fun _ h9 => h9) rfl d_Coder_nextByte_1 ?_
  refine lv_aload_n hx hb d_Coder_nextByte_4 rfl (lv_at hl 0 rfl) ?_
  refine va_get (D := (dC, dI)) (ci := 1) (v := .int xasked) (C := "RangeCoders$Carries") (T := T_Carries) (N := 11) hx hb hg in_Carries hown hK hP 0 rfl rfl 10 (by decide) (hg _ k130) (fun _ h9 => h9) rfl d_Coder_nextByte_5 ?_
  refine my_ci (wr := [(co, .inr (1, [.int xcache, .int xpending, .long xlow, .long xrange, .long xcode, .long xreadLow, .long xreadRange, .ref ri, .ref ro, .ref rw, .int xasked]))]) (va_runV (As := [.int xasked]) (rest := []) ⟨hx, hb, hml, hown, hts⟩ (c_Row_has l dC dI cI cM cO H.size ri rin ria rik rif xasked (by first | assumption | omega)) (cwV 1 hts (my_gV k750 k663 k664 k6 k665) rfl rfl rfl (by decide +kernel) ⟨by rw [hR]; exact Nat.le_of_ble_eq_true rfl, by rw [hR]; exact Nat.le_of_ble_eq_true rfl⟩) (my_preV hK hN (hP.sub [1, 2] rfl) (hD.sub [1, 2] (by decide) rfl) 0 rfl rfl) rfl rfl hl.1 rfl (lv_room (Nat.le_of_ble_eq_true rfl)) d_Coder_nextByte_8 ⟨by rw [hR]; exact Nat.le_of_ble_eq_true rfl, by rw [hR]; exact Nat.le_of_ble_eq_true rfl⟩) hP hD hS hA [1, 2] [0] rfl rfl (by decide) (by decide) (fun r_8 u9 H locs hw_8 hP hD hS => ?_)
  have hr_8 : r_8 ≠ 0 → vp_in xasked rik := hw_8
  have hP : va_P (dC, dI) vwCl [(co, .inr (1, [.int xcache, .int xpending, .long xlow, .long xrange, .long xcode, .long xreadLow, .long xreadRange, .ref ri, .ref ro, .ref rw, .int xasked])), (ri, .inr (0, [.int rin, .ref ria])), (ria, .inl (cI, rik, .inl rif))] H := hP
  have hD : va_D A [(co, .inr (1, [.int xcache, .int xpending, .long xlow, .long xrange, .long xcode, .long xreadLow, .long xreadRange, .ref ri, .ref ro, .ref rw, .int xasked])), (ri, .inr (0, [.int rin, .ref ria])), (ria, .inl (cI, rik, .inl rif))] := hD
  refine lv_if_eq (tgt := 28) hx hb d_Coder_nextByte_11 (by decide) (fun c_1 => ?_) (fun c_1 => ?_)
  · refine lv_iconst (v := 0) hx hb d_Coder_nextByte_28 (by decide) ?_
    refine lv_istore_n (lv' := [(1, .int 0), (0, .ref co)]) hx hb d_Coder_nextByte_29 rfl hl (by decide) rfl (fun ls hl => ?_)
    refine lv_aload_n hx hb d_Coder_nextByte_30 rfl (lv_at hl 1 rfl) ?_
    refine lv_dup hx hb d_Coder_nextByte_31 rfl ?_
    refine va_get (D := (dC, dI)) (ci := 1) (v := .int xasked) (C := "RangeCoders$Carries") (T := T_Carries) (N := 11) hx hb hg in_Carries hown hK hP 0 rfl rfl 10 (by decide) (hg _ k130) (fun _ h9 => h9) rfl d_Coder_nextByte_32 ?_
    refine lv_iconst (v := 1) hx hb d_Coder_nextByte_35 (by decide) ?_
    refine lv_iadd hx hb d_Coder_nextByte_36 ?_
    refine lv_topi (fun v_2 ev_2 => ?_)
    refine va_put (D := (dC, dI)) (ci := 1) (v := .int v_2) (ty := .int) (C := "RangeCoders$Carries") (T := T_Carries) (N := 11) hx hb hg in_Carries t_Carries o_Carries n_Carries hown hK hP hD hS 0 rfl rfl 10 (by decide) (hg _ k130) (fun _ h9 => h9) rfl (by decide +kernel) rfl rfl (Nat.le_of_ble_eq_true rfl) d_Coder_nextByte_37 (fun H locs hP hD hS => ?_)
    have hP : va_P (dC, dI) vwCl [(co, .inr (1, [.int xcache, .int xpending, .long xlow, .long xrange, .long xcode, .long xreadLow, .long xreadRange, .ref ri, .ref ro, .ref rw, .int v_2])), (ri, .inr (0, [.int rin, .ref ria])), (ria, .inl (cI, rik, .inl rif))] H := hP
    have hD : va_D A [(co, .inr (1, [.int xcache, .int xpending, .long xlow, .long xrange, .long xcode, .long xreadLow, .long xreadRange, .ref ri, .ref ro, .ref rw, .int v_2])), (ri, .inr (0, [.int rin, .ref ria])), (ria, .inl (cI, rik, .inl rif))] := hD
    refine lv_iload_n hx hb d_Coder_nextByte_40 rfl (lv_at hl 0 rfl) ?_
    exact my_iret (v := 0) hx hb hr (rfl) hlocks hQ hK hS (Nat.le_refl _) (Nat.le_refl _) (v_2) (trivial) (hP.sub [0, 1, 2] rfl) (hD.sub [0, 1, 2] (by decide) rfl) d_Coder_nextByte_41
  · refine lv_aload_n hx hb d_Coder_nextByte_14 rfl (lv_at hl 0 rfl) ?_
    refine va_get (D := (dC, dI)) (ci := 1) (v := .ref ri) (C := "RangeCoders$Carries") (T := T_Carries) (N := 11) hx hb hg in_Carries hown hK hP 0 rfl rfl 7 (by decide) (hg _ k101) (fun _ h9 => h9) rfl d_Coder_nextByte_15 ?_
    refine lv_aload_n hx hb d_Coder_nextByte_18 rfl (lv_at hl 0 rfl) ?_
    refine va_get (D := (dC, dI)) (ci := 1) (v := .int xasked) (C := "RangeCoders$Carries") (T := T_Carries) (N := 11) hx hb hg in_Carries hown hK hP 0 rfl rfl 10 (by decide) (hg _ k130) (fun _ h9 => h9) rfl d_Coder_nextByte_19 ?_
    refine my_ci (wr := [(co, .inr (1, [.int xcache, .int xpending, .long xlow, .long xrange, .long xcode, .long xreadLow, .long xreadRange, .ref ri, .ref ro, .ref rw, .int xasked]))]) (va_runV (As := [.int xasked]) (rest := []) ⟨hx, hb, hml, hown, hts⟩ (c_Row_at l dC dI cI cM cO H.size ri rin ria rik rif xasked (by first | assumption | omega)) (cwV 1 hts (my_gV k751 k659 k660 k6 k661) rfl rfl rfl (by decide +kernel) ⟨by rw [hR]; exact Nat.le_of_ble_eq_true rfl, by rw [hR]; exact Nat.le_of_ble_eq_true rfl⟩) (my_preV hK hN (hP.sub [1, 2] rfl) (hD.sub [1, 2] (by decide) rfl) 0 rfl rfl) rfl rfl hl.1 rfl (lv_room (Nat.le_of_ble_eq_true rfl)) d_Coder_nextByte_22 ⟨by rw [hR]; exact Nat.le_of_ble_eq_true rfl, by rw [hR]; exact Nat.le_of_ble_eq_true rfl⟩) hP hD hS hA [1, 2] [0] rfl rfl (by decide) (by decide) (fun r_22 u9 H locs hw_22 hP hD hS => ?_)
    have hP : va_P (dC, dI) vwCl [(co, .inr (1, [.int xcache, .int xpending, .long xlow, .long xrange, .long xcode, .long xreadLow, .long xreadRange, .ref ri, .ref ro, .ref rw, .int xasked])), (ri, .inr (0, [.int rin, .ref ria])), (ria, .inl (cI, rik, .inl rif))] H := hP
    have hD : va_D A [(co, .inr (1, [.int xcache, .int xpending, .long xlow, .long xrange, .long xcode, .long xreadLow, .long xreadRange, .ref ri, .ref ro, .ref rw, .int xasked])), (ri, .inr (0, [.int rin, .ref ria])), (ria, .inl (cI, rik, .inl rif))] := hD
    refine lv_goto (tgt := 29) hx hb d_Coder_nextByte_25 (by decide) ?_
    refine lv_istore_n (lv' := [(1, .int r_22), (0, .ref co)]) hx hb d_Coder_nextByte_29 rfl hl (by decide) rfl (fun ls hl => ?_)
    refine lv_aload_n hx hb d_Coder_nextByte_30 rfl (lv_at hl 1 rfl) ?_
    refine lv_dup hx hb d_Coder_nextByte_31 rfl ?_
    refine va_get (D := (dC, dI)) (ci := 1) (v := .int xasked) (C := "RangeCoders$Carries") (T := T_Carries) (N := 11) hx hb hg in_Carries hown hK hP 0 rfl rfl 10 (by decide) (hg _ k130) (fun _ h9 => h9) rfl d_Coder_nextByte_32 ?_
    refine lv_iconst (v := 1) hx hb d_Coder_nextByte_35 (by decide) ?_
    refine lv_iadd hx hb d_Coder_nextByte_36 ?_
    refine lv_topi (fun v_3 ev_3 => ?_)
    refine va_put (D := (dC, dI)) (ci := 1) (v := .int v_3) (ty := .int) (C := "RangeCoders$Carries") (T := T_Carries) (N := 11) hx hb hg in_Carries t_Carries o_Carries n_Carries hown hK hP hD hS 0 rfl rfl 10 (by decide) (hg _ k130) (fun _ h9 => h9) rfl (by decide +kernel) rfl rfl (Nat.le_of_ble_eq_true rfl) d_Coder_nextByte_37 (fun H locs hP hD hS => ?_)
    have hP : va_P (dC, dI) vwCl [(co, .inr (1, [.int xcache, .int xpending, .long xlow, .long xrange, .long xcode, .long xreadLow, .long xreadRange, .ref ri, .ref ro, .ref rw, .int v_3])), (ri, .inr (0, [.int rin, .ref ria])), (ria, .inl (cI, rik, .inl rif))] H := hP
    have hD : va_D A [(co, .inr (1, [.int xcache, .int xpending, .long xlow, .long xrange, .long xcode, .long xreadLow, .long xreadRange, .ref ri, .ref ro, .ref rw, .int v_3])), (ri, .inr (0, [.int rin, .ref ria])), (ria, .inl (cI, rik, .inl rif))] := hD
    refine lv_iload_n hx hb d_Coder_nextByte_40 rfl (lv_at hl 0 rfl) ?_
    exact my_iret (v := r_22) hx hb hr (rfl) hlocks hQ hK hS (Nat.le_refl _) (Nat.le_refl _) (v_3) (trivial) (hP.sub [0, 1, 2] rfl) (hD.sub [0, 1, 2] (by decide) rfl) d_Coder_nextByte_41
set_option maxHeartbeats 2000000 in
set_option maxRecDepth 100000 in
theorem c_Carries_Coder_firstFourBytes (l : Launch) (dC : Nat → ClassId) (dI : Nat → Nat → Nat) (cI cM cO : ClassId) (sz : Nat) (co : Nat) (xcache : Int32) (xpending : Int32) (xlow : Int64) (xrange : Int64) (xcode : Int64) (xreadLow : Int64) (xreadRange : Int64) (ri : Nat) (ro : Nat) (rw : Nat) (xasked : Int32) (rin : Int32) (ria : Nat) (rik : Nat) (rif : Nat → Int32) (hri : rOk rin rik) : MetL l y_Coder_firstFourBytes (Cond.code y_Coder_firstFourBytes prog_4_method_16_code 4 (some .long) :: gw) ({ frames := 3, cells := 0, slots := 0, locals := 63 } : Room) (dC, dI) vwCl (kT cI cM cO) [.ref co] [(co, .inr (1, [.int xcache, .int xpending, .long xlow, .long xrange, .long xcode, .long xreadLow, .long xreadRange, .ref ri, .ref ro, .ref rw, .int xasked])), (ri, .inr (0, [.int rin, .ref ria])), (ria, .inl (cI, rik, .inl rif))] sz (fun (r : Int64) (u : Int32) => True) (fun (u : Int32) => [(co, .inr (1, [.int xcache, .int xpending, .long xlow, .long xrange, .long xcode, .long xreadLow, .long xreadRange, .ref ri, .ref ro, .ref rw, .int u])), (ri, .inr (0, [.int rin, .ref ria])), (ria, .inl (cI, rik, .inl rif))]) 0 0 := by
  refine my_ofL (cc := prog_4_method_16_code) (n := 4) (ret := (some .long)) (by decide) rfl (Nat.le_of_ble_eq_true rfl) ?_
  intro p e s m args below meth c R Q A ls H locs hx hb hr hts hown hlocks hml hnm hR hQ hA hl hP hK hN hD hS
  have hg : ∀ w ∈ gw, w.before args s = true := fun w h => hts w (List.mem_cons_of_mem _ h)
  have hown : s.vm.findClass "RangeCoders$Coder" = some m.cls := hown
  have hl : lv_has ls 4 [(0, .ref co)] := hl
  have hlt_hri := rOk_lt hri
  refine lv_aload_n hx hb d_Coder_firstFourBytes_0 rfl (lv_at hl 0 rfl) ?_
  refine lv_iconst (v := 0) hx hb d_Coder_firstFourBytes_1 (by decide) ?_
  refine va_put (D := (dC, dI)) (ci := 1) (v := .int 0) (ty := .int) (C := "RangeCoders$Carries") (T := T_Carries) (N := 11) hx hb hg in_Carries t_Carries o_Carries n_Carries hown hK hP hD hS 0 rfl rfl 10 (by decide) (hg _ k130) (fun _ h9 => h9) rfl (by decide +kernel) rfl rfl (Nat.le_of_ble_eq_true rfl) d_Coder_firstFourBytes_2 (fun H locs hP hD hS => ?_)
  have hP : va_P (dC, dI) vwCl [(co, .inr (1, [.int xcache, .int xpending, .long xlow, .long xrange, .long xcode, .long xreadLow, .long xreadRange, .ref ri, .ref ro, .ref rw, .int 0])), (ri, .inr (0, [.int rin, .ref ria])), (ria, .inl (cI, rik, .inl rif))] H := hP
  have hD : va_D A [(co, .inr (1, [.int xcache, .int xpending, .long xlow, .long xrange, .long xcode, .long xreadLow, .long xreadRange, .ref ri, .ref ro, .ref rw, .int 0])), (ri, .inr (0, [.int rin, .ref ria])), (ria, .inl (cI, rik, .inl rif))] := hD
  refine lv_lconst (v := 0) hx hb d_Coder_firstFourBytes_5 (by decide) ?_
  refine lv_lstore_n (lv' := [(1, .long 0), (0, .ref co)]) hx hb d_Coder_firstFourBytes_6 rfl hl (by decide) rfl (fun ls hl => ?_)
  refine lv_iconst (v := 0) hx hb d_Coder_firstFourBytes_7 (by decide) ?_
  refine lv_istore_n (lv' := [(3, .int 0), (1, .long 0), (0, .ref co)]) hx hb d_Coder_firstFourBytes_8 rfl hl (by decide) rfl (fun ls hl => ?_)
  have J_9 : ∀ (n9_9 : Nat) (b9_0 : Int32) (b9_1 : Int64) (b9_2 : Int32) (hn9_9 : ((4 : Int32).toInt - b9_0.toInt).toNat = n9_9) (hi_9 : 0 ≤ b9_0.toInt) (H : Heap) (locs : List Loc) (ls : Array Slot), va_P (dC, dI) vwCl [(co, .inr (1, [.int xcache, .int xpending, .long xlow, .long xrange, .long xcode, .long xreadLow, .long xreadRange, .ref ri, .ref ro, .ref rw, .int b9_2])), (ri, .inr (0, [.int rin, .ref ria])), (ria, .inl (cI, rik, .inl rif))] H → va_D A [(co, .inr (1, [.int xcache, .int xpending, .long xlow, .long xrange, .long xcode, .long xreadLow, .long xreadRange, .ref ri, .ref ro, .ref rw, .int b9_2])), (ri, .inr (0, [.int rin, .ref ria])), (ria, .inl (cI, rik, .inl rif))] → va_S A s.heap H locs → lv_has ls 4 [(3, .int b9_0), (1, .long b9_1), (0, .ref co)] → W p l e R s m args below meth c H locs 0 0 Q (F0 m 9 ls []) := by
    intro n9_9
    induction n9_9 using Nat.strongRecOn with
    | ind n9_9 ih9_9 =>
      intro b9_0 b9_1 b9_2 hn9_9 hi_9 H locs ls hP hD hS hl
      refine lv_iload_n hx hb d_Coder_firstFourBytes_9 rfl (lv_at hl 0 rfl) ?_
      refine lv_iconst (v := 4) hx hb d_Coder_firstFourBytes_10 (by decide) ?_
      refine lv_icmp_ge (tgt := 31) hx hb d_Coder_firstFourBytes_11 (by decide) (fun c_1 => ?_) (fun c_1 => ?_)
      · refine lv_lload_n hx hb d_Coder_firstFourBytes_31 rfl (lv_at hl 1 rfl) ?_
        exact my_lret (v := b9_1) hx hb hr hlocks hQ hK hS (Nat.le_refl _) (Nat.le_refl _) (b9_2) (trivial) (hP.sub [0, 1, 2] rfl) (hD.sub [0, 1, 2] (by decide) rfl) d_Coder_firstFourBytes_32
      · refine lv_lload_n hx hb d_Coder_firstFourBytes_14 rfl (lv_at hl 1 rfl) ?_
        refine lv_bipush (v := 8) hx hb d_Coder_firstFourBytes_15 (by decide) ?_
        refine lv_lshl hx hb d_Coder_firstFourBytes_17 rfl ?_
        refine lv_topl (fun v_2 ev_2 => ?_)
        refine lv_aload_n hx hb d_Coder_firstFourBytes_18 rfl (lv_at hl 2 rfl) ?_
        refine my_ci (wr := []) (va_runU (As := []) (rest := [.long v_2]) ⟨hx, hb, hml, hown, hts⟩ (c_Carries_Coder_nextByte l dC dI cI cM cO H.size co xcache xpending xlow xrange xcode xreadLow xreadRange ri ro rw b9_2 rin ria rik rif (by first | assumption | omega)) (va_cwU 0 hts (my_gU k741 k743 k745 k742 k3 k749) rfl rfl rfl rfl (by decide +kernel) ⟨by rw [hR]; exact Nat.le_of_ble_eq_true rfl, by rw [hR]; exact Nat.le_of_ble_eq_true rfl⟩) (my_preV hK hN (hP.sub [0, 1, 2] rfl) (hD.sub [0, 1, 2] (by decide) rfl) 0 rfl rfl) rfl rfl hl.1 rfl (lv_room (Nat.le_of_ble_eq_true rfl)) d_Coder_firstFourBytes_19 ⟨by rw [hR]; exact Nat.le_of_ble_eq_true rfl, by rw [hR]; exact Nat.le_of_ble_eq_true rfl⟩) hP hD hS hA [0, 1, 2] [] rfl rfl (by decide) (by decide) (fun r_19 u9 H locs hw_19 hP hD hS => ?_)
        obtain ⟨xaskedq_19, rfl⟩ : ∃ z, z = u9 := ⟨_, rfl⟩
        have hP : va_P (dC, dI) vwCl [(co, .inr (1, [.int xcache, .int xpending, .long xlow, .long xrange, .long xcode, .long xreadLow, .long xreadRange, .ref ri, .ref ro, .ref rw, .int xaskedq_19])), (ri, .inr (0, [.int rin, .ref ria])), (ria, .inl (cI, rik, .inl rif))] H := hP
        have hD : va_D A [(co, .inr (1, [.int xcache, .int xpending, .long xlow, .long xrange, .long xcode, .long xreadLow, .long xreadRange, .ref ri, .ref ro, .ref rw, .int xaskedq_19])), (ri, .inr (0, [.int rin, .ref ria])), (ria, .inl (cI, rik, .inl rif))] := hD
        refine lv_i2l hx hb d_Coder_firstFourBytes_22 rfl ?_
        refine lv_topl (fun v_3 ev_3 => ?_)
        refine lv_lor hx hb d_Coder_firstFourBytes_23 ?_
        refine lv_topl (fun v_4 ev_4 => ?_)
        refine lv_lstore_n (lv' := [(1, .long v_4), (3, .int b9_0), (0, .ref co)]) hx hb d_Coder_firstFourBytes_24 rfl hl (by decide) rfl (fun ls hl => ?_)
        obtain ⟨v_5, ev_5⟩ : ∃ y : Int32, y = b9_0 + (1) := ⟨_, rfl⟩
        refine lv_iinc (v := v_5) (lv' := [(3, .int v_5), (1, .long v_4), (0, .ref co)]) hx hb d_Coder_firstFourBytes_25 hl (k := 1) rfl (by rw [ev_5]; rfl) (by decide) rfl (fun ls hl => ?_)
        refine lv_goto (tgt := 9) hx hb d_Coder_firstFourBytes_28 (by decide) ?_
        exact ih9_9 _ (by first | omega | (have z9 := I_up c_1 ev_5; omega)) v_5 v_4 xaskedq_19 rfl (by have z9 := I_up c_1 ev_5; omega) H locs ls (hP.sub [0, 1, 2] rfl) (hD.sub [0, 1, 2] (by decide) rfl) hS (lv_sub hl [0, 1, 2] rfl)
  exact J_9 _ (0 : Int32) (0 : Int64) (0 : Int32) rfl (by first | decide | assumption | omega) H locs ls (hP.sub [0, 1, 2] rfl) (hD.sub [0, 1, 2] (by decide) rfl) hS (lv_sub hl [0, 1, 2] rfl)
set_option maxHeartbeats 2000000 in
set_option maxRecDepth 100000 in
theorem c_Carries_Coder_hasWidth (l : Launch) (dC : Nat → ClassId) (dI : Nat → Nat → Nat) (cI cM cO : ClassId) (sz : Nat) (co : Nat) (xcache : Int32) (xpending : Int32) (xlow : Int64) (xrange : Int64) (xcode : Int64) (xreadLow : Int64) (xreadRange : Int64) (ri : Nat) (ro : Nat) (rw : Nat) (xasked : Int32) (wd : Int32) : MetI l y_Coder_hasWidth (Cond.code y_Coder_hasWidth prog_4_method_13_code 2 (some .boolean) :: gw) ({ frames := 0, cells := 0, slots := 0, locals := 0 } : Room) (dC, dI) vwCl (kT cI cM cO) [.ref co, .int wd] [(co, .inr (1, [.int xcache, .int xpending, .long xlow, .long xrange, .long xcode, .long xreadLow, .long xreadRange, .ref ri, .ref ro, .ref rw, .int xasked]))] sz (fun (r : Int32) (u : Unit) => True) (fun (u : Unit) => [(co, .inr (1, [.int xcache, .int xpending, .long xlow, .long xrange, .long xcode, .long xreadLow, .long xreadRange, .ref ri, .ref ro, .ref rw, .int xasked]))]) 0 0 := by
  refine my_ofI (cc := prog_4_method_13_code) (n := 2) (ret := (some .boolean)) (by decide) rfl (Nat.le_of_ble_eq_true rfl) ?_
  intro p e s m args below meth c R Q A ls H locs hx hb hr hts hown hlocks hml hnm hR hQ hA hl hP hK hN hD hS
  have hg : ∀ w ∈ gw, w.before args s = true := fun w h => hts w (List.mem_cons_of_mem _ h)
  have hown : s.vm.findClass "RangeCoders$Coder" = some m.cls := hown
  have hl : lv_has ls 2 [(0, .ref co), (1, .int wd)] := hl
  refine lv_iload_n hx hb d_Coder_hasWidth_0 rfl (lv_at hl 1 rfl) ?_
  refine lv_iconst (v := 1) hx hb d_Coder_hasWidth_1 (by decide) ?_
  refine lv_icmp_lt (tgt := 15) hx hb d_Coder_hasWidth_2 (by decide) (fun c_1 => ?_) (fun c_1 => ?_)
  · refine lv_iconst (v := 0) hx hb d_Coder_hasWidth_15 (by decide) ?_
    exact my_iret (v := 0) hx hb hr (rfl) hlocks hQ hK hS (Nat.le_refl _) (Nat.le_refl _) () (trivial) (hP.sub [0] rfl) (hD.sub [0] (by decide) rfl) d_Coder_hasWidth_16
  · refine lv_iload_n hx hb d_Coder_hasWidth_5 rfl (lv_at hl 1 rfl) ?_
    refine lv_bipush (v := 12) hx hb d_Coder_hasWidth_6 (by decide) ?_
    refine lv_icmp_gt (tgt := 15) hx hb d_Coder_hasWidth_8 (by decide) (fun c_2 => ?_) (fun c_2 => ?_)
    · refine lv_iconst (v := 0) hx hb d_Coder_hasWidth_15 (by decide) ?_
      exact my_iret (v := 0) hx hb hr (rfl) hlocks hQ hK hS (Nat.le_refl _) (Nat.le_refl _) () (trivial) (hP.sub [0] rfl) (hD.sub [0] (by decide) rfl) d_Coder_hasWidth_16
    · refine lv_iconst (v := 1) hx hb d_Coder_hasWidth_11 (by decide) ?_
      refine lv_goto (tgt := 16) hx hb d_Coder_hasWidth_12 (by decide) ?_
      exact my_iret (v := 1) hx hb hr (rfl) hlocks hQ hK hS (Nat.le_refl _) (Nat.le_refl _) () (trivial) (hP.sub [0] rfl) (hD.sub [0] (by decide) rfl) d_Coder_hasWidth_16
set_option maxHeartbeats 2000000 in
set_option maxRecDepth 100000 in
theorem c_Carries_Coder_bytesAsked (l : Launch) (dC : Nat → ClassId) (dI : Nat → Nat → Nat) (cI cM cO : ClassId) (sz : Nat) (co : Nat) (xcache : Int32) (xpending : Int32) (xlow : Int64) (xrange : Int64) (xcode : Int64) (xreadLow : Int64) (xreadRange : Int64) (ri : Nat) (ro : Nat) (rw : Nat) (xasked : Int32) : MetI l y_Coder_bytesAsked (Cond.code y_Coder_bytesAsked prog_4_method_14_code 1 (some .int) :: gw) ({ frames := 0, cells := 0, slots := 0, locals := 0 } : Room) (dC, dI) vwCl (kT cI cM cO) [.ref co] [(co, .inr (1, [.int xcache, .int xpending, .long xlow, .long xrange, .long xcode, .long xreadLow, .long xreadRange, .ref ri, .ref ro, .ref rw, .int xasked]))] sz (fun (r : Int32) (u : Unit) => True) (fun (u : Unit) => [(co, .inr (1, [.int xcache, .int xpending, .long xlow, .long xrange, .long xcode, .long xreadLow, .long xreadRange, .ref ri, .ref ro, .ref rw, .int xasked]))]) 0 0 := by
  refine my_ofI (cc := prog_4_method_14_code) (n := 1) (ret := (some .int)) (by decide) rfl (Nat.le_of_ble_eq_true rfl) ?_
  intro p e s m args below meth c R Q A ls H locs hx hb hr hts hown hlocks hml hnm hR hQ hA hl hP hK hN hD hS
  have hg : ∀ w ∈ gw, w.before args s = true := fun w h => hts w (List.mem_cons_of_mem _ h)
  have hown : s.vm.findClass "RangeCoders$Coder" = some m.cls := hown
  have hl : lv_has ls 1 [(0, .ref co)] := hl
  refine lv_aload_n hx hb d_Coder_bytesAsked_0 rfl (lv_at hl 0 rfl) ?_
  refine va_get (D := (dC, dI)) (ci := 1) (v := .int xasked) (C := "RangeCoders$Carries") (T := T_Carries) (N := 11) hx hb hg in_Carries hown hK hP 0 rfl rfl 10 (by decide) (hg _ k130) (fun _ h9 => h9) rfl d_Coder_bytesAsked_1 ?_
  exact my_iret (v := xasked) hx hb hr (rfl) hlocks hQ hK hS (Nat.le_refl _) (Nat.le_refl _) () (trivial) (hP.sub [0] rfl) (hD.sub [0] (by decide) rfl) d_Coder_bytesAsked_4
set_option maxHeartbeats 2000000 in
set_option maxRecDepth 100000 in
theorem c_Carries_Coder_canWrite (l : Launch) (dC : Nat → ClassId) (dI : Nat → Nat → Nat) (cI cM cO : ClassId) (sz : Nat) (co : Nat) (xcache : Int32) (xpending : Int32) (xlow : Int64) (xrange : Int64) (xcode : Int64) (xreadLow : Int64) (xreadRange : Int64) (ri : Nat) (ro : Nat) (rw : Nat) (xasked : Int32) (oo : Nat) (osg : Int32) (osm : Int32) (ofc : Int32) (oca : Nat) (opa : Nat) (ol : Nat) (ocf : Nat → Int32) (opl : Nat) (opf : Nat → Int32) (ii : Int32) (hol : ol ≤ 64) (hopl : opl ≤ 512) : MetI l y_Coder_canWrite (Cond.code y_Coder_canWrite prog_4_method_12_code 3 (some .boolean) :: gw) ({ frames := 2, cells := 0, slots := 0, locals := 42 } : Room) (dC, dI) vwCl (kT cI cM cO) [.ref co, .ref oo, .int ii] [(co, .inr (1, [.int xcache, .int xpending, .long xlow, .long xrange, .long xcode, .long xreadLow, .long xreadRange, .ref ri, .ref ro, .ref rw, .int xasked])), (oo, .inr (7, [.int osg, .int osm, .int ofc, .ref oca, .ref opa])), (oca, .inl (cI, ol, .inl ocf)), (opa, .inl (cI, opl, .inl opf))] sz (fun (r : Int32) (u : Unit) => True) (fun (u : Unit) => [(co, .inr (1, [.int xcache, .int xpending, .long xlow, .long xrange, .long xcode, .long xreadLow, .long xreadRange, .ref ri, .ref ro, .ref rw, .int xasked])), (oo, .inr (7, [.int osg, .int osm, .int ofc, .ref oca, .ref opa])), (oca, .inl (cI, ol, .inl ocf)), (opa, .inl (cI, opl, .inl opf))]) 0 0 := by
  refine my_ofI (cc := prog_4_method_12_code) (n := 3) (ret := (some .boolean)) (by decide) rfl (Nat.le_of_ble_eq_true rfl) ?_
  intro p e s m args below meth c R Q A ls H locs hx hb hr hts hown hlocks hml hnm hR hQ hA hl hP hK hN hD hS
  have hg : ∀ w ∈ gw, w.before args s = true := fun w h => hts w (List.mem_cons_of_mem _ h)
  have hown : s.vm.findClass "RangeCoders$Coder" = some m.cls := hown
  have hl : lv_has ls 3 [(0, .ref co), (1, .ref oo), (2, .int ii)] := hl
  refine lv_aload_n hx hb d_Coder_canWrite_0 rfl (lv_at hl 1 rfl) ?_
  refine lv_iload_n hx hb d_Coder_canWrite_1 rfl (lv_at hl 2 rfl) ?_
  refine my_ci (wr := [(co, .inr (1, [.int xcache, .int xpending, .long xlow, .long xrange, .long xcode, .long xreadLow, .long xreadRange, .ref ri, .ref ro, .ref rw, .int xasked]))]) (va_runV (As := [.int ii]) (rest := []) ⟨hx, hb, hml, hown, hts⟩ (c_Odds_at l dC dI cI cM cO H.size oo osg osm ofc oca opa ol ocf opl opf ii (by first | assumption | omega) (by first | assumption | omega)) (cwV 1 hts (my_gV k435 k436 k437 k14 k438) rfl rfl rfl (by decide +kernel) ⟨by rw [hR]; exact Nat.le_of_ble_eq_true rfl, by rw [hR]; exact Nat.le_of_ble_eq_true rfl⟩) (my_preV hK hN (hP.sub [1, 2, 3] rfl) (hD.sub [1, 2, 3] (by decide) rfl) 0 rfl rfl) rfl rfl hl.1 rfl (lv_room (Nat.le_of_ble_eq_true rfl)) d_Coder_canWrite_2 ⟨by rw [hR]; exact Nat.le_of_ble_eq_true rfl, by rw [hR]; exact Nat.le_of_ble_eq_true rfl⟩) hP hD hS hA [1, 2, 3] [0] rfl rfl (by decide) (by decide) (fun r_2 u9 H locs hw_2 hP hD hS => ?_)
  have hP : va_P (dC, dI) vwCl [(co, .inr (1, [.int xcache, .int xpending, .long xlow, .long xrange, .long xcode, .long xreadLow, .long xreadRange, .ref ri, .ref ro, .ref rw, .int xasked])), (oo, .inr (7, [.int osg, .int osm, .int ofc, .ref oca, .ref opa])), (oca, .inl (cI, ol, .inl ocf)), (opa, .inl (cI, opl, .inl opf))] H := hP
  have hD : va_D A [(co, .inr (1, [.int xcache, .int xpending, .long xlow, .long xrange, .long xcode, .long xreadLow, .long xreadRange, .ref ri, .ref ro, .ref rw, .int xasked])), (oo, .inr (7, [.int osg, .int osm, .int ofc, .ref oca, .ref opa])), (oca, .inl (cI, ol, .inl ocf)), (opa, .inl (cI, opl, .inl opf))] := hD
  refine lv_if_le (tgt := 12) hx hb d_Coder_canWrite_5 (by decide) (fun c_1 => ?_) (fun c_1 => ?_)
  · refine lv_iconst (v := 0) hx hb d_Coder_canWrite_12 (by decide) ?_
    exact my_iret (v := 0) hx hb hr (rfl) hlocks hQ hK hS (Nat.le_refl _) (Nat.le_refl _) () (trivial) (hP.sub [0, 1, 2, 3] rfl) (hD.sub [0, 1, 2, 3] (by decide) rfl) d_Coder_canWrite_13
  · refine lv_iconst (v := 1) hx hb d_Coder_canWrite_8 (by decide) ?_
    refine lv_goto (tgt := 13) hx hb d_Coder_canWrite_9 (by decide) ?_
    exact my_iret (v := 1) hx hb hr (rfl) hlocks hQ hK hS (Nat.le_refl _) (Nat.le_refl _) () (trivial) (hP.sub [0, 1, 2, 3] rfl) (hD.sub [0, 1, 2, 3] (by decide) rfl) d_Coder_canWrite_13
set_option maxHeartbeats 2000000 in
set_option maxRecDepth 100000 in
theorem c_Carries_Carries_writeWaiting (l : Launch) (dC : Nat → ClassId) (dI : Nat → Nat → Nat) (cI cM cO : ClassId) (sz : Nat) (sl : Nat) (co : Nat) (xcache : Int32) (xpending : Int32) (xlow : Int64) (xrange : Int64) (xcode : Int64) (xreadLow : Int64) (xreadRange : Int64) (ri : Nat) (ro : Nat) (rw : Nat) (xasked : Int32) (rwn : Int32) (rwa : Nat) (rwk : Nat) (rwf : Nat → Int32) (cy : Int32) (hrw : rOk rwn rwk) : MetVg l y_Carries_writeWaiting (Cond.code y_Carries_writeWaiting prog_3_method_9_code 3 none :: gw) ({ frames := 3, cells := rPh rwk, slots := rPh rwk, locals := 83 } : Room) (dC, dI) vwCl (kT cI cM cO) [.ref co, .int cy] [(co, .inr (1, [.int xcache, .int xpending, .long xlow, .long xrange, .long xcode, .long xreadLow, .long xreadRange, .ref ri, .ref ro, .ref rw, .int xasked])), (rw, .inr (0, [.int rwn, .ref rwa])), (rwa, .inl (cI, rwk, .inl rwf))] sz sl (fun (u : Int32 × Int32 × Nat × Nat × (Nat → Int32)) => rOk u.2.1 u.2.2.2.1) (fun (u : Int32 × Int32 × Nat × Nat × (Nat → Int32)) => [(co, .inr (1, [.int xcache, .int u.1, .long xlow, .long xrange, .long xcode, .long xreadLow, .long xreadRange, .ref ri, .ref ro, .ref rw, .int xasked])), (rw, .inr (0, [.int u.2.1, .ref u.2.2.1])), (u.2.2.1, .inl (cI, u.2.2.2.1, .inl u.2.2.2.2))]) (rPh rwk) (fun (u : Int32 × Int32 × Nat × Nat × (Nat → Int32)) => rPh u.2.2.2.1) := by
  refine my_ofVg (cc := prog_3_method_9_code) (n := 3) (ret := none) (by decide) rfl (Nat.le_of_ble_eq_true rfl) ?_
  intro p e s m args below meth c R Q A ls H locs hx hb hr hts hown hlocks hml hnm hR hQ hA hl hP hK hN hD hS
  have hg : ∀ w ∈ gw, w.before args s = true := fun w h => hts w (List.mem_cons_of_mem _ h)
  have hown : s.vm.findClass "RangeCoders$Carries" = some m.cls := hown
  have hl : lv_has ls 3 [(0, .ref co), (1, .int cy)] := hl
  have hlt_hrw := rOk_lt hrw
  refine lv_aload_n hx hb d_Carries_writeWaiting_0 rfl (lv_at hl 0 rfl) ?_
  refine va_get (D := (dC, dI)) (ci := 1) (v := .int xcache) (C := "RangeCoders$Carries") (T := T_Carries) (N := 11) hx hb hg in_Carries hown hK hP 0 rfl rfl 0 (by decide) (hg _ k68) (fun _ h9 => h9) rfl d_Carries_writeWaiting_1 ?_
  refine lv_iconst (v := (-1)) hx hb d_Carries_writeWaiting_4 (by decide) ?_
  refine lv_icmp_eq (tgt := 25) hx hb d_Carries_writeWaiting_5 (by decide) (fun c_1 => ?_) (fun c_1 => ?_)
  · refine lv_iconst (v := 0) hx hb d_Carries_writeWaiting_25 (by decide) ?_
    refine lv_istore_n (lv' := [(2, .int 0), (0, .ref co), (1, .int cy)]) hx hb d_Carries_writeWaiting_26 rfl hl (by decide) rfl (fun ls hl => ?_)
    have J_27 : ∀ (n9_27 : Nat) (b27_0 : Int32) (b27_1 : Nat) (b27_2 : Int32) (b27_3 : Nat) (b27_4 : Nat → Int32) (b27_5 : Nat) (hn9_27 : (xpending.toInt - b27_0.toInt).toNat = n9_27) (hi_27 : 0 ≤ b27_0.toInt) (hr1_27 : rOk b27_2 b27_3) (hd_27 : b27_5 + (rPh b27_3) ≤ rPh rwk) (H : Heap) (locs : List Loc) (ls : Array Slot), va_P (dC, dI) vwCl [(co, .inr (1, [.int xcache, .int xpending, .long xlow, .long xrange, .long xcode, .long xreadLow, .long xreadRange, .ref ri, .ref ro, .ref rw, .int xasked])), (rw, .inr (0, [.int b27_2, .ref b27_1])), (b27_1, .inl (cI, b27_3, .inl b27_4))] H → va_D A [(co, .inr (1, [.int xcache, .int xpending, .long xlow, .long xrange, .long xcode, .long xreadLow, .long xreadRange, .ref ri, .ref ro, .ref rw, .int xasked])), (rw, .inr (0, [.int b27_2, .ref b27_1])), (b27_1, .inl (cI, b27_3, .inl b27_4))] → va_S A s.heap H locs → lv_has ls 3 [(2, .int b27_0), (0, .ref co), (1, .int cy)] → W p l e R s m args below meth c H locs b27_5 b27_5 Q (F0 m 27 ls []) := by
      intro n9_27
      induction n9_27 using Nat.strongRecOn with
      | ind n9_27 ih9_27 =>
        intro b27_0 b27_1 b27_2 b27_3 b27_4 b27_5 hn9_27 hi_27 hr1_27 hd_27 H locs ls hP hD hS hl
        refine lv_iload_n hx hb d_Carries_writeWaiting_27 rfl (lv_at hl 0 rfl) ?_
        refine lv_aload_n hx hb d_Carries_writeWaiting_28 rfl (lv_at hl 1 rfl) ?_
        refine va_get (D := (dC, dI)) (ci := 1) (v := .int xpending) (C := "RangeCoders$Carries") (T := T_Carries) (N := 11) hx hb hg in_Carries hown hK hP 0 rfl rfl 1 (by decide) (hg _ k69) (fun _ h9 => h9) rfl d_Carries_writeWaiting_29 ?_
        refine lv_icmp_ge (tgt := 57) hx hb d_Carries_writeWaiting_32 (by decide) (fun c_2 => ?_) (fun c_2 => ?_)
        · refine lv_aload_n hx hb d_Carries_writeWaiting_57 rfl (lv_at hl 1 rfl) ?_
          refine lv_iconst (v := 0) hx hb d_Carries_writeWaiting_58 (by decide) ?_
          refine va_put (D := (dC, dI)) (ci := 1) (v := .int 0) (ty := .int) (C := "RangeCoders$Carries") (T := T_Carries) (N := 11) hx hb hg in_Carries t_Carries o_Carries n_Carries hown hK hP hD hS 0 rfl rfl 1 (by decide) (hg _ k69) (fun _ h9 => h9) rfl (by decide +kernel) rfl rfl (Nat.le_of_ble_eq_true rfl) d_Carries_writeWaiting_59 (fun H locs hP hD hS => ?_)
          have hP : va_P (dC, dI) vwCl [(co, .inr (1, [.int xcache, .int 0, .long xlow, .long xrange, .long xcode, .long xreadLow, .long xreadRange, .ref ri, .ref ro, .ref rw, .int xasked])), (rw, .inr (0, [.int b27_2, .ref b27_1])), (b27_1, .inl (cI, b27_3, .inl b27_4))] H := hP
          have hD : va_D A [(co, .inr (1, [.int xcache, .int 0, .long xlow, .long xrange, .long xcode, .long xreadLow, .long xreadRange, .ref ri, .ref ro, .ref rw, .int xasked])), (rw, .inr (0, [.int b27_2, .ref b27_1])), (b27_1, .inl (cI, b27_3, .inl b27_4))] := hD
          exact my_vretg hx hb hr hlocks hQ hK hS ((0 : Int32), b27_2, b27_1, b27_3, b27_4) (show b27_5 + (rPh b27_3) ≤ (rPh rwk) by omega) (show b27_5 + (rPh b27_3) ≤ (rPh rwk) by omega) (by first | assumption | (subst_vars; assumption)) (hP.sub [0, 1, 2] rfl) (hD.sub [0, 1, 2] (by decide) rfl) d_Carries_writeWaiting_62
        · refine lv_aload_n hx hb d_Carries_writeWaiting_35 rfl (lv_at hl 1 rfl) ?_
          refine va_get (D := (dC, dI)) (ci := 1) (v := .ref rw) (C := "RangeCoders$Carries") (T := T_Carries) (N := 11) hx hb hg in_Carries hown hK hP 0 rfl rfl 9 (by decide) (hg _ k124) (fun x9 h9 => u_same (hg _ k125) x9 h9) rfl d_Carries_writeWaiting_36 ?_
          refine lv_sipush (v := 255) hx hb d_Carries_writeWaiting_39 (by decide) ?_
          refine lv_iload_n hx hb d_Carries_writeWaiting_42 rfl (lv_at hl 2 rfl) ?_
          refine lv_iadd hx hb d_Carries_writeWaiting_43 ?_
          refine lv_topi (fun v_3 ev_3 => ?_)
          refine lv_sipush (v := 255) hx hb d_Carries_writeWaiting_44 (by decide) ?_
          refine lv_iand hx hb d_Carries_writeWaiting_47 ?_
          refine lv_topi (fun v_4 ev_4 => ?_)
          refine my_cvg (wr := [(co, .inr (1, [.int xcache, .int xpending, .long xlow, .long xrange, .long xcode, .long xreadLow, .long xreadRange, .ref ri, .ref ro, .ref rw, .int xasked]))]) (va_runV (As := [.int v_4]) (rest := []) ⟨hx, hb, hml, hown, hts⟩ (c_Row_add l dC dI cI cM cO H.size (hSl H) rw b27_2 b27_1 b27_3 b27_4 v_4 (by first | assumption | omega)) (cwV 1 hts (my_gV k472 k473 k474 k6 k475) rfl rfl rfl (by decide +kernel) ⟨by rw [hR]; exact Nat.le_of_ble_eq_true rfl, by rw [hR]; exact Nat.le_of_ble_eq_true rfl⟩) (my_preVg hK hN (hP.sub [1, 2] rfl) (hD.sub [1, 2] (by decide) rfl) 0 rfl rfl) rfl rfl hl.1 rfl (lv_room (Nat.le_of_ble_eq_true rfl)) d_Carries_writeWaiting_48 ⟨by rw [hR]; exact (show b27_5 + (rPh b27_3) ≤ (rPh rwk) by omega), by rw [hR]; exact (show b27_5 + (rPh b27_3) ≤ (rPh rwk) by omega)⟩) hP hD hS hA [1, 2] [0] rfl rfl (by decide) (by decide) (fun u9 d_48 H locs hd_48 hw_48 hP hD hS => ?_)
          obtain ⟨rrnq_48, rraq_48, rrkq_48, rrfq_48⟩ := u9
          have hrr_48 : rOk rrnq_48 rrkq_48 := hw_48
          have hd_48 : d_48 + (rPh rrkq_48) ≤ (rPh b27_3) := hd_48
          have hP : va_P (dC, dI) vwCl [(co, .inr (1, [.int xcache, .int xpending, .long xlow, .long xrange, .long xcode, .long xreadLow, .long xreadRange, .ref ri, .ref ro, .ref rw, .int xasked])), (rw, .inr (0, [.int rrnq_48, .ref rraq_48])), (rraq_48, .inl (cI, rrkq_48, .inl rrfq_48))] H := hP
          have hD : va_D A [(co, .inr (1, [.int xcache, .int xpending, .long xlow, .long xrange, .long xcode, .long xreadLow, .long xreadRange, .ref ri, .ref ro, .ref rw, .int xasked])), (rw, .inr (0, [.int rrnq_48, .ref rraq_48])), (rraq_48, .inl (cI, rrkq_48, .inl rrfq_48))] := hD
          obtain ⟨v_5, ev_5⟩ : ∃ y : Int32, y = b27_0 + (1) := ⟨_, rfl⟩
          refine lv_iinc (v := v_5) (lv' := [(2, .int v_5), (0, .ref co), (1, .int cy)]) hx hb d_Carries_writeWaiting_51 hl (k := 0) rfl (by rw [ev_5]; rfl) (by decide) rfl (fun ls hl => ?_)
          refine lv_goto (tgt := 27) hx hb d_Carries_writeWaiting_54 (by decide) ?_
          exact ih9_27 _ (by first | omega | (have z9 := I_up c_2 ev_5; omega)) v_5 rraq_48 rrnq_48 rrkq_48 rrfq_48 (b27_5 + d_48) rfl (by have z9 := I_up c_2 ev_5; omega) (by assumption) (by omega) H locs ls (hP.sub [0, 1, 2] rfl) (hD.sub [0, 1, 2] (by decide) rfl) hS (lv_sub hl [0, 1, 2] rfl)
    exact J_27 _ (0 : Int32) rwa rwn rwk rwf (0 : Nat) rfl (by first | decide | assumption | omega) (by assumption) (by omega) H locs ls (hP.sub [0, 1, 2] rfl) (hD.sub [0, 1, 2] (by decide) rfl) hS (lv_sub hl [0, 1, 2] rfl)
  · refine lv_aload_n hx hb d_Carries_writeWaiting_8 rfl (lv_at hl 0 rfl) ?_
    refine va_get (D := (dC, dI)) (ci := 1) (v := .ref rw) (C := "RangeCoders$Carries") (T := T_Carries) (N := 11) hx hb hg in_Carries hown hK hP 0 rfl rfl 9 (by decide) (hg _ k124) (fun x9 h9 => u_same (hg _ k125) x9 h9) rfl d_Carries_writeWaiting_9 ?_
    refine lv_aload_n hx hb d_Carries_writeWaiting_12 rfl (lv_at hl 0 rfl) ?_
    refine va_get (D := (dC, dI)) (ci := 1) (v := .int xcache) (C := "RangeCoders$Carries") (T := T_Carries) (N := 11) hx hb hg in_Carries hown hK hP 0 rfl rfl 0 (by decide) (hg _ k68) (fun _ h9 => h9) rfl d_Carries_writeWaiting_13 ?_
    refine lv_iload_n hx hb d_Carries_writeWaiting_16 rfl (lv_at hl 1 rfl) ?_
    refine lv_iadd hx hb d_Carries_writeWaiting_17 ?_
    refine lv_topi (fun v_6 ev_6 => ?_)
    refine lv_sipush (v := 255) hx hb d_Carries_writeWaiting_18 (by decide) ?_
    refine lv_iand hx hb d_Carries_writeWaiting_21 ?_
    refine lv_topi (fun v_7 ev_7 => ?_)
    refine my_cvg (wr := [(co, .inr (1, [.int xcache, .int xpending, .long xlow, .long xrange, .long xcode, .long xreadLow, .long xreadRange, .ref ri, .ref ro, .ref rw, .int xasked]))]) (va_runV (As := [.int v_7]) (rest := []) ⟨hx, hb, hml, hown, hts⟩ (c_Row_add l dC dI cI cM cO H.size (hSl H) rw rwn rwa rwk rwf v_7 (by first | assumption | omega)) (cwV 1 hts (my_gV k472 k473 k474 k6 k475) rfl rfl rfl (by decide +kernel) ⟨by rw [hR]; exact Nat.le_of_ble_eq_true rfl, by rw [hR]; exact Nat.le_of_ble_eq_true rfl⟩) (my_preVg hK hN (hP.sub [1, 2] rfl) (hD.sub [1, 2] (by decide) rfl) 0 rfl rfl) rfl rfl hl.1 rfl (lv_room (Nat.le_of_ble_eq_true rfl)) d_Carries_writeWaiting_22 ⟨by rw [hR]; exact (show 0 + (rPh rwk) ≤ (rPh rwk) by omega), by rw [hR]; exact (show 0 + (rPh rwk) ≤ (rPh rwk) by omega)⟩) hP hD hS hA [1, 2] [0] rfl rfl (by decide) (by decide) (fun u9 d_22 H locs hd_22 hw_22 hP hD hS => ?_)
    obtain ⟨rrnq_22, rraq_22, rrkq_22, rrfq_22⟩ := u9
    have hrr_22 : rOk rrnq_22 rrkq_22 := hw_22
    have hd_22 : d_22 + (rPh rrkq_22) ≤ (rPh rwk) := hd_22
    have hP : va_P (dC, dI) vwCl [(co, .inr (1, [.int xcache, .int xpending, .long xlow, .long xrange, .long xcode, .long xreadLow, .long xreadRange, .ref ri, .ref ro, .ref rw, .int xasked])), (rw, .inr (0, [.int rrnq_22, .ref rraq_22])), (rraq_22, .inl (cI, rrkq_22, .inl rrfq_22))] H := hP
    have hD : va_D A [(co, .inr (1, [.int xcache, .int xpending, .long xlow, .long xrange, .long xcode, .long xreadLow, .long xreadRange, .ref ri, .ref ro, .ref rw, .int xasked])), (rw, .inr (0, [.int rrnq_22, .ref rraq_22])), (rraq_22, .inl (cI, rrkq_22, .inl rrfq_22))] := hD
    refine lv_iconst (v := 0) hx hb d_Carries_writeWaiting_25 (by decide) ?_
    refine lv_istore_n (lv' := [(2, .int 0), (0, .ref co), (1, .int cy)]) hx hb d_Carries_writeWaiting_26 rfl hl (by decide) rfl (fun ls hl => ?_)
    have J_27 : ∀ (n9_27 : Nat) (b27_0 : Int32) (b27_1 : Nat) (b27_2 : Int32) (b27_3 : Nat) (b27_4 : Nat → Int32) (b27_5 : Nat) (hn9_27 : (xpending.toInt - b27_0.toInt).toNat = n9_27) (hi_27 : 0 ≤ b27_0.toInt) (hr1_27 : rOk b27_2 b27_3) (hd_27 : b27_5 + (rPh b27_3) ≤ rPh rwk) (H : Heap) (locs : List Loc) (ls : Array Slot), va_P (dC, dI) vwCl [(co, .inr (1, [.int xcache, .int xpending, .long xlow, .long xrange, .long xcode, .long xreadLow, .long xreadRange, .ref ri, .ref ro, .ref rw, .int xasked])), (rw, .inr (0, [.int b27_2, .ref b27_1])), (b27_1, .inl (cI, b27_3, .inl b27_4))] H → va_D A [(co, .inr (1, [.int xcache, .int xpending, .long xlow, .long xrange, .long xcode, .long xreadLow, .long xreadRange, .ref ri, .ref ro, .ref rw, .int xasked])), (rw, .inr (0, [.int b27_2, .ref b27_1])), (b27_1, .inl (cI, b27_3, .inl b27_4))] → va_S A s.heap H locs → lv_has ls 3 [(2, .int b27_0), (0, .ref co), (1, .int cy)] → W p l e R s m args below meth c H locs b27_5 b27_5 Q (F0 m 27 ls []) := by
      intro n9_27
      induction n9_27 using Nat.strongRecOn with
      | ind n9_27 ih9_27 =>
        intro b27_0 b27_1 b27_2 b27_3 b27_4 b27_5 hn9_27 hi_27 hr1_27 hd_27 H locs ls hP hD hS hl
        refine lv_iload_n hx hb d_Carries_writeWaiting_27 rfl (lv_at hl 0 rfl) ?_
        refine lv_aload_n hx hb d_Carries_writeWaiting_28 rfl (lv_at hl 1 rfl) ?_
        refine va_get (D := (dC, dI)) (ci := 1) (v := .int xpending) (C := "RangeCoders$Carries") (T := T_Carries) (N := 11) hx hb hg in_Carries hown hK hP 0 rfl rfl 1 (by decide) (hg _ k69) (fun _ h9 => h9) rfl d_Carries_writeWaiting_29 ?_
        refine lv_icmp_ge (tgt := 57) hx hb d_Carries_writeWaiting_32 (by decide) (fun c_8 => ?_) (fun c_8 => ?_)
        · refine lv_aload_n hx hb d_Carries_writeWaiting_57 rfl (lv_at hl 1 rfl) ?_
          refine lv_iconst (v := 0) hx hb d_Carries_writeWaiting_58 (by decide) ?_
          refine va_put (D := (dC, dI)) (ci := 1) (v := .int 0) (ty := .int) (C := "RangeCoders$Carries") (T := T_Carries) (N := 11) hx hb hg in_Carries t_Carries o_Carries n_Carries hown hK hP hD hS 0 rfl rfl 1 (by decide) (hg _ k69) (fun _ h9 => h9) rfl (by decide +kernel) rfl rfl (Nat.le_of_ble_eq_true rfl) d_Carries_writeWaiting_59 (fun H locs hP hD hS => ?_)
          have hP : va_P (dC, dI) vwCl [(co, .inr (1, [.int xcache, .int 0, .long xlow, .long xrange, .long xcode, .long xreadLow, .long xreadRange, .ref ri, .ref ro, .ref rw, .int xasked])), (rw, .inr (0, [.int b27_2, .ref b27_1])), (b27_1, .inl (cI, b27_3, .inl b27_4))] H := hP
          have hD : va_D A [(co, .inr (1, [.int xcache, .int 0, .long xlow, .long xrange, .long xcode, .long xreadLow, .long xreadRange, .ref ri, .ref ro, .ref rw, .int xasked])), (rw, .inr (0, [.int b27_2, .ref b27_1])), (b27_1, .inl (cI, b27_3, .inl b27_4))] := hD
          exact my_vretg hx hb hr hlocks hQ hK hS ((0 : Int32), b27_2, b27_1, b27_3, b27_4) (show b27_5 + (rPh b27_3) ≤ (rPh rwk) by omega) (show b27_5 + (rPh b27_3) ≤ (rPh rwk) by omega) (by first | assumption | (subst_vars; assumption)) (hP.sub [0, 1, 2] rfl) (hD.sub [0, 1, 2] (by decide) rfl) d_Carries_writeWaiting_62
        · refine lv_aload_n hx hb d_Carries_writeWaiting_35 rfl (lv_at hl 1 rfl) ?_
          refine va_get (D := (dC, dI)) (ci := 1) (v := .ref rw) (C := "RangeCoders$Carries") (T := T_Carries) (N := 11) hx hb hg in_Carries hown hK hP 0 rfl rfl 9 (by decide) (hg _ k124) (fun x9 h9 => u_same (hg _ k125) x9 h9) rfl d_Carries_writeWaiting_36 ?_
          refine lv_sipush (v := 255) hx hb d_Carries_writeWaiting_39 (by decide) ?_
          refine lv_iload_n hx hb d_Carries_writeWaiting_42 rfl (lv_at hl 2 rfl) ?_
          refine lv_iadd hx hb d_Carries_writeWaiting_43 ?_
          refine lv_topi (fun v_9 ev_9 => ?_)
          refine lv_sipush (v := 255) hx hb d_Carries_writeWaiting_44 (by decide) ?_
          refine lv_iand hx hb d_Carries_writeWaiting_47 ?_
          refine lv_topi (fun v_10 ev_10 => ?_)
          refine my_cvg (wr := [(co, .inr (1, [.int xcache, .int xpending, .long xlow, .long xrange, .long xcode, .long xreadLow, .long xreadRange, .ref ri, .ref ro, .ref rw, .int xasked]))]) (va_runV (As := [.int v_10]) (rest := []) ⟨hx, hb, hml, hown, hts⟩ (c_Row_add l dC dI cI cM cO H.size (hSl H) rw b27_2 b27_1 b27_3 b27_4 v_10 (by first | assumption | omega)) (cwV 1 hts (my_gV k472 k473 k474 k6 k475) rfl rfl rfl (by decide +kernel) ⟨by rw [hR]; exact Nat.le_of_ble_eq_true rfl, by rw [hR]; exact Nat.le_of_ble_eq_true rfl⟩) (my_preVg hK hN (hP.sub [1, 2] rfl) (hD.sub [1, 2] (by decide) rfl) 0 rfl rfl) rfl rfl hl.1 rfl (lv_room (Nat.le_of_ble_eq_true rfl)) d_Carries_writeWaiting_48 ⟨by rw [hR]; exact (show b27_5 + (rPh b27_3) ≤ (rPh rwk) by omega), by rw [hR]; exact (show b27_5 + (rPh b27_3) ≤ (rPh rwk) by omega)⟩) hP hD hS hA [1, 2] [0] rfl rfl (by decide) (by decide) (fun u9 d_48 H locs hd_48 hw_48 hP hD hS => ?_)
          obtain ⟨rrnq_48, rraq_48, rrkq_48, rrfq_48⟩ := u9
          have hrr_48 : rOk rrnq_48 rrkq_48 := hw_48
          have hd_48 : d_48 + (rPh rrkq_48) ≤ (rPh b27_3) := hd_48
          have hP : va_P (dC, dI) vwCl [(co, .inr (1, [.int xcache, .int xpending, .long xlow, .long xrange, .long xcode, .long xreadLow, .long xreadRange, .ref ri, .ref ro, .ref rw, .int xasked])), (rw, .inr (0, [.int rrnq_48, .ref rraq_48])), (rraq_48, .inl (cI, rrkq_48, .inl rrfq_48))] H := hP
          have hD : va_D A [(co, .inr (1, [.int xcache, .int xpending, .long xlow, .long xrange, .long xcode, .long xreadLow, .long xreadRange, .ref ri, .ref ro, .ref rw, .int xasked])), (rw, .inr (0, [.int rrnq_48, .ref rraq_48])), (rraq_48, .inl (cI, rrkq_48, .inl rrfq_48))] := hD
          obtain ⟨v_11, ev_11⟩ : ∃ y : Int32, y = b27_0 + (1) := ⟨_, rfl⟩
          refine lv_iinc (v := v_11) (lv' := [(2, .int v_11), (0, .ref co), (1, .int cy)]) hx hb d_Carries_writeWaiting_51 hl (k := 0) rfl (by rw [ev_11]; rfl) (by decide) rfl (fun ls hl => ?_)
          refine lv_goto (tgt := 27) hx hb d_Carries_writeWaiting_54 (by decide) ?_
          exact ih9_27 _ (by first | omega | (have z9 := I_up c_8 ev_11; omega)) v_11 rraq_48 rrnq_48 rrkq_48 rrfq_48 (b27_5 + d_48) rfl (by have z9 := I_up c_8 ev_11; omega) (by assumption) (by omega) H locs ls (hP.sub [0, 1, 2] rfl) (hD.sub [0, 1, 2] (by decide) rfl) hS (lv_sub hl [0, 1, 2] rfl)
    exact J_27 _ (0 : Int32) rraq_22 rrnq_22 rrkq_22 rrfq_22 (0 + d_22) rfl (by first | decide | assumption | omega) (by assumption) (by omega) H locs ls (hP.sub [0, 1, 2] rfl) (hD.sub [0, 1, 2] (by decide) rfl) hS (lv_sub hl [0, 1, 2] rfl)
set_option maxHeartbeats 2000000 in
set_option maxRecDepth 100000 in
theorem c_Carries_Carries_shiftLow (l : Launch) (dC : Nat → ClassId) (dI : Nat → Nat → Nat) (cI cM cO : ClassId) (sz : Nat) (sl : Nat) (co : Nat) (xcache : Int32) (xpending : Int32) (xlow : Int64) (xrange : Int64) (xcode : Int64) (xreadLow : Int64) (xreadRange : Int64) (ri : Nat) (ro : Nat) (rw : Nat) (xasked : Int32) (rwn : Int32) (rwa : Nat) (rwk : Nat) (rwf : Nat → Int32) (hrw : rOk rwn rwk) : MetVg l y_Carries_shiftLow (Cond.code y_Carries_shiftLow prog_3_method_8_code 1 none :: gw) ({ frames := 4, cells := rPh rwk, slots := rPh rwk, locals := 105 } : Room) (dC, dI) vwCl (kT cI cM cO) [.ref co] [(co, .inr (1, [.int xcache, .int xpending, .long xlow, .long xrange, .long xcode, .long xreadLow, .long xreadRange, .ref ri, .ref ro, .ref rw, .int xasked])), (rw, .inr (0, [.int rwn, .ref rwa])), (rwa, .inl (cI, rwk, .inl rwf))] sz sl (fun (u : Int32 × Int32 × Int64 × Int32 × Nat × Nat × (Nat → Int32)) => rOk u.2.2.2.1 u.2.2.2.2.2.1) (fun (u : Int32 × Int32 × Int64 × Int32 × Nat × Nat × (Nat → Int32)) => [(co, .inr (1, [.int u.1, .int u.2.1, .long u.2.2.1, .long xrange, .long xcode, .long xreadLow, .long xreadRange, .ref ri, .ref ro, .ref rw, .int xasked])), (rw, .inr (0, [.int u.2.2.2.1, .ref u.2.2.2.2.1])), (u.2.2.2.2.1, .inl (cI, u.2.2.2.2.2.1, .inl u.2.2.2.2.2.2))]) (rPh rwk) (fun (u : Int32 × Int32 × Int64 × Int32 × Nat × Nat × (Nat → Int32)) => rPh u.2.2.2.2.2.1) := by
  refine my_ofVg (cc := prog_3_method_8_code) (n := 1) (ret := none) (by decide) rfl (Nat.le_of_ble_eq_true rfl) ?_
  intro p e s m args below meth c R Q A ls H locs hx hb hr hts hown hlocks hml hnm hR hQ hA hl hP hK hN hD hS
  have hg : ∀ w ∈ gw, w.before args s = true := fun w h => hts w (List.mem_cons_of_mem _ h)
  have hown : s.vm.findClass "RangeCoders$Carries" = some m.cls := hown
  have hl : lv_has ls 1 [(0, .ref co)] := hl
  have hlt_hrw := rOk_lt hrw
  refine lv_aload_n hx hb d_Carries_shiftLow_0 rfl (lv_at hl 0 rfl) ?_
  refine va_get (D := (dC, dI)) (ci := 1) (v := .long xlow) (C := "RangeCoders$Carries") (T := T_Carries) (N := 11) hx hb hg in_Carries hown hK hP 0 rfl rfl 2 (by decide) (hg _ k72) (fun x9 h9 => u_same (hg _ k73) x9 h9) rfl d_Carries_shiftLow_1 ?_
  refine lv_ldc2 (v := 4278190080) hx hb hown (hg _ k467) d_Carries_shiftLow_4 ?_
  refine W.lcmp hx hb d_Carries_shiftLow_7 ?_
  refine lv_if_lt (tgt := 22) hx hb d_Carries_shiftLow_8 (by decide) (fun c_1 => ?_) (fun c_1 => ?_)
  · rw [lg_cmp_lt] at c_1
    refine lv_aload_n hx hb d_Carries_shiftLow_22 rfl (lv_at hl 0 rfl) ?_
    refine lv_aload_n hx hb d_Carries_shiftLow_23 rfl (lv_at hl 0 rfl) ?_
    refine va_get (D := (dC, dI)) (ci := 1) (v := .long xlow) (C := "RangeCoders$Carries") (T := T_Carries) (N := 11) hx hb hg in_Carries hown hK hP 0 rfl rfl 2 (by decide) (hg _ k72) (fun x9 h9 => u_same (hg _ k73) x9 h9) rfl d_Carries_shiftLow_24 ?_
    refine lv_bipush (v := 32) hx hb d_Carries_shiftLow_27 (by decide) ?_
    refine lv_lushr hx hb d_Carries_shiftLow_29 rfl ?_
    refine lv_topl (fun v_2 ev_2 => ?_)
    refine lv_l2i hx hb d_Carries_shiftLow_30 rfl ?_
    refine lv_topi (fun v_3 ev_3 => ?_)
    refine my_cvg (wr := []) (va_runV (As := [.int v_3]) (rest := []) ⟨hx, hb, hml, hown, hts⟩ (c_Carries_Carries_writeWaiting l dC dI cI cM cO H.size (hSl H) co xcache xpending xlow xrange xcode xreadLow xreadRange ri ro rw xasked rwn rwa rwk rwf v_3 (by first | assumption | omega)) (cwV 1 hts (my_gV k468 k470 ks7 k5 k471) rfl rfl rfl (by decide +kernel) ⟨by rw [hR]; exact Nat.le_of_ble_eq_true rfl, by rw [hR]; exact Nat.le_of_ble_eq_true rfl⟩) (my_preVg hK hN (hP.sub [0, 1, 2] rfl) (hD.sub [0, 1, 2] (by decide) rfl) 0 rfl rfl) rfl rfl hl.1 rfl (lv_room (Nat.le_of_ble_eq_true rfl)) d_Carries_shiftLow_31 ⟨by rw [hR]; exact (show 0 + (rPh rwk) ≤ (rPh rwk) by omega), by rw [hR]; exact (show 0 + (rPh rwk) ≤ (rPh rwk) by omega)⟩) hP hD hS hA [0, 1, 2] [] rfl rfl (by decide) (by decide) (fun u9 d_31 H locs hd_31 hw_31 hP hD hS => ?_)
    obtain ⟨xpendingq_31, rwnq_31, rwaq_31, rwkq_31, rwfq_31⟩ := u9
    have hrw_31 : rOk rwnq_31 rwkq_31 := hw_31
    have hd_31 : d_31 + (rPh rwkq_31) ≤ (rPh rwk) := hd_31
    have hP : va_P (dC, dI) vwCl [(co, .inr (1, [.int xcache, .int xpendingq_31, .long xlow, .long xrange, .long xcode, .long xreadLow, .long xreadRange, .ref ri, .ref ro, .ref rw, .int xasked])), (rw, .inr (0, [.int rwnq_31, .ref rwaq_31])), (rwaq_31, .inl (cI, rwkq_31, .inl rwfq_31))] H := hP
    have hD : va_D A [(co, .inr (1, [.int xcache, .int xpendingq_31, .long xlow, .long xrange, .long xcode, .long xreadLow, .long xreadRange, .ref ri, .ref ro, .ref rw, .int xasked])), (rw, .inr (0, [.int rwnq_31, .ref rwaq_31])), (rwaq_31, .inl (cI, rwkq_31, .inl rwfq_31))] := hD
    refine lv_aload_n hx hb d_Carries_shiftLow_34 rfl (lv_at hl 0 rfl) ?_
    refine lv_aload_n hx hb d_Carries_shiftLow_35 rfl (lv_at hl 0 rfl) ?_
    refine va_get (D := (dC, dI)) (ci := 1) (v := .long xlow) (C := "RangeCoders$Carries") (T := T_Carries) (N := 11) hx hb hg in_Carries hown hK hP 0 rfl rfl 2 (by decide) (hg _ k72) (fun x9 h9 => u_same (hg _ k73) x9 h9) rfl d_Carries_shiftLow_36 ?_
    refine lv_bipush (v := 24) hx hb d_Carries_shiftLow_39 (by decide) ?_
    refine lv_lushr hx hb d_Carries_shiftLow_41 rfl ?_
    refine lv_topl (fun v_4 ev_4 => ?_)
    refine lv_l2i hx hb d_Carries_shiftLow_42 rfl ?_
    refine lv_topi (fun v_5 ev_5 => ?_)
    refine lv_sipush (v := 255) hx hb d_Carries_shiftLow_43 (by decide) ?_
    refine lv_iand hx hb d_Carries_shiftLow_46 ?_
    refine lv_topi (fun v_6 ev_6 => ?_)
    refine va_put (D := (dC, dI)) (ci := 1) (v := .int v_6) (ty := .int) (C := "RangeCoders$Carries") (T := T_Carries) (N := 11) hx hb hg in_Carries t_Carries o_Carries n_Carries hown hK hP hD hS 0 rfl rfl 0 (by decide) (hg _ k68) (fun _ h9 => h9) rfl (by decide +kernel) rfl rfl (Nat.le_of_ble_eq_true rfl) d_Carries_shiftLow_47 (fun H locs hP hD hS => ?_)
    have hP : va_P (dC, dI) vwCl [(co, .inr (1, [.int v_6, .int xpendingq_31, .long xlow, .long xrange, .long xcode, .long xreadLow, .long xreadRange, .ref ri, .ref ro, .ref rw, .int xasked])), (rw, .inr (0, [.int rwnq_31, .ref rwaq_31])), (rwaq_31, .inl (cI, rwkq_31, .inl rwfq_31))] H := hP
    have hD : va_D A [(co, .inr (1, [.int v_6, .int xpendingq_31, .long xlow, .long xrange, .long xcode, .long xreadLow, .long xreadRange, .ref ri, .ref ro, .ref rw, .int xasked])), (rw, .inr (0, [.int rwnq_31, .ref rwaq_31])), (rwaq_31, .inl (cI, rwkq_31, .inl rwfq_31))] := hD
    refine lv_goto (tgt := 63) hx hb d_Carries_shiftLow_50 (by decide) ?_
    refine lv_aload_n hx hb d_Carries_shiftLow_63 rfl (lv_at hl 0 rfl) ?_
    refine lv_aload_n hx hb d_Carries_shiftLow_64 rfl (lv_at hl 0 rfl) ?_
    refine va_get (D := (dC, dI)) (ci := 1) (v := .long xlow) (C := "RangeCoders$Carries") (T := T_Carries) (N := 11) hx hb hg in_Carries hown hK hP 0 rfl rfl 2 (by decide) (hg _ k72) (fun x9 h9 => u_same (hg _ k73) x9 h9) rfl d_Carries_shiftLow_65 ?_
    refine lv_bipush (v := 8) hx hb d_Carries_shiftLow_68 (by decide) ?_
    refine lv_lshl hx hb d_Carries_shiftLow_70 rfl ?_
    refine lv_topl (fun v_7 ev_7 => ?_)
    refine lv_ldc2 (v := 4294967295) hx hb hown (hg _ k462) d_Carries_shiftLow_71 ?_
    refine lv_land hx hb d_Carries_shiftLow_74 ?_
    refine lv_topl (fun v_8 ev_8 => ?_)
    refine va_put (D := (dC, dI)) (ci := 1) (v := .long v_8) (ty := .long) (C := "RangeCoders$Carries") (T := T_Carries) (N := 11) hx hb hg in_Carries t_Carries o_Carries n_Carries hown hK hP hD hS 0 rfl rfl 2 (by decide) (hg _ k72) (fun x9 h9 => u_same (hg _ k73) x9 h9) rfl (by decide +kernel) rfl rfl (Nat.le_of_ble_eq_true rfl) d_Carries_shiftLow_75 (fun H locs hP hD hS => ?_)
    have hP : va_P (dC, dI) vwCl [(co, .inr (1, [.int v_6, .int xpendingq_31, .long v_8, .long xrange, .long xcode, .long xreadLow, .long xreadRange, .ref ri, .ref ro, .ref rw, .int xasked])), (rw, .inr (0, [.int rwnq_31, .ref rwaq_31])), (rwaq_31, .inl (cI, rwkq_31, .inl rwfq_31))] H := hP
    have hD : va_D A [(co, .inr (1, [.int v_6, .int xpendingq_31, .long v_8, .long xrange, .long xcode, .long xreadLow, .long xreadRange, .ref ri, .ref ro, .ref rw, .int xasked])), (rw, .inr (0, [.int rwnq_31, .ref rwaq_31])), (rwaq_31, .inl (cI, rwkq_31, .inl rwfq_31))] := hD
    exact my_vretg hx hb hr hlocks hQ hK hS (v_6, xpendingq_31, v_8, rwnq_31, rwaq_31, rwkq_31, rwfq_31) (show (0 + d_31) + (rPh rwkq_31) ≤ (rPh rwk) by omega) (show (0 + d_31) + (rPh rwkq_31) ≤ (rPh rwk) by omega) (by first | assumption | (subst_vars; assumption)) (hP.sub [0, 1, 2] rfl) (hD.sub [0, 1, 2] (by decide) rfl) d_Carries_shiftLow_78
  · rw [lg_cmp_lt] at c_1
    refine lv_aload_n hx hb d_Carries_shiftLow_11 rfl (lv_at hl 0 rfl) ?_
    refine va_get (D := (dC, dI)) (ci := 1) (v := .long xlow) (C := "RangeCoders$Carries") (T := T_Carries) (N := 11) hx hb hg in_Carries hown hK hP 0 rfl rfl 2 (by decide) (hg _ k72) (fun x9 h9 => u_same (hg _ k73) x9 h9) rfl d_Carries_shiftLow_12 ?_
    refine lv_ldc2 (v := 4294967295) hx hb hown (hg _ k462) d_Carries_shiftLow_15 ?_
    refine W.lcmp hx hb d_Carries_shiftLow_18 ?_
    refine lv_if_le (tgt := 53) hx hb d_Carries_shiftLow_19 (by decide) (fun c_9 => ?_) (fun c_9 => ?_)
    · rw [lg_cmp_le] at c_9
      refine lv_aload_n hx hb d_Carries_shiftLow_53 rfl (lv_at hl 0 rfl) ?_
      refine lv_dup hx hb d_Carries_shiftLow_54 rfl ?_
      refine va_get (D := (dC, dI)) (ci := 1) (v := .int xpending) (C := "RangeCoders$Carries") (T := T_Carries) (N := 11) hx hb hg in_Carries hown hK hP 0 rfl rfl 1 (by decide) (hg _ k69) (fun _ h9 => h9) rfl d_Carries_shiftLow_55 ?_
      refine lv_iconst (v := 1) hx hb d_Carries_shiftLow_58 (by decide) ?_
      refine lv_iadd hx hb d_Carries_shiftLow_59 ?_
      refine lv_topi (fun v_10 ev_10 => ?_)
      refine va_put (D := (dC, dI)) (ci := 1) (v := .int v_10) (ty := .int) (C := "RangeCoders$Carries") (T := T_Carries) (N := 11) hx hb hg in_Carries t_Carries o_Carries n_Carries hown hK hP hD hS 0 rfl rfl 1 (by decide) (hg _ k69) (fun _ h9 => h9) rfl (by decide +kernel) rfl rfl (Nat.le_of_ble_eq_true rfl) d_Carries_shiftLow_60 (fun H locs hP hD hS => ?_)
      have hP : va_P (dC, dI) vwCl [(co, .inr (1, [.int xcache, .int v_10, .long xlow, .long xrange, .long xcode, .long xreadLow, .long xreadRange, .ref ri, .ref ro, .ref rw, .int xasked])), (rw, .inr (0, [.int rwn, .ref rwa])), (rwa, .inl (cI, rwk, .inl rwf))] H := hP
      have hD : va_D A [(co, .inr (1, [.int xcache, .int v_10, .long xlow, .long xrange, .long xcode, .long xreadLow, .long xreadRange, .ref ri, .ref ro, .ref rw, .int xasked])), (rw, .inr (0, [.int rwn, .ref rwa])), (rwa, .inl (cI, rwk, .inl rwf))] := hD
      refine lv_aload_n hx hb d_Carries_shiftLow_63 rfl (lv_at hl 0 rfl) ?_
      refine lv_aload_n hx hb d_Carries_shiftLow_64 rfl (lv_at hl 0 rfl) ?_
      refine va_get (D := (dC, dI)) (ci := 1) (v := .long xlow) (C := "RangeCoders$Carries") (T := T_Carries) (N := 11) hx hb hg in_Carries hown hK hP 0 rfl rfl 2 (by decide) (hg _ k72) (fun x9 h9 => u_same (hg _ k73) x9 h9) rfl d_Carries_shiftLow_65 ?_
      refine lv_bipush (v := 8) hx hb d_Carries_shiftLow_68 (by decide) ?_
      refine lv_lshl hx hb d_Carries_shiftLow_70 rfl ?_
      refine lv_topl (fun v_11 ev_11 => ?_)
      refine lv_ldc2 (v := 4294967295) hx hb hown (hg _ k462) d_Carries_shiftLow_71 ?_
      refine lv_land hx hb d_Carries_shiftLow_74 ?_
      refine lv_topl (fun v_12 ev_12 => ?_)
      refine va_put (D := (dC, dI)) (ci := 1) (v := .long v_12) (ty := .long) (C := "RangeCoders$Carries") (T := T_Carries) (N := 11) hx hb hg in_Carries t_Carries o_Carries n_Carries hown hK hP hD hS 0 rfl rfl 2 (by decide) (hg _ k72) (fun x9 h9 => u_same (hg _ k73) x9 h9) rfl (by decide +kernel) rfl rfl (Nat.le_of_ble_eq_true rfl) d_Carries_shiftLow_75 (fun H locs hP hD hS => ?_)
      have hP : va_P (dC, dI) vwCl [(co, .inr (1, [.int xcache, .int v_10, .long v_12, .long xrange, .long xcode, .long xreadLow, .long xreadRange, .ref ri, .ref ro, .ref rw, .int xasked])), (rw, .inr (0, [.int rwn, .ref rwa])), (rwa, .inl (cI, rwk, .inl rwf))] H := hP
      have hD : va_D A [(co, .inr (1, [.int xcache, .int v_10, .long v_12, .long xrange, .long xcode, .long xreadLow, .long xreadRange, .ref ri, .ref ro, .ref rw, .int xasked])), (rw, .inr (0, [.int rwn, .ref rwa])), (rwa, .inl (cI, rwk, .inl rwf))] := hD
      exact my_vretg hx hb hr hlocks hQ hK hS (xcache, v_10, v_12, rwn, rwa, rwk, rwf) (show 0 + (rPh rwk) ≤ (rPh rwk) by omega) (show 0 + (rPh rwk) ≤ (rPh rwk) by omega) (by first | assumption | (subst_vars; assumption)) (hP.sub [0, 1, 2] rfl) (hD.sub [0, 1, 2] (by decide) rfl) d_Carries_shiftLow_78
    · rw [lg_cmp_le] at c_9
      refine lv_aload_n hx hb d_Carries_shiftLow_22 rfl (lv_at hl 0 rfl) ?_
      refine lv_aload_n hx hb d_Carries_shiftLow_23 rfl (lv_at hl 0 rfl) ?_
      refine va_get (D := (dC, dI)) (ci := 1) (v := .long xlow) (C := "RangeCoders$Carries") (T := T_Carries) (N := 11) hx hb hg in_Carries hown hK hP 0 rfl rfl 2 (by decide) (hg _ k72) (fun x9 h9 => u_same (hg _ k73) x9 h9) rfl d_Carries_shiftLow_24 ?_
      refine lv_bipush (v := 32) hx hb d_Carries_shiftLow_27 (by decide) ?_
      refine lv_lushr hx hb d_Carries_shiftLow_29 rfl ?_
      refine lv_topl (fun v_13 ev_13 => ?_)
      refine lv_l2i hx hb d_Carries_shiftLow_30 rfl ?_
      refine lv_topi (fun v_14 ev_14 => ?_)
      refine my_cvg (wr := []) (va_runV (As := [.int v_14]) (rest := []) ⟨hx, hb, hml, hown, hts⟩ (c_Carries_Carries_writeWaiting l dC dI cI cM cO H.size (hSl H) co xcache xpending xlow xrange xcode xreadLow xreadRange ri ro rw xasked rwn rwa rwk rwf v_14 (by first | assumption | omega)) (cwV 1 hts (my_gV k468 k470 ks7 k5 k471) rfl rfl rfl (by decide +kernel) ⟨by rw [hR]; exact Nat.le_of_ble_eq_true rfl, by rw [hR]; exact Nat.le_of_ble_eq_true rfl⟩) (my_preVg hK hN (hP.sub [0, 1, 2] rfl) (hD.sub [0, 1, 2] (by decide) rfl) 0 rfl rfl) rfl rfl hl.1 rfl (lv_room (Nat.le_of_ble_eq_true rfl)) d_Carries_shiftLow_31 ⟨by rw [hR]; exact (show 0 + (rPh rwk) ≤ (rPh rwk) by omega), by rw [hR]; exact (show 0 + (rPh rwk) ≤ (rPh rwk) by omega)⟩) hP hD hS hA [0, 1, 2] [] rfl rfl (by decide) (by decide) (fun u9 d_31 H locs hd_31 hw_31 hP hD hS => ?_)
      obtain ⟨xpendingq_31, rwnq_31, rwaq_31, rwkq_31, rwfq_31⟩ := u9
      have hrw_31 : rOk rwnq_31 rwkq_31 := hw_31
      have hd_31 : d_31 + (rPh rwkq_31) ≤ (rPh rwk) := hd_31
      have hP : va_P (dC, dI) vwCl [(co, .inr (1, [.int xcache, .int xpendingq_31, .long xlow, .long xrange, .long xcode, .long xreadLow, .long xreadRange, .ref ri, .ref ro, .ref rw, .int xasked])), (rw, .inr (0, [.int rwnq_31, .ref rwaq_31])), (rwaq_31, .inl (cI, rwkq_31, .inl rwfq_31))] H := hP
      have hD : va_D A [(co, .inr (1, [.int xcache, .int xpendingq_31, .long xlow, .long xrange, .long xcode, .long xreadLow, .long xreadRange, .ref ri, .ref ro, .ref rw, .int xasked])), (rw, .inr (0, [.int rwnq_31, .ref rwaq_31])), (rwaq_31, .inl (cI, rwkq_31, .inl rwfq_31))] := hD
      refine lv_aload_n hx hb d_Carries_shiftLow_34 rfl (lv_at hl 0 rfl) ?_
      refine lv_aload_n hx hb d_Carries_shiftLow_35 rfl (lv_at hl 0 rfl) ?_
      refine va_get (D := (dC, dI)) (ci := 1) (v := .long xlow) (C := "RangeCoders$Carries") (T := T_Carries) (N := 11) hx hb hg in_Carries hown hK hP 0 rfl rfl 2 (by decide) (hg _ k72) (fun x9 h9 => u_same (hg _ k73) x9 h9) rfl d_Carries_shiftLow_36 ?_
      refine lv_bipush (v := 24) hx hb d_Carries_shiftLow_39 (by decide) ?_
      refine lv_lushr hx hb d_Carries_shiftLow_41 rfl ?_
      refine lv_topl (fun v_15 ev_15 => ?_)
      refine lv_l2i hx hb d_Carries_shiftLow_42 rfl ?_
      refine lv_topi (fun v_16 ev_16 => ?_)
      refine lv_sipush (v := 255) hx hb d_Carries_shiftLow_43 (by decide) ?_
      refine lv_iand hx hb d_Carries_shiftLow_46 ?_
      refine lv_topi (fun v_17 ev_17 => ?_)
      refine va_put (D := (dC, dI)) (ci := 1) (v := .int v_17) (ty := .int) (C := "RangeCoders$Carries") (T := T_Carries) (N := 11) hx hb hg in_Carries t_Carries o_Carries n_Carries hown hK hP hD hS 0 rfl rfl 0 (by decide) (hg _ k68) (fun _ h9 => h9) rfl (by decide +kernel) rfl rfl (Nat.le_of_ble_eq_true rfl) d_Carries_shiftLow_47 (fun H locs hP hD hS => ?_)
      have hP : va_P (dC, dI) vwCl [(co, .inr (1, [.int v_17, .int xpendingq_31, .long xlow, .long xrange, .long xcode, .long xreadLow, .long xreadRange, .ref ri, .ref ro, .ref rw, .int xasked])), (rw, .inr (0, [.int rwnq_31, .ref rwaq_31])), (rwaq_31, .inl (cI, rwkq_31, .inl rwfq_31))] H := hP
      have hD : va_D A [(co, .inr (1, [.int v_17, .int xpendingq_31, .long xlow, .long xrange, .long xcode, .long xreadLow, .long xreadRange, .ref ri, .ref ro, .ref rw, .int xasked])), (rw, .inr (0, [.int rwnq_31, .ref rwaq_31])), (rwaq_31, .inl (cI, rwkq_31, .inl rwfq_31))] := hD
      refine lv_goto (tgt := 63) hx hb d_Carries_shiftLow_50 (by decide) ?_
      refine lv_aload_n hx hb d_Carries_shiftLow_63 rfl (lv_at hl 0 rfl) ?_
      refine lv_aload_n hx hb d_Carries_shiftLow_64 rfl (lv_at hl 0 rfl) ?_
      refine va_get (D := (dC, dI)) (ci := 1) (v := .long xlow) (C := "RangeCoders$Carries") (T := T_Carries) (N := 11) hx hb hg in_Carries hown hK hP 0 rfl rfl 2 (by decide) (hg _ k72) (fun x9 h9 => u_same (hg _ k73) x9 h9) rfl d_Carries_shiftLow_65 ?_
      refine lv_bipush (v := 8) hx hb d_Carries_shiftLow_68 (by decide) ?_
      refine lv_lshl hx hb d_Carries_shiftLow_70 rfl ?_
      refine lv_topl (fun v_18 ev_18 => ?_)
      refine lv_ldc2 (v := 4294967295) hx hb hown (hg _ k462) d_Carries_shiftLow_71 ?_
      refine lv_land hx hb d_Carries_shiftLow_74 ?_
      refine lv_topl (fun v_19 ev_19 => ?_)
      refine va_put (D := (dC, dI)) (ci := 1) (v := .long v_19) (ty := .long) (C := "RangeCoders$Carries") (T := T_Carries) (N := 11) hx hb hg in_Carries t_Carries o_Carries n_Carries hown hK hP hD hS 0 rfl rfl 2 (by decide) (hg _ k72) (fun x9 h9 => u_same (hg _ k73) x9 h9) rfl (by decide +kernel) rfl rfl (Nat.le_of_ble_eq_true rfl) d_Carries_shiftLow_75 (fun H locs hP hD hS => ?_)
      have hP : va_P (dC, dI) vwCl [(co, .inr (1, [.int v_17, .int xpendingq_31, .long v_19, .long xrange, .long xcode, .long xreadLow, .long xreadRange, .ref ri, .ref ro, .ref rw, .int xasked])), (rw, .inr (0, [.int rwnq_31, .ref rwaq_31])), (rwaq_31, .inl (cI, rwkq_31, .inl rwfq_31))] H := hP
      have hD : va_D A [(co, .inr (1, [.int v_17, .int xpendingq_31, .long v_19, .long xrange, .long xcode, .long xreadLow, .long xreadRange, .ref ri, .ref ro, .ref rw, .int xasked])), (rw, .inr (0, [.int rwnq_31, .ref rwaq_31])), (rwaq_31, .inl (cI, rwkq_31, .inl rwfq_31))] := hD
      exact my_vretg hx hb hr hlocks hQ hK hS (v_17, xpendingq_31, v_19, rwnq_31, rwaq_31, rwkq_31, rwfq_31) (show (0 + d_31) + (rPh rwkq_31) ≤ (rPh rwk) by omega) (show (0 + d_31) + (rPh rwkq_31) ≤ (rPh rwk) by omega) (by first | assumption | (subst_vars; assumption)) (hP.sub [0, 1, 2] rfl) (hD.sub [0, 1, 2] (by decide) rfl) d_Carries_shiftLow_78
set_option maxHeartbeats 2000000 in
set_option maxRecDepth 100000 in
theorem c_Carries_Carries_widen (l : Launch) (dC : Nat → ClassId) (dI : Nat → Nat → Nat) (cI cM cO : ClassId) (sz : Nat) (sl : Nat) (co : Nat) (xcache : Int32) (xpending : Int32) (xlow : Int64) (xrange : Int64) (xcode : Int64) (xreadLow : Int64) (xreadRange : Int64) (ri : Nat) (ro : Nat) (rw : Nat) (xasked : Int32) (rwn : Int32) (rwa : Nat) (rwk : Nat) (rwf : Nat → Int32) (hrw : rOk rwn rwk) : MetVg l y_Carries_widen (Cond.code y_Carries_widen prog_3_method_6_code 2 none :: gw) ({ frames := 5, cells := rPh rwk, slots := rPh rwk, locals := 125 } : Room) (dC, dI) vwCl (kT cI cM cO) [.ref co] [(co, .inr (1, [.int xcache, .int xpending, .long xlow, .long xrange, .long xcode, .long xreadLow, .long xreadRange, .ref ri, .ref ro, .ref rw, .int xasked])), (rw, .inr (0, [.int rwn, .ref rwa])), (rwa, .inl (cI, rwk, .inl rwf))] sz sl (fun (u : Int32 × Int32 × Int64 × Int64 × Int32 × Nat × Nat × (Nat → Int32)) => rOk u.2.2.2.2.1 u.2.2.2.2.2.2.1) (fun (u : Int32 × Int32 × Int64 × Int64 × Int32 × Nat × Nat × (Nat → Int32)) => [(co, .inr (1, [.int u.1, .int u.2.1, .long u.2.2.1, .long u.2.2.2.1, .long xcode, .long xreadLow, .long xreadRange, .ref ri, .ref ro, .ref rw, .int xasked])), (rw, .inr (0, [.int u.2.2.2.2.1, .ref u.2.2.2.2.2.1])), (u.2.2.2.2.2.1, .inl (cI, u.2.2.2.2.2.2.1, .inl u.2.2.2.2.2.2.2))]) (rPh rwk) (fun (u : Int32 × Int32 × Int64 × Int64 × Int32 × Nat × Nat × (Nat → Int32)) => rPh u.2.2.2.2.2.2.1) := by
  refine my_ofVg (cc := prog_3_method_6_code) (n := 2) (ret := none) (by decide) rfl (Nat.le_of_ble_eq_true rfl) ?_
  intro p e s m args below meth c R Q A ls H locs hx hb hr hts hown hlocks hml hnm hR hQ hA hl hP hK hN hD hS
  have hg : ∀ w ∈ gw, w.before args s = true := fun w h => hts w (List.mem_cons_of_mem _ h)
  have hown : s.vm.findClass "RangeCoders$Carries" = some m.cls := hown
  have hl : lv_has ls 2 [(0, .ref co)] := hl
  have hlt_hrw := rOk_lt hrw
  refine lv_iconst (v := 0) hx hb d_Carries_widen_0 (by decide) ?_
  refine lv_istore_n (lv' := [(1, .int 0), (0, .ref co)]) hx hb d_Carries_widen_1 rfl hl (by decide) rfl (fun ls hl => ?_)
  have J_2 : ∀ (n9_2 : Nat) (b2_0 : Int32) (b2_1 : Nat) (b2_2 : Int32) (b2_3 : Int32) (b2_4 : Int64) (b2_5 : Int64) (b2_6 : Int32) (b2_7 : Nat) (b2_8 : Nat → Int32) (b2_9 : Nat) (hn9_2 : ((8 : Int32).toInt - b2_0.toInt).toNat = n9_2) (hi_2 : 0 ≤ b2_0.toInt) (hr1_2 : rOk b2_6 b2_7) (hd_2 : b2_9 + (rPh b2_7) ≤ rPh rwk) (H : Heap) (locs : List Loc) (ls : Array Slot), va_P (dC, dI) vwCl [(co, .inr (1, [.int b2_2, .int b2_3, .long b2_4, .long b2_5, .long xcode, .long xreadLow, .long xreadRange, .ref ri, .ref ro, .ref rw, .int xasked])), (rw, .inr (0, [.int b2_6, .ref b2_1])), (b2_1, .inl (cI, b2_7, .inl b2_8))] H → va_D A [(co, .inr (1, [.int b2_2, .int b2_3, .long b2_4, .long b2_5, .long xcode, .long xreadLow, .long xreadRange, .ref ri, .ref ro, .ref rw, .int xasked])), (rw, .inr (0, [.int b2_6, .ref b2_1])), (b2_1, .inl (cI, b2_7, .inl b2_8))] → va_S A s.heap H locs → lv_has ls 2 [(1, .int b2_0), (0, .ref co)] → W p l e R s m args below meth c H locs b2_9 b2_9 Q (F0 m 2 ls []) := by
    intro n9_2
    induction n9_2 using Nat.strongRecOn with
    | ind n9_2 ih9_2 =>
      intro b2_0 b2_1 b2_2 b2_3 b2_4 b2_5 b2_6 b2_7 b2_8 b2_9 hn9_2 hi_2 hr1_2 hd_2 H locs ls hP hD hS hl
      refine lv_iload_n hx hb d_Carries_widen_2 rfl (lv_at hl 0 rfl) ?_
      refine lv_bipush (v := 8) hx hb d_Carries_widen_3 (by decide) ?_
      refine lv_icmp_ge (tgt := 44) hx hb d_Carries_widen_5 (by decide) (fun c_1 => ?_) (fun c_1 => ?_)
      · exact my_vretg hx hb hr hlocks hQ hK hS (b2_2, b2_3, b2_4, b2_5, b2_6, b2_1, b2_7, b2_8) (show b2_9 + (rPh b2_7) ≤ (rPh rwk) by omega) (show b2_9 + (rPh b2_7) ≤ (rPh rwk) by omega) (by first | assumption | (subst_vars; assumption)) (hP.sub [0, 1, 2] rfl) (hD.sub [0, 1, 2] (by decide) rfl) d_Carries_widen_44
      · refine lv_aload_n hx hb d_Carries_widen_8 rfl (lv_at hl 1 rfl) ?_
        refine va_get (D := (dC, dI)) (ci := 1) (v := .long b2_5) (C := "RangeCoders$Carries") (T := T_Carries) (N := 11) hx hb hg in_Carries hown hK hP 0 rfl rfl 3 (by decide) (hg _ k80) (fun x9 h9 => u_same (hg _ k81) x9 h9) rfl d_Carries_widen_9 ?_
        refine lv_ldc2 (v := 16777216) hx hb hown (hg _ k461) d_Carries_widen_12 ?_
        refine W.lcmp hx hb d_Carries_widen_15 ?_
        refine lv_if_ge (tgt := 44) hx hb d_Carries_widen_16 (by decide) (fun c_2 => ?_) (fun c_2 => ?_)
        · rw [lg_cmp_ge] at c_2
          exact my_vretg hx hb hr hlocks hQ hK hS (b2_2, b2_3, b2_4, b2_5, b2_6, b2_1, b2_7, b2_8) (show b2_9 + (rPh b2_7) ≤ (rPh rwk) by omega) (show b2_9 + (rPh b2_7) ≤ (rPh rwk) by omega) (by first | assumption | (subst_vars; assumption)) (hP.sub [0, 1, 2] rfl) (hD.sub [0, 1, 2] (by decide) rfl) d_Carries_widen_44
        · rw [lg_cmp_ge] at c_2
          refine lv_aload_n hx hb d_Carries_widen_19 rfl (lv_at hl 1 rfl) ?_
          refine lv_aload_n hx hb d_Carries_widen_20 rfl (lv_at hl 1 rfl) ?_
          refine va_get (D := (dC, dI)) (ci := 1) (v := .long b2_5) (C := "RangeCoders$Carries") (T := T_Carries) (N := 11) hx hb hg in_Carries hown hK hP 0 rfl rfl 3 (by decide) (hg _ k80) (fun x9 h9 => u_same (hg _ k81) x9 h9) rfl d_Carries_widen_21 ?_
          refine lv_bipush (v := 8) hx hb d_Carries_widen_24 (by decide) ?_
          refine lv_lshl hx hb d_Carries_widen_26 rfl ?_
          refine lv_topl (fun v_3 ev_3 => ?_)
          refine lv_ldc2 (v := 4294967295) hx hb hown (hg _ k462) d_Carries_widen_27 ?_
          refine lv_land hx hb d_Carries_widen_30 ?_
          refine lv_topl (fun v_4 ev_4 => ?_)
          refine va_put (D := (dC, dI)) (ci := 1) (v := .long v_4) (ty := .long) (C := "RangeCoders$Carries") (T := T_Carries) (N := 11) hx hb hg in_Carries t_Carries o_Carries n_Carries hown hK hP hD hS 0 rfl rfl 3 (by decide) (hg _ k80) (fun x9 h9 => u_same (hg _ k81) x9 h9) rfl (by decide +kernel) rfl rfl (Nat.le_of_ble_eq_true rfl) d_Carries_widen_31 (fun H locs hP hD hS => ?_)
          have hP : va_P (dC, dI) vwCl [(co, .inr (1, [.int b2_2, .int b2_3, .long b2_4, .long v_4, .long xcode, .long xreadLow, .long xreadRange, .ref ri, .ref ro, .ref rw, .int xasked])), (rw, .inr (0, [.int b2_6, .ref b2_1])), (b2_1, .inl (cI, b2_7, .inl b2_8))] H := hP
          have hD : va_D A [(co, .inr (1, [.int b2_2, .int b2_3, .long b2_4, .long v_4, .long xcode, .long xreadLow, .long xreadRange, .ref ri, .ref ro, .ref rw, .int xasked])), (rw, .inr (0, [.int b2_6, .ref b2_1])), (b2_1, .inl (cI, b2_7, .inl b2_8))] := hD
          refine lv_aload_n hx hb d_Carries_widen_34 rfl (lv_at hl 1 rfl) ?_
          refine my_cvg (wr := []) (va_runV (As := []) (rest := []) ⟨hx, hb, hml, hown, hts⟩ (c_Carries_Carries_shiftLow l dC dI cI cM cO H.size (hSl H) co b2_2 b2_3 b2_4 v_4 xcode xreadLow xreadRange ri ro rw xasked b2_6 b2_1 b2_7 b2_8 (by first | assumption | omega)) (cwV 0 hts (my_gV k463 k465 ks6 k5 k466) rfl rfl rfl (by decide +kernel) ⟨by rw [hR]; exact Nat.le_of_ble_eq_true rfl, by rw [hR]; exact Nat.le_of_ble_eq_true rfl⟩) (my_preVg hK hN (hP.sub [0, 1, 2] rfl) (hD.sub [0, 1, 2] (by decide) rfl) 0 rfl rfl) rfl rfl hl.1 rfl (lv_room (Nat.le_of_ble_eq_true rfl)) d_Carries_widen_35 ⟨by rw [hR]; exact (show b2_9 + (rPh b2_7) ≤ (rPh rwk) by omega), by rw [hR]; exact (show b2_9 + (rPh b2_7) ≤ (rPh rwk) by omega)⟩) hP hD hS hA [0, 1, 2] [] rfl rfl (by decide) (by decide) (fun u9 d_35 H locs hd_35 hw_35 hP hD hS => ?_)
          obtain ⟨xcacheq_35, xpendingq_35, xlowq_35, rwnq_35, rwaq_35, rwkq_35, rwfq_35⟩ := u9
          have hrw_35 : rOk rwnq_35 rwkq_35 := hw_35
          have hd_35 : d_35 + (rPh rwkq_35) ≤ (rPh b2_7) := hd_35
          have hP : va_P (dC, dI) vwCl [(co, .inr (1, [.int xcacheq_35, .int xpendingq_35, .long xlowq_35, .long v_4, .long xcode, .long xreadLow, .long xreadRange, .ref ri, .ref ro, .ref rw, .int xasked])), (rw, .inr (0, [.int rwnq_35, .ref rwaq_35])), (rwaq_35, .inl (cI, rwkq_35, .inl rwfq_35))] H := hP
          have hD : va_D A [(co, .inr (1, [.int xcacheq_35, .int xpendingq_35, .long xlowq_35, .long v_4, .long xcode, .long xreadLow, .long xreadRange, .ref ri, .ref ro, .ref rw, .int xasked])), (rw, .inr (0, [.int rwnq_35, .ref rwaq_35])), (rwaq_35, .inl (cI, rwkq_35, .inl rwfq_35))] := hD
          obtain ⟨v_5, ev_5⟩ : ∃ y : Int32, y = b2_0 + (1) := ⟨_, rfl⟩
          refine lv_iinc (v := v_5) (lv' := [(1, .int v_5), (0, .ref co)]) hx hb d_Carries_widen_38 hl (k := 0) rfl (by rw [ev_5]; rfl) (by decide) rfl (fun ls hl => ?_)
          refine lv_goto (tgt := 2) hx hb d_Carries_widen_41 (by decide) ?_
          exact ih9_2 _ (by first | omega | (have z9 := I_up c_1 ev_5; omega)) v_5 rwaq_35 xcacheq_35 xpendingq_35 xlowq_35 v_4 rwnq_35 rwkq_35 rwfq_35 (b2_9 + d_35) rfl (by have z9 := I_up c_1 ev_5; omega) (by assumption) (by omega) H locs ls (hP.sub [0, 1, 2] rfl) (hD.sub [0, 1, 2] (by decide) rfl) hS (lv_sub hl [0, 1] rfl)
  exact J_2 _ (0 : Int32) rwa xcache xpending xlow xrange rwn rwk rwf (0 : Nat) rfl (by first | decide | assumption | omega) (by assumption) (by omega) H locs ls (hP.sub [0, 1, 2] rfl) (hD.sub [0, 1, 2] (by decide) rfl) hS (lv_sub hl [0, 1] rfl)
set_option maxHeartbeats 2000000 in
set_option maxRecDepth 100000 in
theorem c_Carries_Carries_widenReading (l : Launch) (dC : Nat → ClassId) (dI : Nat → Nat → Nat) (cI cM cO : ClassId) (sz : Nat) (co : Nat) (xcache : Int32) (xpending : Int32) (xlow : Int64) (xrange : Int64) (xcode : Int64) (xreadLow : Int64) (xreadRange : Int64) (ri : Nat) (ro : Nat) (rw : Nat) (xasked : Int32) (rin : Int32) (ria : Nat) (rik : Nat) (rif : Nat → Int32) (hri : rOk rin rik) : MetV l y_Carries_widenReading (Cond.code y_Carries_widenReading prog_3_method_7_code 2 none :: gw) ({ frames := 3, cells := 0, slots := 0, locals := 63 } : Room) (dC, dI) vwCl (kT cI cM cO) [.ref co] [(co, .inr (1, [.int xcache, .int xpending, .long xlow, .long xrange, .long xcode, .long xreadLow, .long xreadRange, .ref ri, .ref ro, .ref rw, .int xasked])), (ri, .inr (0, [.int rin, .ref ria])), (ria, .inl (cI, rik, .inl rif))] sz (fun (u : Int64 × Int64 × Int32) => True) (fun (u : Int64 × Int64 × Int32) => [(co, .inr (1, [.int xcache, .int xpending, .long xlow, .long xrange, .long u.1, .long xreadLow, .long u.2.1, .ref ri, .ref ro, .ref rw, .int u.2.2])), (ri, .inr (0, [.int rin, .ref ria])), (ria, .inl (cI, rik, .inl rif))]) 0 0 := by
  refine my_ofV (cc := prog_3_method_7_code) (n := 2) (ret := none) (by decide) rfl (Nat.le_of_ble_eq_true rfl) ?_
  intro p e s m args below meth c R Q A ls H locs hx hb hr hts hown hlocks hml hnm hR hQ hA hl hP hK hN hD hS
  have hg : ∀ w ∈ gw, w.before args s = true := fun w h => hts w (List.mem_cons_of_mem _ h)
  have hown : s.vm.findClass "RangeCoders$Carries" = some m.cls := hown
  have hl : lv_has ls 2 [(0, .ref co)] := hl
  have hlt_hri := rOk_lt hri
  refine lv_iconst (v := 0) hx hb d_Carries_widenReading_0 (by decide) ?_
  refine lv_istore_n (lv' := [(1, .int 0), (0, .ref co)]) hx hb d_Carries_widenReading_1 rfl hl (by decide) rfl (fun ls hl => ?_)
  have J_2 : ∀ (n9_2 : Nat) (b2_0 : Int32) (b2_1 : Int64) (b2_2 : Int64) (b2_3 : Int32) (hn9_2 : ((8 : Int32).toInt - b2_0.toInt).toNat = n9_2) (hi_2 : 0 ≤ b2_0.toInt) (H : Heap) (locs : List Loc) (ls : Array Slot), va_P (dC, dI) vwCl [(co, .inr (1, [.int xcache, .int xpending, .long xlow, .long xrange, .long b2_1, .long xreadLow, .long b2_2, .ref ri, .ref ro, .ref rw, .int b2_3])), (ri, .inr (0, [.int rin, .ref ria])), (ria, .inl (cI, rik, .inl rif))] H → va_D A [(co, .inr (1, [.int xcache, .int xpending, .long xlow, .long xrange, .long b2_1, .long xreadLow, .long b2_2, .ref ri, .ref ro, .ref rw, .int b2_3])), (ri, .inr (0, [.int rin, .ref ria])), (ria, .inl (cI, rik, .inl rif))] → va_S A s.heap H locs → lv_has ls 2 [(1, .int b2_0), (0, .ref co)] → W p l e R s m args below meth c H locs 0 0 Q (F0 m 2 ls []) := by
    intro n9_2
    induction n9_2 using Nat.strongRecOn with
    | ind n9_2 ih9_2 =>
      intro b2_0 b2_1 b2_2 b2_3 hn9_2 hi_2 H locs ls hP hD hS hl
      refine lv_iload_n hx hb d_Carries_widenReading_2 rfl (lv_at hl 0 rfl) ?_
      refine lv_bipush (v := 8) hx hb d_Carries_widenReading_3 (by decide) ?_
      refine lv_icmp_ge (tgt := 61) hx hb d_Carries_widenReading_5 (by decide) (fun c_1 => ?_) (fun c_1 => ?_)
      · exact my_vret hx hb hr hlocks hQ hK hS (Nat.le_refl _) (Nat.le_refl _) (b2_1, b2_2, b2_3) (trivial) (hP.sub [0, 1, 2] rfl) (hD.sub [0, 1, 2] (by decide) rfl) d_Carries_widenReading_61
      · refine lv_aload_n hx hb d_Carries_widenReading_8 rfl (lv_at hl 1 rfl) ?_
        refine va_get (D := (dC, dI)) (ci := 1) (v := .long b2_2) (C := "RangeCoders$Carries") (T := T_Carries) (N := 11) hx hb hg in_Carries hown hK hP 0 rfl rfl 6 (by decide) (hg _ k96) (fun x9 h9 => u_same (hg _ k97) x9 h9) rfl d_Carries_widenReading_9 ?_
        refine lv_ldc2 (v := 16777216) hx hb hown (hg _ k461) d_Carries_widenReading_12 ?_
        refine W.lcmp hx hb d_Carries_widenReading_15 ?_
        refine lv_if_ge (tgt := 61) hx hb d_Carries_widenReading_16 (by decide) (fun c_2 => ?_) (fun c_2 => ?_)
        · rw [lg_cmp_ge] at c_2
          exact my_vret hx hb hr hlocks hQ hK hS (Nat.le_refl _) (Nat.le_refl _) (b2_1, b2_2, b2_3) (trivial) (hP.sub [0, 1, 2] rfl) (hD.sub [0, 1, 2] (by decide) rfl) d_Carries_widenReading_61
        · rw [lg_cmp_ge] at c_2
          refine lv_aload_n hx hb d_Carries_widenReading_19 rfl (lv_at hl 1 rfl) ?_
          refine lv_aload_n hx hb d_Carries_widenReading_20 rfl (lv_at hl 1 rfl) ?_
          refine va_get (D := (dC, dI)) (ci := 1) (v := .long b2_2) (C := "RangeCoders$Carries") (T := T_Carries) (N := 11) hx hb hg in_Carries hown hK hP 0 rfl rfl 6 (by decide) (hg _ k96) (fun x9 h9 => u_same (hg _ k97) x9 h9) rfl d_Carries_widenReading_21 ?_
          refine lv_bipush (v := 8) hx hb d_Carries_widenReading_24 (by decide) ?_
          refine lv_lshl hx hb d_Carries_widenReading_26 rfl ?_
          refine lv_topl (fun v_3 ev_3 => ?_)
          refine lv_ldc2 (v := 4294967295) hx hb hown (hg _ k462) d_Carries_widenReading_27 ?_
          refine lv_land hx hb d_Carries_widenReading_30 ?_
          refine lv_topl (fun v_4 ev_4 => ?_)
          refine va_put (D := (dC, dI)) (ci := 1) (v := .long v_4) (ty := .long) (C := "RangeCoders$Carries") (T := T_Carries) (N := 11) hx hb hg in_Carries t_Carries o_Carries n_Carries hown hK hP hD hS 0 rfl rfl 6 (by decide) (hg _ k96) (fun x9 h9 => u_same (hg _ k97) x9 h9) rfl (by decide +kernel) rfl rfl (Nat.le_of_ble_eq_true rfl) d_Carries_widenReading_31 (fun H locs hP hD hS => ?_)
          have hP : va_P (dC, dI) vwCl [(co, .inr (1, [.int xcache, .int xpending, .long xlow, .long xrange, .long b2_1, .long xreadLow, .long v_4, .ref ri, .ref ro, .ref rw, .int b2_3])), (ri, .inr (0, [.int rin, .ref ria])), (ria, .inl (cI, rik, .inl rif))] H := hP
          have hD : va_D A [(co, .inr (1, [.int xcache, .int xpending, .long xlow, .long xrange, .long b2_1, .long xreadLow, .long v_4, .ref ri, .ref ro, .ref rw, .int b2_3])), (ri, .inr (0, [.int rin, .ref ria])), (ria, .inl (cI, rik, .inl rif))] := hD
          refine lv_aload_n hx hb d_Carries_widenReading_34 rfl (lv_at hl 1 rfl) ?_
          refine lv_aload_n hx hb d_Carries_widenReading_35 rfl (lv_at hl 1 rfl) ?_
          refine va_get (D := (dC, dI)) (ci := 1) (v := .long b2_1) (C := "RangeCoders$Carries") (T := T_Carries) (N := 11) hx hb hg in_Carries hown hK hP 0 rfl rfl 4 (by decide) (hg _ k86) (fun x9 h9 => u_same (hg _ k87) x9 h9) rfl d_Carries_widenReading_36 ?_
          refine lv_bipush (v := 8) hx hb d_Carries_widenReading_39 (by decide) ?_
          refine lv_lshl hx hb d_Carries_widenReading_41 rfl ?_
          refine lv_topl (fun v_5 ev_5 => ?_)
          refine lv_aload_n hx hb d_Carries_widenReading_42 rfl (lv_at hl 1 rfl) ?_
          refine my_ci (wr := []) (va_runU (As := []) (rest := [.long v_5, .ref co]) ⟨hx, hb, hml, hown, hts⟩ (c_Carries_Coder_nextByte l dC dI cI cM cO H.size co xcache xpending xlow xrange b2_1 xreadLow v_4 ri ro rw b2_3 rin ria rik rif (by first | assumption | omega)) (va_cwU 0 hts (my_gU k795 k796 k799 k742 k3 k749) rfl rfl rfl rfl (by decide +kernel) ⟨by rw [hR]; exact Nat.le_of_ble_eq_true rfl, by rw [hR]; exact Nat.le_of_ble_eq_true rfl⟩) (my_preV hK hN (hP.sub [0, 1, 2] rfl) (hD.sub [0, 1, 2] (by decide) rfl) 0 rfl rfl) rfl rfl hl.1 rfl (lv_room (Nat.le_of_ble_eq_true rfl)) d_Carries_widenReading_43 ⟨by rw [hR]; exact Nat.le_of_ble_eq_true rfl, by rw [hR]; exact Nat.le_of_ble_eq_true rfl⟩) hP hD hS hA [0, 1, 2] [] rfl rfl (by decide) (by decide) (fun r_43 u9 H locs hw_43 hP hD hS => ?_)
          obtain ⟨xaskedq_43, rfl⟩ : ∃ z, z = u9 := ⟨_, rfl⟩
          have hP : va_P (dC, dI) vwCl [(co, .inr (1, [.int xcache, .int xpending, .long xlow, .long xrange, .long b2_1, .long xreadLow, .long v_4, .ref ri, .ref ro, .ref rw, .int xaskedq_43])), (ri, .inr (0, [.int rin, .ref ria])), (ria, .inl (cI, rik, .inl rif))] H := hP
          have hD : va_D A [(co, .inr (1, [.int xcache, .int xpending, .long xlow, .long xrange, .long b2_1, .long xreadLow, .long v_4, .ref ri, .ref ro, .ref rw, .int xaskedq_43])), (ri, .inr (0, [.int rin, .ref ria])), (ria, .inl (cI, rik, .inl rif))] := hD
          refine lv_i2l hx hb d_Carries_widenReading_46 rfl ?_
          refine lv_topl (fun v_6 ev_6 => ?_)
          refine lv_lor hx hb d_Carries_widenReading_47 ?_
          refine lv_topl (fun v_7 ev_7 => ?_)
          refine lv_ldc2 (v := 4294967295) hx hb hown (hg _ k462) d_Carries_widenReading_48 ?_
          refine lv_land hx hb d_Carries_widenReading_51 ?_
          refine lv_topl (fun v_8 ev_8 => ?_)
          refine va_put (D := (dC, dI)) (ci := 1) (v := .long v_8) (ty := .long) (C := "RangeCoders$Carries") (T := T_Carries) (N := 11) hx hb hg in_Carries t_Carries o_Carries n_Carries hown hK hP hD hS 0 rfl rfl 4 (by decide) (hg _ k86) (fun x9 h9 => u_same (hg _ k87) x9 h9) rfl (by decide +kernel) rfl rfl (Nat.le_of_ble_eq_true rfl) d_Carries_widenReading_52 (fun H locs hP hD hS => ?_)
          have hP : va_P (dC, dI) vwCl [(co, .inr (1, [.int xcache, .int xpending, .long xlow, .long xrange, .long v_8, .long xreadLow, .long v_4, .ref ri, .ref ro, .ref rw, .int xaskedq_43])), (ri, .inr (0, [.int rin, .ref ria])), (ria, .inl (cI, rik, .inl rif))] H := hP
          have hD : va_D A [(co, .inr (1, [.int xcache, .int xpending, .long xlow, .long xrange, .long v_8, .long xreadLow, .long v_4, .ref ri, .ref ro, .ref rw, .int xaskedq_43])), (ri, .inr (0, [.int rin, .ref ria])), (ria, .inl (cI, rik, .inl rif))] := hD
          obtain ⟨v_9, ev_9⟩ : ∃ y : Int32, y = b2_0 + (1) := ⟨_, rfl⟩
          refine lv_iinc (v := v_9) (lv' := [(1, .int v_9), (0, .ref co)]) hx hb d_Carries_widenReading_55 hl (k := 0) rfl (by rw [ev_9]; rfl) (by decide) rfl (fun ls hl => ?_)
          refine lv_goto (tgt := 2) hx hb d_Carries_widenReading_58 (by decide) ?_
          exact ih9_2 _ (by first | omega | (have z9 := I_up c_1 ev_9; omega)) v_9 v_8 v_4 xaskedq_43 rfl (by have z9 := I_up c_1 ev_9; omega) H locs ls (hP.sub [0, 1, 2] rfl) (hD.sub [0, 1, 2] (by decide) rfl) hS (lv_sub hl [0, 1] rfl)
  exact J_2 _ (0 : Int32) xcode xreadRange xasked rfl (by first | decide | assumption | omega) H locs ls (hP.sub [0, 1, 2] rfl) (hD.sub [0, 1, 2] (by decide) rfl) hS (lv_sub hl [0, 1] rfl)
set_option maxHeartbeats 2000000 in
set_option maxRecDepth 100000 in
theorem c_Carries_Carries_flush (l : Launch) (dC : Nat → ClassId) (dI : Nat → Nat → Nat) (cI cM cO : ClassId) (sz : Nat) (sl : Nat) (co : Nat) (xcache : Int32) (xpending : Int32) (xlow : Int64) (xrange : Int64) (xcode : Int64) (xreadLow : Int64) (xreadRange : Int64) (ri : Nat) (ro : Nat) (rw : Nat) (xasked : Int32) (rwn : Int32) (rwa : Nat) (rwk : Nat) (rwf : Nat → Int32) (hrw : rOk rwn rwk) : MetVg l y_Carries_flush (Cond.code y_Carries_flush prog_3_method_5_code 2 none :: gw) ({ frames := 5, cells := rPh rwk, slots := rPh rwk, locals := 125 } : Room) (dC, dI) vwCl (kT cI cM cO) [.ref co] [(co, .inr (1, [.int xcache, .int xpending, .long xlow, .long xrange, .long xcode, .long xreadLow, .long xreadRange, .ref ri, .ref ro, .ref rw, .int xasked])), (rw, .inr (0, [.int rwn, .ref rwa])), (rwa, .inl (cI, rwk, .inl rwf))] sz sl (fun (u : Int32 × Int32 × Int64 × Int32 × Nat × Nat × (Nat → Int32)) => rOk u.2.2.2.1 u.2.2.2.2.2.1) (fun (u : Int32 × Int32 × Int64 × Int32 × Nat × Nat × (Nat → Int32)) => [(co, .inr (1, [.int u.1, .int u.2.1, .long u.2.2.1, .long xrange, .long xcode, .long xreadLow, .long xreadRange, .ref ri, .ref ro, .ref rw, .int xasked])), (rw, .inr (0, [.int u.2.2.2.1, .ref u.2.2.2.2.1])), (u.2.2.2.2.1, .inl (cI, u.2.2.2.2.2.1, .inl u.2.2.2.2.2.2))]) (rPh rwk) (fun (u : Int32 × Int32 × Int64 × Int32 × Nat × Nat × (Nat → Int32)) => rPh u.2.2.2.2.2.1) := by
  refine my_ofVg (cc := prog_3_method_5_code) (n := 2) (ret := none) (by decide) rfl (Nat.le_of_ble_eq_true rfl) ?_
  intro p e s m args below meth c R Q A ls H locs hx hb hr hts hown hlocks hml hnm hR hQ hA hl hP hK hN hD hS
  have hg : ∀ w ∈ gw, w.before args s = true := fun w h => hts w (List.mem_cons_of_mem _ h)
  have hown : s.vm.findClass "RangeCoders$Carries" = some m.cls := hown
  have hl : lv_has ls 2 [(0, .ref co)] := hl
  have hlt_hrw := rOk_lt hrw
  refine lv_iconst (v := 0) hx hb d_Carries_flush_0 (by decide) ?_
  refine lv_istore_n (lv' := [(1, .int 0), (0, .ref co)]) hx hb d_Carries_flush_1 rfl hl (by decide) rfl (fun ls hl => ?_)
  have J_2 : ∀ (n9_2 : Nat) (b2_0 : Int32) (b2_1 : Nat) (b2_2 : Int32) (b2_3 : Int32) (b2_4 : Int64) (b2_5 : Int32) (b2_6 : Nat) (b2_7 : Nat → Int32) (b2_8 : Nat) (hn9_2 : ((5 : Int32).toInt - b2_0.toInt).toNat = n9_2) (hi_2 : 0 ≤ b2_0.toInt) (hr1_2 : rOk b2_5 b2_6) (hd_2 : b2_8 + (rPh b2_6) ≤ rPh rwk) (H : Heap) (locs : List Loc) (ls : Array Slot), va_P (dC, dI) vwCl [(co, .inr (1, [.int b2_2, .int b2_3, .long b2_4, .long xrange, .long xcode, .long xreadLow, .long xreadRange, .ref ri, .ref ro, .ref rw, .int xasked])), (rw, .inr (0, [.int b2_5, .ref b2_1])), (b2_1, .inl (cI, b2_6, .inl b2_7))] H → va_D A [(co, .inr (1, [.int b2_2, .int b2_3, .long b2_4, .long xrange, .long xcode, .long xreadLow, .long xreadRange, .ref ri, .ref ro, .ref rw, .int xasked])), (rw, .inr (0, [.int b2_5, .ref b2_1])), (b2_1, .inl (cI, b2_6, .inl b2_7))] → va_S A s.heap H locs → lv_has ls 2 [(1, .int b2_0), (0, .ref co)] → W p l e R s m args below meth c H locs b2_8 b2_8 Q (F0 m 2 ls []) := by
    intro n9_2
    induction n9_2 using Nat.strongRecOn with
    | ind n9_2 ih9_2 =>
      intro b2_0 b2_1 b2_2 b2_3 b2_4 b2_5 b2_6 b2_7 b2_8 hn9_2 hi_2 hr1_2 hd_2 H locs ls hP hD hS hl
      refine lv_iload_n hx hb d_Carries_flush_2 rfl (lv_at hl 0 rfl) ?_
      refine lv_iconst (v := 5) hx hb d_Carries_flush_3 (by decide) ?_
      refine lv_icmp_ge (tgt := 17) hx hb d_Carries_flush_4 (by decide) (fun c_1 => ?_) (fun c_1 => ?_)
      · exact my_vretg hx hb hr hlocks hQ hK hS (b2_2, b2_3, b2_4, b2_5, b2_1, b2_6, b2_7) (show b2_8 + (rPh b2_6) ≤ (rPh rwk) by omega) (show b2_8 + (rPh b2_6) ≤ (rPh rwk) by omega) (by first | assumption | (subst_vars; assumption)) (hP.sub [0, 1, 2] rfl) (hD.sub [0, 1, 2] (by decide) rfl) d_Carries_flush_17
      · refine lv_aload_n hx hb d_Carries_flush_7 rfl (lv_at hl 1 rfl) ?_
        refine my_cvg (wr := []) (va_runV (As := []) (rest := []) ⟨hx, hb, hml, hown, hts⟩ (c_Carries_Carries_shiftLow l dC dI cI cM cO H.size (hSl H) co b2_2 b2_3 b2_4 xrange xcode xreadLow xreadRange ri ro rw xasked b2_5 b2_1 b2_6 b2_7 (by first | assumption | omega)) (cwV 0 hts (my_gV k463 k465 ks6 k5 k466) rfl rfl rfl (by decide +kernel) ⟨by rw [hR]; exact Nat.le_of_ble_eq_true rfl, by rw [hR]; exact Nat.le_of_ble_eq_true rfl⟩) (my_preVg hK hN (hP.sub [0, 1, 2] rfl) (hD.sub [0, 1, 2] (by decide) rfl) 0 rfl rfl) rfl rfl hl.1 rfl (lv_room (Nat.le_of_ble_eq_true rfl)) d_Carries_flush_8 ⟨by rw [hR]; exact (show b2_8 + (rPh b2_6) ≤ (rPh rwk) by omega), by rw [hR]; exact (show b2_8 + (rPh b2_6) ≤ (rPh rwk) by omega)⟩) hP hD hS hA [0, 1, 2] [] rfl rfl (by decide) (by decide) (fun u9 d_8 H locs hd_8 hw_8 hP hD hS => ?_)
        obtain ⟨xcacheq_8, xpendingq_8, xlowq_8, rwnq_8, rwaq_8, rwkq_8, rwfq_8⟩ := u9
        have hrw_8 : rOk rwnq_8 rwkq_8 := hw_8
        have hd_8 : d_8 + (rPh rwkq_8) ≤ (rPh b2_6) := hd_8
        have hP : va_P (dC, dI) vwCl [(co, .inr (1, [.int xcacheq_8, .int xpendingq_8, .long xlowq_8, .long xrange, .long xcode, .long xreadLow, .long xreadRange, .ref ri, .ref ro, .ref rw, .int xasked])), (rw, .inr (0, [.int rwnq_8, .ref rwaq_8])), (rwaq_8, .inl (cI, rwkq_8, .inl rwfq_8))] H := hP
        have hD : va_D A [(co, .inr (1, [.int xcacheq_8, .int xpendingq_8, .long xlowq_8, .long xrange, .long xcode, .long xreadLow, .long xreadRange, .ref ri, .ref ro, .ref rw, .int xasked])), (rw, .inr (0, [.int rwnq_8, .ref rwaq_8])), (rwaq_8, .inl (cI, rwkq_8, .inl rwfq_8))] := hD
        obtain ⟨v_2, ev_2⟩ : ∃ y : Int32, y = b2_0 + (1) := ⟨_, rfl⟩
        refine lv_iinc (v := v_2) (lv' := [(1, .int v_2), (0, .ref co)]) hx hb d_Carries_flush_11 hl (k := 0) rfl (by rw [ev_2]; rfl) (by decide) rfl (fun ls hl => ?_)
        refine lv_goto (tgt := 2) hx hb d_Carries_flush_14 (by decide) ?_
        exact ih9_2 _ (by first | omega | (have z9 := I_up c_1 ev_2; omega)) v_2 rwaq_8 xcacheq_8 xpendingq_8 xlowq_8 rwnq_8 rwkq_8 rwfq_8 (b2_8 + d_8) rfl (by have z9 := I_up c_1 ev_2; omega) (by assumption) (by omega) H locs ls (hP.sub [0, 1, 2] rfl) (hD.sub [0, 1, 2] (by decide) rfl) hS (lv_sub hl [0, 1] rfl)
  exact J_2 _ (0 : Int32) rwa xcache xpending xlow rwn rwk rwf (0 : Nat) rfl (by first | decide | assumption | omega) (by assumption) (by omega) H locs ls (hP.sub [0, 1, 2] rfl) (hD.sub [0, 1, 2] (by decide) rfl) hS (lv_sub hl [0, 1] rfl)
set_option maxHeartbeats 2000000 in
set_option maxRecDepth 100000 in
theorem c_Carries_Ranged_openMessage (l : Launch) (dC : Nat → ClassId) (dI : Nat → Nat → Nat) (cI cM cO : ClassId) (sz : Nat) (co : Nat) (xcache : Int32) (xpending : Int32) (xlow : Int64) (xrange : Int64) (xcode : Int64) (xreadLow : Int64) (xreadRange : Int64) (ri : Nat) (ro : Nat) (rw : Nat) (xasked : Int32) (rwn : Int32) (rwa : Nat) (rwk : Nat) (rwf : Nat → Int32) (hrw : rOk rwn rwk) : MetV l y_Ranged_openMessage (Cond.code y_Ranged_openMessage prog_8_method_6_code 1 none :: gw) ({ frames := 1, cells := 0, slots := 0, locals := 20 } : Room) (dC, dI) vwCl (kT cI cM cO) [.ref co] [(co, .inr (1, [.int xcache, .int xpending, .long xlow, .long xrange, .long xcode, .long xreadLow, .long xreadRange, .ref ri, .ref ro, .ref rw, .int xasked])), (rw, .inr (0, [.int rwn, .ref rwa])), (rwa, .inl (cI, rwk, .inl rwf))] sz (fun (u : Int64 × Int64 × Int32) => rOk u.2.2 rwk) (fun (u : Int64 × Int64 × Int32) => [(co, .inr (1, [.int xcache, .int xpending, .long u.1, .long u.2.1, .long xcode, .long xreadLow, .long xreadRange, .ref ri, .ref ro, .ref rw, .int xasked])), (rw, .inr (0, [.int u.2.2, .ref rwa])), (rwa, .inl (cI, rwk, .inl rwf))]) 0 0 := by
  refine my_ofV (cc := prog_8_method_6_code) (n := 1) (ret := none) (by decide) rfl (Nat.le_of_ble_eq_true rfl) ?_
  intro p e s m args below meth c R Q A ls H locs hx hb hr hts hown hlocks hml hnm hR hQ hA hl hP hK hN hD hS
  have hg : ∀ w ∈ gw, w.before args s = true := fun w h => hts w (List.mem_cons_of_mem _ h)
  have hown : s.vm.findClass "RangeCoders$Ranged" = some m.cls := hown
  have hl : lv_has ls 1 [(0, .ref co)] := hl
  have hlt_hrw := rOk_lt hrw
  refine lv_aload_n hx hb d_Ranged_openMessage_0 rfl (lv_at hl 0 rfl) ?_
  refine va_get (D := (dC, dI)) (ci := 1) (v := .ref rw) (C := "RangeCoders$Carries") (T := T_Carries) (N := 11) hx hb hg in_Carries hown hK hP 0 rfl rfl 9 (by decide) (hg _ k116) (fun x9 h9 => u_same (hg _ k117) x9 h9) rfl d_Ranged_openMessage_1 ?_
  refine my_cv (wr := [(co, .inr (1, [.int xcache, .int xpending, .long xlow, .long xrange, .long xcode, .long xreadLow, .long xreadRange, .ref ri, .ref ro, .ref rw, .int xasked]))]) (va_runV (As := []) (rest := []) ⟨hx, hb, hml, hown, hts⟩ (c_Row_clear l dC dI cI cM cO H.size rw rwn rwa rwk rwf (by first | assumption | omega)) (cwV 0 hts (my_gV k692 k594 k595 k6 k596) rfl rfl rfl (by decide +kernel) ⟨by rw [hR]; exact Nat.le_of_ble_eq_true rfl, by rw [hR]; exact Nat.le_of_ble_eq_true rfl⟩) (my_preV hK hN (hP.sub [1, 2] rfl) (hD.sub [1, 2] (by decide) rfl) 0 rfl rfl) rfl rfl hl.1 rfl (lv_room (Nat.le_of_ble_eq_true rfl)) d_Ranged_openMessage_4 ⟨by rw [hR]; exact Nat.le_of_ble_eq_true rfl, by rw [hR]; exact Nat.le_of_ble_eq_true rfl⟩) hP hD hS hA [1, 2] [0] rfl rfl (by decide) (by decide) (fun u9 H locs hw_4 hP hD hS => ?_)
  have hr_4 : rOk 0 rwk := hw_4
  have hP : va_P (dC, dI) vwCl [(co, .inr (1, [.int xcache, .int xpending, .long xlow, .long xrange, .long xcode, .long xreadLow, .long xreadRange, .ref ri, .ref ro, .ref rw, .int xasked])), (rw, .inr (0, [.int 0, .ref rwa])), (rwa, .inl (cI, rwk, .inl rwf))] H := hP
  have hD : va_D A [(co, .inr (1, [.int xcache, .int xpending, .long xlow, .long xrange, .long xcode, .long xreadLow, .long xreadRange, .ref ri, .ref ro, .ref rw, .int xasked])), (rw, .inr (0, [.int 0, .ref rwa])), (rwa, .inl (cI, rwk, .inl rwf))] := hD
  refine lv_aload_n hx hb d_Ranged_openMessage_7 rfl (lv_at hl 0 rfl) ?_
  refine lv_lconst (v := 0) hx hb d_Ranged_openMessage_8 (by decide) ?_
  refine va_put (D := (dC, dI)) (ci := 1) (v := .long 0) (ty := .long) (C := "RangeCoders$Carries") (T := T_Carries) (N := 11) hx hb hg in_Carries t_Carries o_Carries n_Carries hown hK hP hD hS 0 rfl rfl 2 (by decide) (hg _ k74) (fun _ h9 => h9) rfl (by decide +kernel) rfl rfl (Nat.le_of_ble_eq_true rfl) d_Ranged_openMessage_9 (fun H locs hP hD hS => ?_)
  have hP : va_P (dC, dI) vwCl [(co, .inr (1, [.int xcache, .int xpending, .long 0, .long xrange, .long xcode, .long xreadLow, .long xreadRange, .ref ri, .ref ro, .ref rw, .int xasked])), (rw, .inr (0, [.int 0, .ref rwa])), (rwa, .inl (cI, rwk, .inl rwf))] H := hP
  have hD : va_D A [(co, .inr (1, [.int xcache, .int xpending, .long 0, .long xrange, .long xcode, .long xreadLow, .long xreadRange, .ref ri, .ref ro, .ref rw, .int xasked])), (rw, .inr (0, [.int 0, .ref rwa])), (rwa, .inl (cI, rwk, .inl rwf))] := hD
  refine lv_aload_n hx hb d_Ranged_openMessage_12 rfl (lv_at hl 0 rfl) ?_
  refine lv_ldc2 (v := 4294967295) hx hb hown (hg _ k67) d_Ranged_openMessage_13 ?_
  refine va_put (D := (dC, dI)) (ci := 1) (v := .long 4294967295) (ty := .long) (C := "RangeCoders$Carries") (T := T_Carries) (N := 11) hx hb hg in_Carries t_Carries o_Carries n_Carries hown hK hP hD hS 0 rfl rfl 3 (by decide) (hg _ k77) (fun _ h9 => h9) rfl (by decide +kernel) rfl rfl (Nat.le_of_ble_eq_true rfl) d_Ranged_openMessage_16 (fun H locs hP hD hS => ?_)
  have hP : va_P (dC, dI) vwCl [(co, .inr (1, [.int xcache, .int xpending, .long 0, .long 4294967295, .long xcode, .long xreadLow, .long xreadRange, .ref ri, .ref ro, .ref rw, .int xasked])), (rw, .inr (0, [.int 0, .ref rwa])), (rwa, .inl (cI, rwk, .inl rwf))] H := hP
  have hD : va_D A [(co, .inr (1, [.int xcache, .int xpending, .long 0, .long 4294967295, .long xcode, .long xreadLow, .long xreadRange, .ref ri, .ref ro, .ref rw, .int xasked])), (rw, .inr (0, [.int 0, .ref rwa])), (rwa, .inl (cI, rwk, .inl rwf))] := hD
  exact my_vret hx hb hr hlocks hQ hK hS (Nat.le_refl _) (Nat.le_refl _) ((0 : Int64), (4294967295 : Int64), (0 : Int32)) (by first | assumption | (subst_vars; assumption)) (hP.sub [0, 1, 2] rfl) (hD.sub [0, 1, 2] (by decide) rfl) d_Ranged_openMessage_19
set_option maxHeartbeats 2000000 in
set_option maxRecDepth 100000 in
theorem c_Carries_Carries_openMessage (l : Launch) (dC : Nat → ClassId) (dI : Nat → Nat → Nat) (cI cM cO : ClassId) (sz : Nat) (co : Nat) (xcache : Int32) (xpending : Int32) (xlow : Int64) (xrange : Int64) (xcode : Int64) (xreadLow : Int64) (xreadRange : Int64) (ri : Nat) (ro : Nat) (rw : Nat) (xasked : Int32) (rwn : Int32) (rwa : Nat) (rwk : Nat) (rwf : Nat → Int32) (hrw : rOk rwn rwk) : MetV l y_Carries_openMessage (Cond.code y_Carries_openMessage prog_3_method_2_code 1 none :: gw) ({ frames := 2, cells := 0, slots := 0, locals := 40 } : Room) (dC, dI) vwCl (kT cI cM cO) [.ref co] [(co, .inr (1, [.int xcache, .int xpending, .long xlow, .long xrange, .long xcode, .long xreadLow, .long xreadRange, .ref ri, .ref ro, .ref rw, .int xasked])), (rw, .inr (0, [.int rwn, .ref rwa])), (rwa, .inl (cI, rwk, .inl rwf))] sz (fun (u : Int32 × Int32 × Int64 × Int64 × Int32) => rOk u.2.2.2.2 rwk) (fun (u : Int32 × Int32 × Int64 × Int64 × Int32) => [(co, .inr (1, [.int u.1, .int u.2.1, .long u.2.2.1, .long u.2.2.2.1, .long xcode, .long xreadLow, .long xreadRange, .ref ri, .ref ro, .ref rw, .int xasked])), (rw, .inr (0, [.int u.2.2.2.2, .ref rwa])), (rwa, .inl (cI, rwk, .inl rwf))]) 0 0 := by
  refine my_ofV (cc := prog_3_method_2_code) (n := 1) (ret := none) (by decide) rfl (Nat.le_of_ble_eq_true rfl) ?_
  intro p e s m args below meth c R Q A ls H locs hx hb hr hts hown hlocks hml hnm hR hQ hA hl hP hK hN hD hS
  have hg : ∀ w ∈ gw, w.before args s = true := fun w h => hts w (List.mem_cons_of_mem _ h)
  have hown : s.vm.findClass "RangeCoders$Carries" = some m.cls := hown
  have hl : lv_has ls 1 [(0, .ref co)] := hl
  have hlt_hrw := rOk_lt hrw
  refine lv_aload_n hx hb d_Carries_openMessage_0 rfl (lv_at hl 0 rfl) ?_
  refine my_cv (wr := []) (va_runSU (As := []) (rest := []) (hK.1 1 _ rfl).2 ⟨hx, hb, hml, hown, hts⟩ (c_Carries_Ranged_openMessage l dC dI cI cM cO H.size co xcache xpending xlow xrange xcode xreadLow xreadRange ri ro rw xasked rwn rwa rwk rwf (by first | assumption | omega)) (va_cwSU 0 hts (my_gSU k689 k1288 k153 k690 k4 k691) rfl rfl rfl (by decide +kernel) ⟨by rw [hR]; exact Nat.le_of_ble_eq_true rfl, by rw [hR]; exact Nat.le_of_ble_eq_true rfl⟩) (my_preV hK hN (hP.sub [0, 1, 2] rfl) (hD.sub [0, 1, 2] (by decide) rfl) 0 rfl rfl) rfl rfl hl.1 rfl (lv_room (Nat.le_of_ble_eq_true rfl)) d_Carries_openMessage_1 ⟨by rw [hR]; exact Nat.le_of_ble_eq_true rfl, by rw [hR]; exact Nat.le_of_ble_eq_true rfl⟩) hP hD hS hA [0, 1, 2] [] rfl rfl (by decide) (by decide) (fun u9 H locs hw_1 hP hD hS => ?_)
  obtain ⟨xlowq_1, xrangeq_1, rwnq_1⟩ := u9
  have hrw_1 : rOk rwnq_1 rwk := hw_1
  have hP : va_P (dC, dI) vwCl [(co, .inr (1, [.int xcache, .int xpending, .long xlowq_1, .long xrangeq_1, .long xcode, .long xreadLow, .long xreadRange, .ref ri, .ref ro, .ref rw, .int xasked])), (rw, .inr (0, [.int rwnq_1, .ref rwa])), (rwa, .inl (cI, rwk, .inl rwf))] H := hP
  have hD : va_D A [(co, .inr (1, [.int xcache, .int xpending, .long xlowq_1, .long xrangeq_1, .long xcode, .long xreadLow, .long xreadRange, .ref ri, .ref ro, .ref rw, .int xasked])), (rw, .inr (0, [.int rwnq_1, .ref rwa])), (rwa, .inl (cI, rwk, .inl rwf))] := hD
  refine lv_aload_n hx hb d_Carries_openMessage_4 rfl (lv_at hl 0 rfl) ?_
  refine lv_iconst (v := (-1)) hx hb d_Carries_openMessage_5 (by decide) ?_
  refine va_put (D := (dC, dI)) (ci := 1) (v := .int (-1)) (ty := .int) (C := "RangeCoders$Carries") (T := T_Carries) (N := 11) hx hb hg in_Carries t_Carries o_Carries n_Carries hown hK hP hD hS 0 rfl rfl 0 (by decide) (hg _ k68) (fun _ h9 => h9) rfl (by decide +kernel) rfl rfl (Nat.le_of_ble_eq_true rfl) d_Carries_openMessage_6 (fun H locs hP hD hS => ?_)
  have hP : va_P (dC, dI) vwCl [(co, .inr (1, [.int (-1), .int xpending, .long xlowq_1, .long xrangeq_1, .long xcode, .long xreadLow, .long xreadRange, .ref ri, .ref ro, .ref rw, .int xasked])), (rw, .inr (0, [.int rwnq_1, .ref rwa])), (rwa, .inl (cI, rwk, .inl rwf))] H := hP
  have hD : va_D A [(co, .inr (1, [.int (-1), .int xpending, .long xlowq_1, .long xrangeq_1, .long xcode, .long xreadLow, .long xreadRange, .ref ri, .ref ro, .ref rw, .int xasked])), (rw, .inr (0, [.int rwnq_1, .ref rwa])), (rwa, .inl (cI, rwk, .inl rwf))] := hD
  refine lv_aload_n hx hb d_Carries_openMessage_9 rfl (lv_at hl 0 rfl) ?_
  refine lv_iconst (v := 0) hx hb d_Carries_openMessage_10 (by decide) ?_
  refine va_put (D := (dC, dI)) (ci := 1) (v := .int 0) (ty := .int) (C := "RangeCoders$Carries") (T := T_Carries) (N := 11) hx hb hg in_Carries t_Carries o_Carries n_Carries hown hK hP hD hS 0 rfl rfl 1 (by decide) (hg _ k69) (fun _ h9 => h9) rfl (by decide +kernel) rfl rfl (Nat.le_of_ble_eq_true rfl) d_Carries_openMessage_11 (fun H locs hP hD hS => ?_)
  have hP : va_P (dC, dI) vwCl [(co, .inr (1, [.int (-1), .int 0, .long xlowq_1, .long xrangeq_1, .long xcode, .long xreadLow, .long xreadRange, .ref ri, .ref ro, .ref rw, .int xasked])), (rw, .inr (0, [.int rwnq_1, .ref rwa])), (rwa, .inl (cI, rwk, .inl rwf))] H := hP
  have hD : va_D A [(co, .inr (1, [.int (-1), .int 0, .long xlowq_1, .long xrangeq_1, .long xcode, .long xreadLow, .long xreadRange, .ref ri, .ref ro, .ref rw, .int xasked])), (rw, .inr (0, [.int rwnq_1, .ref rwa])), (rwa, .inl (cI, rwk, .inl rwf))] := hD
  exact my_vret hx hb hr hlocks hQ hK hS (Nat.le_refl _) (Nat.le_refl _) ((-1 : Int32), (0 : Int32), xlowq_1, xrangeq_1, rwnq_1) (by first | assumption | (subst_vars; assumption)) (hP.sub [0, 1, 2] rfl) (hD.sub [0, 1, 2] (by decide) rfl) d_Carries_openMessage_14
set_option maxHeartbeats 2000000 in
set_option maxRecDepth 100000 in
theorem c_Carries_Carries_writePart (l : Launch) (dC : Nat → ClassId) (dI : Nat → Nat → Nat) (cI cM cO : ClassId) (sz : Nat) (sl : Nat) (co : Nat) (xcache : Int32) (xpending : Int32) (xlow : Int64) (xrange : Int64) (xcode : Int64) (xreadLow : Int64) (xreadRange : Int64) (ri : Nat) (ro : Nat) (rw : Nat) (xasked : Int32) (rwn : Int32) (rwa : Nat) (rwk : Nat) (rwf : Nat → Int32) (pf : Int32) (pcc : Int32) (pt : Int32) (hrw : rOk rwn rwk) : MetVg l y_Carries_writePart (Cond.code y_Carries_writePart prog_3_method_3_code 6 none :: gw) ({ frames := 6, cells := rPh rwk, slots := rPh rwk, locals := 146 } : Room) (dC, dI) vwCl (kT cI cM cO) [.ref co, .int pf, .int pcc, .int pt] [(co, .inr (1, [.int xcache, .int xpending, .long xlow, .long xrange, .long xcode, .long xreadLow, .long xreadRange, .ref ri, .ref ro, .ref rw, .int xasked])), (rw, .inr (0, [.int rwn, .ref rwa])), (rwa, .inl (cI, rwk, .inl rwf))] sz sl (fun (u : Int32 × Int32 × Int64 × Int64 × Int32 × Nat × Nat × (Nat → Int32)) => rOk u.2.2.2.2.1 u.2.2.2.2.2.2.1) (fun (u : Int32 × Int32 × Int64 × Int64 × Int32 × Nat × Nat × (Nat → Int32)) => [(co, .inr (1, [.int u.1, .int u.2.1, .long u.2.2.1, .long u.2.2.2.1, .long xcode, .long xreadLow, .long xreadRange, .ref ri, .ref ro, .ref rw, .int xasked])), (rw, .inr (0, [.int u.2.2.2.2.1, .ref u.2.2.2.2.2.1])), (u.2.2.2.2.2.1, .inl (cI, u.2.2.2.2.2.2.1, .inl u.2.2.2.2.2.2.2))]) (rPh rwk) (fun (u : Int32 × Int32 × Int64 × Int64 × Int32 × Nat × Nat × (Nat → Int32)) => rPh u.2.2.2.2.2.2.1) := by
  refine my_ofVg (cc := prog_3_method_3_code) (n := 6) (ret := none) (by decide) rfl (Nat.le_of_ble_eq_true rfl) ?_
  intro p e s m args below meth c R Q A ls H locs hx hb hr hts hown hlocks hml hnm hR hQ hA hl hP hK hN hD hS
  have hg : ∀ w ∈ gw, w.before args s = true := fun w h => hts w (List.mem_cons_of_mem _ h)
  have hown : s.vm.findClass "RangeCoders$Carries" = some m.cls := hown
  have hl : lv_has ls 6 [(0, .ref co), (1, .int pf), (2, .int pcc), (3, .int pt)] := hl
  have hlt_hrw := rOk_lt hrw
  refine lv_iload_n hx hb d_Carries_writePart_0 rfl (lv_at hl 3 rfl) ?_
  refine lv_if_le (tgt := 14) hx hb d_Carries_writePart_1 (by decide) (fun c_1 => ?_) (fun c_1 => ?_)
  · refine lv_lconst (v := 0) hx hb d_Carries_writePart_14 (by decide) ?_
    refine lv_lstore (lv' := [(4, .long 0), (0, .ref co), (1, .int pf), (2, .int pcc), (3, .int pt)]) hx hb d_Carries_writePart_15 hl (by decide) rfl (fun ls hl => ?_)
    refine lv_aload_n hx hb d_Carries_writePart_17 rfl (lv_at hl 1 rfl) ?_
    refine lv_dup hx hb d_Carries_writePart_18 rfl ?_
    refine va_get (D := (dC, dI)) (ci := 1) (v := .long xlow) (C := "RangeCoders$Carries") (T := T_Carries) (N := 11) hx hb hg in_Carries hown hK hP 0 rfl rfl 2 (by decide) (hg _ k72) (fun x9 h9 => u_same (hg _ k73) x9 h9) rfl d_Carries_writePart_19 ?_
    refine lv_lload hx hb d_Carries_writePart_22 (lv_at hl 0 rfl) ?_
    refine lv_iload_n hx hb d_Carries_writePart_24 rfl (lv_at hl 3 rfl) ?_
    refine lv_i2l hx hb d_Carries_writePart_25 rfl ?_
    refine lv_topl (fun v_2 ev_2 => ?_)
    refine lv_lmul hx hb d_Carries_writePart_26 ?_
    refine lv_topl (fun v_3 ev_3 => ?_)
    refine lv_ladd hx hb d_Carries_writePart_27 ?_
    refine lv_topl (fun v_4 ev_4 => ?_)
    refine va_put (D := (dC, dI)) (ci := 1) (v := .long v_4) (ty := .long) (C := "RangeCoders$Carries") (T := T_Carries) (N := 11) hx hb hg in_Carries t_Carries o_Carries n_Carries hown hK hP hD hS 0 rfl rfl 2 (by decide) (hg _ k72) (fun x9 h9 => u_same (hg _ k73) x9 h9) rfl (by decide +kernel) rfl rfl (Nat.le_of_ble_eq_true rfl) d_Carries_writePart_28 (fun H locs hP hD hS => ?_)
    have hP : va_P (dC, dI) vwCl [(co, .inr (1, [.int xcache, .int xpending, .long v_4, .long xrange, .long xcode, .long xreadLow, .long xreadRange, .ref ri, .ref ro, .ref rw, .int xasked])), (rw, .inr (0, [.int rwn, .ref rwa])), (rwa, .inl (cI, rwk, .inl rwf))] H := hP
    have hD : va_D A [(co, .inr (1, [.int xcache, .int xpending, .long v_4, .long xrange, .long xcode, .long xreadLow, .long xreadRange, .ref ri, .ref ro, .ref rw, .int xasked])), (rw, .inr (0, [.int rwn, .ref rwa])), (rwa, .inl (cI, rwk, .inl rwf))] := hD
    refine lv_aload_n hx hb d_Carries_writePart_31 rfl (lv_at hl 1 rfl) ?_
    refine lv_lload hx hb d_Carries_writePart_32 (lv_at hl 0 rfl) ?_
    refine lv_iload_n hx hb d_Carries_writePart_34 rfl (lv_at hl 2 rfl) ?_
    refine lv_i2l hx hb d_Carries_writePart_35 rfl ?_
    refine lv_topl (fun v_5 ev_5 => ?_)
    refine lv_lmul hx hb d_Carries_writePart_36 ?_
    refine lv_topl (fun v_6 ev_6 => ?_)
    refine va_put (D := (dC, dI)) (ci := 1) (v := .long v_6) (ty := .long) (C := "RangeCoders$Carries") (T := T_Carries) (N := 11) hx hb hg in_Carries t_Carries o_Carries n_Carries hown hK hP hD hS 0 rfl rfl 3 (by decide) (hg _ k80) (fun x9 h9 => u_same (hg _ k81) x9 h9) rfl (by decide +kernel) rfl rfl (Nat.le_of_ble_eq_true rfl) d_Carries_writePart_37 (fun H locs hP hD hS => ?_)
    have hP : va_P (dC, dI) vwCl [(co, .inr (1, [.int xcache, .int xpending, .long v_4, .long v_6, .long xcode, .long xreadLow, .long xreadRange, .ref ri, .ref ro, .ref rw, .int xasked])), (rw, .inr (0, [.int rwn, .ref rwa])), (rwa, .inl (cI, rwk, .inl rwf))] H := hP
    have hD : va_D A [(co, .inr (1, [.int xcache, .int xpending, .long v_4, .long v_6, .long xcode, .long xreadLow, .long xreadRange, .ref ri, .ref ro, .ref rw, .int xasked])), (rw, .inr (0, [.int rwn, .ref rwa])), (rwa, .inl (cI, rwk, .inl rwf))] := hD
    refine lv_aload_n hx hb d_Carries_writePart_40 rfl (lv_at hl 1 rfl) ?_
    refine my_cvg (wr := []) (va_runV (As := []) (rest := []) ⟨hx, hb, hml, hown, hts⟩ (c_Carries_Carries_widen l dC dI cI cM cO H.size (hSl H) co xcache xpending v_4 v_6 xcode xreadLow xreadRange ri ro rw xasked rwn rwa rwk rwf (by first | assumption | omega)) (cwV 0 hts (my_gV k504 k459 k1285 k5 k460) rfl rfl rfl (by decide +kernel) ⟨by rw [hR]; exact Nat.le_of_ble_eq_true rfl, by rw [hR]; exact Nat.le_of_ble_eq_true rfl⟩) (my_preVg hK hN (hP.sub [0, 1, 2] rfl) (hD.sub [0, 1, 2] (by decide) rfl) 0 rfl rfl) rfl rfl hl.1 rfl (lv_room (Nat.le_of_ble_eq_true rfl)) d_Carries_writePart_41 ⟨by rw [hR]; exact (show 0 + (rPh rwk) ≤ (rPh rwk) by omega), by rw [hR]; exact (show 0 + (rPh rwk) ≤ (rPh rwk) by omega)⟩) hP hD hS hA [0, 1, 2] [] rfl rfl (by decide) (by decide) (fun u9 d_41 H locs hd_41 hw_41 hP hD hS => ?_)
    obtain ⟨xcacheq_41, xpendingq_41, xlowq_41, xrangeq_41, rwnq_41, rwaq_41, rwkq_41, rwfq_41⟩ := u9
    have hrw_41 : rOk rwnq_41 rwkq_41 := hw_41
    have hd_41 : d_41 + (rPh rwkq_41) ≤ (rPh rwk) := hd_41
    have hP : va_P (dC, dI) vwCl [(co, .inr (1, [.int xcacheq_41, .int xpendingq_41, .long xlowq_41, .long xrangeq_41, .long xcode, .long xreadLow, .long xreadRange, .ref ri, .ref ro, .ref rw, .int xasked])), (rw, .inr (0, [.int rwnq_41, .ref rwaq_41])), (rwaq_41, .inl (cI, rwkq_41, .inl rwfq_41))] H := hP
    have hD : va_D A [(co, .inr (1, [.int xcacheq_41, .int xpendingq_41, .long xlowq_41, .long xrangeq_41, .long xcode, .long xreadLow, .long xreadRange, .ref ri, .ref ro, .ref rw, .int xasked])), (rw, .inr (0, [.int rwnq_41, .ref rwaq_41])), (rwaq_41, .inl (cI, rwkq_41, .inl rwfq_41))] := hD
    exact my_vretg hx hb hr hlocks hQ hK hS (xcacheq_41, xpendingq_41, xlowq_41, xrangeq_41, rwnq_41, rwaq_41, rwkq_41, rwfq_41) (show (0 + d_41) + (rPh rwkq_41) ≤ (rPh rwk) by omega) (show (0 + d_41) + (rPh rwkq_41) ≤ (rPh rwk) by omega) (by first | assumption | (subst_vars; assumption)) (hP.sub [0, 1, 2] rfl) (hD.sub [0, 1, 2] (by decide) rfl) d_Carries_writePart_44
  · refine lv_aload_n hx hb d_Carries_writePart_4 rfl (lv_at hl 0 rfl) ?_
    refine va_get (D := (dC, dI)) (ci := 1) (v := .long xrange) (C := "RangeCoders$Carries") (T := T_Carries) (N := 11) hx hb hg in_Carries hown hK hP 0 rfl rfl 3 (by decide) (hg _ k80) (fun x9 h9 => u_same (hg _ k81) x9 h9) rfl d_Carries_writePart_5 ?_
    refine lv_iload_n hx hb d_Carries_writePart_8 rfl (lv_at hl 3 rfl) ?_
    refine lv_i2l hx hb d_Carries_writePart_9 rfl ?_
    refine lv_topl (fun v_7 ev_7 => ?_)
    refine lv_ldiv hx hb d_Carries_writePart_10 (by rw [ev_7]; first | exact L_nzi (by assumption) | exact L_nzip (by assumption)) ?_
    refine lv_topl (fun v_8 ev_8 => ?_)
    refine lv_goto (tgt := 15) hx hb d_Carries_writePart_11 (by decide) ?_
    refine lv_lstore (lv' := [(4, .long v_8), (0, .ref co), (1, .int pf), (2, .int pcc), (3, .int pt)]) hx hb d_Carries_writePart_15 hl (by decide) rfl (fun ls hl => ?_)
    refine lv_aload_n hx hb d_Carries_writePart_17 rfl (lv_at hl 1 rfl) ?_
    refine lv_dup hx hb d_Carries_writePart_18 rfl ?_
    refine va_get (D := (dC, dI)) (ci := 1) (v := .long xlow) (C := "RangeCoders$Carries") (T := T_Carries) (N := 11) hx hb hg in_Carries hown hK hP 0 rfl rfl 2 (by decide) (hg _ k72) (fun x9 h9 => u_same (hg _ k73) x9 h9) rfl d_Carries_writePart_19 ?_
    refine lv_lload hx hb d_Carries_writePart_22 (lv_at hl 0 rfl) ?_
    refine lv_iload_n hx hb d_Carries_writePart_24 rfl (lv_at hl 3 rfl) ?_
    refine lv_i2l hx hb d_Carries_writePart_25 rfl ?_
    refine lv_topl (fun v_9 ev_9 => ?_)
    refine lv_lmul hx hb d_Carries_writePart_26 ?_
    refine lv_topl (fun v_10 ev_10 => ?_)
    refine lv_ladd hx hb d_Carries_writePart_27 ?_
    refine lv_topl (fun v_11 ev_11 => ?_)
    refine va_put (D := (dC, dI)) (ci := 1) (v := .long v_11) (ty := .long) (C := "RangeCoders$Carries") (T := T_Carries) (N := 11) hx hb hg in_Carries t_Carries o_Carries n_Carries hown hK hP hD hS 0 rfl rfl 2 (by decide) (hg _ k72) (fun x9 h9 => u_same (hg _ k73) x9 h9) rfl (by decide +kernel) rfl rfl (Nat.le_of_ble_eq_true rfl) d_Carries_writePart_28 (fun H locs hP hD hS => ?_)
    have hP : va_P (dC, dI) vwCl [(co, .inr (1, [.int xcache, .int xpending, .long v_11, .long xrange, .long xcode, .long xreadLow, .long xreadRange, .ref ri, .ref ro, .ref rw, .int xasked])), (rw, .inr (0, [.int rwn, .ref rwa])), (rwa, .inl (cI, rwk, .inl rwf))] H := hP
    have hD : va_D A [(co, .inr (1, [.int xcache, .int xpending, .long v_11, .long xrange, .long xcode, .long xreadLow, .long xreadRange, .ref ri, .ref ro, .ref rw, .int xasked])), (rw, .inr (0, [.int rwn, .ref rwa])), (rwa, .inl (cI, rwk, .inl rwf))] := hD
    refine lv_aload_n hx hb d_Carries_writePart_31 rfl (lv_at hl 1 rfl) ?_
    refine lv_lload hx hb d_Carries_writePart_32 (lv_at hl 0 rfl) ?_
    refine lv_iload_n hx hb d_Carries_writePart_34 rfl (lv_at hl 2 rfl) ?_
    refine lv_i2l hx hb d_Carries_writePart_35 rfl ?_
    refine lv_topl (fun v_12 ev_12 => ?_)
    refine lv_lmul hx hb d_Carries_writePart_36 ?_
    refine lv_topl (fun v_13 ev_13 => ?_)
    refine va_put (D := (dC, dI)) (ci := 1) (v := .long v_13) (ty := .long) (C := "RangeCoders$Carries") (T := T_Carries) (N := 11) hx hb hg in_Carries t_Carries o_Carries n_Carries hown hK hP hD hS 0 rfl rfl 3 (by decide) (hg _ k80) (fun x9 h9 => u_same (hg _ k81) x9 h9) rfl (by decide +kernel) rfl rfl (Nat.le_of_ble_eq_true rfl) d_Carries_writePart_37 (fun H locs hP hD hS => ?_)
    have hP : va_P (dC, dI) vwCl [(co, .inr (1, [.int xcache, .int xpending, .long v_11, .long v_13, .long xcode, .long xreadLow, .long xreadRange, .ref ri, .ref ro, .ref rw, .int xasked])), (rw, .inr (0, [.int rwn, .ref rwa])), (rwa, .inl (cI, rwk, .inl rwf))] H := hP
    have hD : va_D A [(co, .inr (1, [.int xcache, .int xpending, .long v_11, .long v_13, .long xcode, .long xreadLow, .long xreadRange, .ref ri, .ref ro, .ref rw, .int xasked])), (rw, .inr (0, [.int rwn, .ref rwa])), (rwa, .inl (cI, rwk, .inl rwf))] := hD
    refine lv_aload_n hx hb d_Carries_writePart_40 rfl (lv_at hl 1 rfl) ?_
    refine my_cvg (wr := []) (va_runV (As := []) (rest := []) ⟨hx, hb, hml, hown, hts⟩ (c_Carries_Carries_widen l dC dI cI cM cO H.size (hSl H) co xcache xpending v_11 v_13 xcode xreadLow xreadRange ri ro rw xasked rwn rwa rwk rwf (by first | assumption | omega)) (cwV 0 hts (my_gV k504 k459 k1285 k5 k460) rfl rfl rfl (by decide +kernel) ⟨by rw [hR]; exact Nat.le_of_ble_eq_true rfl, by rw [hR]; exact Nat.le_of_ble_eq_true rfl⟩) (my_preVg hK hN (hP.sub [0, 1, 2] rfl) (hD.sub [0, 1, 2] (by decide) rfl) 0 rfl rfl) rfl rfl hl.1 rfl (lv_room (Nat.le_of_ble_eq_true rfl)) d_Carries_writePart_41 ⟨by rw [hR]; exact (show 0 + (rPh rwk) ≤ (rPh rwk) by omega), by rw [hR]; exact (show 0 + (rPh rwk) ≤ (rPh rwk) by omega)⟩) hP hD hS hA [0, 1, 2] [] rfl rfl (by decide) (by decide) (fun u9 d_41 H locs hd_41 hw_41 hP hD hS => ?_)
    obtain ⟨xcacheq_41, xpendingq_41, xlowq_41, xrangeq_41, rwnq_41, rwaq_41, rwkq_41, rwfq_41⟩ := u9
    have hrw_41 : rOk rwnq_41 rwkq_41 := hw_41
    have hd_41 : d_41 + (rPh rwkq_41) ≤ (rPh rwk) := hd_41
    have hP : va_P (dC, dI) vwCl [(co, .inr (1, [.int xcacheq_41, .int xpendingq_41, .long xlowq_41, .long xrangeq_41, .long xcode, .long xreadLow, .long xreadRange, .ref ri, .ref ro, .ref rw, .int xasked])), (rw, .inr (0, [.int rwnq_41, .ref rwaq_41])), (rwaq_41, .inl (cI, rwkq_41, .inl rwfq_41))] H := hP
    have hD : va_D A [(co, .inr (1, [.int xcacheq_41, .int xpendingq_41, .long xlowq_41, .long xrangeq_41, .long xcode, .long xreadLow, .long xreadRange, .ref ri, .ref ro, .ref rw, .int xasked])), (rw, .inr (0, [.int rwnq_41, .ref rwaq_41])), (rwaq_41, .inl (cI, rwkq_41, .inl rwfq_41))] := hD
    exact my_vretg hx hb hr hlocks hQ hK hS (xcacheq_41, xpendingq_41, xlowq_41, xrangeq_41, rwnq_41, rwaq_41, rwkq_41, rwfq_41) (show (0 + d_41) + (rPh rwkq_41) ≤ (rPh rwk) by omega) (show (0 + d_41) + (rPh rwkq_41) ≤ (rPh rwk) by omega) (by first | assumption | (subst_vars; assumption)) (hP.sub [0, 1, 2] rfl) (hD.sub [0, 1, 2] (by decide) rfl) d_Carries_writePart_44
set_option maxHeartbeats 2000000 in
set_option maxRecDepth 100000 in
theorem c_Carries_Carries_readPart (l : Launch) (dC : Nat → ClassId) (dI : Nat → Nat → Nat) (cI cM cO : ClassId) (sz : Nat) (co : Nat) (xcache : Int32) (xpending : Int32) (xlow : Int64) (xrange : Int64) (xcode : Int64) (xreadLow : Int64) (xreadRange : Int64) (ri : Nat) (ro : Nat) (rw : Nat) (xasked : Int32) (rin : Int32) (ria : Nat) (rik : Nat) (rif : Nat → Int32) (pf : Int32) (pcc : Int32) (pt : Int32) (hri : rOk rin rik) : MetV l y_Carries_readPart (Cond.code y_Carries_readPart prog_3_method_4_code 6 none :: gw) ({ frames := 4, cells := 0, slots := 0, locals := 84 } : Room) (dC, dI) vwCl (kT cI cM cO) [.ref co, .int pf, .int pcc, .int pt] [(co, .inr (1, [.int xcache, .int xpending, .long xlow, .long xrange, .long xcode, .long xreadLow, .long xreadRange, .ref ri, .ref ro, .ref rw, .int xasked])), (ri, .inr (0, [.int rin, .ref ria])), (ria, .inl (cI, rik, .inl rif))] sz (fun (u : Int64 × Int64 × Int32) => True) (fun (u : Int64 × Int64 × Int32) => [(co, .inr (1, [.int xcache, .int xpending, .long xlow, .long xrange, .long u.1, .long xreadLow, .long u.2.1, .ref ri, .ref ro, .ref rw, .int u.2.2])), (ri, .inr (0, [.int rin, .ref ria])), (ria, .inl (cI, rik, .inl rif))]) 0 0 := by
  refine my_ofV (cc := prog_3_method_4_code) (n := 6) (ret := none) (by decide) rfl (Nat.le_of_ble_eq_true rfl) ?_
  intro p e s m args below meth c R Q A ls H locs hx hb hr hts hown hlocks hml hnm hR hQ hA hl hP hK hN hD hS
  have hg : ∀ w ∈ gw, w.before args s = true := fun w h => hts w (List.mem_cons_of_mem _ h)
  have hown : s.vm.findClass "RangeCoders$Carries" = some m.cls := hown
  have hl : lv_has ls 6 [(0, .ref co), (1, .int pf), (2, .int pcc), (3, .int pt)] := hl
  have hlt_hri := rOk_lt hri
  refine lv_iload_n hx hb d_Carries_readPart_0 rfl (lv_at hl 3 rfl) ?_
  refine lv_if_le (tgt := 14) hx hb d_Carries_readPart_1 (by decide) (fun c_1 => ?_) (fun c_1 => ?_)
  · refine lv_lconst (v := 0) hx hb d_Carries_readPart_14 (by decide) ?_
    refine lv_lstore (lv' := [(4, .long 0), (0, .ref co), (1, .int pf), (2, .int pcc), (3, .int pt)]) hx hb d_Carries_readPart_15 hl (by decide) rfl (fun ls hl => ?_)
    refine lv_aload_n hx hb d_Carries_readPart_17 rfl (lv_at hl 1 rfl) ?_
    refine lv_dup hx hb d_Carries_readPart_18 rfl ?_
    refine va_get (D := (dC, dI)) (ci := 1) (v := .long xcode) (C := "RangeCoders$Carries") (T := T_Carries) (N := 11) hx hb hg in_Carries hown hK hP 0 rfl rfl 4 (by decide) (hg _ k86) (fun x9 h9 => u_same (hg _ k87) x9 h9) rfl d_Carries_readPart_19 ?_
    refine lv_lload hx hb d_Carries_readPart_22 (lv_at hl 0 rfl) ?_
    refine lv_iload_n hx hb d_Carries_readPart_24 rfl (lv_at hl 3 rfl) ?_
    refine lv_i2l hx hb d_Carries_readPart_25 rfl ?_
    refine lv_topl (fun v_2 ev_2 => ?_)
    refine lv_lmul hx hb d_Carries_readPart_26 ?_
    refine lv_topl (fun v_3 ev_3 => ?_)
    refine lv_lsub hx hb d_Carries_readPart_27 ?_
    refine lv_topl (fun v_4 ev_4 => ?_)
    refine va_put (D := (dC, dI)) (ci := 1) (v := .long v_4) (ty := .long) (C := "RangeCoders$Carries") (T := T_Carries) (N := 11) hx hb hg in_Carries t_Carries o_Carries n_Carries hown hK hP hD hS 0 rfl rfl 4 (by decide) (hg _ k86) (fun x9 h9 => u_same (hg _ k87) x9 h9) rfl (by decide +kernel) rfl rfl (Nat.le_of_ble_eq_true rfl) d_Carries_readPart_28 (fun H locs hP hD hS => ?_)
    have hP : va_P (dC, dI) vwCl [(co, .inr (1, [.int xcache, .int xpending, .long xlow, .long xrange, .long v_4, .long xreadLow, .long xreadRange, .ref ri, .ref ro, .ref rw, .int xasked])), (ri, .inr (0, [.int rin, .ref ria])), (ria, .inl (cI, rik, .inl rif))] H := hP
    have hD : va_D A [(co, .inr (1, [.int xcache, .int xpending, .long xlow, .long xrange, .long v_4, .long xreadLow, .long xreadRange, .ref ri, .ref ro, .ref rw, .int xasked])), (ri, .inr (0, [.int rin, .ref ria])), (ria, .inl (cI, rik, .inl rif))] := hD
    refine lv_aload_n hx hb d_Carries_readPart_31 rfl (lv_at hl 1 rfl) ?_
    refine lv_lload hx hb d_Carries_readPart_32 (lv_at hl 0 rfl) ?_
    refine lv_iload_n hx hb d_Carries_readPart_34 rfl (lv_at hl 2 rfl) ?_
    refine lv_i2l hx hb d_Carries_readPart_35 rfl ?_
    refine lv_topl (fun v_5 ev_5 => ?_)
    refine lv_lmul hx hb d_Carries_readPart_36 ?_
    refine lv_topl (fun v_6 ev_6 => ?_)
    refine va_put (D := (dC, dI)) (ci := 1) (v := .long v_6) (ty := .long) (C := "RangeCoders$Carries") (T := T_Carries) (N := 11) hx hb hg in_Carries t_Carries o_Carries n_Carries hown hK hP hD hS 0 rfl rfl 6 (by decide) (hg _ k96) (fun x9 h9 => u_same (hg _ k97) x9 h9) rfl (by decide +kernel) rfl rfl (Nat.le_of_ble_eq_true rfl) d_Carries_readPart_37 (fun H locs hP hD hS => ?_)
    have hP : va_P (dC, dI) vwCl [(co, .inr (1, [.int xcache, .int xpending, .long xlow, .long xrange, .long v_4, .long xreadLow, .long v_6, .ref ri, .ref ro, .ref rw, .int xasked])), (ri, .inr (0, [.int rin, .ref ria])), (ria, .inl (cI, rik, .inl rif))] H := hP
    have hD : va_D A [(co, .inr (1, [.int xcache, .int xpending, .long xlow, .long xrange, .long v_4, .long xreadLow, .long v_6, .ref ri, .ref ro, .ref rw, .int xasked])), (ri, .inr (0, [.int rin, .ref ria])), (ria, .inl (cI, rik, .inl rif))] := hD
    refine lv_aload_n hx hb d_Carries_readPart_40 rfl (lv_at hl 1 rfl) ?_
    refine my_cv (wr := []) (va_runV (As := []) (rest := []) ⟨hx, hb, hml, hown, hts⟩ (c_Carries_Carries_widenReading l dC dI cI cM cO H.size co xcache xpending xlow xrange v_4 xreadLow v_6 ri ro rw xasked rin ria rik rif (by first | assumption | omega)) (cwV 0 hts (my_gV k821 k793 k1292 k5 k794) rfl rfl rfl (by decide +kernel) ⟨by rw [hR]; exact Nat.le_of_ble_eq_true rfl, by rw [hR]; exact Nat.le_of_ble_eq_true rfl⟩) (my_preV hK hN (hP.sub [0, 1, 2] rfl) (hD.sub [0, 1, 2] (by decide) rfl) 0 rfl rfl) rfl rfl hl.1 rfl (lv_room (Nat.le_of_ble_eq_true rfl)) d_Carries_readPart_41 ⟨by rw [hR]; exact Nat.le_of_ble_eq_true rfl, by rw [hR]; exact Nat.le_of_ble_eq_true rfl⟩) hP hD hS hA [0, 1, 2] [] rfl rfl (by decide) (by decide) (fun u9 H locs hw_41 hP hD hS => ?_)
    obtain ⟨xcodeq_41, xreadRangeq_41, xaskedq_41⟩ := u9
    have hP : va_P (dC, dI) vwCl [(co, .inr (1, [.int xcache, .int xpending, .long xlow, .long xrange, .long xcodeq_41, .long xreadLow, .long xreadRangeq_41, .ref ri, .ref ro, .ref rw, .int xaskedq_41])), (ri, .inr (0, [.int rin, .ref ria])), (ria, .inl (cI, rik, .inl rif))] H := hP
    have hD : va_D A [(co, .inr (1, [.int xcache, .int xpending, .long xlow, .long xrange, .long xcodeq_41, .long xreadLow, .long xreadRangeq_41, .ref ri, .ref ro, .ref rw, .int xaskedq_41])), (ri, .inr (0, [.int rin, .ref ria])), (ria, .inl (cI, rik, .inl rif))] := hD
    exact my_vret hx hb hr hlocks hQ hK hS (Nat.le_refl _) (Nat.le_refl _) (xcodeq_41, xreadRangeq_41, xaskedq_41) (trivial) (hP.sub [0, 1, 2] rfl) (hD.sub [0, 1, 2] (by decide) rfl) d_Carries_readPart_44
  · refine lv_aload_n hx hb d_Carries_readPart_4 rfl (lv_at hl 0 rfl) ?_
    refine va_get (D := (dC, dI)) (ci := 1) (v := .long xreadRange) (C := "RangeCoders$Carries") (T := T_Carries) (N := 11) hx hb hg in_Carries hown hK hP 0 rfl rfl 6 (by decide) (hg _ k96) (fun x9 h9 => u_same (hg _ k97) x9 h9) rfl d_Carries_readPart_5 ?_
    refine lv_iload_n hx hb d_Carries_readPart_8 rfl (lv_at hl 3 rfl) ?_
    refine lv_i2l hx hb d_Carries_readPart_9 rfl ?_
    refine lv_topl (fun v_7 ev_7 => ?_)
    refine lv_ldiv hx hb d_Carries_readPart_10 (by rw [ev_7]; first | exact L_nzi (by assumption) | exact L_nzip (by assumption)) ?_
    refine lv_topl (fun v_8 ev_8 => ?_)
    refine lv_goto (tgt := 15) hx hb d_Carries_readPart_11 (by decide) ?_
    refine lv_lstore (lv' := [(4, .long v_8), (0, .ref co), (1, .int pf), (2, .int pcc), (3, .int pt)]) hx hb d_Carries_readPart_15 hl (by decide) rfl (fun ls hl => ?_)
    refine lv_aload_n hx hb d_Carries_readPart_17 rfl (lv_at hl 1 rfl) ?_
    refine lv_dup hx hb d_Carries_readPart_18 rfl ?_
    refine va_get (D := (dC, dI)) (ci := 1) (v := .long xcode) (C := "RangeCoders$Carries") (T := T_Carries) (N := 11) hx hb hg in_Carries hown hK hP 0 rfl rfl 4 (by decide) (hg _ k86) (fun x9 h9 => u_same (hg _ k87) x9 h9) rfl d_Carries_readPart_19 ?_
    refine lv_lload hx hb d_Carries_readPart_22 (lv_at hl 0 rfl) ?_
    refine lv_iload_n hx hb d_Carries_readPart_24 rfl (lv_at hl 3 rfl) ?_
    refine lv_i2l hx hb d_Carries_readPart_25 rfl ?_
    refine lv_topl (fun v_9 ev_9 => ?_)
    refine lv_lmul hx hb d_Carries_readPart_26 ?_
    refine lv_topl (fun v_10 ev_10 => ?_)
    refine lv_lsub hx hb d_Carries_readPart_27 ?_
    refine lv_topl (fun v_11 ev_11 => ?_)
    refine va_put (D := (dC, dI)) (ci := 1) (v := .long v_11) (ty := .long) (C := "RangeCoders$Carries") (T := T_Carries) (N := 11) hx hb hg in_Carries t_Carries o_Carries n_Carries hown hK hP hD hS 0 rfl rfl 4 (by decide) (hg _ k86) (fun x9 h9 => u_same (hg _ k87) x9 h9) rfl (by decide +kernel) rfl rfl (Nat.le_of_ble_eq_true rfl) d_Carries_readPart_28 (fun H locs hP hD hS => ?_)
    have hP : va_P (dC, dI) vwCl [(co, .inr (1, [.int xcache, .int xpending, .long xlow, .long xrange, .long v_11, .long xreadLow, .long xreadRange, .ref ri, .ref ro, .ref rw, .int xasked])), (ri, .inr (0, [.int rin, .ref ria])), (ria, .inl (cI, rik, .inl rif))] H := hP
    have hD : va_D A [(co, .inr (1, [.int xcache, .int xpending, .long xlow, .long xrange, .long v_11, .long xreadLow, .long xreadRange, .ref ri, .ref ro, .ref rw, .int xasked])), (ri, .inr (0, [.int rin, .ref ria])), (ria, .inl (cI, rik, .inl rif))] := hD
    refine lv_aload_n hx hb d_Carries_readPart_31 rfl (lv_at hl 1 rfl) ?_
    refine lv_lload hx hb d_Carries_readPart_32 (lv_at hl 0 rfl) ?_
    refine lv_iload_n hx hb d_Carries_readPart_34 rfl (lv_at hl 2 rfl) ?_
    refine lv_i2l hx hb d_Carries_readPart_35 rfl ?_
    refine lv_topl (fun v_12 ev_12 => ?_)
    refine lv_lmul hx hb d_Carries_readPart_36 ?_
    refine lv_topl (fun v_13 ev_13 => ?_)
    refine va_put (D := (dC, dI)) (ci := 1) (v := .long v_13) (ty := .long) (C := "RangeCoders$Carries") (T := T_Carries) (N := 11) hx hb hg in_Carries t_Carries o_Carries n_Carries hown hK hP hD hS 0 rfl rfl 6 (by decide) (hg _ k96) (fun x9 h9 => u_same (hg _ k97) x9 h9) rfl (by decide +kernel) rfl rfl (Nat.le_of_ble_eq_true rfl) d_Carries_readPart_37 (fun H locs hP hD hS => ?_)
    have hP : va_P (dC, dI) vwCl [(co, .inr (1, [.int xcache, .int xpending, .long xlow, .long xrange, .long v_11, .long xreadLow, .long v_13, .ref ri, .ref ro, .ref rw, .int xasked])), (ri, .inr (0, [.int rin, .ref ria])), (ria, .inl (cI, rik, .inl rif))] H := hP
    have hD : va_D A [(co, .inr (1, [.int xcache, .int xpending, .long xlow, .long xrange, .long v_11, .long xreadLow, .long v_13, .ref ri, .ref ro, .ref rw, .int xasked])), (ri, .inr (0, [.int rin, .ref ria])), (ria, .inl (cI, rik, .inl rif))] := hD
    refine lv_aload_n hx hb d_Carries_readPart_40 rfl (lv_at hl 1 rfl) ?_
    refine my_cv (wr := []) (va_runV (As := []) (rest := []) ⟨hx, hb, hml, hown, hts⟩ (c_Carries_Carries_widenReading l dC dI cI cM cO H.size co xcache xpending xlow xrange v_11 xreadLow v_13 ri ro rw xasked rin ria rik rif (by first | assumption | omega)) (cwV 0 hts (my_gV k821 k793 k1292 k5 k794) rfl rfl rfl (by decide +kernel) ⟨by rw [hR]; exact Nat.le_of_ble_eq_true rfl, by rw [hR]; exact Nat.le_of_ble_eq_true rfl⟩) (my_preV hK hN (hP.sub [0, 1, 2] rfl) (hD.sub [0, 1, 2] (by decide) rfl) 0 rfl rfl) rfl rfl hl.1 rfl (lv_room (Nat.le_of_ble_eq_true rfl)) d_Carries_readPart_41 ⟨by rw [hR]; exact Nat.le_of_ble_eq_true rfl, by rw [hR]; exact Nat.le_of_ble_eq_true rfl⟩) hP hD hS hA [0, 1, 2] [] rfl rfl (by decide) (by decide) (fun u9 H locs hw_41 hP hD hS => ?_)
    obtain ⟨xcodeq_41, xreadRangeq_41, xaskedq_41⟩ := u9
    have hP : va_P (dC, dI) vwCl [(co, .inr (1, [.int xcache, .int xpending, .long xlow, .long xrange, .long xcodeq_41, .long xreadLow, .long xreadRangeq_41, .ref ri, .ref ro, .ref rw, .int xaskedq_41])), (ri, .inr (0, [.int rin, .ref ria])), (ria, .inl (cI, rik, .inl rif))] H := hP
    have hD : va_D A [(co, .inr (1, [.int xcache, .int xpending, .long xlow, .long xrange, .long xcodeq_41, .long xreadLow, .long xreadRangeq_41, .ref ri, .ref ro, .ref rw, .int xaskedq_41])), (ri, .inr (0, [.int rin, .ref ria])), (ria, .inl (cI, rik, .inl rif))] := hD
    exact my_vret hx hb hr hlocks hQ hK hS (Nat.le_refl _) (Nat.le_refl _) (xcodeq_41, xreadRangeq_41, xaskedq_41) (trivial) (hP.sub [0, 1, 2] rfl) (hD.sub [0, 1, 2] (by decide) rfl) d_Carries_readPart_44
set_option maxHeartbeats 2000000 in
set_option maxRecDepth 100000 in
theorem c_Carries_Ranged_prepare (l : Launch) (dC : Nat → ClassId) (dI : Nat → Nat → Nat) (cI cM cO : ClassId) (sz : Nat) (co : Nat) (xcache : Int32) (xpending : Int32) (xlow : Int64) (xrange : Int64) (xcode : Int64) (xreadLow : Int64) (xreadRange : Int64) (ri : Nat) (ro : Nat) (rw : Nat) (xasked : Int32) (oo : Nat) (osg : Int32) (osm : Int32) (ofc : Int32) (oca : Nat) (opa : Nat) (ol : Nat) (ocf : Nat → Int32) (opl : Nat) (opf : Nat → Int32) (ka : Nat) (kl : Nat) (kf : Nat → Int32) (hol : ol ≤ 64) (hopl : opl ≤ 512) (hkl : kl ≤ 64) : MetV l y_Ranged_prepare (Cond.code y_Ranged_prepare prog_8_method_5_code 3 none :: gw) ({ frames := 2, cells := 0, slots := 0, locals := 44 } : Room) (dC, dI) vwCl (kT cI cM cO) [.ref co, .ref oo, .ref ka] [(co, .inr (1, [.int xcache, .int xpending, .long xlow, .long xrange, .long xcode, .long xreadLow, .long xreadRange, .ref ri, .ref ro, .ref rw, .int xasked])), (oo, .inr (7, [.int osg, .int osm, .int ofc, .ref oca, .ref opa])), (oca, .inl (cI, ol, .inl ocf)), (opa, .inl (cI, opl, .inl opf)), (ka, .inl (cI, kl, .inl kf))] sz (fun (u : Int32 × (Nat → Int32)) => True) (fun (u : Int32 × (Nat → Int32)) => [(co, .inr (1, [.int xcache, .int xpending, .long xlow, .long xrange, .long xcode, .long xreadLow, .long xreadRange, .ref ri, .ref ro, .ref rw, .int xasked])), (oo, .inr (7, [.int osg, .int u.1, .int ofc, .ref oca, .ref opa])), (oca, .inl (cI, ol, .inl u.2)), (opa, .inl (cI, opl, .inl opf)), (ka, .inl (cI, kl, .inl kf))]) 0 0 := by
  refine my_ofV (cc := prog_8_method_5_code) (n := 3) (ret := none) (by decide) rfl (Nat.le_of_ble_eq_true rfl) ?_
  intro p e s m args below meth c R Q A ls H locs hx hb hr hts hown hlocks hml hnm hR hQ hA hl hP hK hN hD hS
  have hg : ∀ w ∈ gw, w.before args s = true := fun w h => hts w (List.mem_cons_of_mem _ h)
  have hown : s.vm.findClass "RangeCoders$Ranged" = some m.cls := hown
  have hl : lv_has ls 3 [(0, .ref co), (1, .ref oo), (2, .ref ka)] := hl
  refine lv_aload_n hx hb d_Ranged_prepare_0 rfl (lv_at hl 1 rfl) ?_
  refine lv_aload_n hx hb d_Ranged_prepare_1 rfl (lv_at hl 2 rfl) ?_
  refine my_cv (wr := [(co, .inr (1, [.int xcache, .int xpending, .long xlow, .long xrange, .long xcode, .long xreadLow, .long xreadRange, .ref ri, .ref ro, .ref rw, .int xasked]))]) (va_runV (As := [.ref ka]) (rest := []) ⟨hx, hb, hml, hown, hts⟩ (c_Odds_fromCounts l dC dI cI cM cO H.size oo osg osm ofc oca opa ol ocf opl opf ka kl kf (by first | assumption | omega) (by first | assumption | omega) (by first | assumption | omega)) (cwV 1 hts (my_gV k367 k368 k369 k14 k370) rfl rfl rfl (by decide +kernel) ⟨by rw [hR]; exact Nat.le_of_ble_eq_true rfl, by rw [hR]; exact Nat.le_of_ble_eq_true rfl⟩) (my_preV hK hN (hP.sub [1, 2, 3, 4] rfl) (hD.sub [1, 2, 3, 4] (by decide) rfl) 0 rfl rfl) rfl rfl hl.1 rfl (lv_room (Nat.le_of_ble_eq_true rfl)) d_Ranged_prepare_2 ⟨by rw [hR]; exact Nat.le_of_ble_eq_true rfl, by rw [hR]; exact Nat.le_of_ble_eq_true rfl⟩) hP hD hS hA [1, 2, 3, 4] [0] rfl rfl (by decide) (by decide) (fun u9 H locs hw_2 hP hD hS => ?_)
  obtain ⟨osmq_2, ocfq_2⟩ := u9
  have hP : va_P (dC, dI) vwCl [(co, .inr (1, [.int xcache, .int xpending, .long xlow, .long xrange, .long xcode, .long xreadLow, .long xreadRange, .ref ri, .ref ro, .ref rw, .int xasked])), (oo, .inr (7, [.int osg, .int osmq_2, .int ofc, .ref oca, .ref opa])), (oca, .inl (cI, ol, .inl ocfq_2)), (opa, .inl (cI, opl, .inl opf)), (ka, .inl (cI, kl, .inl kf))] H := hP
  have hD : va_D A [(co, .inr (1, [.int xcache, .int xpending, .long xlow, .long xrange, .long xcode, .long xreadLow, .long xreadRange, .ref ri, .ref ro, .ref rw, .int xasked])), (oo, .inr (7, [.int osg, .int osmq_2, .int ofc, .ref oca, .ref opa])), (oca, .inl (cI, ol, .inl ocfq_2)), (opa, .inl (cI, opl, .inl opf)), (ka, .inl (cI, kl, .inl kf))] := hD
  exact my_vret hx hb hr hlocks hQ hK hS (Nat.le_refl _) (Nat.le_refl _) (osmq_2, ocfq_2) (trivial) (hP.sub [0, 1, 2, 3, 4] rfl) (hD.sub [0, 1, 2, 3, 4] (by decide) rfl) d_Ranged_prepare_5
set_option maxHeartbeats 2000000 in
set_option maxRecDepth 100000 in
theorem c_Carries_Ranged_writeSign (l : Launch) (dC : Nat → ClassId) (dI : Nat → Nat → Nat) (cI cM cO : ClassId) (sz : Nat) (sl : Nat) (co : Nat) (xcache : Int32) (xpending : Int32) (xlow : Int64) (xrange : Int64) (xcode : Int64) (xreadLow : Int64) (xreadRange : Int64) (ri : Nat) (ro : Nat) (rw : Nat) (xasked : Int32) (rwn : Int32) (rwa : Nat) (rwk : Nat) (rwf : Nat → Int32) (oo : Nat) (osg : Int32) (osm : Int32) (ofc : Int32) (oca : Nat) (opa : Nat) (ol : Nat) (ocf : Nat → Int32) (opl : Nat) (opf : Nat → Int32) (ii : Int32) (hrw : rOk rwn rwk) (hol : ol ≤ 64) (hopl : opl ≤ 512) : MetVg l y_Ranged_writeSign (Cond.code y_Ranged_writeSign prog_8_method_7_code 3 none :: gw) ({ frames := 7, cells := rPh rwk, slots := rPh rwk, locals := 171 } : Room) (dC, dI) vwCl (kT cI cM cO) [.ref co, .ref oo, .int ii] [(co, .inr (1, [.int xcache, .int xpending, .long xlow, .long xrange, .long xcode, .long xreadLow, .long xreadRange, .ref ri, .ref ro, .ref rw, .int xasked])), (rw, .inr (0, [.int rwn, .ref rwa])), (rwa, .inl (cI, rwk, .inl rwf)), (oo, .inr (7, [.int osg, .int osm, .int ofc, .ref oca, .ref opa])), (oca, .inl (cI, ol, .inl ocf)), (opa, .inl (cI, opl, .inl opf))] sz sl (fun (u : Int32 × Int32 × Int64 × Int64 × Int32 × Nat × Nat × (Nat → Int32) × Int32 × (Nat → Int32)) => rOk u.2.2.2.2.1 u.2.2.2.2.2.2.1) (fun (u : Int32 × Int32 × Int64 × Int64 × Int32 × Nat × Nat × (Nat → Int32) × Int32 × (Nat → Int32)) => [(co, .inr (1, [.int u.1, .int u.2.1, .long u.2.2.1, .long u.2.2.2.1, .long xcode, .long xreadLow, .long xreadRange, .ref ri, .ref ro, .ref rw, .int xasked])), (rw, .inr (0, [.int u.2.2.2.2.1, .ref u.2.2.2.2.2.1])), (u.2.2.2.2.2.1, .inl (cI, u.2.2.2.2.2.2.1, .inl u.2.2.2.2.2.2.2.1)), (oo, .inr (7, [.int osg, .int u.2.2.2.2.2.2.2.2.1, .int ofc, .ref oca, .ref opa])), (oca, .inl (cI, ol, .inl u.2.2.2.2.2.2.2.2.2)), (opa, .inl (cI, opl, .inl opf))]) (rPh rwk) (fun (u : Int32 × Int32 × Int64 × Int64 × Int32 × Nat × Nat × (Nat → Int32) × Int32 × (Nat → Int32)) => rPh u.2.2.2.2.2.2.1) := by
  refine my_ofVg (cc := prog_8_method_7_code) (n := 3) (ret := none) (by decide) rfl (Nat.le_of_ble_eq_true rfl) ?_
  intro p e s m args below meth c R Q A ls H locs hx hb hr hts hown hlocks hml hnm hR hQ hA hl hP hK hN hD hS
  have hg : ∀ w ∈ gw, w.before args s = true := fun w h => hts w (List.mem_cons_of_mem _ h)
  have hown : s.vm.findClass "RangeCoders$Ranged" = some m.cls := hown
  have hl : lv_has ls 3 [(0, .ref co), (1, .ref oo), (2, .int ii)] := hl
  have hlt_hrw := rOk_lt hrw
  refine lv_aload_n hx hb d_Ranged_writeSign_0 rfl (lv_at hl 0 rfl) ?_
  refine lv_aload_n hx hb d_Ranged_writeSign_1 rfl (lv_at hl 1 rfl) ?_
  refine lv_iload_n hx hb d_Ranged_writeSign_2 rfl (lv_at hl 2 rfl) ?_
  refine my_ci (wr := [(co, .inr (1, [.int xcache, .int xpending, .long xlow, .long xrange, .long xcode, .long xreadLow, .long xreadRange, .ref ri, .ref ro, .ref rw, .int xasked])), (rw, .inr (0, [.int rwn, .ref rwa])), (rwa, .inl (cI, rwk, .inl rwf))]) (va_runV (As := [.int ii]) (rest := [.ref co]) ⟨hx, hb, hml, hown, hts⟩ (c_Odds_at l dC dI cI cM cO H.size oo osg osm ofc oca opa ol ocf opl opf ii (by first | assumption | omega) (by first | assumption | omega)) (cwV 1 hts (my_gV k493 k436 k437 k14 k438) rfl rfl rfl (by decide +kernel) ⟨by rw [hR]; exact Nat.le_of_ble_eq_true rfl, by rw [hR]; exact Nat.le_of_ble_eq_true rfl⟩) (my_preV hK hN (hP.sub [3, 4, 5] rfl) (hD.sub [3, 4, 5] (by decide) rfl) 0 rfl rfl) rfl rfl hl.1 rfl (lv_room (Nat.le_of_ble_eq_true rfl)) d_Ranged_writeSign_3 ⟨by rw [hR]; exact (show 0 + 0 ≤ (rPh rwk) by omega), by rw [hR]; exact (show 0 + 0 ≤ (rPh rwk) by omega)⟩) hP hD hS hA [3, 4, 5] [0, 1, 2] rfl rfl (by decide) (by decide) (fun r_3 u9 H locs hw_3 hP hD hS => ?_)
  have hP : va_P (dC, dI) vwCl [(co, .inr (1, [.int xcache, .int xpending, .long xlow, .long xrange, .long xcode, .long xreadLow, .long xreadRange, .ref ri, .ref ro, .ref rw, .int xasked])), (rw, .inr (0, [.int rwn, .ref rwa])), (rwa, .inl (cI, rwk, .inl rwf)), (oo, .inr (7, [.int osg, .int osm, .int ofc, .ref oca, .ref opa])), (oca, .inl (cI, ol, .inl ocf)), (opa, .inl (cI, opl, .inl opf))] H := hP
  have hD : va_D A [(co, .inr (1, [.int xcache, .int xpending, .long xlow, .long xrange, .long xcode, .long xreadLow, .long xreadRange, .ref ri, .ref ro, .ref rw, .int xasked])), (rw, .inr (0, [.int rwn, .ref rwa])), (rwa, .inl (cI, rwk, .inl rwf)), (oo, .inr (7, [.int osg, .int osm, .int ofc, .ref oca, .ref opa])), (oca, .inl (cI, ol, .inl ocf)), (opa, .inl (cI, opl, .inl opf))] := hD
  refine lv_aload_n hx hb d_Ranged_writeSign_6 rfl (lv_at hl 1 rfl) ?_
  refine lv_iload_n hx hb d_Ranged_writeSign_7 rfl (lv_at hl 2 rfl) ?_
  refine my_ci (wr := [(co, .inr (1, [.int xcache, .int xpending, .long xlow, .long xrange, .long xcode, .long xreadLow, .long xreadRange, .ref ri, .ref ro, .ref rw, .int xasked])), (rw, .inr (0, [.int rwn, .ref rwa])), (rwa, .inl (cI, rwk, .inl rwf))]) (va_runV (As := [.int ii]) (rest := [.int r_3, .ref co]) ⟨hx, hb, hml, hown, hts⟩ (c_Odds_below l dC dI cI cM cO H.size oo osg osm ofc oca opa ol ocf opl opf ii (by first | assumption | omega) (by first | assumption | omega)) (cwV 1 hts (my_gV k494 k495 k496 k14 k497) rfl rfl rfl (by decide +kernel) ⟨by rw [hR]; exact Nat.le_of_ble_eq_true rfl, by rw [hR]; exact Nat.le_of_ble_eq_true rfl⟩) (my_preV hK hN (hP.sub [3, 4, 5] rfl) (hD.sub [3, 4, 5] (by decide) rfl) 0 rfl rfl) rfl rfl hl.1 rfl (lv_room (Nat.le_of_ble_eq_true rfl)) d_Ranged_writeSign_8 ⟨by rw [hR]; exact (show 0 + 0 ≤ (rPh rwk) by omega), by rw [hR]; exact (show 0 + 0 ≤ (rPh rwk) by omega)⟩) hP hD hS hA [3, 4, 5] [0, 1, 2] rfl rfl (by decide) (by decide) (fun r_8 u9 H locs hw_8 hP hD hS => ?_)
  have hP : va_P (dC, dI) vwCl [(co, .inr (1, [.int xcache, .int xpending, .long xlow, .long xrange, .long xcode, .long xreadLow, .long xreadRange, .ref ri, .ref ro, .ref rw, .int xasked])), (rw, .inr (0, [.int rwn, .ref rwa])), (rwa, .inl (cI, rwk, .inl rwf)), (oo, .inr (7, [.int osg, .int osm, .int ofc, .ref oca, .ref opa])), (oca, .inl (cI, ol, .inl ocf)), (opa, .inl (cI, opl, .inl opf))] H := hP
  have hD : va_D A [(co, .inr (1, [.int xcache, .int xpending, .long xlow, .long xrange, .long xcode, .long xreadLow, .long xreadRange, .ref ri, .ref ro, .ref rw, .int xasked])), (rw, .inr (0, [.int rwn, .ref rwa])), (rwa, .inl (cI, rwk, .inl rwf)), (oo, .inr (7, [.int osg, .int osm, .int ofc, .ref oca, .ref opa])), (oca, .inl (cI, ol, .inl ocf)), (opa, .inl (cI, opl, .inl opf))] := hD
  refine lv_aload_n hx hb d_Ranged_writeSign_11 rfl (lv_at hl 1 rfl) ?_
  refine va_get (D := (dC, dI)) (ci := 7) (v := .int osm) (C := "RangeCoders$Odds") (T := T_Odds) (N := 5) hx hb hg in_Odds hown hK hP 3 rfl rfl 1 (by decide) (hg _ k306) (fun _ h9 => h9) rfl d_Ranged_writeSign_12 ?_
  refine my_cvg (wr := [(oo, .inr (7, [.int osg, .int osm, .int ofc, .ref oca, .ref opa])), (oca, .inl (cI, ol, .inl ocf)), (opa, .inl (cI, opl, .inl opf))]) (va_runU (As := [.int r_3, .int r_8, .int osm]) (rest := []) ⟨hx, hb, hml, hown, hts⟩ (c_Carries_Carries_writePart l dC dI cI cM cO H.size (hSl H) co xcache xpending xlow xrange xcode xreadLow xreadRange ri ro rw xasked rwn rwa rwk rwf r_3 r_8 osm (by first | assumption | omega)) (va_cwA 3 hts (my_gU k498 k500 k505 k502 k5 k503) rfl rfl rfl (hN.1 _ j499 rfl) (by decide +kernel) ⟨by rw [hR]; exact Nat.le_of_ble_eq_true rfl, by rw [hR]; exact Nat.le_of_ble_eq_true rfl⟩) (my_preVg hK hN (hP.sub [0, 1, 2] rfl) (hD.sub [0, 1, 2] (by decide) rfl) 0 rfl rfl) rfl rfl hl.1 rfl (lv_room (Nat.le_of_ble_eq_true rfl)) d_Ranged_writeSign_15 ⟨by rw [hR]; exact (show 0 + (rPh rwk) ≤ (rPh rwk) by omega), by rw [hR]; exact (show 0 + (rPh rwk) ≤ (rPh rwk) by omega)⟩) hP hD hS hA [0, 1, 2] [3, 4, 5] rfl rfl (by decide) (by decide) (fun u9 d_15 H locs hd_15 hw_15 hP hD hS => ?_)
  obtain ⟨xcacheq_15, xpendingq_15, xlowq_15, xrangeq_15, rwnq_15, rwaq_15, rwkq_15, rwfq_15⟩ := u9
  have hrw_15 : rOk rwnq_15 rwkq_15 := hw_15
  have hd_15 : d_15 + (rPh rwkq_15) ≤ (rPh rwk) := hd_15
  have hP : va_P (dC, dI) vwCl [(oo, .inr (7, [.int osg, .int osm, .int ofc, .ref oca, .ref opa])), (oca, .inl (cI, ol, .inl ocf)), (opa, .inl (cI, opl, .inl opf)), (co, .inr (1, [.int xcacheq_15, .int xpendingq_15, .long xlowq_15, .long xrangeq_15, .long xcode, .long xreadLow, .long xreadRange, .ref ri, .ref ro, .ref rw, .int xasked])), (rw, .inr (0, [.int rwnq_15, .ref rwaq_15])), (rwaq_15, .inl (cI, rwkq_15, .inl rwfq_15))] H := hP
  have hD : va_D A [(oo, .inr (7, [.int osg, .int osm, .int ofc, .ref oca, .ref opa])), (oca, .inl (cI, ol, .inl ocf)), (opa, .inl (cI, opl, .inl opf)), (co, .inr (1, [.int xcacheq_15, .int xpendingq_15, .long xlowq_15, .long xrangeq_15, .long xcode, .long xreadLow, .long xreadRange, .ref ri, .ref ro, .ref rw, .int xasked])), (rw, .inr (0, [.int rwnq_15, .ref rwaq_15])), (rwaq_15, .inl (cI, rwkq_15, .inl rwfq_15))] := hD
  refine lv_aload_n hx hb d_Ranged_writeSign_18 rfl (lv_at hl 1 rfl) ?_
  refine lv_iload_n hx hb d_Ranged_writeSign_19 rfl (lv_at hl 2 rfl) ?_
  refine my_cv (wr := [(co, .inr (1, [.int xcacheq_15, .int xpendingq_15, .long xlowq_15, .long xrangeq_15, .long xcode, .long xreadLow, .long xreadRange, .ref ri, .ref ro, .ref rw, .int xasked])), (rw, .inr (0, [.int rwnq_15, .ref rwaq_15])), (rwaq_15, .inl (cI, rwkq_15, .inl rwfq_15))]) (va_runV (As := [.int ii]) (rest := []) ⟨hx, hb, hml, hown, hts⟩ (c_Odds_learn l dC dI cI cM cO H.size oo osg osm ofc oca opa ol ocf opl opf ii (by first | assumption | omega) (by first | assumption | omega)) (cwV 1 hts (my_gV k526 k527 k528 k14 k529) rfl rfl rfl (by decide +kernel) ⟨by rw [hR]; exact Nat.le_of_ble_eq_true rfl, by rw [hR]; exact Nat.le_of_ble_eq_true rfl⟩) (my_preV hK hN (hP.sub [0, 1, 2] rfl) (hD.sub [0, 1, 2] (by decide) rfl) 0 rfl rfl) rfl rfl hl.1 rfl (lv_room (Nat.le_of_ble_eq_true rfl)) d_Ranged_writeSign_20 ⟨by rw [hR]; exact (show (0 + d_15) + 0 ≤ (rPh rwk) by omega), by rw [hR]; exact (show (0 + d_15) + 0 ≤ (rPh rwk) by omega)⟩) hP hD hS hA [0, 1, 2] [3, 4, 5] rfl rfl (by decide) (by decide) (fun u9 H locs hw_20 hP hD hS => ?_)
  obtain ⟨osmq_20, ocfq_20⟩ := u9
  have hP : va_P (dC, dI) vwCl [(co, .inr (1, [.int xcacheq_15, .int xpendingq_15, .long xlowq_15, .long xrangeq_15, .long xcode, .long xreadLow, .long xreadRange, .ref ri, .ref ro, .ref rw, .int xasked])), (rw, .inr (0, [.int rwnq_15, .ref rwaq_15])), (rwaq_15, .inl (cI, rwkq_15, .inl rwfq_15)), (oo, .inr (7, [.int osg, .int osmq_20, .int ofc, .ref oca, .ref opa])), (oca, .inl (cI, ol, .inl ocfq_20)), (opa, .inl (cI, opl, .inl opf))] H := hP
  have hD : va_D A [(co, .inr (1, [.int xcacheq_15, .int xpendingq_15, .long xlowq_15, .long xrangeq_15, .long xcode, .long xreadLow, .long xreadRange, .ref ri, .ref ro, .ref rw, .int xasked])), (rw, .inr (0, [.int rwnq_15, .ref rwaq_15])), (rwaq_15, .inl (cI, rwkq_15, .inl rwfq_15)), (oo, .inr (7, [.int osg, .int osmq_20, .int ofc, .ref oca, .ref opa])), (oca, .inl (cI, ol, .inl ocfq_20)), (opa, .inl (cI, opl, .inl opf))] := hD
  exact my_vretg hx hb hr hlocks hQ hK hS (xcacheq_15, xpendingq_15, xlowq_15, xrangeq_15, rwnq_15, rwaq_15, rwkq_15, rwfq_15, osmq_20, ocfq_20) (show (0 + d_15) + (rPh rwkq_15) ≤ (rPh rwk) by omega) (show (0 + d_15) + (rPh rwkq_15) ≤ (rPh rwk) by omega) (by first | assumption | (subst_vars; assumption)) (hP.sub [0, 1, 2, 3, 4, 5] rfl) (hD.sub [0, 1, 2, 3, 4, 5] (by decide) rfl) d_Ranged_writeSign_23
set_option maxHeartbeats 2000000 in
set_option maxRecDepth 100000 in
theorem c_Carries_Ranged_writeValue (l : Launch) (dC : Nat → ClassId) (dI : Nat → Nat → Nat) (cI cM cO : ClassId) (sz : Nat) (sl : Nat) (co : Nat) (xcache : Int32) (xpending : Int32) (xlow : Int64) (xrange : Int64) (xcode : Int64) (xreadLow : Int64) (xreadRange : Int64) (ri : Nat) (ro : Nat) (rw : Nat) (xasked : Int32) (rwn : Int32) (rwa : Nat) (rwk : Nat) (rwf : Nat → Int32) (vv : Int32) (wd : Int32) (hrw : rOk rwn rwk) : MetVg l y_Ranged_writeValue (Cond.code y_Ranged_writeValue prog_8_method_8_code 3 none :: gw) ({ frames := 7, cells := rPh rwk, slots := rPh rwk, locals := 171 } : Room) (dC, dI) vwCl (kT cI cM cO) [.ref co, .int vv, .int wd] [(co, .inr (1, [.int xcache, .int xpending, .long xlow, .long xrange, .long xcode, .long xreadLow, .long xreadRange, .ref ri, .ref ro, .ref rw, .int xasked])), (rw, .inr (0, [.int rwn, .ref rwa])), (rwa, .inl (cI, rwk, .inl rwf))] sz sl (fun (u : Int32 × Int32 × Int64 × Int64 × Int32 × Nat × Nat × (Nat → Int32)) => rOk u.2.2.2.2.1 u.2.2.2.2.2.2.1) (fun (u : Int32 × Int32 × Int64 × Int64 × Int32 × Nat × Nat × (Nat → Int32)) => [(co, .inr (1, [.int u.1, .int u.2.1, .long u.2.2.1, .long u.2.2.2.1, .long xcode, .long xreadLow, .long xreadRange, .ref ri, .ref ro, .ref rw, .int xasked])), (rw, .inr (0, [.int u.2.2.2.2.1, .ref u.2.2.2.2.2.1])), (u.2.2.2.2.2.1, .inl (cI, u.2.2.2.2.2.2.1, .inl u.2.2.2.2.2.2.2))]) (rPh rwk) (fun (u : Int32 × Int32 × Int64 × Int64 × Int32 × Nat × Nat × (Nat → Int32)) => rPh u.2.2.2.2.2.2.1) := by
  refine my_ofVg (cc := prog_8_method_8_code) (n := 3) (ret := none) (by decide) rfl (Nat.le_of_ble_eq_true rfl) ?_
  intro p e s m args below meth c R Q A ls H locs hx hb hr hts hown hlocks hml hnm hR hQ hA hl hP hK hN hD hS
  have hg : ∀ w ∈ gw, w.before args s = true := fun w h => hts w (List.mem_cons_of_mem _ h)
  have hown : s.vm.findClass "RangeCoders$Ranged" = some m.cls := hown
  have hl : lv_has ls 3 [(0, .ref co), (1, .int vv), (2, .int wd)] := hl
  have hlt_hrw := rOk_lt hrw
  refine lv_aload_n hx hb d_Ranged_writeValue_0 rfl (lv_at hl 0 rfl) ?_
  refine lv_iconst (v := 1) hx hb d_Ranged_writeValue_1 (by decide) ?_
  refine lv_iload_n hx hb d_Ranged_writeValue_2 rfl (lv_at hl 1 rfl) ?_
  refine lv_iconst (v := 1) hx hb d_Ranged_writeValue_3 (by decide) ?_
  refine lv_iload_n hx hb d_Ranged_writeValue_4 rfl (lv_at hl 2 rfl) ?_
  refine lv_ishl hx hb d_Ranged_writeValue_5 ?_
  refine lv_topi (fun v_1 ev_1 => ?_)
  refine my_cvg (wr := []) (va_runU (As := [.int 1, .int vv, .int v_1]) (rest := []) ⟨hx, hb, hml, hown, hts⟩ (c_Carries_Carries_writePart l dC dI cI cM cO H.size (hSl H) co xcache xpending xlow xrange xcode xreadLow xreadRange ri ro rw xasked rwn rwa rwk rwf 1 vv v_1 (by first | assumption | omega)) (va_cwA 3 hts (my_gU k498 k500 k505 k502 k5 k503) rfl rfl rfl (hN.1 _ j499 rfl) (by decide +kernel) ⟨by rw [hR]; exact Nat.le_of_ble_eq_true rfl, by rw [hR]; exact Nat.le_of_ble_eq_true rfl⟩) (my_preVg hK hN (hP.sub [0, 1, 2] rfl) (hD.sub [0, 1, 2] (by decide) rfl) 0 rfl rfl) rfl rfl hl.1 rfl (lv_room (Nat.le_of_ble_eq_true rfl)) d_Ranged_writeValue_6 ⟨by rw [hR]; exact (show 0 + (rPh rwk) ≤ (rPh rwk) by omega), by rw [hR]; exact (show 0 + (rPh rwk) ≤ (rPh rwk) by omega)⟩) hP hD hS hA [0, 1, 2] [] rfl rfl (by decide) (by decide) (fun u9 d_6 H locs hd_6 hw_6 hP hD hS => ?_)
  obtain ⟨xcacheq_6, xpendingq_6, xlowq_6, xrangeq_6, rwnq_6, rwaq_6, rwkq_6, rwfq_6⟩ := u9
  have hrw_6 : rOk rwnq_6 rwkq_6 := hw_6
  have hd_6 : d_6 + (rPh rwkq_6) ≤ (rPh rwk) := hd_6
  have hP : va_P (dC, dI) vwCl [(co, .inr (1, [.int xcacheq_6, .int xpendingq_6, .long xlowq_6, .long xrangeq_6, .long xcode, .long xreadLow, .long xreadRange, .ref ri, .ref ro, .ref rw, .int xasked])), (rw, .inr (0, [.int rwnq_6, .ref rwaq_6])), (rwaq_6, .inl (cI, rwkq_6, .inl rwfq_6))] H := hP
  have hD : va_D A [(co, .inr (1, [.int xcacheq_6, .int xpendingq_6, .long xlowq_6, .long xrangeq_6, .long xcode, .long xreadLow, .long xreadRange, .ref ri, .ref ro, .ref rw, .int xasked])), (rw, .inr (0, [.int rwnq_6, .ref rwaq_6])), (rwaq_6, .inl (cI, rwkq_6, .inl rwfq_6))] := hD
  exact my_vretg hx hb hr hlocks hQ hK hS (xcacheq_6, xpendingq_6, xlowq_6, xrangeq_6, rwnq_6, rwaq_6, rwkq_6, rwfq_6) (show (0 + d_6) + (rPh rwkq_6) ≤ (rPh rwk) by omega) (show (0 + d_6) + (rPh rwkq_6) ≤ (rPh rwk) by omega) (by first | assumption | (subst_vars; assumption)) (hP.sub [0, 1, 2] rfl) (hD.sub [0, 1, 2] (by decide) rfl) d_Ranged_writeValue_9
set_option maxHeartbeats 2000000 in
set_option maxRecDepth 100000 in
theorem c_Carries_Ranged_nextShare (l : Launch) (dC : Nat → ClassId) (dI : Nat → Nat → Nat) (cI cM cO : ClassId) (sz : Nat) (co : Nat) (xcache : Int32) (xpending : Int32) (xlow : Int64) (xrange : Int64) (xcode : Int64) (xreadLow : Int64) (xreadRange : Int64) (ri : Nat) (ro : Nat) (rw : Nat) (xasked : Int32) (pt : Int32) : MetI l y_Ranged_nextShare (Cond.code y_Ranged_nextShare prog_8_method_14_code 6 (some .int) :: gw) ({ frames := 0, cells := 0, slots := 0, locals := 0 } : Room) (dC, dI) vwCl (kT cI cM cO) [.ref co, .int pt] [(co, .inr (1, [.int xcache, .int xpending, .long xlow, .long xrange, .long xcode, .long xreadLow, .long xreadRange, .ref ri, .ref ro, .ref rw, .int xasked]))] sz (fun (r : Int32) (u : Unit) => True) (fun (u : Unit) => [(co, .inr (1, [.int xcache, .int xpending, .long xlow, .long xrange, .long xcode, .long xreadLow, .long xreadRange, .ref ri, .ref ro, .ref rw, .int xasked]))]) 0 0 := by
  refine my_ofI (cc := prog_8_method_14_code) (n := 6) (ret := (some .int)) (by decide) rfl (Nat.le_of_ble_eq_true rfl) ?_
  intro p e s m args below meth c R Q A ls H locs hx hb hr hts hown hlocks hml hnm hR hQ hA hl hP hK hN hD hS
  have hg : ∀ w ∈ gw, w.before args s = true := fun w h => hts w (List.mem_cons_of_mem _ h)
  have hown : s.vm.findClass "RangeCoders$Ranged" = some m.cls := hown
  have hl : lv_has ls 6 [(0, .ref co), (1, .int pt)] := hl
  refine lv_iload_n hx hb d_Ranged_nextShare_0 rfl (lv_at hl 1 rfl) ?_
  refine lv_if_le (tgt := 14) hx hb d_Ranged_nextShare_1 (by decide) (fun c_1 => ?_) (fun c_1 => ?_)
  · refine lv_lconst (v := 0) hx hb d_Ranged_nextShare_14 (by decide) ?_
    refine lv_lstore_n (lv' := [(2, .long 0), (0, .ref co), (1, .int pt)]) hx hb d_Ranged_nextShare_15 rfl hl (by decide) rfl (fun ls hl => ?_)
    refine lv_lload_n hx hb d_Ranged_nextShare_16 rfl (lv_at hl 0 rfl) ?_
    refine lv_lconst (v := 0) hx hb d_Ranged_nextShare_17 (by decide) ?_
    refine W.lcmp hx hb d_Ranged_nextShare_18 ?_
    refine lv_if_gt (tgt := 24) hx hb d_Ranged_nextShare_19 (by decide) (fun c_2 => ?_) (fun c_2 => ?_)
    · rw [lg_cmp_gt] at c_2
      refine lv_aload_n hx hb d_Ranged_nextShare_24 rfl (lv_at hl 1 rfl) ?_
      refine va_get (D := (dC, dI)) (ci := 1) (v := .long xcode) (C := "RangeCoders$Carries") (T := T_Carries) (N := 11) hx hb hg in_Carries hown hK hP 0 rfl rfl 4 (by decide) (hg _ k90) (fun _ h9 => h9) rfl d_Ranged_nextShare_25 ?_
      refine lv_aload_n hx hb d_Ranged_nextShare_28 rfl (lv_at hl 1 rfl) ?_
      refine va_get (D := (dC, dI)) (ci := 1) (v := .long xreadLow) (C := "RangeCoders$Carries") (T := T_Carries) (N := 11) hx hb hg in_Carries hown hK hP 0 rfl rfl 5 (by decide) (hg _ k93) (fun _ h9 => h9) rfl d_Ranged_nextShare_29 ?_
      refine lv_lsub hx hb d_Ranged_nextShare_32 ?_
      refine lv_topl (fun v_3 ev_3 => ?_)
      refine lv_ldc2 (v := 4294967295) hx hb hown (hg _ k67) d_Ranged_nextShare_33 ?_
      refine lv_land hx hb d_Ranged_nextShare_36 ?_
      refine lv_topl (fun v_4 ev_4 => ?_)
      refine lv_lload_n hx hb d_Ranged_nextShare_37 rfl (lv_at hl 0 rfl) ?_
      refine lv_ldiv hx hb d_Ranged_nextShare_38 (by first | decide | exact L_nzp (by assumption) | exact L_nz (by assumption)) ?_
      refine lv_topl (fun v_5 ev_5 => ?_)
      refine lv_lstore (lv' := [(4, .long v_5), (2, .long 0), (0, .ref co), (1, .int pt)]) hx hb d_Ranged_nextShare_39 hl (by decide) rfl (fun ls hl => ?_)
      refine lv_lload hx hb d_Ranged_nextShare_41 (lv_at hl 0 rfl) ?_
      refine lv_iload_n hx hb d_Ranged_nextShare_43 rfl (lv_at hl 3 rfl) ?_
      refine lv_i2l hx hb d_Ranged_nextShare_44 rfl ?_
      refine lv_topl (fun v_6 ev_6 => ?_)
      refine W.lcmp hx hb d_Ranged_nextShare_45 ?_
      refine lv_if_ge (tgt := 55) hx hb d_Ranged_nextShare_46 (by decide) (fun c_7 => ?_) (fun c_7 => ?_)
      · rw [lg_cmp_ge] at c_7
        refine lv_iconst (v := (-1)) hx hb d_Ranged_nextShare_55 (by decide) ?_
        exact my_iret (v := (-1)) hx hb hr (rfl) hlocks hQ hK hS (Nat.le_refl _) (Nat.le_refl _) () (trivial) (hP.sub [0] rfl) (hD.sub [0] (by decide) rfl) d_Ranged_nextShare_56
      · rw [lg_cmp_ge] at c_7
        refine lv_lload hx hb d_Ranged_nextShare_49 (lv_at hl 0 rfl) ?_
        refine lv_l2i hx hb d_Ranged_nextShare_51 rfl ?_
        refine lv_topi (fun v_8 ev_8 => ?_)
        refine lv_goto (tgt := 56) hx hb d_Ranged_nextShare_52 (by decide) ?_
        exact my_iret (v := v_8) hx hb hr (rfl) hlocks hQ hK hS (Nat.le_refl _) (Nat.le_refl _) () (trivial) (hP.sub [0] rfl) (hD.sub [0] (by decide) rfl) d_Ranged_nextShare_56
    · rw [lg_cmp_gt] at c_2
      refine lv_iconst (v := (-1)) hx hb d_Ranged_nextShare_22 (by decide) ?_
      exact my_iret (v := (-1)) hx hb hr (rfl) hlocks hQ hK hS (Nat.le_refl _) (Nat.le_refl _) () (trivial) (hP.sub [0] rfl) (hD.sub [0] (by decide) rfl) d_Ranged_nextShare_23
  · refine lv_aload_n hx hb d_Ranged_nextShare_4 rfl (lv_at hl 0 rfl) ?_
    refine va_get (D := (dC, dI)) (ci := 1) (v := .long xreadRange) (C := "RangeCoders$Carries") (T := T_Carries) (N := 11) hx hb hg in_Carries hown hK hP 0 rfl rfl 6 (by decide) (hg _ k100) (fun _ h9 => h9) rfl d_Ranged_nextShare_5 ?_
    refine lv_iload_n hx hb d_Ranged_nextShare_8 rfl (lv_at hl 1 rfl) ?_
    refine lv_i2l hx hb d_Ranged_nextShare_9 rfl ?_
    refine lv_topl (fun v_9 ev_9 => ?_)
    refine lv_ldiv hx hb d_Ranged_nextShare_10 (by rw [ev_9]; first | exact L_nzi (by assumption) | exact L_nzip (by assumption)) ?_
    refine lv_topl (fun v_10 ev_10 => ?_)
    refine lv_goto (tgt := 15) hx hb d_Ranged_nextShare_11 (by decide) ?_
    refine lv_lstore_n (lv' := [(2, .long v_10), (0, .ref co), (1, .int pt)]) hx hb d_Ranged_nextShare_15 rfl hl (by decide) rfl (fun ls hl => ?_)
    refine lv_lload_n hx hb d_Ranged_nextShare_16 rfl (lv_at hl 0 rfl) ?_
    refine lv_lconst (v := 0) hx hb d_Ranged_nextShare_17 (by decide) ?_
    refine W.lcmp hx hb d_Ranged_nextShare_18 ?_
    refine lv_if_gt (tgt := 24) hx hb d_Ranged_nextShare_19 (by decide) (fun c_11 => ?_) (fun c_11 => ?_)
    · rw [lg_cmp_gt] at c_11
      refine lv_aload_n hx hb d_Ranged_nextShare_24 rfl (lv_at hl 1 rfl) ?_
      refine va_get (D := (dC, dI)) (ci := 1) (v := .long xcode) (C := "RangeCoders$Carries") (T := T_Carries) (N := 11) hx hb hg in_Carries hown hK hP 0 rfl rfl 4 (by decide) (hg _ k90) (fun _ h9 => h9) rfl d_Ranged_nextShare_25 ?_
      refine lv_aload_n hx hb d_Ranged_nextShare_28 rfl (lv_at hl 1 rfl) ?_
      refine va_get (D := (dC, dI)) (ci := 1) (v := .long xreadLow) (C := "RangeCoders$Carries") (T := T_Carries) (N := 11) hx hb hg in_Carries hown hK hP 0 rfl rfl 5 (by decide) (hg _ k93) (fun _ h9 => h9) rfl d_Ranged_nextShare_29 ?_
      refine lv_lsub hx hb d_Ranged_nextShare_32 ?_
      refine lv_topl (fun v_12 ev_12 => ?_)
      refine lv_ldc2 (v := 4294967295) hx hb hown (hg _ k67) d_Ranged_nextShare_33 ?_
      refine lv_land hx hb d_Ranged_nextShare_36 ?_
      refine lv_topl (fun v_13 ev_13 => ?_)
      refine lv_lload_n hx hb d_Ranged_nextShare_37 rfl (lv_at hl 0 rfl) ?_
      refine lv_ldiv hx hb d_Ranged_nextShare_38 (by first | decide | exact L_nzp (by assumption) | exact L_nz (by assumption)) ?_
      refine lv_topl (fun v_14 ev_14 => ?_)
      refine lv_lstore (lv' := [(4, .long v_14), (2, .long v_10), (0, .ref co), (1, .int pt)]) hx hb d_Ranged_nextShare_39 hl (by decide) rfl (fun ls hl => ?_)
      refine lv_lload hx hb d_Ranged_nextShare_41 (lv_at hl 0 rfl) ?_
      refine lv_iload_n hx hb d_Ranged_nextShare_43 rfl (lv_at hl 3 rfl) ?_
      refine lv_i2l hx hb d_Ranged_nextShare_44 rfl ?_
      refine lv_topl (fun v_15 ev_15 => ?_)
      refine W.lcmp hx hb d_Ranged_nextShare_45 ?_
      refine lv_if_ge (tgt := 55) hx hb d_Ranged_nextShare_46 (by decide) (fun c_16 => ?_) (fun c_16 => ?_)
      · rw [lg_cmp_ge] at c_16
        refine lv_iconst (v := (-1)) hx hb d_Ranged_nextShare_55 (by decide) ?_
        exact my_iret (v := (-1)) hx hb hr (rfl) hlocks hQ hK hS (Nat.le_refl _) (Nat.le_refl _) () (trivial) (hP.sub [0] rfl) (hD.sub [0] (by decide) rfl) d_Ranged_nextShare_56
      · rw [lg_cmp_ge] at c_16
        refine lv_lload hx hb d_Ranged_nextShare_49 (lv_at hl 0 rfl) ?_
        refine lv_l2i hx hb d_Ranged_nextShare_51 rfl ?_
        refine lv_topi (fun v_17 ev_17 => ?_)
        refine lv_goto (tgt := 56) hx hb d_Ranged_nextShare_52 (by decide) ?_
        exact my_iret (v := v_17) hx hb hr (rfl) hlocks hQ hK hS (Nat.le_refl _) (Nat.le_refl _) () (trivial) (hP.sub [0] rfl) (hD.sub [0] (by decide) rfl) d_Ranged_nextShare_56
    · rw [lg_cmp_gt] at c_11
      refine lv_iconst (v := (-1)) hx hb d_Ranged_nextShare_22 (by decide) ?_
      exact my_iret (v := (-1)) hx hb hr (rfl) hlocks hQ hK hS (Nat.le_refl _) (Nat.le_refl _) () (trivial) (hP.sub [0] rfl) (hD.sub [0] (by decide) rfl) d_Ranged_nextShare_23
set_option maxHeartbeats 2000000 in
set_option maxRecDepth 100000 in
theorem c_Carries_Ranged_nextSign (l : Launch) (dC : Nat → ClassId) (dI : Nat → Nat → Nat) (cI cM cO : ClassId) (sz : Nat) (co : Nat) (xcache : Int32) (xpending : Int32) (xlow : Int64) (xrange : Int64) (xcode : Int64) (xreadLow : Int64) (xreadRange : Int64) (ri : Nat) (ro : Nat) (rw : Nat) (xasked : Int32) (rin : Int32) (ria : Nat) (rik : Nat) (rif : Nat → Int32) (oo : Nat) (osg : Int32) (osm : Int32) (ofc : Int32) (oca : Nat) (opa : Nat) (ol : Nat) (ocf : Nat → Int32) (opl : Nat) (opf : Nat → Int32) (hri : rOk rin rik) (hol : ol ≤ 64) (hopl : opl ≤ 512) : MetI l y_Ranged_nextSign (Cond.code y_Ranged_nextSign prog_8_method_11_code 4 (some .int) :: gw) ({ frames := 5, cells := 0, slots := 0, locals := 109 } : Room) (dC, dI) vwCl (kT cI cM cO) [.ref co, .ref oo] [(co, .inr (1, [.int xcache, .int xpending, .long xlow, .long xrange, .long xcode, .long xreadLow, .long xreadRange, .ref ri, .ref ro, .ref rw, .int xasked])), (ri, .inr (0, [.int rin, .ref ria])), (ria, .inl (cI, rik, .inl rif)), (oo, .inr (7, [.int osg, .int osm, .int ofc, .ref oca, .ref opa])), (oca, .inl (cI, ol, .inl ocf)), (opa, .inl (cI, opl, .inl opf))] sz (fun (r : Int32) (u : Int64 × Int64 × Int32 × Int32 × (Nat → Int32)) => True) (fun (u : Int64 × Int64 × Int32 × Int32 × (Nat → Int32)) => [(co, .inr (1, [.int xcache, .int xpending, .long xlow, .long xrange, .long u.1, .long xreadLow, .long u.2.1, .ref ri, .ref ro, .ref rw, .int u.2.2.1])), (ri, .inr (0, [.int rin, .ref ria])), (ria, .inl (cI, rik, .inl rif)), (oo, .inr (7, [.int osg, .int u.2.2.2.1, .int ofc, .ref oca, .ref opa])), (oca, .inl (cI, ol, .inl u.2.2.2.2)), (opa, .inl (cI, opl, .inl opf))]) 0 0 := by
  refine my_ofI (cc := prog_8_method_11_code) (n := 4) (ret := (some .int)) (by decide) rfl (Nat.le_of_ble_eq_true rfl) ?_
  intro p e s m args below meth c R Q A ls H locs hx hb hr hts hown hlocks hml hnm hR hQ hA hl hP hK hN hD hS
  have hg : ∀ w ∈ gw, w.before args s = true := fun w h => hts w (List.mem_cons_of_mem _ h)
  have hown : s.vm.findClass "RangeCoders$Ranged" = some m.cls := hown
  have hl : lv_has ls 4 [(0, .ref co), (1, .ref oo)] := hl
  have hlt_hri := rOk_lt hri
  refine lv_aload_n hx hb d_Ranged_nextSign_0 rfl (lv_at hl 0 rfl) ?_
  refine lv_aload_n hx hb d_Ranged_nextSign_1 rfl (lv_at hl 1 rfl) ?_
  refine va_get (D := (dC, dI)) (ci := 7) (v := .int osm) (C := "RangeCoders$Odds") (T := T_Odds) (N := 5) hx hb hg in_Odds hown hK hP 3 rfl rfl 1 (by decide) (hg _ k306) (fun _ h9 => h9) rfl d_Ranged_nextSign_2 ?_
  refine my_ci (wr := [(ri, .inr (0, [.int rin, .ref ria])), (ria, .inl (cI, rik, .inl rif)), (oo, .inr (7, [.int osg, .int osm, .int ofc, .ref oca, .ref opa])), (oca, .inl (cI, ol, .inl ocf)), (opa, .inl (cI, opl, .inl opf))]) (va_runU (As := [.int osm]) (rest := []) ⟨hx, hb, hml, hown, hts⟩ (c_Carries_Ranged_nextShare l dC dI cI cM cO H.size co xcache xpending xlow xrange xcode xreadLow xreadRange ri ro rw xasked osm) (va_cwU 1 hts (my_gU k807 k1289 kx4 k809 k4 k810) rfl rfl rfl rfl (by decide +kernel) ⟨by rw [hR]; exact Nat.le_of_ble_eq_true rfl, by rw [hR]; exact Nat.le_of_ble_eq_true rfl⟩) (my_preV hK hN (hP.sub [0] rfl) (hD.sub [0] (by decide) rfl) 0 rfl rfl) rfl rfl hl.1 rfl (lv_room (Nat.le_of_ble_eq_true rfl)) d_Ranged_nextSign_5 ⟨by rw [hR]; exact Nat.le_of_ble_eq_true rfl, by rw [hR]; exact Nat.le_of_ble_eq_true rfl⟩) hP hD hS hA [0] [1, 2, 3, 4, 5] rfl rfl (by decide) (by decide) (fun r_5 u9 H locs hw_5 hP hD hS => ?_)
  have hP : va_P (dC, dI) vwCl [(ri, .inr (0, [.int rin, .ref ria])), (ria, .inl (cI, rik, .inl rif)), (oo, .inr (7, [.int osg, .int osm, .int ofc, .ref oca, .ref opa])), (oca, .inl (cI, ol, .inl ocf)), (opa, .inl (cI, opl, .inl opf)), (co, .inr (1, [.int xcache, .int xpending, .long xlow, .long xrange, .long xcode, .long xreadLow, .long xreadRange, .ref ri, .ref ro, .ref rw, .int xasked]))] H := hP
  have hD : va_D A [(ri, .inr (0, [.int rin, .ref ria])), (ria, .inl (cI, rik, .inl rif)), (oo, .inr (7, [.int osg, .int osm, .int ofc, .ref oca, .ref opa])), (oca, .inl (cI, ol, .inl ocf)), (opa, .inl (cI, opl, .inl opf)), (co, .inr (1, [.int xcache, .int xpending, .long xlow, .long xrange, .long xcode, .long xreadLow, .long xreadRange, .ref ri, .ref ro, .ref rw, .int xasked]))] := hD
  refine lv_istore_n (lv' := [(2, .int r_5), (0, .ref co), (1, .ref oo)]) hx hb d_Ranged_nextSign_8 rfl hl (by decide) rfl (fun ls hl => ?_)
  refine lv_iload_n hx hb d_Ranged_nextSign_9 rfl (lv_at hl 0 rfl) ?_
  refine lv_iconst (v := (-1)) hx hb d_Ranged_nextSign_10 (by decide) ?_
  refine lv_icmp_ne (tgt := 18) hx hb d_Ranged_nextSign_11 (by decide) (fun c_1 => ?_) (fun c_1 => ?_)
  · refine lv_aload_n hx hb d_Ranged_nextSign_18 rfl (lv_at hl 2 rfl) ?_
    refine lv_iload_n hx hb d_Ranged_nextSign_19 rfl (lv_at hl 0 rfl) ?_
    refine my_ci (wr := [(ri, .inr (0, [.int rin, .ref ria])), (ria, .inl (cI, rik, .inl rif)), (co, .inr (1, [.int xcache, .int xpending, .long xlow, .long xrange, .long xcode, .long xreadLow, .long xreadRange, .ref ri, .ref ro, .ref rw, .int xasked]))]) (va_runV (As := [.int r_5]) (rest := []) ⟨hx, hb, hml, hown, hts⟩ (c_Odds_signAt l dC dI cI cM cO H.size oo osg osm ofc oca opa ol ocf opl opf r_5 (by first | assumption | omega) (by first | assumption | omega)) (cwV 1 hts (my_gV k811 k812 k813 k14 k814) rfl rfl rfl (by decide +kernel) ⟨by rw [hR]; exact Nat.le_of_ble_eq_true rfl, by rw [hR]; exact Nat.le_of_ble_eq_true rfl⟩) (my_preV hK hN (hP.sub [2, 3, 4] rfl) (hD.sub [2, 3, 4] (by decide) rfl) 0 rfl rfl) rfl rfl hl.1 rfl (lv_room (Nat.le_of_ble_eq_true rfl)) d_Ranged_nextSign_20 ⟨by rw [hR]; exact Nat.le_of_ble_eq_true rfl, by rw [hR]; exact Nat.le_of_ble_eq_true rfl⟩) hP hD hS hA [2, 3, 4] [0, 1, 5] rfl rfl (by decide) (by decide) (fun r_20 u9 H locs hw_20 hP hD hS => ?_)
    have hP : va_P (dC, dI) vwCl [(ri, .inr (0, [.int rin, .ref ria])), (ria, .inl (cI, rik, .inl rif)), (co, .inr (1, [.int xcache, .int xpending, .long xlow, .long xrange, .long xcode, .long xreadLow, .long xreadRange, .ref ri, .ref ro, .ref rw, .int xasked])), (oo, .inr (7, [.int osg, .int osm, .int ofc, .ref oca, .ref opa])), (oca, .inl (cI, ol, .inl ocf)), (opa, .inl (cI, opl, .inl opf))] H := hP
    have hD : va_D A [(ri, .inr (0, [.int rin, .ref ria])), (ria, .inl (cI, rik, .inl rif)), (co, .inr (1, [.int xcache, .int xpending, .long xlow, .long xrange, .long xcode, .long xreadLow, .long xreadRange, .ref ri, .ref ro, .ref rw, .int xasked])), (oo, .inr (7, [.int osg, .int osm, .int ofc, .ref oca, .ref opa])), (oca, .inl (cI, ol, .inl ocf)), (opa, .inl (cI, opl, .inl opf))] := hD
    refine lv_istore_n (lv' := [(3, .int r_20), (2, .int r_5), (0, .ref co), (1, .ref oo)]) hx hb d_Ranged_nextSign_23 rfl hl (by decide) rfl (fun ls hl => ?_)
    refine lv_iload_n hx hb d_Ranged_nextSign_24 rfl (lv_at hl 0 rfl) ?_
    refine lv_iconst (v := (-1)) hx hb d_Ranged_nextSign_25 (by decide) ?_
    refine lv_icmp_eq (tgt := 52) hx hb d_Ranged_nextSign_26 (by decide) (fun c_2 => ?_) (fun c_2 => ?_)
    · refine lv_iload_n hx hb d_Ranged_nextSign_52 rfl (lv_at hl 0 rfl) ?_
      exact my_iret (v := r_20) hx hb hr (rfl) hlocks hQ hK hS (Nat.le_refl _) (Nat.le_refl _) (xcode, xreadRange, xasked, osm, ocf) (trivial) (hP.sub [2, 0, 1, 3, 4, 5] rfl) (hD.sub [2, 0, 1, 3, 4, 5] (by decide) rfl) d_Ranged_nextSign_53
    · refine lv_aload_n hx hb d_Ranged_nextSign_29 rfl (lv_at hl 2 rfl) ?_
      refine lv_aload_n hx hb d_Ranged_nextSign_30 rfl (lv_at hl 3 rfl) ?_
      refine lv_iload_n hx hb d_Ranged_nextSign_31 rfl (lv_at hl 0 rfl) ?_
      refine my_ci (wr := [(ri, .inr (0, [.int rin, .ref ria])), (ria, .inl (cI, rik, .inl rif)), (co, .inr (1, [.int xcache, .int xpending, .long xlow, .long xrange, .long xcode, .long xreadLow, .long xreadRange, .ref ri, .ref ro, .ref rw, .int xasked]))]) (va_runV (As := [.int r_20]) (rest := [.ref co]) ⟨hx, hb, hml, hown, hts⟩ (c_Odds_at l dC dI cI cM cO H.size oo osg osm ofc oca opa ol ocf opl opf r_20 (by first | assumption | omega) (by first | assumption | omega)) (cwV 1 hts (my_gV k493 k436 k437 k14 k438) rfl rfl rfl (by decide +kernel) ⟨by rw [hR]; exact Nat.le_of_ble_eq_true rfl, by rw [hR]; exact Nat.le_of_ble_eq_true rfl⟩) (my_preV hK hN (hP.sub [3, 4, 5] rfl) (hD.sub [3, 4, 5] (by decide) rfl) 0 rfl rfl) rfl rfl hl.1 rfl (lv_room (Nat.le_of_ble_eq_true rfl)) d_Ranged_nextSign_32 ⟨by rw [hR]; exact Nat.le_of_ble_eq_true rfl, by rw [hR]; exact Nat.le_of_ble_eq_true rfl⟩) hP hD hS hA [3, 4, 5] [0, 1, 2] rfl rfl (by decide) (by decide) (fun r_32 u9 H locs hw_32 hP hD hS => ?_)
      have hP : va_P (dC, dI) vwCl [(ri, .inr (0, [.int rin, .ref ria])), (ria, .inl (cI, rik, .inl rif)), (co, .inr (1, [.int xcache, .int xpending, .long xlow, .long xrange, .long xcode, .long xreadLow, .long xreadRange, .ref ri, .ref ro, .ref rw, .int xasked])), (oo, .inr (7, [.int osg, .int osm, .int ofc, .ref oca, .ref opa])), (oca, .inl (cI, ol, .inl ocf)), (opa, .inl (cI, opl, .inl opf))] H := hP
      have hD : va_D A [(ri, .inr (0, [.int rin, .ref ria])), (ria, .inl (cI, rik, .inl rif)), (co, .inr (1, [.int xcache, .int xpending, .long xlow, .long xrange, .long xcode, .long xreadLow, .long xreadRange, .ref ri, .ref ro, .ref rw, .int xasked])), (oo, .inr (7, [.int osg, .int osm, .int ofc, .ref oca, .ref opa])), (oca, .inl (cI, ol, .inl ocf)), (opa, .inl (cI, opl, .inl opf))] := hD
      refine lv_aload_n hx hb d_Ranged_nextSign_35 rfl (lv_at hl 3 rfl) ?_
      refine lv_iload_n hx hb d_Ranged_nextSign_36 rfl (lv_at hl 0 rfl) ?_
      refine my_ci (wr := [(ri, .inr (0, [.int rin, .ref ria])), (ria, .inl (cI, rik, .inl rif)), (co, .inr (1, [.int xcache, .int xpending, .long xlow, .long xrange, .long xcode, .long xreadLow, .long xreadRange, .ref ri, .ref ro, .ref rw, .int xasked]))]) (va_runV (As := [.int r_20]) (rest := [.int r_32, .ref co]) ⟨hx, hb, hml, hown, hts⟩ (c_Odds_below l dC dI cI cM cO H.size oo osg osm ofc oca opa ol ocf opl opf r_20 (by first | assumption | omega) (by first | assumption | omega)) (cwV 1 hts (my_gV k494 k495 k496 k14 k497) rfl rfl rfl (by decide +kernel) ⟨by rw [hR]; exact Nat.le_of_ble_eq_true rfl, by rw [hR]; exact Nat.le_of_ble_eq_true rfl⟩) (my_preV hK hN (hP.sub [3, 4, 5] rfl) (hD.sub [3, 4, 5] (by decide) rfl) 0 rfl rfl) rfl rfl hl.1 rfl (lv_room (Nat.le_of_ble_eq_true rfl)) d_Ranged_nextSign_37 ⟨by rw [hR]; exact Nat.le_of_ble_eq_true rfl, by rw [hR]; exact Nat.le_of_ble_eq_true rfl⟩) hP hD hS hA [3, 4, 5] [0, 1, 2] rfl rfl (by decide) (by decide) (fun r_37 u9 H locs hw_37 hP hD hS => ?_)
      have hP : va_P (dC, dI) vwCl [(ri, .inr (0, [.int rin, .ref ria])), (ria, .inl (cI, rik, .inl rif)), (co, .inr (1, [.int xcache, .int xpending, .long xlow, .long xrange, .long xcode, .long xreadLow, .long xreadRange, .ref ri, .ref ro, .ref rw, .int xasked])), (oo, .inr (7, [.int osg, .int osm, .int ofc, .ref oca, .ref opa])), (oca, .inl (cI, ol, .inl ocf)), (opa, .inl (cI, opl, .inl opf))] H := hP
      have hD : va_D A [(ri, .inr (0, [.int rin, .ref ria])), (ria, .inl (cI, rik, .inl rif)), (co, .inr (1, [.int xcache, .int xpending, .long xlow, .long xrange, .long xcode, .long xreadLow, .long xreadRange, .ref ri, .ref ro, .ref rw, .int xasked])), (oo, .inr (7, [.int osg, .int osm, .int ofc, .ref oca, .ref opa])), (oca, .inl (cI, ol, .inl ocf)), (opa, .inl (cI, opl, .inl opf))] := hD
      refine lv_aload_n hx hb d_Ranged_nextSign_40 rfl (lv_at hl 3 rfl) ?_
      refine va_get (D := (dC, dI)) (ci := 7) (v := .int osm) (C := "RangeCoders$Odds") (T := T_Odds) (N := 5) hx hb hg in_Odds hown hK hP 3 rfl rfl 1 (by decide) (hg _ k306) (fun _ h9 => h9) rfl d_Ranged_nextSign_41 ?_
      refine my_cv (wr := [(oo, .inr (7, [.int osg, .int osm, .int ofc, .ref oca, .ref opa])), (oca, .inl (cI, ol, .inl ocf)), (opa, .inl (cI, opl, .inl opf))]) (va_runU (As := [.int r_32, .int r_37, .int osm]) (rest := []) ⟨hx, hb, hml, hown, hts⟩ (c_Carries_Carries_readPart l dC dI cI cM cO H.size co xcache xpending xlow xrange xcode xreadLow xreadRange ri ro rw xasked rin ria rik rif r_32 r_37 osm (by first | assumption | omega)) (va_cwA 3 hts (my_gU k815 k817 k822 k819 k5 k820) rfl rfl rfl (hN.1 _ j816 rfl) (by decide +kernel) ⟨by rw [hR]; exact Nat.le_of_ble_eq_true rfl, by rw [hR]; exact Nat.le_of_ble_eq_true rfl⟩) (my_preV hK hN (hP.sub [2, 0, 1] rfl) (hD.sub [2, 0, 1] (by decide) rfl) 0 rfl rfl) rfl rfl hl.1 rfl (lv_room (Nat.le_of_ble_eq_true rfl)) d_Ranged_nextSign_44 ⟨by rw [hR]; exact Nat.le_of_ble_eq_true rfl, by rw [hR]; exact Nat.le_of_ble_eq_true rfl⟩) hP hD hS hA [2, 0, 1] [3, 4, 5] rfl rfl (by decide) (by decide) (fun u9 H locs hw_44 hP hD hS => ?_)
      obtain ⟨xcodeq_44, xreadRangeq_44, xaskedq_44⟩ := u9
      have hP : va_P (dC, dI) vwCl [(oo, .inr (7, [.int osg, .int osm, .int ofc, .ref oca, .ref opa])), (oca, .inl (cI, ol, .inl ocf)), (opa, .inl (cI, opl, .inl opf)), (co, .inr (1, [.int xcache, .int xpending, .long xlow, .long xrange, .long xcodeq_44, .long xreadLow, .long xreadRangeq_44, .ref ri, .ref ro, .ref rw, .int xaskedq_44])), (ri, .inr (0, [.int rin, .ref ria])), (ria, .inl (cI, rik, .inl rif))] H := hP
      have hD : va_D A [(oo, .inr (7, [.int osg, .int osm, .int ofc, .ref oca, .ref opa])), (oca, .inl (cI, ol, .inl ocf)), (opa, .inl (cI, opl, .inl opf)), (co, .inr (1, [.int xcache, .int xpending, .long xlow, .long xrange, .long xcodeq_44, .long xreadLow, .long xreadRangeq_44, .ref ri, .ref ro, .ref rw, .int xaskedq_44])), (ri, .inr (0, [.int rin, .ref ria])), (ria, .inl (cI, rik, .inl rif))] := hD
      refine lv_aload_n hx hb d_Ranged_nextSign_47 rfl (lv_at hl 3 rfl) ?_
      refine lv_iload_n hx hb d_Ranged_nextSign_48 rfl (lv_at hl 0 rfl) ?_
      refine my_cv (wr := [(co, .inr (1, [.int xcache, .int xpending, .long xlow, .long xrange, .long xcodeq_44, .long xreadLow, .long xreadRangeq_44, .ref ri, .ref ro, .ref rw, .int xaskedq_44])), (ri, .inr (0, [.int rin, .ref ria])), (ria, .inl (cI, rik, .inl rif))]) (va_runV (As := [.int r_20]) (rest := []) ⟨hx, hb, hml, hown, hts⟩ (c_Odds_learn l dC dI cI cM cO H.size oo osg osm ofc oca opa ol ocf opl opf r_20 (by first | assumption | omega) (by first | assumption | omega)) (cwV 1 hts (my_gV k526 k527 k528 k14 k529) rfl rfl rfl (by decide +kernel) ⟨by rw [hR]; exact Nat.le_of_ble_eq_true rfl, by rw [hR]; exact Nat.le_of_ble_eq_true rfl⟩) (my_preV hK hN (hP.sub [0, 1, 2] rfl) (hD.sub [0, 1, 2] (by decide) rfl) 0 rfl rfl) rfl rfl hl.1 rfl (lv_room (Nat.le_of_ble_eq_true rfl)) d_Ranged_nextSign_49 ⟨by rw [hR]; exact Nat.le_of_ble_eq_true rfl, by rw [hR]; exact Nat.le_of_ble_eq_true rfl⟩) hP hD hS hA [0, 1, 2] [3, 4, 5] rfl rfl (by decide) (by decide) (fun u9 H locs hw_49 hP hD hS => ?_)
      obtain ⟨osmq_49, ocfq_49⟩ := u9
      have hP : va_P (dC, dI) vwCl [(co, .inr (1, [.int xcache, .int xpending, .long xlow, .long xrange, .long xcodeq_44, .long xreadLow, .long xreadRangeq_44, .ref ri, .ref ro, .ref rw, .int xaskedq_44])), (ri, .inr (0, [.int rin, .ref ria])), (ria, .inl (cI, rik, .inl rif)), (oo, .inr (7, [.int osg, .int osmq_49, .int ofc, .ref oca, .ref opa])), (oca, .inl (cI, ol, .inl ocfq_49)), (opa, .inl (cI, opl, .inl opf))] H := hP
      have hD : va_D A [(co, .inr (1, [.int xcache, .int xpending, .long xlow, .long xrange, .long xcodeq_44, .long xreadLow, .long xreadRangeq_44, .ref ri, .ref ro, .ref rw, .int xaskedq_44])), (ri, .inr (0, [.int rin, .ref ria])), (ria, .inl (cI, rik, .inl rif)), (oo, .inr (7, [.int osg, .int osmq_49, .int ofc, .ref oca, .ref opa])), (oca, .inl (cI, ol, .inl ocfq_49)), (opa, .inl (cI, opl, .inl opf))] := hD
      refine lv_iload_n hx hb d_Ranged_nextSign_52 rfl (lv_at hl 0 rfl) ?_
      exact my_iret (v := r_20) hx hb hr (rfl) hlocks hQ hK hS (Nat.le_refl _) (Nat.le_refl _) (xcodeq_44, xreadRangeq_44, xaskedq_44, osmq_49, ocfq_49) (trivial) (hP.sub [0, 1, 2, 3, 4, 5] rfl) (hD.sub [0, 1, 2, 3, 4, 5] (by decide) rfl) d_Ranged_nextSign_53
  · refine lv_iconst (v := (-1)) hx hb d_Ranged_nextSign_14 (by decide) ?_
    refine lv_goto (tgt := 23) hx hb d_Ranged_nextSign_15 (by decide) ?_
    refine lv_istore_n (lv' := [(3, .int (-1)), (2, .int r_5), (0, .ref co), (1, .ref oo)]) hx hb d_Ranged_nextSign_23 rfl hl (by decide) rfl (fun ls hl => ?_)
    refine lv_iload_n hx hb d_Ranged_nextSign_24 rfl (lv_at hl 0 rfl) ?_
    refine lv_iconst (v := (-1)) hx hb d_Ranged_nextSign_25 (by decide) ?_
    refine lv_icmp_eq (tgt := 52) hx hb d_Ranged_nextSign_26 (by decide) (fun c_3 => ?_) (fun c_3 => ?_)
    · refine lv_iload_n hx hb d_Ranged_nextSign_52 rfl (lv_at hl 0 rfl) ?_
      exact my_iret (v := (-1)) hx hb hr (rfl) hlocks hQ hK hS (Nat.le_refl _) (Nat.le_refl _) (xcode, xreadRange, xasked, osm, ocf) (trivial) (hP.sub [5, 0, 1, 2, 3, 4] rfl) (hD.sub [5, 0, 1, 2, 3, 4] (by decide) rfl) d_Ranged_nextSign_53
    · exact absurd (by decide) c_3
set_option maxHeartbeats 2000000 in
set_option maxRecDepth 100000 in
theorem c_Carries_Ranged_nextValue (l : Launch) (dC : Nat → ClassId) (dI : Nat → Nat → Nat) (cI cM cO : ClassId) (sz : Nat) (co : Nat) (xcache : Int32) (xpending : Int32) (xlow : Int64) (xrange : Int64) (xcode : Int64) (xreadLow : Int64) (xreadRange : Int64) (ri : Nat) (ro : Nat) (rw : Nat) (xasked : Int32) (rin : Int32) (ria : Nat) (rik : Nat) (rif : Nat → Int32) (wd : Int32) (hri : rOk rin rik) : MetI l y_Ranged_nextValue (Cond.code y_Ranged_nextValue prog_8_method_12_code 3 (some .int) :: gw) ({ frames := 5, cells := 0, slots := 0, locals := 109 } : Room) (dC, dI) vwCl (kT cI cM cO) [.ref co, .int wd] [(co, .inr (1, [.int xcache, .int xpending, .long xlow, .long xrange, .long xcode, .long xreadLow, .long xreadRange, .ref ri, .ref ro, .ref rw, .int xasked])), (ri, .inr (0, [.int rin, .ref ria])), (ria, .inl (cI, rik, .inl rif))] sz (fun (r : Int32) (u : Int64 × Int64 × Int32) => True) (fun (u : Int64 × Int64 × Int32) => [(co, .inr (1, [.int xcache, .int xpending, .long xlow, .long xrange, .long u.1, .long xreadLow, .long u.2.1, .ref ri, .ref ro, .ref rw, .int u.2.2])), (ri, .inr (0, [.int rin, .ref ria])), (ria, .inl (cI, rik, .inl rif))]) 0 0 := by
  refine my_ofI (cc := prog_8_method_12_code) (n := 3) (ret := (some .int)) (by decide) rfl (Nat.le_of_ble_eq_true rfl) ?_
  intro p e s m args below meth c R Q A ls H locs hx hb hr hts hown hlocks hml hnm hR hQ hA hl hP hK hN hD hS
  have hg : ∀ w ∈ gw, w.before args s = true := fun w h => hts w (List.mem_cons_of_mem _ h)
  have hown : s.vm.findClass "RangeCoders$Ranged" = some m.cls := hown
  have hl : lv_has ls 3 [(0, .ref co), (1, .int wd)] := hl
  have hlt_hri := rOk_lt hri
  refine lv_aload_n hx hb d_Ranged_nextValue_0 rfl (lv_at hl 0 rfl) ?_
  refine lv_iconst (v := 1) hx hb d_Ranged_nextValue_1 (by decide) ?_
  refine lv_iload_n hx hb d_Ranged_nextValue_2 rfl (lv_at hl 1 rfl) ?_
  refine lv_ishl hx hb d_Ranged_nextValue_3 ?_
  refine lv_topi (fun v_1 ev_1 => ?_)
  refine my_ci (wr := [(ri, .inr (0, [.int rin, .ref ria])), (ria, .inl (cI, rik, .inl rif))]) (va_runU (As := [.int v_1]) (rest := []) ⟨hx, hb, hml, hown, hts⟩ (c_Carries_Ranged_nextShare l dC dI cI cM cO H.size co xcache xpending xlow xrange xcode xreadLow xreadRange ri ro rw xasked v_1) (va_cwU 1 hts (my_gU k807 k1289 kx4 k809 k4 k810) rfl rfl rfl rfl (by decide +kernel) ⟨by rw [hR]; exact Nat.le_of_ble_eq_true rfl, by rw [hR]; exact Nat.le_of_ble_eq_true rfl⟩) (my_preV hK hN (hP.sub [0] rfl) (hD.sub [0] (by decide) rfl) 0 rfl rfl) rfl rfl hl.1 rfl (lv_room (Nat.le_of_ble_eq_true rfl)) d_Ranged_nextValue_4 ⟨by rw [hR]; exact Nat.le_of_ble_eq_true rfl, by rw [hR]; exact Nat.le_of_ble_eq_true rfl⟩) hP hD hS hA [0] [1, 2] rfl rfl (by decide) (by decide) (fun r_4 u9 H locs hw_4 hP hD hS => ?_)
  have hP : va_P (dC, dI) vwCl [(ri, .inr (0, [.int rin, .ref ria])), (ria, .inl (cI, rik, .inl rif)), (co, .inr (1, [.int xcache, .int xpending, .long xlow, .long xrange, .long xcode, .long xreadLow, .long xreadRange, .ref ri, .ref ro, .ref rw, .int xasked]))] H := hP
  have hD : va_D A [(ri, .inr (0, [.int rin, .ref ria])), (ria, .inl (cI, rik, .inl rif)), (co, .inr (1, [.int xcache, .int xpending, .long xlow, .long xrange, .long xcode, .long xreadLow, .long xreadRange, .ref ri, .ref ro, .ref rw, .int xasked]))] := hD
  refine lv_istore_n (lv' := [(2, .int r_4), (0, .ref co), (1, .int wd)]) hx hb d_Ranged_nextValue_7 rfl hl (by decide) rfl (fun ls hl => ?_)
  refine lv_iload_n hx hb d_Ranged_nextValue_8 rfl (lv_at hl 0 rfl) ?_
  refine lv_iconst (v := (-1)) hx hb d_Ranged_nextValue_9 (by decide) ?_
  refine lv_icmp_eq (tgt := 22) hx hb d_Ranged_nextValue_10 (by decide) (fun c_2 => ?_) (fun c_2 => ?_)
  · refine lv_iload_n hx hb d_Ranged_nextValue_22 rfl (lv_at hl 0 rfl) ?_
    exact my_iret (v := r_4) hx hb hr (rfl) hlocks hQ hK hS (Nat.le_refl _) (Nat.le_refl _) (xcode, xreadRange, xasked) (trivial) (hP.sub [2, 0, 1] rfl) (hD.sub [2, 0, 1] (by decide) rfl) d_Ranged_nextValue_23
  · refine lv_aload_n hx hb d_Ranged_nextValue_13 rfl (lv_at hl 1 rfl) ?_
    refine lv_iconst (v := 1) hx hb d_Ranged_nextValue_14 (by decide) ?_
    refine lv_iload_n hx hb d_Ranged_nextValue_15 rfl (lv_at hl 0 rfl) ?_
    refine lv_iconst (v := 1) hx hb d_Ranged_nextValue_16 (by decide) ?_
    refine lv_iload_n hx hb d_Ranged_nextValue_17 rfl (lv_at hl 2 rfl) ?_
    refine lv_ishl hx hb d_Ranged_nextValue_18 ?_
    refine lv_topi (fun v_3 ev_3 => ?_)
    refine my_cv (wr := []) (va_runU (As := [.int 1, .int r_4, .int v_3]) (rest := []) ⟨hx, hb, hml, hown, hts⟩ (c_Carries_Carries_readPart l dC dI cI cM cO H.size co xcache xpending xlow xrange xcode xreadLow xreadRange ri ro rw xasked rin ria rik rif 1 r_4 v_3 (by first | assumption | omega)) (va_cwA 3 hts (my_gU k815 k817 k822 k819 k5 k820) rfl rfl rfl (hN.1 _ j816 rfl) (by decide +kernel) ⟨by rw [hR]; exact Nat.le_of_ble_eq_true rfl, by rw [hR]; exact Nat.le_of_ble_eq_true rfl⟩) (my_preV hK hN (hP.sub [2, 0, 1] rfl) (hD.sub [2, 0, 1] (by decide) rfl) 0 rfl rfl) rfl rfl hl.1 rfl (lv_room (Nat.le_of_ble_eq_true rfl)) d_Ranged_nextValue_19 ⟨by rw [hR]; exact Nat.le_of_ble_eq_true rfl, by rw [hR]; exact Nat.le_of_ble_eq_true rfl⟩) hP hD hS hA [2, 0, 1] [] rfl rfl (by decide) (by decide) (fun u9 H locs hw_19 hP hD hS => ?_)
    obtain ⟨xcodeq_19, xreadRangeq_19, xaskedq_19⟩ := u9
    have hP : va_P (dC, dI) vwCl [(co, .inr (1, [.int xcache, .int xpending, .long xlow, .long xrange, .long xcodeq_19, .long xreadLow, .long xreadRangeq_19, .ref ri, .ref ro, .ref rw, .int xaskedq_19])), (ri, .inr (0, [.int rin, .ref ria])), (ria, .inl (cI, rik, .inl rif))] H := hP
    have hD : va_D A [(co, .inr (1, [.int xcache, .int xpending, .long xlow, .long xrange, .long xcodeq_19, .long xreadLow, .long xreadRangeq_19, .ref ri, .ref ro, .ref rw, .int xaskedq_19])), (ri, .inr (0, [.int rin, .ref ria])), (ria, .inl (cI, rik, .inl rif))] := hD
    refine lv_iload_n hx hb d_Ranged_nextValue_22 rfl (lv_at hl 0 rfl) ?_
    exact my_iret (v := r_4) hx hb hr (rfl) hlocks hQ hK hS (Nat.le_refl _) (Nat.le_refl _) (xcodeq_19, xreadRangeq_19, xaskedq_19) (trivial) (hP.sub [0, 1, 2] rfl) (hD.sub [0, 1, 2] (by decide) rfl) d_Ranged_nextValue_23
set_option maxHeartbeats 2000000 in
set_option maxRecDepth 100000 in
theorem c_Carries_Ranged_closeMessage (l : Launch) (dC : Nat → ClassId) (dI : Nat → Nat → Nat) (cI cM cO : ClassId) (sz : Nat) (sl : Nat) (co : Nat) (xcache : Int32) (xpending : Int32) (xlow : Int64) (xrange : Int64) (xcode : Int64) (xreadLow : Int64) (xreadRange : Int64) (ri : Nat) (ro : Nat) (rw : Nat) (xasked : Int32) (ron : Int32) (roa : Nat) (rok : Nat) (rof : Nat → Int32) (rwn : Int32) (rwa : Nat) (rwk : Nat) (rwf : Nat → Int32) (hro : rOk ron rok) (hrw : rOk rwn rwk) : MetVg l y_Ranged_closeMessage (Cond.code y_Ranged_closeMessage prog_8_method_9_code 2 none :: gw) ({ frames := 6, cells := rPh rwk, slots := rPh rwk, locals := 146 } : Room) (dC, dI) vwCl (kT cI cM cO) [.ref co] [(co, .inr (1, [.int xcache, .int xpending, .long xlow, .long xrange, .long xcode, .long xreadLow, .long xreadRange, .ref ri, .ref ro, .ref rw, .int xasked])), (ro, .inr (0, [.int ron, .ref roa])), (roa, .inl (cI, rok, .inl rof)), (rw, .inr (0, [.int rwn, .ref rwa])), (rwa, .inl (cI, rwk, .inl rwf))] sz sl (fun (u : Int32 × Int32 × Int64 × Int32 × Nat × Nat × (Nat → Int32)) => rOk u.2.2.2.1 u.2.2.2.2.2.1) (fun (u : Int32 × Int32 × Int64 × Int32 × Nat × Nat × (Nat → Int32)) => [(co, .inr (1, [.int u.1, .int u.2.1, .long u.2.2.1, .long xrange, .long xcode, .long xreadLow, .long xreadRange, .ref ri, .ref rw, .ref ro, .int xasked])), (ro, .inr (0, [.int ron, .ref roa])), (roa, .inl (cI, rok, .inl rof)), (rw, .inr (0, [.int u.2.2.2.1, .ref u.2.2.2.2.1])), (u.2.2.2.2.1, .inl (cI, u.2.2.2.2.2.1, .inl u.2.2.2.2.2.2))]) (rPh rwk) (fun (u : Int32 × Int32 × Int64 × Int32 × Nat × Nat × (Nat → Int32)) => rPh u.2.2.2.2.2.1) := by
  refine my_ofVg (cc := prog_8_method_9_code) (n := 2) (ret := none) (by decide) rfl (Nat.le_of_ble_eq_true rfl) ?_
  intro p e s m args below meth c R Q A ls H locs hx hb hr hts hown hlocks hml hnm hR hQ hA hl hP hK hN hD hS
  have hg : ∀ w ∈ gw, w.before args s = true := fun w h => hts w (List.mem_cons_of_mem _ h)
  have hown : s.vm.findClass "RangeCoders$Ranged" = some m.cls := hown
  have hl : lv_has ls 2 [(0, .ref co)] := hl
  have hlt_hro := rOk_lt hro
  have hlt_hrw := rOk_lt hrw
  refine lv_aload_n hx hb d_Ranged_closeMessage_0 rfl (lv_at hl 0 rfl) ?_
  refine my_cvg (wr := [(ro, .inr (0, [.int ron, .ref roa])), (roa, .inl (cI, rok, .inl rof))]) (va_runU (As := []) (rest := []) ⟨hx, hb, hml, hown, hts⟩ (c_Carries_Carries_flush l dC dI cI cM cO H.size (hSl H) co xcache xpending xlow xrange xcode xreadLow xreadRange ri ro rw xasked rwn rwa rwk rwf (by first | assumption | omega)) (va_cwA 0 hts (my_gU k578 k580 k584 k582 k5 k583) rfl rfl rfl (hN.1 _ j579 rfl) (by decide +kernel) ⟨by rw [hR]; exact Nat.le_of_ble_eq_true rfl, by rw [hR]; exact Nat.le_of_ble_eq_true rfl⟩) (my_preVg hK hN (hP.sub [0, 3, 4] rfl) (hD.sub [0, 3, 4] (by decide) rfl) 0 rfl rfl) rfl rfl hl.1 rfl (lv_room (Nat.le_of_ble_eq_true rfl)) d_Ranged_closeMessage_1 ⟨by rw [hR]; exact (show 0 + (rPh rwk) ≤ (rPh rwk) by omega), by rw [hR]; exact (show 0 + (rPh rwk) ≤ (rPh rwk) by omega)⟩) hP hD hS hA [0, 3, 4] [1, 2] rfl rfl (by decide) (by decide) (fun u9 d_1 H locs hd_1 hw_1 hP hD hS => ?_)
  obtain ⟨xcacheq_1, xpendingq_1, xlowq_1, rwnq_1, rwaq_1, rwkq_1, rwfq_1⟩ := u9
  have hrw_1 : rOk rwnq_1 rwkq_1 := hw_1
  have hd_1 : d_1 + (rPh rwkq_1) ≤ (rPh rwk) := hd_1
  have hP : va_P (dC, dI) vwCl [(ro, .inr (0, [.int ron, .ref roa])), (roa, .inl (cI, rok, .inl rof)), (co, .inr (1, [.int xcacheq_1, .int xpendingq_1, .long xlowq_1, .long xrange, .long xcode, .long xreadLow, .long xreadRange, .ref ri, .ref ro, .ref rw, .int xasked])), (rw, .inr (0, [.int rwnq_1, .ref rwaq_1])), (rwaq_1, .inl (cI, rwkq_1, .inl rwfq_1))] H := hP
  have hD : va_D A [(ro, .inr (0, [.int ron, .ref roa])), (roa, .inl (cI, rok, .inl rof)), (co, .inr (1, [.int xcacheq_1, .int xpendingq_1, .long xlowq_1, .long xrange, .long xcode, .long xreadLow, .long xreadRange, .ref ri, .ref ro, .ref rw, .int xasked])), (rw, .inr (0, [.int rwnq_1, .ref rwaq_1])), (rwaq_1, .inl (cI, rwkq_1, .inl rwfq_1))] := hD
  refine lv_aload_n hx hb d_Ranged_closeMessage_4 rfl (lv_at hl 0 rfl) ?_
  refine va_get (D := (dC, dI)) (ci := 1) (v := .ref ro) (C := "RangeCoders$Carries") (T := T_Carries) (N := 11) hx hb hg in_Carries hown hK hP 2 rfl rfl 8 (by decide) (hg _ k109) (fun x9 h9 => u_same (hg _ k110) x9 h9) rfl d_Ranged_closeMessage_5 ?_
  refine lv_astore_n (lv' := [(1, .ref ro), (0, .ref co)]) hx hb d_Ranged_closeMessage_8 rfl hl (by decide) rfl (fun ls hl => ?_)
  refine lv_aload_n hx hb d_Ranged_closeMessage_9 rfl (lv_at hl 1 rfl) ?_
  refine lv_aload_n hx hb d_Ranged_closeMessage_10 rfl (lv_at hl 1 rfl) ?_
  refine va_get (D := (dC, dI)) (ci := 1) (v := .ref rw) (C := "RangeCoders$Carries") (T := T_Carries) (N := 11) hx hb hg in_Carries hown hK hP 2 rfl rfl 9 (by decide) (hg _ k116) (fun x9 h9 => u_same (hg _ k117) x9 h9) rfl d_Ranged_closeMessage_11 ?_
  refine va_put (D := (dC, dI)) (ci := 1) (v := .ref rw) (ty := (.object "RangeCoders$Row")) (C := "RangeCoders$Carries") (T := T_Carries) (N := 11) hx hb hg in_Carries t_Carries o_Carries n_Carries hown hK hP hD hS 2 rfl rfl 8 (by decide) (hg _ k109) (fun x9 h9 => u_same (hg _ k110) x9 h9) rfl (by decide +kernel) rfl rfl (Nat.le_of_ble_eq_true rfl) d_Ranged_closeMessage_14 (fun H locs hP hD hS => ?_)
  have hP : va_P (dC, dI) vwCl [(ro, .inr (0, [.int ron, .ref roa])), (roa, .inl (cI, rok, .inl rof)), (co, .inr (1, [.int xcacheq_1, .int xpendingq_1, .long xlowq_1, .long xrange, .long xcode, .long xreadLow, .long xreadRange, .ref ri, .ref rw, .ref rw, .int xasked])), (rw, .inr (0, [.int rwnq_1, .ref rwaq_1])), (rwaq_1, .inl (cI, rwkq_1, .inl rwfq_1))] H := hP
  have hD : va_D A [(ro, .inr (0, [.int ron, .ref roa])), (roa, .inl (cI, rok, .inl rof)), (co, .inr (1, [.int xcacheq_1, .int xpendingq_1, .long xlowq_1, .long xrange, .long xcode, .long xreadLow, .long xreadRange, .ref ri, .ref rw, .ref rw, .int xasked])), (rw, .inr (0, [.int rwnq_1, .ref rwaq_1])), (rwaq_1, .inl (cI, rwkq_1, .inl rwfq_1))] := hD
  refine lv_aload_n hx hb d_Ranged_closeMessage_17 rfl (lv_at hl 1 rfl) ?_
  refine lv_aload_n hx hb d_Ranged_closeMessage_18 rfl (lv_at hl 0 rfl) ?_
  refine va_put (D := (dC, dI)) (ci := 1) (v := .ref ro) (ty := (.object "RangeCoders$Row")) (C := "RangeCoders$Carries") (T := T_Carries) (N := 11) hx hb hg in_Carries t_Carries o_Carries n_Carries hown hK hP hD hS 2 rfl rfl 9 (by decide) (hg _ k116) (fun x9 h9 => u_same (hg _ k117) x9 h9) rfl (by decide +kernel) rfl rfl (Nat.le_of_ble_eq_true rfl) d_Ranged_closeMessage_19 (fun H locs hP hD hS => ?_)
  have hP : va_P (dC, dI) vwCl [(ro, .inr (0, [.int ron, .ref roa])), (roa, .inl (cI, rok, .inl rof)), (co, .inr (1, [.int xcacheq_1, .int xpendingq_1, .long xlowq_1, .long xrange, .long xcode, .long xreadLow, .long xreadRange, .ref ri, .ref rw, .ref ro, .int xasked])), (rw, .inr (0, [.int rwnq_1, .ref rwaq_1])), (rwaq_1, .inl (cI, rwkq_1, .inl rwfq_1))] H := hP
  have hD : va_D A [(ro, .inr (0, [.int ron, .ref roa])), (roa, .inl (cI, rok, .inl rof)), (co, .inr (1, [.int xcacheq_1, .int xpendingq_1, .long xlowq_1, .long xrange, .long xcode, .long xreadLow, .long xreadRange, .ref ri, .ref rw, .ref ro, .int xasked])), (rw, .inr (0, [.int rwnq_1, .ref rwaq_1])), (rwaq_1, .inl (cI, rwkq_1, .inl rwfq_1))] := hD
  exact my_vretg hx hb hr hlocks hQ hK hS (xcacheq_1, xpendingq_1, xlowq_1, rwnq_1, rwaq_1, rwkq_1, rwfq_1) (show (0 + d_1) + (rPh rwkq_1) ≤ (rPh rwk) by omega) (show (0 + d_1) + (rPh rwkq_1) ≤ (rPh rwk) by omega) (by first | assumption | (subst_vars; assumption)) (hP.sub [2, 0, 1, 3, 4] rfl) (hD.sub [2, 0, 1, 3, 4] (by decide) rfl) d_Ranged_closeMessage_22
set_option maxHeartbeats 2000000 in
set_option maxRecDepth 100000 in
theorem c_Carries_Ranged_openReading (l : Launch) (dC : Nat → ClassId) (dI : Nat → Nat → Nat) (cI cM cO : ClassId) (sz : Nat) (co : Nat) (xcache : Int32) (xpending : Int32) (xlow : Int64) (xrange : Int64) (xcode : Int64) (xreadLow : Int64) (xreadRange : Int64) (ri : Nat) (ro : Nat) (rw : Nat) (xasked : Int32) (rin : Int32) (ria : Nat) (rik : Nat) (rif : Nat → Int32) (hri : rOk rin rik) : MetI l y_Ranged_openReading (Cond.code y_Ranged_openReading prog_8_method_10_code 1 (some .boolean) :: gw) ({ frames := 4, cells := 0, slots := 0, locals := 86 } : Room) (dC, dI) vwCl (kT cI cM cO) [.ref co] [(co, .inr (1, [.int xcache, .int xpending, .long xlow, .long xrange, .long xcode, .long xreadLow, .long xreadRange, .ref ri, .ref ro, .ref rw, .int xasked])), (ri, .inr (0, [.int rin, .ref ria])), (ria, .inl (cI, rik, .inl rif))] sz (fun (r : Int32) (u : Int64 × Int64 × Int64 × Int32) => True) (fun (u : Int64 × Int64 × Int64 × Int32) => [(co, .inr (1, [.int xcache, .int xpending, .long xlow, .long xrange, .long u.1, .long u.2.1, .long u.2.2.1, .ref ri, .ref ro, .ref rw, .int u.2.2.2])), (ri, .inr (0, [.int rin, .ref ria])), (ria, .inl (cI, rik, .inl rif))]) 0 0 := by
  refine my_ofI (cc := prog_8_method_10_code) (n := 1) (ret := (some .boolean)) (by decide) rfl (Nat.le_of_ble_eq_true rfl) ?_
  intro p e s m args below meth c R Q A ls H locs hx hb hr hts hown hlocks hml hnm hR hQ hA hl hP hK hN hD hS
  have hg : ∀ w ∈ gw, w.before args s = true := fun w h => hts w (List.mem_cons_of_mem _ h)
  have hown : s.vm.findClass "RangeCoders$Ranged" = some m.cls := hown
  have hl : lv_has ls 1 [(0, .ref co)] := hl
  have hlt_hri := rOk_lt hri
  refine lv_aload_n hx hb d_Ranged_openReading_0 rfl (lv_at hl 0 rfl) ?_
  refine lv_aload_n hx hb d_Ranged_openReading_1 rfl (lv_at hl 0 rfl) ?_
  refine my_cl (wr := []) (va_runU (As := []) (rest := [.ref co]) ⟨hx, hb, hml, hown, hts⟩ (c_Carries_Coder_firstFourBytes l dC dI cI cM cO H.size co xcache xpending xlow xrange xcode xreadLow xreadRange ri ro rw xasked rin ria rik rif (by first | assumption | omega)) (va_cwU 0 hts (my_gU k733 k734 k737 k739 k3 k740) rfl rfl rfl rfl (by decide +kernel) ⟨by rw [hR]; exact Nat.le_of_ble_eq_true rfl, by rw [hR]; exact Nat.le_of_ble_eq_true rfl⟩) (my_preV hK hN (hP.sub [0, 1, 2] rfl) (hD.sub [0, 1, 2] (by decide) rfl) 0 rfl rfl) rfl rfl hl.1 rfl (lv_room (Nat.le_of_ble_eq_true rfl)) d_Ranged_openReading_2 ⟨by rw [hR]; exact Nat.le_of_ble_eq_true rfl, by rw [hR]; exact Nat.le_of_ble_eq_true rfl⟩) hP hD hS hA [0, 1, 2] [] rfl rfl (by decide) (by decide) (fun r_2 u9 H locs hw_2 hP hD hS => ?_)
  obtain ⟨xaskedq_2, rfl⟩ : ∃ z, z = u9 := ⟨_, rfl⟩
  have hP : va_P (dC, dI) vwCl [(co, .inr (1, [.int xcache, .int xpending, .long xlow, .long xrange, .long xcode, .long xreadLow, .long xreadRange, .ref ri, .ref ro, .ref rw, .int xaskedq_2])), (ri, .inr (0, [.int rin, .ref ria])), (ria, .inl (cI, rik, .inl rif))] H := hP
  have hD : va_D A [(co, .inr (1, [.int xcache, .int xpending, .long xlow, .long xrange, .long xcode, .long xreadLow, .long xreadRange, .ref ri, .ref ro, .ref rw, .int xaskedq_2])), (ri, .inr (0, [.int rin, .ref ria])), (ria, .inl (cI, rik, .inl rif))] := hD
  refine va_put (D := (dC, dI)) (ci := 1) (v := .long r_2) (ty := .long) (C := "RangeCoders$Carries") (T := T_Carries) (N := 11) hx hb hg in_Carries t_Carries o_Carries n_Carries hown hK hP hD hS 0 rfl rfl 4 (by decide) (hg _ k90) (fun _ h9 => h9) rfl (by decide +kernel) rfl rfl (Nat.le_of_ble_eq_true rfl) d_Ranged_openReading_5 (fun H locs hP hD hS => ?_)
  have hP : va_P (dC, dI) vwCl [(co, .inr (1, [.int xcache, .int xpending, .long xlow, .long xrange, .long r_2, .long xreadLow, .long xreadRange, .ref ri, .ref ro, .ref rw, .int xaskedq_2])), (ri, .inr (0, [.int rin, .ref ria])), (ria, .inl (cI, rik, .inl rif))] H := hP
  have hD : va_D A [(co, .inr (1, [.int xcache, .int xpending, .long xlow, .long xrange, .long r_2, .long xreadLow, .long xreadRange, .ref ri, .ref ro, .ref rw, .int xaskedq_2])), (ri, .inr (0, [.int rin, .ref ria])), (ria, .inl (cI, rik, .inl rif))] := hD
  refine lv_aload_n hx hb d_Ranged_openReading_8 rfl (lv_at hl 0 rfl) ?_
  refine lv_lconst (v := 0) hx hb d_Ranged_openReading_9 (by decide) ?_
  refine va_put (D := (dC, dI)) (ci := 1) (v := .long 0) (ty := .long) (C := "RangeCoders$Carries") (T := T_Carries) (N := 11) hx hb hg in_Carries t_Carries o_Carries n_Carries hown hK hP hD hS 0 rfl rfl 5 (by decide) (hg _ k93) (fun _ h9 => h9) rfl (by decide +kernel) rfl rfl (Nat.le_of_ble_eq_true rfl) d_Ranged_openReading_10 (fun H locs hP hD hS => ?_)
  have hP : va_P (dC, dI) vwCl [(co, .inr (1, [.int xcache, .int xpending, .long xlow, .long xrange, .long r_2, .long 0, .long xreadRange, .ref ri, .ref ro, .ref rw, .int xaskedq_2])), (ri, .inr (0, [.int rin, .ref ria])), (ria, .inl (cI, rik, .inl rif))] H := hP
  have hD : va_D A [(co, .inr (1, [.int xcache, .int xpending, .long xlow, .long xrange, .long r_2, .long 0, .long xreadRange, .ref ri, .ref ro, .ref rw, .int xaskedq_2])), (ri, .inr (0, [.int rin, .ref ria])), (ria, .inl (cI, rik, .inl rif))] := hD
  refine lv_aload_n hx hb d_Ranged_openReading_13 rfl (lv_at hl 0 rfl) ?_
  refine lv_ldc2 (v := 4294967295) hx hb hown (hg _ k67) d_Ranged_openReading_14 ?_
  refine va_put (D := (dC, dI)) (ci := 1) (v := .long 4294967295) (ty := .long) (C := "RangeCoders$Carries") (T := T_Carries) (N := 11) hx hb hg in_Carries t_Carries o_Carries n_Carries hown hK hP hD hS 0 rfl rfl 6 (by decide) (hg _ k100) (fun _ h9 => h9) rfl (by decide +kernel) rfl rfl (Nat.le_of_ble_eq_true rfl) d_Ranged_openReading_17 (fun H locs hP hD hS => ?_)
  have hP : va_P (dC, dI) vwCl [(co, .inr (1, [.int xcache, .int xpending, .long xlow, .long xrange, .long r_2, .long 0, .long 4294967295, .ref ri, .ref ro, .ref rw, .int xaskedq_2])), (ri, .inr (0, [.int rin, .ref ria])), (ria, .inl (cI, rik, .inl rif))] H := hP
  have hD : va_D A [(co, .inr (1, [.int xcache, .int xpending, .long xlow, .long xrange, .long r_2, .long 0, .long 4294967295, .ref ri, .ref ro, .ref rw, .int xaskedq_2])), (ri, .inr (0, [.int rin, .ref ria])), (ria, .inl (cI, rik, .inl rif))] := hD
  refine lv_iconst (v := 1) hx hb d_Ranged_openReading_20 (by decide) ?_
  exact my_iret (v := 1) hx hb hr (rfl) hlocks hQ hK hS (Nat.le_refl _) (Nat.le_refl _) (r_2, (0 : Int64), (4294967295 : Int64), xaskedq_2) (trivial) (hP.sub [0, 1, 2] rfl) (hD.sub [0, 1, 2] (by decide) rfl) d_Ranged_openReading_21
set_option maxHeartbeats 2000000 in
set_option maxRecDepth 100000 in
theorem c_Carries_Ranged_register (l : Launch) (dC : Nat → ClassId) (dI : Nat → Nat → Nat) (cI cM cO : ClassId) (sz : Nat) (co : Nat) (xcache : Int32) (xpending : Int32) (xlow : Int64) (xrange : Int64) (xcode : Int64) (xreadLow : Int64) (xreadRange : Int64) (ri : Nat) (ro : Nat) (rw : Nat) (xasked : Int32) (wh : Int32) : MetL l y_Ranged_register (Cond.code y_Ranged_register prog_8_method_13_code 2 (some .long) :: gw) ({ frames := 0, cells := 0, slots := 0, locals := 0 } : Room) (dC, dI) vwCl (kT cI cM cO) [.ref co, .int wh] [(co, .inr (1, [.int xcache, .int xpending, .long xlow, .long xrange, .long xcode, .long xreadLow, .long xreadRange, .ref ri, .ref ro, .ref rw, .int xasked]))] sz (fun (r : Int64) (u : Unit) => True) (fun (u : Unit) => [(co, .inr (1, [.int xcache, .int xpending, .long xlow, .long xrange, .long xcode, .long xreadLow, .long xreadRange, .ref ri, .ref ro, .ref rw, .int xasked]))]) 0 0 := by
  refine my_ofL (cc := prog_8_method_13_code) (n := 2) (ret := (some .long)) (by decide) rfl (Nat.le_of_ble_eq_true rfl) ?_
  intro p e s m args below meth c R Q A ls H locs hx hb hr hts hown hlocks hml hnm hR hQ hA hl hP hK hN hD hS
  have hg : ∀ w ∈ gw, w.before args s = true := fun w h => hts w (List.mem_cons_of_mem _ h)
  have hown : s.vm.findClass "RangeCoders$Ranged" = some m.cls := hown
  have hl : lv_has ls 2 [(0, .ref co), (1, .int wh)] := hl
  refine lv_iload_n hx hb d_Ranged_register_0 rfl (lv_at hl 1 rfl) ?_
  by_cases c_1 : wh = 0
  · refine lv_tableIn (tgt := 36) hx hb d_Ranged_register_1 (by rw [c_1]; decide) (by rw [c_1]; decide) (by rw [c_1]; rfl) (by decide) ?_
    refine lv_aload_n hx hb d_Ranged_register_36 rfl (lv_at hl 0 rfl) ?_
    refine va_get (D := (dC, dI)) (ci := 1) (v := .long xlow) (C := "RangeCoders$Carries") (T := T_Carries) (N := 11) hx hb hg in_Carries hown hK hP 0 rfl rfl 2 (by decide) (hg _ k74) (fun _ h9 => h9) rfl d_Ranged_register_37 ?_
    exact my_lret (v := xlow) hx hb hr hlocks hQ hK hS (Nat.le_refl _) (Nat.le_refl _) () (trivial) (hP.sub [0] rfl) (hD.sub [0] (by decide) rfl) d_Ranged_register_40
  by_cases c_2 : wh = 1
  · refine lv_tableIn (tgt := 41) hx hb d_Ranged_register_1 (by rw [c_2]; decide) (by rw [c_2]; decide) (by rw [c_2]; rfl) (by decide) ?_
    refine lv_aload_n hx hb d_Ranged_register_41 rfl (lv_at hl 0 rfl) ?_
    refine va_get (D := (dC, dI)) (ci := 1) (v := .long xrange) (C := "RangeCoders$Carries") (T := T_Carries) (N := 11) hx hb hg in_Carries hown hK hP 0 rfl rfl 3 (by decide) (hg _ k77) (fun _ h9 => h9) rfl d_Ranged_register_42 ?_
    exact my_lret (v := xrange) hx hb hr hlocks hQ hK hS (Nat.le_refl _) (Nat.le_refl _) () (trivial) (hP.sub [0] rfl) (hD.sub [0] (by decide) rfl) d_Ranged_register_45
  by_cases c_3 : wh = 2
  · refine lv_tableIn (tgt := 46) hx hb d_Ranged_register_1 (by rw [c_3]; decide) (by rw [c_3]; decide) (by rw [c_3]; rfl) (by decide) ?_
    refine lv_aload_n hx hb d_Ranged_register_46 rfl (lv_at hl 0 rfl) ?_
    refine va_get (D := (dC, dI)) (ci := 1) (v := .long xcode) (C := "RangeCoders$Carries") (T := T_Carries) (N := 11) hx hb hg in_Carries hown hK hP 0 rfl rfl 4 (by decide) (hg _ k90) (fun _ h9 => h9) rfl d_Ranged_register_47 ?_
    exact my_lret (v := xcode) hx hb hr hlocks hQ hK hS (Nat.le_refl _) (Nat.le_refl _) () (trivial) (hP.sub [0] rfl) (hD.sub [0] (by decide) rfl) d_Ranged_register_50
  by_cases c_4 : wh = 3
  · refine lv_tableIn (tgt := 51) hx hb d_Ranged_register_1 (by rw [c_4]; decide) (by rw [c_4]; decide) (by rw [c_4]; rfl) (by decide) ?_
    refine lv_aload_n hx hb d_Ranged_register_51 rfl (lv_at hl 0 rfl) ?_
    refine va_get (D := (dC, dI)) (ci := 1) (v := .long xreadLow) (C := "RangeCoders$Carries") (T := T_Carries) (N := 11) hx hb hg in_Carries hown hK hP 0 rfl rfl 5 (by decide) (hg _ k93) (fun _ h9 => h9) rfl d_Ranged_register_52 ?_
    exact my_lret (v := xreadLow) hx hb hr hlocks hQ hK hS (Nat.le_refl _) (Nat.le_refl _) () (trivial) (hP.sub [0] rfl) (hD.sub [0] (by decide) rfl) d_Ranged_register_55
  by_cases c_5 : wh = 4
  · refine lv_tableIn (tgt := 56) hx hb d_Ranged_register_1 (by rw [c_5]; decide) (by rw [c_5]; decide) (by rw [c_5]; rfl) (by decide) ?_
    refine lv_aload_n hx hb d_Ranged_register_56 rfl (lv_at hl 0 rfl) ?_
    refine va_get (D := (dC, dI)) (ci := 1) (v := .long xreadRange) (C := "RangeCoders$Carries") (T := T_Carries) (N := 11) hx hb hg in_Carries hown hK hP 0 rfl rfl 6 (by decide) (hg _ k100) (fun _ h9 => h9) rfl d_Ranged_register_57 ?_
    exact my_lret (v := xreadRange) hx hb hr hlocks hQ hK hS (Nat.le_refl _) (Nat.le_refl _) () (trivial) (hP.sub [0] rfl) (hD.sub [0] (by decide) rfl) d_Ranged_register_60
  refine lv_tableOut (tgt := 61) hx hb d_Ranged_register_1 (by have ac_1 : wh.toInt ≠ 0 := fun z => c_1 (Int32.toInt_inj.mp z); have ac_2 : wh.toInt ≠ 1 := fun z => c_2 (Int32.toInt_inj.mp z); have ac_3 : wh.toInt ≠ 2 := fun z => c_3 (Int32.toInt_inj.mp z); have ac_4 : wh.toInt ≠ 3 := fun z => c_4 (Int32.toInt_inj.mp z); have ac_5 : wh.toInt ≠ 4 := fun z => c_5 (Int32.toInt_inj.mp z); omega) (by decide) ?_
  refine lv_lconst (v := 0) hx hb d_Ranged_register_61 (by decide) ?_
  exact my_lret (v := 0) hx hb hr hlocks hQ hK hS (Nat.le_refl _) (Nat.le_refl _) () (trivial) (hP.sub [0] rfl) (hD.sub [0] (by decide) rfl) d_Ranged_register_62
