set_option maxHeartbeats 2000000 in
set_option maxRecDepth 100000 in
theorem c_Bits_Coder_nextByte (l : Launch) (dC : Nat → ClassId) (dI : Nat → Nat → Nat) (cI cM cO : ClassId) (sz : Nat) (co : Nat) (xshift : Int32) (xkeptCode : Int64) (xkeptRange : Int64) (xkeptAsked : Int32) (xcache : Int32) (xpending : Int32) (xlow : Int64) (xrange : Int64) (xcode : Int64) (xreadLow : Int64) (xreadRange : Int64) (ri : Nat) (ro : Nat) (rw : Nat) (xasked : Int32) (rin : Int32) (ria : Nat) (rik : Nat) (rif : Nat → Int32) (hri : rOk rin rik) : MetI l y_Coder_nextByte (Cond.code y_Coder_nextByte prog_4_method_15_code 2 (some .int) :: gw) ({ frames := 2, cells := 0, slots := 0, locals := 42 } : Room) (dC, dI) vwCl (kT cI cM cO) [.ref co] [(co, .inr (3, [.int xshift, .long xkeptCode, .long xkeptRange, .int xkeptAsked, .int xcache, .int xpending, .long xlow, .long xrange, .long xcode, .long xreadLow, .long xreadRange, .ref ri, .ref ro, .ref rw, .int xasked])), (ri, .inr (0, [.int rin, .ref ria])), (ria, .inl (cI, rik, .inl rif))] sz (fun (r : Int32) (u : Int32) => True) (fun (u : Int32) => [(co, .inr (3, [.int xshift, .long xkeptCode, .long xkeptRange, .int xkeptAsked, .int xcache, .int xpending, .long xlow, .long xrange, .long xcode, .long xreadLow, .long xreadRange, .ref ri, .ref ro, .ref rw, .int u])), (ri, .inr (0, [.int rin, .ref ria])), (ria, .inl (cI, rik, .inl rif))]) 0 0 := by
  refine my_ofI (cc := prog_4_method_15_code) (n := 2) (ret := (some .int)) (by decide) rfl (Nat.le_of_ble_eq_true rfl) ?_
  intro p e s m args below meth c R Q A ls H locs hx hb hr hts hown hlocks hml hnm hR hQ hA hl hP hK hN hD hS
  have hg : ∀ w ∈ gw, w.before args s = true := fun w h => hts w (List.mem_cons_of_mem _ h)
  have hown : s.vm.findClass "RangeCoders$Coder" = some m.cls := hown
  have hl : lv_has ls 2 [(0, .ref co)] := hl
  have hlt_hri := rOk_lt hri
  refine lv_aload_n hx hb d_Coder_nextByte_0 rfl (lv_at hl 0 rfl) ?_
  refine va_get (D := (dC, dI)) (ci := 3) (v := .ref ri) (C := "RangeCoders$Bits") (T := T_Bits) (N := 15) hx hb hg in_Bits hown hK hP 0 rfl rfl 11 (by decide) (hg _ k101) (fun _ h9 => h9) rfl d_Coder_nextByte_1 ?_
  refine lv_aload_n hx hb d_Coder_nextByte_4 rfl (lv_at hl 0 rfl) ?_
  refine va_get (D := (dC, dI)) (ci := 3) (v := .int xasked) (C := "RangeCoders$Bits") (T := T_Bits) (N := 15) hx hb hg in_Bits hown hK hP 0 rfl rfl 14 (by decide) (hg _ k130) (fun _ h9 => h9) rfl d_Coder_nextByte_5 ?_
  refine my_ci (wr := [(co, .inr (3, [.int xshift, .long xkeptCode, .long xkeptRange, .int xkeptAsked, .int xcache, .int xpending, .long xlow, .long xrange, .long xcode, .long xreadLow, .long xreadRange, .ref ri, .ref ro, .ref rw, .int xasked]))]) (va_runV (As := [.int xasked]) (rest := []) ⟨hx, hb, hml, hown, hts⟩ (c_Row_has l dC dI cI cM cO H.size ri rin ria rik rif xasked (by first | assumption | omega)) (cwV 1 hts (my_gV k750 k663 k664 k6 k665) rfl rfl rfl (by decide +kernel) ⟨by rw [hR]; exact Nat.le_of_ble_eq_true rfl, by rw [hR]; exact Nat.le_of_ble_eq_true rfl⟩) (my_preV hK hN (hP.sub [1, 2] rfl) (hD.sub [1, 2] (by decide) rfl) 0 rfl rfl) rfl rfl hl.1 rfl (lv_room (Nat.le_of_ble_eq_true rfl)) d_Coder_nextByte_8 ⟨by rw [hR]; exact Nat.le_of_ble_eq_true rfl, by rw [hR]; exact Nat.le_of_ble_eq_true rfl⟩) hP hD hS hA [1, 2] [0] rfl rfl (by decide) (by decide) (fun r_8 u9 H locs hw_8 hP hD hS => ?_)
  have hr_8 : r_8 ≠ 0 → vp_in xasked rik := hw_8
  have hP : va_P (dC, dI) vwCl [(co, .inr (3, [.int xshift, .long xkeptCode, .long xkeptRange, .int xkeptAsked, .int xcache, .int xpending, .long xlow, .long xrange, .long xcode, .long xreadLow, .long xreadRange, .ref ri, .ref ro, .ref rw, .int xasked])), (ri, .inr (0, [.int rin, .ref ria])), (ria, .inl (cI, rik, .inl rif))] H := hP
  have hD : va_D A [(co, .inr (3, [.int xshift, .long xkeptCode, .long xkeptRange, .int xkeptAsked, .int xcache, .int xpending, .long xlow, .long xrange, .long xcode, .long xreadLow, .long xreadRange, .ref ri, .ref ro, .ref rw, .int xasked])), (ri, .inr (0, [.int rin, .ref ria])), (ria, .inl (cI, rik, .inl rif))] := hD
  refine lv_if_eq (tgt := 28) hx hb d_Coder_nextByte_11 (by decide) (fun c_1 => ?_) (fun c_1 => ?_)
  · refine lv_iconst (v := 0) hx hb d_Coder_nextByte_28 (by decide) ?_
    refine lv_istore_n (lv' := [(1, .int 0), (0, .ref co)]) hx hb d_Coder_nextByte_29 rfl hl (by decide) rfl (fun ls hl => ?_)
    refine lv_aload_n hx hb d_Coder_nextByte_30 rfl (lv_at hl 1 rfl) ?_
    refine lv_dup hx hb d_Coder_nextByte_31 rfl ?_
    refine va_get (D := (dC, dI)) (ci := 3) (v := .int xasked) (C := "RangeCoders$Bits") (T := T_Bits) (N := 15) hx hb hg in_Bits hown hK hP 0 rfl rfl 14 (by decide) (hg _ k130) (fun _ h9 => h9) rfl d_Coder_nextByte_32 ?_
    refine lv_iconst (v := 1) hx hb d_Coder_nextByte_35 (by decide) ?_
    refine lv_iadd hx hb d_Coder_nextByte_36 ?_
    refine lv_topi (fun v_2 ev_2 => ?_)
    refine va_put (D := (dC, dI)) (ci := 3) (v := .int v_2) (ty := .int) (C := "RangeCoders$Bits") (T := T_Bits) (N := 15) hx hb hg in_Bits t_Bits o_Bits n_Bits hown hK hP hD hS 0 rfl rfl 14 (by decide) (hg _ k130) (fun _ h9 => h9) rfl (by decide +kernel) rfl rfl (Nat.le_of_ble_eq_true rfl) d_Coder_nextByte_37 (fun H locs hP hD hS => ?_)
    have hP : va_P (dC, dI) vwCl [(co, .inr (3, [.int xshift, .long xkeptCode, .long xkeptRange, .int xkeptAsked, .int xcache, .int xpending, .long xlow, .long xrange, .long xcode, .long xreadLow, .long xreadRange, .ref ri, .ref ro, .ref rw, .int v_2])), (ri, .inr (0, [.int rin, .ref ria])), (ria, .inl (cI, rik, .inl rif))] H := hP
    have hD : va_D A [(co, .inr (3, [.int xshift, .long xkeptCode, .long xkeptRange, .int xkeptAsked, .int xcache, .int xpending, .long xlow, .long xrange, .long xcode, .long xreadLow, .long xreadRange, .ref ri, .ref ro, .ref rw, .int v_2])), (ri, .inr (0, [.int rin, .ref ria])), (ria, .inl (cI, rik, .inl rif))] := hD
    refine lv_iload_n hx hb d_Coder_nextByte_40 rfl (lv_at hl 0 rfl) ?_
    exact my_iret (v := 0) hx hb hr (rfl) hlocks hQ hK hS (Nat.le_refl _) (Nat.le_refl _) (v_2) (trivial) (hP.sub [0, 1, 2] rfl) (hD.sub [0, 1, 2] (by decide) rfl) d_Coder_nextByte_41
  · refine lv_aload_n hx hb d_Coder_nextByte_14 rfl (lv_at hl 0 rfl) ?_
    refine va_get (D := (dC, dI)) (ci := 3) (v := .ref ri) (C := "RangeCoders$Bits") (T := T_Bits) (N := 15) hx hb hg in_Bits hown hK hP 0 rfl rfl 11 (by decide) (hg _ k101) (fun _ h9 => h9) rfl d_Coder_nextByte_15 ?_
    refine lv_aload_n hx hb d_Coder_nextByte_18 rfl (lv_at hl 0 rfl) ?_
    refine va_get (D := (dC, dI)) (ci := 3) (v := .int xasked) (C := "RangeCoders$Bits") (T := T_Bits) (N := 15) hx hb hg in_Bits hown hK hP 0 rfl rfl 14 (by decide) (hg _ k130) (fun _ h9 => h9) rfl d_Coder_nextByte_19 ?_
    refine my_ci (wr := [(co, .inr (3, [.int xshift, .long xkeptCode, .long xkeptRange, .int xkeptAsked, .int xcache, .int xpending, .long xlow, .long xrange, .long xcode, .long xreadLow, .long xreadRange, .ref ri, .ref ro, .ref rw, .int xasked]))]) (va_runV (As := [.int xasked]) (rest := []) ⟨hx, hb, hml, hown, hts⟩ (c_Row_at l dC dI cI cM cO H.size ri rin ria rik rif xasked (by first | assumption | omega)) (cwV 1 hts (my_gV k751 k659 k660 k6 k661) rfl rfl rfl (by decide +kernel) ⟨by rw [hR]; exact Nat.le_of_ble_eq_true rfl, by rw [hR]; exact Nat.le_of_ble_eq_true rfl⟩) (my_preV hK hN (hP.sub [1, 2] rfl) (hD.sub [1, 2] (by decide) rfl) 0 rfl rfl) rfl rfl hl.1 rfl (lv_room (Nat.le_of_ble_eq_true rfl)) d_Coder_nextByte_22 ⟨by rw [hR]; exact Nat.le_of_ble_eq_true rfl, by rw [hR]; exact Nat.le_of_ble_eq_true rfl⟩) hP hD hS hA [1, 2] [0] rfl rfl (by decide) (by decide) (fun r_22 u9 H locs hw_22 hP hD hS => ?_)
    have hP : va_P (dC, dI) vwCl [(co, .inr (3, [.int xshift, .long xkeptCode, .long xkeptRange, .int xkeptAsked, .int xcache, .int xpending, .long xlow, .long xrange, .long xcode, .long xreadLow, .long xreadRange, .ref ri, .ref ro, .ref rw, .int xasked])), (ri, .inr (0, [.int rin, .ref ria])), (ria, .inl (cI, rik, .inl rif))] H := hP
    have hD : va_D A [(co, .inr (3, [.int xshift, .long xkeptCode, .long xkeptRange, .int xkeptAsked, .int xcache, .int xpending, .long xlow, .long xrange, .long xcode, .long xreadLow, .long xreadRange, .ref ri, .ref ro, .ref rw, .int xasked])), (ri, .inr (0, [.int rin, .ref ria])), (ria, .inl (cI, rik, .inl rif))] := hD
    refine lv_goto (tgt := 29) hx hb d_Coder_nextByte_25 (by decide) ?_
    refine lv_istore_n (lv' := [(1, .int r_22), (0, .ref co)]) hx hb d_Coder_nextByte_29 rfl hl (by decide) rfl (fun ls hl => ?_)
    refine lv_aload_n hx hb d_Coder_nextByte_30 rfl (lv_at hl 1 rfl) ?_
    refine lv_dup hx hb d_Coder_nextByte_31 rfl ?_
    refine va_get (D := (dC, dI)) (ci := 3) (v := .int xasked) (C := "RangeCoders$Bits") (T := T_Bits) (N := 15) hx hb hg in_Bits hown hK hP 0 rfl rfl 14 (by decide) (hg _ k130) (fun _ h9 => h9) rfl d_Coder_nextByte_32 ?_
    refine lv_iconst (v := 1) hx hb d_Coder_nextByte_35 (by decide) ?_
    refine lv_iadd hx hb d_Coder_nextByte_36 ?_
    refine lv_topi (fun v_3 ev_3 => ?_)
    refine va_put (D := (dC, dI)) (ci := 3) (v := .int v_3) (ty := .int) (C := "RangeCoders$Bits") (T := T_Bits) (N := 15) hx hb hg in_Bits t_Bits o_Bits n_Bits hown hK hP hD hS 0 rfl rfl 14 (by decide) (hg _ k130) (fun _ h9 => h9) rfl (by decide +kernel) rfl rfl (Nat.le_of_ble_eq_true rfl) d_Coder_nextByte_37 (fun H locs hP hD hS => ?_)
    have hP : va_P (dC, dI) vwCl [(co, .inr (3, [.int xshift, .long xkeptCode, .long xkeptRange, .int xkeptAsked, .int xcache, .int xpending, .long xlow, .long xrange, .long xcode, .long xreadLow, .long xreadRange, .ref ri, .ref ro, .ref rw, .int v_3])), (ri, .inr (0, [.int rin, .ref ria])), (ria, .inl (cI, rik, .inl rif))] H := hP
    have hD : va_D A [(co, .inr (3, [.int xshift, .long xkeptCode, .long xkeptRange, .int xkeptAsked, .int xcache, .int xpending, .long xlow, .long xrange, .long xcode, .long xreadLow, .long xreadRange, .ref ri, .ref ro, .ref rw, .int v_3])), (ri, .inr (0, [.int rin, .ref ria])), (ria, .inl (cI, rik, .inl rif))] := hD
    refine lv_iload_n hx hb d_Coder_nextByte_40 rfl (lv_at hl 0 rfl) ?_
    exact my_iret (v := r_22) hx hb hr (rfl) hlocks hQ hK hS (Nat.le_refl _) (Nat.le_refl _) (v_3) (trivial) (hP.sub [0, 1, 2] rfl) (hD.sub [0, 1, 2] (by decide) rfl) d_Coder_nextByte_41
set_option maxHeartbeats 2000000 in
set_option maxRecDepth 100000 in
theorem c_Bits_Coder_firstFourBytes (l : Launch) (dC : Nat → ClassId) (dI : Nat → Nat → Nat) (cI cM cO : ClassId) (sz : Nat) (co : Nat) (xshift : Int32) (xkeptCode : Int64) (xkeptRange : Int64) (xkeptAsked : Int32) (xcache : Int32) (xpending : Int32) (xlow : Int64) (xrange : Int64) (xcode : Int64) (xreadLow : Int64) (xreadRange : Int64) (ri : Nat) (ro : Nat) (rw : Nat) (xasked : Int32) (rin : Int32) (ria : Nat) (rik : Nat) (rif : Nat → Int32) (hri : rOk rin rik) : MetL l y_Coder_firstFourBytes (Cond.code y_Coder_firstFourBytes prog_4_method_16_code 4 (some .long) :: gw) ({ frames := 3, cells := 0, slots := 0, locals := 63 } : Room) (dC, dI) vwCl (kT cI cM cO) [.ref co] [(co, .inr (3, [.int xshift, .long xkeptCode, .long xkeptRange, .int xkeptAsked, .int xcache, .int xpending, .long xlow, .long xrange, .long xcode, .long xreadLow, .long xreadRange, .ref ri, .ref ro, .ref rw, .int xasked])), (ri, .inr (0, [.int rin, .ref ria])), (ria, .inl (cI, rik, .inl rif))] sz (fun (r : Int64) (u : Int32) => True) (fun (u : Int32) => [(co, .inr (3, [.int xshift, .long xkeptCode, .long xkeptRange, .int xkeptAsked, .int xcache, .int xpending, .long xlow, .long xrange, .long xcode, .long xreadLow, .long xreadRange, .ref ri, .ref ro, .ref rw, .int u])), (ri, .inr (0, [.int rin, .ref ria])), (ria, .inl (cI, rik, .inl rif))]) 0 0 := by
  refine my_ofL (cc := prog_4_method_16_code) (n := 4) (ret := (some .long)) (by decide) rfl (Nat.le_of_ble_eq_true rfl) ?_
  intro p e s m args below meth c R Q A ls H locs hx hb hr hts hown hlocks hml hnm hR hQ hA hl hP hK hN hD hS
  have hg : ∀ w ∈ gw, w.before args s = true := fun w h => hts w (List.mem_cons_of_mem _ h)
  have hown : s.vm.findClass "RangeCoders$Coder" = some m.cls := hown
  have hl : lv_has ls 4 [(0, .ref co)] := hl
  have hlt_hri := rOk_lt hri
  refine lv_aload_n hx hb d_Coder_firstFourBytes_0 rfl (lv_at hl 0 rfl) ?_
  refine lv_iconst (v := 0) hx hb d_Coder_firstFourBytes_1 (by decide) ?_
  refine va_put (D := (dC, dI)) (ci := 3) (v := .int 0) (ty := .int) (C := "RangeCoders$Bits") (T := T_Bits) (N := 15) hx hb hg in_Bits t_Bits o_Bits n_Bits hown hK hP hD hS 0 rfl rfl 14 (by decide) (hg _ k130) (fun _ h9 => h9) rfl (by decide +kernel) rfl rfl (Nat.le_of_ble_eq_true rfl) d_Coder_firstFourBytes_2 (fun H locs hP hD hS => ?_)
  have hP : va_P (dC, dI) vwCl [(co, .inr (3, [.int xshift, .long xkeptCode, .long xkeptRange, .int xkeptAsked, .int xcache, .int xpending, .long xlow, .long xrange, .long xcode, .long xreadLow, .long xreadRange, .ref ri, .ref ro, .ref rw, .int 0])), (ri, .inr (0, [.int rin, .ref ria])), (ria, .inl (cI, rik, .inl rif))] H := hP
  have hD : va_D A [(co, .inr (3, [.int xshift, .long xkeptCode, .long xkeptRange, .int xkeptAsked, .int xcache, .int xpending, .long xlow, .long xrange, .long xcode, .long xreadLow, .long xreadRange, .ref ri, .ref ro, .ref rw, .int 0])), (ri, .inr (0, [.int rin, .ref ria])), (ria, .inl (cI, rik, .inl rif))] := hD
  refine lv_lconst (v := 0) hx hb d_Coder_firstFourBytes_5 (by decide) ?_
  refine lv_lstore_n (lv' := [(1, .long 0), (0, .ref co)]) hx hb d_Coder_firstFourBytes_6 rfl hl (by decide) rfl (fun ls hl => ?_)
  refine lv_iconst (v := 0) hx hb d_Coder_firstFourBytes_7 (by decide) ?_
  refine lv_istore_n (lv' := [(3, .int 0), (1, .long 0), (0, .ref co)]) hx hb d_Coder_firstFourBytes_8 rfl hl (by decide) rfl (fun ls hl => ?_)
  have J_9 : ∀ (n9_9 : Nat) (b9_0 : Int32) (b9_1 : Int64) (b9_2 : Int32) (hn9_9 : ((4 : Int32).toInt - b9_0.toInt).toNat = n9_9) (hi_9 : 0 ≤ b9_0.toInt) (H : Heap) (locs : List Loc) (ls : Array Slot), va_P (dC, dI) vwCl [(co, .inr (3, [.int xshift, .long xkeptCode, .long xkeptRange, .int xkeptAsked, .int xcache, .int xpending, .long xlow, .long xrange, .long xcode, .long xreadLow, .long xreadRange, .ref ri, .ref ro, .ref rw, .int b9_2])), (ri, .inr (0, [.int rin, .ref ria])), (ria, .inl (cI, rik, .inl rif))] H → va_D A [(co, .inr (3, [.int xshift, .long xkeptCode, .long xkeptRange, .int xkeptAsked, .int xcache, .int xpending, .long xlow, .long xrange, .long xcode, .long xreadLow, .long xreadRange, .ref ri, .ref ro, .ref rw, .int b9_2])), (ri, .inr (0, [.int rin, .ref ria])), (ria, .inl (cI, rik, .inl rif))] → va_S A s.heap H locs → lv_has ls 4 [(3, .int b9_0), (1, .long b9_1), (0, .ref co)] → W p l e R s m args below meth c H locs 0 0 Q (F0 m 9 ls []) := by
    intro n9_9
    induction n9_9 using Nat.strongRecOn with
    | ind n9_9 ih9_9 =>
      intro b9_0 b9_1 b9_2 hn9_9 hi_9 H locs ls hP hD hS hl
      refine lv_iload_n hx hb d_Coder_firstFourBytes_9 rfl (lv_at hl 0 rfl) ?_
      refine lv_iconst (v := 4) hx hb d_Coder_firstFourBytes_10 (by decide) ?_
      refine lv_icmp_ge (tgt := 31) hx hb d_Coder_firstFourBytes_11 (by decide) (fun c_1 => ?_) (fun c_1 => ?_)
      · refine lv_lload_n hx hb d_Coder_firstFourBytes_31 rfl (lv_at hl 1 rfl) ?_
        exact my_lret (v := b9_1) hx hb hr hlocks hQ hK hS (Nat.le_refl _) (Nat.le_refl _) (b9_2) (trivial) (hP.sub [0, 1, 2] rfl) (hD.sub [0, 1, 2] (by decide) rfl) d_Coder_firstFourBytes_32
      · refine lv_lload_n hx hb d_Coder_firstFourBytes_14 rfl (lv_at hl 1 rfl) ?_
        refine lv_bipush (v := 8) hx hb d_Coder_firstFourBytes_15 (by decide) ?_
        refine lv_lshl hx hb d_Coder_firstFourBytes_17 rfl ?_
        refine lv_topl (fun v_2 ev_2 => ?_)
        refine lv_aload_n hx hb d_Coder_firstFourBytes_18 rfl (lv_at hl 2 rfl) ?_
        refine my_ci (wr := []) (va_runU (As := []) (rest := [.long v_2]) ⟨hx, hb, hml, hown, hts⟩ (c_Bits_Coder_nextByte l dC dI cI cM cO H.size co xshift xkeptCode xkeptRange xkeptAsked xcache xpending xlow xrange xcode xreadLow xreadRange ri ro rw b9_2 rin ria rik rif (by first | assumption | omega)) (va_cwU 0 hts (my_gU k741 k743 k744 k742 k3 k749) rfl rfl rfl rfl (by decide +kernel) ⟨by rw [hR]; exact Nat.le_of_ble_eq_true rfl, by rw [hR]; exact Nat.le_of_ble_eq_true rfl⟩) (my_preV hK hN (hP.sub [0, 1, 2] rfl) (hD.sub [0, 1, 2] (by decide) rfl) 0 rfl rfl) rfl rfl hl.1 rfl (lv_room (Nat.le_of_ble_eq_true rfl)) d_Coder_firstFourBytes_19 ⟨by rw [hR]; exact Nat.le_of_ble_eq_true rfl, by rw [hR]; exact Nat.le_of_ble_eq_true rfl⟩) hP hD hS hA [0, 1, 2] [] rfl rfl (by decide) (by decide) (fun r_19 u9 H locs hw_19 hP hD hS => ?_)
        obtain ⟨xaskedq_19, rfl⟩ : ∃ z, z = u9 := ⟨_, rfl⟩
        have hP : va_P (dC, dI) vwCl [(co, .inr (3, [.int xshift, .long xkeptCode, .long xkeptRange, .int xkeptAsked, .int xcache, .int xpending, .long xlow, .long xrange, .long xcode, .long xreadLow, .long xreadRange, .ref ri, .ref ro, .ref rw, .int xaskedq_19])), (ri, .inr (0, [.int rin, .ref ria])), (ria, .inl (cI, rik, .inl rif))] H := hP
        have hD : va_D A [(co, .inr (3, [.int xshift, .long xkeptCode, .long xkeptRange, .int xkeptAsked, .int xcache, .int xpending, .long xlow, .long xrange, .long xcode, .long xreadLow, .long xreadRange, .ref ri, .ref ro, .ref rw, .int xaskedq_19])), (ri, .inr (0, [.int rin, .ref ria])), (ria, .inl (cI, rik, .inl rif))] := hD
        refine lv_i2l hx hb d_Coder_firstFourBytes_22 rfl ?_
        refine lv_topl (fun v_3 ev_3 => ?_)
        refine lv_lor hx hb d_Coder_firstFourBytes_23 ?_
        refine lv_topl (fun v_4 ev_4 => ?_)
        refine lv_lstore_n (lv' := [(1, .long v_4), (3, .int b9_0), (0, .ref co)]) hx hb d_Coder_firstFourBytes_24 rfl hl (by decide) rfl (fun ls hl => ?_)
        obtain ⟨v_5, ev_5⟩ : ∃ y : Int32, y = b9_0 + (1) := ⟨_, rfl⟩
        refine lv_iinc (v := v_5) (lv' := [(3, .int v_5), (1, .long v_4), (0, .ref co)]) hx hb d_Coder_firstFourBytes_25 hl (k := 1) rfl (by rw [ev_5]; rfl) (by decide) rfl (fun ls hl => ?_)
        refine lv_goto (tgt := 9) hx hb d_Coder_firstFourBytes_28 (by decide) ?_
        exact ih9_9 _ (by first | omega | (have z9 := I_up c_1 ev_5; omega)) v_5 v_4 xaskedq_19 rfl (by have z9 := I_up c_1 ev_5; omega) H locs ls (hP.sub [0, 1, 2] rfl) (hD.sub [0, 1, 2] (by decide) rfl) hS (lv_sub hl [0, 1, 2] rfl)
  exact J_9 _ (0 : Int32) (0 : Int64) (0 : Int32) rfl (by first | decide | assumption | omega) H locs ls (hP.sub [0, 1, 2] rfl) (hD.sub [0, 1, 2] (by decide) rfl) hS (lv_sub hl [0, 1, 2] rfl)
set_option maxHeartbeats 2000000 in
set_option maxRecDepth 100000 in
theorem c_Bits_Coder_hasWidth (l : Launch) (dC : Nat → ClassId) (dI : Nat → Nat → Nat) (cI cM cO : ClassId) (sz : Nat) (co : Nat) (xshift : Int32) (xkeptCode : Int64) (xkeptRange : Int64) (xkeptAsked : Int32) (xcache : Int32) (xpending : Int32) (xlow : Int64) (xrange : Int64) (xcode : Int64) (xreadLow : Int64) (xreadRange : Int64) (ri : Nat) (ro : Nat) (rw : Nat) (xasked : Int32) (wd : Int32) : MetI l y_Coder_hasWidth (Cond.code y_Coder_hasWidth prog_4_method_13_code 2 (some .boolean) :: gw) ({ frames := 0, cells := 0, slots := 0, locals := 0 } : Room) (dC, dI) vwCl (kT cI cM cO) [.ref co, .int wd] [(co, .inr (3, [.int xshift, .long xkeptCode, .long xkeptRange, .int xkeptAsked, .int xcache, .int xpending, .long xlow, .long xrange, .long xcode, .long xreadLow, .long xreadRange, .ref ri, .ref ro, .ref rw, .int xasked]))] sz (fun (r : Int32) (u : Unit) => True) (fun (u : Unit) => [(co, .inr (3, [.int xshift, .long xkeptCode, .long xkeptRange, .int xkeptAsked, .int xcache, .int xpending, .long xlow, .long xrange, .long xcode, .long xreadLow, .long xreadRange, .ref ri, .ref ro, .ref rw, .int xasked]))]) 0 0 := by
  refine my_ofI (cc := prog_4_method_13_code) (n := 2) (ret := (some .boolean)) (by decide) rfl (Nat.le_of_ble_eq_true rfl) ?_
  intro p e s m args below meth c R Q A ls H locs hx hb hr hts hown hlocks hml hnm hR hQ hA hl hP hK hN hD hS
  have hg : ∀ w ∈ gw, w.before args s = true := fun w h => hts w (List.mem_cons_of_mem _ h)
  have hown : s.vm.findClass "RangeCoders$Coder" = some m.cls := hown
  have hl : lv_has ls 2 [(0, .ref co), (1, .int wd)] := hl
  refine lv_iload_n hx hb d_Coder_hasWidth_0 rfl (lv_at hl 1 rfl) ?_
  refine lv_iconst (v := 1) hx hb d_Coder_hasWidth_1 (by decide) ?_
  refine lv_icmp_lt (tgt := 15) hx hb d_Coder_hasWidth_2 (by decide) (fun c_1 => ?_) (fun c_1 => ?_)
  · refine lv_iconst (v := 0) hx hb d_Coder_hasWidth_15 (by decide) ?_
    exact my_iret (v := 0) hx hb hr (rfl) hlocks hQ hK hS (Nat.le_refl _) (Nat.le_refl _) () (trivial) (hP.sub [0] rfl) (hD.sub [0] (by decide) rfl) d_Coder_hasWidth_16
  · refine lv_iload_n hx hb d_Coder_hasWidth_5 rfl (lv_at hl 1 rfl) ?_
    refine lv_bipush (v := 12) hx hb d_Coder_hasWidth_6 (by decide) ?_
    refine lv_icmp_gt (tgt := 15) hx hb d_Coder_hasWidth_8 (by decide) (fun c_2 => ?_) (fun c_2 => ?_)
    · refine lv_iconst (v := 0) hx hb d_Coder_hasWidth_15 (by decide) ?_
      exact my_iret (v := 0) hx hb hr (rfl) hlocks hQ hK hS (Nat.le_refl _) (Nat.le_refl _) () (trivial) (hP.sub [0] rfl) (hD.sub [0] (by decide) rfl) d_Coder_hasWidth_16
    · refine lv_iconst (v := 1) hx hb d_Coder_hasWidth_11 (by decide) ?_
      refine lv_goto (tgt := 16) hx hb d_Coder_hasWidth_12 (by decide) ?_
      exact my_iret (v := 1) hx hb hr (rfl) hlocks hQ hK hS (Nat.le_refl _) (Nat.le_refl _) () (trivial) (hP.sub [0] rfl) (hD.sub [0] (by decide) rfl) d_Coder_hasWidth_16
set_option maxHeartbeats 2000000 in
set_option maxRecDepth 100000 in
theorem c_Bits_Coder_bytesAsked (l : Launch) (dC : Nat → ClassId) (dI : Nat → Nat → Nat) (cI cM cO : ClassId) (sz : Nat) (co : Nat) (xshift : Int32) (xkeptCode : Int64) (xkeptRange : Int64) (xkeptAsked : Int32) (xcache : Int32) (xpending : Int32) (xlow : Int64) (xrange : Int64) (xcode : Int64) (xreadLow : Int64) (xreadRange : Int64) (ri : Nat) (ro : Nat) (rw : Nat) (xasked : Int32) : MetI l y_Coder_bytesAsked (Cond.code y_Coder_bytesAsked prog_4_method_14_code 1 (some .int) :: gw) ({ frames := 0, cells := 0, slots := 0, locals := 0 } : Room) (dC, dI) vwCl (kT cI cM cO) [.ref co] [(co, .inr (3, [.int xshift, .long xkeptCode, .long xkeptRange, .int xkeptAsked, .int xcache, .int xpending, .long xlow, .long xrange, .long xcode, .long xreadLow, .long xreadRange, .ref ri, .ref ro, .ref rw, .int xasked]))] sz (fun (r : Int32) (u : Unit) => True) (fun (u : Unit) => [(co, .inr (3, [.int xshift, .long xkeptCode, .long xkeptRange, .int xkeptAsked, .int xcache, .int xpending, .long xlow, .long xrange, .long xcode, .long xreadLow, .long xreadRange, .ref ri, .ref ro, .ref rw, .int xasked]))]) 0 0 := by
  refine my_ofI (cc := prog_4_method_14_code) (n := 1) (ret := (some .int)) (by decide) rfl (Nat.le_of_ble_eq_true rfl) ?_
  intro p e s m args below meth c R Q A ls H locs hx hb hr hts hown hlocks hml hnm hR hQ hA hl hP hK hN hD hS
  have hg : ∀ w ∈ gw, w.before args s = true := fun w h => hts w (List.mem_cons_of_mem _ h)
  have hown : s.vm.findClass "RangeCoders$Coder" = some m.cls := hown
  have hl : lv_has ls 1 [(0, .ref co)] := hl
  refine lv_aload_n hx hb d_Coder_bytesAsked_0 rfl (lv_at hl 0 rfl) ?_
  refine va_get (D := (dC, dI)) (ci := 3) (v := .int xasked) (C := "RangeCoders$Bits") (T := T_Bits) (N := 15) hx hb hg in_Bits hown hK hP 0 rfl rfl 14 (by decide) (hg _ k130) (fun _ h9 => h9) rfl d_Coder_bytesAsked_1 ?_
  exact my_iret (v := xasked) hx hb hr (rfl) hlocks hQ hK hS (Nat.le_refl _) (Nat.le_refl _) () (trivial) (hP.sub [0] rfl) (hD.sub [0] (by decide) rfl) d_Coder_bytesAsked_4
set_option maxHeartbeats 2000000 in
set_option maxRecDepth 100000 in
theorem c_Bits_Carries_writeWaiting (l : Launch) (dC : Nat → ClassId) (dI : Nat → Nat → Nat) (cI cM cO : ClassId) (sz : Nat) (sl : Nat) (co : Nat) (xshift : Int32) (xkeptCode : Int64) (xkeptRange : Int64) (xkeptAsked : Int32) (xcache : Int32) (xpending : Int32) (xlow : Int64) (xrange : Int64) (xcode : Int64) (xreadLow : Int64) (xreadRange : Int64) (ri : Nat) (ro : Nat) (rw : Nat) (xasked : Int32) (rwn : Int32) (rwa : Nat) (rwk : Nat) (rwf : Nat → Int32) (cy : Int32) (hrw : rOk rwn rwk) : MetVg l y_Carries_writeWaiting (Cond.code y_Carries_writeWaiting prog_3_method_9_code 3 none :: gw) ({ frames := 3, cells := rPh rwk, slots := rPh rwk, locals := 83 } : Room) (dC, dI) vwCl (kT cI cM cO) [.ref co, .int cy] [(co, .inr (3, [.int xshift, .long xkeptCode, .long xkeptRange, .int xkeptAsked, .int xcache, .int xpending, .long xlow, .long xrange, .long xcode, .long xreadLow, .long xreadRange, .ref ri, .ref ro, .ref rw, .int xasked])), (rw, .inr (0, [.int rwn, .ref rwa])), (rwa, .inl (cI, rwk, .inl rwf))] sz sl (fun (u : Int32 × Int32 × Nat × Nat × (Nat → Int32)) => rOk u.2.1 u.2.2.2.1) (fun (u : Int32 × Int32 × Nat × Nat × (Nat → Int32)) => [(co, .inr (3, [.int xshift, .long xkeptCode, .long xkeptRange, .int xkeptAsked, .int xcache, .int u.1, .long xlow, .long xrange, .long xcode, .long xreadLow, .long xreadRange, .ref ri, .ref ro, .ref rw, .int xasked])), (rw, .inr (0, [.int u.2.1, .ref u.2.2.1])), (u.2.2.1, .inl (cI, u.2.2.2.1, .inl u.2.2.2.2))]) (rPh rwk) (fun (u : Int32 × Int32 × Nat × Nat × (Nat → Int32)) => rPh u.2.2.2.1) := by
  refine my_ofVg (cc := prog_3_method_9_code) (n := 3) (ret := none) (by decide) rfl (Nat.le_of_ble_eq_true rfl) ?_
  intro p e s m args below meth c R Q A ls H locs hx hb hr hts hown hlocks hml hnm hR hQ hA hl hP hK hN hD hS
  have hg : ∀ w ∈ gw, w.before args s = true := fun w h => hts w (List.mem_cons_of_mem _ h)
  have hown : s.vm.findClass "RangeCoders$Carries" = some m.cls := hown
  have hl : lv_has ls 3 [(0, .ref co), (1, .int cy)] := hl
  have hlt_hrw := rOk_lt hrw
  refine lv_aload_n hx hb d_Carries_writeWaiting_0 rfl (lv_at hl 0 rfl) ?_
  refine va_get (D := (dC, dI)) (ci := 3) (v := .int xcache) (C := "RangeCoders$Bits") (T := T_Bits) (N := 15) hx hb hg in_Bits hown hK hP 0 rfl rfl 4 (by decide) (hg _ k68) (fun _ h9 => h9) rfl d_Carries_writeWaiting_1 ?_
  refine lv_iconst (v := (-1)) hx hb d_Carries_writeWaiting_4 (by decide) ?_
  refine lv_icmp_eq (tgt := 25) hx hb d_Carries_writeWaiting_5 (by decide) (fun c_1 => ?_) (fun c_1 => ?_)
  · refine lv_iconst (v := 0) hx hb d_Carries_writeWaiting_25 (by decide) ?_
    refine lv_istore_n (lv' := [(2, .int 0), (0, .ref co), (1, .int cy)]) hx hb d_Carries_writeWaiting_26 rfl hl (by decide) rfl (fun ls hl => ?_)
    have J_27 : ∀ (n9_27 : Nat) (b27_0 : Int32) (b27_1 : Nat) (b27_2 : Int32) (b27_3 : Nat) (b27_4 : Nat → Int32) (b27_5 : Nat) (hn9_27 : (xpending.toInt - b27_0.toInt).toNat = n9_27) (hi_27 : 0 ≤ b27_0.toInt) (hr1_27 : rOk b27_2 b27_3) (hd_27 : b27_5 + (rPh b27_3) ≤ rPh rwk) (H : Heap) (locs : List Loc) (ls : Array Slot), va_P (dC, dI) vwCl [(co, .inr (3, [.int xshift, .long xkeptCode, .long xkeptRange, .int xkeptAsked, .int xcache, .int xpending, .long xlow, .long xrange, .long xcode, .long xreadLow, .long xreadRange, .ref ri, .ref ro, .ref rw, .int xasked])), (rw, .inr (0, [.int b27_2, .ref b27_1])), (b27_1, .inl (cI, b27_3, .inl b27_4))] H → va_D A [(co, .inr (3, [.int xshift, .long xkeptCode, .long xkeptRange, .int xkeptAsked, .int xcache, .int xpending, .long xlow, .long xrange, .long xcode, .long xreadLow, .long xreadRange, .ref ri, .ref ro, .ref rw, .int xasked])), (rw, .inr (0, [.int b27_2, .ref b27_1])), (b27_1, .inl (cI, b27_3, .inl b27_4))] → va_S A s.heap H locs → lv_has ls 3 [(2, .int b27_0), (0, .ref co), (1, .int cy)] → W p l e R s m args below meth c H locs b27_5 b27_5 Q (F0 m 27 ls []) := by
      intro n9_27
      induction n9_27 using Nat.strongRecOn with
      | ind n9_27 ih9_27 =>
        intro b27_0 b27_1 b27_2 b27_3 b27_4 b27_5 hn9_27 hi_27 hr1_27 hd_27 H locs ls hP hD hS hl
        refine lv_iload_n hx hb d_Carries_writeWaiting_27 rfl (lv_at hl 0 rfl) ?_
        refine lv_aload_n hx hb d_Carries_writeWaiting_28 rfl (lv_at hl 1 rfl) ?_
        refine va_get (D := (dC, dI)) (ci := 3) (v := .int xpending) (C := "RangeCoders$Bits") (T := T_Bits) (N := 15) hx hb hg in_Bits hown hK hP 0 rfl rfl 5 (by decide) (hg _ k69) (fun _ h9 => h9) rfl d_Carries_writeWaiting_29 ?_
        refine lv_icmp_ge (tgt := 57) hx hb d_Carries_writeWaiting_32 (by decide) (fun c_2 => ?_) (fun c_2 => ?_)
        · refine lv_aload_n hx hb d_Carries_writeWaiting_57 rfl (lv_at hl 1 rfl) ?_
          refine lv_iconst (v := 0) hx hb d_Carries_writeWaiting_58 (by decide) ?_
          refine va_put (D := (dC, dI)) (ci := 3) (v := .int 0) (ty := .int) (C := "RangeCoders$Bits") (T := T_Bits) (N := 15) hx hb hg in_Bits t_Bits o_Bits n_Bits hown hK hP hD hS 0 rfl rfl 5 (by decide) (hg _ k69) (fun _ h9 => h9) rfl (by decide +kernel) rfl rfl (Nat.le_of_ble_eq_true rfl) d_Carries_writeWaiting_59 (fun H locs hP hD hS => ?_)
          have hP : va_P (dC, dI) vwCl [(co, .inr (3, [.int xshift, .long xkeptCode, .long xkeptRange, .int xkeptAsked, .int xcache, .int 0, .long xlow, .long xrange, .long xcode, .long xreadLow, .long xreadRange, .ref ri, .ref ro, .ref rw, .int xasked])), (rw, .inr (0, [.int b27_2, .ref b27_1])), (b27_1, .inl (cI, b27_3, .inl b27_4))] H := hP
          have hD : va_D A [(co, .inr (3, [.int xshift, .long xkeptCode, .long xkeptRange, .int xkeptAsked, .int xcache, .int 0, .long xlow, .long xrange, .long xcode, .long xreadLow, .long xreadRange, .ref ri, .ref ro, .ref rw, .int xasked])), (rw, .inr (0, [.int b27_2, .ref b27_1])), (b27_1, .inl (cI, b27_3, .inl b27_4))] := hD
          exact my_vretg hx hb hr hlocks hQ hK hS ((0 : Int32), b27_2, b27_1, b27_3, b27_4) (show b27_5 + (rPh b27_3) ≤ (rPh rwk) by omega) (show b27_5 + (rPh b27_3) ≤ (rPh rwk) by omega) (by first | assumption | (subst_vars; assumption)) (hP.sub [0, 1, 2] rfl) (hD.sub [0, 1, 2] (by decide) rfl) d_Carries_writeWaiting_62
        · refine lv_aload_n hx hb d_Carries_writeWaiting_35 rfl (lv_at hl 1 rfl) ?_
          refine va_get (D := (dC, dI)) (ci := 3) (v := .ref rw) (C := "RangeCoders$Bits") (T := T_Bits) (N := 15) hx hb hg in_Bits hown hK hP 0 rfl rfl 13 (by decide) (hg _ k124) (fun x9 h9 => u_same (hg _ k125) x9 h9) rfl d_Carries_writeWaiting_36 ?_
          refine lv_sipush (v := 255) hx hb d_Carries_writeWaiting_39 (by decide) ?_
          refine lv_iload_n hx hb d_Carries_writeWaiting_42 rfl (lv_at hl 2 rfl) ?_
          refine lv_iadd hx hb d_Carries_writeWaiting_43 ?_
          refine lv_topi (fun v_3 ev_3 => ?_)
          refine lv_sipush (v := 255) hx hb d_Carries_writeWaiting_44 (by decide) ?_
          refine lv_iand hx hb d_Carries_writeWaiting_47 ?_
          refine lv_topi (fun v_4 ev_4 => ?_)
          refine my_cvg (wr := [(co, .inr (3, [.int xshift, .long xkeptCode, .long xkeptRange, .int xkeptAsked, .int xcache, .int xpending, .long xlow, .long xrange, .long xcode, .long xreadLow, .long xreadRange, .ref ri, .ref ro, .ref rw, .int xasked]))]) (va_runV (As := [.int v_4]) (rest := []) ⟨hx, hb, hml, hown, hts⟩ (c_Row_add l dC dI cI cM cO H.size (hSl H) rw b27_2 b27_1 b27_3 b27_4 v_4 (by first | assumption | omega)) (cwV 1 hts (my_gV k472 k473 k474 k6 k475) rfl rfl rfl (by decide +kernel) ⟨by rw [hR]; exact Nat.le_of_ble_eq_true rfl, by rw [hR]; exact Nat.le_of_ble_eq_true rfl⟩) (my_preVg hK hN (hP.sub [1, 2] rfl) (hD.sub [1, 2] (by decide) rfl) 0 rfl rfl) rfl rfl hl.1 rfl (lv_room (Nat.le_of_ble_eq_true rfl)) d_Carries_writeWaiting_48 ⟨by rw [hR]; exact (show b27_5 + (rPh b27_3) ≤ (rPh rwk) by omega), by rw [hR]; exact (show b27_5 + (rPh b27_3) ≤ (rPh rwk) by omega)⟩) hP hD hS hA [1, 2] [0] rfl rfl (by decide) (by decide) (fun u9 d_48 H locs hd_48 hw_48 hP hD hS => ?_)
          obtain ⟨rrnq_48, rraq_48, rrkq_48, rrfq_48⟩ := u9
          have hrr_48 : rOk rrnq_48 rrkq_48 := hw_48
          have hd_48 : d_48 + (rPh rrkq_48) ≤ (rPh b27_3) := hd_48
          have hP : va_P (dC, dI) vwCl [(co, .inr (3, [.int xshift, .long xkeptCode, .long xkeptRange, .int xkeptAsked, .int xcache, .int xpending, .long xlow, .long xrange, .long xcode, .long xreadLow, .long xreadRange, .ref ri, .ref ro, .ref rw, .int xasked])), (rw, .inr (0, [.int rrnq_48, .ref rraq_48])), (rraq_48, .inl (cI, rrkq_48, .inl rrfq_48))] H := hP
          have hD : va_D A [(co, .inr (3, [.int xshift, .long xkeptCode, .long xkeptRange, .int xkeptAsked, .int xcache, .int xpending, .long xlow, .long xrange, .long xcode, .long xreadLow, .long xreadRange, .ref ri, .ref ro, .ref rw, .int xasked])), (rw, .inr (0, [.int rrnq_48, .ref rraq_48])), (rraq_48, .inl (cI, rrkq_48, .inl rrfq_48))] := hD
          obtain ⟨v_5, ev_5⟩ : ∃ y : Int32, y = b27_0 + (1) := ⟨_, rfl⟩
          refine lv_iinc (v := v_5) (lv' := [(2, .int v_5), (0, .ref co), (1, .int cy)]) hx hb d_Carries_writeWaiting_51 hl (k := 0) rfl (by rw [ev_5]; rfl) (by decide) rfl (fun ls hl => ?_)
          refine lv_goto (tgt := 27) hx hb d_Carries_writeWaiting_54 (by decide) ?_
          exact ih9_27 _ (by first | omega | (have z9 := I_up c_2 ev_5; omega)) v_5 rraq_48 rrnq_48 rrkq_48 rrfq_48 (b27_5 + d_48) rfl (by have z9 := I_up c_2 ev_5; omega) (by assumption) (by omega) H locs ls (hP.sub [0, 1, 2] rfl) (hD.sub [0, 1, 2] (by decide) rfl) hS (lv_sub hl [0, 1, 2] rfl)
    exact J_27 _ (0 : Int32) rwa rwn rwk rwf (0 : Nat) rfl (by first | decide | assumption | omega) (by assumption) (by omega) H locs ls (hP.sub [0, 1, 2] rfl) (hD.sub [0, 1, 2] (by decide) rfl) hS (lv_sub hl [0, 1, 2] rfl)
  · refine lv_aload_n hx hb d_Carries_writeWaiting_8 rfl (lv_at hl 0 rfl) ?_
    refine va_get (D := (dC, dI)) (ci := 3) (v := .ref rw) (C := "RangeCoders$Bits") (T := T_Bits) (N := 15) hx hb hg in_Bits hown hK hP 0 rfl rfl 13 (by decide) (hg _ k124) (fun x9 h9 => u_same (hg _ k125) x9 h9) rfl d_Carries_writeWaiting_9 ?_
    refine lv_aload_n hx hb d_Carries_writeWaiting_12 rfl (lv_at hl 0 rfl) ?_
    refine va_get (D := (dC, dI)) (ci := 3) (v := .int xcache) (C := "RangeCoders$Bits") (T := T_Bits) (N := 15) hx hb hg in_Bits hown hK hP 0 rfl rfl 4 (by decide) (hg _ k68) (fun _ h9 => h9) rfl d_Carries_writeWaiting_13 ?_
    refine lv_iload_n hx hb d_Carries_writeWaiting_16 rfl (lv_at hl 1 rfl) ?_
    refine lv_iadd hx hb d_Carries_writeWaiting_17 ?_
    refine lv_topi (fun v_6 ev_6 => ?_)
    refine lv_sipush (v := 255) hx hb d_Carries_writeWaiting_18 (by decide) ?_
    refine lv_iand hx hb d_Carries_writeWaiting_21 ?_
    refine lv_topi (fun v_7 ev_7 => ?_)
    refine my_cvg (wr := [(co, .inr (3, [.int xshift, .long xkeptCode, .long xkeptRange, .int xkeptAsked, .int xcache, .int xpending, .long xlow, .long xrange, .long xcode, .long xreadLow, .long xreadRange, .ref ri, .ref ro, .ref rw, .int xasked]))]) (va_runV (As := [.int v_7]) (rest := []) ⟨hx, hb, hml, hown, hts⟩ (c_Row_add l dC dI cI cM cO H.size (hSl H) rw rwn rwa rwk rwf v_7 (by first | assumption | omega)) (cwV 1 hts (my_gV k472 k473 k474 k6 k475) rfl rfl rfl (by decide +kernel) ⟨by rw [hR]; exact Nat.le_of_ble_eq_true rfl, by rw [hR]; exact Nat.le_of_ble_eq_true rfl⟩) (my_preVg hK hN (hP.sub [1, 2] rfl) (hD.sub [1, 2] (by decide) rfl) 0 rfl rfl) rfl rfl hl.1 rfl (lv_room (Nat.le_of_ble_eq_true rfl)) d_Carries_writeWaiting_22 ⟨by rw [hR]; exact (show 0 + (rPh rwk) ≤ (rPh rwk) by omega), by rw [hR]; exact (show 0 + (rPh rwk) ≤ (rPh rwk) by omega)⟩) hP hD hS hA [1, 2] [0] rfl rfl (by decide) (by decide) (fun u9 d_22 H locs hd_22 hw_22 hP hD hS => ?_)
    obtain ⟨rrnq_22, rraq_22, rrkq_22, rrfq_22⟩ := u9
    have hrr_22 : rOk rrnq_22 rrkq_22 := hw_22
    have hd_22 : d_22 + (rPh rrkq_22) ≤ (rPh rwk) := hd_22
    have hP : va_P (dC, dI) vwCl [(co, .inr (3, [.int xshift, .long xkeptCode, .long xkeptRange, .int xkeptAsked, .int xcache, .int xpending, .long xlow, .long xrange, .long xcode, .long xreadLow, .long xreadRange, .ref ri, .ref ro, .ref rw, .int xasked])), (rw, .inr (0, [.int rrnq_22, .ref rraq_22])), (rraq_22, .inl (cI, rrkq_22, .inl rrfq_22))] H := hP
    have hD : va_D A [(co, .inr (3, [.int xshift, .long xkeptCode, .long xkeptRange, .int xkeptAsked, .int xcache, .int xpending, .long xlow, .long xrange, .long xcode, .long xreadLow, .long xreadRange, .ref ri, .ref ro, .ref rw, .int xasked])), (rw, .inr (0, [.int rrnq_22, .ref rraq_22])), (rraq_22, .inl (cI, rrkq_22, .inl rrfq_22))] := hD
    refine lv_iconst (v := 0) hx hb d_Carries_writeWaiting_25 (by decide) ?_
    refine lv_istore_n (lv' := [(2, .int 0), (0, .ref co), (1, .int cy)]) hx hb d_Carries_writeWaiting_26 rfl hl (by decide) rfl (fun ls hl => ?_)
    have J_27 : ∀ (n9_27 : Nat) (b27_0 : Int32) (b27_1 : Nat) (b27_2 : Int32) (b27_3 : Nat) (b27_4 : Nat → Int32) (b27_5 : Nat) (hn9_27 : (xpending.toInt - b27_0.toInt).toNat = n9_27) (hi_27 : 0 ≤ b27_0.toInt) (hr1_27 : rOk b27_2 b27_3) (hd_27 : b27_5 + (rPh b27_3) ≤ rPh rwk) (H : Heap) (locs : List Loc) (ls : Array Slot), va_P (dC, dI) vwCl [(co, .inr (3, [.int xshift, .long xkeptCode, .long xkeptRange, .int xkeptAsked, .int xcache, .int xpending, .long xlow, .long xrange, .long xcode, .long xreadLow, .long xreadRange, .ref ri, .ref ro, .ref rw, .int xasked])), (rw, .inr (0, [.int b27_2, .ref b27_1])), (b27_1, .inl (cI, b27_3, .inl b27_4))] H → va_D A [(co, .inr (3, [.int xshift, .long xkeptCode, .long xkeptRange, .int xkeptAsked, .int xcache, .int xpending, .long xlow, .long xrange, .long xcode, .long xreadLow, .long xreadRange, .ref ri, .ref ro, .ref rw, .int xasked])), (rw, .inr (0, [.int b27_2, .ref b27_1])), (b27_1, .inl (cI, b27_3, .inl b27_4))] → va_S A s.heap H locs → lv_has ls 3 [(2, .int b27_0), (0, .ref co), (1, .int cy)] → W p l e R s m args below meth c H locs b27_5 b27_5 Q (F0 m 27 ls []) := by
      intro n9_27
      induction n9_27 using Nat.strongRecOn with
      | ind n9_27 ih9_27 =>
        intro b27_0 b27_1 b27_2 b27_3 b27_4 b27_5 hn9_27 hi_27 hr1_27 hd_27 H locs ls hP hD hS hl
        refine lv_iload_n hx hb d_Carries_writeWaiting_27 rfl (lv_at hl 0 rfl) ?_
        refine lv_aload_n hx hb d_Carries_writeWaiting_28 rfl (lv_at hl 1 rfl) ?_
        refine va_get (D := (dC, dI)) (ci := 3) (v := .int xpending) (C := "RangeCoders$Bits") (T := T_Bits) (N := 15) hx hb hg in_Bits hown hK hP 0 rfl rfl 5 (by decide) (hg _ k69) (fun _ h9 => h9) rfl d_Carries_writeWaiting_29 ?_
        refine lv_icmp_ge (tgt := 57) hx hb d_Carries_writeWaiting_32 (by decide) (fun c_8 => ?_) (fun c_8 => ?_)
        · refine lv_aload_n hx hb d_Carries_writeWaiting_57 rfl (lv_at hl 1 rfl) ?_
          refine lv_iconst (v := 0) hx hb d_Carries_writeWaiting_58 (by decide) ?_
          refine va_put (D := (dC, dI)) (ci := 3) (v := .int 0) (ty := .int) (C := "RangeCoders$Bits") (T := T_Bits) (N := 15) hx hb hg in_Bits t_Bits o_Bits n_Bits hown hK hP hD hS 0 rfl rfl 5 (by decide) (hg _ k69) (fun _ h9 => h9) rfl (by decide +kernel) rfl rfl (Nat.le_of_ble_eq_true rfl) d_Carries_writeWaiting_59 (fun H locs hP hD hS => ?_)
          have hP : va_P (dC, dI) vwCl [(co, .inr (3, [.int xshift, .long xkeptCode, .long xkeptRange, .int xkeptAsked, .int xcache, .int 0, .long xlow, .long xrange, .long xcode, .long xreadLow, .long xreadRange, .ref ri, .ref ro, .ref rw, .int xasked])), (rw, .inr (0, [.int b27_2, .ref b27_1])), (b27_1, .inl (cI, b27_3, .inl b27_4))] H := hP
          have hD : va_D A [(co, .inr (3, [.int xshift, .long xkeptCode, .long xkeptRange, .int xkeptAsked, .int xcache, .int 0, .long xlow, .long xrange, .long xcode, .long xreadLow, .long xreadRange, .ref ri, .ref ro, .ref rw, .int xasked])), (rw, .inr (0, [.int b27_2, .ref b27_1])), (b27_1, .inl (cI, b27_3, .inl b27_4))] := hD
          exact my_vretg hx hb hr hlocks hQ hK hS ((0 : Int32), b27_2, b27_1, b27_3, b27_4) (show b27_5 + (rPh b27_3) ≤ (rPh rwk) by omega) (show b27_5 + (rPh b27_3) ≤ (rPh rwk) by omega) (by first | assumption | (subst_vars; assumption)) (hP.sub [0, 1, 2] rfl) (hD.sub [0, 1, 2] (by decide) rfl) d_Carries_writeWaiting_62
        · refine lv_aload_n hx hb d_Carries_writeWaiting_35 rfl (lv_at hl 1 rfl) ?_
          refine va_get (D := (dC, dI)) (ci := 3) (v := .ref rw) (C := "RangeCoders$Bits") (T := T_Bits) (N := 15) hx hb hg in_Bits hown hK hP 0 rfl rfl 13 (by decide) (hg _ k124) (fun x9 h9 => u_same (hg _ k125) x9 h9) rfl d_Carries_writeWaiting_36 ?_
          refine lv_sipush (v := 255) hx hb d_Carries_writeWaiting_39 (by decide) ?_
          refine lv_iload_n hx hb d_Carries_writeWaiting_42 rfl (lv_at hl 2 rfl) ?_
          refine lv_iadd hx hb d_Carries_writeWaiting_43 ?_
          refine lv_topi (fun v_9 ev_9 => ?_)
          refine lv_sipush (v := 255) hx hb d_Carries_writeWaiting_44 (by decide) ?_
          refine lv_iand hx hb d_Carries_writeWaiting_47 ?_
          refine lv_topi (fun v_10 ev_10 => ?_)
          refine my_cvg (wr := [(co, .inr (3, [.int xshift, .long xkeptCode, .long xkeptRange, .int xkeptAsked, .int xcache, .int xpending, .long xlow, .long xrange, .long xcode, .long xreadLow, .long xreadRange, .ref ri, .ref ro, .ref rw, .int xasked]))]) (va_runV (As := [.int v_10]) (rest := []) ⟨hx, hb, hml, hown, hts⟩ (c_Row_add l dC dI cI cM cO H.size (hSl H) rw b27_2 b27_1 b27_3 b27_4 v_10 (by first | assumption | omega)) (cwV 1 hts (my_gV k472 k473 k474 k6 k475) rfl rfl rfl (by decide +kernel) ⟨by rw [hR]; exact Nat.le_of_ble_eq_true rfl, by rw [hR]; exact Nat.le_of_ble_eq_true rfl⟩) (my_preVg hK hN (hP.sub [1, 2] rfl) (hD.sub [1, 2] (by decide) rfl) 0 rfl rfl) rfl rfl hl.1 rfl (lv_room (Nat.le_of_ble_eq_true rfl)) d_Carries_writeWaiting_48 ⟨by rw [hR]; exact (show b27_5 + (rPh b27_3) ≤ (rPh rwk) by omega), by rw [hR]; exact (show b27_5 + (rPh b27_3) ≤ (rPh rwk) by omega)⟩) hP hD hS hA [1, 2] [0] rfl rfl (by decide) (by decide) (fun u9 d_48 H locs hd_48 hw_48 hP hD hS => ?_)
          obtain ⟨rrnq_48, rraq_48, rrkq_48, rrfq_48⟩ := u9
          have hrr_48 : rOk rrnq_48 rrkq_48 := hw_48
          have hd_48 : d_48 + (rPh rrkq_48) ≤ (rPh b27_3) := hd_48
          have hP : va_P (dC, dI) vwCl [(co, .inr (3, [.int xshift, .long xkeptCode, .long xkeptRange, .int xkeptAsked, .int xcache, .int xpending, .long xlow, .long xrange, .long xcode, .long xreadLow, .long xreadRange, .ref ri, .ref ro, .ref rw, .int xasked])), (rw, .inr (0, [.int rrnq_48, .ref rraq_48])), (rraq_48, .inl (cI, rrkq_48, .inl rrfq_48))] H := hP
          have hD : va_D A [(co, .inr (3, [.int xshift, .long xkeptCode, .long xkeptRange, .int xkeptAsked, .int xcache, .int xpending, .long xlow, .long xrange, .long xcode, .long xreadLow, .long xreadRange, .ref ri, .ref ro, .ref rw, .int xasked])), (rw, .inr (0, [.int rrnq_48, .ref rraq_48])), (rraq_48, .inl (cI, rrkq_48, .inl rrfq_48))] := hD
          obtain ⟨v_11, ev_11⟩ : ∃ y : Int32, y = b27_0 + (1) := ⟨_, rfl⟩
          refine lv_iinc (v := v_11) (lv' := [(2, .int v_11), (0, .ref co), (1, .int cy)]) hx hb d_Carries_writeWaiting_51 hl (k := 0) rfl (by rw [ev_11]; rfl) (by decide) rfl (fun ls hl => ?_)
          refine lv_goto (tgt := 27) hx hb d_Carries_writeWaiting_54 (by decide) ?_
          exact ih9_27 _ (by first | omega | (have z9 := I_up c_8 ev_11; omega)) v_11 rraq_48 rrnq_48 rrkq_48 rrfq_48 (b27_5 + d_48) rfl (by have z9 := I_up c_8 ev_11; omega) (by assumption) (by omega) H locs ls (hP.sub [0, 1, 2] rfl) (hD.sub [0, 1, 2] (by decide) rfl) hS (lv_sub hl [0, 1, 2] rfl)
    exact J_27 _ (0 : Int32) rraq_22 rrnq_22 rrkq_22 rrfq_22 (0 + d_22) rfl (by first | decide | assumption | omega) (by assumption) (by omega) H locs ls (hP.sub [0, 1, 2] rfl) (hD.sub [0, 1, 2] (by decide) rfl) hS (lv_sub hl [0, 1, 2] rfl)
set_option maxHeartbeats 2000000 in
set_option maxRecDepth 100000 in
theorem c_Bits_Carries_shiftLow (l : Launch) (dC : Nat → ClassId) (dI : Nat → Nat → Nat) (cI cM cO : ClassId) (sz : Nat) (sl : Nat) (co : Nat) (xshift : Int32) (xkeptCode : Int64) (xkeptRange : Int64) (xkeptAsked : Int32) (xcache : Int32) (xpending : Int32) (xlow : Int64) (xrange : Int64) (xcode : Int64) (xreadLow : Int64) (xreadRange : Int64) (ri : Nat) (ro : Nat) (rw : Nat) (xasked : Int32) (rwn : Int32) (rwa : Nat) (rwk : Nat) (rwf : Nat → Int32) (hrw : rOk rwn rwk) : MetVg l y_Carries_shiftLow (Cond.code y_Carries_shiftLow prog_3_method_8_code 1 none :: gw) ({ frames := 4, cells := rPh rwk, slots := rPh rwk, locals := 105 } : Room) (dC, dI) vwCl (kT cI cM cO) [.ref co] [(co, .inr (3, [.int xshift, .long xkeptCode, .long xkeptRange, .int xkeptAsked, .int xcache, .int xpending, .long xlow, .long xrange, .long xcode, .long xreadLow, .long xreadRange, .ref ri, .ref ro, .ref rw, .int xasked])), (rw, .inr (0, [.int rwn, .ref rwa])), (rwa, .inl (cI, rwk, .inl rwf))] sz sl (fun (u : Int32 × Int32 × Int64 × Int32 × Nat × Nat × (Nat → Int32)) => rOk u.2.2.2.1 u.2.2.2.2.2.1) (fun (u : Int32 × Int32 × Int64 × Int32 × Nat × Nat × (Nat → Int32)) => [(co, .inr (3, [.int xshift, .long xkeptCode, .long xkeptRange, .int xkeptAsked, .int u.1, .int u.2.1, .long u.2.2.1, .long xrange, .long xcode, .long xreadLow, .long xreadRange, .ref ri, .ref ro, .ref rw, .int xasked])), (rw, .inr (0, [.int u.2.2.2.1, .ref u.2.2.2.2.1])), (u.2.2.2.2.1, .inl (cI, u.2.2.2.2.2.1, .inl u.2.2.2.2.2.2))]) (rPh rwk) (fun (u : Int32 × Int32 × Int64 × Int32 × Nat × Nat × (Nat → Int32)) => rPh u.2.2.2.2.2.1) := by
  refine my_ofVg (cc := prog_3_method_8_code) (n := 1) (ret := none) (by decide) rfl (Nat.le_of_ble_eq_true rfl) ?_
  intro p e s m args below meth c R Q A ls H locs hx hb hr hts hown hlocks hml hnm hR hQ hA hl hP hK hN hD hS
  have hg : ∀ w ∈ gw, w.before args s = true := fun w h => hts w (List.mem_cons_of_mem _ h)
  have hown : s.vm.findClass "RangeCoders$Carries" = some m.cls := hown
  have hl : lv_has ls 1 [(0, .ref co)] := hl
  have hlt_hrw := rOk_lt hrw
  refine lv_aload_n hx hb d_Carries_shiftLow_0 rfl (lv_at hl 0 rfl) ?_
  refine va_get (D := (dC, dI)) (ci := 3) (v := .long xlow) (C := "RangeCoders$Bits") (T := T_Bits) (N := 15) hx hb hg in_Bits hown hK hP 0 rfl rfl 6 (by decide) (hg _ k72) (fun x9 h9 => u_same (hg _ k73) x9 h9) rfl d_Carries_shiftLow_1 ?_
  refine lv_ldc2 (v := 4278190080) hx hb hown (hg _ k467) d_Carries_shiftLow_4 ?_
  refine W.lcmp hx hb d_Carries_shiftLow_7 ?_
  refine lv_if_lt (tgt := 22) hx hb d_Carries_shiftLow_8 (by decide) (fun c_1 => ?_) (fun c_1 => ?_)
  · rw [lg_cmp_lt] at c_1
    refine lv_aload_n hx hb d_Carries_shiftLow_22 rfl (lv_at hl 0 rfl) ?_
    refine lv_aload_n hx hb d_Carries_shiftLow_23 rfl (lv_at hl 0 rfl) ?_
    refine va_get (D := (dC, dI)) (ci := 3) (v := .long xlow) (C := "RangeCoders$Bits") (T := T_Bits) (N := 15) hx hb hg in_Bits hown hK hP 0 rfl rfl 6 (by decide) (hg _ k72) (fun x9 h9 => u_same (hg _ k73) x9 h9) rfl d_Carries_shiftLow_24 ?_
    refine lv_bipush (v := 32) hx hb d_Carries_shiftLow_27 (by decide) ?_
    refine lv_lushr hx hb d_Carries_shiftLow_29 rfl ?_
    refine lv_topl (fun v_2 ev_2 => ?_)
    refine lv_l2i hx hb d_Carries_shiftLow_30 rfl ?_
    refine lv_topi (fun v_3 ev_3 => ?_)
    refine my_cvg (wr := []) (va_runU (As := [.int v_3]) (rest := []) ⟨hx, hb, hml, hown, hts⟩ (c_Bits_Carries_writeWaiting l dC dI cI cM cO H.size (hSl H) co xshift xkeptCode xkeptRange xkeptAsked xcache xpending xlow xrange xcode xreadLow xreadRange ri ro rw xasked rwn rwa rwk rwf v_3 (by first | assumption | omega)) (va_cwU 1 hts (my_gU k468 k1282 kx1 k470 k5 k471) rfl rfl rfl rfl (by decide +kernel) ⟨by rw [hR]; exact Nat.le_of_ble_eq_true rfl, by rw [hR]; exact Nat.le_of_ble_eq_true rfl⟩) (my_preVg hK hN (hP.sub [0, 1, 2] rfl) (hD.sub [0, 1, 2] (by decide) rfl) 0 rfl rfl) rfl rfl hl.1 rfl (lv_room (Nat.le_of_ble_eq_true rfl)) d_Carries_shiftLow_31 ⟨by rw [hR]; exact (show 0 + (rPh rwk) ≤ (rPh rwk) by omega), by rw [hR]; exact (show 0 + (rPh rwk) ≤ (rPh rwk) by omega)⟩) hP hD hS hA [0, 1, 2] [] rfl rfl (by decide) (by decide) (fun u9 d_31 H locs hd_31 hw_31 hP hD hS => ?_)
    obtain ⟨xpendingq_31, rwnq_31, rwaq_31, rwkq_31, rwfq_31⟩ := u9
    have hrw_31 : rOk rwnq_31 rwkq_31 := hw_31
    have hd_31 : d_31 + (rPh rwkq_31) ≤ (rPh rwk) := hd_31
    have hP : va_P (dC, dI) vwCl [(co, .inr (3, [.int xshift, .long xkeptCode, .long xkeptRange, .int xkeptAsked, .int xcache, .int xpendingq_31, .long xlow, .long xrange, .long xcode, .long xreadLow, .long xreadRange, .ref ri, .ref ro, .ref rw, .int xasked])), (rw, .inr (0, [.int rwnq_31, .ref rwaq_31])), (rwaq_31, .inl (cI, rwkq_31, .inl rwfq_31))] H := hP
    have hD : va_D A [(co, .inr (3, [.int xshift, .long xkeptCode, .long xkeptRange, .int xkeptAsked, .int xcache, .int xpendingq_31, .long xlow, .long xrange, .long xcode, .long xreadLow, .long xreadRange, .ref ri, .ref ro, .ref rw, .int xasked])), (rw, .inr (0, [.int rwnq_31, .ref rwaq_31])), (rwaq_31, .inl (cI, rwkq_31, .inl rwfq_31))] := hD
    refine lv_aload_n hx hb d_Carries_shiftLow_34 rfl (lv_at hl 0 rfl) ?_
    refine lv_aload_n hx hb d_Carries_shiftLow_35 rfl (lv_at hl 0 rfl) ?_
    refine va_get (D := (dC, dI)) (ci := 3) (v := .long xlow) (C := "RangeCoders$Bits") (T := T_Bits) (N := 15) hx hb hg in_Bits hown hK hP 0 rfl rfl 6 (by decide) (hg _ k72) (fun x9 h9 => u_same (hg _ k73) x9 h9) rfl d_Carries_shiftLow_36 ?_
    refine lv_bipush (v := 24) hx hb d_Carries_shiftLow_39 (by decide) ?_
    refine lv_lushr hx hb d_Carries_shiftLow_41 rfl ?_
    refine lv_topl (fun v_4 ev_4 => ?_)
    refine lv_l2i hx hb d_Carries_shiftLow_42 rfl ?_
    refine lv_topi (fun v_5 ev_5 => ?_)
    refine lv_sipush (v := 255) hx hb d_Carries_shiftLow_43 (by decide) ?_
    refine lv_iand hx hb d_Carries_shiftLow_46 ?_
    refine lv_topi (fun v_6 ev_6 => ?_)
    refine va_put (D := (dC, dI)) (ci := 3) (v := .int v_6) (ty := .int) (C := "RangeCoders$Bits") (T := T_Bits) (N := 15) hx hb hg in_Bits t_Bits o_Bits n_Bits hown hK hP hD hS 0 rfl rfl 4 (by decide) (hg _ k68) (fun _ h9 => h9) rfl (by decide +kernel) rfl rfl (Nat.le_of_ble_eq_true rfl) d_Carries_shiftLow_47 (fun H locs hP hD hS => ?_)
    have hP : va_P (dC, dI) vwCl [(co, .inr (3, [.int xshift, .long xkeptCode, .long xkeptRange, .int xkeptAsked, .int v_6, .int xpendingq_31, .long xlow, .long xrange, .long xcode, .long xreadLow, .long xreadRange, .ref ri, .ref ro, .ref rw, .int xasked])), (rw, .inr (0, [.int rwnq_31, .ref rwaq_31])), (rwaq_31, .inl (cI, rwkq_31, .inl rwfq_31))] H := hP
    have hD : va_D A [(co, .inr (3, [.int xshift, .long xkeptCode, .long xkeptRange, .int xkeptAsked, .int v_6, .int xpendingq_31, .long xlow, .long xrange, .long xcode, .long xreadLow, .long xreadRange, .ref ri, .ref ro, .ref rw, .int xasked])), (rw, .inr (0, [.int rwnq_31, .ref rwaq_31])), (rwaq_31, .inl (cI, rwkq_31, .inl rwfq_31))] := hD
    refine lv_goto (tgt := 63) hx hb d_Carries_shiftLow_50 (by decide) ?_
    refine lv_aload_n hx hb d_Carries_shiftLow_63 rfl (lv_at hl 0 rfl) ?_
    refine lv_aload_n hx hb d_Carries_shiftLow_64 rfl (lv_at hl 0 rfl) ?_
    refine va_get (D := (dC, dI)) (ci := 3) (v := .long xlow) (C := "RangeCoders$Bits") (T := T_Bits) (N := 15) hx hb hg in_Bits hown hK hP 0 rfl rfl 6 (by decide) (hg _ k72) (fun x9 h9 => u_same (hg _ k73) x9 h9) rfl d_Carries_shiftLow_65 ?_
    refine lv_bipush (v := 8) hx hb d_Carries_shiftLow_68 (by decide) ?_
    refine lv_lshl hx hb d_Carries_shiftLow_70 rfl ?_
    refine lv_topl (fun v_7 ev_7 => ?_)
    refine lv_ldc2 (v := 4294967295) hx hb hown (hg _ k462) d_Carries_shiftLow_71 ?_
    refine lv_land hx hb d_Carries_shiftLow_74 ?_
    refine lv_topl (fun v_8 ev_8 => ?_)
    refine va_put (D := (dC, dI)) (ci := 3) (v := .long v_8) (ty := .long) (C := "RangeCoders$Bits") (T := T_Bits) (N := 15) hx hb hg in_Bits t_Bits o_Bits n_Bits hown hK hP hD hS 0 rfl rfl 6 (by decide) (hg _ k72) (fun x9 h9 => u_same (hg _ k73) x9 h9) rfl (by decide +kernel) rfl rfl (Nat.le_of_ble_eq_true rfl) d_Carries_shiftLow_75 (fun H locs hP hD hS => ?_)
    have hP : va_P (dC, dI) vwCl [(co, .inr (3, [.int xshift, .long xkeptCode, .long xkeptRange, .int xkeptAsked, .int v_6, .int xpendingq_31, .long v_8, .long xrange, .long xcode, .long xreadLow, .long xreadRange, .ref ri, .ref ro, .ref rw, .int xasked])), (rw, .inr (0, [.int rwnq_31, .ref rwaq_31])), (rwaq_31, .inl (cI, rwkq_31, .inl rwfq_31))] H := hP
    have hD : va_D A [(co, .inr (3, [.int xshift, .long xkeptCode, .long xkeptRange, .int xkeptAsked, .int v_6, .int xpendingq_31, .long v_8, .long xrange, .long xcode, .long xreadLow, .long xreadRange, .ref ri, .ref ro, .ref rw, .int xasked])), (rw, .inr (0, [.int rwnq_31, .ref rwaq_31])), (rwaq_31, .inl (cI, rwkq_31, .inl rwfq_31))] := hD
    exact my_vretg hx hb hr hlocks hQ hK hS (v_6, xpendingq_31, v_8, rwnq_31, rwaq_31, rwkq_31, rwfq_31) (show (0 + d_31) + (rPh rwkq_31) ≤ (rPh rwk) by omega) (show (0 + d_31) + (rPh rwkq_31) ≤ (rPh rwk) by omega) (by first | assumption | (subst_vars; assumption)) (hP.sub [0, 1, 2] rfl) (hD.sub [0, 1, 2] (by decide) rfl) d_Carries_shiftLow_78
  · rw [lg_cmp_lt] at c_1
    refine lv_aload_n hx hb d_Carries_shiftLow_11 rfl (lv_at hl 0 rfl) ?_
    refine va_get (D := (dC, dI)) (ci := 3) (v := .long xlow) (C := "RangeCoders$Bits") (T := T_Bits) (N := 15) hx hb hg in_Bits hown hK hP 0 rfl rfl 6 (by decide) (hg _ k72) (fun x9 h9 => u_same (hg _ k73) x9 h9) rfl d_Carries_shiftLow_12 ?_
    refine lv_ldc2 (v := 4294967295) hx hb hown (hg _ k462) d_Carries_shiftLow_15 ?_
    refine W.lcmp hx hb d_Carries_shiftLow_18 ?_
    refine lv_if_le (tgt := 53) hx hb d_Carries_shiftLow_19 (by decide) (fun c_9 => ?_) (fun c_9 => ?_)
    · rw [lg_cmp_le] at c_9
      refine lv_aload_n hx hb d_Carries_shiftLow_53 rfl (lv_at hl 0 rfl) ?_
      refine lv_dup hx hb d_Carries_shiftLow_54 rfl ?_
      refine va_get (D := (dC, dI)) (ci := 3) (v := .int xpending) (C := "RangeCoders$Bits") (T := T_Bits) (N := 15) hx hb hg in_Bits hown hK hP 0 rfl rfl 5 (by decide) (hg _ k69) (fun _ h9 => h9) rfl d_Carries_shiftLow_55 ?_
      refine lv_iconst (v := 1) hx hb d_Carries_shiftLow_58 (by decide) ?_
      refine lv_iadd hx hb d_Carries_shiftLow_59 ?_
      refine lv_topi (fun v_10 ev_10 => ?_)
      refine va_put (D := (dC, dI)) (ci := 3) (v := .int v_10) (ty := .int) (C := "RangeCoders$Bits") (T := T_Bits) (N := 15) hx hb hg in_Bits t_Bits o_Bits n_Bits hown hK hP hD hS 0 rfl rfl 5 (by decide) (hg _ k69) (fun _ h9 => h9) rfl (by decide +kernel) rfl rfl (Nat.le_of_ble_eq_true rfl) d_Carries_shiftLow_60 (fun H locs hP hD hS => ?_)
      have hP : va_P (dC, dI) vwCl [(co, .inr (3, [.int xshift, .long xkeptCode, .long xkeptRange, .int xkeptAsked, .int xcache, .int v_10, .long xlow, .long xrange, .long xcode, .long xreadLow, .long xreadRange, .ref ri, .ref ro, .ref rw, .int xasked])), (rw, .inr (0, [.int rwn, .ref rwa])), (rwa, .inl (cI, rwk, .inl rwf))] H := hP
      have hD : va_D A [(co, .inr (3, [.int xshift, .long xkeptCode, .long xkeptRange, .int xkeptAsked, .int xcache, .int v_10, .long xlow, .long xrange, .long xcode, .long xreadLow, .long xreadRange, .ref ri, .ref ro, .ref rw, .int xasked])), (rw, .inr (0, [.int rwn, .ref rwa])), (rwa, .inl (cI, rwk, .inl rwf))] := hD
      refine lv_aload_n hx hb d_Carries_shiftLow_63 rfl (lv_at hl 0 rfl) ?_
      refine lv_aload_n hx hb d_Carries_shiftLow_64 rfl (lv_at hl 0 rfl) ?_
      refine va_get (D := (dC, dI)) (ci := 3) (v := .long xlow) (C := "RangeCoders$Bits") (T := T_Bits) (N := 15) hx hb hg in_Bits hown hK hP 0 rfl rfl 6 (by decide) (hg _ k72) (fun x9 h9 => u_same (hg _ k73) x9 h9) rfl d_Carries_shiftLow_65 ?_
      refine lv_bipush (v := 8) hx hb d_Carries_shiftLow_68 (by decide) ?_
      refine lv_lshl hx hb d_Carries_shiftLow_70 rfl ?_
      refine lv_topl (fun v_11 ev_11 => ?_)
      refine lv_ldc2 (v := 4294967295) hx hb hown (hg _ k462) d_Carries_shiftLow_71 ?_
      refine lv_land hx hb d_Carries_shiftLow_74 ?_
      refine lv_topl (fun v_12 ev_12 => ?_)
      refine va_put (D := (dC, dI)) (ci := 3) (v := .long v_12) (ty := .long) (C := "RangeCoders$Bits") (T := T_Bits) (N := 15) hx hb hg in_Bits t_Bits o_Bits n_Bits hown hK hP hD hS 0 rfl rfl 6 (by decide) (hg _ k72) (fun x9 h9 => u_same (hg _ k73) x9 h9) rfl (by decide +kernel) rfl rfl (Nat.le_of_ble_eq_true rfl) d_Carries_shiftLow_75 (fun H locs hP hD hS => ?_)
      have hP : va_P (dC, dI) vwCl [(co, .inr (3, [.int xshift, .long xkeptCode, .long xkeptRange, .int xkeptAsked, .int xcache, .int v_10, .long v_12, .long xrange, .long xcode, .long xreadLow, .long xreadRange, .ref ri, .ref ro, .ref rw, .int xasked])), (rw, .inr (0, [.int rwn, .ref rwa])), (rwa, .inl (cI, rwk, .inl rwf))] H := hP
      have hD : va_D A [(co, .inr (3, [.int xshift, .long xkeptCode, .long xkeptRange, .int xkeptAsked, .int xcache, .int v_10, .long v_12, .long xrange, .long xcode, .long xreadLow, .long xreadRange, .ref ri, .ref ro, .ref rw, .int xasked])), (rw, .inr (0, [.int rwn, .ref rwa])), (rwa, .inl (cI, rwk, .inl rwf))] := hD
      exact my_vretg hx hb hr hlocks hQ hK hS (xcache, v_10, v_12, rwn, rwa, rwk, rwf) (show 0 + (rPh rwk) ≤ (rPh rwk) by omega) (show 0 + (rPh rwk) ≤ (rPh rwk) by omega) (by first | assumption | (subst_vars; assumption)) (hP.sub [0, 1, 2] rfl) (hD.sub [0, 1, 2] (by decide) rfl) d_Carries_shiftLow_78
    · rw [lg_cmp_le] at c_9
      refine lv_aload_n hx hb d_Carries_shiftLow_22 rfl (lv_at hl 0 rfl) ?_
      refine lv_aload_n hx hb d_Carries_shiftLow_23 rfl (lv_at hl 0 rfl) ?_
      refine va_get (D := (dC, dI)) (ci := 3) (v := .long xlow) (C := "RangeCoders$Bits") (T := T_Bits) (N := 15) hx hb hg in_Bits hown hK hP 0 rfl rfl 6 (by decide) (hg _ k72) (fun x9 h9 => u_same (hg _ k73) x9 h9) rfl d_Carries_shiftLow_24 ?_
      refine lv_bipush (v := 32) hx hb d_Carries_shiftLow_27 (by decide) ?_
      refine lv_lushr hx hb d_Carries_shiftLow_29 rfl ?_
      refine lv_topl (fun v_13 ev_13 => ?_)
      refine lv_l2i hx hb d_Carries_shiftLow_30 rfl ?_
      refine lv_topi (fun v_14 ev_14 => ?_)
      refine my_cvg (wr := []) (va_runU (As := [.int v_14]) (rest := []) ⟨hx, hb, hml, hown, hts⟩ (c_Bits_Carries_writeWaiting l dC dI cI cM cO H.size (hSl H) co xshift xkeptCode xkeptRange xkeptAsked xcache xpending xlow xrange xcode xreadLow xreadRange ri ro rw xasked rwn rwa rwk rwf v_14 (by first | assumption | omega)) (va_cwU 1 hts (my_gU k468 k1282 kx1 k470 k5 k471) rfl rfl rfl rfl (by decide +kernel) ⟨by rw [hR]; exact Nat.le_of_ble_eq_true rfl, by rw [hR]; exact Nat.le_of_ble_eq_true rfl⟩) (my_preVg hK hN (hP.sub [0, 1, 2] rfl) (hD.sub [0, 1, 2] (by decide) rfl) 0 rfl rfl) rfl rfl hl.1 rfl (lv_room (Nat.le_of_ble_eq_true rfl)) d_Carries_shiftLow_31 ⟨by rw [hR]; exact (show 0 + (rPh rwk) ≤ (rPh rwk) by omega), by rw [hR]; exact (show 0 + (rPh rwk) ≤ (rPh rwk) by omega)⟩) hP hD hS hA [0, 1, 2] [] rfl rfl (by decide) (by decide) (fun u9 d_31 H locs hd_31 hw_31 hP hD hS => ?_)
      obtain ⟨xpendingq_31, rwnq_31, rwaq_31, rwkq_31, rwfq_31⟩ := u9
      have hrw_31 : rOk rwnq_31 rwkq_31 := hw_31
      have hd_31 : d_31 + (rPh rwkq_31) ≤ (rPh rwk) := hd_31
      have hP : va_P (dC, dI) vwCl [(co, .inr (3, [.int xshift, .long xkeptCode, .long xkeptRange, .int xkeptAsked, .int xcache, .int xpendingq_31, .long xlow, .long xrange, .long xcode, .long xreadLow, .long xreadRange, .ref ri, .ref ro, .ref rw, .int xasked])), (rw, .inr (0, [.int rwnq_31, .ref rwaq_31])), (rwaq_31, .inl (cI, rwkq_31, .inl rwfq_31))] H := hP
      have hD : va_D A [(co, .inr (3, [.int xshift, .long xkeptCode, .long xkeptRange, .int xkeptAsked, .int xcache, .int xpendingq_31, .long xlow, .long xrange, .long xcode, .long xreadLow, .long xreadRange, .ref ri, .ref ro, .ref rw, .int xasked])), (rw, .inr (0, [.int rwnq_31, .ref rwaq_31])), (rwaq_31, .inl (cI, rwkq_31, .inl rwfq_31))] := hD
      refine lv_aload_n hx hb d_Carries_shiftLow_34 rfl (lv_at hl 0 rfl) ?_
      refine lv_aload_n hx hb d_Carries_shiftLow_35 rfl (lv_at hl 0 rfl) ?_
      refine va_get (D := (dC, dI)) (ci := 3) (v := .long xlow) (C := "RangeCoders$Bits") (T := T_Bits) (N := 15) hx hb hg in_Bits hown hK hP 0 rfl rfl 6 (by decide) (hg _ k72) (fun x9 h9 => u_same (hg _ k73) x9 h9) rfl d_Carries_shiftLow_36 ?_
      refine lv_bipush (v := 24) hx hb d_Carries_shiftLow_39 (by decide) ?_
      refine lv_lushr hx hb d_Carries_shiftLow_41 rfl ?_
      refine lv_topl (fun v_15 ev_15 => ?_)
      refine lv_l2i hx hb d_Carries_shiftLow_42 rfl ?_
      refine lv_topi (fun v_16 ev_16 => ?_)
      refine lv_sipush (v := 255) hx hb d_Carries_shiftLow_43 (by decide) ?_
      refine lv_iand hx hb d_Carries_shiftLow_46 ?_
      refine lv_topi (fun v_17 ev_17 => ?_)
      refine va_put (D := (dC, dI)) (ci := 3) (v := .int v_17) (ty := .int) (C := "RangeCoders$Bits") (T := T_Bits) (N := 15) hx hb hg in_Bits t_Bits o_Bits n_Bits hown hK hP hD hS 0 rfl rfl 4 (by decide) (hg _ k68) (fun _ h9 => h9) rfl (by decide +kernel) rfl rfl (Nat.le_of_ble_eq_true rfl) d_Carries_shiftLow_47 (fun H locs hP hD hS => ?_)
      have hP : va_P (dC, dI) vwCl [(co, .inr (3, [.int xshift, .long xkeptCode, .long xkeptRange, .int xkeptAsked, .int v_17, .int xpendingq_31, .long xlow, .long xrange, .long xcode, .long xreadLow, .long xreadRange, .ref ri, .ref ro, .ref rw, .int xasked])), (rw, .inr (0, [.int rwnq_31, .ref rwaq_31])), (rwaq_31, .inl (cI, rwkq_31, .inl rwfq_31))] H := hP
      have hD : va_D A [(co, .inr (3, [.int xshift, .long xkeptCode, .long xkeptRange, .int xkeptAsked, .int v_17, .int xpendingq_31, .long xlow, .long xrange, .long xcode, .long xreadLow, .long xreadRange, .ref ri, .ref ro, .ref rw, .int xasked])), (rw, .inr (0, [.int rwnq_31, .ref rwaq_31])), (rwaq_31, .inl (cI, rwkq_31, .inl rwfq_31))] := hD
      refine lv_goto (tgt := 63) hx hb d_Carries_shiftLow_50 (by decide) ?_
      refine lv_aload_n hx hb d_Carries_shiftLow_63 rfl (lv_at hl 0 rfl) ?_
      refine lv_aload_n hx hb d_Carries_shiftLow_64 rfl (lv_at hl 0 rfl) ?_
      refine va_get (D := (dC, dI)) (ci := 3) (v := .long xlow) (C := "RangeCoders$Bits") (T := T_Bits) (N := 15) hx hb hg in_Bits hown hK hP 0 rfl rfl 6 (by decide) (hg _ k72) (fun x9 h9 => u_same (hg _ k73) x9 h9) rfl d_Carries_shiftLow_65 ?_
      refine lv_bipush (v := 8) hx hb d_Carries_shiftLow_68 (by decide) ?_
      refine lv_lshl hx hb d_Carries_shiftLow_70 rfl ?_
      refine lv_topl (fun v_18 ev_18 => ?_)
      refine lv_ldc2 (v := 4294967295) hx hb hown (hg _ k462) d_Carries_shiftLow_71 ?_
      refine lv_land hx hb d_Carries_shiftLow_74 ?_
      refine lv_topl (fun v_19 ev_19 => ?_)
      refine va_put (D := (dC, dI)) (ci := 3) (v := .long v_19) (ty := .long) (C := "RangeCoders$Bits") (T := T_Bits) (N := 15) hx hb hg in_Bits t_Bits o_Bits n_Bits hown hK hP hD hS 0 rfl rfl 6 (by decide) (hg _ k72) (fun x9 h9 => u_same (hg _ k73) x9 h9) rfl (by decide +kernel) rfl rfl (Nat.le_of_ble_eq_true rfl) d_Carries_shiftLow_75 (fun H locs hP hD hS => ?_)
      have hP : va_P (dC, dI) vwCl [(co, .inr (3, [.int xshift, .long xkeptCode, .long xkeptRange, .int xkeptAsked, .int v_17, .int xpendingq_31, .long v_19, .long xrange, .long xcode, .long xreadLow, .long xreadRange, .ref ri, .ref ro, .ref rw, .int xasked])), (rw, .inr (0, [.int rwnq_31, .ref rwaq_31])), (rwaq_31, .inl (cI, rwkq_31, .inl rwfq_31))] H := hP
      have hD : va_D A [(co, .inr (3, [.int xshift, .long xkeptCode, .long xkeptRange, .int xkeptAsked, .int v_17, .int xpendingq_31, .long v_19, .long xrange, .long xcode, .long xreadLow, .long xreadRange, .ref ri, .ref ro, .ref rw, .int xasked])), (rw, .inr (0, [.int rwnq_31, .ref rwaq_31])), (rwaq_31, .inl (cI, rwkq_31, .inl rwfq_31))] := hD
      exact my_vretg hx hb hr hlocks hQ hK hS (v_17, xpendingq_31, v_19, rwnq_31, rwaq_31, rwkq_31, rwfq_31) (show (0 + d_31) + (rPh rwkq_31) ≤ (rPh rwk) by omega) (show (0 + d_31) + (rPh rwkq_31) ≤ (rPh rwk) by omega) (by first | assumption | (subst_vars; assumption)) (hP.sub [0, 1, 2] rfl) (hD.sub [0, 1, 2] (by decide) rfl) d_Carries_shiftLow_78
set_option maxHeartbeats 2000000 in
set_option maxRecDepth 100000 in
theorem c_Bits_Carries_widen (l : Launch) (dC : Nat → ClassId) (dI : Nat → Nat → Nat) (cI cM cO : ClassId) (sz : Nat) (sl : Nat) (co : Nat) (xshift : Int32) (xkeptCode : Int64) (xkeptRange : Int64) (xkeptAsked : Int32) (xcache : Int32) (xpending : Int32) (xlow : Int64) (xrange : Int64) (xcode : Int64) (xreadLow : Int64) (xreadRange : Int64) (ri : Nat) (ro : Nat) (rw : Nat) (xasked : Int32) (rwn : Int32) (rwa : Nat) (rwk : Nat) (rwf : Nat → Int32) (hrw : rOk rwn rwk) : MetVg l y_Carries_widen (Cond.code y_Carries_widen prog_3_method_6_code 2 none :: gw) ({ frames := 5, cells := rPh rwk, slots := rPh rwk, locals := 125 } : Room) (dC, dI) vwCl (kT cI cM cO) [.ref co] [(co, .inr (3, [.int xshift, .long xkeptCode, .long xkeptRange, .int xkeptAsked, .int xcache, .int xpending, .long xlow, .long xrange, .long xcode, .long xreadLow, .long xreadRange, .ref ri, .ref ro, .ref rw, .int xasked])), (rw, .inr (0, [.int rwn, .ref rwa])), (rwa, .inl (cI, rwk, .inl rwf))] sz sl (fun (u : Int32 × Int32 × Int64 × Int64 × Int32 × Nat × Nat × (Nat → Int32)) => rOk u.2.2.2.2.1 u.2.2.2.2.2.2.1) (fun (u : Int32 × Int32 × Int64 × Int64 × Int32 × Nat × Nat × (Nat → Int32)) => [(co, .inr (3, [.int xshift, .long xkeptCode, .long xkeptRange, .int xkeptAsked, .int u.1, .int u.2.1, .long u.2.2.1, .long u.2.2.2.1, .long xcode, .long xreadLow, .long xreadRange, .ref ri, .ref ro, .ref rw, .int xasked])), (rw, .inr (0, [.int u.2.2.2.2.1, .ref u.2.2.2.2.2.1])), (u.2.2.2.2.2.1, .inl (cI, u.2.2.2.2.2.2.1, .inl u.2.2.2.2.2.2.2))]) (rPh rwk) (fun (u : Int32 × Int32 × Int64 × Int64 × Int32 × Nat × Nat × (Nat → Int32)) => rPh u.2.2.2.2.2.2.1) := by
  refine my_ofVg (cc := prog_3_method_6_code) (n := 2) (ret := none) (by decide) rfl (Nat.le_of_ble_eq_true rfl) ?_
  intro p e s m args below meth c R Q A ls H locs hx hb hr hts hown hlocks hml hnm hR hQ hA hl hP hK hN hD hS
  have hg : ∀ w ∈ gw, w.before args s = true := fun w h => hts w (List.mem_cons_of_mem _ h)
  have hown : s.vm.findClass "RangeCoders$Carries" = some m.cls := hown
  have hl : lv_has ls 2 [(0, .ref co)] := hl
  have hlt_hrw := rOk_lt hrw
  refine lv_iconst (v := 0) hx hb d_Carries_widen_0 (by decide) ?_
  refine lv_istore_n (lv' := [(1, .int 0), (0, .ref co)]) hx hb d_Carries_widen_1 rfl hl (by decide) rfl (fun ls hl => ?_)
  have J_2 : ∀ (n9_2 : Nat) (b2_0 : Int32) (b2_1 : Nat) (b2_2 : Int32) (b2_3 : Int32) (b2_4 : Int64) (b2_5 : Int64) (b2_6 : Int32) (b2_7 : Nat) (b2_8 : Nat → Int32) (b2_9 : Nat) (hn9_2 : ((8 : Int32).toInt - b2_0.toInt).toNat = n9_2) (hi_2 : 0 ≤ b2_0.toInt) (hr1_2 : rOk b2_6 b2_7) (hd_2 : b2_9 + (rPh b2_7) ≤ rPh rwk) (H : Heap) (locs : List Loc) (ls : Array Slot), va_P (dC, dI) vwCl [(co, .inr (3, [.int xshift, .long xkeptCode, .long xkeptRange, .int xkeptAsked, .int b2_2, .int b2_3, .long b2_4, .long b2_5, .long xcode, .long xreadLow, .long xreadRange, .ref ri, .ref ro, .ref rw, .int xasked])), (rw, .inr (0, [.int b2_6, .ref b2_1])), (b2_1, .inl (cI, b2_7, .inl b2_8))] H → va_D A [(co, .inr (3, [.int xshift, .long xkeptCode, .long xkeptRange, .int xkeptAsked, .int b2_2, .int b2_3, .long b2_4, .long b2_5, .long xcode, .long xreadLow, .long xreadRange, .ref ri, .ref ro, .ref rw, .int xasked])), (rw, .inr (0, [.int b2_6, .ref b2_1])), (b2_1, .inl (cI, b2_7, .inl b2_8))] → va_S A s.heap H locs → lv_has ls 2 [(1, .int b2_0), (0, .ref co)] → W p l e R s m args below meth c H locs b2_9 b2_9 Q (F0 m 2 ls []) := by
    intro n9_2
    induction n9_2 using Nat.strongRecOn with
    | ind n9_2 ih9_2 =>
      intro b2_0 b2_1 b2_2 b2_3 b2_4 b2_5 b2_6 b2_7 b2_8 b2_9 hn9_2 hi_2 hr1_2 hd_2 H locs ls hP hD hS hl
      refine lv_iload_n hx hb d_Carries_widen_2 rfl (lv_at hl 0 rfl) ?_
      refine lv_bipush (v := 8) hx hb d_Carries_widen_3 (by decide) ?_
      refine lv_icmp_ge (tgt := 44) hx hb d_Carries_widen_5 (by decide) (fun c_1 => ?_) (fun c_1 => ?_)
      · exact my_vretg hx hb hr hlocks hQ hK hS (b2_2, b2_3, b2_4, b2_5, b2_6, b2_1, b2_7, b2_8) (show b2_9 + (rPh b2_7) ≤ (rPh rwk) by omega) (show b2_9 + (rPh b2_7) ≤ (rPh rwk) by omega) (by first | assumption | (subst_vars; assumption)) (hP.sub [0, 1, 2] rfl) (hD.sub [0, 1, 2] (by decide) rfl) d_Carries_widen_44
      · refine lv_aload_n hx hb d_Carries_widen_8 rfl (lv_at hl 1 rfl) ?_
        refine va_get (D := (dC, dI)) (ci := 3) (v := .long b2_5) (C := "RangeCoders$Bits") (T := T_Bits) (N := 15) hx hb hg in_Bits hown hK hP 0 rfl rfl 7 (by decide) (hg _ k80) (fun x9 h9 => u_same (hg _ k81) x9 h9) rfl d_Carries_widen_9 ?_
        refine lv_ldc2 (v := 16777216) hx hb hown (hg _ k461) d_Carries_widen_12 ?_
        refine W.lcmp hx hb d_Carries_widen_15 ?_
        refine lv_if_ge (tgt := 44) hx hb d_Carries_widen_16 (by decide) (fun c_2 => ?_) (fun c_2 => ?_)
        · rw [lg_cmp_ge] at c_2
          exact my_vretg hx hb hr hlocks hQ hK hS (b2_2, b2_3, b2_4, b2_5, b2_6, b2_1, b2_7, b2_8) (show b2_9 + (rPh b2_7) ≤ (rPh rwk) by omega) (show b2_9 + (rPh b2_7) ≤ (rPh rwk) by omega) (by first | assumption | (subst_vars; assumption)) (hP.sub [0, 1, 2] rfl) (hD.sub [0, 1, 2] (by decide) rfl) d_Carries_widen_44
        · rw [lg_cmp_ge] at c_2
          refine lv_aload_n hx hb d_Carries_widen_19 rfl (lv_at hl 1 rfl) ?_
          refine lv_aload_n hx hb d_Carries_widen_20 rfl (lv_at hl 1 rfl) ?_
          refine va_get (D := (dC, dI)) (ci := 3) (v := .long b2_5) (C := "RangeCoders$Bits") (T := T_Bits) (N := 15) hx hb hg in_Bits hown hK hP 0 rfl rfl 7 (by decide) (hg _ k80) (fun x9 h9 => u_same (hg _ k81) x9 h9) rfl d_Carries_widen_21 ?_
          refine lv_bipush (v := 8) hx hb d_Carries_widen_24 (by decide) ?_
          refine lv_lshl hx hb d_Carries_widen_26 rfl ?_
          refine lv_topl (fun v_3 ev_3 => ?_)
          refine lv_ldc2 (v := 4294967295) hx hb hown (hg _ k462) d_Carries_widen_27 ?_
          refine lv_land hx hb d_Carries_widen_30 ?_
          refine lv_topl (fun v_4 ev_4 => ?_)
          refine va_put (D := (dC, dI)) (ci := 3) (v := .long v_4) (ty := .long) (C := "RangeCoders$Bits") (T := T_Bits) (N := 15) hx hb hg in_Bits t_Bits o_Bits n_Bits hown hK hP hD hS 0 rfl rfl 7 (by decide) (hg _ k80) (fun x9 h9 => u_same (hg _ k81) x9 h9) rfl (by decide +kernel) rfl rfl (Nat.le_of_ble_eq_true rfl) d_Carries_widen_31 (fun H locs hP hD hS => ?_)
          have hP : va_P (dC, dI) vwCl [(co, .inr (3, [.int xshift, .long xkeptCode, .long xkeptRange, .int xkeptAsked, .int b2_2, .int b2_3, .long b2_4, .long v_4, .long xcode, .long xreadLow, .long xreadRange, .ref ri, .ref ro, .ref rw, .int xasked])), (rw, .inr (0, [.int b2_6, .ref b2_1])), (b2_1, .inl (cI, b2_7, .inl b2_8))] H := hP
          have hD : va_D A [(co, .inr (3, [.int xshift, .long xkeptCode, .long xkeptRange, .int xkeptAsked, .int b2_2, .int b2_3, .long b2_4, .long v_4, .long xcode, .long xreadLow, .long xreadRange, .ref ri, .ref ro, .ref rw, .int xasked])), (rw, .inr (0, [.int b2_6, .ref b2_1])), (b2_1, .inl (cI, b2_7, .inl b2_8))] := hD
          refine lv_aload_n hx hb d_Carries_widen_34 rfl (lv_at hl 1 rfl) ?_
          refine my_cvg (wr := []) (va_runU (As := []) (rest := []) ⟨hx, hb, hml, hown, hts⟩ (c_Bits_Carries_shiftLow l dC dI cI cM cO H.size (hSl H) co xshift xkeptCode xkeptRange xkeptAsked b2_2 b2_3 b2_4 v_4 xcode xreadLow xreadRange ri ro rw xasked b2_6 b2_1 b2_7 b2_8 (by first | assumption | omega)) (va_cwU 0 hts (my_gU k463 k1281 kx0 k465 k5 k466) rfl rfl rfl rfl (by decide +kernel) ⟨by rw [hR]; exact Nat.le_of_ble_eq_true rfl, by rw [hR]; exact Nat.le_of_ble_eq_true rfl⟩) (my_preVg hK hN (hP.sub [0, 1, 2] rfl) (hD.sub [0, 1, 2] (by decide) rfl) 0 rfl rfl) rfl rfl hl.1 rfl (lv_room (Nat.le_of_ble_eq_true rfl)) d_Carries_widen_35 ⟨by rw [hR]; exact (show b2_9 + (rPh b2_7) ≤ (rPh rwk) by omega), by rw [hR]; exact (show b2_9 + (rPh b2_7) ≤ (rPh rwk) by omega)⟩) hP hD hS hA [0, 1, 2] [] rfl rfl (by decide) (by decide) (fun u9 d_35 H locs hd_35 hw_35 hP hD hS => ?_)
          obtain ⟨xcacheq_35, xpendingq_35, xlowq_35, rwnq_35, rwaq_35, rwkq_35, rwfq_35⟩ := u9
          have hrw_35 : rOk rwnq_35 rwkq_35 := hw_35
          have hd_35 : d_35 + (rPh rwkq_35) ≤ (rPh b2_7) := hd_35
          have hP : va_P (dC, dI) vwCl [(co, .inr (3, [.int xshift, .long xkeptCode, .long xkeptRange, .int xkeptAsked, .int xcacheq_35, .int xpendingq_35, .long xlowq_35, .long v_4, .long xcode, .long xreadLow, .long xreadRange, .ref ri, .ref ro, .ref rw, .int xasked])), (rw, .inr (0, [.int rwnq_35, .ref rwaq_35])), (rwaq_35, .inl (cI, rwkq_35, .inl rwfq_35))] H := hP
          have hD : va_D A [(co, .inr (3, [.int xshift, .long xkeptCode, .long xkeptRange, .int xkeptAsked, .int xcacheq_35, .int xpendingq_35, .long xlowq_35, .long v_4, .long xcode, .long xreadLow, .long xreadRange, .ref ri, .ref ro, .ref rw, .int xasked])), (rw, .inr (0, [.int rwnq_35, .ref rwaq_35])), (rwaq_35, .inl (cI, rwkq_35, .inl rwfq_35))] := hD
          obtain ⟨v_5, ev_5⟩ : ∃ y : Int32, y = b2_0 + (1) := ⟨_, rfl⟩
          refine lv_iinc (v := v_5) (lv' := [(1, .int v_5), (0, .ref co)]) hx hb d_Carries_widen_38 hl (k := 0) rfl (by rw [ev_5]; rfl) (by decide) rfl (fun ls hl => ?_)
          refine lv_goto (tgt := 2) hx hb d_Carries_widen_41 (by decide) ?_
          exact ih9_2 _ (by first | omega | (have z9 := I_up c_1 ev_5; omega)) v_5 rwaq_35 xcacheq_35 xpendingq_35 xlowq_35 v_4 rwnq_35 rwkq_35 rwfq_35 (b2_9 + d_35) rfl (by have z9 := I_up c_1 ev_5; omega) (by assumption) (by omega) H locs ls (hP.sub [0, 1, 2] rfl) (hD.sub [0, 1, 2] (by decide) rfl) hS (lv_sub hl [0, 1] rfl)
  exact J_2 _ (0 : Int32) rwa xcache xpending xlow xrange rwn rwk rwf (0 : Nat) rfl (by first | decide | assumption | omega) (by assumption) (by omega) H locs ls (hP.sub [0, 1, 2] rfl) (hD.sub [0, 1, 2] (by decide) rfl) hS (lv_sub hl [0, 1] rfl)
set_option maxHeartbeats 2000000 in
set_option maxRecDepth 100000 in
theorem c_Bits_Carries_widenReading (l : Launch) (dC : Nat → ClassId) (dI : Nat → Nat → Nat) (cI cM cO : ClassId) (sz : Nat) (co : Nat) (xshift : Int32) (xkeptCode : Int64) (xkeptRange : Int64) (xkeptAsked : Int32) (xcache : Int32) (xpending : Int32) (xlow : Int64) (xrange : Int64) (xcode : Int64) (xreadLow : Int64) (xreadRange : Int64) (ri : Nat) (ro : Nat) (rw : Nat) (xasked : Int32) (rin : Int32) (ria : Nat) (rik : Nat) (rif : Nat → Int32) (hri : rOk rin rik) : MetV l y_Carries_widenReading (Cond.code y_Carries_widenReading prog_3_method_7_code 2 none :: gw) ({ frames := 3, cells := 0, slots := 0, locals := 63 } : Room) (dC, dI) vwCl (kT cI cM cO) [.ref co] [(co, .inr (3, [.int xshift, .long xkeptCode, .long xkeptRange, .int xkeptAsked, .int xcache, .int xpending, .long xlow, .long xrange, .long xcode, .long xreadLow, .long xreadRange, .ref ri, .ref ro, .ref rw, .int xasked])), (ri, .inr (0, [.int rin, .ref ria])), (ria, .inl (cI, rik, .inl rif))] sz (fun (u : Int64 × Int64 × Int32) => True) (fun (u : Int64 × Int64 × Int32) => [(co, .inr (3, [.int xshift, .long xkeptCode, .long xkeptRange, .int xkeptAsked, .int xcache, .int xpending, .long xlow, .long xrange, .long u.1, .long xreadLow, .long u.2.1, .ref ri, .ref ro, .ref rw, .int u.2.2])), (ri, .inr (0, [.int rin, .ref ria])), (ria, .inl (cI, rik, .inl rif))]) 0 0 := by
  refine my_ofV (cc := prog_3_method_7_code) (n := 2) (ret := none) (by decide) rfl (Nat.le_of_ble_eq_true rfl) ?_
  intro p e s m args below meth c R Q A ls H locs hx hb hr hts hown hlocks hml hnm hR hQ hA hl hP hK hN hD hS
  have hg : ∀ w ∈ gw, w.before args s = true := fun w h => hts w (List.mem_cons_of_mem _ h)
  have hown : s.vm.findClass "RangeCoders$Carries" = some m.cls := hown
  have hl : lv_has ls 2 [(0, .ref co)] := hl
  have hlt_hri := rOk_lt hri
  refine lv_iconst (v := 0) hx hb d_Carries_widenReading_0 (by decide) ?_
  refine lv_istore_n (lv' := [(1, .int 0), (0, .ref co)]) hx hb d_Carries_widenReading_1 rfl hl (by decide) rfl (fun ls hl => ?_)
  have J_2 : ∀ (n9_2 : Nat) (b2_0 : Int32) (b2_1 : Int64) (b2_2 : Int64) (b2_3 : Int32) (hn9_2 : ((8 : Int32).toInt - b2_0.toInt).toNat = n9_2) (hi_2 : 0 ≤ b2_0.toInt) (H : Heap) (locs : List Loc) (ls : Array Slot), va_P (dC, dI) vwCl [(co, .inr (3, [.int xshift, .long xkeptCode, .long xkeptRange, .int xkeptAsked, .int xcache, .int xpending, .long xlow, .long xrange, .long b2_1, .long xreadLow, .long b2_2, .ref ri, .ref ro, .ref rw, .int b2_3])), (ri, .inr (0, [.int rin, .ref ria])), (ria, .inl (cI, rik, .inl rif))] H → va_D A [(co, .inr (3, [.int xshift, .long xkeptCode, .long xkeptRange, .int xkeptAsked, .int xcache, .int xpending, .long xlow, .long xrange, .long b2_1, .long xreadLow, .long b2_2, .ref ri, .ref ro, .ref rw, .int b2_3])), (ri, .inr (0, [.int rin, .ref ria])), (ria, .inl (cI, rik, .inl rif))] → va_S A s.heap H locs → lv_has ls 2 [(1, .int b2_0), (0, .ref co)] → W p l e R s m args below meth c H locs 0 0 Q (F0 m 2 ls []) := by
    intro n9_2
    induction n9_2 using Nat.strongRecOn with
    | ind n9_2 ih9_2 =>
      intro b2_0 b2_1 b2_2 b2_3 hn9_2 hi_2 H locs ls hP hD hS hl
      refine lv_iload_n hx hb d_Carries_widenReading_2 rfl (lv_at hl 0 rfl) ?_
      refine lv_bipush (v := 8) hx hb d_Carries_widenReading_3 (by decide) ?_
      refine lv_icmp_ge (tgt := 61) hx hb d_Carries_widenReading_5 (by decide) (fun c_1 => ?_) (fun c_1 => ?_)
      · exact my_vret hx hb hr hlocks hQ hK hS (Nat.le_refl _) (Nat.le_refl _) (b2_1, b2_2, b2_3) (trivial) (hP.sub [0, 1, 2] rfl) (hD.sub [0, 1, 2] (by decide) rfl) d_Carries_widenReading_61
      · refine lv_aload_n hx hb d_Carries_widenReading_8 rfl (lv_at hl 1 rfl) ?_
        refine va_get (D := (dC, dI)) (ci := 3) (v := .long b2_2) (C := "RangeCoders$Bits") (T := T_Bits) (N := 15) hx hb hg in_Bits hown hK hP 0 rfl rfl 10 (by decide) (hg _ k96) (fun x9 h9 => u_same (hg _ k97) x9 h9) rfl d_Carries_widenReading_9 ?_
        refine lv_ldc2 (v := 16777216) hx hb hown (hg _ k461) d_Carries_widenReading_12 ?_
        refine W.lcmp hx hb d_Carries_widenReading_15 ?_
        refine lv_if_ge (tgt := 61) hx hb d_Carries_widenReading_16 (by decide) (fun c_2 => ?_) (fun c_2 => ?_)
        · rw [lg_cmp_ge] at c_2
          exact my_vret hx hb hr hlocks hQ hK hS (Nat.le_refl _) (Nat.le_refl _) (b2_1, b2_2, b2_3) (trivial) (hP.sub [0, 1, 2] rfl) (hD.sub [0, 1, 2] (by decide) rfl) d_Carries_widenReading_61
        · rw [lg_cmp_ge] at c_2
          refine lv_aload_n hx hb d_Carries_widenReading_19 rfl (lv_at hl 1 rfl) ?_
          refine lv_aload_n hx hb d_Carries_widenReading_20 rfl (lv_at hl 1 rfl) ?_
          refine va_get (D := (dC, dI)) (ci := 3) (v := .long b2_2) (C := "RangeCoders$Bits") (T := T_Bits) (N := 15) hx hb hg in_Bits hown hK hP 0 rfl rfl 10 (by decide) (hg _ k96) (fun x9 h9 => u_same (hg _ k97) x9 h9) rfl d_Carries_widenReading_21 ?_
          refine lv_bipush (v := 8) hx hb d_Carries_widenReading_24 (by decide) ?_
          refine lv_lshl hx hb d_Carries_widenReading_26 rfl ?_
          refine lv_topl (fun v_3 ev_3 => ?_)
          refine lv_ldc2 (v := 4294967295) hx hb hown (hg _ k462) d_Carries_widenReading_27 ?_
          refine lv_land hx hb d_Carries_widenReading_30 ?_
          refine lv_topl (fun v_4 ev_4 => ?_)
          refine va_put (D := (dC, dI)) (ci := 3) (v := .long v_4) (ty := .long) (C := "RangeCoders$Bits") (T := T_Bits) (N := 15) hx hb hg in_Bits t_Bits o_Bits n_Bits hown hK hP hD hS 0 rfl rfl 10 (by decide) (hg _ k96) (fun x9 h9 => u_same (hg _ k97) x9 h9) rfl (by decide +kernel) rfl rfl (Nat.le_of_ble_eq_true rfl) d_Carries_widenReading_31 (fun H locs hP hD hS => ?_)
          have hP : va_P (dC, dI) vwCl [(co, .inr (3, [.int xshift, .long xkeptCode, .long xkeptRange, .int xkeptAsked, .int xcache, .int xpending, .long xlow, .long xrange, .long b2_1, .long xreadLow, .long v_4, .ref ri, .ref ro, .ref rw, .int b2_3])), (ri, .inr (0, [.int rin, .ref ria])), (ria, .inl (cI, rik, .inl rif))] H := hP
          have hD : va_D A [(co, .inr (3, [.int xshift, .long xkeptCode, .long xkeptRange, .int xkeptAsked, .int xcache, .int xpending, .long xlow, .long xrange, .long b2_1, .long xreadLow, .long v_4, .ref ri, .ref ro, .ref rw, .int b2_3])), (ri, .inr (0, [.int rin, .ref ria])), (ria, .inl (cI, rik, .inl rif))] := hD
          refine lv_aload_n hx hb d_Carries_widenReading_34 rfl (lv_at hl 1 rfl) ?_
          refine lv_aload_n hx hb d_Carries_widenReading_35 rfl (lv_at hl 1 rfl) ?_
          refine va_get (D := (dC, dI)) (ci := 3) (v := .long b2_1) (C := "RangeCoders$Bits") (T := T_Bits) (N := 15) hx hb hg in_Bits hown hK hP 0 rfl rfl 8 (by decide) (hg _ k86) (fun x9 h9 => u_same (hg _ k87) x9 h9) rfl d_Carries_widenReading_36 ?_
          refine lv_bipush (v := 8) hx hb d_Carries_widenReading_39 (by decide) ?_
          refine lv_lshl hx hb d_Carries_widenReading_41 rfl ?_
          refine lv_topl (fun v_5 ev_5 => ?_)
          refine lv_aload_n hx hb d_Carries_widenReading_42 rfl (lv_at hl 1 rfl) ?_
          refine my_ci (wr := []) (va_runU (As := []) (rest := [.long v_5, .ref co]) ⟨hx, hb, hml, hown, hts⟩ (c_Bits_Coder_nextByte l dC dI cI cM cO H.size co xshift xkeptCode xkeptRange xkeptAsked xcache xpending xlow xrange b2_1 xreadLow v_4 ri ro rw b2_3 rin ria rik rif (by first | assumption | omega)) (va_cwU 0 hts (my_gU k795 k796 k798 k742 k3 k749) rfl rfl rfl rfl (by decide +kernel) ⟨by rw [hR]; exact Nat.le_of_ble_eq_true rfl, by rw [hR]; exact Nat.le_of_ble_eq_true rfl⟩) (my_preV hK hN (hP.sub [0, 1, 2] rfl) (hD.sub [0, 1, 2] (by decide) rfl) 0 rfl rfl) rfl rfl hl.1 rfl (lv_room (Nat.le_of_ble_eq_true rfl)) d_Carries_widenReading_43 ⟨by rw [hR]; exact Nat.le_of_ble_eq_true rfl, by rw [hR]; exact Nat.le_of_ble_eq_true rfl⟩) hP hD hS hA [0, 1, 2] [] rfl rfl (by decide) (by decide) (fun r_43 u9 H locs hw_43 hP hD hS => ?_)
          obtain ⟨xaskedq_43, rfl⟩ : ∃ z, z = u9 := ⟨_, rfl⟩
          have hP : va_P (dC, dI) vwCl [(co, .inr (3, [.int xshift, .long xkeptCode, .long xkeptRange, .int xkeptAsked, .int xcache, .int xpending, .long xlow, .long xrange, .long b2_1, .long xreadLow, .long v_4, .ref ri, .ref ro, .ref rw, .int xaskedq_43])), (ri, .inr (0, [.int rin, .ref ria])), (ria, .inl (cI, rik, .inl rif))] H := hP
          have hD : va_D A [(co, .inr (3, [.int xshift, .long xkeptCode, .long xkeptRange, .int xkeptAsked, .int xcache, .int xpending, .long xlow, .long xrange, .long b2_1, .long xreadLow, .long v_4, .ref ri, .ref ro, .ref rw, .int xaskedq_43])), (ri, .inr (0, [.int rin, .ref ria])), (ria, .inl (cI, rik, .inl rif))] := hD
          refine lv_i2l hx hb d_Carries_widenReading_46 rfl ?_
          refine lv_topl (fun v_6 ev_6 => ?_)
          refine lv_lor hx hb d_Carries_widenReading_47 ?_
          refine lv_topl (fun v_7 ev_7 => ?_)
          refine lv_ldc2 (v := 4294967295) hx hb hown (hg _ k462) d_Carries_widenReading_48 ?_
          refine lv_land hx hb d_Carries_widenReading_51 ?_
          refine lv_topl (fun v_8 ev_8 => ?_)
          refine va_put (D := (dC, dI)) (ci := 3) (v := .long v_8) (ty := .long) (C := "RangeCoders$Bits") (T := T_Bits) (N := 15) hx hb hg in_Bits t_Bits o_Bits n_Bits hown hK hP hD hS 0 rfl rfl 8 (by decide) (hg _ k86) (fun x9 h9 => u_same (hg _ k87) x9 h9) rfl (by decide +kernel) rfl rfl (Nat.le_of_ble_eq_true rfl) d_Carries_widenReading_52 (fun H locs hP hD hS => ?_)
          have hP : va_P (dC, dI) vwCl [(co, .inr (3, [.int xshift, .long xkeptCode, .long xkeptRange, .int xkeptAsked, .int xcache, .int xpending, .long xlow, .long xrange, .long v_8, .long xreadLow, .long v_4, .ref ri, .ref ro, .ref rw, .int xaskedq_43])), (ri, .inr (0, [.int rin, .ref ria])), (ria, .inl (cI, rik, .inl rif))] H := hP
          have hD : va_D A [(co, .inr (3, [.int xshift, .long xkeptCode, .long xkeptRange, .int xkeptAsked, .int xcache, .int xpending, .long xlow, .long xrange, .long v_8, .long xreadLow, .long v_4, .ref ri, .ref ro, .ref rw, .int xaskedq_43])), (ri, .inr (0, [.int rin, .ref ria])), (ria, .inl (cI, rik, .inl rif))] := hD
          obtain ⟨v_9, ev_9⟩ : ∃ y : Int32, y = b2_0 + (1) := ⟨_, rfl⟩
          refine lv_iinc (v := v_9) (lv' := [(1, .int v_9), (0, .ref co)]) hx hb d_Carries_widenReading_55 hl (k := 0) rfl (by rw [ev_9]; rfl) (by decide) rfl (fun ls hl => ?_)
          refine lv_goto (tgt := 2) hx hb d_Carries_widenReading_58 (by decide) ?_
          exact ih9_2 _ (by first | omega | (have z9 := I_up c_1 ev_9; omega)) v_9 v_8 v_4 xaskedq_43 rfl (by have z9 := I_up c_1 ev_9; omega) H locs ls (hP.sub [0, 1, 2] rfl) (hD.sub [0, 1, 2] (by decide) rfl) hS (lv_sub hl [0, 1] rfl)
  exact J_2 _ (0 : Int32) xcode xreadRange xasked rfl (by first | decide | assumption | omega) H locs ls (hP.sub [0, 1, 2] rfl) (hD.sub [0, 1, 2] (by decide) rfl) hS (lv_sub hl [0, 1] rfl)
set_option maxHeartbeats 2000000 in
set_option maxRecDepth 100000 in
theorem c_Bits_Carries_flush (l : Launch) (dC : Nat → ClassId) (dI : Nat → Nat → Nat) (cI cM cO : ClassId) (sz : Nat) (sl : Nat) (co : Nat) (xshift : Int32) (xkeptCode : Int64) (xkeptRange : Int64) (xkeptAsked : Int32) (xcache : Int32) (xpending : Int32) (xlow : Int64) (xrange : Int64) (xcode : Int64) (xreadLow : Int64) (xreadRange : Int64) (ri : Nat) (ro : Nat) (rw : Nat) (xasked : Int32) (rwn : Int32) (rwa : Nat) (rwk : Nat) (rwf : Nat → Int32) (hrw : rOk rwn rwk) : MetVg l y_Carries_flush (Cond.code y_Carries_flush prog_3_method_5_code 2 none :: gw) ({ frames := 5, cells := rPh rwk, slots := rPh rwk, locals := 125 } : Room) (dC, dI) vwCl (kT cI cM cO) [.ref co] [(co, .inr (3, [.int xshift, .long xkeptCode, .long xkeptRange, .int xkeptAsked, .int xcache, .int xpending, .long xlow, .long xrange, .long xcode, .long xreadLow, .long xreadRange, .ref ri, .ref ro, .ref rw, .int xasked])), (rw, .inr (0, [.int rwn, .ref rwa])), (rwa, .inl (cI, rwk, .inl rwf))] sz sl (fun (u : Int32 × Int32 × Int64 × Int32 × Nat × Nat × (Nat → Int32)) => rOk u.2.2.2.1 u.2.2.2.2.2.1) (fun (u : Int32 × Int32 × Int64 × Int32 × Nat × Nat × (Nat → Int32)) => [(co, .inr (3, [.int xshift, .long xkeptCode, .long xkeptRange, .int xkeptAsked, .int u.1, .int u.2.1, .long u.2.2.1, .long xrange, .long xcode, .long xreadLow, .long xreadRange, .ref ri, .ref ro, .ref rw, .int xasked])), (rw, .inr (0, [.int u.2.2.2.1, .ref u.2.2.2.2.1])), (u.2.2.2.2.1, .inl (cI, u.2.2.2.2.2.1, .inl u.2.2.2.2.2.2))]) (rPh rwk) (fun (u : Int32 × Int32 × Int64 × Int32 × Nat × Nat × (Nat → Int32)) => rPh u.2.2.2.2.2.1) := by
  refine my_ofVg (cc := prog_3_method_5_code) (n := 2) (ret := none) (by decide) rfl (Nat.le_of_ble_eq_true rfl) ?_
  intro p e s m args below meth c R Q A ls H locs hx hb hr hts hown hlocks hml hnm hR hQ hA hl hP hK hN hD hS
  have hg : ∀ w ∈ gw, w.before args s = true := fun w h => hts w (List.mem_cons_of_mem _ h)
  have hown : s.vm.findClass "RangeCoders$Carries" = some m.cls := hown
  have hl : lv_has ls 2 [(0, .ref co)] := hl
  have hlt_hrw := rOk_lt hrw
  refine lv_iconst (v := 0) hx hb d_Carries_flush_0 (by decide) ?_
  refine lv_istore_n (lv' := [(1, .int 0), (0, .ref co)]) hx hb d_Carries_flush_1 rfl hl (by decide) rfl (fun ls hl => ?_)
  have J_2 : ∀ (n9_2 : Nat) (b2_0 : Int32) (b2_1 : Nat) (b2_2 : Int32) (b2_3 : Int32) (b2_4 : Int64) (b2_5 : Int32) (b2_6 : Nat) (b2_7 : Nat → Int32) (b2_8 : Nat) (hn9_2 : ((5 : Int32).toInt - b2_0.toInt).toNat = n9_2) (hi_2 : 0 ≤ b2_0.toInt) (hr1_2 : rOk b2_5 b2_6) (hd_2 : b2_8 + (rPh b2_6) ≤ rPh rwk) (H : Heap) (locs : List Loc) (ls : Array Slot), va_P (dC, dI) vwCl [(co, .inr (3, [.int xshift, .long xkeptCode, .long xkeptRange, .int xkeptAsked, .int b2_2, .int b2_3, .long b2_4, .long xrange, .long xcode, .long xreadLow, .long xreadRange, .ref ri, .ref ro, .ref rw, .int xasked])), (rw, .inr (0, [.int b2_5, .ref b2_1])), (b2_1, .inl (cI, b2_6, .inl b2_7))] H → va_D A [(co, .inr (3, [.int xshift, .long xkeptCode, .long xkeptRange, .int xkeptAsked, .int b2_2, .int b2_3, .long b2_4, .long xrange, .long xcode, .long xreadLow, .long xreadRange, .ref ri, .ref ro, .ref rw, .int xasked])), (rw, .inr (0, [.int b2_5, .ref b2_1])), (b2_1, .inl (cI, b2_6, .inl b2_7))] → va_S A s.heap H locs → lv_has ls 2 [(1, .int b2_0), (0, .ref co)] → W p l e R s m args below meth c H locs b2_8 b2_8 Q (F0 m 2 ls []) := by
    intro n9_2
    induction n9_2 using Nat.strongRecOn with
    | ind n9_2 ih9_2 =>
      intro b2_0 b2_1 b2_2 b2_3 b2_4 b2_5 b2_6 b2_7 b2_8 hn9_2 hi_2 hr1_2 hd_2 H locs ls hP hD hS hl
      refine lv_iload_n hx hb d_Carries_flush_2 rfl (lv_at hl 0 rfl) ?_
      refine lv_iconst (v := 5) hx hb d_Carries_flush_3 (by decide) ?_
      refine lv_icmp_ge (tgt := 17) hx hb d_Carries_flush_4 (by decide) (fun c_1 => ?_) (fun c_1 => ?_)
      · exact my_vretg hx hb hr hlocks hQ hK hS (b2_2, b2_3, b2_4, b2_5, b2_1, b2_6, b2_7) (show b2_8 + (rPh b2_6) ≤ (rPh rwk) by omega) (show b2_8 + (rPh b2_6) ≤ (rPh rwk) by omega) (by first | assumption | (subst_vars; assumption)) (hP.sub [0, 1, 2] rfl) (hD.sub [0, 1, 2] (by decide) rfl) d_Carries_flush_17
      · refine lv_aload_n hx hb d_Carries_flush_7 rfl (lv_at hl 1 rfl) ?_
        refine my_cvg (wr := []) (va_runU (As := []) (rest := []) ⟨hx, hb, hml, hown, hts⟩ (c_Bits_Carries_shiftLow l dC dI cI cM cO H.size (hSl H) co xshift xkeptCode xkeptRange xkeptAsked b2_2 b2_3 b2_4 xrange xcode xreadLow xreadRange ri ro rw xasked b2_5 b2_1 b2_6 b2_7 (by first | assumption | omega)) (va_cwU 0 hts (my_gU k463 k1281 kx0 k465 k5 k466) rfl rfl rfl rfl (by decide +kernel) ⟨by rw [hR]; exact Nat.le_of_ble_eq_true rfl, by rw [hR]; exact Nat.le_of_ble_eq_true rfl⟩) (my_preVg hK hN (hP.sub [0, 1, 2] rfl) (hD.sub [0, 1, 2] (by decide) rfl) 0 rfl rfl) rfl rfl hl.1 rfl (lv_room (Nat.le_of_ble_eq_true rfl)) d_Carries_flush_8 ⟨by rw [hR]; exact (show b2_8 + (rPh b2_6) ≤ (rPh rwk) by omega), by rw [hR]; exact (show b2_8 + (rPh b2_6) ≤ (rPh rwk) by omega)⟩) hP hD hS hA [0, 1, 2] [] rfl rfl (by decide) (by decide) (fun u9 d_8 H locs hd_8 hw_8 hP hD hS => ?_)
        obtain ⟨xcacheq_8, xpendingq_8, xlowq_8, rwnq_8, rwaq_8, rwkq_8, rwfq_8⟩ := u9
        have hrw_8 : rOk rwnq_8 rwkq_8 := hw_8
        have hd_8 : d_8 + (rPh rwkq_8) ≤ (rPh b2_6) := hd_8
        have hP : va_P (dC, dI) vwCl [(co, .inr (3, [.int xshift, .long xkeptCode, .long xkeptRange, .int xkeptAsked, .int xcacheq_8, .int xpendingq_8, .long xlowq_8, .long xrange, .long xcode, .long xreadLow, .long xreadRange, .ref ri, .ref ro, .ref rw, .int xasked])), (rw, .inr (0, [.int rwnq_8, .ref rwaq_8])), (rwaq_8, .inl (cI, rwkq_8, .inl rwfq_8))] H := hP
        have hD : va_D A [(co, .inr (3, [.int xshift, .long xkeptCode, .long xkeptRange, .int xkeptAsked, .int xcacheq_8, .int xpendingq_8, .long xlowq_8, .long xrange, .long xcode, .long xreadLow, .long xreadRange, .ref ri, .ref ro, .ref rw, .int xasked])), (rw, .inr (0, [.int rwnq_8, .ref rwaq_8])), (rwaq_8, .inl (cI, rwkq_8, .inl rwfq_8))] := hD
        obtain ⟨v_2, ev_2⟩ : ∃ y : Int32, y = b2_0 + (1) := ⟨_, rfl⟩
        refine lv_iinc (v := v_2) (lv' := [(1, .int v_2), (0, .ref co)]) hx hb d_Carries_flush_11 hl (k := 0) rfl (by rw [ev_2]; rfl) (by decide) rfl (fun ls hl => ?_)
        refine lv_goto (tgt := 2) hx hb d_Carries_flush_14 (by decide) ?_
        exact ih9_2 _ (by first | omega | (have z9 := I_up c_1 ev_2; omega)) v_2 rwaq_8 xcacheq_8 xpendingq_8 xlowq_8 rwnq_8 rwkq_8 rwfq_8 (b2_8 + d_8) rfl (by have z9 := I_up c_1 ev_2; omega) (by assumption) (by omega) H locs ls (hP.sub [0, 1, 2] rfl) (hD.sub [0, 1, 2] (by decide) rfl) hS (lv_sub hl [0, 1] rfl)
  exact J_2 _ (0 : Int32) rwa xcache xpending xlow rwn rwk rwf (0 : Nat) rfl (by first | decide | assumption | omega) (by assumption) (by omega) H locs ls (hP.sub [0, 1, 2] rfl) (hD.sub [0, 1, 2] (by decide) rfl) hS (lv_sub hl [0, 1] rfl)
set_option maxHeartbeats 2000000 in
set_option maxRecDepth 100000 in
theorem c_Bits_Ranged_openMessage (l : Launch) (dC : Nat → ClassId) (dI : Nat → Nat → Nat) (cI cM cO : ClassId) (sz : Nat) (co : Nat) (xshift : Int32) (xkeptCode : Int64) (xkeptRange : Int64) (xkeptAsked : Int32) (xcache : Int32) (xpending : Int32) (xlow : Int64) (xrange : Int64) (xcode : Int64) (xreadLow : Int64) (xreadRange : Int64) (ri : Nat) (ro : Nat) (rw : Nat) (xasked : Int32) (rwn : Int32) (rwa : Nat) (rwk : Nat) (rwf : Nat → Int32) (hrw : rOk rwn rwk) : MetV l y_Ranged_openMessage (Cond.code y_Ranged_openMessage prog_8_method_6_code 1 none :: gw) ({ frames := 1, cells := 0, slots := 0, locals := 20 } : Room) (dC, dI) vwCl (kT cI cM cO) [.ref co] [(co, .inr (3, [.int xshift, .long xkeptCode, .long xkeptRange, .int xkeptAsked, .int xcache, .int xpending, .long xlow, .long xrange, .long xcode, .long xreadLow, .long xreadRange, .ref ri, .ref ro, .ref rw, .int xasked])), (rw, .inr (0, [.int rwn, .ref rwa])), (rwa, .inl (cI, rwk, .inl rwf))] sz (fun (u : Int64 × Int64 × Int32) => rOk u.2.2 rwk) (fun (u : Int64 × Int64 × Int32) => [(co, .inr (3, [.int xshift, .long xkeptCode, .long xkeptRange, .int xkeptAsked, .int xcache, .int xpending, .long u.1, .long u.2.1, .long xcode, .long xreadLow, .long xreadRange, .ref ri, .ref ro, .ref rw, .int xasked])), (rw, .inr (0, [.int u.2.2, .ref rwa])), (rwa, .inl (cI, rwk, .inl rwf))]) 0 0 := by
  refine my_ofV (cc := prog_8_method_6_code) (n := 1) (ret := none) (by decide) rfl (Nat.le_of_ble_eq_true rfl) ?_
  intro p e s m args below meth c R Q A ls H locs hx hb hr hts hown hlocks hml hnm hR hQ hA hl hP hK hN hD hS
  have hg : ∀ w ∈ gw, w.before args s = true := fun w h => hts w (List.mem_cons_of_mem _ h)
  have hown : s.vm.findClass "RangeCoders$Ranged" = some m.cls := hown
  have hl : lv_has ls 1 [(0, .ref co)] := hl
  have hlt_hrw := rOk_lt hrw
  refine lv_aload_n hx hb d_Ranged_openMessage_0 rfl (lv_at hl 0 rfl) ?_
  refine va_get (D := (dC, dI)) (ci := 3) (v := .ref rw) (C := "RangeCoders$Bits") (T := T_Bits) (N := 15) hx hb hg in_Bits hown hK hP 0 rfl rfl 13 (by decide) (hg _ k116) (fun x9 h9 => u_same (hg _ k117) x9 h9) rfl d_Ranged_openMessage_1 ?_
  refine my_cv (wr := [(co, .inr (3, [.int xshift, .long xkeptCode, .long xkeptRange, .int xkeptAsked, .int xcache, .int xpending, .long xlow, .long xrange, .long xcode, .long xreadLow, .long xreadRange, .ref ri, .ref ro, .ref rw, .int xasked]))]) (va_runV (As := []) (rest := []) ⟨hx, hb, hml, hown, hts⟩ (c_Row_clear l dC dI cI cM cO H.size rw rwn rwa rwk rwf (by first | assumption | omega)) (cwV 0 hts (my_gV k692 k594 k595 k6 k596) rfl rfl rfl (by decide +kernel) ⟨by rw [hR]; exact Nat.le_of_ble_eq_true rfl, by rw [hR]; exact Nat.le_of_ble_eq_true rfl⟩) (my_preV hK hN (hP.sub [1, 2] rfl) (hD.sub [1, 2] (by decide) rfl) 0 rfl rfl) rfl rfl hl.1 rfl (lv_room (Nat.le_of_ble_eq_true rfl)) d_Ranged_openMessage_4 ⟨by rw [hR]; exact Nat.le_of_ble_eq_true rfl, by rw [hR]; exact Nat.le_of_ble_eq_true rfl⟩) hP hD hS hA [1, 2] [0] rfl rfl (by decide) (by decide) (fun u9 H locs hw_4 hP hD hS => ?_)
  have hr_4 : rOk 0 rwk := hw_4
  have hP : va_P (dC, dI) vwCl [(co, .inr (3, [.int xshift, .long xkeptCode, .long xkeptRange, .int xkeptAsked, .int xcache, .int xpending, .long xlow, .long xrange, .long xcode, .long xreadLow, .long xreadRange, .ref ri, .ref ro, .ref rw, .int xasked])), (rw, .inr (0, [.int 0, .ref rwa])), (rwa, .inl (cI, rwk, .inl rwf))] H := hP
  have hD : va_D A [(co, .inr (3, [.int xshift, .long xkeptCode, .long xkeptRange, .int xkeptAsked, .int xcache, .int xpending, .long xlow, .long xrange, .long xcode, .long xreadLow, .long xreadRange, .ref ri, .ref ro, .ref rw, .int xasked])), (rw, .inr (0, [.int 0, .ref rwa])), (rwa, .inl (cI, rwk, .inl rwf))] := hD
  refine lv_aload_n hx hb d_Ranged_openMessage_7 rfl (lv_at hl 0 rfl) ?_
  refine lv_lconst (v := 0) hx hb d_Ranged_openMessage_8 (by decide) ?_
  refine va_put (D := (dC, dI)) (ci := 3) (v := .long 0) (ty := .long) (C := "RangeCoders$Bits") (T := T_Bits) (N := 15) hx hb hg in_Bits t_Bits o_Bits n_Bits hown hK hP hD hS 0 rfl rfl 6 (by decide) (hg _ k74) (fun _ h9 => h9) rfl (by decide +kernel) rfl rfl (Nat.le_of_ble_eq_true rfl) d_Ranged_openMessage_9 (fun H locs hP hD hS => ?_)
  have hP : va_P (dC, dI) vwCl [(co, .inr (3, [.int xshift, .long xkeptCode, .long xkeptRange, .int xkeptAsked, .int xcache, .int xpending, .long 0, .long xrange, .long xcode, .long xreadLow, .long xreadRange, .ref ri, .ref ro, .ref rw, .int xasked])), (rw, .inr (0, [.int 0, .ref rwa])), (rwa, .inl (cI, rwk, .inl rwf))] H := hP
  have hD : va_D A [(co, .inr (3, [.int xshift, .long xkeptCode, .long xkeptRange, .int xkeptAsked, .int xcache, .int xpending, .long 0, .long xrange, .long xcode, .long xreadLow, .long xreadRange, .ref ri, .ref ro, .ref rw, .int xasked])), (rw, .inr (0, [.int 0, .ref rwa])), (rwa, .inl (cI, rwk, .inl rwf))] := hD
  refine lv_aload_n hx hb d_Ranged_openMessage_12 rfl (lv_at hl 0 rfl) ?_
  refine lv_ldc2 (v := 4294967295) hx hb hown (hg _ k67) d_Ranged_openMessage_13 ?_
  refine va_put (D := (dC, dI)) (ci := 3) (v := .long 4294967295) (ty := .long) (C := "RangeCoders$Bits") (T := T_Bits) (N := 15) hx hb hg in_Bits t_Bits o_Bits n_Bits hown hK hP hD hS 0 rfl rfl 7 (by decide) (hg _ k77) (fun _ h9 => h9) rfl (by decide +kernel) rfl rfl (Nat.le_of_ble_eq_true rfl) d_Ranged_openMessage_16 (fun H locs hP hD hS => ?_)
  have hP : va_P (dC, dI) vwCl [(co, .inr (3, [.int xshift, .long xkeptCode, .long xkeptRange, .int xkeptAsked, .int xcache, .int xpending, .long 0, .long 4294967295, .long xcode, .long xreadLow, .long xreadRange, .ref ri, .ref ro, .ref rw, .int xasked])), (rw, .inr (0, [.int 0, .ref rwa])), (rwa, .inl (cI, rwk, .inl rwf))] H := hP
  have hD : va_D A [(co, .inr (3, [.int xshift, .long xkeptCode, .long xkeptRange, .int xkeptAsked, .int xcache, .int xpending, .long 0, .long 4294967295, .long xcode, .long xreadLow, .long xreadRange, .ref ri, .ref ro, .ref rw, .int xasked])), (rw, .inr (0, [.int 0, .ref rwa])), (rwa, .inl (cI, rwk, .inl rwf))] := hD
  exact my_vret hx hb hr hlocks hQ hK hS (Nat.le_refl _) (Nat.le_refl _) ((0 : Int64), (4294967295 : Int64), (0 : Int32)) (by first | assumption | (subst_vars; assumption)) (hP.sub [0, 1, 2] rfl) (hD.sub [0, 1, 2] (by decide) rfl) d_Ranged_openMessage_19
set_option maxHeartbeats 2000000 in
set_option maxRecDepth 100000 in
theorem c_Bits_Carries_openMessage (l : Launch) (dC : Nat → ClassId) (dI : Nat → Nat → Nat) (cI cM cO : ClassId) (sz : Nat) (co : Nat) (xshift : Int32) (xkeptCode : Int64) (xkeptRange : Int64) (xkeptAsked : Int32) (xcache : Int32) (xpending : Int32) (xlow : Int64) (xrange : Int64) (xcode : Int64) (xreadLow : Int64) (xreadRange : Int64) (ri : Nat) (ro : Nat) (rw : Nat) (xasked : Int32) (rwn : Int32) (rwa : Nat) (rwk : Nat) (rwf : Nat → Int32) (hrw : rOk rwn rwk) : MetV l y_Carries_openMessage (Cond.code y_Carries_openMessage prog_3_method_2_code 1 none :: gw) ({ frames := 2, cells := 0, slots := 0, locals := 40 } : Room) (dC, dI) vwCl (kT cI cM cO) [.ref co] [(co, .inr (3, [.int xshift, .long xkeptCode, .long xkeptRange, .int xkeptAsked, .int xcache, .int xpending, .long xlow, .long xrange, .long xcode, .long xreadLow, .long xreadRange, .ref ri, .ref ro, .ref rw, .int xasked])), (rw, .inr (0, [.int rwn, .ref rwa])), (rwa, .inl (cI, rwk, .inl rwf))] sz (fun (u : Int32 × Int32 × Int64 × Int64 × Int32) => rOk u.2.2.2.2 rwk) (fun (u : Int32 × Int32 × Int64 × Int64 × Int32) => [(co, .inr (3, [.int xshift, .long xkeptCode, .long xkeptRange, .int xkeptAsked, .int u.1, .int u.2.1, .long u.2.2.1, .long u.2.2.2.1, .long xcode, .long xreadLow, .long xreadRange, .ref ri, .ref ro, .ref rw, .int xasked])), (rw, .inr (0, [.int u.2.2.2.2, .ref rwa])), (rwa, .inl (cI, rwk, .inl rwf))]) 0 0 := by
  refine my_ofV (cc := prog_3_method_2_code) (n := 1) (ret := none) (by decide) rfl (Nat.le_of_ble_eq_true rfl) ?_
  intro p e s m args below meth c R Q A ls H locs hx hb hr hts hown hlocks hml hnm hR hQ hA hl hP hK hN hD hS
  have hg : ∀ w ∈ gw, w.before args s = true := fun w h => hts w (List.mem_cons_of_mem _ h)
  have hown : s.vm.findClass "RangeCoders$Carries" = some m.cls := hown
  have hl : lv_has ls 1 [(0, .ref co)] := hl
  have hlt_hrw := rOk_lt hrw
  refine lv_aload_n hx hb d_Carries_openMessage_0 rfl (lv_at hl 0 rfl) ?_
  refine my_cv (wr := []) (va_runSU (As := []) (rest := []) (hK.1 3 _ rfl).2 ⟨hx, hb, hml, hown, hts⟩ (c_Bits_Ranged_openMessage l dC dI cI cM cO H.size co xshift xkeptCode xkeptRange xkeptAsked xcache xpending xlow xrange xcode xreadLow xreadRange ri ro rw xasked rwn rwa rwk rwf (by first | assumption | omega)) (va_cwSU 0 hts (my_gSU k689 k1288 k153 k690 k4 k691) rfl rfl rfl (by decide +kernel) ⟨by rw [hR]; exact Nat.le_of_ble_eq_true rfl, by rw [hR]; exact Nat.le_of_ble_eq_true rfl⟩) (my_preV hK hN (hP.sub [0, 1, 2] rfl) (hD.sub [0, 1, 2] (by decide) rfl) 0 rfl rfl) rfl rfl hl.1 rfl (lv_room (Nat.le_of_ble_eq_true rfl)) d_Carries_openMessage_1 ⟨by rw [hR]; exact Nat.le_of_ble_eq_true rfl, by rw [hR]; exact Nat.le_of_ble_eq_true rfl⟩) hP hD hS hA [0, 1, 2] [] rfl rfl (by decide) (by decide) (fun u9 H locs hw_1 hP hD hS => ?_)
  obtain ⟨xlowq_1, xrangeq_1, rwnq_1⟩ := u9
  have hrw_1 : rOk rwnq_1 rwk := hw_1
  have hP : va_P (dC, dI) vwCl [(co, .inr (3, [.int xshift, .long xkeptCode, .long xkeptRange, .int xkeptAsked, .int xcache, .int xpending, .long xlowq_1, .long xrangeq_1, .long xcode, .long xreadLow, .long xreadRange, .ref ri, .ref ro, .ref rw, .int xasked])), (rw, .inr (0, [.int rwnq_1, .ref rwa])), (rwa, .inl (cI, rwk, .inl rwf))] H := hP
  have hD : va_D A [(co, .inr (3, [.int xshift, .long xkeptCode, .long xkeptRange, .int xkeptAsked, .int xcache, .int xpending, .long xlowq_1, .long xrangeq_1, .long xcode, .long xreadLow, .long xreadRange, .ref ri, .ref ro, .ref rw, .int xasked])), (rw, .inr (0, [.int rwnq_1, .ref rwa])), (rwa, .inl (cI, rwk, .inl rwf))] := hD
  refine lv_aload_n hx hb d_Carries_openMessage_4 rfl (lv_at hl 0 rfl) ?_
  refine lv_iconst (v := (-1)) hx hb d_Carries_openMessage_5 (by decide) ?_
  refine va_put (D := (dC, dI)) (ci := 3) (v := .int (-1)) (ty := .int) (C := "RangeCoders$Bits") (T := T_Bits) (N := 15) hx hb hg in_Bits t_Bits o_Bits n_Bits hown hK hP hD hS 0 rfl rfl 4 (by decide) (hg _ k68) (fun _ h9 => h9) rfl (by decide +kernel) rfl rfl (Nat.le_of_ble_eq_true rfl) d_Carries_openMessage_6 (fun H locs hP hD hS => ?_)
  have hP : va_P (dC, dI) vwCl [(co, .inr (3, [.int xshift, .long xkeptCode, .long xkeptRange, .int xkeptAsked, .int (-1), .int xpending, .long xlowq_1, .long xrangeq_1, .long xcode, .long xreadLow, .long xreadRange, .ref ri, .ref ro, .ref rw, .int xasked])), (rw, .inr (0, [.int rwnq_1, .ref rwa])), (rwa, .inl (cI, rwk, .inl rwf))] H := hP
  have hD : va_D A [(co, .inr (3, [.int xshift, .long xkeptCode, .long xkeptRange, .int xkeptAsked, .int (-1), .int xpending, .long xlowq_1, .long xrangeq_1, .long xcode, .long xreadLow, .long xreadRange, .ref ri, .ref ro, .ref rw, .int xasked])), (rw, .inr (0, [.int rwnq_1, .ref rwa])), (rwa, .inl (cI, rwk, .inl rwf))] := hD
  refine lv_aload_n hx hb d_Carries_openMessage_9 rfl (lv_at hl 0 rfl) ?_
  refine lv_iconst (v := 0) hx hb d_Carries_openMessage_10 (by decide) ?_
  refine va_put (D := (dC, dI)) (ci := 3) (v := .int 0) (ty := .int) (C := "RangeCoders$Bits") (T := T_Bits) (N := 15) hx hb hg in_Bits t_Bits o_Bits n_Bits hown hK hP hD hS 0 rfl rfl 5 (by decide) (hg _ k69) (fun _ h9 => h9) rfl (by decide +kernel) rfl rfl (Nat.le_of_ble_eq_true rfl) d_Carries_openMessage_11 (fun H locs hP hD hS => ?_)
  have hP : va_P (dC, dI) vwCl [(co, .inr (3, [.int xshift, .long xkeptCode, .long xkeptRange, .int xkeptAsked, .int (-1), .int 0, .long xlowq_1, .long xrangeq_1, .long xcode, .long xreadLow, .long xreadRange, .ref ri, .ref ro, .ref rw, .int xasked])), (rw, .inr (0, [.int rwnq_1, .ref rwa])), (rwa, .inl (cI, rwk, .inl rwf))] H := hP
  have hD : va_D A [(co, .inr (3, [.int xshift, .long xkeptCode, .long xkeptRange, .int xkeptAsked, .int (-1), .int 0, .long xlowq_1, .long xrangeq_1, .long xcode, .long xreadLow, .long xreadRange, .ref ri, .ref ro, .ref rw, .int xasked])), (rw, .inr (0, [.int rwnq_1, .ref rwa])), (rwa, .inl (cI, rwk, .inl rwf))] := hD
  exact my_vret hx hb hr hlocks hQ hK hS (Nat.le_refl _) (Nat.le_refl _) ((-1 : Int32), (0 : Int32), xlowq_1, xrangeq_1, rwnq_1) (by first | assumption | (subst_vars; assumption)) (hP.sub [0, 1, 2] rfl) (hD.sub [0, 1, 2] (by decide) rfl) d_Carries_openMessage_14
set_option maxHeartbeats 2000000 in
set_option maxRecDepth 100000 in
theorem c_Bits_Ranged_closeMessage (l : Launch) (dC : Nat → ClassId) (dI : Nat → Nat → Nat) (cI cM cO : ClassId) (sz : Nat) (sl : Nat) (co : Nat) (xshift : Int32) (xkeptCode : Int64) (xkeptRange : Int64) (xkeptAsked : Int32) (xcache : Int32) (xpending : Int32) (xlow : Int64) (xrange : Int64) (xcode : Int64) (xreadLow : Int64) (xreadRange : Int64) (ri : Nat) (ro : Nat) (rw : Nat) (xasked : Int32) (ron : Int32) (roa : Nat) (rok : Nat) (rof : Nat → Int32) (rwn : Int32) (rwa : Nat) (rwk : Nat) (rwf : Nat → Int32) (hro : rOk ron rok) (hrw : rOk rwn rwk) : MetVg l y_Ranged_closeMessage (Cond.code y_Ranged_closeMessage prog_8_method_9_code 2 none :: gw) ({ frames := 6, cells := rPh rwk, slots := rPh rwk, locals := 146 } : Room) (dC, dI) vwCl (kT cI cM cO) [.ref co] [(co, .inr (3, [.int xshift, .long xkeptCode, .long xkeptRange, .int xkeptAsked, .int xcache, .int xpending, .long xlow, .long xrange, .long xcode, .long xreadLow, .long xreadRange, .ref ri, .ref ro, .ref rw, .int xasked])), (ro, .inr (0, [.int ron, .ref roa])), (roa, .inl (cI, rok, .inl rof)), (rw, .inr (0, [.int rwn, .ref rwa])), (rwa, .inl (cI, rwk, .inl rwf))] sz sl (fun (u : Int32 × Int32 × Int64 × Int32 × Nat × Nat × (Nat → Int32)) => rOk u.2.2.2.1 u.2.2.2.2.2.1) (fun (u : Int32 × Int32 × Int64 × Int32 × Nat × Nat × (Nat → Int32)) => [(co, .inr (3, [.int xshift, .long xkeptCode, .long xkeptRange, .int xkeptAsked, .int u.1, .int u.2.1, .long u.2.2.1, .long xrange, .long xcode, .long xreadLow, .long xreadRange, .ref ri, .ref rw, .ref ro, .int xasked])), (ro, .inr (0, [.int ron, .ref roa])), (roa, .inl (cI, rok, .inl rof)), (rw, .inr (0, [.int u.2.2.2.1, .ref u.2.2.2.2.1])), (u.2.2.2.2.1, .inl (cI, u.2.2.2.2.2.1, .inl u.2.2.2.2.2.2))]) (rPh rwk) (fun (u : Int32 × Int32 × Int64 × Int32 × Nat × Nat × (Nat → Int32)) => rPh u.2.2.2.2.2.1) := by
  refine my_ofVg (cc := prog_8_method_9_code) (n := 2) (ret := none) (by decide) rfl (Nat.le_of_ble_eq_true rfl) ?_
  intro p e s m args below meth c R Q A ls H locs hx hb hr hts hown hlocks hml hnm hR hQ hA hl hP hK hN hD hS
  have hg : ∀ w ∈ gw, w.before args s = true := fun w h => hts w (List.mem_cons_of_mem _ h)
  have hown : s.vm.findClass "RangeCoders$Ranged" = some m.cls := hown
  have hl : lv_has ls 2 [(0, .ref co)] := hl
  have hlt_hro := rOk_lt hro
  have hlt_hrw := rOk_lt hrw
  refine lv_aload_n hx hb d_Ranged_closeMessage_0 rfl (lv_at hl 0 rfl) ?_
  refine my_cvg (wr := [(ro, .inr (0, [.int ron, .ref roa])), (roa, .inl (cI, rok, .inl rof))]) (va_runU (As := []) (rest := []) ⟨hx, hb, hml, hown, hts⟩ (c_Bits_Carries_flush l dC dI cI cM cO H.size (hSl H) co xshift xkeptCode xkeptRange xkeptAsked xcache xpending xlow xrange xcode xreadLow xreadRange ri ro rw xasked rwn rwa rwk rwf (by first | assumption | omega)) (va_cwA 0 hts (my_gU k578 k580 k581 k582 k5 k583) rfl rfl rfl (hN.1 _ j579 rfl) (by decide +kernel) ⟨by rw [hR]; exact Nat.le_of_ble_eq_true rfl, by rw [hR]; exact Nat.le_of_ble_eq_true rfl⟩) (my_preVg hK hN (hP.sub [0, 3, 4] rfl) (hD.sub [0, 3, 4] (by decide) rfl) 0 rfl rfl) rfl rfl hl.1 rfl (lv_room (Nat.le_of_ble_eq_true rfl)) d_Ranged_closeMessage_1 ⟨by rw [hR]; exact (show 0 + (rPh rwk) ≤ (rPh rwk) by omega), by rw [hR]; exact (show 0 + (rPh rwk) ≤ (rPh rwk) by omega)⟩) hP hD hS hA [0, 3, 4] [1, 2] rfl rfl (by decide) (by decide) (fun u9 d_1 H locs hd_1 hw_1 hP hD hS => ?_)
  obtain ⟨xcacheq_1, xpendingq_1, xlowq_1, rwnq_1, rwaq_1, rwkq_1, rwfq_1⟩ := u9
  have hrw_1 : rOk rwnq_1 rwkq_1 := hw_1
  have hd_1 : d_1 + (rPh rwkq_1) ≤ (rPh rwk) := hd_1
  have hP : va_P (dC, dI) vwCl [(ro, .inr (0, [.int ron, .ref roa])), (roa, .inl (cI, rok, .inl rof)), (co, .inr (3, [.int xshift, .long xkeptCode, .long xkeptRange, .int xkeptAsked, .int xcacheq_1, .int xpendingq_1, .long xlowq_1, .long xrange, .long xcode, .long xreadLow, .long xreadRange, .ref ri, .ref ro, .ref rw, .int xasked])), (rw, .inr (0, [.int rwnq_1, .ref rwaq_1])), (rwaq_1, .inl (cI, rwkq_1, .inl rwfq_1))] H := hP
  have hD : va_D A [(ro, .inr (0, [.int ron, .ref roa])), (roa, .inl (cI, rok, .inl rof)), (co, .inr (3, [.int xshift, .long xkeptCode, .long xkeptRange, .int xkeptAsked, .int xcacheq_1, .int xpendingq_1, .long xlowq_1, .long xrange, .long xcode, .long xreadLow, .long xreadRange, .ref ri, .ref ro, .ref rw, .int xasked])), (rw, .inr (0, [.int rwnq_1, .ref rwaq_1])), (rwaq_1, .inl (cI, rwkq_1, .inl rwfq_1))] := hD
  refine lv_aload_n hx hb d_Ranged_closeMessage_4 rfl (lv_at hl 0 rfl) ?_
  refine va_get (D := (dC, dI)) (ci := 3) (v := .ref ro) (C := "RangeCoders$Bits") (T := T_Bits) (N := 15) hx hb hg in_Bits hown hK hP 2 rfl rfl 12 (by decide) (hg _ k109) (fun x9 h9 => u_same (hg _ k110) x9 h9) rfl d_Ranged_closeMessage_5 ?_
  refine lv_astore_n (lv' := [(1, .ref ro), (0, .ref co)]) hx hb d_Ranged_closeMessage_8 rfl hl (by decide) rfl (fun ls hl => ?_)
  refine lv_aload_n hx hb d_Ranged_closeMessage_9 rfl (lv_at hl 1 rfl) ?_
  refine lv_aload_n hx hb d_Ranged_closeMessage_10 rfl (lv_at hl 1 rfl) ?_
  refine va_get (D := (dC, dI)) (ci := 3) (v := .ref rw) (C := "RangeCoders$Bits") (T := T_Bits) (N := 15) hx hb hg in_Bits hown hK hP 2 rfl rfl 13 (by decide) (hg _ k116) (fun x9 h9 => u_same (hg _ k117) x9 h9) rfl d_Ranged_closeMessage_11 ?_
  refine va_put (D := (dC, dI)) (ci := 3) (v := .ref rw) (ty := (.object "RangeCoders$Row")) (C := "RangeCoders$Bits") (T := T_Bits) (N := 15) hx hb hg in_Bits t_Bits o_Bits n_Bits hown hK hP hD hS 2 rfl rfl 12 (by decide) (hg _ k109) (fun x9 h9 => u_same (hg _ k110) x9 h9) rfl (by decide +kernel) rfl rfl (Nat.le_of_ble_eq_true rfl) d_Ranged_closeMessage_14 (fun H locs hP hD hS => ?_)
  have hP : va_P (dC, dI) vwCl [(ro, .inr (0, [.int ron, .ref roa])), (roa, .inl (cI, rok, .inl rof)), (co, .inr (3, [.int xshift, .long xkeptCode, .long xkeptRange, .int xkeptAsked, .int xcacheq_1, .int xpendingq_1, .long xlowq_1, .long xrange, .long xcode, .long xreadLow, .long xreadRange, .ref ri, .ref rw, .ref rw, .int xasked])), (rw, .inr (0, [.int rwnq_1, .ref rwaq_1])), (rwaq_1, .inl (cI, rwkq_1, .inl rwfq_1))] H := hP
  have hD : va_D A [(ro, .inr (0, [.int ron, .ref roa])), (roa, .inl (cI, rok, .inl rof)), (co, .inr (3, [.int xshift, .long xkeptCode, .long xkeptRange, .int xkeptAsked, .int xcacheq_1, .int xpendingq_1, .long xlowq_1, .long xrange, .long xcode, .long xreadLow, .long xreadRange, .ref ri, .ref rw, .ref rw, .int xasked])), (rw, .inr (0, [.int rwnq_1, .ref rwaq_1])), (rwaq_1, .inl (cI, rwkq_1, .inl rwfq_1))] := hD
  refine lv_aload_n hx hb d_Ranged_closeMessage_17 rfl (lv_at hl 1 rfl) ?_
  refine lv_aload_n hx hb d_Ranged_closeMessage_18 rfl (lv_at hl 0 rfl) ?_
  refine va_put (D := (dC, dI)) (ci := 3) (v := .ref ro) (ty := (.object "RangeCoders$Row")) (C := "RangeCoders$Bits") (T := T_Bits) (N := 15) hx hb hg in_Bits t_Bits o_Bits n_Bits hown hK hP hD hS 2 rfl rfl 13 (by decide) (hg _ k116) (fun x9 h9 => u_same (hg _ k117) x9 h9) rfl (by decide +kernel) rfl rfl (Nat.le_of_ble_eq_true rfl) d_Ranged_closeMessage_19 (fun H locs hP hD hS => ?_)
  have hP : va_P (dC, dI) vwCl [(ro, .inr (0, [.int ron, .ref roa])), (roa, .inl (cI, rok, .inl rof)), (co, .inr (3, [.int xshift, .long xkeptCode, .long xkeptRange, .int xkeptAsked, .int xcacheq_1, .int xpendingq_1, .long xlowq_1, .long xrange, .long xcode, .long xreadLow, .long xreadRange, .ref ri, .ref rw, .ref ro, .int xasked])), (rw, .inr (0, [.int rwnq_1, .ref rwaq_1])), (rwaq_1, .inl (cI, rwkq_1, .inl rwfq_1))] H := hP
  have hD : va_D A [(ro, .inr (0, [.int ron, .ref roa])), (roa, .inl (cI, rok, .inl rof)), (co, .inr (3, [.int xshift, .long xkeptCode, .long xkeptRange, .int xkeptAsked, .int xcacheq_1, .int xpendingq_1, .long xlowq_1, .long xrange, .long xcode, .long xreadLow, .long xreadRange, .ref ri, .ref rw, .ref ro, .int xasked])), (rw, .inr (0, [.int rwnq_1, .ref rwaq_1])), (rwaq_1, .inl (cI, rwkq_1, .inl rwfq_1))] := hD
  exact my_vretg hx hb hr hlocks hQ hK hS (xcacheq_1, xpendingq_1, xlowq_1, rwnq_1, rwaq_1, rwkq_1, rwfq_1) (show (0 + d_1) + (rPh rwkq_1) ≤ (rPh rwk) by omega) (show (0 + d_1) + (rPh rwkq_1) ≤ (rPh rwk) by omega) (by first | assumption | (subst_vars; assumption)) (hP.sub [2, 0, 1, 3, 4] rfl) (hD.sub [2, 0, 1, 3, 4] (by decide) rfl) d_Ranged_closeMessage_22
set_option maxHeartbeats 2000000 in
set_option maxRecDepth 100000 in
theorem c_Bits_Ranged_openReading (l : Launch) (dC : Nat → ClassId) (dI : Nat → Nat → Nat) (cI cM cO : ClassId) (sz : Nat) (co : Nat) (xshift : Int32) (xkeptCode : Int64) (xkeptRange : Int64) (xkeptAsked : Int32) (xcache : Int32) (xpending : Int32) (xlow : Int64) (xrange : Int64) (xcode : Int64) (xreadLow : Int64) (xreadRange : Int64) (ri : Nat) (ro : Nat) (rw : Nat) (xasked : Int32) (rin : Int32) (ria : Nat) (rik : Nat) (rif : Nat → Int32) (hri : rOk rin rik) : MetI l y_Ranged_openReading (Cond.code y_Ranged_openReading prog_8_method_10_code 1 (some .boolean) :: gw) ({ frames := 4, cells := 0, slots := 0, locals := 86 } : Room) (dC, dI) vwCl (kT cI cM cO) [.ref co] [(co, .inr (3, [.int xshift, .long xkeptCode, .long xkeptRange, .int xkeptAsked, .int xcache, .int xpending, .long xlow, .long xrange, .long xcode, .long xreadLow, .long xreadRange, .ref ri, .ref ro, .ref rw, .int xasked])), (ri, .inr (0, [.int rin, .ref ria])), (ria, .inl (cI, rik, .inl rif))] sz (fun (r : Int32) (u : Int64 × Int64 × Int64 × Int32) => True) (fun (u : Int64 × Int64 × Int64 × Int32) => [(co, .inr (3, [.int xshift, .long xkeptCode, .long xkeptRange, .int xkeptAsked, .int xcache, .int xpending, .long xlow, .long xrange, .long u.1, .long u.2.1, .long u.2.2.1, .ref ri, .ref ro, .ref rw, .int u.2.2.2])), (ri, .inr (0, [.int rin, .ref ria])), (ria, .inl (cI, rik, .inl rif))]) 0 0 := by
  refine my_ofI (cc := prog_8_method_10_code) (n := 1) (ret := (some .boolean)) (by decide) rfl (Nat.le_of_ble_eq_true rfl) ?_
  intro p e s m args below meth c R Q A ls H locs hx hb hr hts hown hlocks hml hnm hR hQ hA hl hP hK hN hD hS
  have hg : ∀ w ∈ gw, w.before args s = true := fun w h => hts w (List.mem_cons_of_mem _ h)
  have hown : s.vm.findClass "RangeCoders$Ranged" = some m.cls := hown
  have hl : lv_has ls 1 [(0, .ref co)] := hl
  have hlt_hri := rOk_lt hri
  refine lv_aload_n hx hb d_Ranged_openReading_0 rfl (lv_at hl 0 rfl) ?_
  refine lv_aload_n hx hb d_Ranged_openReading_1 rfl (lv_at hl 0 rfl) ?_
  refine my_cl (wr := []) (va_runU (As := []) (rest := [.ref co]) ⟨hx, hb, hml, hown, hts⟩ (c_Bits_Coder_firstFourBytes l dC dI cI cM cO H.size co xshift xkeptCode xkeptRange xkeptAsked xcache xpending xlow xrange xcode xreadLow xreadRange ri ro rw xasked rin ria rik rif (by first | assumption | omega)) (va_cwU 0 hts (my_gU k733 k734 k736 k739 k3 k740) rfl rfl rfl rfl (by decide +kernel) ⟨by rw [hR]; exact Nat.le_of_ble_eq_true rfl, by rw [hR]; exact Nat.le_of_ble_eq_true rfl⟩) (my_preV hK hN (hP.sub [0, 1, 2] rfl) (hD.sub [0, 1, 2] (by decide) rfl) 0 rfl rfl) rfl rfl hl.1 rfl (lv_room (Nat.le_of_ble_eq_true rfl)) d_Ranged_openReading_2 ⟨by rw [hR]; exact Nat.le_of_ble_eq_true rfl, by rw [hR]; exact Nat.le_of_ble_eq_true rfl⟩) hP hD hS hA [0, 1, 2] [] rfl rfl (by decide) (by decide) (fun r_2 u9 H locs hw_2 hP hD hS => ?_)
  obtain ⟨xaskedq_2, rfl⟩ : ∃ z, z = u9 := ⟨_, rfl⟩
  have hP : va_P (dC, dI) vwCl [(co, .inr (3, [.int xshift, .long xkeptCode, .long xkeptRange, .int xkeptAsked, .int xcache, .int xpending, .long xlow, .long xrange, .long xcode, .long xreadLow, .long xreadRange, .ref ri, .ref ro, .ref rw, .int xaskedq_2])), (ri, .inr (0, [.int rin, .ref ria])), (ria, .inl (cI, rik, .inl rif))] H := hP
  have hD : va_D A [(co, .inr (3, [.int xshift, .long xkeptCode, .long xkeptRange, .int xkeptAsked, .int xcache, .int xpending, .long xlow, .long xrange, .long xcode, .long xreadLow, .long xreadRange, .ref ri, .ref ro, .ref rw, .int xaskedq_2])), (ri, .inr (0, [.int rin, .ref ria])), (ria, .inl (cI, rik, .inl rif))] := hD
  refine va_put (D := (dC, dI)) (ci := 3) (v := .long r_2) (ty := .long) (C := "RangeCoders$Bits") (T := T_Bits) (N := 15) hx hb hg in_Bits t_Bits o_Bits n_Bits hown hK hP hD hS 0 rfl rfl 8 (by decide) (hg _ k90) (fun _ h9 => h9) rfl (by decide +kernel) rfl rfl (Nat.le_of_ble_eq_true rfl) d_Ranged_openReading_5 (fun H locs hP hD hS => ?_)
  have hP : va_P (dC, dI) vwCl [(co, .inr (3, [.int xshift, .long xkeptCode, .long xkeptRange, .int xkeptAsked, .int xcache, .int xpending, .long xlow, .long xrange, .long r_2, .long xreadLow, .long xreadRange, .ref ri, .ref ro, .ref rw, .int xaskedq_2])), (ri, .inr (0, [.int rin, .ref ria])), (ria, .inl (cI, rik, .inl rif))] H := hP
  have hD : va_D A [(co, .inr (3, [.int xshift, .long xkeptCode, .long xkeptRange, .int xkeptAsked, .int xcache, .int xpending, .long xlow, .long xrange, .long r_2, .long xreadLow, .long xreadRange, .ref ri, .ref ro, .ref rw, .int xaskedq_2])), (ri, .inr (0, [.int rin, .ref ria])), (ria, .inl (cI, rik, .inl rif))] := hD
  refine lv_aload_n hx hb d_Ranged_openReading_8 rfl (lv_at hl 0 rfl) ?_
  refine lv_lconst (v := 0) hx hb d_Ranged_openReading_9 (by decide) ?_
  refine va_put (D := (dC, dI)) (ci := 3) (v := .long 0) (ty := .long) (C := "RangeCoders$Bits") (T := T_Bits) (N := 15) hx hb hg in_Bits t_Bits o_Bits n_Bits hown hK hP hD hS 0 rfl rfl 9 (by decide) (hg _ k93) (fun _ h9 => h9) rfl (by decide +kernel) rfl rfl (Nat.le_of_ble_eq_true rfl) d_Ranged_openReading_10 (fun H locs hP hD hS => ?_)
  have hP : va_P (dC, dI) vwCl [(co, .inr (3, [.int xshift, .long xkeptCode, .long xkeptRange, .int xkeptAsked, .int xcache, .int xpending, .long xlow, .long xrange, .long r_2, .long 0, .long xreadRange, .ref ri, .ref ro, .ref rw, .int xaskedq_2])), (ri, .inr (0, [.int rin, .ref ria])), (ria, .inl (cI, rik, .inl rif))] H := hP
  have hD : va_D A [(co, .inr (3, [.int xshift, .long xkeptCode, .long xkeptRange, .int xkeptAsked, .int xcache, .int xpending, .long xlow, .long xrange, .long r_2, .long 0, .long xreadRange, .ref ri, .ref ro, .ref rw, .int xaskedq_2])), (ri, .inr (0, [.int rin, .ref ria])), (ria, .inl (cI, rik, .inl rif))] := hD
  refine lv_aload_n hx hb d_Ranged_openReading_13 rfl (lv_at hl 0 rfl) ?_
  refine lv_ldc2 (v := 4294967295) hx hb hown (hg _ k67) d_Ranged_openReading_14 ?_
  refine va_put (D := (dC, dI)) (ci := 3) (v := .long 4294967295) (ty := .long) (C := "RangeCoders$Bits") (T := T_Bits) (N := 15) hx hb hg in_Bits t_Bits o_Bits n_Bits hown hK hP hD hS 0 rfl rfl 10 (by decide) (hg _ k100) (fun _ h9 => h9) rfl (by decide +kernel) rfl rfl (Nat.le_of_ble_eq_true rfl) d_Ranged_openReading_17 (fun H locs hP hD hS => ?_)
  have hP : va_P (dC, dI) vwCl [(co, .inr (3, [.int xshift, .long xkeptCode, .long xkeptRange, .int xkeptAsked, .int xcache, .int xpending, .long xlow, .long xrange, .long r_2, .long 0, .long 4294967295, .ref ri, .ref ro, .ref rw, .int xaskedq_2])), (ri, .inr (0, [.int rin, .ref ria])), (ria, .inl (cI, rik, .inl rif))] H := hP
  have hD : va_D A [(co, .inr (3, [.int xshift, .long xkeptCode, .long xkeptRange, .int xkeptAsked, .int xcache, .int xpending, .long xlow, .long xrange, .long r_2, .long 0, .long 4294967295, .ref ri, .ref ro, .ref rw, .int xaskedq_2])), (ri, .inr (0, [.int rin, .ref ria])), (ria, .inl (cI, rik, .inl rif))] := hD
  refine lv_iconst (v := 1) hx hb d_Ranged_openReading_20 (by decide) ?_
  exact my_iret (v := 1) hx hb hr (rfl) hlocks hQ hK hS (Nat.le_refl _) (Nat.le_refl _) (r_2, (0 : Int64), (4294967295 : Int64), xaskedq_2) (trivial) (hP.sub [0, 1, 2] rfl) (hD.sub [0, 1, 2] (by decide) rfl) d_Ranged_openReading_21
set_option maxHeartbeats 2000000 in
set_option maxRecDepth 100000 in
theorem c_Bits_Ranged_register (l : Launch) (dC : Nat → ClassId) (dI : Nat → Nat → Nat) (cI cM cO : ClassId) (sz : Nat) (co : Nat) (xshift : Int32) (xkeptCode : Int64) (xkeptRange : Int64) (xkeptAsked : Int32) (xcache : Int32) (xpending : Int32) (xlow : Int64) (xrange : Int64) (xcode : Int64) (xreadLow : Int64) (xreadRange : Int64) (ri : Nat) (ro : Nat) (rw : Nat) (xasked : Int32) (wh : Int32) : MetL l y_Ranged_register (Cond.code y_Ranged_register prog_8_method_13_code 2 (some .long) :: gw) ({ frames := 0, cells := 0, slots := 0, locals := 0 } : Room) (dC, dI) vwCl (kT cI cM cO) [.ref co, .int wh] [(co, .inr (3, [.int xshift, .long xkeptCode, .long xkeptRange, .int xkeptAsked, .int xcache, .int xpending, .long xlow, .long xrange, .long xcode, .long xreadLow, .long xreadRange, .ref ri, .ref ro, .ref rw, .int xasked]))] sz (fun (r : Int64) (u : Unit) => True) (fun (u : Unit) => [(co, .inr (3, [.int xshift, .long xkeptCode, .long xkeptRange, .int xkeptAsked, .int xcache, .int xpending, .long xlow, .long xrange, .long xcode, .long xreadLow, .long xreadRange, .ref ri, .ref ro, .ref rw, .int xasked]))]) 0 0 := by
  refine my_ofL (cc := prog_8_method_13_code) (n := 2) (ret := (some .long)) (by decide) rfl (Nat.le_of_ble_eq_true rfl) ?_
  intro p e s m args below meth c R Q A ls H locs hx hb hr hts hown hlocks hml hnm hR hQ hA hl hP hK hN hD hS
  have hg : ∀ w ∈ gw, w.before args s = true := fun w h => hts w (List.mem_cons_of_mem _ h)
  have hown : s.vm.findClass "RangeCoders$Ranged" = some m.cls := hown
  have hl : lv_has ls 2 [(0, .ref co), (1, .int wh)] := hl
  refine lv_iload_n hx hb d_Ranged_register_0 rfl (lv_at hl 1 rfl) ?_
  by_cases c_1 : wh = 0
  · refine lv_tableIn (tgt := 36) hx hb d_Ranged_register_1 (by rw [c_1]; decide) (by rw [c_1]; decide) (by rw [c_1]; rfl) (by decide) ?_
    refine lv_aload_n hx hb d_Ranged_register_36 rfl (lv_at hl 0 rfl) ?_
    refine va_get (D := (dC, dI)) (ci := 3) (v := .long xlow) (C := "RangeCoders$Bits") (T := T_Bits) (N := 15) hx hb hg in_Bits hown hK hP 0 rfl rfl 6 (by decide) (hg _ k74) (fun _ h9 => h9) rfl d_Ranged_register_37 ?_
    exact my_lret (v := xlow) hx hb hr hlocks hQ hK hS (Nat.le_refl _) (Nat.le_refl _) () (trivial) (hP.sub [0] rfl) (hD.sub [0] (by decide) rfl) d_Ranged_register_40
  by_cases c_2 : wh = 1
  · refine lv_tableIn (tgt := 41) hx hb d_Ranged_register_1 (by rw [c_2]; decide) (by rw [c_2]; decide) (by rw [c_2]; rfl) (by decide) ?_
    refine lv_aload_n hx hb d_Ranged_register_41 rfl (lv_at hl 0 rfl) ?_
    refine va_get (D := (dC, dI)) (ci := 3) (v := .long xrange) (C := "RangeCoders$Bits") (T := T_Bits) (N := 15) hx hb hg in_Bits hown hK hP 0 rfl rfl 7 (by decide) (hg _ k77) (fun _ h9 => h9) rfl d_Ranged_register_42 ?_
    exact my_lret (v := xrange) hx hb hr hlocks hQ hK hS (Nat.le_refl _) (Nat.le_refl _) () (trivial) (hP.sub [0] rfl) (hD.sub [0] (by decide) rfl) d_Ranged_register_45
  by_cases c_3 : wh = 2
  · refine lv_tableIn (tgt := 46) hx hb d_Ranged_register_1 (by rw [c_3]; decide) (by rw [c_3]; decide) (by rw [c_3]; rfl) (by decide) ?_
    refine lv_aload_n hx hb d_Ranged_register_46 rfl (lv_at hl 0 rfl) ?_
    refine va_get (D := (dC, dI)) (ci := 3) (v := .long xcode) (C := "RangeCoders$Bits") (T := T_Bits) (N := 15) hx hb hg in_Bits hown hK hP 0 rfl rfl 8 (by decide) (hg _ k90) (fun _ h9 => h9) rfl d_Ranged_register_47 ?_
    exact my_lret (v := xcode) hx hb hr hlocks hQ hK hS (Nat.le_refl _) (Nat.le_refl _) () (trivial) (hP.sub [0] rfl) (hD.sub [0] (by decide) rfl) d_Ranged_register_50
  by_cases c_4 : wh = 3
  · refine lv_tableIn (tgt := 51) hx hb d_Ranged_register_1 (by rw [c_4]; decide) (by rw [c_4]; decide) (by rw [c_4]; rfl) (by decide) ?_
    refine lv_aload_n hx hb d_Ranged_register_51 rfl (lv_at hl 0 rfl) ?_
    refine va_get (D := (dC, dI)) (ci := 3) (v := .long xreadLow) (C := "RangeCoders$Bits") (T := T_Bits) (N := 15) hx hb hg in_Bits hown hK hP 0 rfl rfl 9 (by decide) (hg _ k93) (fun _ h9 => h9) rfl d_Ranged_register_52 ?_
    exact my_lret (v := xreadLow) hx hb hr hlocks hQ hK hS (Nat.le_refl _) (Nat.le_refl _) () (trivial) (hP.sub [0] rfl) (hD.sub [0] (by decide) rfl) d_Ranged_register_55
  by_cases c_5 : wh = 4
  · refine lv_tableIn (tgt := 56) hx hb d_Ranged_register_1 (by rw [c_5]; decide) (by rw [c_5]; decide) (by rw [c_5]; rfl) (by decide) ?_
    refine lv_aload_n hx hb d_Ranged_register_56 rfl (lv_at hl 0 rfl) ?_
    refine va_get (D := (dC, dI)) (ci := 3) (v := .long xreadRange) (C := "RangeCoders$Bits") (T := T_Bits) (N := 15) hx hb hg in_Bits hown hK hP 0 rfl rfl 10 (by decide) (hg _ k100) (fun _ h9 => h9) rfl d_Ranged_register_57 ?_
    exact my_lret (v := xreadRange) hx hb hr hlocks hQ hK hS (Nat.le_refl _) (Nat.le_refl _) () (trivial) (hP.sub [0] rfl) (hD.sub [0] (by decide) rfl) d_Ranged_register_60
  refine lv_tableOut (tgt := 61) hx hb d_Ranged_register_1 (by have ac_1 : wh.toInt ≠ 0 := fun z => c_1 (Int32.toInt_inj.mp z); have ac_2 : wh.toInt ≠ 1 := fun z => c_2 (Int32.toInt_inj.mp z); have ac_3 : wh.toInt ≠ 2 := fun z => c_3 (Int32.toInt_inj.mp z); have ac_4 : wh.toInt ≠ 3 := fun z => c_4 (Int32.toInt_inj.mp z); have ac_5 : wh.toInt ≠ 4 := fun z => c_5 (Int32.toInt_inj.mp z); omega) (by decide) ?_
  refine lv_lconst (v := 0) hx hb d_Ranged_register_61 (by decide) ?_
  exact my_lret (v := 0) hx hb hr hlocks hQ hK hS (Nat.le_refl _) (Nat.le_refl _) () (trivial) (hP.sub [0] rfl) (hD.sub [0] (by decide) rfl) d_Ranged_register_62
theorem lv_26 {r : Int32} (h1 : 1 ≤ r.toInt) (h2 : r.toInt ≤ 6) : ∃ n : Nat, (1 : Int32) <<< (r &&& 31) = nI n ∧ 1 ≤ n ∧ n ≤ 64 := by
  have e : r = 1 ∨ r = 2 ∨ r = 3 ∨ r = 4 ∨ r = 5 ∨ r = 6 := by
    have e1 : (1 : Int32).toInt = 1 := rfl
    have e2 : (2 : Int32).toInt = 2 := rfl
    have e3 : (3 : Int32).toInt = 3 := rfl
    have e4 : (4 : Int32).toInt = 4 := rfl
    have e5 : (5 : Int32).toInt = 5 := rfl
    have e6 : (6 : Int32).toInt = 6 := rfl
    rcases (show r.toInt = 1 ∨ r.toInt = 2 ∨ r.toInt = 3 ∨ r.toInt = 4 ∨ r.toInt = 5 ∨ r.toInt = 6 by omega) with h | h | h | h | h | h
    · exact Or.inl (Int32.toInt_inj.mp (by rw [h]; rfl))
    · exact Or.inr (Or.inl (Int32.toInt_inj.mp (by rw [h]; rfl)))
    · exact Or.inr (Or.inr (Or.inl (Int32.toInt_inj.mp (by rw [h]; rfl))))
    · exact Or.inr (Or.inr (Or.inr (Or.inl (Int32.toInt_inj.mp (by rw [h]; rfl)))))
    · exact Or.inr (Or.inr (Or.inr (Or.inr (Or.inl (Int32.toInt_inj.mp (by rw [h]; rfl))))))
    · exact Or.inr (Or.inr (Or.inr (Or.inr (Or.inr (Int32.toInt_inj.mp (by rw [h]; rfl))))))
  rcases e with rfl | rfl | rfl | rfl | rfl | rfl
  · exact ⟨2, by decide, by decide, by decide⟩
  · exact ⟨4, by decide, by decide, by decide⟩
  · exact ⟨8, by decide, by decide, by decide⟩
  · exact ⟨16, by decide, by decide, by decide⟩
  · exact ⟨32, by decide, by decide, by decide⟩
  · exact ⟨64, by decide, by decide, by decide⟩
set_option maxHeartbeats 2000000 in
set_option maxRecDepth 100000 in
theorem c_Bits_levelsOf (l : Launch) (dC : Nat → ClassId) (dI : Nat → Nat → Nat) (cI cM cO : ClassId) (sz : Nat) (sg : Int32) : MetI l y_Bits_levelsOf (Cond.code y_Bits_levelsOf prog_2_method_9_code 2 (some .int) :: gw) ({ frames := 0, cells := 0, slots := 0, locals := 0 } : Room) (dC, dI) vwCl (kT cI cM cO) [.int sg] [] sz (fun (r : Int32) (u : Unit) => 1 ≤ r.toInt ∧ r.toInt ≤ 6) (fun (u : Unit) => []) 0 0 := by
  refine my_ofI (cc := prog_2_method_9_code) (n := 2) (ret := (some .int)) (by decide) rfl (Nat.le_of_ble_eq_true rfl) ?_
  intro p e s m args below meth c R Q A ls H locs hx hb hr hts hown hlocks hml hnm hR hQ hA hl hP hK hN hD hS
  have hg : ∀ w ∈ gw, w.before args s = true := fun w h => hts w (List.mem_cons_of_mem _ h)
  have hown : s.vm.findClass "RangeCoders$Bits" = some m.cls := hown
  have hl : lv_has ls 2 [(0, .int sg)] := hl
  refine lv_iconst (v := 1) hx hb d_Bits_levelsOf_0 (by decide) ?_
  refine lv_istore_n (lv' := [(1, .int 1), (0, .int sg)]) hx hb d_Bits_levelsOf_1 rfl hl (by decide) rfl (fun ls hl => ?_)
  have J_2 : ∀ (n9_2 : Nat) (b2_0 : Int32) (hn9_2 : ((6 : Int32).toInt - b2_0.toInt).toNat = n9_2) (hi_2 : 0 ≤ b2_0.toInt) (hl1_9 : 1 ≤ b2_0.toInt) (hl6_9 : b2_0.toInt ≤ 6) (H : Heap) (locs : List Loc) (ls : Array Slot), va_P (dC, dI) vwCl [] H → va_D A [] → va_S A s.heap H locs → lv_has ls 2 [(1, .int b2_0), (0, .int sg)] → W p l e R s m args below meth c H locs 0 0 Q (F0 m 2 ls []) := by
    intro n9_2
    induction n9_2 using Nat.strongRecOn with
    | ind n9_2 ih9_2 =>
      intro b2_0 hn9_2 hi_2 hl1_9 hl6_9 H locs ls hP hD hS hl
      refine lv_iload_n hx hb d_Bits_levelsOf_2 rfl (lv_at hl 0 rfl) ?_
      refine lv_bipush (v := 6) hx hb d_Bits_levelsOf_3 (by decide) ?_
      refine lv_icmp_ge (tgt := 21) hx hb d_Bits_levelsOf_5 (by decide) (fun c_1 => ?_) (fun c_1 => ?_)
      · refine lv_iload_n hx hb d_Bits_levelsOf_21 rfl (lv_at hl 0 rfl) ?_
        exact my_iret (v := b2_0) hx hb hr (rfl) hlocks hQ hK hS (Nat.le_refl _) (Nat.le_refl _) () (⟨by first | assumption | (subst_vars; assumption), by first | assumption | (subst_vars; assumption)⟩) (hP.sub [] rfl) (hD.sub [] (by decide) rfl) d_Bits_levelsOf_22
      · refine lv_iconst (v := 1) hx hb d_Bits_levelsOf_8 (by decide) ?_
        refine lv_iload_n hx hb d_Bits_levelsOf_9 rfl (lv_at hl 0 rfl) ?_
        refine lv_ishl hx hb d_Bits_levelsOf_10 ?_
        refine lv_topi (fun v_2 ev_2 => ?_)
        refine lv_iload_n hx hb d_Bits_levelsOf_11 rfl (lv_at hl 1 rfl) ?_
        refine lv_icmp_ge (tgt := 21) hx hb d_Bits_levelsOf_12 (by decide) (fun c_3 => ?_) (fun c_3 => ?_)
        · refine lv_iload_n hx hb d_Bits_levelsOf_21 rfl (lv_at hl 0 rfl) ?_
          exact my_iret (v := b2_0) hx hb hr (rfl) hlocks hQ hK hS (Nat.le_refl _) (Nat.le_refl _) () (⟨by first | assumption | (subst_vars; assumption), by first | assumption | (subst_vars; assumption)⟩) (hP.sub [] rfl) (hD.sub [] (by decide) rfl) d_Bits_levelsOf_22
        · obtain ⟨v_4, ev_4⟩ : ∃ y : Int32, y = b2_0 + (1) := ⟨_, rfl⟩
          refine lv_iinc (v := v_4) (lv' := [(1, .int v_4), (0, .int sg)]) hx hb d_Bits_levelsOf_15 hl (k := 0) rfl (by rw [ev_4]; rfl) (by decide) rfl (fun ls hl => ?_)
          refine lv_goto (tgt := 2) hx hb d_Bits_levelsOf_18 (by decide) ?_
          exact ih9_2 _ (by first | omega | (have z9 := I_up c_1 ev_4; omega)) v_4 rfl (by have z9 := I_up c_1 ev_4; omega) (by have z9 := I_up c_1 ev_4; omega) (by have z9 := I_up c_1 ev_4; have e6 : (6 : Int32).toInt = 6 := rfl; omega) H locs ls (hP.sub [] rfl) (hD.sub [] (by decide) rfl) hS (lv_sub hl [0, 1] rfl)
  exact J_2 _ (1 : Int32) rfl (by first | decide | assumption | omega) (by decide) (by decide) H locs ls (hP.sub [] rfl) (hD.sub [] (by decide) rfl) hS (lv_sub hl [0, 1] rfl)
set_option maxHeartbeats 2000000 in
set_option maxRecDepth 100000 in
theorem c_Bits_Bits_prepare (l : Launch) (dC : Nat → ClassId) (dI : Nat → Nat → Nat) (cI cM cO : ClassId) (sz : Nat) (co : Nat) (xshift : Int32) (xkeptCode : Int64) (xkeptRange : Int64) (xkeptAsked : Int32) (xcache : Int32) (xpending : Int32) (xlow : Int64) (xrange : Int64) (xcode : Int64) (xreadLow : Int64) (xreadRange : Int64) (ri : Nat) (ro : Nat) (rw : Nat) (xasked : Int32) (oo : Nat) (osg : Int32) (osm : Int32) (ofc : Int32) (oca : Nat) (opa : Nat) (ol : Nat) (ocf : Nat → Int32) (opl : Nat) (opf : Nat → Int32) (ka : Nat) (kl : Nat) (kf : Nat → Int32) (hol : ol ≤ 64) (hopl : opl ≤ 512) (hkl : kl ≤ 64) : MetV l y_Bits_prepare (Cond.code y_Bits_prepare prog_2_method_3_code 3 none :: gw) ({ frames := 2, cells := 0, slots := 0, locals := 44 } : Room) (dC, dI) vwCl (kT cI cM cO) [.ref co, .ref oo, .ref ka] [(co, .inr (3, [.int xshift, .long xkeptCode, .long xkeptRange, .int xkeptAsked, .int xcache, .int xpending, .long xlow, .long xrange, .long xcode, .long xreadLow, .long xreadRange, .ref ri, .ref ro, .ref rw, .int xasked])), (oo, .inr (7, [.int osg, .int osm, .int ofc, .ref oca, .ref opa])), (oca, .inl (cI, ol, .inl ocf)), (opa, .inl (cI, opl, .inl opf)), (ka, .inl (cI, kl, .inl kf))] sz (fun (u : Int32 × (Nat → Int32)) => True) (fun (u : Int32 × (Nat → Int32)) => [(co, .inr (3, [.int xshift, .long xkeptCode, .long xkeptRange, .int xkeptAsked, .int xcache, .int xpending, .long xlow, .long xrange, .long xcode, .long xreadLow, .long xreadRange, .ref ri, .ref ro, .ref rw, .int xasked])), (oo, .inr (7, [.int osg, .int u.1, .int ofc, .ref oca, .ref opa])), (oca, .inl (cI, ol, .inl u.2)), (opa, .inl (cI, opl, .inl opf)), (ka, .inl (cI, kl, .inl kf))]) 0 0 := by
  refine my_ofV (cc := prog_2_method_3_code) (n := 3) (ret := none) (by decide) rfl (Nat.le_of_ble_eq_true rfl) ?_
  intro p e s m args below meth c R Q A ls H locs hx hb hr hts hown hlocks hml hnm hR hQ hA hl hP hK hN hD hS
  have hg : ∀ w ∈ gw, w.before args s = true := fun w h => hts w (List.mem_cons_of_mem _ h)
  have hown : s.vm.findClass "RangeCoders$Bits" = some m.cls := hown
  have hl : lv_has ls 3 [(0, .ref co), (1, .ref oo), (2, .ref ka)] := hl
  refine lv_aload_n hx hb d_Bits_prepare_0 rfl (lv_at hl 1 rfl) ?_
  refine lv_sipush (v := 1024) hx hb d_Bits_prepare_1 (by decide) ?_
  refine my_cv (wr := [(co, .inr (3, [.int xshift, .long xkeptCode, .long xkeptRange, .int xkeptAsked, .int xcache, .int xpending, .long xlow, .long xrange, .long xcode, .long xreadLow, .long xreadRange, .ref ri, .ref ro, .ref rw, .int xasked])), (ka, .inl (cI, kl, .inl kf))]) (va_runV (As := [.int 1024]) (rest := []) ⟨hx, hb, hml, hown, hts⟩ (c_Odds_fill l dC dI cI cM cO H.size oo osg osm ofc oca opa ol ocf opl opf 1024 (by first | assumption | omega) (by first | assumption | omega)) (cwV 1 hts (my_gV k359 k360 k361 k14 k362) rfl rfl rfl (by decide +kernel) ⟨by rw [hR]; exact Nat.le_of_ble_eq_true rfl, by rw [hR]; exact Nat.le_of_ble_eq_true rfl⟩) (my_preV hK hN (hP.sub [1, 2, 3] rfl) (hD.sub [1, 2, 3] (by decide) rfl) 0 rfl rfl) rfl rfl hl.1 rfl (lv_room (Nat.le_of_ble_eq_true rfl)) d_Bits_prepare_4 ⟨by rw [hR]; exact Nat.le_of_ble_eq_true rfl, by rw [hR]; exact Nat.le_of_ble_eq_true rfl⟩) hP hD hS hA [1, 2, 3] [0, 4] rfl rfl (by decide) (by decide) (fun u9 H locs hw_4 hP hD hS => ?_)
  obtain ⟨osmq_4, ocfq_4⟩ := u9
  have hP : va_P (dC, dI) vwCl [(co, .inr (3, [.int xshift, .long xkeptCode, .long xkeptRange, .int xkeptAsked, .int xcache, .int xpending, .long xlow, .long xrange, .long xcode, .long xreadLow, .long xreadRange, .ref ri, .ref ro, .ref rw, .int xasked])), (ka, .inl (cI, kl, .inl kf)), (oo, .inr (7, [.int osg, .int osmq_4, .int ofc, .ref oca, .ref opa])), (oca, .inl (cI, ol, .inl ocfq_4)), (opa, .inl (cI, opl, .inl opf))] H := hP
  have hD : va_D A [(co, .inr (3, [.int xshift, .long xkeptCode, .long xkeptRange, .int xkeptAsked, .int xcache, .int xpending, .long xlow, .long xrange, .long xcode, .long xreadLow, .long xreadRange, .ref ri, .ref ro, .ref rw, .int xasked])), (ka, .inl (cI, kl, .inl kf)), (oo, .inr (7, [.int osg, .int osmq_4, .int ofc, .ref oca, .ref opa])), (oca, .inl (cI, ol, .inl ocfq_4)), (opa, .inl (cI, opl, .inl opf))] := hD
  exact my_vret hx hb hr hlocks hQ hK hS (Nat.le_refl _) (Nat.le_refl _) (osmq_4, ocfq_4) (trivial) (hP.sub [0, 2, 3, 4, 1] rfl) (hD.sub [0, 2, 3, 4, 1] (by decide) rfl) d_Bits_prepare_7
set_option maxHeartbeats 2000000 in
set_option maxRecDepth 100000 in
theorem c_Bits_Bits_canWrite (l : Launch) (dC : Nat → ClassId) (dI : Nat → Nat → Nat) (cI cM cO : ClassId) (sz : Nat) (co : Nat) (xshift : Int32) (xkeptCode : Int64) (xkeptRange : Int64) (xkeptAsked : Int32) (xcache : Int32) (xpending : Int32) (xlow : Int64) (xrange : Int64) (xcode : Int64) (xreadLow : Int64) (xreadRange : Int64) (ri : Nat) (ro : Nat) (rw : Nat) (xasked : Int32) (oo : Nat) (osg : Int32) (osm : Int32) (ofc : Int32) (oca : Nat) (opa : Nat) (ol : Nat) (ocf : Nat → Int32) (opl : Nat) (opf : Nat → Int32) (ii : Int32) (hol : ol ≤ 64) (hopl : opl ≤ 512) : MetI l y_Bits_canWrite (Cond.code y_Bits_canWrite prog_2_method_4_code 3 (some .boolean) :: gw) ({ frames := 0, cells := 0, slots := 0, locals := 0 } : Room) (dC, dI) vwCl (kT cI cM cO) [.ref co, .ref oo, .int ii] [(co, .inr (3, [.int xshift, .long xkeptCode, .long xkeptRange, .int xkeptAsked, .int xcache, .int xpending, .long xlow, .long xrange, .long xcode, .long xreadLow, .long xreadRange, .ref ri, .ref ro, .ref rw, .int xasked])), (oo, .inr (7, [.int osg, .int osm, .int ofc, .ref oca, .ref opa])), (oca, .inl (cI, ol, .inl ocf)), (opa, .inl (cI, opl, .inl opf))] sz (fun (r : Int32) (u : Unit) => True) (fun (u : Unit) => [(co, .inr (3, [.int xshift, .long xkeptCode, .long xkeptRange, .int xkeptAsked, .int xcache, .int xpending, .long xlow, .long xrange, .long xcode, .long xreadLow, .long xreadRange, .ref ri, .ref ro, .ref rw, .int xasked])), (oo, .inr (7, [.int osg, .int osm, .int ofc, .ref oca, .ref opa])), (oca, .inl (cI, ol, .inl ocf)), (opa, .inl (cI, opl, .inl opf))]) 0 0 := by
  refine my_ofI (cc := prog_2_method_4_code) (n := 3) (ret := (some .boolean)) (by decide) rfl (Nat.le_of_ble_eq_true rfl) ?_
  intro p e s m args below meth c R Q A ls H locs hx hb hr hts hown hlocks hml hnm hR hQ hA hl hP hK hN hD hS
  have hg : ∀ w ∈ gw, w.before args s = true := fun w h => hts w (List.mem_cons_of_mem _ h)
  have hown : s.vm.findClass "RangeCoders$Bits" = some m.cls := hown
  have hl : lv_has ls 3 [(0, .ref co), (1, .ref oo), (2, .int ii)] := hl
  refine lv_iconst (v := 1) hx hb d_Bits_canWrite_0 (by decide) ?_
  exact my_iret (v := 1) hx hb hr (rfl) hlocks hQ hK hS (Nat.le_refl _) (Nat.le_refl _) () (trivial) (hP.sub [0, 1, 2, 3] rfl) (hD.sub [0, 1, 2, 3] (by decide) rfl) d_Bits_canWrite_1
set_option maxHeartbeats 2000000 in
set_option maxRecDepth 100000 in
theorem c_Bits_Bits_adapt (l : Launch) (dC : Nat → ClassId) (dI : Nat → Nat → Nat) (cI cM cO : ClassId) (sz : Nat) (co : Nat) (xshift : Int32) (xkeptCode : Int64) (xkeptRange : Int64) (xkeptAsked : Int32) (xcache : Int32) (xpending : Int32) (xlow : Int64) (xrange : Int64) (xcode : Int64) (xreadLow : Int64) (xreadRange : Int64) (ri : Nat) (ro : Nat) (rw : Nat) (xasked : Int32) (oo : Nat) (osg : Int32) (osm : Int32) (ofc : Int32) (oca : Nat) (opa : Nat) (ol : Nat) (ocf : Nat → Int32) (opl : Nat) (opf : Nat → Int32) (nd : Int32) (bt : Int32) (hol : ol ≤ 64) (hopl : opl ≤ 512) : MetV l y_Bits_adapt (Cond.code y_Bits_adapt prog_2_method_12_code 5 none :: gw) ({ frames := 2, cells := 0, slots := 0, locals := 43 } : Room) (dC, dI) vwCl (kT cI cM cO) [.ref co, .ref oo, .int nd, .int bt] [(co, .inr (3, [.int xshift, .long xkeptCode, .long xkeptRange, .int xkeptAsked, .int xcache, .int xpending, .long xlow, .long xrange, .long xcode, .long xreadLow, .long xreadRange, .ref ri, .ref ro, .ref rw, .int xasked])), (oo, .inr (7, [.int osg, .int osm, .int ofc, .ref oca, .ref opa])), (oca, .inl (cI, ol, .inl ocf)), (opa, .inl (cI, opl, .inl opf))] sz (fun (u : Int32 × (Nat → Int32)) => True) (fun (u : Int32 × (Nat → Int32)) => [(co, .inr (3, [.int xshift, .long xkeptCode, .long xkeptRange, .int xkeptAsked, .int xcache, .int xpending, .long xlow, .long xrange, .long xcode, .long xreadLow, .long xreadRange, .ref ri, .ref ro, .ref rw, .int xasked])), (oo, .inr (7, [.int osg, .int u.1, .int ofc, .ref oca, .ref opa])), (oca, .inl (cI, ol, .inl u.2)), (opa, .inl (cI, opl, .inl opf))]) 0 0 := by
  refine my_ofV (cc := prog_2_method_12_code) (n := 5) (ret := none) (by decide) rfl (Nat.le_of_ble_eq_true rfl) ?_
  intro p e s m args below meth c R Q A ls H locs hx hb hr hts hown hlocks hml hnm hR hQ hA hl hP hK hN hD hS
  have hg : ∀ w ∈ gw, w.before args s = true := fun w h => hts w (List.mem_cons_of_mem _ h)
  have hown : s.vm.findClass "RangeCoders$Bits" = some m.cls := hown
  have hl : lv_has ls 5 [(0, .ref co), (1, .ref oo), (2, .int nd), (3, .int bt)] := hl
  refine lv_aload_n hx hb d_Bits_adapt_0 rfl (lv_at hl 1 rfl) ?_
  refine lv_iload_n hx hb d_Bits_adapt_1 rfl (lv_at hl 2 rfl) ?_
  refine my_ci (wr := [(co, .inr (3, [.int xshift, .long xkeptCode, .long xkeptRange, .int xkeptAsked, .int xcache, .int xpending, .long xlow, .long xrange, .long xcode, .long xreadLow, .long xreadRange, .ref ri, .ref ro, .ref rw, .int xasked]))]) (va_runV (As := [.int nd]) (rest := []) ⟨hx, hb, hml, hown, hts⟩ (c_Odds_at l dC dI cI cM cO H.size oo osg osm ofc oca opa ol ocf opl opf nd (by first | assumption | omega) (by first | assumption | omega)) (cwV 1 hts (my_gV k449 k436 k437 k14 k438) rfl rfl rfl (by decide +kernel) ⟨by rw [hR]; exact Nat.le_of_ble_eq_true rfl, by rw [hR]; exact Nat.le_of_ble_eq_true rfl⟩) (my_preV hK hN (hP.sub [1, 2, 3] rfl) (hD.sub [1, 2, 3] (by decide) rfl) 0 rfl rfl) rfl rfl hl.1 rfl (lv_room (Nat.le_of_ble_eq_true rfl)) d_Bits_adapt_2 ⟨by rw [hR]; exact Nat.le_of_ble_eq_true rfl, by rw [hR]; exact Nat.le_of_ble_eq_true rfl⟩) hP hD hS hA [1, 2, 3] [0] rfl rfl (by decide) (by decide) (fun r_2 u9 H locs hw_2 hP hD hS => ?_)
  have hP : va_P (dC, dI) vwCl [(co, .inr (3, [.int xshift, .long xkeptCode, .long xkeptRange, .int xkeptAsked, .int xcache, .int xpending, .long xlow, .long xrange, .long xcode, .long xreadLow, .long xreadRange, .ref ri, .ref ro, .ref rw, .int xasked])), (oo, .inr (7, [.int osg, .int osm, .int ofc, .ref oca, .ref opa])), (oca, .inl (cI, ol, .inl ocf)), (opa, .inl (cI, opl, .inl opf))] H := hP
  have hD : va_D A [(co, .inr (3, [.int xshift, .long xkeptCode, .long xkeptRange, .int xkeptAsked, .int xcache, .int xpending, .long xlow, .long xrange, .long xcode, .long xreadLow, .long xreadRange, .ref ri, .ref ro, .ref rw, .int xasked])), (oo, .inr (7, [.int osg, .int osm, .int ofc, .ref oca, .ref opa])), (oca, .inl (cI, ol, .inl ocf)), (opa, .inl (cI, opl, .inl opf))] := hD
  refine lv_istore (lv' := [(4, .int r_2), (0, .ref co), (1, .ref oo), (2, .int nd), (3, .int bt)]) hx hb d_Bits_adapt_5 hl (by decide) rfl (fun ls hl => ?_)
  refine lv_aload_n hx hb d_Bits_adapt_7 rfl (lv_at hl 2 rfl) ?_
  refine lv_iload_n hx hb d_Bits_adapt_8 rfl (lv_at hl 3 rfl) ?_
  refine lv_iload_n hx hb d_Bits_adapt_9 rfl (lv_at hl 4 rfl) ?_
  refine lv_if_ne (tgt := 27) hx hb d_Bits_adapt_10 (by decide) (fun c_1 => ?_) (fun c_1 => ?_)
  · refine lv_iload hx hb d_Bits_adapt_27 (lv_at hl 0 rfl) ?_
    refine lv_aload_n hx hb d_Bits_adapt_29 rfl (lv_at hl 1 rfl) ?_
    refine va_get (D := (dC, dI)) (ci := 3) (v := .int xshift) (C := "RangeCoders$Bits") (T := T_Bits) (N := 15) hx hb hg in_Bits hown hK hP 0 rfl rfl 0 (by decide) (hg _ k176) (fun _ h9 => h9) rfl d_Bits_adapt_30 ?_
    refine lv_ishr hx hb d_Bits_adapt_33 ?_
    refine lv_topi (fun v_2 ev_2 => ?_)
    refine lv_ineg hx hb d_Bits_adapt_34 ?_
    refine lv_topi (fun v_3 ev_3 => ?_)
    refine my_cv (wr := [(co, .inr (3, [.int xshift, .long xkeptCode, .long xkeptRange, .int xkeptAsked, .int xcache, .int xpending, .long xlow, .long xrange, .long xcode, .long xreadLow, .long xreadRange, .ref ri, .ref ro, .ref rw, .int xasked]))]) (va_runV (As := [.int nd, .int v_3]) (rest := []) ⟨hx, hb, hml, hown, hts⟩ (c_Odds_grow l dC dI cI cM cO H.size oo osg osm ofc oca opa ol ocf opl opf nd v_3 (by first | assumption | omega) (by first | assumption | omega)) (cwV 2 hts (my_gV k454 k393 k394 k14 k395) rfl rfl rfl (by decide +kernel) ⟨by rw [hR]; exact Nat.le_of_ble_eq_true rfl, by rw [hR]; exact Nat.le_of_ble_eq_true rfl⟩) (my_preV hK hN (hP.sub [1, 2, 3] rfl) (hD.sub [1, 2, 3] (by decide) rfl) 0 rfl rfl) rfl rfl hl.1 rfl (lv_room (Nat.le_of_ble_eq_true rfl)) d_Bits_adapt_35 ⟨by rw [hR]; exact Nat.le_of_ble_eq_true rfl, by rw [hR]; exact Nat.le_of_ble_eq_true rfl⟩) hP hD hS hA [1, 2, 3] [0] rfl rfl (by decide) (by decide) (fun u9 H locs hw_35 hP hD hS => ?_)
    obtain ⟨osmq_35, ocfq_35⟩ := u9
    have hP : va_P (dC, dI) vwCl [(co, .inr (3, [.int xshift, .long xkeptCode, .long xkeptRange, .int xkeptAsked, .int xcache, .int xpending, .long xlow, .long xrange, .long xcode, .long xreadLow, .long xreadRange, .ref ri, .ref ro, .ref rw, .int xasked])), (oo, .inr (7, [.int osg, .int osmq_35, .int ofc, .ref oca, .ref opa])), (oca, .inl (cI, ol, .inl ocfq_35)), (opa, .inl (cI, opl, .inl opf))] H := hP
    have hD : va_D A [(co, .inr (3, [.int xshift, .long xkeptCode, .long xkeptRange, .int xkeptAsked, .int xcache, .int xpending, .long xlow, .long xrange, .long xcode, .long xreadLow, .long xreadRange, .ref ri, .ref ro, .ref rw, .int xasked])), (oo, .inr (7, [.int osg, .int osmq_35, .int ofc, .ref oca, .ref opa])), (oca, .inl (cI, ol, .inl ocfq_35)), (opa, .inl (cI, opl, .inl opf))] := hD
    exact my_vret hx hb hr hlocks hQ hK hS (Nat.le_refl _) (Nat.le_refl _) (osmq_35, ocfq_35) (trivial) (hP.sub [0, 1, 2, 3] rfl) (hD.sub [0, 1, 2, 3] (by decide) rfl) d_Bits_adapt_38
  · refine lv_sipush (v := 2048) hx hb d_Bits_adapt_13 (by decide) ?_
    refine lv_iload hx hb d_Bits_adapt_16 (lv_at hl 0 rfl) ?_
    refine lv_isub hx hb d_Bits_adapt_18 ?_
    refine lv_topi (fun v_4 ev_4 => ?_)
    refine lv_aload_n hx hb d_Bits_adapt_19 rfl (lv_at hl 1 rfl) ?_
    refine va_get (D := (dC, dI)) (ci := 3) (v := .int xshift) (C := "RangeCoders$Bits") (T := T_Bits) (N := 15) hx hb hg in_Bits hown hK hP 0 rfl rfl 0 (by decide) (hg _ k176) (fun _ h9 => h9) rfl d_Bits_adapt_20 ?_
    refine lv_ishr hx hb d_Bits_adapt_23 ?_
    refine lv_topi (fun v_5 ev_5 => ?_)
    refine lv_goto (tgt := 35) hx hb d_Bits_adapt_24 (by decide) ?_
    refine my_cv (wr := [(co, .inr (3, [.int xshift, .long xkeptCode, .long xkeptRange, .int xkeptAsked, .int xcache, .int xpending, .long xlow, .long xrange, .long xcode, .long xreadLow, .long xreadRange, .ref ri, .ref ro, .ref rw, .int xasked]))]) (va_runV (As := [.int nd, .int v_5]) (rest := []) ⟨hx, hb, hml, hown, hts⟩ (c_Odds_grow l dC dI cI cM cO H.size oo osg osm ofc oca opa ol ocf opl opf nd v_5 (by first | assumption | omega) (by first | assumption | omega)) (cwV 2 hts (my_gV k454 k393 k394 k14 k395) rfl rfl rfl (by decide +kernel) ⟨by rw [hR]; exact Nat.le_of_ble_eq_true rfl, by rw [hR]; exact Nat.le_of_ble_eq_true rfl⟩) (my_preV hK hN (hP.sub [1, 2, 3] rfl) (hD.sub [1, 2, 3] (by decide) rfl) 0 rfl rfl) rfl rfl hl.1 rfl (lv_room (Nat.le_of_ble_eq_true rfl)) d_Bits_adapt_35 ⟨by rw [hR]; exact Nat.le_of_ble_eq_true rfl, by rw [hR]; exact Nat.le_of_ble_eq_true rfl⟩) hP hD hS hA [1, 2, 3] [0] rfl rfl (by decide) (by decide) (fun u9 H locs hw_35 hP hD hS => ?_)
    obtain ⟨osmq_35, ocfq_35⟩ := u9
    have hP : va_P (dC, dI) vwCl [(co, .inr (3, [.int xshift, .long xkeptCode, .long xkeptRange, .int xkeptAsked, .int xcache, .int xpending, .long xlow, .long xrange, .long xcode, .long xreadLow, .long xreadRange, .ref ri, .ref ro, .ref rw, .int xasked])), (oo, .inr (7, [.int osg, .int osmq_35, .int ofc, .ref oca, .ref opa])), (oca, .inl (cI, ol, .inl ocfq_35)), (opa, .inl (cI, opl, .inl opf))] H := hP
    have hD : va_D A [(co, .inr (3, [.int xshift, .long xkeptCode, .long xkeptRange, .int xkeptAsked, .int xcache, .int xpending, .long xlow, .long xrange, .long xcode, .long xreadLow, .long xreadRange, .ref ri, .ref ro, .ref rw, .int xasked])), (oo, .inr (7, [.int osg, .int osmq_35, .int ofc, .ref oca, .ref opa])), (oca, .inl (cI, ol, .inl ocfq_35)), (opa, .inl (cI, opl, .inl opf))] := hD
    exact my_vret hx hb hr hlocks hQ hK hS (Nat.le_refl _) (Nat.le_refl _) (osmq_35, ocfq_35) (trivial) (hP.sub [0, 1, 2, 3] rfl) (hD.sub [0, 1, 2, 3] (by decide) rfl) d_Bits_adapt_38
set_option maxHeartbeats 2000000 in
set_option maxRecDepth 100000 in
theorem c_Bits_Bits_writeBit (l : Launch) (dC : Nat → ClassId) (dI : Nat → Nat → Nat) (cI cM cO : ClassId) (sz : Nat) (sl : Nat) (co : Nat) (xshift : Int32) (xkeptCode : Int64) (xkeptRange : Int64) (xkeptAsked : Int32) (xcache : Int32) (xpending : Int32) (xlow : Int64) (xrange : Int64) (xcode : Int64) (xreadLow : Int64) (xreadRange : Int64) (ri : Nat) (ro : Nat) (rw : Nat) (xasked : Int32) (rwn : Int32) (rwa : Nat) (rwk : Nat) (rwf : Nat → Int32) (oo : Nat) (osg : Int32) (osm : Int32) (ofc : Int32) (oca : Nat) (opa : Nat) (ol : Nat) (ocf : Nat → Int32) (opl : Nat) (opf : Nat → Int32) (nd : Int32) (bt : Int32) (hrw : rOk rwn rwk) (hol : ol ≤ 64) (hopl : opl ≤ 512) : MetVg l y_Bits_writeBit (Cond.code y_Bits_writeBit prog_2_method_10_code 6 none :: gw) ({ frames := 6, cells := rPh rwk, slots := rPh rwk, locals := 146 } : Room) (dC, dI) vwCl (kT cI cM cO) [.ref co, .ref oo, .int nd, .int bt] [(co, .inr (3, [.int xshift, .long xkeptCode, .long xkeptRange, .int xkeptAsked, .int xcache, .int xpending, .long xlow, .long xrange, .long xcode, .long xreadLow, .long xreadRange, .ref ri, .ref ro, .ref rw, .int xasked])), (rw, .inr (0, [.int rwn, .ref rwa])), (rwa, .inl (cI, rwk, .inl rwf)), (oo, .inr (7, [.int osg, .int osm, .int ofc, .ref oca, .ref opa])), (oca, .inl (cI, ol, .inl ocf)), (opa, .inl (cI, opl, .inl opf))] sz sl (fun (u : Int32 × Int32 × Int64 × Int64 × Int32 × Nat × Nat × (Nat → Int32) × Int32 × (Nat → Int32)) => rOk u.2.2.2.2.1 u.2.2.2.2.2.2.1) (fun (u : Int32 × Int32 × Int64 × Int64 × Int32 × Nat × Nat × (Nat → Int32) × Int32 × (Nat → Int32)) => [(co, .inr (3, [.int xshift, .long xkeptCode, .long xkeptRange, .int xkeptAsked, .int u.1, .int u.2.1, .long u.2.2.1, .long u.2.2.2.1, .long xcode, .long xreadLow, .long xreadRange, .ref ri, .ref ro, .ref rw, .int xasked])), (rw, .inr (0, [.int u.2.2.2.2.1, .ref u.2.2.2.2.2.1])), (u.2.2.2.2.2.1, .inl (cI, u.2.2.2.2.2.2.1, .inl u.2.2.2.2.2.2.2.1)), (oo, .inr (7, [.int osg, .int u.2.2.2.2.2.2.2.2.1, .int ofc, .ref oca, .ref opa])), (oca, .inl (cI, ol, .inl u.2.2.2.2.2.2.2.2.2)), (opa, .inl (cI, opl, .inl opf))]) (rPh rwk) (fun (u : Int32 × Int32 × Int64 × Int64 × Int32 × Nat × Nat × (Nat → Int32) × Int32 × (Nat → Int32)) => rPh u.2.2.2.2.2.2.1) := by
  refine my_ofVg (cc := prog_2_method_10_code) (n := 6) (ret := none) (by decide) rfl (Nat.le_of_ble_eq_true rfl) ?_
  intro p e s m args below meth c R Q A ls H locs hx hb hr hts hown hlocks hml hnm hR hQ hA hl hP hK hN hD hS
  have hg : ∀ w ∈ gw, w.before args s = true := fun w h => hts w (List.mem_cons_of_mem _ h)
  have hown : s.vm.findClass "RangeCoders$Bits" = some m.cls := hown
  have hl : lv_has ls 6 [(0, .ref co), (1, .ref oo), (2, .int nd), (3, .int bt)] := hl
  have hlt_hrw := rOk_lt hrw
  refine lv_aload_n hx hb d_Bits_writeBit_0 rfl (lv_at hl 0 rfl) ?_
  refine va_get (D := (dC, dI)) (ci := 3) (v := .long xrange) (C := "RangeCoders$Bits") (T := T_Bits) (N := 15) hx hb hg in_Bits hown hK hP 0 rfl rfl 7 (by decide) (hg _ k82) (fun x9 h9 => u_same (hg _ k83) x9 h9) rfl d_Bits_writeBit_1 ?_
  refine lv_bipush (v := 11) hx hb d_Bits_writeBit_4 (by decide) ?_
  refine lv_lushr hx hb d_Bits_writeBit_6 rfl ?_
  refine lv_topl (fun v_1 ev_1 => ?_)
  refine lv_aload_n hx hb d_Bits_writeBit_7 rfl (lv_at hl 1 rfl) ?_
  refine lv_iload_n hx hb d_Bits_writeBit_8 rfl (lv_at hl 2 rfl) ?_
  refine my_ci (wr := [(co, .inr (3, [.int xshift, .long xkeptCode, .long xkeptRange, .int xkeptAsked, .int xcache, .int xpending, .long xlow, .long xrange, .long xcode, .long xreadLow, .long xreadRange, .ref ri, .ref ro, .ref rw, .int xasked])), (rw, .inr (0, [.int rwn, .ref rwa])), (rwa, .inl (cI, rwk, .inl rwf))]) (va_runV (As := [.int nd]) (rest := [.long v_1]) ⟨hx, hb, hml, hown, hts⟩ (c_Odds_at l dC dI cI cM cO H.size oo osg osm ofc oca opa ol ocf opl opf nd (by first | assumption | omega) (by first | assumption | omega)) (cwV 1 hts (my_gV k449 k436 k437 k14 k438) rfl rfl rfl (by decide +kernel) ⟨by rw [hR]; exact Nat.le_of_ble_eq_true rfl, by rw [hR]; exact Nat.le_of_ble_eq_true rfl⟩) (my_preV hK hN (hP.sub [3, 4, 5] rfl) (hD.sub [3, 4, 5] (by decide) rfl) 0 rfl rfl) rfl rfl hl.1 rfl (lv_room (Nat.le_of_ble_eq_true rfl)) d_Bits_writeBit_9 ⟨by rw [hR]; exact (show 0 + 0 ≤ (rPh rwk) by omega), by rw [hR]; exact (show 0 + 0 ≤ (rPh rwk) by omega)⟩) hP hD hS hA [3, 4, 5] [0, 1, 2] rfl rfl (by decide) (by decide) (fun r_9 u9 H locs hw_9 hP hD hS => ?_)
  have hP : va_P (dC, dI) vwCl [(co, .inr (3, [.int xshift, .long xkeptCode, .long xkeptRange, .int xkeptAsked, .int xcache, .int xpending, .long xlow, .long xrange, .long xcode, .long xreadLow, .long xreadRange, .ref ri, .ref ro, .ref rw, .int xasked])), (rw, .inr (0, [.int rwn, .ref rwa])), (rwa, .inl (cI, rwk, .inl rwf)), (oo, .inr (7, [.int osg, .int osm, .int ofc, .ref oca, .ref opa])), (oca, .inl (cI, ol, .inl ocf)), (opa, .inl (cI, opl, .inl opf))] H := hP
  have hD : va_D A [(co, .inr (3, [.int xshift, .long xkeptCode, .long xkeptRange, .int xkeptAsked, .int xcache, .int xpending, .long xlow, .long xrange, .long xcode, .long xreadLow, .long xreadRange, .ref ri, .ref ro, .ref rw, .int xasked])), (rw, .inr (0, [.int rwn, .ref rwa])), (rwa, .inl (cI, rwk, .inl rwf)), (oo, .inr (7, [.int osg, .int osm, .int ofc, .ref oca, .ref opa])), (oca, .inl (cI, ol, .inl ocf)), (opa, .inl (cI, opl, .inl opf))] := hD
  refine lv_i2l hx hb d_Bits_writeBit_12 rfl ?_
  refine lv_topl (fun v_2 ev_2 => ?_)
  refine lv_lmul hx hb d_Bits_writeBit_13 ?_
  refine lv_topl (fun v_3 ev_3 => ?_)
  refine lv_lstore (lv' := [(4, .long v_3), (0, .ref co), (1, .ref oo), (2, .int nd), (3, .int bt)]) hx hb d_Bits_writeBit_14 hl (by decide) rfl (fun ls hl => ?_)
  refine lv_iload_n hx hb d_Bits_writeBit_16 rfl (lv_at hl 4 rfl) ?_
  refine lv_if_ne (tgt := 29) hx hb d_Bits_writeBit_17 (by decide) (fun c_4 => ?_) (fun c_4 => ?_)
  · refine lv_aload_n hx hb d_Bits_writeBit_29 rfl (lv_at hl 1 rfl) ?_
    refine lv_dup hx hb d_Bits_writeBit_30 rfl ?_
    refine va_get (D := (dC, dI)) (ci := 3) (v := .long xlow) (C := "RangeCoders$Bits") (T := T_Bits) (N := 15) hx hb hg in_Bits hown hK hP 0 rfl rfl 6 (by decide) (hg _ k75) (fun x9 h9 => u_same (hg _ k76) x9 h9) rfl d_Bits_writeBit_31 ?_
    refine lv_lload hx hb d_Bits_writeBit_34 (lv_at hl 0 rfl) ?_
    refine lv_ladd hx hb d_Bits_writeBit_36 ?_
    refine lv_topl (fun v_5 ev_5 => ?_)
    refine va_put (D := (dC, dI)) (ci := 3) (v := .long v_5) (ty := .long) (C := "RangeCoders$Bits") (T := T_Bits) (N := 15) hx hb hg in_Bits t_Bits o_Bits n_Bits hown hK hP hD hS 0 rfl rfl 6 (by decide) (hg _ k75) (fun x9 h9 => u_same (hg _ k76) x9 h9) rfl (by decide +kernel) rfl rfl (Nat.le_of_ble_eq_true rfl) d_Bits_writeBit_37 (fun H locs hP hD hS => ?_)
    have hP : va_P (dC, dI) vwCl [(co, .inr (3, [.int xshift, .long xkeptCode, .long xkeptRange, .int xkeptAsked, .int xcache, .int xpending, .long v_5, .long xrange, .long xcode, .long xreadLow, .long xreadRange, .ref ri, .ref ro, .ref rw, .int xasked])), (rw, .inr (0, [.int rwn, .ref rwa])), (rwa, .inl (cI, rwk, .inl rwf)), (oo, .inr (7, [.int osg, .int osm, .int ofc, .ref oca, .ref opa])), (oca, .inl (cI, ol, .inl ocf)), (opa, .inl (cI, opl, .inl opf))] H := hP
    have hD : va_D A [(co, .inr (3, [.int xshift, .long xkeptCode, .long xkeptRange, .int xkeptAsked, .int xcache, .int xpending, .long v_5, .long xrange, .long xcode, .long xreadLow, .long xreadRange, .ref ri, .ref ro, .ref rw, .int xasked])), (rw, .inr (0, [.int rwn, .ref rwa])), (rwa, .inl (cI, rwk, .inl rwf)), (oo, .inr (7, [.int osg, .int osm, .int ofc, .ref oca, .ref opa])), (oca, .inl (cI, ol, .inl ocf)), (opa, .inl (cI, opl, .inl opf))] := hD
    refine lv_aload_n hx hb d_Bits_writeBit_40 rfl (lv_at hl 1 rfl) ?_
    refine lv_dup hx hb d_Bits_writeBit_41 rfl ?_
    refine va_get (D := (dC, dI)) (ci := 3) (v := .long xrange) (C := "RangeCoders$Bits") (T := T_Bits) (N := 15) hx hb hg in_Bits hown hK hP 0 rfl rfl 7 (by decide) (hg _ k82) (fun x9 h9 => u_same (hg _ k83) x9 h9) rfl d_Bits_writeBit_42 ?_
    refine lv_lload hx hb d_Bits_writeBit_45 (lv_at hl 0 rfl) ?_
    refine lv_lsub hx hb d_Bits_writeBit_47 ?_
    refine lv_topl (fun v_6 ev_6 => ?_)
    refine va_put (D := (dC, dI)) (ci := 3) (v := .long v_6) (ty := .long) (C := "RangeCoders$Bits") (T := T_Bits) (N := 15) hx hb hg in_Bits t_Bits o_Bits n_Bits hown hK hP hD hS 0 rfl rfl 7 (by decide) (hg _ k82) (fun x9 h9 => u_same (hg _ k83) x9 h9) rfl (by decide +kernel) rfl rfl (Nat.le_of_ble_eq_true rfl) d_Bits_writeBit_48 (fun H locs hP hD hS => ?_)
    have hP : va_P (dC, dI) vwCl [(co, .inr (3, [.int xshift, .long xkeptCode, .long xkeptRange, .int xkeptAsked, .int xcache, .int xpending, .long v_5, .long v_6, .long xcode, .long xreadLow, .long xreadRange, .ref ri, .ref ro, .ref rw, .int xasked])), (rw, .inr (0, [.int rwn, .ref rwa])), (rwa, .inl (cI, rwk, .inl rwf)), (oo, .inr (7, [.int osg, .int osm, .int ofc, .ref oca, .ref opa])), (oca, .inl (cI, ol, .inl ocf)), (opa, .inl (cI, opl, .inl opf))] H := hP
    have hD : va_D A [(co, .inr (3, [.int xshift, .long xkeptCode, .long xkeptRange, .int xkeptAsked, .int xcache, .int xpending, .long v_5, .long v_6, .long xcode, .long xreadLow, .long xreadRange, .ref ri, .ref ro, .ref rw, .int xasked])), (rw, .inr (0, [.int rwn, .ref rwa])), (rwa, .inl (cI, rwk, .inl rwf)), (oo, .inr (7, [.int osg, .int osm, .int ofc, .ref oca, .ref opa])), (oca, .inl (cI, ol, .inl ocf)), (opa, .inl (cI, opl, .inl opf))] := hD
    refine lv_aload_n hx hb d_Bits_writeBit_51 rfl (lv_at hl 1 rfl) ?_
    refine lv_aload_n hx hb d_Bits_writeBit_52 rfl (lv_at hl 2 rfl) ?_
    refine lv_iload_n hx hb d_Bits_writeBit_53 rfl (lv_at hl 3 rfl) ?_
    refine lv_iload_n hx hb d_Bits_writeBit_54 rfl (lv_at hl 4 rfl) ?_
    refine my_cv (wr := [(rw, .inr (0, [.int rwn, .ref rwa])), (rwa, .inl (cI, rwk, .inl rwf))]) (va_runV (As := [.ref oo, .int nd, .int bt]) (rest := []) ⟨hx, hb, hml, hown, hts⟩ (c_Bits_Bits_adapt l dC dI cI cM cO H.size co xshift xkeptCode xkeptRange xkeptAsked xcache xpending v_5 v_6 xcode xreadLow xreadRange ri ro rw xasked oo osg osm ofc oca opa ol ocf opl opf nd bt (by first | assumption | omega) (by first | assumption | omega)) (cwV 3 hts (my_gV k450 k452 ks5 k8 k453) rfl rfl rfl (by decide +kernel) ⟨by rw [hR]; exact Nat.le_of_ble_eq_true rfl, by rw [hR]; exact Nat.le_of_ble_eq_true rfl⟩) (my_preV hK hN (hP.sub [0, 3, 4, 5] rfl) (hD.sub [0, 3, 4, 5] (by decide) rfl) 0 rfl rfl) rfl rfl hl.1 rfl (lv_room (Nat.le_of_ble_eq_true rfl)) d_Bits_writeBit_55 ⟨by rw [hR]; exact (show 0 + 0 ≤ (rPh rwk) by omega), by rw [hR]; exact (show 0 + 0 ≤ (rPh rwk) by omega)⟩) hP hD hS hA [0, 3, 4, 5] [1, 2] rfl rfl (by decide) (by decide) (fun u9 H locs hw_55 hP hD hS => ?_)
    obtain ⟨osmq_55, ocfq_55⟩ := u9
    have hP : va_P (dC, dI) vwCl [(rw, .inr (0, [.int rwn, .ref rwa])), (rwa, .inl (cI, rwk, .inl rwf)), (co, .inr (3, [.int xshift, .long xkeptCode, .long xkeptRange, .int xkeptAsked, .int xcache, .int xpending, .long v_5, .long v_6, .long xcode, .long xreadLow, .long xreadRange, .ref ri, .ref ro, .ref rw, .int xasked])), (oo, .inr (7, [.int osg, .int osmq_55, .int ofc, .ref oca, .ref opa])), (oca, .inl (cI, ol, .inl ocfq_55)), (opa, .inl (cI, opl, .inl opf))] H := hP
    have hD : va_D A [(rw, .inr (0, [.int rwn, .ref rwa])), (rwa, .inl (cI, rwk, .inl rwf)), (co, .inr (3, [.int xshift, .long xkeptCode, .long xkeptRange, .int xkeptAsked, .int xcache, .int xpending, .long v_5, .long v_6, .long xcode, .long xreadLow, .long xreadRange, .ref ri, .ref ro, .ref rw, .int xasked])), (oo, .inr (7, [.int osg, .int osmq_55, .int ofc, .ref oca, .ref opa])), (oca, .inl (cI, ol, .inl ocfq_55)), (opa, .inl (cI, opl, .inl opf))] := hD
    refine lv_aload_n hx hb d_Bits_writeBit_58 rfl (lv_at hl 1 rfl) ?_
    refine my_cvg (wr := [(oo, .inr (7, [.int osg, .int osmq_55, .int ofc, .ref oca, .ref opa])), (oca, .inl (cI, ol, .inl ocfq_55)), (opa, .inl (cI, opl, .inl opf))]) (va_runU (As := []) (rest := []) ⟨hx, hb, hml, hown, hts⟩ (c_Bits_Carries_widen l dC dI cI cM cO H.size (hSl H) co xshift xkeptCode xkeptRange xkeptAsked xcache xpending v_5 v_6 xcode xreadLow xreadRange ri ro rw xasked rwn rwa rwk rwf (by first | assumption | omega)) (va_cwU 0 hts (my_gU k455 k456 k458 k459 k5 k460) rfl rfl rfl rfl (by decide +kernel) ⟨by rw [hR]; exact Nat.le_of_ble_eq_true rfl, by rw [hR]; exact Nat.le_of_ble_eq_true rfl⟩) (my_preVg hK hN (hP.sub [2, 0, 1] rfl) (hD.sub [2, 0, 1] (by decide) rfl) 0 rfl rfl) rfl rfl hl.1 rfl (lv_room (Nat.le_of_ble_eq_true rfl)) d_Bits_writeBit_59 ⟨by rw [hR]; exact (show 0 + (rPh rwk) ≤ (rPh rwk) by omega), by rw [hR]; exact (show 0 + (rPh rwk) ≤ (rPh rwk) by omega)⟩) hP hD hS hA [2, 0, 1] [3, 4, 5] rfl rfl (by decide) (by decide) (fun u9 d_59 H locs hd_59 hw_59 hP hD hS => ?_)
    obtain ⟨xcacheq_59, xpendingq_59, xlowq_59, xrangeq_59, rwnq_59, rwaq_59, rwkq_59, rwfq_59⟩ := u9
    have hrw_59 : rOk rwnq_59 rwkq_59 := hw_59
    have hd_59 : d_59 + (rPh rwkq_59) ≤ (rPh rwk) := hd_59
    have hP : va_P (dC, dI) vwCl [(oo, .inr (7, [.int osg, .int osmq_55, .int ofc, .ref oca, .ref opa])), (oca, .inl (cI, ol, .inl ocfq_55)), (opa, .inl (cI, opl, .inl opf)), (co, .inr (3, [.int xshift, .long xkeptCode, .long xkeptRange, .int xkeptAsked, .int xcacheq_59, .int xpendingq_59, .long xlowq_59, .long xrangeq_59, .long xcode, .long xreadLow, .long xreadRange, .ref ri, .ref ro, .ref rw, .int xasked])), (rw, .inr (0, [.int rwnq_59, .ref rwaq_59])), (rwaq_59, .inl (cI, rwkq_59, .inl rwfq_59))] H := hP
    have hD : va_D A [(oo, .inr (7, [.int osg, .int osmq_55, .int ofc, .ref oca, .ref opa])), (oca, .inl (cI, ol, .inl ocfq_55)), (opa, .inl (cI, opl, .inl opf)), (co, .inr (3, [.int xshift, .long xkeptCode, .long xkeptRange, .int xkeptAsked, .int xcacheq_59, .int xpendingq_59, .long xlowq_59, .long xrangeq_59, .long xcode, .long xreadLow, .long xreadRange, .ref ri, .ref ro, .ref rw, .int xasked])), (rw, .inr (0, [.int rwnq_59, .ref rwaq_59])), (rwaq_59, .inl (cI, rwkq_59, .inl rwfq_59))] := hD
    exact my_vretg hx hb hr hlocks hQ hK hS (xcacheq_59, xpendingq_59, xlowq_59, xrangeq_59, rwnq_59, rwaq_59, rwkq_59, rwfq_59, osmq_55, ocfq_55) (show (0 + d_59) + (rPh rwkq_59) ≤ (rPh rwk) by omega) (show (0 + d_59) + (rPh rwkq_59) ≤ (rPh rwk) by omega) (by first | assumption | (subst_vars; assumption)) (hP.sub [3, 4, 5, 0, 1, 2] rfl) (hD.sub [3, 4, 5, 0, 1, 2] (by decide) rfl) d_Bits_writeBit_62
  · refine lv_aload_n hx hb d_Bits_writeBit_20 rfl (lv_at hl 1 rfl) ?_
    refine lv_lload hx hb d_Bits_writeBit_21 (lv_at hl 0 rfl) ?_
    refine va_put (D := (dC, dI)) (ci := 3) (v := .long v_3) (ty := .long) (C := "RangeCoders$Bits") (T := T_Bits) (N := 15) hx hb hg in_Bits t_Bits o_Bits n_Bits hown hK hP hD hS 0 rfl rfl 7 (by decide) (hg _ k82) (fun x9 h9 => u_same (hg _ k83) x9 h9) rfl (by decide +kernel) rfl rfl (Nat.le_of_ble_eq_true rfl) d_Bits_writeBit_23 (fun H locs hP hD hS => ?_)
    have hP : va_P (dC, dI) vwCl [(co, .inr (3, [.int xshift, .long xkeptCode, .long xkeptRange, .int xkeptAsked, .int xcache, .int xpending, .long xlow, .long v_3, .long xcode, .long xreadLow, .long xreadRange, .ref ri, .ref ro, .ref rw, .int xasked])), (rw, .inr (0, [.int rwn, .ref rwa])), (rwa, .inl (cI, rwk, .inl rwf)), (oo, .inr (7, [.int osg, .int osm, .int ofc, .ref oca, .ref opa])), (oca, .inl (cI, ol, .inl ocf)), (opa, .inl (cI, opl, .inl opf))] H := hP
    have hD : va_D A [(co, .inr (3, [.int xshift, .long xkeptCode, .long xkeptRange, .int xkeptAsked, .int xcache, .int xpending, .long xlow, .long v_3, .long xcode, .long xreadLow, .long xreadRange, .ref ri, .ref ro, .ref rw, .int xasked])), (rw, .inr (0, [.int rwn, .ref rwa])), (rwa, .inl (cI, rwk, .inl rwf)), (oo, .inr (7, [.int osg, .int osm, .int ofc, .ref oca, .ref opa])), (oca, .inl (cI, ol, .inl ocf)), (opa, .inl (cI, opl, .inl opf))] := hD
    refine lv_goto (tgt := 51) hx hb d_Bits_writeBit_26 (by decide) ?_
    refine lv_aload_n hx hb d_Bits_writeBit_51 rfl (lv_at hl 1 rfl) ?_
    refine lv_aload_n hx hb d_Bits_writeBit_52 rfl (lv_at hl 2 rfl) ?_
    refine lv_iload_n hx hb d_Bits_writeBit_53 rfl (lv_at hl 3 rfl) ?_
    refine lv_iload_n hx hb d_Bits_writeBit_54 rfl (lv_at hl 4 rfl) ?_
    refine my_cv (wr := [(rw, .inr (0, [.int rwn, .ref rwa])), (rwa, .inl (cI, rwk, .inl rwf))]) (va_runV (As := [.ref oo, .int nd, .int bt]) (rest := []) ⟨hx, hb, hml, hown, hts⟩ (c_Bits_Bits_adapt l dC dI cI cM cO H.size co xshift xkeptCode xkeptRange xkeptAsked xcache xpending xlow v_3 xcode xreadLow xreadRange ri ro rw xasked oo osg osm ofc oca opa ol ocf opl opf nd bt (by first | assumption | omega) (by first | assumption | omega)) (cwV 3 hts (my_gV k450 k452 ks5 k8 k453) rfl rfl rfl (by decide +kernel) ⟨by rw [hR]; exact Nat.le_of_ble_eq_true rfl, by rw [hR]; exact Nat.le_of_ble_eq_true rfl⟩) (my_preV hK hN (hP.sub [0, 3, 4, 5] rfl) (hD.sub [0, 3, 4, 5] (by decide) rfl) 0 rfl rfl) rfl rfl hl.1 rfl (lv_room (Nat.le_of_ble_eq_true rfl)) d_Bits_writeBit_55 ⟨by rw [hR]; exact (show 0 + 0 ≤ (rPh rwk) by omega), by rw [hR]; exact (show 0 + 0 ≤ (rPh rwk) by omega)⟩) hP hD hS hA [0, 3, 4, 5] [1, 2] rfl rfl (by decide) (by decide) (fun u9 H locs hw_55 hP hD hS => ?_)
    obtain ⟨osmq_55, ocfq_55⟩ := u9
    have hP : va_P (dC, dI) vwCl [(rw, .inr (0, [.int rwn, .ref rwa])), (rwa, .inl (cI, rwk, .inl rwf)), (co, .inr (3, [.int xshift, .long xkeptCode, .long xkeptRange, .int xkeptAsked, .int xcache, .int xpending, .long xlow, .long v_3, .long xcode, .long xreadLow, .long xreadRange, .ref ri, .ref ro, .ref rw, .int xasked])), (oo, .inr (7, [.int osg, .int osmq_55, .int ofc, .ref oca, .ref opa])), (oca, .inl (cI, ol, .inl ocfq_55)), (opa, .inl (cI, opl, .inl opf))] H := hP
    have hD : va_D A [(rw, .inr (0, [.int rwn, .ref rwa])), (rwa, .inl (cI, rwk, .inl rwf)), (co, .inr (3, [.int xshift, .long xkeptCode, .long xkeptRange, .int xkeptAsked, .int xcache, .int xpending, .long xlow, .long v_3, .long xcode, .long xreadLow, .long xreadRange, .ref ri, .ref ro, .ref rw, .int xasked])), (oo, .inr (7, [.int osg, .int osmq_55, .int ofc, .ref oca, .ref opa])), (oca, .inl (cI, ol, .inl ocfq_55)), (opa, .inl (cI, opl, .inl opf))] := hD
    refine lv_aload_n hx hb d_Bits_writeBit_58 rfl (lv_at hl 1 rfl) ?_
    refine my_cvg (wr := [(oo, .inr (7, [.int osg, .int osmq_55, .int ofc, .ref oca, .ref opa])), (oca, .inl (cI, ol, .inl ocfq_55)), (opa, .inl (cI, opl, .inl opf))]) (va_runU (As := []) (rest := []) ⟨hx, hb, hml, hown, hts⟩ (c_Bits_Carries_widen l dC dI cI cM cO H.size (hSl H) co xshift xkeptCode xkeptRange xkeptAsked xcache xpending xlow v_3 xcode xreadLow xreadRange ri ro rw xasked rwn rwa rwk rwf (by first | assumption | omega)) (va_cwU 0 hts (my_gU k455 k456 k458 k459 k5 k460) rfl rfl rfl rfl (by decide +kernel) ⟨by rw [hR]; exact Nat.le_of_ble_eq_true rfl, by rw [hR]; exact Nat.le_of_ble_eq_true rfl⟩) (my_preVg hK hN (hP.sub [2, 0, 1] rfl) (hD.sub [2, 0, 1] (by decide) rfl) 0 rfl rfl) rfl rfl hl.1 rfl (lv_room (Nat.le_of_ble_eq_true rfl)) d_Bits_writeBit_59 ⟨by rw [hR]; exact (show 0 + (rPh rwk) ≤ (rPh rwk) by omega), by rw [hR]; exact (show 0 + (rPh rwk) ≤ (rPh rwk) by omega)⟩) hP hD hS hA [2, 0, 1] [3, 4, 5] rfl rfl (by decide) (by decide) (fun u9 d_59 H locs hd_59 hw_59 hP hD hS => ?_)
    obtain ⟨xcacheq_59, xpendingq_59, xlowq_59, xrangeq_59, rwnq_59, rwaq_59, rwkq_59, rwfq_59⟩ := u9
    have hrw_59 : rOk rwnq_59 rwkq_59 := hw_59
    have hd_59 : d_59 + (rPh rwkq_59) ≤ (rPh rwk) := hd_59
    have hP : va_P (dC, dI) vwCl [(oo, .inr (7, [.int osg, .int osmq_55, .int ofc, .ref oca, .ref opa])), (oca, .inl (cI, ol, .inl ocfq_55)), (opa, .inl (cI, opl, .inl opf)), (co, .inr (3, [.int xshift, .long xkeptCode, .long xkeptRange, .int xkeptAsked, .int xcacheq_59, .int xpendingq_59, .long xlowq_59, .long xrangeq_59, .long xcode, .long xreadLow, .long xreadRange, .ref ri, .ref ro, .ref rw, .int xasked])), (rw, .inr (0, [.int rwnq_59, .ref rwaq_59])), (rwaq_59, .inl (cI, rwkq_59, .inl rwfq_59))] H := hP
    have hD : va_D A [(oo, .inr (7, [.int osg, .int osmq_55, .int ofc, .ref oca, .ref opa])), (oca, .inl (cI, ol, .inl ocfq_55)), (opa, .inl (cI, opl, .inl opf)), (co, .inr (3, [.int xshift, .long xkeptCode, .long xkeptRange, .int xkeptAsked, .int xcacheq_59, .int xpendingq_59, .long xlowq_59, .long xrangeq_59, .long xcode, .long xreadLow, .long xreadRange, .ref ri, .ref ro, .ref rw, .int xasked])), (rw, .inr (0, [.int rwnq_59, .ref rwaq_59])), (rwaq_59, .inl (cI, rwkq_59, .inl rwfq_59))] := hD
    exact my_vretg hx hb hr hlocks hQ hK hS (xcacheq_59, xpendingq_59, xlowq_59, xrangeq_59, rwnq_59, rwaq_59, rwkq_59, rwfq_59, osmq_55, ocfq_55) (show (0 + d_59) + (rPh rwkq_59) ≤ (rPh rwk) by omega) (show (0 + d_59) + (rPh rwkq_59) ≤ (rPh rwk) by omega) (by first | assumption | (subst_vars; assumption)) (hP.sub [3, 4, 5, 0, 1, 2] rfl) (hD.sub [3, 4, 5, 0, 1, 2] (by decide) rfl) d_Bits_writeBit_62
set_option maxHeartbeats 2000000 in
set_option maxRecDepth 100000 in
theorem c_Bits_Bits_writeSign (l : Launch) (dC : Nat → ClassId) (dI : Nat → Nat → Nat) (cI cM cO : ClassId) (sz : Nat) (sl : Nat) (co : Nat) (xshift : Int32) (xkeptCode : Int64) (xkeptRange : Int64) (xkeptAsked : Int32) (xcache : Int32) (xpending : Int32) (xlow : Int64) (xrange : Int64) (xcode : Int64) (xreadLow : Int64) (xreadRange : Int64) (ri : Nat) (ro : Nat) (rw : Nat) (xasked : Int32) (rwn : Int32) (rwa : Nat) (rwk : Nat) (rwf : Nat → Int32) (oo : Nat) (osg : Int32) (osm : Int32) (ofc : Int32) (oca : Nat) (opa : Nat) (ol : Nat) (ocf : Nat → Int32) (opl : Nat) (opf : Nat → Int32) (ii : Int32) (hrw : rOk rwn rwk) (hol : ol ≤ 64) (hopl : opl ≤ 512) : MetVg l y_Bits_writeSign (Cond.code y_Bits_writeSign prog_2_method_5_code 6 none :: gw) ({ frames := 7, cells := rPh rwk, slots := rPh rwk, locals := 171 } : Room) (dC, dI) vwCl (kT cI cM cO) [.ref co, .ref oo, .int ii] [(co, .inr (3, [.int xshift, .long xkeptCode, .long xkeptRange, .int xkeptAsked, .int xcache, .int xpending, .long xlow, .long xrange, .long xcode, .long xreadLow, .long xreadRange, .ref ri, .ref ro, .ref rw, .int xasked])), (rw, .inr (0, [.int rwn, .ref rwa])), (rwa, .inl (cI, rwk, .inl rwf)), (oo, .inr (7, [.int osg, .int osm, .int ofc, .ref oca, .ref opa])), (oca, .inl (cI, ol, .inl ocf)), (opa, .inl (cI, opl, .inl opf))] sz sl (fun (u : Int32 × Int32 × Int64 × Int64 × Int32 × Nat × Nat × (Nat → Int32) × Int32 × (Nat → Int32)) => rOk u.2.2.2.2.1 u.2.2.2.2.2.2.1) (fun (u : Int32 × Int32 × Int64 × Int64 × Int32 × Nat × Nat × (Nat → Int32) × Int32 × (Nat → Int32)) => [(co, .inr (3, [.int xshift, .long xkeptCode, .long xkeptRange, .int xkeptAsked, .int u.1, .int u.2.1, .long u.2.2.1, .long u.2.2.2.1, .long xcode, .long xreadLow, .long xreadRange, .ref ri, .ref ro, .ref rw, .int xasked])), (rw, .inr (0, [.int u.2.2.2.2.1, .ref u.2.2.2.2.2.1])), (u.2.2.2.2.2.1, .inl (cI, u.2.2.2.2.2.2.1, .inl u.2.2.2.2.2.2.2.1)), (oo, .inr (7, [.int osg, .int u.2.2.2.2.2.2.2.2.1, .int ofc, .ref oca, .ref opa])), (oca, .inl (cI, ol, .inl u.2.2.2.2.2.2.2.2.2)), (opa, .inl (cI, opl, .inl opf))]) (rPh rwk) (fun (u : Int32 × Int32 × Int64 × Int64 × Int32 × Nat × Nat × (Nat → Int32) × Int32 × (Nat → Int32)) => rPh u.2.2.2.2.2.2.1) := by
  refine my_ofVg (cc := prog_2_method_5_code) (n := 6) (ret := none) (by decide) rfl (Nat.le_of_ble_eq_true rfl) ?_
  intro p e s m args below meth c R Q A ls H locs hx hb hr hts hown hlocks hml hnm hR hQ hA hl hP hK hN hD hS
  have hg : ∀ w ∈ gw, w.before args s = true := fun w h => hts w (List.mem_cons_of_mem _ h)
  have hown : s.vm.findClass "RangeCoders$Bits" = some m.cls := hown
  have hl : lv_has ls 6 [(0, .ref co), (1, .ref oo), (2, .int ii)] := hl
  have hlt_hrw := rOk_lt hrw
  refine lv_iconst (v := 1) hx hb d_Bits_writeSign_0 (by decide) ?_
  refine lv_istore_n (lv' := [(3, .int 1), (0, .ref co), (1, .ref oo), (2, .int ii)]) hx hb d_Bits_writeSign_1 rfl hl (by decide) rfl (fun ls hl => ?_)
  refine lv_aload_n hx hb d_Bits_writeSign_2 rfl (lv_at hl 2 rfl) ?_
  refine va_get (D := (dC, dI)) (ci := 7) (v := .int osg) (C := "RangeCoders$Odds") (T := T_Odds) (N := 5) hx hb hg in_Odds hown hK hP 3 rfl rfl 0 (by decide) (hg _ k304) (fun _ h9 => h9) rfl d_Bits_writeSign_3 ?_
  refine my_ci (wr := [(co, .inr (3, [.int xshift, .long xkeptCode, .long xkeptRange, .int xkeptAsked, .int xcache, .int xpending, .long xlow, .long xrange, .long xcode, .long xreadLow, .long xreadRange, .ref ri, .ref ro, .ref rw, .int xasked])), (rw, .inr (0, [.int rwn, .ref rwa])), (rwa, .inl (cI, rwk, .inl rwf)), (oo, .inr (7, [.int osg, .int osm, .int ofc, .ref oca, .ref opa])), (oca, .inl (cI, ol, .inl ocf)), (opa, .inl (cI, opl, .inl opf))]) (va_runS (As := [.int osg]) (rest := []) ⟨hx, hb, hml, hown, hts⟩ (c_Bits_levelsOf l dC dI cI cM cO H.size osg) (cwS 1 hts (my_gS k296 k297 k8 k298) rfl rfl rfl (by decide +kernel) ⟨by rw [hR]; exact Nat.le_of_ble_eq_true rfl, by rw [hR]; exact Nat.le_of_ble_eq_true rfl⟩) (my_pre hK hN (hP.sub [] rfl) (hD.sub [] (by decide) rfl)) rfl rfl hl.1 rfl (lv_room (Nat.le_of_ble_eq_true rfl)) d_Bits_writeSign_6 ⟨by rw [hR]; exact (show 0 + 0 ≤ (rPh rwk) by omega), by rw [hR]; exact (show 0 + 0 ≤ (rPh rwk) by omega)⟩) hP hD hS hA [] [0, 1, 2, 3, 4, 5] rfl rfl (by decide) (by decide) (fun r_6 u9 H locs hw_6 hP hD hS => ?_)
  obtain ⟨hl1_6, hl6_6⟩ : 1 ≤ r_6.toInt ∧ r_6.toInt ≤ 6 := hw_6
  have hP : va_P (dC, dI) vwCl [(co, .inr (3, [.int xshift, .long xkeptCode, .long xkeptRange, .int xkeptAsked, .int xcache, .int xpending, .long xlow, .long xrange, .long xcode, .long xreadLow, .long xreadRange, .ref ri, .ref ro, .ref rw, .int xasked])), (rw, .inr (0, [.int rwn, .ref rwa])), (rwa, .inl (cI, rwk, .inl rwf)), (oo, .inr (7, [.int osg, .int osm, .int ofc, .ref oca, .ref opa])), (oca, .inl (cI, ol, .inl ocf)), (opa, .inl (cI, opl, .inl opf))] H := hP
  have hD : va_D A [(co, .inr (3, [.int xshift, .long xkeptCode, .long xkeptRange, .int xkeptAsked, .int xcache, .int xpending, .long xlow, .long xrange, .long xcode, .long xreadLow, .long xreadRange, .ref ri, .ref ro, .ref rw, .int xasked])), (rw, .inr (0, [.int rwn, .ref rwa])), (rwa, .inl (cI, rwk, .inl rwf)), (oo, .inr (7, [.int osg, .int osm, .int ofc, .ref oca, .ref opa])), (oca, .inl (cI, ol, .inl ocf)), (opa, .inl (cI, opl, .inl opf))] := hD
  refine lv_iconst (v := 1) hx hb d_Bits_writeSign_9 (by decide) ?_
  refine lv_isub hx hb d_Bits_writeSign_10 ?_
  refine lv_topi (fun v_1 ev_1 => ?_)
  refine lv_istore (lv' := [(4, .int v_1), (3, .int 1), (0, .ref co), (1, .ref oo), (2, .int ii)]) hx hb d_Bits_writeSign_11 hl (by decide) rfl (fun ls hl => ?_)
  have J_13 : ∀ (n9_13 : Nat) (b13_0 : Int32) (b13_1 : Int32) (b13_2 : Nat) (b13_3 : Int32) (b13_4 : Int32) (b13_5 : Int64) (b13_6 : Int64) (b13_7 : Int32) (b13_8 : Nat) (b13_9 : Nat → Int32) (b13_10 : Int32) (b13_11 : Nat → Int32) (b13_12 : Nat) (hn9_13 : (b13_0.toInt + 1).toNat = n9_13) (hr1_13 : rOk b13_7 b13_8) (hd_13 : b13_12 + (rPh b13_8) ≤ rPh rwk) (H : Heap) (locs : List Loc) (ls : Array Slot), va_P (dC, dI) vwCl [(co, .inr (3, [.int xshift, .long xkeptCode, .long xkeptRange, .int xkeptAsked, .int b13_3, .int b13_4, .long b13_5, .long b13_6, .long xcode, .long xreadLow, .long xreadRange, .ref ri, .ref ro, .ref rw, .int xasked])), (rw, .inr (0, [.int b13_7, .ref b13_2])), (b13_2, .inl (cI, b13_8, .inl b13_9)), (oo, .inr (7, [.int osg, .int b13_10, .int ofc, .ref oca, .ref opa])), (oca, .inl (cI, ol, .inl b13_11)), (opa, .inl (cI, opl, .inl opf))] H → va_D A [(co, .inr (3, [.int xshift, .long xkeptCode, .long xkeptRange, .int xkeptAsked, .int b13_3, .int b13_4, .long b13_5, .long b13_6, .long xcode, .long xreadLow, .long xreadRange, .ref ri, .ref ro, .ref rw, .int xasked])), (rw, .inr (0, [.int b13_7, .ref b13_2])), (b13_2, .inl (cI, b13_8, .inl b13_9)), (oo, .inr (7, [.int osg, .int b13_10, .int ofc, .ref oca, .ref opa])), (oca, .inl (cI, ol, .inl b13_11)), (opa, .inl (cI, opl, .inl opf))] → va_S A s.heap H locs → lv_has ls 6 [(4, .int b13_0), (3, .int b13_1), (0, .ref co), (1, .ref oo), (2, .int ii)] → W p l e R s m args below meth c H locs b13_12 b13_12 Q (F0 m 13 ls []) := by
    intro n9_13
    induction n9_13 using Nat.strongRecOn with
    | ind n9_13 ih9_13 =>
      intro b13_0 b13_1 b13_2 b13_3 b13_4 b13_5 b13_6 b13_7 b13_8 b13_9 b13_10 b13_11 b13_12 hn9_13 hr1_13 hd_13 H locs ls hP hD hS hl
      refine lv_iload hx hb d_Bits_writeSign_13 (lv_at hl 0 rfl) ?_
      refine lv_if_lt (tgt := 47) hx hb d_Bits_writeSign_15 (by decide) (fun c_2 => ?_) (fun c_2 => ?_)
      · exact my_vretg hx hb hr hlocks hQ hK hS (b13_3, b13_4, b13_5, b13_6, b13_7, b13_2, b13_8, b13_9, b13_10, b13_11) (show b13_12 + (rPh b13_8) ≤ (rPh rwk) by omega) (show b13_12 + (rPh b13_8) ≤ (rPh rwk) by omega) (by first | assumption | (subst_vars; assumption)) (hP.sub [0, 1, 2, 3, 4, 5] rfl) (hD.sub [0, 1, 2, 3, 4, 5] (by decide) rfl) d_Bits_writeSign_47
      · refine lv_iload_n hx hb d_Bits_writeSign_18 rfl (lv_at hl 4 rfl) ?_
        refine lv_iload hx hb d_Bits_writeSign_19 (lv_at hl 0 rfl) ?_
        refine lv_iushr hx hb d_Bits_writeSign_21 rfl ?_
        refine lv_topi (fun v_3 ev_3 => ?_)
        refine lv_iconst (v := 1) hx hb d_Bits_writeSign_22 (by decide) ?_
        refine lv_iand hx hb d_Bits_writeSign_23 ?_
        refine lv_topi (fun v_4 ev_4 => ?_)
        refine lv_istore (lv' := [(5, .int v_4), (4, .int b13_0), (3, .int b13_1), (0, .ref co), (1, .ref oo), (2, .int ii)]) hx hb d_Bits_writeSign_24 hl (by decide) rfl (fun ls hl => ?_)
        refine lv_aload_n hx hb d_Bits_writeSign_26 rfl (lv_at hl 3 rfl) ?_
        refine lv_aload_n hx hb d_Bits_writeSign_27 rfl (lv_at hl 4 rfl) ?_
        refine lv_iload_n hx hb d_Bits_writeSign_28 rfl (lv_at hl 2 rfl) ?_
        refine lv_iload hx hb d_Bits_writeSign_29 (lv_at hl 0 rfl) ?_
        refine my_cvg (wr := []) (va_runV (As := [.ref oo, .int b13_1, .int v_4]) (rest := []) ⟨hx, hb, hml, hown, hts⟩ (c_Bits_Bits_writeBit l dC dI cI cM cO H.size (hSl H) co xshift xkeptCode xkeptRange xkeptAsked b13_3 b13_4 b13_5 b13_6 xcode xreadLow xreadRange ri ro rw xasked b13_7 b13_2 b13_8 b13_9 oo osg b13_10 ofc oca opa ol b13_11 opl opf b13_1 v_4 (by first | assumption | omega) (by first | assumption | omega) (by first | assumption | omega)) (cwV 3 hts (my_gV k445 k447 ks4 k8 k448) rfl rfl rfl (by decide +kernel) ⟨by rw [hR]; exact Nat.le_of_ble_eq_true rfl, by rw [hR]; exact Nat.le_of_ble_eq_true rfl⟩) (my_preVg hK hN (hP.sub [0, 1, 2, 3, 4, 5] rfl) (hD.sub [0, 1, 2, 3, 4, 5] (by decide) rfl) 0 rfl rfl) rfl rfl hl.1 rfl (lv_room (Nat.le_of_ble_eq_true rfl)) d_Bits_writeSign_31 ⟨by rw [hR]; exact (show b13_12 + (rPh b13_8) ≤ (rPh rwk) by omega), by rw [hR]; exact (show b13_12 + (rPh b13_8) ≤ (rPh rwk) by omega)⟩) hP hD hS hA [0, 1, 2, 3, 4, 5] [] rfl rfl (by decide) (by decide) (fun u9 d_31 H locs hd_31 hw_31 hP hD hS => ?_)
        obtain ⟨xcacheq_31, xpendingq_31, xlowq_31, xrangeq_31, rwnq_31, rwaq_31, rwkq_31, rwfq_31, osmq_31, ocfq_31⟩ := u9
        have hrw_31 : rOk rwnq_31 rwkq_31 := hw_31
        have hd_31 : d_31 + (rPh rwkq_31) ≤ (rPh b13_8) := hd_31
        have hP : va_P (dC, dI) vwCl [(co, .inr (3, [.int xshift, .long xkeptCode, .long xkeptRange, .int xkeptAsked, .int xcacheq_31, .int xpendingq_31, .long xlowq_31, .long xrangeq_31, .long xcode, .long xreadLow, .long xreadRange, .ref ri, .ref ro, .ref rw, .int xasked])), (rw, .inr (0, [.int rwnq_31, .ref rwaq_31])), (rwaq_31, .inl (cI, rwkq_31, .inl rwfq_31)), (oo, .inr (7, [.int osg, .int osmq_31, .int ofc, .ref oca, .ref opa])), (oca, .inl (cI, ol, .inl ocfq_31)), (opa, .inl (cI, opl, .inl opf))] H := hP
        have hD : va_D A [(co, .inr (3, [.int xshift, .long xkeptCode, .long xkeptRange, .int xkeptAsked, .int xcacheq_31, .int xpendingq_31, .long xlowq_31, .long xrangeq_31, .long xcode, .long xreadLow, .long xreadRange, .ref ri, .ref ro, .ref rw, .int xasked])), (rw, .inr (0, [.int rwnq_31, .ref rwaq_31])), (rwaq_31, .inl (cI, rwkq_31, .inl rwfq_31)), (oo, .inr (7, [.int osg, .int osmq_31, .int ofc, .ref oca, .ref opa])), (oca, .inl (cI, ol, .inl ocfq_31)), (opa, .inl (cI, opl, .inl opf))] := hD
        refine lv_iconst (v := 2) hx hb d_Bits_writeSign_34 (by decide) ?_
        refine lv_iload_n hx hb d_Bits_writeSign_35 rfl (lv_at hl 2 rfl) ?_
        refine lv_imul hx hb d_Bits_writeSign_36 ?_
        refine lv_topi (fun v_5 ev_5 => ?_)
        refine lv_iload hx hb d_Bits_writeSign_37 (lv_at hl 0 rfl) ?_
        refine lv_iadd hx hb d_Bits_writeSign_39 ?_
        refine lv_topi (fun v_6 ev_6 => ?_)
        refine lv_istore_n (lv' := [(3, .int v_6), (5, .int v_4), (4, .int b13_0), (0, .ref co), (1, .ref oo), (2, .int ii)]) hx hb d_Bits_writeSign_40 rfl hl (by decide) rfl (fun ls hl => ?_)
        obtain ⟨v_7, ev_7⟩ : ∃ y : Int32, y = b13_0 + (-1) := ⟨_, rfl⟩
        refine lv_iinc (v := v_7) (lv' := [(4, .int v_7), (3, .int v_6), (5, .int v_4), (0, .ref co), (1, .ref oo), (2, .int ii)]) hx hb d_Bits_writeSign_41 hl (k := 2) rfl (by rw [ev_7]; rfl) (by decide) rfl (fun ls hl => ?_)
        refine lv_goto (tgt := 13) hx hb d_Bits_writeSign_44 (by decide) ?_
        exact ih9_13 _ (by first | omega | (have z9 := I_dn c_2 ev_7; omega)) v_7 v_6 rwaq_31 xcacheq_31 xpendingq_31 xlowq_31 xrangeq_31 rwnq_31 rwkq_31 rwfq_31 osmq_31 ocfq_31 (b13_12 + d_31) rfl (by assumption) (by omega) H locs ls (hP.sub [0, 1, 2, 3, 4, 5] rfl) (hD.sub [0, 1, 2, 3, 4, 5] (by decide) rfl) hS (lv_sub hl [0, 1, 3, 4, 5] rfl)
  exact J_13 _ v_1 (1 : Int32) rwa xcache xpending xlow xrange rwn rwk rwf osm ocf (0 : Nat) rfl (by assumption) (by omega) H locs ls (hP.sub [0, 1, 2, 3, 4, 5] rfl) (hD.sub [0, 1, 2, 3, 4, 5] (by decide) rfl) hS (lv_sub hl [0, 1, 2, 3, 4] rfl)
set_option maxHeartbeats 2000000 in
set_option maxRecDepth 100000 in
theorem c_Bits_Bits_writeValue (l : Launch) (dC : Nat → ClassId) (dI : Nat → Nat → Nat) (cI cM cO : ClassId) (sz : Nat) (sl : Nat) (co : Nat) (xshift : Int32) (xkeptCode : Int64) (xkeptRange : Int64) (xkeptAsked : Int32) (xcache : Int32) (xpending : Int32) (xlow : Int64) (xrange : Int64) (xcode : Int64) (xreadLow : Int64) (xreadRange : Int64) (ri : Nat) (ro : Nat) (rw : Nat) (xasked : Int32) (rwn : Int32) (rwa : Nat) (rwk : Nat) (rwf : Nat → Int32) (vv : Int32) (wd : Int32) (hrw : rOk rwn rwk) : MetVg l y_Bits_writeValue (Cond.code y_Bits_writeValue prog_2_method_6_code 4 none :: gw) ({ frames := 6, cells := rPh rwk, slots := rPh rwk, locals := 146 } : Room) (dC, dI) vwCl (kT cI cM cO) [.ref co, .int vv, .int wd] [(co, .inr (3, [.int xshift, .long xkeptCode, .long xkeptRange, .int xkeptAsked, .int xcache, .int xpending, .long xlow, .long xrange, .long xcode, .long xreadLow, .long xreadRange, .ref ri, .ref ro, .ref rw, .int xasked])), (rw, .inr (0, [.int rwn, .ref rwa])), (rwa, .inl (cI, rwk, .inl rwf))] sz sl (fun (u : Int32 × Int32 × Int64 × Int64 × Int32 × Nat × Nat × (Nat → Int32)) => rOk u.2.2.2.2.1 u.2.2.2.2.2.2.1) (fun (u : Int32 × Int32 × Int64 × Int64 × Int32 × Nat × Nat × (Nat → Int32)) => [(co, .inr (3, [.int xshift, .long xkeptCode, .long xkeptRange, .int xkeptAsked, .int u.1, .int u.2.1, .long u.2.2.1, .long u.2.2.2.1, .long xcode, .long xreadLow, .long xreadRange, .ref ri, .ref ro, .ref rw, .int xasked])), (rw, .inr (0, [.int u.2.2.2.2.1, .ref u.2.2.2.2.2.1])), (u.2.2.2.2.2.1, .inl (cI, u.2.2.2.2.2.2.1, .inl u.2.2.2.2.2.2.2))]) (rPh rwk) (fun (u : Int32 × Int32 × Int64 × Int64 × Int32 × Nat × Nat × (Nat → Int32)) => rPh u.2.2.2.2.2.2.1) := by
  refine my_ofVg (cc := prog_2_method_6_code) (n := 4) (ret := none) (by decide) rfl (Nat.le_of_ble_eq_true rfl) ?_
  intro p e s m args below meth c R Q A ls H locs hx hb hr hts hown hlocks hml hnm hR hQ hA hl hP hK hN hD hS
  have hg : ∀ w ∈ gw, w.before args s = true := fun w h => hts w (List.mem_cons_of_mem _ h)
  have hown : s.vm.findClass "RangeCoders$Bits" = some m.cls := hown
  have hl : lv_has ls 4 [(0, .ref co), (1, .int vv), (2, .int wd)] := hl
  have hlt_hrw := rOk_lt hrw
  refine lv_iload_n hx hb d_Bits_writeValue_0 rfl (lv_at hl 2 rfl) ?_
  refine lv_iconst (v := 1) hx hb d_Bits_writeValue_1 (by decide) ?_
  refine lv_isub hx hb d_Bits_writeValue_2 ?_
  refine lv_topi (fun v_1 ev_1 => ?_)
  refine lv_istore_n (lv' := [(3, .int v_1), (0, .ref co), (1, .int vv), (2, .int wd)]) hx hb d_Bits_writeValue_3 rfl hl (by decide) rfl (fun ls hl => ?_)
  have J_4 : ∀ (n9_4 : Nat) (b4_0 : Int32) (b4_1 : Nat) (b4_2 : Int32) (b4_3 : Int32) (b4_4 : Int64) (b4_5 : Int64) (b4_6 : Int32) (b4_7 : Nat) (b4_8 : Nat → Int32) (b4_9 : Nat) (hn9_4 : (b4_0.toInt + 1).toNat = n9_4) (hr1_4 : rOk b4_6 b4_7) (hd_4 : b4_9 + (rPh b4_7) ≤ rPh rwk) (H : Heap) (locs : List Loc) (ls : Array Slot), va_P (dC, dI) vwCl [(co, .inr (3, [.int xshift, .long xkeptCode, .long xkeptRange, .int xkeptAsked, .int b4_2, .int b4_3, .long b4_4, .long b4_5, .long xcode, .long xreadLow, .long xreadRange, .ref ri, .ref ro, .ref rw, .int xasked])), (rw, .inr (0, [.int b4_6, .ref b4_1])), (b4_1, .inl (cI, b4_7, .inl b4_8))] H → va_D A [(co, .inr (3, [.int xshift, .long xkeptCode, .long xkeptRange, .int xkeptAsked, .int b4_2, .int b4_3, .long b4_4, .long b4_5, .long xcode, .long xreadLow, .long xreadRange, .ref ri, .ref ro, .ref rw, .int xasked])), (rw, .inr (0, [.int b4_6, .ref b4_1])), (b4_1, .inl (cI, b4_7, .inl b4_8))] → va_S A s.heap H locs → lv_has ls 4 [(3, .int b4_0), (0, .ref co), (1, .int vv), (2, .int wd)] → W p l e R s m args below meth c H locs b4_9 b4_9 Q (F0 m 4 ls []) := by
    intro n9_4
    induction n9_4 using Nat.strongRecOn with
    | ind n9_4 ih9_4 =>
      intro b4_0 b4_1 b4_2 b4_3 b4_4 b4_5 b4_6 b4_7 b4_8 b4_9 hn9_4 hr1_4 hd_4 H locs ls hP hD hS hl
      refine lv_iload_n hx hb d_Bits_writeValue_4 rfl (lv_at hl 0 rfl) ?_
      refine lv_if_lt (tgt := 50) hx hb d_Bits_writeValue_5 (by decide) (fun c_2 => ?_) (fun c_2 => ?_)
      · exact my_vretg hx hb hr hlocks hQ hK hS (b4_2, b4_3, b4_4, b4_5, b4_6, b4_1, b4_7, b4_8) (show b4_9 + (rPh b4_7) ≤ (rPh rwk) by omega) (show b4_9 + (rPh b4_7) ≤ (rPh rwk) by omega) (by first | assumption | (subst_vars; assumption)) (hP.sub [0, 1, 2] rfl) (hD.sub [0, 1, 2] (by decide) rfl) d_Bits_writeValue_50
      · refine lv_aload_n hx hb d_Bits_writeValue_8 rfl (lv_at hl 1 rfl) ?_
        refine lv_dup hx hb d_Bits_writeValue_9 rfl ?_
        refine va_get (D := (dC, dI)) (ci := 3) (v := .long b4_5) (C := "RangeCoders$Bits") (T := T_Bits) (N := 15) hx hb hg in_Bits hown hK hP 0 rfl rfl 7 (by decide) (hg _ k82) (fun x9 h9 => u_same (hg _ k83) x9 h9) rfl d_Bits_writeValue_10 ?_
        refine lv_iconst (v := 1) hx hb d_Bits_writeValue_13 (by decide) ?_
        refine lv_lushr hx hb d_Bits_writeValue_14 rfl ?_
        refine lv_topl (fun v_3 ev_3 => ?_)
        refine va_put (D := (dC, dI)) (ci := 3) (v := .long v_3) (ty := .long) (C := "RangeCoders$Bits") (T := T_Bits) (N := 15) hx hb hg in_Bits t_Bits o_Bits n_Bits hown hK hP hD hS 0 rfl rfl 7 (by decide) (hg _ k82) (fun x9 h9 => u_same (hg _ k83) x9 h9) rfl (by decide +kernel) rfl rfl (Nat.le_of_ble_eq_true rfl) d_Bits_writeValue_15 (fun H locs hP hD hS => ?_)
        have hP : va_P (dC, dI) vwCl [(co, .inr (3, [.int xshift, .long xkeptCode, .long xkeptRange, .int xkeptAsked, .int b4_2, .int b4_3, .long b4_4, .long v_3, .long xcode, .long xreadLow, .long xreadRange, .ref ri, .ref ro, .ref rw, .int xasked])), (rw, .inr (0, [.int b4_6, .ref b4_1])), (b4_1, .inl (cI, b4_7, .inl b4_8))] H := hP
        have hD : va_D A [(co, .inr (3, [.int xshift, .long xkeptCode, .long xkeptRange, .int xkeptAsked, .int b4_2, .int b4_3, .long b4_4, .long v_3, .long xcode, .long xreadLow, .long xreadRange, .ref ri, .ref ro, .ref rw, .int xasked])), (rw, .inr (0, [.int b4_6, .ref b4_1])), (b4_1, .inl (cI, b4_7, .inl b4_8))] := hD
        refine lv_iload_n hx hb d_Bits_writeValue_18 rfl (lv_at hl 2 rfl) ?_
        refine lv_iload_n hx hb d_Bits_writeValue_19 rfl (lv_at hl 0 rfl) ?_
        refine lv_iushr hx hb d_Bits_writeValue_20 rfl ?_
        refine lv_topi (fun v_4 ev_4 => ?_)
        refine lv_iconst (v := 1) hx hb d_Bits_writeValue_21 (by decide) ?_
        refine lv_iand hx hb d_Bits_writeValue_22 ?_
        refine lv_topi (fun v_5 ev_5 => ?_)
        refine lv_iconst (v := 1) hx hb d_Bits_writeValue_23 (by decide) ?_
        refine lv_icmp_ne (tgt := 40) hx hb d_Bits_writeValue_24 (by decide) (fun c_6 => ?_) (fun c_6 => ?_)
        · refine lv_aload_n hx hb d_Bits_writeValue_40 rfl (lv_at hl 1 rfl) ?_
          refine my_cvg (wr := []) (va_runU (As := []) (rest := []) ⟨hx, hb, hml, hown, hts⟩ (c_Bits_Carries_widen l dC dI cI cM cO H.size (hSl H) co xshift xkeptCode xkeptRange xkeptAsked b4_2 b4_3 b4_4 v_3 xcode xreadLow xreadRange ri ro rw xasked b4_6 b4_1 b4_7 b4_8 (by first | assumption | omega)) (va_cwU 0 hts (my_gU k455 k456 k458 k459 k5 k460) rfl rfl rfl rfl (by decide +kernel) ⟨by rw [hR]; exact Nat.le_of_ble_eq_true rfl, by rw [hR]; exact Nat.le_of_ble_eq_true rfl⟩) (my_preVg hK hN (hP.sub [0, 1, 2] rfl) (hD.sub [0, 1, 2] (by decide) rfl) 0 rfl rfl) rfl rfl hl.1 rfl (lv_room (Nat.le_of_ble_eq_true rfl)) d_Bits_writeValue_41 ⟨by rw [hR]; exact (show b4_9 + (rPh b4_7) ≤ (rPh rwk) by omega), by rw [hR]; exact (show b4_9 + (rPh b4_7) ≤ (rPh rwk) by omega)⟩) hP hD hS hA [0, 1, 2] [] rfl rfl (by decide) (by decide) (fun u9 d_41 H locs hd_41 hw_41 hP hD hS => ?_)
          obtain ⟨xcacheq_41, xpendingq_41, xlowq_41, xrangeq_41, rwnq_41, rwaq_41, rwkq_41, rwfq_41⟩ := u9
          have hrw_41 : rOk rwnq_41 rwkq_41 := hw_41
          have hd_41 : d_41 + (rPh rwkq_41) ≤ (rPh b4_7) := hd_41
          have hP : va_P (dC, dI) vwCl [(co, .inr (3, [.int xshift, .long xkeptCode, .long xkeptRange, .int xkeptAsked, .int xcacheq_41, .int xpendingq_41, .long xlowq_41, .long xrangeq_41, .long xcode, .long xreadLow, .long xreadRange, .ref ri, .ref ro, .ref rw, .int xasked])), (rw, .inr (0, [.int rwnq_41, .ref rwaq_41])), (rwaq_41, .inl (cI, rwkq_41, .inl rwfq_41))] H := hP
          have hD : va_D A [(co, .inr (3, [.int xshift, .long xkeptCode, .long xkeptRange, .int xkeptAsked, .int xcacheq_41, .int xpendingq_41, .long xlowq_41, .long xrangeq_41, .long xcode, .long xreadLow, .long xreadRange, .ref ri, .ref ro, .ref rw, .int xasked])), (rw, .inr (0, [.int rwnq_41, .ref rwaq_41])), (rwaq_41, .inl (cI, rwkq_41, .inl rwfq_41))] := hD
          obtain ⟨v_7, ev_7⟩ : ∃ y : Int32, y = b4_0 + (-1) := ⟨_, rfl⟩
          refine lv_iinc (v := v_7) (lv' := [(3, .int v_7), (0, .ref co), (1, .int vv), (2, .int wd)]) hx hb d_Bits_writeValue_44 hl (k := 0) rfl (by rw [ev_7]; rfl) (by decide) rfl (fun ls hl => ?_)
          refine lv_goto (tgt := 4) hx hb d_Bits_writeValue_47 (by decide) ?_
          exact ih9_4 _ (by first | omega | (have z9 := I_dn c_2 ev_7; omega)) v_7 rwaq_41 xcacheq_41 xpendingq_41 xlowq_41 xrangeq_41 rwnq_41 rwkq_41 rwfq_41 (b4_9 + d_41) rfl (by assumption) (by omega) H locs ls (hP.sub [0, 1, 2] rfl) (hD.sub [0, 1, 2] (by decide) rfl) hS (lv_sub hl [0, 1, 2, 3] rfl)
        · refine lv_aload_n hx hb d_Bits_writeValue_27 rfl (lv_at hl 1 rfl) ?_
          refine lv_dup hx hb d_Bits_writeValue_28 rfl ?_
          refine va_get (D := (dC, dI)) (ci := 3) (v := .long b4_4) (C := "RangeCoders$Bits") (T := T_Bits) (N := 15) hx hb hg in_Bits hown hK hP 0 rfl rfl 6 (by decide) (hg _ k75) (fun x9 h9 => u_same (hg _ k76) x9 h9) rfl d_Bits_writeValue_29 ?_
          refine lv_aload_n hx hb d_Bits_writeValue_32 rfl (lv_at hl 1 rfl) ?_
          refine va_get (D := (dC, dI)) (ci := 3) (v := .long v_3) (C := "RangeCoders$Bits") (T := T_Bits) (N := 15) hx hb hg in_Bits hown hK hP 0 rfl rfl 7 (by decide) (hg _ k82) (fun x9 h9 => u_same (hg _ k83) x9 h9) rfl d_Bits_writeValue_33 ?_
          refine lv_ladd hx hb d_Bits_writeValue_36 ?_
          refine lv_topl (fun v_8 ev_8 => ?_)
          refine va_put (D := (dC, dI)) (ci := 3) (v := .long v_8) (ty := .long) (C := "RangeCoders$Bits") (T := T_Bits) (N := 15) hx hb hg in_Bits t_Bits o_Bits n_Bits hown hK hP hD hS 0 rfl rfl 6 (by decide) (hg _ k75) (fun x9 h9 => u_same (hg _ k76) x9 h9) rfl (by decide +kernel) rfl rfl (Nat.le_of_ble_eq_true rfl) d_Bits_writeValue_37 (fun H locs hP hD hS => ?_)
          have hP : va_P (dC, dI) vwCl [(co, .inr (3, [.int xshift, .long xkeptCode, .long xkeptRange, .int xkeptAsked, .int b4_2, .int b4_3, .long v_8, .long v_3, .long xcode, .long xreadLow, .long xreadRange, .ref ri, .ref ro, .ref rw, .int xasked])), (rw, .inr (0, [.int b4_6, .ref b4_1])), (b4_1, .inl (cI, b4_7, .inl b4_8))] H := hP
          have hD : va_D A [(co, .inr (3, [.int xshift, .long xkeptCode, .long xkeptRange, .int xkeptAsked, .int b4_2, .int b4_3, .long v_8, .long v_3, .long xcode, .long xreadLow, .long xreadRange, .ref ri, .ref ro, .ref rw, .int xasked])), (rw, .inr (0, [.int b4_6, .ref b4_1])), (b4_1, .inl (cI, b4_7, .inl b4_8))] := hD
          refine lv_aload_n hx hb d_Bits_writeValue_40 rfl (lv_at hl 1 rfl) ?_
          refine my_cvg (wr := []) (va_runU (As := []) (rest := []) ⟨hx, hb, hml, hown, hts⟩ (c_Bits_Carries_widen l dC dI cI cM cO H.size (hSl H) co xshift xkeptCode xkeptRange xkeptAsked b4_2 b4_3 v_8 v_3 xcode xreadLow xreadRange ri ro rw xasked b4_6 b4_1 b4_7 b4_8 (by first | assumption | omega)) (va_cwU 0 hts (my_gU k455 k456 k458 k459 k5 k460) rfl rfl rfl rfl (by decide +kernel) ⟨by rw [hR]; exact Nat.le_of_ble_eq_true rfl, by rw [hR]; exact Nat.le_of_ble_eq_true rfl⟩) (my_preVg hK hN (hP.sub [0, 1, 2] rfl) (hD.sub [0, 1, 2] (by decide) rfl) 0 rfl rfl) rfl rfl hl.1 rfl (lv_room (Nat.le_of_ble_eq_true rfl)) d_Bits_writeValue_41 ⟨by rw [hR]; exact (show b4_9 + (rPh b4_7) ≤ (rPh rwk) by omega), by rw [hR]; exact (show b4_9 + (rPh b4_7) ≤ (rPh rwk) by omega)⟩) hP hD hS hA [0, 1, 2] [] rfl rfl (by decide) (by decide) (fun u9 d_41 H locs hd_41 hw_41 hP hD hS => ?_)
          obtain ⟨xcacheq_41, xpendingq_41, xlowq_41, xrangeq_41, rwnq_41, rwaq_41, rwkq_41, rwfq_41⟩ := u9
          have hrw_41 : rOk rwnq_41 rwkq_41 := hw_41
          have hd_41 : d_41 + (rPh rwkq_41) ≤ (rPh b4_7) := hd_41
          have hP : va_P (dC, dI) vwCl [(co, .inr (3, [.int xshift, .long xkeptCode, .long xkeptRange, .int xkeptAsked, .int xcacheq_41, .int xpendingq_41, .long xlowq_41, .long xrangeq_41, .long xcode, .long xreadLow, .long xreadRange, .ref ri, .ref ro, .ref rw, .int xasked])), (rw, .inr (0, [.int rwnq_41, .ref rwaq_41])), (rwaq_41, .inl (cI, rwkq_41, .inl rwfq_41))] H := hP
          have hD : va_D A [(co, .inr (3, [.int xshift, .long xkeptCode, .long xkeptRange, .int xkeptAsked, .int xcacheq_41, .int xpendingq_41, .long xlowq_41, .long xrangeq_41, .long xcode, .long xreadLow, .long xreadRange, .ref ri, .ref ro, .ref rw, .int xasked])), (rw, .inr (0, [.int rwnq_41, .ref rwaq_41])), (rwaq_41, .inl (cI, rwkq_41, .inl rwfq_41))] := hD
          obtain ⟨v_9, ev_9⟩ : ∃ y : Int32, y = b4_0 + (-1) := ⟨_, rfl⟩
          refine lv_iinc (v := v_9) (lv' := [(3, .int v_9), (0, .ref co), (1, .int vv), (2, .int wd)]) hx hb d_Bits_writeValue_44 hl (k := 0) rfl (by rw [ev_9]; rfl) (by decide) rfl (fun ls hl => ?_)
          refine lv_goto (tgt := 4) hx hb d_Bits_writeValue_47 (by decide) ?_
          exact ih9_4 _ (by first | omega | (have z9 := I_dn c_2 ev_9; omega)) v_9 rwaq_41 xcacheq_41 xpendingq_41 xlowq_41 xrangeq_41 rwnq_41 rwkq_41 rwfq_41 (b4_9 + d_41) rfl (by assumption) (by omega) H locs ls (hP.sub [0, 1, 2] rfl) (hD.sub [0, 1, 2] (by decide) rfl) hS (lv_sub hl [0, 1, 2, 3] rfl)
  exact J_4 _ v_1 rwa xcache xpending xlow xrange rwn rwk rwf (0 : Nat) rfl (by assumption) (by omega) H locs ls (hP.sub [0, 1, 2] rfl) (hD.sub [0, 1, 2] (by decide) rfl) hS (lv_sub hl [0, 1, 2, 3] rfl)
set_option maxHeartbeats 2000000 in
set_option maxRecDepth 100000 in
theorem c_Bits_Bits_keepReading (l : Launch) (dC : Nat → ClassId) (dI : Nat → Nat → Nat) (cI cM cO : ClassId) (sz : Nat) (co : Nat) (xshift : Int32) (xkeptCode : Int64) (xkeptRange : Int64) (xkeptAsked : Int32) (xcache : Int32) (xpending : Int32) (xlow : Int64) (xrange : Int64) (xcode : Int64) (xreadLow : Int64) (xreadRange : Int64) (ri : Nat) (ro : Nat) (rw : Nat) (xasked : Int32) : MetV l y_Bits_keepReading (Cond.code y_Bits_keepReading prog_2_method_13_code 1 none :: gw) ({ frames := 0, cells := 0, slots := 0, locals := 0 } : Room) (dC, dI) vwCl (kT cI cM cO) [.ref co] [(co, .inr (3, [.int xshift, .long xkeptCode, .long xkeptRange, .int xkeptAsked, .int xcache, .int xpending, .long xlow, .long xrange, .long xcode, .long xreadLow, .long xreadRange, .ref ri, .ref ro, .ref rw, .int xasked]))] sz (fun (u : Int64 × Int64 × Int32) => True) (fun (u : Int64 × Int64 × Int32) => [(co, .inr (3, [.int xshift, .long u.1, .long u.2.1, .int u.2.2, .int xcache, .int xpending, .long xlow, .long xrange, .long xcode, .long xreadLow, .long xreadRange, .ref ri, .ref ro, .ref rw, .int xasked]))]) 0 0 := by
  refine my_ofV (cc := prog_2_method_13_code) (n := 1) (ret := none) (by decide) rfl (Nat.le_of_ble_eq_true rfl) ?_
  intro p e s m args below meth c R Q A ls H locs hx hb hr hts hown hlocks hml hnm hR hQ hA hl hP hK hN hD hS
  have hg : ∀ w ∈ gw, w.before args s = true := fun w h => hts w (List.mem_cons_of_mem _ h)
  have hown : s.vm.findClass "RangeCoders$Bits" = some m.cls := hown
  have hl : lv_has ls 1 [(0, .ref co)] := hl
  refine lv_aload_n hx hb d_Bits_keepReading_0 rfl (lv_at hl 0 rfl) ?_
  refine lv_aload_n hx hb d_Bits_keepReading_1 rfl (lv_at hl 0 rfl) ?_
  refine va_get (D := (dC, dI)) (ci := 3) (v := .long xcode) (C := "RangeCoders$Bits") (T := T_Bits) (N := 15) hx hb hg in_Bits hown hK hP 0 rfl rfl 8 (by decide) (hg _ k88) (fun x9 h9 => u_same (hg _ k89) x9 h9) rfl d_Bits_keepReading_2 ?_
  refine va_put (D := (dC, dI)) (ci := 3) (v := .long xcode) (ty := .long) (C := "RangeCoders$Bits") (T := T_Bits) (N := 15) hx hb hg in_Bits t_Bits o_Bits n_Bits hown hK hP hD hS 0 rfl rfl 1 (by decide) (hg _ k177) (fun _ h9 => h9) rfl (by decide +kernel) rfl rfl (Nat.le_of_ble_eq_true rfl) d_Bits_keepReading_5 (fun H locs hP hD hS => ?_)
  have hP : va_P (dC, dI) vwCl [(co, .inr (3, [.int xshift, .long xcode, .long xkeptRange, .int xkeptAsked, .int xcache, .int xpending, .long xlow, .long xrange, .long xcode, .long xreadLow, .long xreadRange, .ref ri, .ref ro, .ref rw, .int xasked]))] H := hP
  have hD : va_D A [(co, .inr (3, [.int xshift, .long xcode, .long xkeptRange, .int xkeptAsked, .int xcache, .int xpending, .long xlow, .long xrange, .long xcode, .long xreadLow, .long xreadRange, .ref ri, .ref ro, .ref rw, .int xasked]))] := hD
  refine lv_aload_n hx hb d_Bits_keepReading_8 rfl (lv_at hl 0 rfl) ?_
  refine lv_aload_n hx hb d_Bits_keepReading_9 rfl (lv_at hl 0 rfl) ?_
  refine va_get (D := (dC, dI)) (ci := 3) (v := .long xreadRange) (C := "RangeCoders$Bits") (T := T_Bits) (N := 15) hx hb hg in_Bits hown hK hP 0 rfl rfl 10 (by decide) (hg _ k98) (fun x9 h9 => u_same (hg _ k99) x9 h9) rfl d_Bits_keepReading_10 ?_
  refine va_put (D := (dC, dI)) (ci := 3) (v := .long xreadRange) (ty := .long) (C := "RangeCoders$Bits") (T := T_Bits) (N := 15) hx hb hg in_Bits t_Bits o_Bits n_Bits hown hK hP hD hS 0 rfl rfl 2 (by decide) (hg _ k178) (fun _ h9 => h9) rfl (by decide +kernel) rfl rfl (Nat.le_of_ble_eq_true rfl) d_Bits_keepReading_13 (fun H locs hP hD hS => ?_)
  have hP : va_P (dC, dI) vwCl [(co, .inr (3, [.int xshift, .long xcode, .long xreadRange, .int xkeptAsked, .int xcache, .int xpending, .long xlow, .long xrange, .long xcode, .long xreadLow, .long xreadRange, .ref ri, .ref ro, .ref rw, .int xasked]))] H := hP
  have hD : va_D A [(co, .inr (3, [.int xshift, .long xcode, .long xreadRange, .int xkeptAsked, .int xcache, .int xpending, .long xlow, .long xrange, .long xcode, .long xreadLow, .long xreadRange, .ref ri, .ref ro, .ref rw, .int xasked]))] := hD
  refine lv_aload_n hx hb d_Bits_keepReading_16 rfl (lv_at hl 0 rfl) ?_
  refine lv_aload_n hx hb d_Bits_keepReading_17 rfl (lv_at hl 0 rfl) ?_
  refine va_get (D := (dC, dI)) (ci := 3) (v := .int xasked) (C := "RangeCoders$Bits") (T := T_Bits) (N := 15) hx hb hg in_Bits hown hK hP 0 rfl rfl 14 (by decide) (hg _ k128) (fun x9 h9 => u_same (hg _ k129) x9 h9) rfl d_Bits_keepReading_18 ?_
  refine va_put (D := (dC, dI)) (ci := 3) (v := .int xasked) (ty := .int) (C := "RangeCoders$Bits") (T := T_Bits) (N := 15) hx hb hg in_Bits t_Bits o_Bits n_Bits hown hK hP hD hS 0 rfl rfl 3 (by decide) (hg _ k179) (fun _ h9 => h9) rfl (by decide +kernel) rfl rfl (Nat.le_of_ble_eq_true rfl) d_Bits_keepReading_21 (fun H locs hP hD hS => ?_)
  have hP : va_P (dC, dI) vwCl [(co, .inr (3, [.int xshift, .long xcode, .long xreadRange, .int xasked, .int xcache, .int xpending, .long xlow, .long xrange, .long xcode, .long xreadLow, .long xreadRange, .ref ri, .ref ro, .ref rw, .int xasked]))] H := hP
  have hD : va_D A [(co, .inr (3, [.int xshift, .long xcode, .long xreadRange, .int xasked, .int xcache, .int xpending, .long xlow, .long xrange, .long xcode, .long xreadLow, .long xreadRange, .ref ri, .ref ro, .ref rw, .int xasked]))] := hD
  exact my_vret hx hb hr hlocks hQ hK hS (Nat.le_refl _) (Nat.le_refl _) (xcode, xreadRange, xasked) (trivial) (hP.sub [0] rfl) (hD.sub [0] (by decide) rfl) d_Bits_keepReading_24
set_option maxHeartbeats 2000000 in
set_option maxRecDepth 100000 in
theorem c_Bits_Bits_undone (l : Launch) (dC : Nat → ClassId) (dI : Nat → Nat → Nat) (cI cM cO : ClassId) (sz : Nat) (co : Nat) (xshift : Int32) (xkeptCode : Int64) (xkeptRange : Int64) (xkeptAsked : Int32) (xcache : Int32) (xpending : Int32) (xlow : Int64) (xrange : Int64) (xcode : Int64) (xreadLow : Int64) (xreadRange : Int64) (ri : Nat) (ro : Nat) (rw : Nat) (xasked : Int32) : MetI l y_Bits_undone (Cond.code y_Bits_undone prog_2_method_14_code 1 (some .int) :: gw) ({ frames := 0, cells := 0, slots := 0, locals := 0 } : Room) (dC, dI) vwCl (kT cI cM cO) [.ref co] [(co, .inr (3, [.int xshift, .long xkeptCode, .long xkeptRange, .int xkeptAsked, .int xcache, .int xpending, .long xlow, .long xrange, .long xcode, .long xreadLow, .long xreadRange, .ref ri, .ref ro, .ref rw, .int xasked]))] sz (fun (r : Int32) (u : Int64 × Int64 × Int32) => True) (fun (u : Int64 × Int64 × Int32) => [(co, .inr (3, [.int xshift, .long xkeptCode, .long xkeptRange, .int xkeptAsked, .int xcache, .int xpending, .long xlow, .long xrange, .long u.1, .long xreadLow, .long u.2.1, .ref ri, .ref ro, .ref rw, .int u.2.2]))]) 0 0 := by
  refine my_ofI (cc := prog_2_method_14_code) (n := 1) (ret := (some .int)) (by decide) rfl (Nat.le_of_ble_eq_true rfl) ?_
  intro p e s m args below meth c R Q A ls H locs hx hb hr hts hown hlocks hml hnm hR hQ hA hl hP hK hN hD hS
  have hg : ∀ w ∈ gw, w.before args s = true := fun w h => hts w (List.mem_cons_of_mem _ h)
  have hown : s.vm.findClass "RangeCoders$Bits" = some m.cls := hown
  have hl : lv_has ls 1 [(0, .ref co)] := hl
  refine lv_aload_n hx hb d_Bits_undone_0 rfl (lv_at hl 0 rfl) ?_
  refine lv_aload_n hx hb d_Bits_undone_1 rfl (lv_at hl 0 rfl) ?_
  refine va_get (D := (dC, dI)) (ci := 3) (v := .long xkeptCode) (C := "RangeCoders$Bits") (T := T_Bits) (N := 15) hx hb hg in_Bits hown hK hP 0 rfl rfl 1 (by decide) (hg _ k177) (fun _ h9 => h9) rfl d_Bits_undone_2 ?_
  refine va_put (D := (dC, dI)) (ci := 3) (v := .long xkeptCode) (ty := .long) (C := "RangeCoders$Bits") (T := T_Bits) (N := 15) hx hb hg in_Bits t_Bits o_Bits n_Bits hown hK hP hD hS 0 rfl rfl 8 (by decide) (hg _ k88) (fun x9 h9 => u_same (hg _ k89) x9 h9) rfl (by decide +kernel) rfl rfl (Nat.le_of_ble_eq_true rfl) d_Bits_undone_5 (fun H locs hP hD hS => ?_)
  have hP : va_P (dC, dI) vwCl [(co, .inr (3, [.int xshift, .long xkeptCode, .long xkeptRange, .int xkeptAsked, .int xcache, .int xpending, .long xlow, .long xrange, .long xkeptCode, .long xreadLow, .long xreadRange, .ref ri, .ref ro, .ref rw, .int xasked]))] H := hP
  have hD : va_D A [(co, .inr (3, [.int xshift, .long xkeptCode, .long xkeptRange, .int xkeptAsked, .int xcache, .int xpending, .long xlow, .long xrange, .long xkeptCode, .long xreadLow, .long xreadRange, .ref ri, .ref ro, .ref rw, .int xasked]))] := hD
  refine lv_aload_n hx hb d_Bits_undone_8 rfl (lv_at hl 0 rfl) ?_
  refine lv_aload_n hx hb d_Bits_undone_9 rfl (lv_at hl 0 rfl) ?_
  refine va_get (D := (dC, dI)) (ci := 3) (v := .long xkeptRange) (C := "RangeCoders$Bits") (T := T_Bits) (N := 15) hx hb hg in_Bits hown hK hP 0 rfl rfl 2 (by decide) (hg _ k178) (fun _ h9 => h9) rfl d_Bits_undone_10 ?_
  refine va_put (D := (dC, dI)) (ci := 3) (v := .long xkeptRange) (ty := .long) (C := "RangeCoders$Bits") (T := T_Bits) (N := 15) hx hb hg in_Bits t_Bits o_Bits n_Bits hown hK hP hD hS 0 rfl rfl 10 (by decide) (hg _ k98) (fun x9 h9 => u_same (hg _ k99) x9 h9) rfl (by decide +kernel) rfl rfl (Nat.le_of_ble_eq_true rfl) d_Bits_undone_13 (fun H locs hP hD hS => ?_)
  have hP : va_P (dC, dI) vwCl [(co, .inr (3, [.int xshift, .long xkeptCode, .long xkeptRange, .int xkeptAsked, .int xcache, .int xpending, .long xlow, .long xrange, .long xkeptCode, .long xreadLow, .long xkeptRange, .ref ri, .ref ro, .ref rw, .int xasked]))] H := hP
  have hD : va_D A [(co, .inr (3, [.int xshift, .long xkeptCode, .long xkeptRange, .int xkeptAsked, .int xcache, .int xpending, .long xlow, .long xrange, .long xkeptCode, .long xreadLow, .long xkeptRange, .ref ri, .ref ro, .ref rw, .int xasked]))] := hD
  refine lv_aload_n hx hb d_Bits_undone_16 rfl (lv_at hl 0 rfl) ?_
  refine lv_aload_n hx hb d_Bits_undone_17 rfl (lv_at hl 0 rfl) ?_
  refine va_get (D := (dC, dI)) (ci := 3) (v := .int xkeptAsked) (C := "RangeCoders$Bits") (T := T_Bits) (N := 15) hx hb hg in_Bits hown hK hP 0 rfl rfl 3 (by decide) (hg _ k179) (fun _ h9 => h9) rfl d_Bits_undone_18 ?_
  refine va_put (D := (dC, dI)) (ci := 3) (v := .int xkeptAsked) (ty := .int) (C := "RangeCoders$Bits") (T := T_Bits) (N := 15) hx hb hg in_Bits t_Bits o_Bits n_Bits hown hK hP hD hS 0 rfl rfl 14 (by decide) (hg _ k128) (fun x9 h9 => u_same (hg _ k129) x9 h9) rfl (by decide +kernel) rfl rfl (Nat.le_of_ble_eq_true rfl) d_Bits_undone_21 (fun H locs hP hD hS => ?_)
  have hP : va_P (dC, dI) vwCl [(co, .inr (3, [.int xshift, .long xkeptCode, .long xkeptRange, .int xkeptAsked, .int xcache, .int xpending, .long xlow, .long xrange, .long xkeptCode, .long xreadLow, .long xkeptRange, .ref ri, .ref ro, .ref rw, .int xkeptAsked]))] H := hP
  have hD : va_D A [(co, .inr (3, [.int xshift, .long xkeptCode, .long xkeptRange, .int xkeptAsked, .int xcache, .int xpending, .long xlow, .long xrange, .long xkeptCode, .long xreadLow, .long xkeptRange, .ref ri, .ref ro, .ref rw, .int xkeptAsked]))] := hD
  refine lv_iconst (v := (-1)) hx hb d_Bits_undone_24 (by decide) ?_
  exact my_iret (v := (-1)) hx hb hr (rfl) hlocks hQ hK hS (Nat.le_refl _) (Nat.le_refl _) (xkeptCode, xkeptRange, xkeptAsked) (trivial) (hP.sub [0] rfl) (hD.sub [0] (by decide) rfl) d_Bits_undone_25
set_option maxHeartbeats 2000000 in
set_option maxRecDepth 100000 in
theorem c_Bits_Bits_nextBit (l : Launch) (dC : Nat → ClassId) (dI : Nat → Nat → Nat) (cI cM cO : ClassId) (sz : Nat) (co : Nat) (xshift : Int32) (xkeptCode : Int64) (xkeptRange : Int64) (xkeptAsked : Int32) (xcache : Int32) (xpending : Int32) (xlow : Int64) (xrange : Int64) (xcode : Int64) (xreadLow : Int64) (xreadRange : Int64) (ri : Nat) (ro : Nat) (rw : Nat) (xasked : Int32) (rin : Int32) (ria : Nat) (rik : Nat) (rif : Nat → Int32) (oo : Nat) (osg : Int32) (osm : Int32) (ofc : Int32) (oca : Nat) (opa : Nat) (ol : Nat) (ocf : Nat → Int32) (opl : Nat) (opf : Nat → Int32) (nd : Int32) (hri : rOk rin rik) (hol : ol ≤ 64) (hopl : opl ≤ 512) : MetI l y_Bits_nextBit (Cond.code y_Bits_nextBit prog_2_method_11_code 6 (some .int) :: gw) ({ frames := 4, cells := 0, slots := 0, locals := 84 } : Room) (dC, dI) vwCl (kT cI cM cO) [.ref co, .ref oo, .int nd] [(co, .inr (3, [.int xshift, .long xkeptCode, .long xkeptRange, .int xkeptAsked, .int xcache, .int xpending, .long xlow, .long xrange, .long xcode, .long xreadLow, .long xreadRange, .ref ri, .ref ro, .ref rw, .int xasked])), (ri, .inr (0, [.int rin, .ref ria])), (ria, .inl (cI, rik, .inl rif)), (oo, .inr (7, [.int osg, .int osm, .int ofc, .ref oca, .ref opa])), (oca, .inl (cI, ol, .inl ocf)), (opa, .inl (cI, opl, .inl opf))] sz (fun (r : Int32) (u : Int64 × Int64 × Int32 × Int32 × (Nat → Int32)) => True) (fun (u : Int64 × Int64 × Int32 × Int32 × (Nat → Int32)) => [(co, .inr (3, [.int xshift, .long xkeptCode, .long xkeptRange, .int xkeptAsked, .int xcache, .int xpending, .long xlow, .long xrange, .long u.1, .long xreadLow, .long u.2.1, .ref ri, .ref ro, .ref rw, .int u.2.2.1])), (ri, .inr (0, [.int rin, .ref ria])), (ria, .inl (cI, rik, .inl rif)), (oo, .inr (7, [.int osg, .int u.2.2.2.1, .int ofc, .ref oca, .ref opa])), (oca, .inl (cI, ol, .inl u.2.2.2.2)), (opa, .inl (cI, opl, .inl opf))]) 0 0 := by
  refine my_ofI (cc := prog_2_method_11_code) (n := 6) (ret := (some .int)) (by decide) rfl (Nat.le_of_ble_eq_true rfl) ?_
  intro p e s m args below meth c R Q A ls H locs hx hb hr hts hown hlocks hml hnm hR hQ hA hl hP hK hN hD hS
  have hg : ∀ w ∈ gw, w.before args s = true := fun w h => hts w (List.mem_cons_of_mem _ h)
  have hown : s.vm.findClass "RangeCoders$Bits" = some m.cls := hown
  have hl : lv_has ls 6 [(0, .ref co), (1, .ref oo), (2, .int nd)] := hl
  have hlt_hri := rOk_lt hri
  refine lv_aload_n hx hb d_Bits_nextBit_0 rfl (lv_at hl 0 rfl) ?_
  refine va_get (D := (dC, dI)) (ci := 3) (v := .long xreadRange) (C := "RangeCoders$Bits") (T := T_Bits) (N := 15) hx hb hg in_Bits hown hK hP 0 rfl rfl 10 (by decide) (hg _ k98) (fun x9 h9 => u_same (hg _ k99) x9 h9) rfl d_Bits_nextBit_1 ?_
  refine lv_bipush (v := 11) hx hb d_Bits_nextBit_4 (by decide) ?_
  refine lv_lushr hx hb d_Bits_nextBit_6 rfl ?_
  refine lv_topl (fun v_1 ev_1 => ?_)
  refine lv_aload_n hx hb d_Bits_nextBit_7 rfl (lv_at hl 1 rfl) ?_
  refine lv_iload_n hx hb d_Bits_nextBit_8 rfl (lv_at hl 2 rfl) ?_
  refine my_ci (wr := [(co, .inr (3, [.int xshift, .long xkeptCode, .long xkeptRange, .int xkeptAsked, .int xcache, .int xpending, .long xlow, .long xrange, .long xcode, .long xreadLow, .long xreadRange, .ref ri, .ref ro, .ref rw, .int xasked])), (ri, .inr (0, [.int rin, .ref ria])), (ria, .inl (cI, rik, .inl rif))]) (va_runV (As := [.int nd]) (rest := [.long v_1]) ⟨hx, hb, hml, hown, hts⟩ (c_Odds_at l dC dI cI cM cO H.size oo osg osm ofc oca opa ol ocf opl opf nd (by first | assumption | omega) (by first | assumption | omega)) (cwV 1 hts (my_gV k449 k436 k437 k14 k438) rfl rfl rfl (by decide +kernel) ⟨by rw [hR]; exact Nat.le_of_ble_eq_true rfl, by rw [hR]; exact Nat.le_of_ble_eq_true rfl⟩) (my_preV hK hN (hP.sub [3, 4, 5] rfl) (hD.sub [3, 4, 5] (by decide) rfl) 0 rfl rfl) rfl rfl hl.1 rfl (lv_room (Nat.le_of_ble_eq_true rfl)) d_Bits_nextBit_9 ⟨by rw [hR]; exact Nat.le_of_ble_eq_true rfl, by rw [hR]; exact Nat.le_of_ble_eq_true rfl⟩) hP hD hS hA [3, 4, 5] [0, 1, 2] rfl rfl (by decide) (by decide) (fun r_9 u9 H locs hw_9 hP hD hS => ?_)
  have hP : va_P (dC, dI) vwCl [(co, .inr (3, [.int xshift, .long xkeptCode, .long xkeptRange, .int xkeptAsked, .int xcache, .int xpending, .long xlow, .long xrange, .long xcode, .long xreadLow, .long xreadRange, .ref ri, .ref ro, .ref rw, .int xasked])), (ri, .inr (0, [.int rin, .ref ria])), (ria, .inl (cI, rik, .inl rif)), (oo, .inr (7, [.int osg, .int osm, .int ofc, .ref oca, .ref opa])), (oca, .inl (cI, ol, .inl ocf)), (opa, .inl (cI, opl, .inl opf))] H := hP
  have hD : va_D A [(co, .inr (3, [.int xshift, .long xkeptCode, .long xkeptRange, .int xkeptAsked, .int xcache, .int xpending, .long xlow, .long xrange, .long xcode, .long xreadLow, .long xreadRange, .ref ri, .ref ro, .ref rw, .int xasked])), (ri, .inr (0, [.int rin, .ref ria])), (ria, .inl (cI, rik, .inl rif)), (oo, .inr (7, [.int osg, .int osm, .int ofc, .ref oca, .ref opa])), (oca, .inl (cI, ol, .inl ocf)), (opa, .inl (cI, opl, .inl opf))] := hD
  refine lv_i2l hx hb d_Bits_nextBit_12 rfl ?_
  refine lv_topl (fun v_2 ev_2 => ?_)
  refine lv_lmul hx hb d_Bits_nextBit_13 ?_
  refine lv_topl (fun v_3 ev_3 => ?_)
  refine lv_lstore_n (lv' := [(3, .long v_3), (0, .ref co), (1, .ref oo), (2, .int nd)]) hx hb d_Bits_nextBit_14 rfl hl (by decide) rfl (fun ls hl => ?_)
  refine lv_aload_n hx hb d_Bits_nextBit_15 rfl (lv_at hl 1 rfl) ?_
  refine va_get (D := (dC, dI)) (ci := 3) (v := .long xcode) (C := "RangeCoders$Bits") (T := T_Bits) (N := 15) hx hb hg in_Bits hown hK hP 0 rfl rfl 8 (by decide) (hg _ k88) (fun x9 h9 => u_same (hg _ k89) x9 h9) rfl d_Bits_nextBit_16 ?_
  refine lv_lload_n hx hb d_Bits_nextBit_19 rfl (lv_at hl 0 rfl) ?_
  refine W.lcmp hx hb d_Bits_nextBit_20 ?_
  refine lv_if_ge (tgt := 28) hx hb d_Bits_nextBit_21 (by decide) (fun c_4 => ?_) (fun c_4 => ?_)
  · rw [lg_cmp_ge] at c_4
    refine lv_iconst (v := 1) hx hb d_Bits_nextBit_28 (by decide) ?_
    refine lv_istore (lv' := [(5, .int 1), (3, .long v_3), (0, .ref co), (1, .ref oo), (2, .int nd)]) hx hb d_Bits_nextBit_29 hl (by decide) rfl (fun ls hl => ?_)
    refine lv_iload hx hb d_Bits_nextBit_31 (lv_at hl 0 rfl) ?_
    refine lv_if_ne (tgt := 44) hx hb d_Bits_nextBit_33 (by decide) (fun c_5 => ?_) (fun c_5 => ?_)
    · refine lv_aload_n hx hb d_Bits_nextBit_44 rfl (lv_at hl 2 rfl) ?_
      refine lv_dup hx hb d_Bits_nextBit_45 rfl ?_
      refine va_get (D := (dC, dI)) (ci := 3) (v := .long xcode) (C := "RangeCoders$Bits") (T := T_Bits) (N := 15) hx hb hg in_Bits hown hK hP 0 rfl rfl 8 (by decide) (hg _ k88) (fun x9 h9 => u_same (hg _ k89) x9 h9) rfl d_Bits_nextBit_46 ?_
      refine lv_lload_n hx hb d_Bits_nextBit_49 rfl (lv_at hl 1 rfl) ?_
      refine lv_lsub hx hb d_Bits_nextBit_50 ?_
      refine lv_topl (fun v_6 ev_6 => ?_)
      refine va_put (D := (dC, dI)) (ci := 3) (v := .long v_6) (ty := .long) (C := "RangeCoders$Bits") (T := T_Bits) (N := 15) hx hb hg in_Bits t_Bits o_Bits n_Bits hown hK hP hD hS 0 rfl rfl 8 (by decide) (hg _ k88) (fun x9 h9 => u_same (hg _ k89) x9 h9) rfl (by decide +kernel) rfl rfl (Nat.le_of_ble_eq_true rfl) d_Bits_nextBit_51 (fun H locs hP hD hS => ?_)
      have hP : va_P (dC, dI) vwCl [(co, .inr (3, [.int xshift, .long xkeptCode, .long xkeptRange, .int xkeptAsked, .int xcache, .int xpending, .long xlow, .long xrange, .long v_6, .long xreadLow, .long xreadRange, .ref ri, .ref ro, .ref rw, .int xasked])), (ri, .inr (0, [.int rin, .ref ria])), (ria, .inl (cI, rik, .inl rif)), (oo, .inr (7, [.int osg, .int osm, .int ofc, .ref oca, .ref opa])), (oca, .inl (cI, ol, .inl ocf)), (opa, .inl (cI, opl, .inl opf))] H := hP
      have hD : va_D A [(co, .inr (3, [.int xshift, .long xkeptCode, .long xkeptRange, .int xkeptAsked, .int xcache, .int xpending, .long xlow, .long xrange, .long v_6, .long xreadLow, .long xreadRange, .ref ri, .ref ro, .ref rw, .int xasked])), (ri, .inr (0, [.int rin, .ref ria])), (ria, .inl (cI, rik, .inl rif)), (oo, .inr (7, [.int osg, .int osm, .int ofc, .ref oca, .ref opa])), (oca, .inl (cI, ol, .inl ocf)), (opa, .inl (cI, opl, .inl opf))] := hD
      refine lv_aload_n hx hb d_Bits_nextBit_54 rfl (lv_at hl 2 rfl) ?_
      refine lv_dup hx hb d_Bits_nextBit_55 rfl ?_
      refine va_get (D := (dC, dI)) (ci := 3) (v := .long xreadRange) (C := "RangeCoders$Bits") (T := T_Bits) (N := 15) hx hb hg in_Bits hown hK hP 0 rfl rfl 10 (by decide) (hg _ k98) (fun x9 h9 => u_same (hg _ k99) x9 h9) rfl d_Bits_nextBit_56 ?_
      refine lv_lload_n hx hb d_Bits_nextBit_59 rfl (lv_at hl 1 rfl) ?_
      refine lv_lsub hx hb d_Bits_nextBit_60 ?_
      refine lv_topl (fun v_7 ev_7 => ?_)
      refine va_put (D := (dC, dI)) (ci := 3) (v := .long v_7) (ty := .long) (C := "RangeCoders$Bits") (T := T_Bits) (N := 15) hx hb hg in_Bits t_Bits o_Bits n_Bits hown hK hP hD hS 0 rfl rfl 10 (by decide) (hg _ k98) (fun x9 h9 => u_same (hg _ k99) x9 h9) rfl (by decide +kernel) rfl rfl (Nat.le_of_ble_eq_true rfl) d_Bits_nextBit_61 (fun H locs hP hD hS => ?_)
      have hP : va_P (dC, dI) vwCl [(co, .inr (3, [.int xshift, .long xkeptCode, .long xkeptRange, .int xkeptAsked, .int xcache, .int xpending, .long xlow, .long xrange, .long v_6, .long xreadLow, .long v_7, .ref ri, .ref ro, .ref rw, .int xasked])), (ri, .inr (0, [.int rin, .ref ria])), (ria, .inl (cI, rik, .inl rif)), (oo, .inr (7, [.int osg, .int osm, .int ofc, .ref oca, .ref opa])), (oca, .inl (cI, ol, .inl ocf)), (opa, .inl (cI, opl, .inl opf))] H := hP
      have hD : va_D A [(co, .inr (3, [.int xshift, .long xkeptCode, .long xkeptRange, .int xkeptAsked, .int xcache, .int xpending, .long xlow, .long xrange, .long v_6, .long xreadLow, .long v_7, .ref ri, .ref ro, .ref rw, .int xasked])), (ri, .inr (0, [.int rin, .ref ria])), (ria, .inl (cI, rik, .inl rif)), (oo, .inr (7, [.int osg, .int osm, .int ofc, .ref oca, .ref opa])), (oca, .inl (cI, ol, .inl ocf)), (opa, .inl (cI, opl, .inl opf))] := hD
      refine lv_aload_n hx hb d_Bits_nextBit_64 rfl (lv_at hl 2 rfl) ?_
      refine lv_aload_n hx hb d_Bits_nextBit_65 rfl (lv_at hl 3 rfl) ?_
      refine lv_iload_n hx hb d_Bits_nextBit_66 rfl (lv_at hl 4 rfl) ?_
      refine lv_iload hx hb d_Bits_nextBit_67 (lv_at hl 0 rfl) ?_
      refine my_cv (wr := [(ri, .inr (0, [.int rin, .ref ria])), (ria, .inl (cI, rik, .inl rif))]) (va_runV (As := [.ref oo, .int nd, .int 1]) (rest := []) ⟨hx, hb, hml, hown, hts⟩ (c_Bits_Bits_adapt l dC dI cI cM cO H.size co xshift xkeptCode xkeptRange xkeptAsked xcache xpending xlow xrange v_6 xreadLow v_7 ri ro rw xasked oo osg osm ofc oca opa ol ocf opl opf nd 1 (by first | assumption | omega) (by first | assumption | omega)) (cwV 3 hts (my_gV k450 k452 ks5 k8 k453) rfl rfl rfl (by decide +kernel) ⟨by rw [hR]; exact Nat.le_of_ble_eq_true rfl, by rw [hR]; exact Nat.le_of_ble_eq_true rfl⟩) (my_preV hK hN (hP.sub [0, 3, 4, 5] rfl) (hD.sub [0, 3, 4, 5] (by decide) rfl) 0 rfl rfl) rfl rfl hl.1 rfl (lv_room (Nat.le_of_ble_eq_true rfl)) d_Bits_nextBit_69 ⟨by rw [hR]; exact Nat.le_of_ble_eq_true rfl, by rw [hR]; exact Nat.le_of_ble_eq_true rfl⟩) hP hD hS hA [0, 3, 4, 5] [1, 2] rfl rfl (by decide) (by decide) (fun u9 H locs hw_69 hP hD hS => ?_)
      obtain ⟨osmq_69, ocfq_69⟩ := u9
      have hP : va_P (dC, dI) vwCl [(ri, .inr (0, [.int rin, .ref ria])), (ria, .inl (cI, rik, .inl rif)), (co, .inr (3, [.int xshift, .long xkeptCode, .long xkeptRange, .int xkeptAsked, .int xcache, .int xpending, .long xlow, .long xrange, .long v_6, .long xreadLow, .long v_7, .ref ri, .ref ro, .ref rw, .int xasked])), (oo, .inr (7, [.int osg, .int osmq_69, .int ofc, .ref oca, .ref opa])), (oca, .inl (cI, ol, .inl ocfq_69)), (opa, .inl (cI, opl, .inl opf))] H := hP
      have hD : va_D A [(ri, .inr (0, [.int rin, .ref ria])), (ria, .inl (cI, rik, .inl rif)), (co, .inr (3, [.int xshift, .long xkeptCode, .long xkeptRange, .int xkeptAsked, .int xcache, .int xpending, .long xlow, .long xrange, .long v_6, .long xreadLow, .long v_7, .ref ri, .ref ro, .ref rw, .int xasked])), (oo, .inr (7, [.int osg, .int osmq_69, .int ofc, .ref oca, .ref opa])), (oca, .inl (cI, ol, .inl ocfq_69)), (opa, .inl (cI, opl, .inl opf))] := hD
      refine lv_aload_n hx hb d_Bits_nextBit_72 rfl (lv_at hl 2 rfl) ?_
      refine my_cv (wr := [(oo, .inr (7, [.int osg, .int osmq_69, .int ofc, .ref oca, .ref opa])), (oca, .inl (cI, ol, .inl ocfq_69)), (opa, .inl (cI, opl, .inl opf))]) (va_runU (As := []) (rest := []) ⟨hx, hb, hml, hown, hts⟩ (c_Bits_Carries_widenReading l dC dI cI cM cO H.size co xshift xkeptCode xkeptRange xkeptAsked xcache xpending xlow xrange v_6 xreadLow v_7 ri ro rw xasked rin ria rik rif (by first | assumption | omega)) (va_cwU 0 hts (my_gU k789 k790 k792 k793 k5 k794) rfl rfl rfl rfl (by decide +kernel) ⟨by rw [hR]; exact Nat.le_of_ble_eq_true rfl, by rw [hR]; exact Nat.le_of_ble_eq_true rfl⟩) (my_preV hK hN (hP.sub [2, 0, 1] rfl) (hD.sub [2, 0, 1] (by decide) rfl) 0 rfl rfl) rfl rfl hl.1 rfl (lv_room (Nat.le_of_ble_eq_true rfl)) d_Bits_nextBit_73 ⟨by rw [hR]; exact Nat.le_of_ble_eq_true rfl, by rw [hR]; exact Nat.le_of_ble_eq_true rfl⟩) hP hD hS hA [2, 0, 1] [3, 4, 5] rfl rfl (by decide) (by decide) (fun u9 H locs hw_73 hP hD hS => ?_)
      obtain ⟨xcodeq_73, xreadRangeq_73, xaskedq_73⟩ := u9
      have hP : va_P (dC, dI) vwCl [(oo, .inr (7, [.int osg, .int osmq_69, .int ofc, .ref oca, .ref opa])), (oca, .inl (cI, ol, .inl ocfq_69)), (opa, .inl (cI, opl, .inl opf)), (co, .inr (3, [.int xshift, .long xkeptCode, .long xkeptRange, .int xkeptAsked, .int xcache, .int xpending, .long xlow, .long xrange, .long xcodeq_73, .long xreadLow, .long xreadRangeq_73, .ref ri, .ref ro, .ref rw, .int xaskedq_73])), (ri, .inr (0, [.int rin, .ref ria])), (ria, .inl (cI, rik, .inl rif))] H := hP
      have hD : va_D A [(oo, .inr (7, [.int osg, .int osmq_69, .int ofc, .ref oca, .ref opa])), (oca, .inl (cI, ol, .inl ocfq_69)), (opa, .inl (cI, opl, .inl opf)), (co, .inr (3, [.int xshift, .long xkeptCode, .long xkeptRange, .int xkeptAsked, .int xcache, .int xpending, .long xlow, .long xrange, .long xcodeq_73, .long xreadLow, .long xreadRangeq_73, .ref ri, .ref ro, .ref rw, .int xaskedq_73])), (ri, .inr (0, [.int rin, .ref ria])), (ria, .inl (cI, rik, .inl rif))] := hD
      refine lv_iload hx hb d_Bits_nextBit_76 (lv_at hl 0 rfl) ?_
      exact my_iret (v := 1) hx hb hr (rfl) hlocks hQ hK hS (Nat.le_refl _) (Nat.le_refl _) (xcodeq_73, xreadRangeq_73, xaskedq_73, osmq_69, ocfq_69) (trivial) (hP.sub [3, 4, 5, 0, 1, 2] rfl) (hD.sub [3, 4, 5, 0, 1, 2] (by decide) rfl) d_Bits_nextBit_78
    · exact absurd c_5 (by decide)
  · rw [lg_cmp_ge] at c_4
    refine lv_iconst (v := 0) hx hb d_Bits_nextBit_24 (by decide) ?_
    refine lv_goto (tgt := 29) hx hb d_Bits_nextBit_25 (by decide) ?_
    refine lv_istore (lv' := [(5, .int 0), (3, .long v_3), (0, .ref co), (1, .ref oo), (2, .int nd)]) hx hb d_Bits_nextBit_29 hl (by decide) rfl (fun ls hl => ?_)
    refine lv_iload hx hb d_Bits_nextBit_31 (lv_at hl 0 rfl) ?_
    refine lv_if_ne (tgt := 44) hx hb d_Bits_nextBit_33 (by decide) (fun c_8 => ?_) (fun c_8 => ?_)
    · exact absurd rfl c_8
    · refine lv_aload_n hx hb d_Bits_nextBit_36 rfl (lv_at hl 2 rfl) ?_
      refine lv_lload_n hx hb d_Bits_nextBit_37 rfl (lv_at hl 1 rfl) ?_
      refine va_put (D := (dC, dI)) (ci := 3) (v := .long v_3) (ty := .long) (C := "RangeCoders$Bits") (T := T_Bits) (N := 15) hx hb hg in_Bits t_Bits o_Bits n_Bits hown hK hP hD hS 0 rfl rfl 10 (by decide) (hg _ k98) (fun x9 h9 => u_same (hg _ k99) x9 h9) rfl (by decide +kernel) rfl rfl (Nat.le_of_ble_eq_true rfl) d_Bits_nextBit_38 (fun H locs hP hD hS => ?_)
      have hP : va_P (dC, dI) vwCl [(co, .inr (3, [.int xshift, .long xkeptCode, .long xkeptRange, .int xkeptAsked, .int xcache, .int xpending, .long xlow, .long xrange, .long xcode, .long xreadLow, .long v_3, .ref ri, .ref ro, .ref rw, .int xasked])), (ri, .inr (0, [.int rin, .ref ria])), (ria, .inl (cI, rik, .inl rif)), (oo, .inr (7, [.int osg, .int osm, .int ofc, .ref oca, .ref opa])), (oca, .inl (cI, ol, .inl ocf)), (opa, .inl (cI, opl, .inl opf))] H := hP
      have hD : va_D A [(co, .inr (3, [.int xshift, .long xkeptCode, .long xkeptRange, .int xkeptAsked, .int xcache, .int xpending, .long xlow, .long xrange, .long xcode, .long xreadLow, .long v_3, .ref ri, .ref ro, .ref rw, .int xasked])), (ri, .inr (0, [.int rin, .ref ria])), (ria, .inl (cI, rik, .inl rif)), (oo, .inr (7, [.int osg, .int osm, .int ofc, .ref oca, .ref opa])), (oca, .inl (cI, ol, .inl ocf)), (opa, .inl (cI, opl, .inl opf))] := hD
      refine lv_goto (tgt := 64) hx hb d_Bits_nextBit_41 (by decide) ?_
      refine lv_aload_n hx hb d_Bits_nextBit_64 rfl (lv_at hl 2 rfl) ?_
      refine lv_aload_n hx hb d_Bits_nextBit_65 rfl (lv_at hl 3 rfl) ?_
      refine lv_iload_n hx hb d_Bits_nextBit_66 rfl (lv_at hl 4 rfl) ?_
      refine lv_iload hx hb d_Bits_nextBit_67 (lv_at hl 0 rfl) ?_
      refine my_cv (wr := [(ri, .inr (0, [.int rin, .ref ria])), (ria, .inl (cI, rik, .inl rif))]) (va_runV (As := [.ref oo, .int nd, .int 0]) (rest := []) ⟨hx, hb, hml, hown, hts⟩ (c_Bits_Bits_adapt l dC dI cI cM cO H.size co xshift xkeptCode xkeptRange xkeptAsked xcache xpending xlow xrange xcode xreadLow v_3 ri ro rw xasked oo osg osm ofc oca opa ol ocf opl opf nd 0 (by first | assumption | omega) (by first | assumption | omega)) (cwV 3 hts (my_gV k450 k452 ks5 k8 k453) rfl rfl rfl (by decide +kernel) ⟨by rw [hR]; exact Nat.le_of_ble_eq_true rfl, by rw [hR]; exact Nat.le_of_ble_eq_true rfl⟩) (my_preV hK hN (hP.sub [0, 3, 4, 5] rfl) (hD.sub [0, 3, 4, 5] (by decide) rfl) 0 rfl rfl) rfl rfl hl.1 rfl (lv_room (Nat.le_of_ble_eq_true rfl)) d_Bits_nextBit_69 ⟨by rw [hR]; exact Nat.le_of_ble_eq_true rfl, by rw [hR]; exact Nat.le_of_ble_eq_true rfl⟩) hP hD hS hA [0, 3, 4, 5] [1, 2] rfl rfl (by decide) (by decide) (fun u9 H locs hw_69 hP hD hS => ?_)
      obtain ⟨osmq_69, ocfq_69⟩ := u9
      have hP : va_P (dC, dI) vwCl [(ri, .inr (0, [.int rin, .ref ria])), (ria, .inl (cI, rik, .inl rif)), (co, .inr (3, [.int xshift, .long xkeptCode, .long xkeptRange, .int xkeptAsked, .int xcache, .int xpending, .long xlow, .long xrange, .long xcode, .long xreadLow, .long v_3, .ref ri, .ref ro, .ref rw, .int xasked])), (oo, .inr (7, [.int osg, .int osmq_69, .int ofc, .ref oca, .ref opa])), (oca, .inl (cI, ol, .inl ocfq_69)), (opa, .inl (cI, opl, .inl opf))] H := hP
      have hD : va_D A [(ri, .inr (0, [.int rin, .ref ria])), (ria, .inl (cI, rik, .inl rif)), (co, .inr (3, [.int xshift, .long xkeptCode, .long xkeptRange, .int xkeptAsked, .int xcache, .int xpending, .long xlow, .long xrange, .long xcode, .long xreadLow, .long v_3, .ref ri, .ref ro, .ref rw, .int xasked])), (oo, .inr (7, [.int osg, .int osmq_69, .int ofc, .ref oca, .ref opa])), (oca, .inl (cI, ol, .inl ocfq_69)), (opa, .inl (cI, opl, .inl opf))] := hD
      refine lv_aload_n hx hb d_Bits_nextBit_72 rfl (lv_at hl 2 rfl) ?_
      refine my_cv (wr := [(oo, .inr (7, [.int osg, .int osmq_69, .int ofc, .ref oca, .ref opa])), (oca, .inl (cI, ol, .inl ocfq_69)), (opa, .inl (cI, opl, .inl opf))]) (va_runU (As := []) (rest := []) ⟨hx, hb, hml, hown, hts⟩ (c_Bits_Carries_widenReading l dC dI cI cM cO H.size co xshift xkeptCode xkeptRange xkeptAsked xcache xpending xlow xrange xcode xreadLow v_3 ri ro rw xasked rin ria rik rif (by first | assumption | omega)) (va_cwU 0 hts (my_gU k789 k790 k792 k793 k5 k794) rfl rfl rfl rfl (by decide +kernel) ⟨by rw [hR]; exact Nat.le_of_ble_eq_true rfl, by rw [hR]; exact Nat.le_of_ble_eq_true rfl⟩) (my_preV hK hN (hP.sub [2, 0, 1] rfl) (hD.sub [2, 0, 1] (by decide) rfl) 0 rfl rfl) rfl rfl hl.1 rfl (lv_room (Nat.le_of_ble_eq_true rfl)) d_Bits_nextBit_73 ⟨by rw [hR]; exact Nat.le_of_ble_eq_true rfl, by rw [hR]; exact Nat.le_of_ble_eq_true rfl⟩) hP hD hS hA [2, 0, 1] [3, 4, 5] rfl rfl (by decide) (by decide) (fun u9 H locs hw_73 hP hD hS => ?_)
      obtain ⟨xcodeq_73, xreadRangeq_73, xaskedq_73⟩ := u9
      have hP : va_P (dC, dI) vwCl [(oo, .inr (7, [.int osg, .int osmq_69, .int ofc, .ref oca, .ref opa])), (oca, .inl (cI, ol, .inl ocfq_69)), (opa, .inl (cI, opl, .inl opf)), (co, .inr (3, [.int xshift, .long xkeptCode, .long xkeptRange, .int xkeptAsked, .int xcache, .int xpending, .long xlow, .long xrange, .long xcodeq_73, .long xreadLow, .long xreadRangeq_73, .ref ri, .ref ro, .ref rw, .int xaskedq_73])), (ri, .inr (0, [.int rin, .ref ria])), (ria, .inl (cI, rik, .inl rif))] H := hP
      have hD : va_D A [(oo, .inr (7, [.int osg, .int osmq_69, .int ofc, .ref oca, .ref opa])), (oca, .inl (cI, ol, .inl ocfq_69)), (opa, .inl (cI, opl, .inl opf)), (co, .inr (3, [.int xshift, .long xkeptCode, .long xkeptRange, .int xkeptAsked, .int xcache, .int xpending, .long xlow, .long xrange, .long xcodeq_73, .long xreadLow, .long xreadRangeq_73, .ref ri, .ref ro, .ref rw, .int xaskedq_73])), (ri, .inr (0, [.int rin, .ref ria])), (ria, .inl (cI, rik, .inl rif))] := hD
      refine lv_iload hx hb d_Bits_nextBit_76 (lv_at hl 0 rfl) ?_
      exact my_iret (v := 0) hx hb hr (rfl) hlocks hQ hK hS (Nat.le_refl _) (Nat.le_refl _) (xcodeq_73, xreadRangeq_73, xaskedq_73, osmq_69, ocfq_69) (trivial) (hP.sub [3, 4, 5, 0, 1, 2] rfl) (hD.sub [3, 4, 5, 0, 1, 2] (by decide) rfl) d_Bits_nextBit_78
set_option maxHeartbeats 2000000 in
set_option maxRecDepth 100000 in
theorem c_Bits_Bits_nextSign (l : Launch) (dC : Nat → ClassId) (dI : Nat → Nat → Nat) (cI cM cO : ClassId) (sz : Nat) (co : Nat) (xshift : Int32) (xkeptCode : Int64) (xkeptRange : Int64) (xkeptAsked : Int32) (xcache : Int32) (xpending : Int32) (xlow : Int64) (xrange : Int64) (xcode : Int64) (xreadLow : Int64) (xreadRange : Int64) (ri : Nat) (ro : Nat) (rw : Nat) (xasked : Int32) (rin : Int32) (ria : Nat) (rik : Nat) (rif : Nat → Int32) (oo : Nat) (osg : Int32) (osm : Int32) (ofc : Int32) (oca : Nat) (opa : Nat) (ol : Nat) (ocf : Nat → Int32) (opl : Nat) (opf : Nat → Int32) (hri : rOk rin rik) (hol : ol ≤ 64) (hopl : opl ≤ 512) : MetI l y_Bits_nextSign (Cond.code y_Bits_nextSign prog_2_method_7_code 5 (some .int) :: gw) ({ frames := 5, cells := 0, slots := 0, locals := 109 } : Room) (dC, dI) vwCl (kT cI cM cO) [.ref co, .ref oo] [(co, .inr (3, [.int xshift, .long xkeptCode, .long xkeptRange, .int xkeptAsked, .int xcache, .int xpending, .long xlow, .long xrange, .long xcode, .long xreadLow, .long xreadRange, .ref ri, .ref ro, .ref rw, .int xasked])), (ri, .inr (0, [.int rin, .ref ria])), (ria, .inl (cI, rik, .inl rif)), (oo, .inr (7, [.int osg, .int osm, .int ofc, .ref oca, .ref opa])), (oca, .inl (cI, ol, .inl ocf)), (opa, .inl (cI, opl, .inl opf))] sz (fun (r : Int32) (u : Int64 × Int64 × Int32 × Int64 × Int64 × Int32 × Int32 × (Nat → Int32)) => True) (fun (u : Int64 × Int64 × Int32 × Int64 × Int64 × Int32 × Int32 × (Nat → Int32)) => [(co, .inr (3, [.int xshift, .long u.1, .long u.2.1, .int u.2.2.1, .int xcache, .int xpending, .long xlow, .long xrange, .long u.2.2.2.1, .long xreadLow, .long u.2.2.2.2.1, .ref ri, .ref ro, .ref rw, .int u.2.2.2.2.2.1])), (ri, .inr (0, [.int rin, .ref ria])), (ria, .inl (cI, rik, .inl rif)), (oo, .inr (7, [.int osg, .int u.2.2.2.2.2.2.1, .int ofc, .ref oca, .ref opa])), (oca, .inl (cI, ol, .inl u.2.2.2.2.2.2.2)), (opa, .inl (cI, opl, .inl opf))]) 0 0 := by
  refine my_ofI (cc := prog_2_method_7_code) (n := 5) (ret := (some .int)) (by decide) rfl (Nat.le_of_ble_eq_true rfl) ?_
  intro p e s m args below meth c R Q A ls H locs hx hb hr hts hown hlocks hml hnm hR hQ hA hl hP hK hN hD hS
  have hg : ∀ w ∈ gw, w.before args s = true := fun w h => hts w (List.mem_cons_of_mem _ h)
  have hown : s.vm.findClass "RangeCoders$Bits" = some m.cls := hown
  have hl : lv_has ls 5 [(0, .ref co), (1, .ref oo)] := hl
  have hlt_hri := rOk_lt hri
  refine lv_aload_n hx hb d_Bits_nextSign_0 rfl (lv_at hl 0 rfl) ?_
  refine va_get (D := (dC, dI)) (ci := 3) (v := .long xcode) (C := "RangeCoders$Bits") (T := T_Bits) (N := 15) hx hb hg in_Bits hown hK hP 0 rfl rfl 8 (by decide) (hg _ k88) (fun x9 h9 => u_same (hg _ k89) x9 h9) rfl d_Bits_nextSign_1 ?_
  refine lv_aload_n hx hb d_Bits_nextSign_4 rfl (lv_at hl 0 rfl) ?_
  refine va_get (D := (dC, dI)) (ci := 3) (v := .long xreadRange) (C := "RangeCoders$Bits") (T := T_Bits) (N := 15) hx hb hg in_Bits hown hK hP 0 rfl rfl 10 (by decide) (hg _ k98) (fun x9 h9 => u_same (hg _ k99) x9 h9) rfl d_Bits_nextSign_5 ?_
  refine W.lcmp hx hb d_Bits_nextSign_8 ?_
  refine lv_if_lt (tgt := 14) hx hb d_Bits_nextSign_9 (by decide) (fun c_1 => ?_) (fun c_1 => ?_)
  · rw [lg_cmp_lt] at c_1
    refine lv_aload_n hx hb d_Bits_nextSign_14 rfl (lv_at hl 0 rfl) ?_
    refine my_cv (wr := [(ri, .inr (0, [.int rin, .ref ria])), (ria, .inl (cI, rik, .inl rif)), (oo, .inr (7, [.int osg, .int osm, .int ofc, .ref oca, .ref opa])), (oca, .inl (cI, ol, .inl ocf)), (opa, .inl (cI, opl, .inl opf))]) (va_runV (As := []) (rest := []) ⟨hx, hb, hml, hown, hts⟩ (c_Bits_Bits_keepReading l dC dI cI cM cO H.size co xshift xkeptCode xkeptRange xkeptAsked xcache xpending xlow xrange xcode xreadLow xreadRange ri ro rw xasked) (cwV 0 hts (my_gV k781 k783 ks13 k8 k784) rfl rfl rfl (by decide +kernel) ⟨by rw [hR]; exact Nat.le_of_ble_eq_true rfl, by rw [hR]; exact Nat.le_of_ble_eq_true rfl⟩) (my_preV hK hN (hP.sub [0] rfl) (hD.sub [0] (by decide) rfl) 0 rfl rfl) rfl rfl hl.1 rfl (lv_room (Nat.le_of_ble_eq_true rfl)) d_Bits_nextSign_15 ⟨by rw [hR]; exact Nat.le_of_ble_eq_true rfl, by rw [hR]; exact Nat.le_of_ble_eq_true rfl⟩) hP hD hS hA [0] [1, 2, 3, 4, 5] rfl rfl (by decide) (by decide) (fun u9 H locs hw_15 hP hD hS => ?_)
    obtain ⟨xkeptCodeq_15, xkeptRangeq_15, xkeptAskedq_15⟩ := u9
    have hP : va_P (dC, dI) vwCl [(ri, .inr (0, [.int rin, .ref ria])), (ria, .inl (cI, rik, .inl rif)), (oo, .inr (7, [.int osg, .int osm, .int ofc, .ref oca, .ref opa])), (oca, .inl (cI, ol, .inl ocf)), (opa, .inl (cI, opl, .inl opf)), (co, .inr (3, [.int xshift, .long xkeptCodeq_15, .long xkeptRangeq_15, .int xkeptAskedq_15, .int xcache, .int xpending, .long xlow, .long xrange, .long xcode, .long xreadLow, .long xreadRange, .ref ri, .ref ro, .ref rw, .int xasked]))] H := hP
    have hD : va_D A [(ri, .inr (0, [.int rin, .ref ria])), (ria, .inl (cI, rik, .inl rif)), (oo, .inr (7, [.int osg, .int osm, .int ofc, .ref oca, .ref opa])), (oca, .inl (cI, ol, .inl ocf)), (opa, .inl (cI, opl, .inl opf)), (co, .inr (3, [.int xshift, .long xkeptCodeq_15, .long xkeptRangeq_15, .int xkeptAskedq_15, .int xcache, .int xpending, .long xlow, .long xrange, .long xcode, .long xreadLow, .long xreadRange, .ref ri, .ref ro, .ref rw, .int xasked]))] := hD
    refine lv_aload_n hx hb d_Bits_nextSign_18 rfl (lv_at hl 1 rfl) ?_
    refine va_get (D := (dC, dI)) (ci := 7) (v := .int osg) (C := "RangeCoders$Odds") (T := T_Odds) (N := 5) hx hb hg in_Odds hown hK hP 2 rfl rfl 0 (by decide) (hg _ k304) (fun _ h9 => h9) rfl d_Bits_nextSign_19 ?_
    refine my_ci (wr := [(ri, .inr (0, [.int rin, .ref ria])), (ria, .inl (cI, rik, .inl rif)), (oo, .inr (7, [.int osg, .int osm, .int ofc, .ref oca, .ref opa])), (oca, .inl (cI, ol, .inl ocf)), (opa, .inl (cI, opl, .inl opf)), (co, .inr (3, [.int xshift, .long xkeptCodeq_15, .long xkeptRangeq_15, .int xkeptAskedq_15, .int xcache, .int xpending, .long xlow, .long xrange, .long xcode, .long xreadLow, .long xreadRange, .ref ri, .ref ro, .ref rw, .int xasked]))]) (va_runS (As := [.int osg]) (rest := []) ⟨hx, hb, hml, hown, hts⟩ (c_Bits_levelsOf l dC dI cI cM cO H.size osg) (cwS 1 hts (my_gS k296 k297 k8 k298) rfl rfl rfl (by decide +kernel) ⟨by rw [hR]; exact Nat.le_of_ble_eq_true rfl, by rw [hR]; exact Nat.le_of_ble_eq_true rfl⟩) (my_pre hK hN (hP.sub [] rfl) (hD.sub [] (by decide) rfl)) rfl rfl hl.1 rfl (lv_room (Nat.le_of_ble_eq_true rfl)) d_Bits_nextSign_22 ⟨by rw [hR]; exact Nat.le_of_ble_eq_true rfl, by rw [hR]; exact Nat.le_of_ble_eq_true rfl⟩) hP hD hS hA [] [0, 1, 2, 3, 4, 5] rfl rfl (by decide) (by decide) (fun r_22 u9 H locs hw_22 hP hD hS => ?_)
    obtain ⟨hl1_22, hl6_22⟩ : 1 ≤ r_22.toInt ∧ r_22.toInt ≤ 6 := hw_22
    have hP : va_P (dC, dI) vwCl [(ri, .inr (0, [.int rin, .ref ria])), (ria, .inl (cI, rik, .inl rif)), (oo, .inr (7, [.int osg, .int osm, .int ofc, .ref oca, .ref opa])), (oca, .inl (cI, ol, .inl ocf)), (opa, .inl (cI, opl, .inl opf)), (co, .inr (3, [.int xshift, .long xkeptCodeq_15, .long xkeptRangeq_15, .int xkeptAskedq_15, .int xcache, .int xpending, .long xlow, .long xrange, .long xcode, .long xreadLow, .long xreadRange, .ref ri, .ref ro, .ref rw, .int xasked]))] H := hP
    have hD : va_D A [(ri, .inr (0, [.int rin, .ref ria])), (ria, .inl (cI, rik, .inl rif)), (oo, .inr (7, [.int osg, .int osm, .int ofc, .ref oca, .ref opa])), (oca, .inl (cI, ol, .inl ocf)), (opa, .inl (cI, opl, .inl opf)), (co, .inr (3, [.int xshift, .long xkeptCodeq_15, .long xkeptRangeq_15, .int xkeptAskedq_15, .int xcache, .int xpending, .long xlow, .long xrange, .long xcode, .long xreadLow, .long xreadRange, .ref ri, .ref ro, .ref rw, .int xasked]))] := hD
    refine lv_istore_n (lv' := [(2, .int r_22), (0, .ref co), (1, .ref oo)]) hx hb d_Bits_nextSign_25 rfl hl (by decide) rfl (fun ls hl => ?_)
    refine lv_iconst (v := 1) hx hb d_Bits_nextSign_26 (by decide) ?_
    refine lv_istore_n (lv' := [(3, .int 1), (2, .int r_22), (0, .ref co), (1, .ref oo)]) hx hb d_Bits_nextSign_27 rfl hl (by decide) rfl (fun ls hl => ?_)
    refine lv_iconst (v := 0) hx hb d_Bits_nextSign_28 (by decide) ?_
    refine lv_istore (lv' := [(4, .int 0), (3, .int 1), (2, .int r_22), (0, .ref co), (1, .ref oo)]) hx hb d_Bits_nextSign_29 hl (by decide) rfl (fun ls hl => ?_)
    have J_31 : ∀ (n9_31 : Nat) (b31_0 : Int32) (b31_1 : Int32) (b31_2 : Int32) (b31_3 : Nat → Int32) (b31_4 : Int64) (b31_5 : Int64) (b31_6 : Int32) (hn9_31 : (r_22.toInt - b31_0.toInt).toNat = n9_31) (hi_31 : 0 ≤ b31_0.toInt) (H : Heap) (locs : List Loc) (ls : Array Slot), va_P (dC, dI) vwCl [(ri, .inr (0, [.int rin, .ref ria])), (ria, .inl (cI, rik, .inl rif)), (oo, .inr (7, [.int osg, .int b31_2, .int ofc, .ref oca, .ref opa])), (oca, .inl (cI, ol, .inl b31_3)), (opa, .inl (cI, opl, .inl opf)), (co, .inr (3, [.int xshift, .long xkeptCodeq_15, .long xkeptRangeq_15, .int xkeptAskedq_15, .int xcache, .int xpending, .long xlow, .long xrange, .long b31_4, .long xreadLow, .long b31_5, .ref ri, .ref ro, .ref rw, .int b31_6]))] H → va_D A [(ri, .inr (0, [.int rin, .ref ria])), (ria, .inl (cI, rik, .inl rif)), (oo, .inr (7, [.int osg, .int b31_2, .int ofc, .ref oca, .ref opa])), (oca, .inl (cI, ol, .inl b31_3)), (opa, .inl (cI, opl, .inl opf)), (co, .inr (3, [.int xshift, .long xkeptCodeq_15, .long xkeptRangeq_15, .int xkeptAskedq_15, .int xcache, .int xpending, .long xlow, .long xrange, .long b31_4, .long xreadLow, .long b31_5, .ref ri, .ref ro, .ref rw, .int b31_6]))] → va_S A s.heap H locs → lv_has ls 5 [(4, .int b31_0), (3, .int b31_1), (2, .int r_22), (0, .ref co), (1, .ref oo)] → W p l e R s m args below meth c H locs 0 0 Q (F0 m 31 ls []) := by
      intro n9_31
      induction n9_31 using Nat.strongRecOn with
      | ind n9_31 ih9_31 =>
        intro b31_0 b31_1 b31_2 b31_3 b31_4 b31_5 b31_6 hn9_31 hi_31 H locs ls hP hD hS hl
        refine lv_iload hx hb d_Bits_nextSign_31 (lv_at hl 0 rfl) ?_
        refine lv_iload_n hx hb d_Bits_nextSign_33 rfl (lv_at hl 2 rfl) ?_
        refine lv_icmp_ge (tgt := 54) hx hb d_Bits_nextSign_34 (by decide) (fun c_2 => ?_) (fun c_2 => ?_)
        · refine lv_iload_n hx hb d_Bits_nextSign_54 rfl (lv_at hl 1 rfl) ?_
          refine lv_iconst (v := 1) hx hb d_Bits_nextSign_55 (by decide) ?_
          refine lv_iload_n hx hb d_Bits_nextSign_56 rfl (lv_at hl 2 rfl) ?_
          refine lv_ishl hx hb d_Bits_nextSign_57 ?_
          refine lv_topi (fun v_3 ev_3 => ?_)
          refine lv_isub hx hb d_Bits_nextSign_58 ?_
          refine lv_topi (fun v_4 ev_4 => ?_)
          refine lv_istore (lv' := [(4, .int v_4), (3, .int b31_1), (2, .int r_22), (0, .ref co), (1, .ref oo)]) hx hb d_Bits_nextSign_59 hl (by decide) rfl (fun ls hl => ?_)
          refine lv_iload hx hb d_Bits_nextSign_61 (lv_at hl 0 rfl) ?_
          refine lv_aload_n hx hb d_Bits_nextSign_63 rfl (lv_at hl 4 rfl) ?_
          refine va_get (D := (dC, dI)) (ci := 7) (v := .int osg) (C := "RangeCoders$Odds") (T := T_Odds) (N := 5) hx hb hg in_Odds hown hK hP 2 rfl rfl 0 (by decide) (hg _ k304) (fun _ h9 => h9) rfl d_Bits_nextSign_64 ?_
          refine lv_icmp_ge (tgt := 75) hx hb d_Bits_nextSign_67 (by decide) (fun c_5 => ?_) (fun c_5 => ?_)
          · refine lv_aload_n hx hb d_Bits_nextSign_75 rfl (lv_at hl 3 rfl) ?_
            refine my_ci (wr := [(ri, .inr (0, [.int rin, .ref ria])), (ria, .inl (cI, rik, .inl rif)), (oo, .inr (7, [.int osg, .int b31_2, .int ofc, .ref oca, .ref opa])), (oca, .inl (cI, ol, .inl b31_3)), (opa, .inl (cI, opl, .inl opf))]) (va_runV (As := []) (rest := []) ⟨hx, hb, hml, hown, hts⟩ (c_Bits_Bits_undone l dC dI cI cM cO H.size co xshift xkeptCodeq_15 xkeptRangeq_15 xkeptAskedq_15 xcache xpending xlow xrange b31_4 xreadLow b31_5 ri ro rw b31_6) (cwV 0 hts (my_gV k800 k802 ks15 k8 k803) rfl rfl rfl (by decide +kernel) ⟨by rw [hR]; exact Nat.le_of_ble_eq_true rfl, by rw [hR]; exact Nat.le_of_ble_eq_true rfl⟩) (my_preV hK hN (hP.sub [5] rfl) (hD.sub [5] (by decide) rfl) 0 rfl rfl) rfl rfl hl.1 rfl (lv_room (Nat.le_of_ble_eq_true rfl)) d_Bits_nextSign_76 ⟨by rw [hR]; exact Nat.le_of_ble_eq_true rfl, by rw [hR]; exact Nat.le_of_ble_eq_true rfl⟩) hP hD hS hA [5] [0, 1, 2, 3, 4] rfl rfl (by decide) (by decide) (fun r_76 u9 H locs hw_76 hP hD hS => ?_)
            obtain ⟨xcodeq_76, xreadRangeq_76, xaskedq_76⟩ := u9
            have hP : va_P (dC, dI) vwCl [(ri, .inr (0, [.int rin, .ref ria])), (ria, .inl (cI, rik, .inl rif)), (oo, .inr (7, [.int osg, .int b31_2, .int ofc, .ref oca, .ref opa])), (oca, .inl (cI, ol, .inl b31_3)), (opa, .inl (cI, opl, .inl opf)), (co, .inr (3, [.int xshift, .long xkeptCodeq_15, .long xkeptRangeq_15, .int xkeptAskedq_15, .int xcache, .int xpending, .long xlow, .long xrange, .long xcodeq_76, .long xreadLow, .long xreadRangeq_76, .ref ri, .ref ro, .ref rw, .int xaskedq_76]))] H := hP
            have hD : va_D A [(ri, .inr (0, [.int rin, .ref ria])), (ria, .inl (cI, rik, .inl rif)), (oo, .inr (7, [.int osg, .int b31_2, .int ofc, .ref oca, .ref opa])), (oca, .inl (cI, ol, .inl b31_3)), (opa, .inl (cI, opl, .inl opf)), (co, .inr (3, [.int xshift, .long xkeptCodeq_15, .long xkeptRangeq_15, .int xkeptAskedq_15, .int xcache, .int xpending, .long xlow, .long xrange, .long xcodeq_76, .long xreadLow, .long xreadRangeq_76, .ref ri, .ref ro, .ref rw, .int xaskedq_76]))] := hD
            exact my_iret (v := r_76) hx hb hr (rfl) hlocks hQ hK hS (Nat.le_refl _) (Nat.le_refl _) (xkeptCodeq_15, xkeptRangeq_15, xkeptAskedq_15, xcodeq_76, xreadRangeq_76, xaskedq_76, b31_2, b31_3) (trivial) (hP.sub [5, 0, 1, 2, 3, 4] rfl) (hD.sub [5, 0, 1, 2, 3, 4] (by decide) rfl) d_Bits_nextSign_79
          · refine lv_iload hx hb d_Bits_nextSign_70 (lv_at hl 0 rfl) ?_
            refine lv_goto (tgt := 79) hx hb d_Bits_nextSign_72 (by decide) ?_
            exact my_iret (v := v_4) hx hb hr (rfl) hlocks hQ hK hS (Nat.le_refl _) (Nat.le_refl _) (xkeptCodeq_15, xkeptRangeq_15, xkeptAskedq_15, b31_4, b31_5, b31_6, b31_2, b31_3) (trivial) (hP.sub [5, 0, 1, 2, 3, 4] rfl) (hD.sub [5, 0, 1, 2, 3, 4] (by decide) rfl) d_Bits_nextSign_79
        · refine lv_iconst (v := 2) hx hb d_Bits_nextSign_37 (by decide) ?_
          refine lv_iload_n hx hb d_Bits_nextSign_38 rfl (lv_at hl 1 rfl) ?_
          refine lv_imul hx hb d_Bits_nextSign_39 ?_
          refine lv_topi (fun v_6 ev_6 => ?_)
          refine lv_aload_n hx hb d_Bits_nextSign_40 rfl (lv_at hl 3 rfl) ?_
          refine lv_aload_n hx hb d_Bits_nextSign_41 rfl (lv_at hl 4 rfl) ?_
          refine lv_iload_n hx hb d_Bits_nextSign_42 rfl (lv_at hl 1 rfl) ?_
          refine my_ci (wr := []) (va_runV (As := [.ref oo, .int b31_1]) (rest := [.int v_6]) ⟨hx, hb, hml, hown, hts⟩ (c_Bits_Bits_nextBit l dC dI cI cM cO H.size co xshift xkeptCodeq_15 xkeptRangeq_15 xkeptAskedq_15 xcache xpending xlow xrange b31_4 xreadLow b31_5 ri ro rw b31_6 rin ria rik rif oo osg b31_2 ofc oca opa ol b31_3 opl opf b31_1 (by first | assumption | omega) (by first | assumption | omega) (by first | assumption | omega)) (cwV 2 hts (my_gV k785 k787 ks14 k8 k788) rfl rfl rfl (by decide +kernel) ⟨by rw [hR]; exact Nat.le_of_ble_eq_true rfl, by rw [hR]; exact Nat.le_of_ble_eq_true rfl⟩) (my_preV hK hN (hP.sub [5, 0, 1, 2, 3, 4] rfl) (hD.sub [5, 0, 1, 2, 3, 4] (by decide) rfl) 0 rfl rfl) rfl rfl hl.1 rfl (lv_room (Nat.le_of_ble_eq_true rfl)) d_Bits_nextSign_43 ⟨by rw [hR]; exact Nat.le_of_ble_eq_true rfl, by rw [hR]; exact Nat.le_of_ble_eq_true rfl⟩) hP hD hS hA [5, 0, 1, 2, 3, 4] [] rfl rfl (by decide) (by decide) (fun r_43 u9 H locs hw_43 hP hD hS => ?_)
          obtain ⟨xcodeq_43, xreadRangeq_43, xaskedq_43, osmq_43, ocfq_43⟩ := u9
          have hP : va_P (dC, dI) vwCl [(co, .inr (3, [.int xshift, .long xkeptCodeq_15, .long xkeptRangeq_15, .int xkeptAskedq_15, .int xcache, .int xpending, .long xlow, .long xrange, .long xcodeq_43, .long xreadLow, .long xreadRangeq_43, .ref ri, .ref ro, .ref rw, .int xaskedq_43])), (ri, .inr (0, [.int rin, .ref ria])), (ria, .inl (cI, rik, .inl rif)), (oo, .inr (7, [.int osg, .int osmq_43, .int ofc, .ref oca, .ref opa])), (oca, .inl (cI, ol, .inl ocfq_43)), (opa, .inl (cI, opl, .inl opf))] H := hP
          have hD : va_D A [(co, .inr (3, [.int xshift, .long xkeptCodeq_15, .long xkeptRangeq_15, .int xkeptAskedq_15, .int xcache, .int xpending, .long xlow, .long xrange, .long xcodeq_43, .long xreadLow, .long xreadRangeq_43, .ref ri, .ref ro, .ref rw, .int xaskedq_43])), (ri, .inr (0, [.int rin, .ref ria])), (ria, .inl (cI, rik, .inl rif)), (oo, .inr (7, [.int osg, .int osmq_43, .int ofc, .ref oca, .ref opa])), (oca, .inl (cI, ol, .inl ocfq_43)), (opa, .inl (cI, opl, .inl opf))] := hD
          refine lv_iadd hx hb d_Bits_nextSign_46 ?_
          refine lv_topi (fun v_7 ev_7 => ?_)
          refine lv_istore_n (lv' := [(3, .int v_7), (4, .int b31_0), (2, .int r_22), (0, .ref co), (1, .ref oo)]) hx hb d_Bits_nextSign_47 rfl hl (by decide) rfl (fun ls hl => ?_)
          obtain ⟨v_8, ev_8⟩ : ∃ y : Int32, y = b31_0 + (1) := ⟨_, rfl⟩
          refine lv_iinc (v := v_8) (lv' := [(4, .int v_8), (3, .int v_7), (2, .int r_22), (0, .ref co), (1, .ref oo)]) hx hb d_Bits_nextSign_48 hl (k := 1) rfl (by rw [ev_8]; rfl) (by decide) rfl (fun ls hl => ?_)
          refine lv_goto (tgt := 31) hx hb d_Bits_nextSign_51 (by decide) ?_
          exact ih9_31 _ (by first | omega | (have z9 := I_up c_2 ev_8; omega)) v_8 v_7 osmq_43 ocfq_43 xcodeq_43 xreadRangeq_43 xaskedq_43 rfl (by have z9 := I_up c_2 ev_8; omega) H locs ls (hP.sub [1, 2, 3, 4, 5, 0] rfl) (hD.sub [1, 2, 3, 4, 5, 0] (by decide) rfl) hS (lv_sub hl [0, 1, 2, 3, 4] rfl)
    exact J_31 _ (0 : Int32) (1 : Int32) osm ocf xcode xreadRange xasked rfl (by first | decide | assumption | omega) H locs ls (hP.sub [0, 1, 2, 3, 4, 5] rfl) (hD.sub [0, 1, 2, 3, 4, 5] (by decide) rfl) hS (lv_sub hl [0, 1, 2, 3, 4] rfl)
  · rw [lg_cmp_lt] at c_1
    refine lv_iconst (v := (-1)) hx hb d_Bits_nextSign_12 (by decide) ?_
    exact my_iret (v := (-1)) hx hb hr (rfl) hlocks hQ hK hS (Nat.le_refl _) (Nat.le_refl _) (xkeptCode, xkeptRange, xkeptAsked, xcode, xreadRange, xasked, osm, ocf) (trivial) (hP.sub [0, 1, 2, 3, 4, 5] rfl) (hD.sub [0, 1, 2, 3, 4, 5] (by decide) rfl) d_Bits_nextSign_13
set_option maxHeartbeats 2000000 in
set_option maxRecDepth 100000 in
theorem c_Bits_Bits_nextValue (l : Launch) (dC : Nat → ClassId) (dI : Nat → Nat → Nat) (cI cM cO : ClassId) (sz : Nat) (co : Nat) (xshift : Int32) (xkeptCode : Int64) (xkeptRange : Int64) (xkeptAsked : Int32) (xcache : Int32) (xpending : Int32) (xlow : Int64) (xrange : Int64) (xcode : Int64) (xreadLow : Int64) (xreadRange : Int64) (ri : Nat) (ro : Nat) (rw : Nat) (xasked : Int32) (rin : Int32) (ria : Nat) (rik : Nat) (rif : Nat → Int32) (wd : Int32) (hri : rOk rin rik) : MetI l y_Bits_nextValue (Cond.code y_Bits_nextValue prog_2_method_8_code 5 (some .int) :: gw) ({ frames := 4, cells := 0, slots := 0, locals := 84 } : Room) (dC, dI) vwCl (kT cI cM cO) [.ref co, .int wd] [(co, .inr (3, [.int xshift, .long xkeptCode, .long xkeptRange, .int xkeptAsked, .int xcache, .int xpending, .long xlow, .long xrange, .long xcode, .long xreadLow, .long xreadRange, .ref ri, .ref ro, .ref rw, .int xasked])), (ri, .inr (0, [.int rin, .ref ria])), (ria, .inl (cI, rik, .inl rif))] sz (fun (r : Int32) (u : Int64 × Int64 × Int32 × Int64 × Int64 × Int32) => True) (fun (u : Int64 × Int64 × Int32 × Int64 × Int64 × Int32) => [(co, .inr (3, [.int xshift, .long u.1, .long u.2.1, .int u.2.2.1, .int xcache, .int xpending, .long xlow, .long xrange, .long u.2.2.2.1, .long xreadLow, .long u.2.2.2.2.1, .ref ri, .ref ro, .ref rw, .int u.2.2.2.2.2])), (ri, .inr (0, [.int rin, .ref ria])), (ria, .inl (cI, rik, .inl rif))]) 0 0 := by
  refine my_ofI (cc := prog_2_method_8_code) (n := 5) (ret := (some .int)) (by decide) rfl (Nat.le_of_ble_eq_true rfl) ?_
  intro p e s m args below meth c R Q A ls H locs hx hb hr hts hown hlocks hml hnm hR hQ hA hl hP hK hN hD hS
  have hg : ∀ w ∈ gw, w.before args s = true := fun w h => hts w (List.mem_cons_of_mem _ h)
  have hown : s.vm.findClass "RangeCoders$Bits" = some m.cls := hown
  have hl : lv_has ls 5 [(0, .ref co), (1, .int wd)] := hl
  have hlt_hri := rOk_lt hri
  refine lv_aload_n hx hb d_Bits_nextValue_0 rfl (lv_at hl 0 rfl) ?_
  refine va_get (D := (dC, dI)) (ci := 3) (v := .long xcode) (C := "RangeCoders$Bits") (T := T_Bits) (N := 15) hx hb hg in_Bits hown hK hP 0 rfl rfl 8 (by decide) (hg _ k88) (fun x9 h9 => u_same (hg _ k89) x9 h9) rfl d_Bits_nextValue_1 ?_
  refine lv_aload_n hx hb d_Bits_nextValue_4 rfl (lv_at hl 0 rfl) ?_
  refine va_get (D := (dC, dI)) (ci := 3) (v := .long xreadRange) (C := "RangeCoders$Bits") (T := T_Bits) (N := 15) hx hb hg in_Bits hown hK hP 0 rfl rfl 10 (by decide) (hg _ k98) (fun x9 h9 => u_same (hg _ k99) x9 h9) rfl d_Bits_nextValue_5 ?_
  refine W.lcmp hx hb d_Bits_nextValue_8 ?_
  refine lv_if_lt (tgt := 14) hx hb d_Bits_nextValue_9 (by decide) (fun c_1 => ?_) (fun c_1 => ?_)
  · rw [lg_cmp_lt] at c_1
    refine lv_aload_n hx hb d_Bits_nextValue_14 rfl (lv_at hl 0 rfl) ?_
    refine my_cv (wr := [(ri, .inr (0, [.int rin, .ref ria])), (ria, .inl (cI, rik, .inl rif))]) (va_runV (As := []) (rest := []) ⟨hx, hb, hml, hown, hts⟩ (c_Bits_Bits_keepReading l dC dI cI cM cO H.size co xshift xkeptCode xkeptRange xkeptAsked xcache xpending xlow xrange xcode xreadLow xreadRange ri ro rw xasked) (cwV 0 hts (my_gV k781 k783 ks13 k8 k784) rfl rfl rfl (by decide +kernel) ⟨by rw [hR]; exact Nat.le_of_ble_eq_true rfl, by rw [hR]; exact Nat.le_of_ble_eq_true rfl⟩) (my_preV hK hN (hP.sub [0] rfl) (hD.sub [0] (by decide) rfl) 0 rfl rfl) rfl rfl hl.1 rfl (lv_room (Nat.le_of_ble_eq_true rfl)) d_Bits_nextValue_15 ⟨by rw [hR]; exact Nat.le_of_ble_eq_true rfl, by rw [hR]; exact Nat.le_of_ble_eq_true rfl⟩) hP hD hS hA [0] [1, 2] rfl rfl (by decide) (by decide) (fun u9 H locs hw_15 hP hD hS => ?_)
    obtain ⟨xkeptCodeq_15, xkeptRangeq_15, xkeptAskedq_15⟩ := u9
    have hP : va_P (dC, dI) vwCl [(ri, .inr (0, [.int rin, .ref ria])), (ria, .inl (cI, rik, .inl rif)), (co, .inr (3, [.int xshift, .long xkeptCodeq_15, .long xkeptRangeq_15, .int xkeptAskedq_15, .int xcache, .int xpending, .long xlow, .long xrange, .long xcode, .long xreadLow, .long xreadRange, .ref ri, .ref ro, .ref rw, .int xasked]))] H := hP
    have hD : va_D A [(ri, .inr (0, [.int rin, .ref ria])), (ria, .inl (cI, rik, .inl rif)), (co, .inr (3, [.int xshift, .long xkeptCodeq_15, .long xkeptRangeq_15, .int xkeptAskedq_15, .int xcache, .int xpending, .long xlow, .long xrange, .long xcode, .long xreadLow, .long xreadRange, .ref ri, .ref ro, .ref rw, .int xasked]))] := hD
    refine lv_iconst (v := 0) hx hb d_Bits_nextValue_18 (by decide) ?_
    refine lv_istore_n (lv' := [(2, .int 0), (0, .ref co), (1, .int wd)]) hx hb d_Bits_nextValue_19 rfl hl (by decide) rfl (fun ls hl => ?_)
    refine lv_iconst (v := 0) hx hb d_Bits_nextValue_20 (by decide) ?_
    refine lv_istore_n (lv' := [(3, .int 0), (2, .int 0), (0, .ref co), (1, .int wd)]) hx hb d_Bits_nextValue_21 rfl hl (by decide) rfl (fun ls hl => ?_)
    have J_22 : ∀ (n9_22 : Nat) (b22_0 : Int32) (b22_1 : Int32) (b22_2 : Int64) (b22_3 : Int64) (b22_4 : Int32) (hn9_22 : (wd.toInt - b22_0.toInt).toNat = n9_22) (hi_22 : 0 ≤ b22_0.toInt) (H : Heap) (locs : List Loc) (ls : Array Slot), va_P (dC, dI) vwCl [(ri, .inr (0, [.int rin, .ref ria])), (ria, .inl (cI, rik, .inl rif)), (co, .inr (3, [.int xshift, .long xkeptCodeq_15, .long xkeptRangeq_15, .int xkeptAskedq_15, .int xcache, .int xpending, .long xlow, .long xrange, .long b22_2, .long xreadLow, .long b22_3, .ref ri, .ref ro, .ref rw, .int b22_4]))] H → va_D A [(ri, .inr (0, [.int rin, .ref ria])), (ria, .inl (cI, rik, .inl rif)), (co, .inr (3, [.int xshift, .long xkeptCodeq_15, .long xkeptRangeq_15, .int xkeptAskedq_15, .int xcache, .int xpending, .long xlow, .long xrange, .long b22_2, .long xreadLow, .long b22_3, .ref ri, .ref ro, .ref rw, .int b22_4]))] → va_S A s.heap H locs → lv_has ls 5 [(3, .int b22_0), (2, .int b22_1), (0, .ref co), (1, .int wd)] → W p l e R s m args below meth c H locs 0 0 Q (F0 m 22 ls []) := by
      intro n9_22
      induction n9_22 using Nat.strongRecOn with
      | ind n9_22 ih9_22 =>
        intro b22_0 b22_1 b22_2 b22_3 b22_4 hn9_22 hi_22 H locs ls hP hD hS hl
        refine lv_iload_n hx hb d_Bits_nextValue_22 rfl (lv_at hl 0 rfl) ?_
        refine lv_iload_n hx hb d_Bits_nextValue_23 rfl (lv_at hl 3 rfl) ?_
        refine lv_icmp_ge (tgt := 107) hx hb d_Bits_nextValue_24 (by decide) (fun c_2 => ?_) (fun c_2 => ?_)
        · refine lv_iload_n hx hb d_Bits_nextValue_107 rfl (lv_at hl 1 rfl) ?_
          exact my_iret (v := b22_1) hx hb hr (rfl) hlocks hQ hK hS (Nat.le_refl _) (Nat.le_refl _) (xkeptCodeq_15, xkeptRangeq_15, xkeptAskedq_15, b22_2, b22_3, b22_4) (trivial) (hP.sub [2, 0, 1] rfl) (hD.sub [2, 0, 1] (by decide) rfl) d_Bits_nextValue_108
        · refine lv_aload_n hx hb d_Bits_nextValue_27 rfl (lv_at hl 2 rfl) ?_
          refine lv_dup hx hb d_Bits_nextValue_28 rfl ?_
          refine va_get (D := (dC, dI)) (ci := 3) (v := .long b22_3) (C := "RangeCoders$Bits") (T := T_Bits) (N := 15) hx hb hg in_Bits hown hK hP 2 rfl rfl 10 (by decide) (hg _ k98) (fun x9 h9 => u_same (hg _ k99) x9 h9) rfl d_Bits_nextValue_29 ?_
          refine lv_iconst (v := 1) hx hb d_Bits_nextValue_32 (by decide) ?_
          refine lv_lushr hx hb d_Bits_nextValue_33 rfl ?_
          refine lv_topl (fun v_3 ev_3 => ?_)
          refine va_put (D := (dC, dI)) (ci := 3) (v := .long v_3) (ty := .long) (C := "RangeCoders$Bits") (T := T_Bits) (N := 15) hx hb hg in_Bits t_Bits o_Bits n_Bits hown hK hP hD hS 2 rfl rfl 10 (by decide) (hg _ k98) (fun x9 h9 => u_same (hg _ k99) x9 h9) rfl (by decide +kernel) rfl rfl (Nat.le_of_ble_eq_true rfl) d_Bits_nextValue_34 (fun H locs hP hD hS => ?_)
          have hP : va_P (dC, dI) vwCl [(ri, .inr (0, [.int rin, .ref ria])), (ria, .inl (cI, rik, .inl rif)), (co, .inr (3, [.int xshift, .long xkeptCodeq_15, .long xkeptRangeq_15, .int xkeptAskedq_15, .int xcache, .int xpending, .long xlow, .long xrange, .long b22_2, .long xreadLow, .long v_3, .ref ri, .ref ro, .ref rw, .int b22_4]))] H := hP
          have hD : va_D A [(ri, .inr (0, [.int rin, .ref ria])), (ria, .inl (cI, rik, .inl rif)), (co, .inr (3, [.int xshift, .long xkeptCodeq_15, .long xkeptRangeq_15, .int xkeptAskedq_15, .int xcache, .int xpending, .long xlow, .long xrange, .long b22_2, .long xreadLow, .long v_3, .ref ri, .ref ro, .ref rw, .int b22_4]))] := hD
          refine lv_aload_n hx hb d_Bits_nextValue_37 rfl (lv_at hl 2 rfl) ?_
          refine va_get (D := (dC, dI)) (ci := 3) (v := .long b22_2) (C := "RangeCoders$Bits") (T := T_Bits) (N := 15) hx hb hg in_Bits hown hK hP 2 rfl rfl 8 (by decide) (hg _ k88) (fun x9 h9 => u_same (hg _ k89) x9 h9) rfl d_Bits_nextValue_38 ?_
          refine lv_aload_n hx hb d_Bits_nextValue_41 rfl (lv_at hl 2 rfl) ?_
          refine va_get (D := (dC, dI)) (ci := 3) (v := .long v_3) (C := "RangeCoders$Bits") (T := T_Bits) (N := 15) hx hb hg in_Bits hown hK hP 2 rfl rfl 10 (by decide) (hg _ k98) (fun x9 h9 => u_same (hg _ k99) x9 h9) rfl d_Bits_nextValue_42 ?_
          refine W.lcmp hx hb d_Bits_nextValue_45 ?_
          refine lv_if_ge (tgt := 53) hx hb d_Bits_nextValue_46 (by decide) (fun c_4 => ?_) (fun c_4 => ?_)
          · rw [lg_cmp_ge] at c_4
            refine lv_iconst (v := 1) hx hb d_Bits_nextValue_53 (by decide) ?_
            refine lv_istore (lv' := [(4, .int 1), (3, .int b22_0), (2, .int b22_1), (0, .ref co), (1, .int wd)]) hx hb d_Bits_nextValue_54 hl (by decide) rfl (fun ls hl => ?_)
            refine lv_aload_n hx hb d_Bits_nextValue_56 rfl (lv_at hl 3 rfl) ?_
            refine lv_dup hx hb d_Bits_nextValue_57 rfl ?_
            refine va_get (D := (dC, dI)) (ci := 3) (v := .long b22_2) (C := "RangeCoders$Bits") (T := T_Bits) (N := 15) hx hb hg in_Bits hown hK hP 2 rfl rfl 8 (by decide) (hg _ k88) (fun x9 h9 => u_same (hg _ k89) x9 h9) rfl d_Bits_nextValue_58 ?_
            refine lv_iload hx hb d_Bits_nextValue_61 (lv_at hl 0 rfl) ?_
            refine lv_i2l hx hb d_Bits_nextValue_63 rfl ?_
            refine lv_topl (fun v_5 ev_5 => ?_)
            refine lv_aload_n hx hb d_Bits_nextValue_64 rfl (lv_at hl 3 rfl) ?_
            refine va_get (D := (dC, dI)) (ci := 3) (v := .long v_3) (C := "RangeCoders$Bits") (T := T_Bits) (N := 15) hx hb hg in_Bits hown hK hP 2 rfl rfl 10 (by decide) (hg _ k98) (fun x9 h9 => u_same (hg _ k99) x9 h9) rfl d_Bits_nextValue_65 ?_
            refine lv_lmul hx hb d_Bits_nextValue_68 ?_
            refine lv_topl (fun v_6 ev_6 => ?_)
            refine lv_lsub hx hb d_Bits_nextValue_69 ?_
            refine lv_topl (fun v_7 ev_7 => ?_)
            refine va_put (D := (dC, dI)) (ci := 3) (v := .long v_7) (ty := .long) (C := "RangeCoders$Bits") (T := T_Bits) (N := 15) hx hb hg in_Bits t_Bits o_Bits n_Bits hown hK hP hD hS 2 rfl rfl 8 (by decide) (hg _ k88) (fun x9 h9 => u_same (hg _ k89) x9 h9) rfl (by decide +kernel) rfl rfl (Nat.le_of_ble_eq_true rfl) d_Bits_nextValue_70 (fun H locs hP hD hS => ?_)
            have hP : va_P (dC, dI) vwCl [(ri, .inr (0, [.int rin, .ref ria])), (ria, .inl (cI, rik, .inl rif)), (co, .inr (3, [.int xshift, .long xkeptCodeq_15, .long xkeptRangeq_15, .int xkeptAskedq_15, .int xcache, .int xpending, .long xlow, .long xrange, .long v_7, .long xreadLow, .long v_3, .ref ri, .ref ro, .ref rw, .int b22_4]))] H := hP
            have hD : va_D A [(ri, .inr (0, [.int rin, .ref ria])), (ria, .inl (cI, rik, .inl rif)), (co, .inr (3, [.int xshift, .long xkeptCodeq_15, .long xkeptRangeq_15, .int xkeptAskedq_15, .int xcache, .int xpending, .long xlow, .long xrange, .long v_7, .long xreadLow, .long v_3, .ref ri, .ref ro, .ref rw, .int b22_4]))] := hD
            refine lv_aload_n hx hb d_Bits_nextValue_73 rfl (lv_at hl 3 rfl) ?_
            refine va_get (D := (dC, dI)) (ci := 3) (v := .long v_7) (C := "RangeCoders$Bits") (T := T_Bits) (N := 15) hx hb hg in_Bits hown hK hP 2 rfl rfl 8 (by decide) (hg _ k88) (fun x9 h9 => u_same (hg _ k89) x9 h9) rfl d_Bits_nextValue_74 ?_
            refine lv_aload_n hx hb d_Bits_nextValue_77 rfl (lv_at hl 3 rfl) ?_
            refine va_get (D := (dC, dI)) (ci := 3) (v := .long v_3) (C := "RangeCoders$Bits") (T := T_Bits) (N := 15) hx hb hg in_Bits hown hK hP 2 rfl rfl 10 (by decide) (hg _ k98) (fun x9 h9 => u_same (hg _ k99) x9 h9) rfl d_Bits_nextValue_78 ?_
            refine W.lcmp hx hb d_Bits_nextValue_81 ?_
            refine lv_if_lt (tgt := 90) hx hb d_Bits_nextValue_82 (by decide) (fun c_8 => ?_) (fun c_8 => ?_)
            · rw [lg_cmp_lt] at c_8
              refine lv_iconst (v := 2) hx hb d_Bits_nextValue_90 (by decide) ?_
              refine lv_iload_n hx hb d_Bits_nextValue_91 rfl (lv_at hl 2 rfl) ?_
              refine lv_imul hx hb d_Bits_nextValue_92 ?_
              refine lv_topi (fun v_9 ev_9 => ?_)
              refine lv_iload hx hb d_Bits_nextValue_93 (lv_at hl 0 rfl) ?_
              refine lv_iadd hx hb d_Bits_nextValue_95 ?_
              refine lv_topi (fun v_10 ev_10 => ?_)
              refine lv_istore_n (lv' := [(2, .int v_10), (4, .int 1), (3, .int b22_0), (0, .ref co), (1, .int wd)]) hx hb d_Bits_nextValue_96 rfl hl (by decide) rfl (fun ls hl => ?_)
              refine lv_aload_n hx hb d_Bits_nextValue_97 rfl (lv_at hl 3 rfl) ?_
              refine my_cv (wr := []) (va_runU (As := []) (rest := []) ⟨hx, hb, hml, hown, hts⟩ (c_Bits_Carries_widenReading l dC dI cI cM cO H.size co xshift xkeptCodeq_15 xkeptRangeq_15 xkeptAskedq_15 xcache xpending xlow xrange v_7 xreadLow v_3 ri ro rw b22_4 rin ria rik rif (by first | assumption | omega)) (va_cwU 0 hts (my_gU k789 k790 k792 k793 k5 k794) rfl rfl rfl rfl (by decide +kernel) ⟨by rw [hR]; exact Nat.le_of_ble_eq_true rfl, by rw [hR]; exact Nat.le_of_ble_eq_true rfl⟩) (my_preV hK hN (hP.sub [2, 0, 1] rfl) (hD.sub [2, 0, 1] (by decide) rfl) 0 rfl rfl) rfl rfl hl.1 rfl (lv_room (Nat.le_of_ble_eq_true rfl)) d_Bits_nextValue_98 ⟨by rw [hR]; exact Nat.le_of_ble_eq_true rfl, by rw [hR]; exact Nat.le_of_ble_eq_true rfl⟩) hP hD hS hA [2, 0, 1] [] rfl rfl (by decide) (by decide) (fun u9 H locs hw_98 hP hD hS => ?_)
              obtain ⟨xcodeq_98, xreadRangeq_98, xaskedq_98⟩ := u9
              have hP : va_P (dC, dI) vwCl [(co, .inr (3, [.int xshift, .long xkeptCodeq_15, .long xkeptRangeq_15, .int xkeptAskedq_15, .int xcache, .int xpending, .long xlow, .long xrange, .long xcodeq_98, .long xreadLow, .long xreadRangeq_98, .ref ri, .ref ro, .ref rw, .int xaskedq_98])), (ri, .inr (0, [.int rin, .ref ria])), (ria, .inl (cI, rik, .inl rif))] H := hP
              have hD : va_D A [(co, .inr (3, [.int xshift, .long xkeptCodeq_15, .long xkeptRangeq_15, .int xkeptAskedq_15, .int xcache, .int xpending, .long xlow, .long xrange, .long xcodeq_98, .long xreadLow, .long xreadRangeq_98, .ref ri, .ref ro, .ref rw, .int xaskedq_98])), (ri, .inr (0, [.int rin, .ref ria])), (ria, .inl (cI, rik, .inl rif))] := hD
              obtain ⟨v_11, ev_11⟩ : ∃ y : Int32, y = b22_0 + (1) := ⟨_, rfl⟩
              refine lv_iinc (v := v_11) (lv' := [(3, .int v_11), (2, .int v_10), (4, .int 1), (0, .ref co), (1, .int wd)]) hx hb d_Bits_nextValue_101 hl (k := 2) rfl (by rw [ev_11]; rfl) (by decide) rfl (fun ls hl => ?_)
              refine lv_goto (tgt := 22) hx hb d_Bits_nextValue_104 (by decide) ?_
              exact ih9_22 _ (by first | omega | (have z9 := I_up c_2 ev_11; omega)) v_11 v_10 xcodeq_98 xreadRangeq_98 xaskedq_98 rfl (by have z9 := I_up c_2 ev_11; omega) H locs ls (hP.sub [1, 2, 0] rfl) (hD.sub [1, 2, 0] (by decide) rfl) hS (lv_sub hl [0, 1, 3, 4] rfl)
            · rw [lg_cmp_lt] at c_8
              refine lv_aload_n hx hb d_Bits_nextValue_85 rfl (lv_at hl 3 rfl) ?_
              refine my_ci (wr := [(ri, .inr (0, [.int rin, .ref ria])), (ria, .inl (cI, rik, .inl rif))]) (va_runV (As := []) (rest := []) ⟨hx, hb, hml, hown, hts⟩ (c_Bits_Bits_undone l dC dI cI cM cO H.size co xshift xkeptCodeq_15 xkeptRangeq_15 xkeptAskedq_15 xcache xpending xlow xrange v_7 xreadLow v_3 ri ro rw b22_4) (cwV 0 hts (my_gV k800 k802 ks15 k8 k803) rfl rfl rfl (by decide +kernel) ⟨by rw [hR]; exact Nat.le_of_ble_eq_true rfl, by rw [hR]; exact Nat.le_of_ble_eq_true rfl⟩) (my_preV hK hN (hP.sub [2] rfl) (hD.sub [2] (by decide) rfl) 0 rfl rfl) rfl rfl hl.1 rfl (lv_room (Nat.le_of_ble_eq_true rfl)) d_Bits_nextValue_86 ⟨by rw [hR]; exact Nat.le_of_ble_eq_true rfl, by rw [hR]; exact Nat.le_of_ble_eq_true rfl⟩) hP hD hS hA [2] [0, 1] rfl rfl (by decide) (by decide) (fun r_86 u9 H locs hw_86 hP hD hS => ?_)
              obtain ⟨xcodeq_86, xreadRangeq_86, xaskedq_86⟩ := u9
              have hP : va_P (dC, dI) vwCl [(ri, .inr (0, [.int rin, .ref ria])), (ria, .inl (cI, rik, .inl rif)), (co, .inr (3, [.int xshift, .long xkeptCodeq_15, .long xkeptRangeq_15, .int xkeptAskedq_15, .int xcache, .int xpending, .long xlow, .long xrange, .long xcodeq_86, .long xreadLow, .long xreadRangeq_86, .ref ri, .ref ro, .ref rw, .int xaskedq_86]))] H := hP
              have hD : va_D A [(ri, .inr (0, [.int rin, .ref ria])), (ria, .inl (cI, rik, .inl rif)), (co, .inr (3, [.int xshift, .long xkeptCodeq_15, .long xkeptRangeq_15, .int xkeptAskedq_15, .int xcache, .int xpending, .long xlow, .long xrange, .long xcodeq_86, .long xreadLow, .long xreadRangeq_86, .ref ri, .ref ro, .ref rw, .int xaskedq_86]))] := hD
              exact my_iret (v := r_86) hx hb hr (rfl) hlocks hQ hK hS (Nat.le_refl _) (Nat.le_refl _) (xkeptCodeq_15, xkeptRangeq_15, xkeptAskedq_15, xcodeq_86, xreadRangeq_86, xaskedq_86) (trivial) (hP.sub [2, 0, 1] rfl) (hD.sub [2, 0, 1] (by decide) rfl) d_Bits_nextValue_89
          · rw [lg_cmp_ge] at c_4
            refine lv_iconst (v := 0) hx hb d_Bits_nextValue_49 (by decide) ?_
            refine lv_goto (tgt := 54) hx hb d_Bits_nextValue_50 (by decide) ?_
            refine lv_istore (lv' := [(4, .int 0), (3, .int b22_0), (2, .int b22_1), (0, .ref co), (1, .int wd)]) hx hb d_Bits_nextValue_54 hl (by decide) rfl (fun ls hl => ?_)
            refine lv_aload_n hx hb d_Bits_nextValue_56 rfl (lv_at hl 3 rfl) ?_
            refine lv_dup hx hb d_Bits_nextValue_57 rfl ?_
            refine va_get (D := (dC, dI)) (ci := 3) (v := .long b22_2) (C := "RangeCoders$Bits") (T := T_Bits) (N := 15) hx hb hg in_Bits hown hK hP 2 rfl rfl 8 (by decide) (hg _ k88) (fun x9 h9 => u_same (hg _ k89) x9 h9) rfl d_Bits_nextValue_58 ?_
            refine lv_iload hx hb d_Bits_nextValue_61 (lv_at hl 0 rfl) ?_
            refine lv_i2l hx hb d_Bits_nextValue_63 rfl ?_
            refine lv_topl (fun v_12 ev_12 => ?_)
            refine lv_aload_n hx hb d_Bits_nextValue_64 rfl (lv_at hl 3 rfl) ?_
            refine va_get (D := (dC, dI)) (ci := 3) (v := .long v_3) (C := "RangeCoders$Bits") (T := T_Bits) (N := 15) hx hb hg in_Bits hown hK hP 2 rfl rfl 10 (by decide) (hg _ k98) (fun x9 h9 => u_same (hg _ k99) x9 h9) rfl d_Bits_nextValue_65 ?_
            refine lv_lmul hx hb d_Bits_nextValue_68 ?_
            refine lv_topl (fun v_13 ev_13 => ?_)
            refine lv_lsub hx hb d_Bits_nextValue_69 ?_
            refine lv_topl (fun v_14 ev_14 => ?_)
            refine va_put (D := (dC, dI)) (ci := 3) (v := .long v_14) (ty := .long) (C := "RangeCoders$Bits") (T := T_Bits) (N := 15) hx hb hg in_Bits t_Bits o_Bits n_Bits hown hK hP hD hS 2 rfl rfl 8 (by decide) (hg _ k88) (fun x9 h9 => u_same (hg _ k89) x9 h9) rfl (by decide +kernel) rfl rfl (Nat.le_of_ble_eq_true rfl) d_Bits_nextValue_70 (fun H locs hP hD hS => ?_)
            have hP : va_P (dC, dI) vwCl [(ri, .inr (0, [.int rin, .ref ria])), (ria, .inl (cI, rik, .inl rif)), (co, .inr (3, [.int xshift, .long xkeptCodeq_15, .long xkeptRangeq_15, .int xkeptAskedq_15, .int xcache, .int xpending, .long xlow, .long xrange, .long v_14, .long xreadLow, .long v_3, .ref ri, .ref ro, .ref rw, .int b22_4]))] H := hP
            have hD : va_D A [(ri, .inr (0, [.int rin, .ref ria])), (ria, .inl (cI, rik, .inl rif)), (co, .inr (3, [.int xshift, .long xkeptCodeq_15, .long xkeptRangeq_15, .int xkeptAskedq_15, .int xcache, .int xpending, .long xlow, .long xrange, .long v_14, .long xreadLow, .long v_3, .ref ri, .ref ro, .ref rw, .int b22_4]))] := hD
            refine lv_aload_n hx hb d_Bits_nextValue_73 rfl (lv_at hl 3 rfl) ?_
            refine va_get (D := (dC, dI)) (ci := 3) (v := .long v_14) (C := "RangeCoders$Bits") (T := T_Bits) (N := 15) hx hb hg in_Bits hown hK hP 2 rfl rfl 8 (by decide) (hg _ k88) (fun x9 h9 => u_same (hg _ k89) x9 h9) rfl d_Bits_nextValue_74 ?_
            refine lv_aload_n hx hb d_Bits_nextValue_77 rfl (lv_at hl 3 rfl) ?_
            refine va_get (D := (dC, dI)) (ci := 3) (v := .long v_3) (C := "RangeCoders$Bits") (T := T_Bits) (N := 15) hx hb hg in_Bits hown hK hP 2 rfl rfl 10 (by decide) (hg _ k98) (fun x9 h9 => u_same (hg _ k99) x9 h9) rfl d_Bits_nextValue_78 ?_
            refine W.lcmp hx hb d_Bits_nextValue_81 ?_
            refine lv_if_lt (tgt := 90) hx hb d_Bits_nextValue_82 (by decide) (fun c_15 => ?_) (fun c_15 => ?_)
            · rw [lg_cmp_lt] at c_15
              refine lv_iconst (v := 2) hx hb d_Bits_nextValue_90 (by decide) ?_
              refine lv_iload_n hx hb d_Bits_nextValue_91 rfl (lv_at hl 2 rfl) ?_
              refine lv_imul hx hb d_Bits_nextValue_92 ?_
              refine lv_topi (fun v_16 ev_16 => ?_)
              refine lv_iload hx hb d_Bits_nextValue_93 (lv_at hl 0 rfl) ?_
              refine lv_iadd hx hb d_Bits_nextValue_95 ?_
              refine lv_topi (fun v_17 ev_17 => ?_)
              refine lv_istore_n (lv' := [(2, .int v_17), (4, .int 0), (3, .int b22_0), (0, .ref co), (1, .int wd)]) hx hb d_Bits_nextValue_96 rfl hl (by decide) rfl (fun ls hl => ?_)
              refine lv_aload_n hx hb d_Bits_nextValue_97 rfl (lv_at hl 3 rfl) ?_
              refine my_cv (wr := []) (va_runU (As := []) (rest := []) ⟨hx, hb, hml, hown, hts⟩ (c_Bits_Carries_widenReading l dC dI cI cM cO H.size co xshift xkeptCodeq_15 xkeptRangeq_15 xkeptAskedq_15 xcache xpending xlow xrange v_14 xreadLow v_3 ri ro rw b22_4 rin ria rik rif (by first | assumption | omega)) (va_cwU 0 hts (my_gU k789 k790 k792 k793 k5 k794) rfl rfl rfl rfl (by decide +kernel) ⟨by rw [hR]; exact Nat.le_of_ble_eq_true rfl, by rw [hR]; exact Nat.le_of_ble_eq_true rfl⟩) (my_preV hK hN (hP.sub [2, 0, 1] rfl) (hD.sub [2, 0, 1] (by decide) rfl) 0 rfl rfl) rfl rfl hl.1 rfl (lv_room (Nat.le_of_ble_eq_true rfl)) d_Bits_nextValue_98 ⟨by rw [hR]; exact Nat.le_of_ble_eq_true rfl, by rw [hR]; exact Nat.le_of_ble_eq_true rfl⟩) hP hD hS hA [2, 0, 1] [] rfl rfl (by decide) (by decide) (fun u9 H locs hw_98 hP hD hS => ?_)
              obtain ⟨xcodeq_98, xreadRangeq_98, xaskedq_98⟩ := u9
              have hP : va_P (dC, dI) vwCl [(co, .inr (3, [.int xshift, .long xkeptCodeq_15, .long xkeptRangeq_15, .int xkeptAskedq_15, .int xcache, .int xpending, .long xlow, .long xrange, .long xcodeq_98, .long xreadLow, .long xreadRangeq_98, .ref ri, .ref ro, .ref rw, .int xaskedq_98])), (ri, .inr (0, [.int rin, .ref ria])), (ria, .inl (cI, rik, .inl rif))] H := hP
              have hD : va_D A [(co, .inr (3, [.int xshift, .long xkeptCodeq_15, .long xkeptRangeq_15, .int xkeptAskedq_15, .int xcache, .int xpending, .long xlow, .long xrange, .long xcodeq_98, .long xreadLow, .long xreadRangeq_98, .ref ri, .ref ro, .ref rw, .int xaskedq_98])), (ri, .inr (0, [.int rin, .ref ria])), (ria, .inl (cI, rik, .inl rif))] := hD
              obtain ⟨v_18, ev_18⟩ : ∃ y : Int32, y = b22_0 + (1) := ⟨_, rfl⟩
              refine lv_iinc (v := v_18) (lv' := [(3, .int v_18), (2, .int v_17), (4, .int 0), (0, .ref co), (1, .int wd)]) hx hb d_Bits_nextValue_101 hl (k := 2) rfl (by rw [ev_18]; rfl) (by decide) rfl (fun ls hl => ?_)
              refine lv_goto (tgt := 22) hx hb d_Bits_nextValue_104 (by decide) ?_
              exact ih9_22 _ (by first | omega | (have z9 := I_up c_2 ev_18; omega)) v_18 v_17 xcodeq_98 xreadRangeq_98 xaskedq_98 rfl (by have z9 := I_up c_2 ev_18; omega) H locs ls (hP.sub [1, 2, 0] rfl) (hD.sub [1, 2, 0] (by decide) rfl) hS (lv_sub hl [0, 1, 3, 4] rfl)
            · rw [lg_cmp_lt] at c_15
              refine lv_aload_n hx hb d_Bits_nextValue_85 rfl (lv_at hl 3 rfl) ?_
              refine my_ci (wr := [(ri, .inr (0, [.int rin, .ref ria])), (ria, .inl (cI, rik, .inl rif))]) (va_runV (As := []) (rest := []) ⟨hx, hb, hml, hown, hts⟩ (c_Bits_Bits_undone l dC dI cI cM cO H.size co xshift xkeptCodeq_15 xkeptRangeq_15 xkeptAskedq_15 xcache xpending xlow xrange v_14 xreadLow v_3 ri ro rw b22_4) (cwV 0 hts (my_gV k800 k802 ks15 k8 k803) rfl rfl rfl (by decide +kernel) ⟨by rw [hR]; exact Nat.le_of_ble_eq_true rfl, by rw [hR]; exact Nat.le_of_ble_eq_true rfl⟩) (my_preV hK hN (hP.sub [2] rfl) (hD.sub [2] (by decide) rfl) 0 rfl rfl) rfl rfl hl.1 rfl (lv_room (Nat.le_of_ble_eq_true rfl)) d_Bits_nextValue_86 ⟨by rw [hR]; exact Nat.le_of_ble_eq_true rfl, by rw [hR]; exact Nat.le_of_ble_eq_true rfl⟩) hP hD hS hA [2] [0, 1] rfl rfl (by decide) (by decide) (fun r_86 u9 H locs hw_86 hP hD hS => ?_)
              obtain ⟨xcodeq_86, xreadRangeq_86, xaskedq_86⟩ := u9
              have hP : va_P (dC, dI) vwCl [(ri, .inr (0, [.int rin, .ref ria])), (ria, .inl (cI, rik, .inl rif)), (co, .inr (3, [.int xshift, .long xkeptCodeq_15, .long xkeptRangeq_15, .int xkeptAskedq_15, .int xcache, .int xpending, .long xlow, .long xrange, .long xcodeq_86, .long xreadLow, .long xreadRangeq_86, .ref ri, .ref ro, .ref rw, .int xaskedq_86]))] H := hP
              have hD : va_D A [(ri, .inr (0, [.int rin, .ref ria])), (ria, .inl (cI, rik, .inl rif)), (co, .inr (3, [.int xshift, .long xkeptCodeq_15, .long xkeptRangeq_15, .int xkeptAskedq_15, .int xcache, .int xpending, .long xlow, .long xrange, .long xcodeq_86, .long xreadLow, .long xreadRangeq_86, .ref ri, .ref ro, .ref rw, .int xaskedq_86]))] := hD
              exact my_iret (v := r_86) hx hb hr (rfl) hlocks hQ hK hS (Nat.le_refl _) (Nat.le_refl _) (xkeptCodeq_15, xkeptRangeq_15, xkeptAskedq_15, xcodeq_86, xreadRangeq_86, xaskedq_86) (trivial) (hP.sub [2, 0, 1] rfl) (hD.sub [2, 0, 1] (by decide) rfl) d_Bits_nextValue_89
    exact J_22 _ (0 : Int32) (0 : Int32) xcode xreadRange xasked rfl (by first | decide | assumption | omega) H locs ls (hP.sub [0, 1, 2] rfl) (hD.sub [0, 1, 2] (by decide) rfl) hS (lv_sub hl [0, 1, 2, 3] rfl)
  · rw [lg_cmp_lt] at c_1
    refine lv_iconst (v := (-1)) hx hb d_Bits_nextValue_12 (by decide) ?_
    exact my_iret (v := (-1)) hx hb hr (rfl) hlocks hQ hK hS (Nat.le_refl _) (Nat.le_refl _) (xkeptCode, xkeptRange, xkeptAsked, xcode, xreadRange, xasked) (trivial) (hP.sub [0, 1, 2] rfl) (hD.sub [0, 1, 2] (by decide) rfl) d_Bits_nextValue_13
