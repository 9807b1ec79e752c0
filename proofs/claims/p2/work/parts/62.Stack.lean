set_option maxHeartbeats 2000000 in
set_option maxRecDepth 100000 in
theorem c_Stack_Coder_nextByte (l : Launch) (dC : Nat → ClassId) (dI : Nat → Nat → Nat) (cI cM cO : ClassId) (sz : Nat) (co : Nat) (xx : Int64) (xreadX : Int64) (soa : Nat) (sna : Nat) (swa : Nat) (xkept : Int32) (ri : Nat) (ro : Nat) (rw : Nat) (xasked : Int32) (rin : Int32) (ria : Nat) (rik : Nat) (rif : Nat → Int32) (hri : rOk rin rik) : MetI l y_Coder_nextByte (Cond.code y_Coder_nextByte prog_4_method_15_code 2 (some .int) :: gw) ({ frames := 2, cells := 0, slots := 0, locals := 42 } : Room) (dC, dI) vwCl (kT cI cM cO) [.ref co] [(co, .inr (4, [.long xx, .long xreadX, .ref soa, .ref sna, .ref swa, .int xkept, .ref ri, .ref ro, .ref rw, .int xasked])), (ri, .inr (0, [.int rin, .ref ria])), (ria, .inl (cI, rik, .inl rif))] sz (fun (r : Int32) (u : Int32) => True) (fun (u : Int32) => [(co, .inr (4, [.long xx, .long xreadX, .ref soa, .ref sna, .ref swa, .int xkept, .ref ri, .ref ro, .ref rw, .int u])), (ri, .inr (0, [.int rin, .ref ria])), (ria, .inl (cI, rik, .inl rif))]) 0 0 := by
  refine my_ofI (cc := prog_4_method_15_code) (n := 2) (ret := (some .int)) (by decide) rfl (Nat.le_of_ble_eq_true rfl) ?_
  intro p e s m args below meth c R Q A ls H locs hx hb hr hts hown hlocks hml hnm hR hQ hA hl hP hK hN hD hS
  have hg : ∀ w ∈ gw, w.before args s = true := fun w h => hts w (List.mem_cons_of_mem _ h)
  have hown : s.vm.findClass "RangeCoders$Coder" = some m.cls := hown
  have hl : lv_has ls 2 [(0, .ref co)] := hl
  have hlt_hri := rOk_lt hri
  refine lv_aload_n hx hb d_Coder_nextByte_0 rfl (lv_at hl 0 rfl) ?_
  refine va_get (D := (dC, dI)) (ci := 4) (v := .ref ri) (C := "RangeCoders$Stack") (T := T_Stack) (N := 10) hx hb hg in_Stack hown hK hP 0 rfl rfl 6 (by decide) (hg _ k101) (fun _ h9 => h9) rfl d_Coder_nextByte_1 ?_
  refine lv_aload_n hx hb d_Coder_nextByte_4 rfl (lv_at hl 0 rfl) ?_
  refine va_get (D := (dC, dI)) (ci := 4) (v := .int xasked) (C := "RangeCoders$Stack") (T := T_Stack) (N := 10) hx hb hg in_Stack hown hK hP 0 rfl rfl 9 (by decide) (hg _ k130) (fun _ h9 => h9) rfl d_Coder_nextByte_5 ?_
  refine my_ci (wr := [(co, .inr (4, [.long xx, .long xreadX, .ref soa, .ref sna, .ref swa, .int xkept, .ref ri, .ref ro, .ref rw, .int xasked]))]) (va_runV (As := [.int xasked]) (rest := []) ⟨hx, hb, hml, hown, hts⟩ (c_Row_has l dC dI cI cM cO H.size ri rin ria rik rif xasked (by first | assumption | omega)) (cwV 1 hts (my_gV k750 k663 k664 k6 k665) rfl rfl rfl (by decide +kernel) ⟨by rw [hR]; exact Nat.le_of_ble_eq_true rfl, by rw [hR]; exact Nat.le_of_ble_eq_true rfl⟩) (my_preV hK hN (hP.sub [1, 2] rfl) (hD.sub [1, 2] (by decide) rfl) 0 rfl rfl) rfl rfl hl.1 rfl (lv_room (Nat.le_of_ble_eq_true rfl)) d_Coder_nextByte_8 ⟨by rw [hR]; exact Nat.le_of_ble_eq_true rfl, by rw [hR]; exact Nat.le_of_ble_eq_true rfl⟩) hP hD hS hA [1, 2] [0] rfl rfl (by decide) (by decide) (fun r_8 u9 H locs hw_8 hP hD hS => ?_)
  have hr_8 : r_8 ≠ 0 → vp_in xasked rik := hw_8
  have hP : va_P (dC, dI) vwCl [(co, .inr (4, [.long xx, .long xreadX, .ref soa, .ref sna, .ref swa, .int xkept, .ref ri, .ref ro, .ref rw, .int xasked])), (ri, .inr (0, [.int rin, .ref ria])), (ria, .inl (cI, rik, .inl rif))] H := hP
  have hD : va_D A [(co, .inr (4, [.long xx, .long xreadX, .ref soa, .ref sna, .ref swa, .int xkept, .ref ri, .ref ro, .ref rw, .int xasked])), (ri, .inr (0, [.int rin, .ref ria])), (ria, .inl (cI, rik, .inl rif))] := hD
  refine lv_if_eq (tgt := 28) hx hb d_Coder_nextByte_11 (by decide) (fun c_1 => ?_) (fun c_1 => ?_)
  · refine lv_iconst (v := 0) hx hb d_Coder_nextByte_28 (by decide) ?_
    refine lv_istore_n (lv' := [(1, .int 0), (0, .ref co)]) hx hb d_Coder_nextByte_29 rfl hl (by decide) rfl (fun ls hl => ?_)
    refine lv_aload_n hx hb d_Coder_nextByte_30 rfl (lv_at hl 1 rfl) ?_
    refine lv_dup hx hb d_Coder_nextByte_31 rfl ?_
    refine va_get (D := (dC, dI)) (ci := 4) (v := .int xasked) (C := "RangeCoders$Stack") (T := T_Stack) (N := 10) hx hb hg in_Stack hown hK hP 0 rfl rfl 9 (by decide) (hg _ k130) (fun _ h9 => h9) rfl d_Coder_nextByte_32 ?_
    refine lv_iconst (v := 1) hx hb d_Coder_nextByte_35 (by decide) ?_
    refine lv_iadd hx hb d_Coder_nextByte_36 ?_
    refine lv_topi (fun v_2 ev_2 => ?_)
    refine va_put (D := (dC, dI)) (ci := 4) (v := .int v_2) (ty := .int) (C := "RangeCoders$Stack") (T := T_Stack) (N := 10) hx hb hg in_Stack t_Stack o_Stack n_Stack hown hK hP hD hS 0 rfl rfl 9 (by decide) (hg _ k130) (fun _ h9 => h9) rfl (by decide +kernel) rfl rfl (Nat.le_of_ble_eq_true rfl) d_Coder_nextByte_37 (fun H locs hP hD hS => ?_)
    have hP : va_P (dC, dI) vwCl [(co, .inr (4, [.long xx, .long xreadX, .ref soa, .ref sna, .ref swa, .int xkept, .ref ri, .ref ro, .ref rw, .int v_2])), (ri, .inr (0, [.int rin, .ref ria])), (ria, .inl (cI, rik, .inl rif))] H := hP
    have hD : va_D A [(co, .inr (4, [.long xx, .long xreadX, .ref soa, .ref sna, .ref swa, .int xkept, .ref ri, .ref ro, .ref rw, .int v_2])), (ri, .inr (0, [.int rin, .ref ria])), (ria, .inl (cI, rik, .inl rif))] := hD
    refine lv_iload_n hx hb d_Coder_nextByte_40 rfl (lv_at hl 0 rfl) ?_
    exact my_iret (v := 0) hx hb hr (rfl) hlocks hQ hK hS (Nat.le_refl _) (Nat.le_refl _) (v_2) (trivial) (hP.sub [0, 1, 2] rfl) (hD.sub [0, 1, 2] (by decide) rfl) d_Coder_nextByte_41
  · refine lv_aload_n hx hb d_Coder_nextByte_14 rfl (lv_at hl 0 rfl) ?_
    refine va_get (D := (dC, dI)) (ci := 4) (v := .ref ri) (C := "RangeCoders$Stack") (T := T_Stack) (N := 10) hx hb hg in_Stack hown hK hP 0 rfl rfl 6 (by decide) (hg _ k101) (fun _ h9 => h9) rfl d_Coder_nextByte_15 ?_
    refine lv_aload_n hx hb d_Coder_nextByte_18 rfl (lv_at hl 0 rfl) ?_
    refine va_get (D := (dC, dI)) (ci := 4) (v := .int xasked) (C := "RangeCoders$Stack") (T := T_Stack) (N := 10) hx hb hg in_Stack hown hK hP 0 rfl rfl 9 (by decide) (hg _ k130) (fun _ h9 => h9) rfl d_Coder_nextByte_19 ?_
    refine my_ci (wr := [(co, .inr (4, [.long xx, .long xreadX, .ref soa, .ref sna, .ref swa, .int xkept, .ref ri, .ref ro, .ref rw, .int xasked]))]) (va_runV (As := [.int xasked]) (rest := []) ⟨hx, hb, hml, hown, hts⟩ (c_Row_at l dC dI cI cM cO H.size ri rin ria rik rif xasked (by first | assumption | omega)) (cwV 1 hts (my_gV k751 k659 k660 k6 k661) rfl rfl rfl (by decide +kernel) ⟨by rw [hR]; exact Nat.le_of_ble_eq_true rfl, by rw [hR]; exact Nat.le_of_ble_eq_true rfl⟩) (my_preV hK hN (hP.sub [1, 2] rfl) (hD.sub [1, 2] (by decide) rfl) 0 rfl rfl) rfl rfl hl.1 rfl (lv_room (Nat.le_of_ble_eq_true rfl)) d_Coder_nextByte_22 ⟨by rw [hR]; exact Nat.le_of_ble_eq_true rfl, by rw [hR]; exact Nat.le_of_ble_eq_true rfl⟩) hP hD hS hA [1, 2] [0] rfl rfl (by decide) (by decide) (fun r_22 u9 H locs hw_22 hP hD hS => ?_)
    have hP : va_P (dC, dI) vwCl [(co, .inr (4, [.long xx, .long xreadX, .ref soa, .ref sna, .ref swa, .int xkept, .ref ri, .ref ro, .ref rw, .int xasked])), (ri, .inr (0, [.int rin, .ref ria])), (ria, .inl (cI, rik, .inl rif))] H := hP
    have hD : va_D A [(co, .inr (4, [.long xx, .long xreadX, .ref soa, .ref sna, .ref swa, .int xkept, .ref ri, .ref ro, .ref rw, .int xasked])), (ri, .inr (0, [.int rin, .ref ria])), (ria, .inl (cI, rik, .inl rif))] := hD
    refine lv_goto (tgt := 29) hx hb d_Coder_nextByte_25 (by decide) ?_
    refine lv_istore_n (lv' := [(1, .int r_22), (0, .ref co)]) hx hb d_Coder_nextByte_29 rfl hl (by decide) rfl (fun ls hl => ?_)
    refine lv_aload_n hx hb d_Coder_nextByte_30 rfl (lv_at hl 1 rfl) ?_
    refine lv_dup hx hb d_Coder_nextByte_31 rfl ?_
    refine va_get (D := (dC, dI)) (ci := 4) (v := .int xasked) (C := "RangeCoders$Stack") (T := T_Stack) (N := 10) hx hb hg in_Stack hown hK hP 0 rfl rfl 9 (by decide) (hg _ k130) (fun _ h9 => h9) rfl d_Coder_nextByte_32 ?_
    refine lv_iconst (v := 1) hx hb d_Coder_nextByte_35 (by decide) ?_
    refine lv_iadd hx hb d_Coder_nextByte_36 ?_
    refine lv_topi (fun v_3 ev_3 => ?_)
    refine va_put (D := (dC, dI)) (ci := 4) (v := .int v_3) (ty := .int) (C := "RangeCoders$Stack") (T := T_Stack) (N := 10) hx hb hg in_Stack t_Stack o_Stack n_Stack hown hK hP hD hS 0 rfl rfl 9 (by decide) (hg _ k130) (fun _ h9 => h9) rfl (by decide +kernel) rfl rfl (Nat.le_of_ble_eq_true rfl) d_Coder_nextByte_37 (fun H locs hP hD hS => ?_)
    have hP : va_P (dC, dI) vwCl [(co, .inr (4, [.long xx, .long xreadX, .ref soa, .ref sna, .ref swa, .int xkept, .ref ri, .ref ro, .ref rw, .int v_3])), (ri, .inr (0, [.int rin, .ref ria])), (ria, .inl (cI, rik, .inl rif))] H := hP
    have hD : va_D A [(co, .inr (4, [.long xx, .long xreadX, .ref soa, .ref sna, .ref swa, .int xkept, .ref ri, .ref ro, .ref rw, .int v_3])), (ri, .inr (0, [.int rin, .ref ria])), (ria, .inl (cI, rik, .inl rif))] := hD
    refine lv_iload_n hx hb d_Coder_nextByte_40 rfl (lv_at hl 0 rfl) ?_
    exact my_iret (v := r_22) hx hb hr (rfl) hlocks hQ hK hS (Nat.le_refl _) (Nat.le_refl _) (v_3) (trivial) (hP.sub [0, 1, 2] rfl) (hD.sub [0, 1, 2] (by decide) rfl) d_Coder_nextByte_41
set_option maxHeartbeats 2000000 in
set_option maxRecDepth 100000 in
theorem c_Stack_Coder_firstFourBytes (l : Launch) (dC : Nat → ClassId) (dI : Nat → Nat → Nat) (cI cM cO : ClassId) (sz : Nat) (co : Nat) (xx : Int64) (xreadX : Int64) (soa : Nat) (sna : Nat) (swa : Nat) (xkept : Int32) (ri : Nat) (ro : Nat) (rw : Nat) (xasked : Int32) (rin : Int32) (ria : Nat) (rik : Nat) (rif : Nat → Int32) (hri : rOk rin rik) : MetL l y_Coder_firstFourBytes (Cond.code y_Coder_firstFourBytes prog_4_method_16_code 4 (some .long) :: gw) ({ frames := 3, cells := 0, slots := 0, locals := 63 } : Room) (dC, dI) vwCl (kT cI cM cO) [.ref co] [(co, .inr (4, [.long xx, .long xreadX, .ref soa, .ref sna, .ref swa, .int xkept, .ref ri, .ref ro, .ref rw, .int xasked])), (ri, .inr (0, [.int rin, .ref ria])), (ria, .inl (cI, rik, .inl rif))] sz (fun (r : Int64) (u : Int32) => True) (fun (u : Int32) => [(co, .inr (4, [.long xx, .long xreadX, .ref soa, .ref sna, .ref swa, .int xkept, .ref ri, .ref ro, .ref rw, .int u])), (ri, .inr (0, [.int rin, .ref ria])), (ria, .inl (cI, rik, .inl rif))]) 0 0 := by
  refine my_ofL (cc := prog_4_method_16_code) (n := 4) (ret := (some .long)) (by decide) rfl (Nat.le_of_ble_eq_true rfl) ?_
  intro p e s m args below meth c R Q A ls H locs hx hb hr hts hown hlocks hml hnm hR hQ hA hl hP hK hN hD hS
  have hg : ∀ w ∈ gw, w.before args s = true := fun w h => hts w (List.mem_cons_of_mem _ h)
  have hown : s.vm.findClass "RangeCoders$Coder" = some m.cls := hown
  have hl : lv_has ls 4 [(0, .ref co)] := hl
  have hlt_hri := rOk_lt hri
  refine lv_aload_n hx hb d_Coder_firstFourBytes_0 rfl (lv_at hl 0 rfl) ?_
  refine lv_iconst (v := 0) hx hb d_Coder_firstFourBytes_1 (by decide) ?_
  refine va_put (D := (dC, dI)) (ci := 4) (v := .int 0) (ty := .int) (C := "RangeCoders$Stack") (T := T_Stack) (N := 10) hx hb hg in_Stack t_Stack o_Stack n_Stack hown hK hP hD hS 0 rfl rfl 9 (by decide) (hg _ k130) (fun _ h9 => h9) rfl (by decide +kernel) rfl rfl (Nat.le_of_ble_eq_true rfl) d_Coder_firstFourBytes_2 (fun H locs hP hD hS => ?_)
  have hP : va_P (dC, dI) vwCl [(co, .inr (4, [.long xx, .long xreadX, .ref soa, .ref sna, .ref swa, .int xkept, .ref ri, .ref ro, .ref rw, .int 0])), (ri, .inr (0, [.int rin, .ref ria])), (ria, .inl (cI, rik, .inl rif))] H := hP
  have hD : va_D A [(co, .inr (4, [.long xx, .long xreadX, .ref soa, .ref sna, .ref swa, .int xkept, .ref ri, .ref ro, .ref rw, .int 0])), (ri, .inr (0, [.int rin, .ref ria])), (ria, .inl (cI, rik, .inl rif))] := hD
  refine lv_lconst (v := 0) hx hb d_Coder_firstFourBytes_5 (by decide) ?_
  refine lv_lstore_n (lv' := [(1, .long 0), (0, .ref co)]) hx hb d_Coder_firstFourBytes_6 rfl hl (by decide) rfl (fun ls hl => ?_)
  refine lv_iconst (v := 0) hx hb d_Coder_firstFourBytes_7 (by decide) ?_
  refine lv_istore_n (lv' := [(3, .int 0), (1, .long 0), (0, .ref co)]) hx hb d_Coder_firstFourBytes_8 rfl hl (by decide) rfl (fun ls hl => ?_)
  have J_9 : ∀ (n9_9 : Nat) (b9_0 : Int32) (b9_1 : Int64) (b9_2 : Int32) (hn9_9 : ((4 : Int32).toInt - b9_0.toInt).toNat = n9_9) (hi_9 : 0 ≤ b9_0.toInt) (H : Heap) (locs : List Loc) (ls : Array Slot), va_P (dC, dI) vwCl [(co, .inr (4, [.long xx, .long xreadX, .ref soa, .ref sna, .ref swa, .int xkept, .ref ri, .ref ro, .ref rw, .int b9_2])), (ri, .inr (0, [.int rin, .ref ria])), (ria, .inl (cI, rik, .inl rif))] H → va_D A [(co, .inr (4, [.long xx, .long xreadX, .ref soa, .ref sna, .ref swa, .int xkept, .ref ri, .ref ro, .ref rw, .int b9_2])), (ri, .inr (0, [.int rin, .ref ria])), (ria, .inl (cI, rik, .inl rif))] → va_S A s.heap H locs → lv_has ls 4 [(3, .int b9_0), (1, .long b9_1), (0, .ref co)] → W p l e R s m args below meth c H locs 0 0 Q (F0 m 9 ls []) := by
    intro n9_9
    induction n9_9 using Nat.strongRecOn with
    | ind n9_9 ih9_9 =>
      intro b9_0 b9_1 b9_2 hn9_9 hi_9 H locs ls hP hD hS hl
      refine lv_iload_n hx hb d_Coder_firstFourBytes_9 rfl (lv_at hl 0 rfl) ?_
      refine lv_iconst (v := 4) hx hb d_Coder_firstFourBytes_10 (by decide) ?_
      refine lv_icmp_ge (tgt := 31) hx hb d_Coder_firstFourBytes_11 (by decide) (fun c_1 => ?_) (fun c_1 => ?_)
      · refine lv_lload_n hx hb d_Coder_firstFourBytes_31 rfl (lv_at hl 1 rfl) ?_
        exact my_lret (v := b9_1) hx hb hr hlocks hQ hK hS (Nat.le_refl _) (Nat.le_refl _) (b9_2) (trivial) (hP.sub [0, 1, 2] rfl) (hD.sub [0, 1, 2] (by decide) rfl) d_Coder_firstFourBytes_32
      · refine lv_lload_n hx hb d_Coder_firstFourBytes_14 rfl (lv_at hl 1 rfl) ?_
        refine lv_bipush (v := 8) hx hb d_Coder_firstFourBytes_15 (by decide) ?_
        refine lv_lshl hx hb d_Coder_firstFourBytes_17 rfl ?_
        refine lv_topl (fun v_2 ev_2 => ?_)
        refine lv_aload_n hx hb d_Coder_firstFourBytes_18 rfl (lv_at hl 2 rfl) ?_
        refine my_ci (wr := []) (va_runU (As := []) (rest := [.long v_2]) ⟨hx, hb, hml, hown, hts⟩ (c_Stack_Coder_nextByte l dC dI cI cM cO H.size co xx xreadX soa sna swa xkept ri ro rw b9_2 rin ria rik rif (by first | assumption | omega)) (va_cwU 0 hts (my_gU k741 k743 k747 k742 k3 k749) rfl rfl rfl rfl (by decide +kernel) ⟨by rw [hR]; exact Nat.le_of_ble_eq_true rfl, by rw [hR]; exact Nat.le_of_ble_eq_true rfl⟩) (my_preV hK hN (hP.sub [0, 1, 2] rfl) (hD.sub [0, 1, 2] (by decide) rfl) 0 rfl rfl) rfl rfl hl.1 rfl (lv_room (Nat.le_of_ble_eq_true rfl)) d_Coder_firstFourBytes_19 ⟨by rw [hR]; exact Nat.le_of_ble_eq_true rfl, by rw [hR]; exact Nat.le_of_ble_eq_true rfl⟩) hP hD hS hA [0, 1, 2] [] rfl rfl (by decide) (by decide) (fun r_19 u9 H locs hw_19 hP hD hS => ?_)
        obtain ⟨xaskedq_19, rfl⟩ : ∃ z, z = u9 := ⟨_, rfl⟩
        have hP : va_P (dC, dI) vwCl [(co, .inr (4, [.long xx, .long xreadX, .ref soa, .ref sna, .ref swa, .int xkept, .ref ri, .ref ro, .ref rw, .int xaskedq_19])), (ri, .inr (0, [.int rin, .ref ria])), (ria, .inl (cI, rik, .inl rif))] H := hP
        have hD : va_D A [(co, .inr (4, [.long xx, .long xreadX, .ref soa, .ref sna, .ref swa, .int xkept, .ref ri, .ref ro, .ref rw, .int xaskedq_19])), (ri, .inr (0, [.int rin, .ref ria])), (ria, .inl (cI, rik, .inl rif))] := hD
        refine lv_i2l hx hb d_Coder_firstFourBytes_22 rfl ?_
        refine lv_topl (fun v_3 ev_3 => ?_)
        refine lv_lor hx hb d_Coder_firstFourBytes_23 ?_
        refine lv_topl (fun v_4 ev_4 => ?_)
        refine lv_lstore_n (lv' := [(1, .long v_4), (3, .int b9_0), (0, .ref co)]) hx hb d_Coder_firstFourBytes_24 rfl hl (by decide) rfl (fun ls hl => ?_)
        obtain ⟨v_5, ev_5⟩ : ∃ y : Int32, y = b9_0 + (1) := ⟨_, rfl⟩
        refine lv_iinc (v := v_5) (lv' := [(3, .int v_5), (1, .long v_4), (0, .ref co)]) hx hb d_Coder_firstFourBytes_25 hl (k := 1) rfl (by rw [ev_5]; rfl) (by decide) rfl (fun ls hl => ?_)
        refine lv_goto (tgt := 9) hx hb d_Coder_firstFourBytes_28 (by decide) ?_
        exact ih9_9 _ (by first | omega | (have z9 := I_up c_1 ev_5; omega)) v_5 v_4 xaskedq_19 rfl (by have z9 := I_up c_1 ev_5; omega) H locs ls (hP.sub [0, 1, 2] rfl) (hD.sub [0, 1, 2] (by decide) rfl) hS (lv_sub hl [0, 1, 2] rfl)
  exact J_9 _ (0 : Int32) (0 : Int64) (0 : Int32) rfl (by first | decide | assumption | omega) H locs ls (hP.sub [0, 1, 2] rfl) (hD.sub [0, 1, 2] (by decide) rfl) hS (lv_sub hl [0, 1, 2] rfl)
set_option maxHeartbeats 2000000 in
set_option maxRecDepth 100000 in
theorem c_Stack_Coder_hasWidth (l : Launch) (dC : Nat → ClassId) (dI : Nat → Nat → Nat) (cI cM cO : ClassId) (sz : Nat) (co : Nat) (xx : Int64) (xreadX : Int64) (soa : Nat) (sna : Nat) (swa : Nat) (xkept : Int32) (ri : Nat) (ro : Nat) (rw : Nat) (xasked : Int32) (wd : Int32) : MetI l y_Coder_hasWidth (Cond.code y_Coder_hasWidth prog_4_method_13_code 2 (some .boolean) :: gw) ({ frames := 0, cells := 0, slots := 0, locals := 0 } : Room) (dC, dI) vwCl (kT cI cM cO) [.ref co, .int wd] [(co, .inr (4, [.long xx, .long xreadX, .ref soa, .ref sna, .ref swa, .int xkept, .ref ri, .ref ro, .ref rw, .int xasked]))] sz (fun (r : Int32) (u : Unit) => True) (fun (u : Unit) => [(co, .inr (4, [.long xx, .long xreadX, .ref soa, .ref sna, .ref swa, .int xkept, .ref ri, .ref ro, .ref rw, .int xasked]))]) 0 0 := by
  refine my_ofI (cc := prog_4_method_13_code) (n := 2) (ret := (some .boolean)) (by decide) rfl (Nat.le_of_ble_eq_true rfl) ?_
  intro p e s m args below meth c R Q A ls H locs hx hb hr hts hown hlocks hml hnm hR hQ hA hl hP hK hN hD hS
  have hg : ∀ w ∈ gw, w.before args s = true := fun w h => hts w (List.mem_cons_of_mem _ h)
  have hown : s.vm.findClass "RangeCoders$Coder" = some m.cls := hown
  have hl : lv_has ls 2 [(0, .ref co), (1, .int wd)] := hl
  refine lv_iload_n hx hb d_Coder_hasWidth_0 rfl (lv_at hl 1 rfl) ?_
  refine lv_iconst (v := 1) hx hb d_Coder_hasWidth_1 (by decide) ?_
  refine lv_icmp_lt (tgt := 15) hx hb d_Coder_hasWidth_2 (by decide) (fun c_1 => ?_) (fun c_1 => ?_)
  · refine lv_iconst (v := 0) hx hb d_Coder_hasWidth_15 (by decide) ?_
    exact my_iret (v := 0) hx hb hr (rfl) hlocks hQ hK hS (Nat.le_refl _) (Nat.le_refl _) () (trivial) (hP.sub [0] rfl) (hD.sub [0] (by decide) rfl) d_Coder_hasWidth_16
  · refine lv_iload_n hx hb d_Coder_hasWidth_5 rfl (lv_at hl 1 rfl) ?_
    refine lv_bipush (v := 12) hx hb d_Coder_hasWidth_6 (by decide) ?_
    refine lv_icmp_gt (tgt := 15) hx hb d_Coder_hasWidth_8 (by decide) (fun c_2 => ?_) (fun c_2 => ?_)
    · refine lv_iconst (v := 0) hx hb d_Coder_hasWidth_15 (by decide) ?_
      exact my_iret (v := 0) hx hb hr (rfl) hlocks hQ hK hS (Nat.le_refl _) (Nat.le_refl _) () (trivial) (hP.sub [0] rfl) (hD.sub [0] (by decide) rfl) d_Coder_hasWidth_16
    · refine lv_iconst (v := 1) hx hb d_Coder_hasWidth_11 (by decide) ?_
      refine lv_goto (tgt := 16) hx hb d_Coder_hasWidth_12 (by decide) ?_
      exact my_iret (v := 1) hx hb hr (rfl) hlocks hQ hK hS (Nat.le_refl _) (Nat.le_refl _) () (trivial) (hP.sub [0] rfl) (hD.sub [0] (by decide) rfl) d_Coder_hasWidth_16
set_option maxHeartbeats 2000000 in
set_option maxRecDepth 100000 in
theorem c_Stack_Coder_bytesAsked (l : Launch) (dC : Nat → ClassId) (dI : Nat → Nat → Nat) (cI cM cO : ClassId) (sz : Nat) (co : Nat) (xx : Int64) (xreadX : Int64) (soa : Nat) (sna : Nat) (swa : Nat) (xkept : Int32) (ri : Nat) (ro : Nat) (rw : Nat) (xasked : Int32) : MetI l y_Coder_bytesAsked (Cond.code y_Coder_bytesAsked prog_4_method_14_code 1 (some .int) :: gw) ({ frames := 0, cells := 0, slots := 0, locals := 0 } : Room) (dC, dI) vwCl (kT cI cM cO) [.ref co] [(co, .inr (4, [.long xx, .long xreadX, .ref soa, .ref sna, .ref swa, .int xkept, .ref ri, .ref ro, .ref rw, .int xasked]))] sz (fun (r : Int32) (u : Unit) => True) (fun (u : Unit) => [(co, .inr (4, [.long xx, .long xreadX, .ref soa, .ref sna, .ref swa, .int xkept, .ref ri, .ref ro, .ref rw, .int xasked]))]) 0 0 := by
  refine my_ofI (cc := prog_4_method_14_code) (n := 1) (ret := (some .int)) (by decide) rfl (Nat.le_of_ble_eq_true rfl) ?_
  intro p e s m args below meth c R Q A ls H locs hx hb hr hts hown hlocks hml hnm hR hQ hA hl hP hK hN hD hS
  have hg : ∀ w ∈ gw, w.before args s = true := fun w h => hts w (List.mem_cons_of_mem _ h)
  have hown : s.vm.findClass "RangeCoders$Coder" = some m.cls := hown
  have hl : lv_has ls 1 [(0, .ref co)] := hl
  refine lv_aload_n hx hb d_Coder_bytesAsked_0 rfl (lv_at hl 0 rfl) ?_
  refine va_get (D := (dC, dI)) (ci := 4) (v := .int xasked) (C := "RangeCoders$Stack") (T := T_Stack) (N := 10) hx hb hg in_Stack hown hK hP 0 rfl rfl 9 (by decide) (hg _ k130) (fun _ h9 => h9) rfl d_Coder_bytesAsked_1 ?_
  exact my_iret (v := xasked) hx hb hr (rfl) hlocks hQ hK hS (Nat.le_refl _) (Nat.le_refl _) () (trivial) (hP.sub [0] rfl) (hD.sub [0] (by decide) rfl) d_Coder_bytesAsked_4
set_option maxHeartbeats 2000000 in
set_option maxRecDepth 100000 in
theorem c_Stack_Coder_canWrite (l : Launch) (dC : Nat → ClassId) (dI : Nat → Nat → Nat) (cI cM cO : ClassId) (sz : Nat) (co : Nat) (xx : Int64) (xreadX : Int64) (soa : Nat) (sna : Nat) (swa : Nat) (xkept : Int32) (ri : Nat) (ro : Nat) (rw : Nat) (xasked : Int32) (oo : Nat) (osg : Int32) (osm : Int32) (ofc : Int32) (oca : Nat) (opa : Nat) (ol : Nat) (ocf : Nat → Int32) (opl : Nat) (opf : Nat → Int32) (ii : Int32) (hol : ol ≤ 64) (hopl : opl ≤ 512) : MetI l y_Coder_canWrite (Cond.code y_Coder_canWrite prog_4_method_12_code 3 (some .boolean) :: gw) ({ frames := 2, cells := 0, slots := 0, locals := 42 } : Room) (dC, dI) vwCl (kT cI cM cO) [.ref co, .ref oo, .int ii] [(co, .inr (4, [.long xx, .long xreadX, .ref soa, .ref sna, .ref swa, .int xkept, .ref ri, .ref ro, .ref rw, .int xasked])), (oo, .inr (7, [.int osg, .int osm, .int ofc, .ref oca, .ref opa])), (oca, .inl (cI, ol, .inl ocf)), (opa, .inl (cI, opl, .inl opf))] sz (fun (r : Int32) (u : Unit) => True) (fun (u : Unit) => [(co, .inr (4, [.long xx, .long xreadX, .ref soa, .ref sna, .ref swa, .int xkept, .ref ri, .ref ro, .ref rw, .int xasked])), (oo, .inr (7, [.int osg, .int osm, .int ofc, .ref oca, .ref opa])), (oca, .inl (cI, ol, .inl ocf)), (opa, .inl (cI, opl, .inl opf))]) 0 0 := by
  refine my_ofI (cc := prog_4_method_12_code) (n := 3) (ret := (some .boolean)) (by decide) rfl (Nat.le_of_ble_eq_true rfl) ?_
  intro p e s m args below meth c R Q A ls H locs hx hb hr hts hown hlocks hml hnm hR hQ hA hl hP hK hN hD hS
  have hg : ∀ w ∈ gw, w.before args s = true := fun w h => hts w (List.mem_cons_of_mem _ h)
  have hown : s.vm.findClass "RangeCoders$Coder" = some m.cls := hown
  have hl : lv_has ls 3 [(0, .ref co), (1, .ref oo), (2, .int ii)] := hl
  refine lv_aload_n hx hb d_Coder_canWrite_0 rfl (lv_at hl 1 rfl) ?_
  refine lv_iload_n hx hb d_Coder_canWrite_1 rfl (lv_at hl 2 rfl) ?_
  refine my_ci (wr := [(co, .inr (4, [.long xx, .long xreadX, .ref soa, .ref sna, .ref swa, .int xkept, .ref ri, .ref ro, .ref rw, .int xasked]))]) (va_runV (As := [.int ii]) (rest := []) ⟨hx, hb, hml, hown, hts⟩ (c_Odds_at l dC dI cI cM cO H.size oo osg osm ofc oca opa ol ocf opl opf ii (by first | assumption | omega) (by first | assumption | omega)) (cwV 1 hts (my_gV k435 k436 k437 k14 k438) rfl rfl rfl (by decide +kernel) ⟨by rw [hR]; exact Nat.le_of_ble_eq_true rfl, by rw [hR]; exact Nat.le_of_ble_eq_true rfl⟩) (my_preV hK hN (hP.sub [1, 2, 3] rfl) (hD.sub [1, 2, 3] (by decide) rfl) 0 rfl rfl) rfl rfl hl.1 rfl (lv_room (Nat.le_of_ble_eq_true rfl)) d_Coder_canWrite_2 ⟨by rw [hR]; exact Nat.le_of_ble_eq_true rfl, by rw [hR]; exact Nat.le_of_ble_eq_true rfl⟩) hP hD hS hA [1, 2, 3] [0] rfl rfl (by decide) (by decide) (fun r_2 u9 H locs hw_2 hP hD hS => ?_)
  have hP : va_P (dC, dI) vwCl [(co, .inr (4, [.long xx, .long xreadX, .ref soa, .ref sna, .ref swa, .int xkept, .ref ri, .ref ro, .ref rw, .int xasked])), (oo, .inr (7, [.int osg, .int osm, .int ofc, .ref oca, .ref opa])), (oca, .inl (cI, ol, .inl ocf)), (opa, .inl (cI, opl, .inl opf))] H := hP
  have hD : va_D A [(co, .inr (4, [.long xx, .long xreadX, .ref soa, .ref sna, .ref swa, .int xkept, .ref ri, .ref ro, .ref rw, .int xasked])), (oo, .inr (7, [.int osg, .int osm, .int ofc, .ref oca, .ref opa])), (oca, .inl (cI, ol, .inl ocf)), (opa, .inl (cI, opl, .inl opf))] := hD
  refine lv_if_le (tgt := 12) hx hb d_Coder_canWrite_5 (by decide) (fun c_1 => ?_) (fun c_1 => ?_)
  · refine lv_iconst (v := 0) hx hb d_Coder_canWrite_12 (by decide) ?_
    exact my_iret (v := 0) hx hb hr (rfl) hlocks hQ hK hS (Nat.le_refl _) (Nat.le_refl _) () (trivial) (hP.sub [0, 1, 2, 3] rfl) (hD.sub [0, 1, 2, 3] (by decide) rfl) d_Coder_canWrite_13
  · refine lv_iconst (v := 1) hx hb d_Coder_canWrite_8 (by decide) ?_
    refine lv_goto (tgt := 13) hx hb d_Coder_canWrite_9 (by decide) ?_
    exact my_iret (v := 1) hx hb hr (rfl) hlocks hQ hK hS (Nat.le_refl _) (Nat.le_refl _) () (trivial) (hP.sub [0, 1, 2, 3] rfl) (hD.sub [0, 1, 2, 3] (by decide) rfl) d_Coder_canWrite_13
set_option maxHeartbeats 2000000 in
set_option maxRecDepth 100000 in
theorem c_Stack_Stacked_register (l : Launch) (dC : Nat → ClassId) (dI : Nat → Nat → Nat) (cI cM cO : ClassId) (sz : Nat) (co : Nat) (xx : Int64) (xreadX : Int64) (soa : Nat) (sna : Nat) (swa : Nat) (xkept : Int32) (ri : Nat) (ro : Nat) (rw : Nat) (xasked : Int32) (wh : Int32) : MetL l y_Stacked_register (Cond.code y_Stacked_register prog_11_method_10_code 2 (some .long) :: gw) ({ frames := 0, cells := 0, slots := 0, locals := 0 } : Room) (dC, dI) vwCl (kT cI cM cO) [.ref co, .int wh] [(co, .inr (4, [.long xx, .long xreadX, .ref soa, .ref sna, .ref swa, .int xkept, .ref ri, .ref ro, .ref rw, .int xasked]))] sz (fun (r : Int64) (u : Unit) => True) (fun (u : Unit) => [(co, .inr (4, [.long xx, .long xreadX, .ref soa, .ref sna, .ref swa, .int xkept, .ref ri, .ref ro, .ref rw, .int xasked]))]) 0 0 := by
  refine my_ofL (cc := prog_11_method_10_code) (n := 2) (ret := (some .long)) (by decide) rfl (Nat.le_of_ble_eq_true rfl) ?_
  intro p e s m args below meth c R Q A ls H locs hx hb hr hts hown hlocks hml hnm hR hQ hA hl hP hK hN hD hS
  have hg : ∀ w ∈ gw, w.before args s = true := fun w h => hts w (List.mem_cons_of_mem _ h)
  have hown : s.vm.findClass "RangeCoders$Stacked" = some m.cls := hown
  have hl : lv_has ls 2 [(0, .ref co), (1, .int wh)] := hl
  refine lv_iload_n hx hb d_Stacked_register_0 rfl (lv_at hl 1 rfl) ?_
  refine lv_iconst (v := 5) hx hb d_Stacked_register_1 (by decide) ?_
  refine lv_icmp_ne (tgt := 12) hx hb d_Stacked_register_2 (by decide) (fun c_1 => ?_) (fun c_1 => ?_)
  · refine lv_lconst (v := 0) hx hb d_Stacked_register_12 (by decide) ?_
    exact my_lret (v := 0) hx hb hr hlocks hQ hK hS (Nat.le_refl _) (Nat.le_refl _) () (trivial) (hP.sub [0] rfl) (hD.sub [0] (by decide) rfl) d_Stacked_register_13
  · refine lv_aload_n hx hb d_Stacked_register_5 rfl (lv_at hl 0 rfl) ?_
    refine va_get (D := (dC, dI)) (ci := 4) (v := .long xreadX) (C := "RangeCoders$Stack") (T := T_Stack) (N := 10) hx hb hg in_Stack hown hK hP 0 rfl rfl 1 (by decide) (hg _ k217) (fun _ h9 => h9) rfl d_Stacked_register_6 ?_
    refine lv_goto (tgt := 13) hx hb d_Stacked_register_9 (by decide) ?_
    exact my_lret (v := xreadX) hx hb hr hlocks hQ hK hS (Nat.le_refl _) (Nat.le_refl _) () (trivial) (hP.sub [0] rfl) (hD.sub [0] (by decide) rfl) d_Stacked_register_13
theorem I_up0 {i j v : Int32} (h0 : 0 ≤ i.toInt) (h : ¬ j ≤ i) (ev : v = i + 1) : 0 ≤ v.toInt := by have z := I_up h ev; omega
set_option maxHeartbeats 2000000 in
set_option maxRecDepth 100000 in
theorem c_Stack_Stack_prepare (l : Launch) (dC : Nat → ClassId) (dI : Nat → Nat → Nat) (cI cM cO : ClassId) (sz : Nat) (co : Nat) (xx : Int64) (xreadX : Int64) (soa : Nat) (sna : Nat) (swa : Nat) (xkept : Int32) (ri : Nat) (ro : Nat) (rw : Nat) (xasked : Int32) (oo : Nat) (osg : Int32) (osm : Int32) (ofc : Int32) (oca : Nat) (opa : Nat) (ol : Nat) (ocf : Nat → Int32) (opl : Nat) (opf : Nat → Int32) (ka : Nat) (kl : Nat) (kf : Nat → Int32) (hol : ol ≤ 64) (hopl : opl ≤ 512) (hol0 : 1 ≤ ol) (hkl : kl ≤ 64) : MetV l y_Stack_prepare (Cond.code y_Stack_prepare prog_10_method_2_code 3 none :: gw) ({ frames := 3, cells := 0, slots := 0, locals := 67 } : Room) (dC, dI) vwCl (kT cI cM cO) [.ref co, .ref oo, .ref ka] [(co, .inr (4, [.long xx, .long xreadX, .ref soa, .ref sna, .ref swa, .int xkept, .ref ri, .ref ro, .ref rw, .int xasked])), (oo, .inr (7, [.int osg, .int osm, .int ofc, .ref oca, .ref opa])), (oca, .inl (cI, ol, .inl ocf)), (opa, .inl (cI, opl, .inl opf)), (ka, .inl (cI, kl, .inl kf))] sz (fun (u : Int32 × (Nat → Int32)) => True) (fun (u : Int32 × (Nat → Int32)) => [(co, .inr (4, [.long xx, .long xreadX, .ref soa, .ref sna, .ref swa, .int xkept, .ref ri, .ref ro, .ref rw, .int xasked])), (oo, .inr (7, [.int osg, .int u.1, .int ofc, .ref oca, .ref opa])), (oca, .inl (cI, ol, .inl u.2)), (opa, .inl (cI, opl, .inl opf)), (ka, .inl (cI, kl, .inl kf))]) 0 0 := by
  refine my_ofV (cc := prog_10_method_2_code) (n := 3) (ret := none) (by decide) rfl (Nat.le_of_ble_eq_true rfl) ?_
  intro p e s m args below meth c R Q A ls H locs hx hb hr hts hown hlocks hml hnm hR hQ hA hl hP hK hN hD hS
  have hg : ∀ w ∈ gw, w.before args s = true := fun w h => hts w (List.mem_cons_of_mem _ h)
  have hown : s.vm.findClass "RangeCoders$Stack" = some m.cls := hown
  have hl : lv_has ls 3 [(0, .ref co), (1, .ref oo), (2, .ref ka)] := hl
  refine lv_aload_n hx hb d_Stack_prepare_0 rfl (lv_at hl 1 rfl) ?_
  refine lv_sipush (v := 4096) hx hb d_Stack_prepare_1 (by decide) ?_
  refine lv_aload_n hx hb d_Stack_prepare_4 rfl (lv_at hl 2 rfl) ?_
  refine my_cv (wr := [(co, .inr (4, [.long xx, .long xreadX, .ref soa, .ref sna, .ref swa, .int xkept, .ref ri, .ref ro, .ref rw, .int xasked]))]) (va_runV (As := [.int 4096, .ref ka]) (rest := []) ⟨hx, hb, hml, hown, hts⟩ (c_Odds_scaleTo l dC dI cI cM cO H.size oo osg osm ofc oca opa ol ocf opl opf 4096 ka kl kf (by first | assumption | omega) (by first | assumption | omega) (by first | assumption | omega) (by first | assumption | omega)) (cwV 2 hts (my_gV k383 k384 k385 k14 k386) rfl rfl rfl (by decide +kernel) ⟨by rw [hR]; exact Nat.le_of_ble_eq_true rfl, by rw [hR]; exact Nat.le_of_ble_eq_true rfl⟩) (my_preV hK hN (hP.sub [1, 2, 3, 4] rfl) (hD.sub [1, 2, 3, 4] (by decide) rfl) 0 rfl rfl) rfl rfl hl.1 rfl (lv_room (Nat.le_of_ble_eq_true rfl)) d_Stack_prepare_5 ⟨by rw [hR]; exact Nat.le_of_ble_eq_true rfl, by rw [hR]; exact Nat.le_of_ble_eq_true rfl⟩) hP hD hS hA [1, 2, 3, 4] [0] rfl rfl (by decide) (by decide) (fun u9 H locs hw_5 hP hD hS => ?_)
  obtain ⟨osmq_5, ocfq_5⟩ := u9
  have hP : va_P (dC, dI) vwCl [(co, .inr (4, [.long xx, .long xreadX, .ref soa, .ref sna, .ref swa, .int xkept, .ref ri, .ref ro, .ref rw, .int xasked])), (oo, .inr (7, [.int osg, .int osmq_5, .int ofc, .ref oca, .ref opa])), (oca, .inl (cI, ol, .inl ocfq_5)), (opa, .inl (cI, opl, .inl opf)), (ka, .inl (cI, kl, .inl kf))] H := hP
  have hD : va_D A [(co, .inr (4, [.long xx, .long xreadX, .ref soa, .ref sna, .ref swa, .int xkept, .ref ri, .ref ro, .ref rw, .int xasked])), (oo, .inr (7, [.int osg, .int osmq_5, .int ofc, .ref oca, .ref opa])), (oca, .inl (cI, ol, .inl ocfq_5)), (opa, .inl (cI, opl, .inl opf)), (ka, .inl (cI, kl, .inl kf))] := hD
  exact my_vret hx hb hr hlocks hQ hK hS (Nat.le_refl _) (Nat.le_refl _) (osmq_5, ocfq_5) (trivial) (hP.sub [0, 1, 2, 3, 4] rfl) (hD.sub [0, 1, 2, 3, 4] (by decide) rfl) d_Stack_prepare_8
set_option maxHeartbeats 2000000 in
set_option maxRecDepth 100000 in
theorem c_Stack_Stack_openStack (l : Launch) (dC : Nat → ClassId) (dI : Nat → Nat → Nat) (cI cM cO : ClassId) (sz : Nat) (co : Nat) (xx : Int64) (xreadX : Int64) (soa : Nat) (sna : Nat) (swa : Nat) (xkept : Int32) (ri : Nat) (ro : Nat) (rw : Nat) (xasked : Int32) : MetV l y_Stack_openStack (Cond.code y_Stack_openStack prog_10_method_3_code 1 none :: gw) ({ frames := 0, cells := 0, slots := 0, locals := 0 } : Room) (dC, dI) vwCl (kT cI cM cO) [.ref co] [(co, .inr (4, [.long xx, .long xreadX, .ref soa, .ref sna, .ref swa, .int xkept, .ref ri, .ref ro, .ref rw, .int xasked]))] sz (fun (u : Int64) => True) (fun (u : Int64) => [(co, .inr (4, [.long u, .long xreadX, .ref soa, .ref sna, .ref swa, .int xkept, .ref ri, .ref ro, .ref rw, .int xasked]))]) 0 0 := by
  refine my_ofV (cc := prog_10_method_3_code) (n := 1) (ret := none) (by decide) rfl (Nat.le_of_ble_eq_true rfl) ?_
  intro p e s m args below meth c R Q A ls H locs hx hb hr hts hown hlocks hml hnm hR hQ hA hl hP hK hN hD hS
  have hg : ∀ w ∈ gw, w.before args s = true := fun w h => hts w (List.mem_cons_of_mem _ h)
  have hown : s.vm.findClass "RangeCoders$Stack" = some m.cls := hown
  have hl : lv_has ls 1 [(0, .ref co)] := hl
  refine lv_aload_n hx hb d_Stack_openStack_0 rfl (lv_at hl 0 rfl) ?_
  refine lv_ldc2 (v := 8388608) hx hb hown (hg _ k603) d_Stack_openStack_1 ?_
  refine va_put (D := (dC, dI)) (ci := 4) (v := .long 8388608) (ty := .long) (C := "RangeCoders$Stack") (T := T_Stack) (N := 10) hx hb hg in_Stack t_Stack o_Stack n_Stack hown hK hP hD hS 0 rfl rfl 0 (by decide) (hg _ k211) (fun x9 h9 => u_same (hg _ k212) x9 h9) rfl (by decide +kernel) rfl rfl (Nat.le_of_ble_eq_true rfl) d_Stack_openStack_4 (fun H locs hP hD hS => ?_)
  have hP : va_P (dC, dI) vwCl [(co, .inr (4, [.long 8388608, .long xreadX, .ref soa, .ref sna, .ref swa, .int xkept, .ref ri, .ref ro, .ref rw, .int xasked]))] H := hP
  have hD : va_D A [(co, .inr (4, [.long 8388608, .long xreadX, .ref soa, .ref sna, .ref swa, .int xkept, .ref ri, .ref ro, .ref rw, .int xasked]))] := hD
  exact my_vret hx hb hr hlocks hQ hK hS (Nat.le_refl _) (Nat.le_refl _) ((8388608 : Int64)) (trivial) (hP.sub [0] rfl) (hD.sub [0] (by decide) rfl) d_Stack_openStack_7
set_option maxHeartbeats 2000000 in
set_option maxRecDepth 100000 in
theorem c_Stack_Stack_writeLowest (l : Launch) (dC : Nat → ClassId) (dI : Nat → Nat → Nat) (cI cM cO : ClassId) (sz : Nat) (sl : Nat) (co : Nat) (xx : Int64) (xreadX : Int64) (soa : Nat) (sna : Nat) (swa : Nat) (xkept : Int32) (ri : Nat) (ro : Nat) (rw : Nat) (xasked : Int32) (rwn : Int32) (rwa : Nat) (rwk : Nat) (rwf : Nat → Int32) (hrw : rOk rwn rwk) : MetVg l y_Stack_writeLowest (Cond.code y_Stack_writeLowest prog_10_method_11_code 1 none :: gw) ({ frames := 3, cells := rPh rwk, slots := rPh rwk, locals := 83 } : Room) (dC, dI) vwCl (kT cI cM cO) [.ref co] [(co, .inr (4, [.long xx, .long xreadX, .ref soa, .ref sna, .ref swa, .int xkept, .ref ri, .ref ro, .ref rw, .int xasked])), (rw, .inr (0, [.int rwn, .ref rwa])), (rwa, .inl (cI, rwk, .inl rwf))] sz sl (fun (u : Int64 × Int32 × Nat × Nat × (Nat → Int32)) => rOk u.2.1 u.2.2.2.1) (fun (u : Int64 × Int32 × Nat × Nat × (Nat → Int32)) => [(co, .inr (4, [.long u.1, .long xreadX, .ref soa, .ref sna, .ref swa, .int xkept, .ref ri, .ref ro, .ref rw, .int xasked])), (rw, .inr (0, [.int u.2.1, .ref u.2.2.1])), (u.2.2.1, .inl (cI, u.2.2.2.1, .inl u.2.2.2.2))]) (rPh rwk) (fun (u : Int64 × Int32 × Nat × Nat × (Nat → Int32)) => rPh u.2.2.2.1) := by
  refine my_ofVg (cc := prog_10_method_11_code) (n := 1) (ret := none) (by decide) rfl (Nat.le_of_ble_eq_true rfl) ?_
  intro p e s m args below meth c R Q A ls H locs hx hb hr hts hown hlocks hml hnm hR hQ hA hl hP hK hN hD hS
  have hg : ∀ w ∈ gw, w.before args s = true := fun w h => hts w (List.mem_cons_of_mem _ h)
  have hown : s.vm.findClass "RangeCoders$Stack" = some m.cls := hown
  have hl : lv_has ls 1 [(0, .ref co)] := hl
  have hlt_hrw := rOk_lt hrw
  refine lv_aload_n hx hb d_Stack_writeLowest_0 rfl (lv_at hl 0 rfl) ?_
  refine va_get (D := (dC, dI)) (ci := 4) (v := .ref rw) (C := "RangeCoders$Stack") (T := T_Stack) (N := 10) hx hb hg in_Stack hown hK hP 0 rfl rfl 8 (by decide) (hg _ k118) (fun x9 h9 => u_same (hg _ k119) x9 h9) rfl d_Stack_writeLowest_1 ?_
  refine lv_aload_n hx hb d_Stack_writeLowest_4 rfl (lv_at hl 0 rfl) ?_
  refine va_get (D := (dC, dI)) (ci := 4) (v := .long xx) (C := "RangeCoders$Stack") (T := T_Stack) (N := 10) hx hb hg in_Stack hown hK hP 0 rfl rfl 0 (by decide) (hg _ k211) (fun x9 h9 => u_same (hg _ k212) x9 h9) rfl d_Stack_writeLowest_5 ?_
  refine lv_ldc2 (v := 255) hx hb hown (hg _ k623) d_Stack_writeLowest_8 ?_
  refine lv_land hx hb d_Stack_writeLowest_11 ?_
  refine lv_topl (fun v_1 ev_1 => ?_)
  refine lv_l2i hx hb d_Stack_writeLowest_12 rfl ?_
  refine lv_topi (fun v_2 ev_2 => ?_)
  refine my_cvg (wr := [(co, .inr (4, [.long xx, .long xreadX, .ref soa, .ref sna, .ref swa, .int xkept, .ref ri, .ref ro, .ref rw, .int xasked]))]) (va_runV (As := [.int v_2]) (rest := []) ⟨hx, hb, hml, hown, hts⟩ (c_Row_add l dC dI cI cM cO H.size (hSl H) rw rwn rwa rwk rwf v_2 (by first | assumption | omega)) (cwV 1 hts (my_gV k624 k473 k474 k6 k475) rfl rfl rfl (by decide +kernel) ⟨by rw [hR]; exact Nat.le_of_ble_eq_true rfl, by rw [hR]; exact Nat.le_of_ble_eq_true rfl⟩) (my_preVg hK hN (hP.sub [1, 2] rfl) (hD.sub [1, 2] (by decide) rfl) 0 rfl rfl) rfl rfl hl.1 rfl (lv_room (Nat.le_of_ble_eq_true rfl)) d_Stack_writeLowest_13 ⟨by rw [hR]; exact (show 0 + (rPh rwk) ≤ (rPh rwk) by omega), by rw [hR]; exact (show 0 + (rPh rwk) ≤ (rPh rwk) by omega)⟩) hP hD hS hA [1, 2] [0] rfl rfl (by decide) (by decide) (fun u9 d_13 H locs hd_13 hw_13 hP hD hS => ?_)
  obtain ⟨rrnq_13, rraq_13, rrkq_13, rrfq_13⟩ := u9
  have hrr_13 : rOk rrnq_13 rrkq_13 := hw_13
  have hd_13 : d_13 + (rPh rrkq_13) ≤ (rPh rwk) := hd_13
  have hP : va_P (dC, dI) vwCl [(co, .inr (4, [.long xx, .long xreadX, .ref soa, .ref sna, .ref swa, .int xkept, .ref ri, .ref ro, .ref rw, .int xasked])), (rw, .inr (0, [.int rrnq_13, .ref rraq_13])), (rraq_13, .inl (cI, rrkq_13, .inl rrfq_13))] H := hP
  have hD : va_D A [(co, .inr (4, [.long xx, .long xreadX, .ref soa, .ref sna, .ref swa, .int xkept, .ref ri, .ref ro, .ref rw, .int xasked])), (rw, .inr (0, [.int rrnq_13, .ref rraq_13])), (rraq_13, .inl (cI, rrkq_13, .inl rrfq_13))] := hD
  refine lv_aload_n hx hb d_Stack_writeLowest_16 rfl (lv_at hl 0 rfl) ?_
  refine lv_dup hx hb d_Stack_writeLowest_17 rfl ?_
  refine va_get (D := (dC, dI)) (ci := 4) (v := .long xx) (C := "RangeCoders$Stack") (T := T_Stack) (N := 10) hx hb hg in_Stack hown hK hP 0 rfl rfl 0 (by decide) (hg _ k211) (fun x9 h9 => u_same (hg _ k212) x9 h9) rfl d_Stack_writeLowest_18 ?_
  refine lv_bipush (v := 8) hx hb d_Stack_writeLowest_21 (by decide) ?_
  refine lv_lushr hx hb d_Stack_writeLowest_23 rfl ?_
  refine lv_topl (fun v_3 ev_3 => ?_)
  refine va_put (D := (dC, dI)) (ci := 4) (v := .long v_3) (ty := .long) (C := "RangeCoders$Stack") (T := T_Stack) (N := 10) hx hb hg in_Stack t_Stack o_Stack n_Stack hown hK hP hD hS 0 rfl rfl 0 (by decide) (hg _ k211) (fun x9 h9 => u_same (hg _ k212) x9 h9) rfl (by decide +kernel) rfl rfl (Nat.le_of_ble_eq_true rfl) d_Stack_writeLowest_24 (fun H locs hP hD hS => ?_)
  have hP : va_P (dC, dI) vwCl [(co, .inr (4, [.long v_3, .long xreadX, .ref soa, .ref sna, .ref swa, .int xkept, .ref ri, .ref ro, .ref rw, .int xasked])), (rw, .inr (0, [.int rrnq_13, .ref rraq_13])), (rraq_13, .inl (cI, rrkq_13, .inl rrfq_13))] H := hP
  have hD : va_D A [(co, .inr (4, [.long v_3, .long xreadX, .ref soa, .ref sna, .ref swa, .int xkept, .ref ri, .ref ro, .ref rw, .int xasked])), (rw, .inr (0, [.int rrnq_13, .ref rraq_13])), (rraq_13, .inl (cI, rrkq_13, .inl rrfq_13))] := hD
  exact my_vretg hx hb hr hlocks hQ hK hS (v_3, rrnq_13, rraq_13, rrkq_13, rrfq_13) (show (0 + d_13) + (rPh rrkq_13) ≤ (rPh rwk) by omega) (show (0 + d_13) + (rPh rrkq_13) ≤ (rPh rwk) by omega) (by first | assumption | (subst_vars; assumption)) (hP.sub [0, 1, 2] rfl) (hD.sub [0, 1, 2] (by decide) rfl) d_Stack_writeLowest_27
set_option maxHeartbeats 2000000 in
set_option maxRecDepth 100000 in
theorem c_Stack_Stack_stackPart (l : Launch) (dC : Nat → ClassId) (dI : Nat → Nat → Nat) (cI cM cO : ClassId) (sz : Nat) (sl : Nat) (co : Nat) (xx : Int64) (xreadX : Int64) (soa : Nat) (sna : Nat) (swa : Nat) (xkept : Int32) (ri : Nat) (ro : Nat) (rw : Nat) (xasked : Int32) (rwn : Int32) (rwa : Nat) (rwk : Nat) (rwf : Nat → Int32) (pf : Int32) (pcc : Int32) (hrw : rOk rwn rwk) : MetVg l y_Stack_stackPart (Cond.code y_Stack_stackPart prog_10_method_10_code 4 none :: gw) ({ frames := 4, cells := rPh rwk, slots := rPh rwk, locals := 103 } : Room) (dC, dI) vwCl (kT cI cM cO) [.ref co, .int pf, .int pcc] [(co, .inr (4, [.long xx, .long xreadX, .ref soa, .ref sna, .ref swa, .int xkept, .ref ri, .ref ro, .ref rw, .int xasked])), (rw, .inr (0, [.int rwn, .ref rwa])), (rwa, .inl (cI, rwk, .inl rwf))] sz sl (fun (u : Int64 × Int32 × Nat × Nat × (Nat → Int32)) => rOk u.2.1 u.2.2.2.1) (fun (u : Int64 × Int32 × Nat × Nat × (Nat → Int32)) => [(co, .inr (4, [.long u.1, .long xreadX, .ref soa, .ref sna, .ref swa, .int xkept, .ref ri, .ref ro, .ref rw, .int xasked])), (rw, .inr (0, [.int u.2.1, .ref u.2.2.1])), (u.2.2.1, .inl (cI, u.2.2.2.1, .inl u.2.2.2.2))]) (rPh rwk) (fun (u : Int64 × Int32 × Nat × Nat × (Nat → Int32)) => rPh u.2.2.2.1) := by
  refine my_ofVg (cc := prog_10_method_10_code) (n := 4) (ret := none) (by decide) rfl (Nat.le_of_ble_eq_true rfl) ?_
  intro p e s m args below meth c R Q A ls H locs hx hb hr hts hown hlocks hml hnm hR hQ hA hl hP hK hN hD hS
  have hg : ∀ w ∈ gw, w.before args s = true := fun w h => hts w (List.mem_cons_of_mem _ h)
  have hown : s.vm.findClass "RangeCoders$Stack" = some m.cls := hown
  have hl : lv_has ls 4 [(0, .ref co), (1, .int pf), (2, .int pcc)] := hl
  have hlt_hrw := rOk_lt hrw
  refine lv_iload_n hx hb d_Stack_stackPart_0 rfl (lv_at hl 1 rfl) ?_
  refine lv_if_gt (tgt := 5) hx hb d_Stack_stackPart_1 (by decide) (fun c_1 => ?_) (fun c_1 => ?_)
  · refine lv_iconst (v := 0) hx hb d_Stack_stackPart_5 (by decide) ?_
    refine lv_istore_n (lv' := [(3, .int 0), (0, .ref co), (1, .int pf), (2, .int pcc)]) hx hb d_Stack_stackPart_6 rfl hl (by decide) rfl (fun ls hl => ?_)
    have J_7 : ∀ (n9_7 : Nat) (b7_0 : Int32) (b7_1 : Nat) (b7_2 : Int64) (b7_3 : Int32) (b7_4 : Nat) (b7_5 : Nat → Int32) (b7_6 : Nat) (hn9_7 : ((8 : Int32).toInt - b7_0.toInt).toNat = n9_7) (hi_7 : 0 ≤ b7_0.toInt) (hr1_7 : rOk b7_3 b7_4) (hd_7 : b7_6 + (rPh b7_4) ≤ rPh rwk) (H : Heap) (locs : List Loc) (ls : Array Slot), va_P (dC, dI) vwCl [(co, .inr (4, [.long b7_2, .long xreadX, .ref soa, .ref sna, .ref swa, .int xkept, .ref ri, .ref ro, .ref rw, .int xasked])), (rw, .inr (0, [.int b7_3, .ref b7_1])), (b7_1, .inl (cI, b7_4, .inl b7_5))] H → va_D A [(co, .inr (4, [.long b7_2, .long xreadX, .ref soa, .ref sna, .ref swa, .int xkept, .ref ri, .ref ro, .ref rw, .int xasked])), (rw, .inr (0, [.int b7_3, .ref b7_1])), (b7_1, .inl (cI, b7_4, .inl b7_5))] → va_S A s.heap H locs → lv_has ls 4 [(3, .int b7_0), (0, .ref co), (1, .int pf), (2, .int pcc)] → W p l e R s m args below meth c H locs b7_6 b7_6 Q (F0 m 7 ls []) := by
      intro n9_7
      induction n9_7 using Nat.strongRecOn with
      | ind n9_7 ih9_7 =>
        intro b7_0 b7_1 b7_2 b7_3 b7_4 b7_5 b7_6 hn9_7 hi_7 hr1_7 hd_7 H locs ls hP hD hS hl
        refine lv_iload_n hx hb d_Stack_stackPart_7 rfl (lv_at hl 0 rfl) ?_
        refine lv_bipush (v := 8) hx hb d_Stack_stackPart_8 (by decide) ?_
        refine lv_icmp_ge (tgt := 36) hx hb d_Stack_stackPart_10 (by decide) (fun c_2 => ?_) (fun c_2 => ?_)
        · refine lv_aload_n hx hb d_Stack_stackPart_36 rfl (lv_at hl 1 rfl) ?_
          refine lv_ldc2 (v := 4096) hx hb hown (hg _ k625) d_Stack_stackPart_37 ?_
          refine lv_aload_n hx hb d_Stack_stackPart_40 rfl (lv_at hl 1 rfl) ?_
          refine va_get (D := (dC, dI)) (ci := 4) (v := .long b7_2) (C := "RangeCoders$Stack") (T := T_Stack) (N := 10) hx hb hg in_Stack hown hK hP 0 rfl rfl 0 (by decide) (hg _ k211) (fun x9 h9 => u_same (hg _ k212) x9 h9) rfl d_Stack_stackPart_41 ?_
          refine lv_iload_n hx hb d_Stack_stackPart_44 rfl (lv_at hl 2 rfl) ?_
          refine lv_i2l hx hb d_Stack_stackPart_45 rfl ?_
          refine lv_topl (fun v_3 ev_3 => ?_)
          refine lv_ldiv hx hb d_Stack_stackPart_46 (by rw [ev_3]; first | exact L_nzi (by assumption) | exact L_nzip (by assumption)) ?_
          refine lv_topl (fun v_4 ev_4 => ?_)
          refine lv_lmul hx hb d_Stack_stackPart_47 ?_
          refine lv_topl (fun v_5 ev_5 => ?_)
          refine lv_aload_n hx hb d_Stack_stackPart_48 rfl (lv_at hl 1 rfl) ?_
          refine va_get (D := (dC, dI)) (ci := 4) (v := .long b7_2) (C := "RangeCoders$Stack") (T := T_Stack) (N := 10) hx hb hg in_Stack hown hK hP 0 rfl rfl 0 (by decide) (hg _ k211) (fun x9 h9 => u_same (hg _ k212) x9 h9) rfl d_Stack_stackPart_49 ?_
          refine lv_iload_n hx hb d_Stack_stackPart_52 rfl (lv_at hl 2 rfl) ?_
          refine lv_i2l hx hb d_Stack_stackPart_53 rfl ?_
          refine lv_topl (fun v_6 ev_6 => ?_)
          refine lv_lrem hx hb d_Stack_stackPart_54 (by rw [ev_6]; first | exact L_nzi (by assumption) | exact L_nzip (by assumption)) ?_
          refine lv_topl (fun v_7 ev_7 => ?_)
          refine lv_ladd hx hb d_Stack_stackPart_55 ?_
          refine lv_topl (fun v_8 ev_8 => ?_)
          refine lv_iload_n hx hb d_Stack_stackPart_56 rfl (lv_at hl 3 rfl) ?_
          refine lv_i2l hx hb d_Stack_stackPart_57 rfl ?_
          refine lv_topl (fun v_9 ev_9 => ?_)
          refine lv_ladd hx hb d_Stack_stackPart_58 ?_
          refine lv_topl (fun v_10 ev_10 => ?_)
          refine va_put (D := (dC, dI)) (ci := 4) (v := .long v_10) (ty := .long) (C := "RangeCoders$Stack") (T := T_Stack) (N := 10) hx hb hg in_Stack t_Stack o_Stack n_Stack hown hK hP hD hS 0 rfl rfl 0 (by decide) (hg _ k211) (fun x9 h9 => u_same (hg _ k212) x9 h9) rfl (by decide +kernel) rfl rfl (Nat.le_of_ble_eq_true rfl) d_Stack_stackPart_59 (fun H locs hP hD hS => ?_)
          have hP : va_P (dC, dI) vwCl [(co, .inr (4, [.long v_10, .long xreadX, .ref soa, .ref sna, .ref swa, .int xkept, .ref ri, .ref ro, .ref rw, .int xasked])), (rw, .inr (0, [.int b7_3, .ref b7_1])), (b7_1, .inl (cI, b7_4, .inl b7_5))] H := hP
          have hD : va_D A [(co, .inr (4, [.long v_10, .long xreadX, .ref soa, .ref sna, .ref swa, .int xkept, .ref ri, .ref ro, .ref rw, .int xasked])), (rw, .inr (0, [.int b7_3, .ref b7_1])), (b7_1, .inl (cI, b7_4, .inl b7_5))] := hD
          exact my_vretg hx hb hr hlocks hQ hK hS (v_10, b7_3, b7_1, b7_4, b7_5) (show b7_6 + (rPh b7_4) ≤ (rPh rwk) by omega) (show b7_6 + (rPh b7_4) ≤ (rPh rwk) by omega) (by first | assumption | (subst_vars; assumption)) (hP.sub [0, 1, 2] rfl) (hD.sub [0, 1, 2] (by decide) rfl) d_Stack_stackPart_62
        · refine lv_aload_n hx hb d_Stack_stackPart_13 rfl (lv_at hl 1 rfl) ?_
          refine va_get (D := (dC, dI)) (ci := 4) (v := .long b7_2) (C := "RangeCoders$Stack") (T := T_Stack) (N := 10) hx hb hg in_Stack hown hK hP 0 rfl rfl 0 (by decide) (hg _ k211) (fun x9 h9 => u_same (hg _ k212) x9 h9) rfl d_Stack_stackPart_14 ?_
          refine lv_iload_n hx hb d_Stack_stackPart_17 rfl (lv_at hl 2 rfl) ?_
          refine lv_i2l hx hb d_Stack_stackPart_18 rfl ?_
          refine lv_topl (fun v_11 ev_11 => ?_)
          refine lv_bipush (v := 19) hx hb d_Stack_stackPart_19 (by decide) ?_
          refine lv_lshl hx hb d_Stack_stackPart_21 rfl ?_
          refine lv_topl (fun v_12 ev_12 => ?_)
          refine W.lcmp hx hb d_Stack_stackPart_22 ?_
          refine lv_if_lt (tgt := 36) hx hb d_Stack_stackPart_23 (by decide) (fun c_13 => ?_) (fun c_13 => ?_)
          · rw [lg_cmp_lt] at c_13
            refine lv_aload_n hx hb d_Stack_stackPart_36 rfl (lv_at hl 1 rfl) ?_
            refine lv_ldc2 (v := 4096) hx hb hown (hg _ k625) d_Stack_stackPart_37 ?_
            refine lv_aload_n hx hb d_Stack_stackPart_40 rfl (lv_at hl 1 rfl) ?_
            refine va_get (D := (dC, dI)) (ci := 4) (v := .long b7_2) (C := "RangeCoders$Stack") (T := T_Stack) (N := 10) hx hb hg in_Stack hown hK hP 0 rfl rfl 0 (by decide) (hg _ k211) (fun x9 h9 => u_same (hg _ k212) x9 h9) rfl d_Stack_stackPart_41 ?_
            refine lv_iload_n hx hb d_Stack_stackPart_44 rfl (lv_at hl 2 rfl) ?_
            refine lv_i2l hx hb d_Stack_stackPart_45 rfl ?_
            refine lv_topl (fun v_14 ev_14 => ?_)
            refine lv_ldiv hx hb d_Stack_stackPart_46 (by rw [ev_14]; first | exact L_nzi (by assumption) | exact L_nzip (by assumption)) ?_
            refine lv_topl (fun v_15 ev_15 => ?_)
            refine lv_lmul hx hb d_Stack_stackPart_47 ?_
            refine lv_topl (fun v_16 ev_16 => ?_)
            refine lv_aload_n hx hb d_Stack_stackPart_48 rfl (lv_at hl 1 rfl) ?_
            refine va_get (D := (dC, dI)) (ci := 4) (v := .long b7_2) (C := "RangeCoders$Stack") (T := T_Stack) (N := 10) hx hb hg in_Stack hown hK hP 0 rfl rfl 0 (by decide) (hg _ k211) (fun x9 h9 => u_same (hg _ k212) x9 h9) rfl d_Stack_stackPart_49 ?_
            refine lv_iload_n hx hb d_Stack_stackPart_52 rfl (lv_at hl 2 rfl) ?_
            refine lv_i2l hx hb d_Stack_stackPart_53 rfl ?_
            refine lv_topl (fun v_17 ev_17 => ?_)
            refine lv_lrem hx hb d_Stack_stackPart_54 (by rw [ev_17]; first | exact L_nzi (by assumption) | exact L_nzip (by assumption)) ?_
            refine lv_topl (fun v_18 ev_18 => ?_)
            refine lv_ladd hx hb d_Stack_stackPart_55 ?_
            refine lv_topl (fun v_19 ev_19 => ?_)
            refine lv_iload_n hx hb d_Stack_stackPart_56 rfl (lv_at hl 3 rfl) ?_
            refine lv_i2l hx hb d_Stack_stackPart_57 rfl ?_
            refine lv_topl (fun v_20 ev_20 => ?_)
            refine lv_ladd hx hb d_Stack_stackPart_58 ?_
            refine lv_topl (fun v_21 ev_21 => ?_)
            refine va_put (D := (dC, dI)) (ci := 4) (v := .long v_21) (ty := .long) (C := "RangeCoders$Stack") (T := T_Stack) (N := 10) hx hb hg in_Stack t_Stack o_Stack n_Stack hown hK hP hD hS 0 rfl rfl 0 (by decide) (hg _ k211) (fun x9 h9 => u_same (hg _ k212) x9 h9) rfl (by decide +kernel) rfl rfl (Nat.le_of_ble_eq_true rfl) d_Stack_stackPart_59 (fun H locs hP hD hS => ?_)
            have hP : va_P (dC, dI) vwCl [(co, .inr (4, [.long v_21, .long xreadX, .ref soa, .ref sna, .ref swa, .int xkept, .ref ri, .ref ro, .ref rw, .int xasked])), (rw, .inr (0, [.int b7_3, .ref b7_1])), (b7_1, .inl (cI, b7_4, .inl b7_5))] H := hP
            have hD : va_D A [(co, .inr (4, [.long v_21, .long xreadX, .ref soa, .ref sna, .ref swa, .int xkept, .ref ri, .ref ro, .ref rw, .int xasked])), (rw, .inr (0, [.int b7_3, .ref b7_1])), (b7_1, .inl (cI, b7_4, .inl b7_5))] := hD
            exact my_vretg hx hb hr hlocks hQ hK hS (v_21, b7_3, b7_1, b7_4, b7_5) (show b7_6 + (rPh b7_4) ≤ (rPh rwk) by omega) (show b7_6 + (rPh b7_4) ≤ (rPh rwk) by omega) (by first | assumption | (subst_vars; assumption)) (hP.sub [0, 1, 2] rfl) (hD.sub [0, 1, 2] (by decide) rfl) d_Stack_stackPart_62
          · rw [lg_cmp_lt] at c_13
            refine lv_aload_n hx hb d_Stack_stackPart_26 rfl (lv_at hl 1 rfl) ?_
            refine my_cvg (wr := []) (va_runV (As := []) (rest := []) ⟨hx, hb, hml, hown, hts⟩ (c_Stack_Stack_writeLowest l dC dI cI cM cO H.size (hSl H) co b7_2 xreadX soa sna swa xkept ri ro rw xasked b7_3 b7_1 b7_4 b7_5 (by first | assumption | omega)) (cwV 0 hts (my_gV k619 k621 ks10 k10 k622) rfl rfl rfl (by decide +kernel) ⟨by rw [hR]; exact Nat.le_of_ble_eq_true rfl, by rw [hR]; exact Nat.le_of_ble_eq_true rfl⟩) (my_preVg hK hN (hP.sub [0, 1, 2] rfl) (hD.sub [0, 1, 2] (by decide) rfl) 0 rfl rfl) rfl rfl hl.1 rfl (lv_room (Nat.le_of_ble_eq_true rfl)) d_Stack_stackPart_27 ⟨by rw [hR]; exact (show b7_6 + (rPh b7_4) ≤ (rPh rwk) by omega), by rw [hR]; exact (show b7_6 + (rPh b7_4) ≤ (rPh rwk) by omega)⟩) hP hD hS hA [0, 1, 2] [] rfl rfl (by decide) (by decide) (fun u9 d_27 H locs hd_27 hw_27 hP hD hS => ?_)
            obtain ⟨xxq_27, rwnq_27, rwaq_27, rwkq_27, rwfq_27⟩ := u9
            have hrw_27 : rOk rwnq_27 rwkq_27 := hw_27
            have hd_27 : d_27 + (rPh rwkq_27) ≤ (rPh b7_4) := hd_27
            have hP : va_P (dC, dI) vwCl [(co, .inr (4, [.long xxq_27, .long xreadX, .ref soa, .ref sna, .ref swa, .int xkept, .ref ri, .ref ro, .ref rw, .int xasked])), (rw, .inr (0, [.int rwnq_27, .ref rwaq_27])), (rwaq_27, .inl (cI, rwkq_27, .inl rwfq_27))] H := hP
            have hD : va_D A [(co, .inr (4, [.long xxq_27, .long xreadX, .ref soa, .ref sna, .ref swa, .int xkept, .ref ri, .ref ro, .ref rw, .int xasked])), (rw, .inr (0, [.int rwnq_27, .ref rwaq_27])), (rwaq_27, .inl (cI, rwkq_27, .inl rwfq_27))] := hD
            obtain ⟨v_22, ev_22⟩ : ∃ y : Int32, y = b7_0 + (1) := ⟨_, rfl⟩
            refine lv_iinc (v := v_22) (lv' := [(3, .int v_22), (0, .ref co), (1, .int pf), (2, .int pcc)]) hx hb d_Stack_stackPart_30 hl (k := 0) rfl (by rw [ev_22]; rfl) (by decide) rfl (fun ls hl => ?_)
            refine lv_goto (tgt := 7) hx hb d_Stack_stackPart_33 (by decide) ?_
            exact ih9_7 _ (by first | omega | (have z9 := I_up c_2 ev_22; omega)) v_22 rwaq_27 xxq_27 rwnq_27 rwkq_27 rwfq_27 (b7_6 + d_27) rfl (by have z9 := I_up c_2 ev_22; omega) (by assumption) (by omega) H locs ls (hP.sub [0, 1, 2] rfl) (hD.sub [0, 1, 2] (by decide) rfl) hS (lv_sub hl [0, 1, 2, 3] rfl)
    exact J_7 _ (0 : Int32) rwa xx rwn rwk rwf (0 : Nat) rfl (by first | decide | assumption | omega) (by assumption) (by omega) H locs ls (hP.sub [0, 1, 2] rfl) (hD.sub [0, 1, 2] (by decide) rfl) hS (lv_sub hl [0, 1, 2, 3] rfl)
  · exact my_vretg hx hb hr hlocks hQ hK hS (xx, rwn, rwa, rwk, rwf) (show 0 + (rPh rwk) ≤ (rPh rwk) by omega) (show 0 + (rPh rwk) ≤ (rPh rwk) by omega) (by first | assumption | (subst_vars; assumption)) (hP.sub [0, 1, 2] rfl) (hD.sub [0, 1, 2] (by decide) rfl) d_Stack_stackPart_4
set_option maxHeartbeats 2000000 in
set_option maxRecDepth 100000 in
theorem c_Stack_Stack_stackSign (l : Launch) (dC : Nat → ClassId) (dI : Nat → Nat → Nat) (cI cM cO : ClassId) (sz : Nat) (sl : Nat) (co : Nat) (xx : Int64) (xreadX : Int64) (soa : Nat) (sna : Nat) (swa : Nat) (xkept : Int32) (ri : Nat) (ro : Nat) (rw : Nat) (xasked : Int32) (rwn : Int32) (rwa : Nat) (rwk : Nat) (rwf : Nat → Int32) (oo : Nat) (osg : Int32) (osm : Int32) (ofc : Int32) (oca : Nat) (opa : Nat) (ol : Nat) (ocf : Nat → Int32) (opl : Nat) (opf : Nat → Int32) (ii : Int32) (hrw : rOk rwn rwk) (hol : ol ≤ 64) (hopl : opl ≤ 512) : MetVg l y_Stack_stackSign (Cond.code y_Stack_stackSign prog_10_method_4_code 3 none :: gw) ({ frames := 5, cells := rPh rwk, slots := rPh rwk, locals := 126 } : Room) (dC, dI) vwCl (kT cI cM cO) [.ref co, .ref oo, .int ii] [(co, .inr (4, [.long xx, .long xreadX, .ref soa, .ref sna, .ref swa, .int xkept, .ref ri, .ref ro, .ref rw, .int xasked])), (rw, .inr (0, [.int rwn, .ref rwa])), (rwa, .inl (cI, rwk, .inl rwf)), (oo, .inr (7, [.int osg, .int osm, .int ofc, .ref oca, .ref opa])), (oca, .inl (cI, ol, .inl ocf)), (opa, .inl (cI, opl, .inl opf))] sz sl (fun (u : Int64 × Int32 × Nat × Nat × (Nat → Int32)) => rOk u.2.1 u.2.2.2.1) (fun (u : Int64 × Int32 × Nat × Nat × (Nat → Int32)) => [(co, .inr (4, [.long u.1, .long xreadX, .ref soa, .ref sna, .ref swa, .int xkept, .ref ri, .ref ro, .ref rw, .int xasked])), (rw, .inr (0, [.int u.2.1, .ref u.2.2.1])), (u.2.2.1, .inl (cI, u.2.2.2.1, .inl u.2.2.2.2)), (oo, .inr (7, [.int osg, .int osm, .int ofc, .ref oca, .ref opa])), (oca, .inl (cI, ol, .inl ocf)), (opa, .inl (cI, opl, .inl opf))]) (rPh rwk) (fun (u : Int64 × Int32 × Nat × Nat × (Nat → Int32)) => rPh u.2.2.2.1) := by
  refine my_ofVg (cc := prog_10_method_4_code) (n := 3) (ret := none) (by decide) rfl (Nat.le_of_ble_eq_true rfl) ?_
  intro p e s m args below meth c R Q A ls H locs hx hb hr hts hown hlocks hml hnm hR hQ hA hl hP hK hN hD hS
  have hg : ∀ w ∈ gw, w.before args s = true := fun w h => hts w (List.mem_cons_of_mem _ h)
  have hown : s.vm.findClass "RangeCoders$Stack" = some m.cls := hown
  have hl : lv_has ls 3 [(0, .ref co), (1, .ref oo), (2, .int ii)] := hl
  have hlt_hrw := rOk_lt hrw
  refine lv_aload_n hx hb d_Stack_stackSign_0 rfl (lv_at hl 0 rfl) ?_
  refine lv_aload_n hx hb d_Stack_stackSign_1 rfl (lv_at hl 1 rfl) ?_
  refine lv_iload_n hx hb d_Stack_stackSign_2 rfl (lv_at hl 2 rfl) ?_
  refine my_ci (wr := [(co, .inr (4, [.long xx, .long xreadX, .ref soa, .ref sna, .ref swa, .int xkept, .ref ri, .ref ro, .ref rw, .int xasked])), (rw, .inr (0, [.int rwn, .ref rwa])), (rwa, .inl (cI, rwk, .inl rwf))]) (va_runV (As := [.int ii]) (rest := [.ref co]) ⟨hx, hb, hml, hown, hts⟩ (c_Odds_at l dC dI cI cM cO H.size oo osg osm ofc oca opa ol ocf opl opf ii (by first | assumption | omega) (by first | assumption | omega)) (cwV 1 hts (my_gV k636 k436 k437 k14 k438) rfl rfl rfl (by decide +kernel) ⟨by rw [hR]; exact Nat.le_of_ble_eq_true rfl, by rw [hR]; exact Nat.le_of_ble_eq_true rfl⟩) (my_preV hK hN (hP.sub [3, 4, 5] rfl) (hD.sub [3, 4, 5] (by decide) rfl) 0 rfl rfl) rfl rfl hl.1 rfl (lv_room (Nat.le_of_ble_eq_true rfl)) d_Stack_stackSign_3 ⟨by rw [hR]; exact (show 0 + 0 ≤ (rPh rwk) by omega), by rw [hR]; exact (show 0 + 0 ≤ (rPh rwk) by omega)⟩) hP hD hS hA [3, 4, 5] [0, 1, 2] rfl rfl (by decide) (by decide) (fun r_3 u9 H locs hw_3 hP hD hS => ?_)
  have hP : va_P (dC, dI) vwCl [(co, .inr (4, [.long xx, .long xreadX, .ref soa, .ref sna, .ref swa, .int xkept, .ref ri, .ref ro, .ref rw, .int xasked])), (rw, .inr (0, [.int rwn, .ref rwa])), (rwa, .inl (cI, rwk, .inl rwf)), (oo, .inr (7, [.int osg, .int osm, .int ofc, .ref oca, .ref opa])), (oca, .inl (cI, ol, .inl ocf)), (opa, .inl (cI, opl, .inl opf))] H := hP
  have hD : va_D A [(co, .inr (4, [.long xx, .long xreadX, .ref soa, .ref sna, .ref swa, .int xkept, .ref ri, .ref ro, .ref rw, .int xasked])), (rw, .inr (0, [.int rwn, .ref rwa])), (rwa, .inl (cI, rwk, .inl rwf)), (oo, .inr (7, [.int osg, .int osm, .int ofc, .ref oca, .ref opa])), (oca, .inl (cI, ol, .inl ocf)), (opa, .inl (cI, opl, .inl opf))] := hD
  refine lv_aload_n hx hb d_Stack_stackSign_6 rfl (lv_at hl 1 rfl) ?_
  refine lv_iload_n hx hb d_Stack_stackSign_7 rfl (lv_at hl 2 rfl) ?_
  refine my_ci (wr := [(co, .inr (4, [.long xx, .long xreadX, .ref soa, .ref sna, .ref swa, .int xkept, .ref ri, .ref ro, .ref rw, .int xasked])), (rw, .inr (0, [.int rwn, .ref rwa])), (rwa, .inl (cI, rwk, .inl rwf))]) (va_runV (As := [.int ii]) (rest := [.int r_3, .ref co]) ⟨hx, hb, hml, hown, hts⟩ (c_Odds_below l dC dI cI cM cO H.size oo osg osm ofc oca opa ol ocf opl opf ii (by first | assumption | omega) (by first | assumption | omega)) (cwV 1 hts (my_gV k637 k495 k496 k14 k497) rfl rfl rfl (by decide +kernel) ⟨by rw [hR]; exact Nat.le_of_ble_eq_true rfl, by rw [hR]; exact Nat.le_of_ble_eq_true rfl⟩) (my_preV hK hN (hP.sub [3, 4, 5] rfl) (hD.sub [3, 4, 5] (by decide) rfl) 0 rfl rfl) rfl rfl hl.1 rfl (lv_room (Nat.le_of_ble_eq_true rfl)) d_Stack_stackSign_8 ⟨by rw [hR]; exact (show 0 + 0 ≤ (rPh rwk) by omega), by rw [hR]; exact (show 0 + 0 ≤ (rPh rwk) by omega)⟩) hP hD hS hA [3, 4, 5] [0, 1, 2] rfl rfl (by decide) (by decide) (fun r_8 u9 H locs hw_8 hP hD hS => ?_)
  have hP : va_P (dC, dI) vwCl [(co, .inr (4, [.long xx, .long xreadX, .ref soa, .ref sna, .ref swa, .int xkept, .ref ri, .ref ro, .ref rw, .int xasked])), (rw, .inr (0, [.int rwn, .ref rwa])), (rwa, .inl (cI, rwk, .inl rwf)), (oo, .inr (7, [.int osg, .int osm, .int ofc, .ref oca, .ref opa])), (oca, .inl (cI, ol, .inl ocf)), (opa, .inl (cI, opl, .inl opf))] H := hP
  have hD : va_D A [(co, .inr (4, [.long xx, .long xreadX, .ref soa, .ref sna, .ref swa, .int xkept, .ref ri, .ref ro, .ref rw, .int xasked])), (rw, .inr (0, [.int rwn, .ref rwa])), (rwa, .inl (cI, rwk, .inl rwf)), (oo, .inr (7, [.int osg, .int osm, .int ofc, .ref oca, .ref opa])), (oca, .inl (cI, ol, .inl ocf)), (opa, .inl (cI, opl, .inl opf))] := hD
  refine my_cvg (wr := [(oo, .inr (7, [.int osg, .int osm, .int ofc, .ref oca, .ref opa])), (oca, .inl (cI, ol, .inl ocf)), (opa, .inl (cI, opl, .inl opf))]) (va_runV (As := [.int r_3, .int r_8]) (rest := []) ⟨hx, hb, hml, hown, hts⟩ (c_Stack_Stack_stackPart l dC dI cI cM cO H.size (hSl H) co xx xreadX soa sna swa xkept ri ro rw xasked rwn rwa rwk rwf r_3 r_8 (by first | assumption | omega)) (cwV 2 hts (my_gV k615 k617 ks9 k10 k618) rfl rfl rfl (by decide +kernel) ⟨by rw [hR]; exact Nat.le_of_ble_eq_true rfl, by rw [hR]; exact Nat.le_of_ble_eq_true rfl⟩) (my_preVg hK hN (hP.sub [0, 1, 2] rfl) (hD.sub [0, 1, 2] (by decide) rfl) 0 rfl rfl) rfl rfl hl.1 rfl (lv_room (Nat.le_of_ble_eq_true rfl)) d_Stack_stackSign_11 ⟨by rw [hR]; exact (show 0 + (rPh rwk) ≤ (rPh rwk) by omega), by rw [hR]; exact (show 0 + (rPh rwk) ≤ (rPh rwk) by omega)⟩) hP hD hS hA [0, 1, 2] [3, 4, 5] rfl rfl (by decide) (by decide) (fun u9 d_11 H locs hd_11 hw_11 hP hD hS => ?_)
  obtain ⟨xxq_11, rwnq_11, rwaq_11, rwkq_11, rwfq_11⟩ := u9
  have hrw_11 : rOk rwnq_11 rwkq_11 := hw_11
  have hd_11 : d_11 + (rPh rwkq_11) ≤ (rPh rwk) := hd_11
  have hP : va_P (dC, dI) vwCl [(oo, .inr (7, [.int osg, .int osm, .int ofc, .ref oca, .ref opa])), (oca, .inl (cI, ol, .inl ocf)), (opa, .inl (cI, opl, .inl opf)), (co, .inr (4, [.long xxq_11, .long xreadX, .ref soa, .ref sna, .ref swa, .int xkept, .ref ri, .ref ro, .ref rw, .int xasked])), (rw, .inr (0, [.int rwnq_11, .ref rwaq_11])), (rwaq_11, .inl (cI, rwkq_11, .inl rwfq_11))] H := hP
  have hD : va_D A [(oo, .inr (7, [.int osg, .int osm, .int ofc, .ref oca, .ref opa])), (oca, .inl (cI, ol, .inl ocf)), (opa, .inl (cI, opl, .inl opf)), (co, .inr (4, [.long xxq_11, .long xreadX, .ref soa, .ref sna, .ref swa, .int xkept, .ref ri, .ref ro, .ref rw, .int xasked])), (rw, .inr (0, [.int rwnq_11, .ref rwaq_11])), (rwaq_11, .inl (cI, rwkq_11, .inl rwfq_11))] := hD
  exact my_vretg hx hb hr hlocks hQ hK hS (xxq_11, rwnq_11, rwaq_11, rwkq_11, rwfq_11) (show (0 + d_11) + (rPh rwkq_11) ≤ (rPh rwk) by omega) (show (0 + d_11) + (rPh rwkq_11) ≤ (rPh rwk) by omega) (by first | assumption | (subst_vars; assumption)) (hP.sub [3, 4, 5, 0, 1, 2] rfl) (hD.sub [3, 4, 5, 0, 1, 2] (by decide) rfl) d_Stack_stackSign_14
set_option maxHeartbeats 2000000 in
set_option maxRecDepth 100000 in
theorem c_Stack_Stack_stackValue (l : Launch) (dC : Nat → ClassId) (dI : Nat → Nat → Nat) (cI cM cO : ClassId) (sz : Nat) (sl : Nat) (co : Nat) (xx : Int64) (xreadX : Int64) (soa : Nat) (sna : Nat) (swa : Nat) (xkept : Int32) (ri : Nat) (ro : Nat) (rw : Nat) (xasked : Int32) (rwn : Int32) (rwa : Nat) (rwk : Nat) (rwf : Nat → Int32) (vv : Int32) (wd : Int32) (hrw : rOk rwn rwk) : MetVg l y_Stack_stackValue (Cond.code y_Stack_stackValue prog_10_method_5_code 4 none :: gw) ({ frames := 5, cells := rPh rwk, slots := rPh rwk, locals := 126 } : Room) (dC, dI) vwCl (kT cI cM cO) [.ref co, .int vv, .int wd] [(co, .inr (4, [.long xx, .long xreadX, .ref soa, .ref sna, .ref swa, .int xkept, .ref ri, .ref ro, .ref rw, .int xasked])), (rw, .inr (0, [.int rwn, .ref rwa])), (rwa, .inl (cI, rwk, .inl rwf))] sz sl (fun (u : Int64 × Int32 × Nat × Nat × (Nat → Int32)) => rOk u.2.1 u.2.2.2.1) (fun (u : Int64 × Int32 × Nat × Nat × (Nat → Int32)) => [(co, .inr (4, [.long u.1, .long xreadX, .ref soa, .ref sna, .ref swa, .int xkept, .ref ri, .ref ro, .ref rw, .int xasked])), (rw, .inr (0, [.int u.2.1, .ref u.2.2.1])), (u.2.2.1, .inl (cI, u.2.2.2.1, .inl u.2.2.2.2))]) (rPh rwk) (fun (u : Int64 × Int32 × Nat × Nat × (Nat → Int32)) => rPh u.2.2.2.1) := by
  refine my_ofVg (cc := prog_10_method_5_code) (n := 4) (ret := none) (by decide) rfl (Nat.le_of_ble_eq_true rfl) ?_
  intro p e s m args below meth c R Q A ls H locs hx hb hr hts hown hlocks hml hnm hR hQ hA hl hP hK hN hD hS
  have hg : ∀ w ∈ gw, w.before args s = true := fun w h => hts w (List.mem_cons_of_mem _ h)
  have hown : s.vm.findClass "RangeCoders$Stack" = some m.cls := hown
  have hl : lv_has ls 4 [(0, .ref co), (1, .int vv), (2, .int wd)] := hl
  have hlt_hrw := rOk_lt hrw
  refine lv_sipush (v := 4096) hx hb d_Stack_stackValue_0 (by decide) ?_
  refine lv_iload_n hx hb d_Stack_stackValue_3 rfl (lv_at hl 2 rfl) ?_
  refine lv_ishr hx hb d_Stack_stackValue_4 ?_
  refine lv_topi (fun v_1 ev_1 => ?_)
  refine lv_istore_n (lv' := [(3, .int v_1), (0, .ref co), (1, .int vv), (2, .int wd)]) hx hb d_Stack_stackValue_5 rfl hl (by decide) rfl (fun ls hl => ?_)
  refine lv_aload_n hx hb d_Stack_stackValue_6 rfl (lv_at hl 1 rfl) ?_
  refine lv_iload_n hx hb d_Stack_stackValue_7 rfl (lv_at hl 0 rfl) ?_
  refine lv_iload_n hx hb d_Stack_stackValue_8 rfl (lv_at hl 0 rfl) ?_
  refine lv_iload_n hx hb d_Stack_stackValue_9 rfl (lv_at hl 2 rfl) ?_
  refine lv_imul hx hb d_Stack_stackValue_10 ?_
  refine lv_topi (fun v_2 ev_2 => ?_)
  refine my_cvg (wr := []) (va_runV (As := [.int v_1, .int v_2]) (rest := []) ⟨hx, hb, hml, hown, hts⟩ (c_Stack_Stack_stackPart l dC dI cI cM cO H.size (hSl H) co xx xreadX soa sna swa xkept ri ro rw xasked rwn rwa rwk rwf v_1 v_2 (by first | assumption | omega)) (cwV 2 hts (my_gV k615 k617 ks9 k10 k618) rfl rfl rfl (by decide +kernel) ⟨by rw [hR]; exact Nat.le_of_ble_eq_true rfl, by rw [hR]; exact Nat.le_of_ble_eq_true rfl⟩) (my_preVg hK hN (hP.sub [0, 1, 2] rfl) (hD.sub [0, 1, 2] (by decide) rfl) 0 rfl rfl) rfl rfl hl.1 rfl (lv_room (Nat.le_of_ble_eq_true rfl)) d_Stack_stackValue_11 ⟨by rw [hR]; exact (show 0 + (rPh rwk) ≤ (rPh rwk) by omega), by rw [hR]; exact (show 0 + (rPh rwk) ≤ (rPh rwk) by omega)⟩) hP hD hS hA [0, 1, 2] [] rfl rfl (by decide) (by decide) (fun u9 d_11 H locs hd_11 hw_11 hP hD hS => ?_)
  obtain ⟨xxq_11, rwnq_11, rwaq_11, rwkq_11, rwfq_11⟩ := u9
  have hrw_11 : rOk rwnq_11 rwkq_11 := hw_11
  have hd_11 : d_11 + (rPh rwkq_11) ≤ (rPh rwk) := hd_11
  have hP : va_P (dC, dI) vwCl [(co, .inr (4, [.long xxq_11, .long xreadX, .ref soa, .ref sna, .ref swa, .int xkept, .ref ri, .ref ro, .ref rw, .int xasked])), (rw, .inr (0, [.int rwnq_11, .ref rwaq_11])), (rwaq_11, .inl (cI, rwkq_11, .inl rwfq_11))] H := hP
  have hD : va_D A [(co, .inr (4, [.long xxq_11, .long xreadX, .ref soa, .ref sna, .ref swa, .int xkept, .ref ri, .ref ro, .ref rw, .int xasked])), (rw, .inr (0, [.int rwnq_11, .ref rwaq_11])), (rwaq_11, .inl (cI, rwkq_11, .inl rwfq_11))] := hD
  exact my_vretg hx hb hr hlocks hQ hK hS (xxq_11, rwnq_11, rwaq_11, rwkq_11, rwfq_11) (show (0 + d_11) + (rPh rwkq_11) ≤ (rPh rwk) by omega) (show (0 + d_11) + (rPh rwkq_11) ≤ (rPh rwk) by omega) (by first | assumption | (subst_vars; assumption)) (hP.sub [0, 1, 2] rfl) (hD.sub [0, 1, 2] (by decide) rfl) d_Stack_stackValue_14
set_option maxHeartbeats 2000000 in
set_option maxRecDepth 100000 in
theorem c_Stack_Stack_closeStack (l : Launch) (dC : Nat → ClassId) (dI : Nat → Nat → Nat) (cI cM cO : ClassId) (sz : Nat) (sl : Nat) (co : Nat) (xx : Int64) (xreadX : Int64) (soa : Nat) (sna : Nat) (swa : Nat) (xkept : Int32) (ri : Nat) (ro : Nat) (rw : Nat) (xasked : Int32) (ron : Int32) (roa : Nat) (rok : Nat) (rof : Nat → Int32) (rwn : Int32) (rwa : Nat) (rwk : Nat) (rwf : Nat → Int32) (hro : rOk ron rok) (hrw : rOk rwn rwk) : MetVg l y_Stack_closeStack (Cond.code y_Stack_closeStack prog_10_method_6_code 2 none :: gw) ({ frames := 4, cells := rPh rok + rPh rwk, slots := rPh rok + rPh rwk, locals := 105 } : Room) (dC, dI) vwCl (kT cI cM cO) [.ref co] [(co, .inr (4, [.long xx, .long xreadX, .ref soa, .ref sna, .ref swa, .int xkept, .ref ri, .ref ro, .ref rw, .int xasked])), (ro, .inr (0, [.int ron, .ref roa])), (roa, .inl (cI, rok, .inl rof)), (rw, .inr (0, [.int rwn, .ref rwa])), (rwa, .inl (cI, rwk, .inl rwf))] sz sl (fun (u : Int64 × Int32 × Nat × Nat × (Nat → Int32) × Int32 × Nat × Nat × (Nat → Int32)) => rOk u.2.1 u.2.2.2.1 ∧ rOk u.2.2.2.2.2.1 u.2.2.2.2.2.2.2.1) (fun (u : Int64 × Int32 × Nat × Nat × (Nat → Int32) × Int32 × Nat × Nat × (Nat → Int32)) => [(co, .inr (4, [.long u.1, .long xreadX, .ref soa, .ref sna, .ref swa, .int xkept, .ref ri, .ref ro, .ref rw, .int xasked])), (ro, .inr (0, [.int u.2.1, .ref u.2.2.1])), (u.2.2.1, .inl (cI, u.2.2.2.1, .inl u.2.2.2.2.1)), (rw, .inr (0, [.int u.2.2.2.2.2.1, .ref u.2.2.2.2.2.2.1])), (u.2.2.2.2.2.2.1, .inl (cI, u.2.2.2.2.2.2.2.1, .inl u.2.2.2.2.2.2.2.2))]) (rPh rok + rPh rwk) (fun (u : Int64 × Int32 × Nat × Nat × (Nat → Int32) × Int32 × Nat × Nat × (Nat → Int32)) => rPh u.2.2.2.1 + rPh u.2.2.2.2.2.2.2.1) := by
  refine my_ofVg (cc := prog_10_method_6_code) (n := 2) (ret := none) (by decide) rfl (Nat.le_of_ble_eq_true rfl) ?_
  intro p e s m args below meth c R Q A ls H locs hx hb hr hts hown hlocks hml hnm hR hQ hA hl hP hK hN hD hS
  have hg : ∀ w ∈ gw, w.before args s = true := fun w h => hts w (List.mem_cons_of_mem _ h)
  have hown : s.vm.findClass "RangeCoders$Stack" = some m.cls := hown
  have hl : lv_has ls 2 [(0, .ref co)] := hl
  have hlt_hro := rOk_lt hro
  have hlt_hrw := rOk_lt hrw
  refine lv_iconst (v := 0) hx hb d_Stack_closeStack_0 (by decide) ?_
  refine lv_istore_n (lv' := [(1, .int 0), (0, .ref co)]) hx hb d_Stack_closeStack_1 rfl hl (by decide) rfl (fun ls hl => ?_)
  have J_2 : ∀ (n9_2 : Nat) (b2_0 : Int32) (b2_1 : Nat) (b2_2 : Int64) (b2_3 : Int32) (b2_4 : Nat) (b2_5 : Nat → Int32) (b2_6 : Nat) (hn9_2 : ((4 : Int32).toInt - b2_0.toInt).toNat = n9_2) (hi_2 : 0 ≤ b2_0.toInt) (hr1_2 : rOk b2_3 b2_4) (hd_2 : b2_6 + (rPh rok + rPh b2_4) ≤ rPh rok + rPh rwk) (H : Heap) (locs : List Loc) (ls : Array Slot), va_P (dC, dI) vwCl [(co, .inr (4, [.long b2_2, .long xreadX, .ref soa, .ref sna, .ref swa, .int xkept, .ref ri, .ref ro, .ref rw, .int xasked])), (ro, .inr (0, [.int ron, .ref roa])), (roa, .inl (cI, rok, .inl rof)), (rw, .inr (0, [.int b2_3, .ref b2_1])), (b2_1, .inl (cI, b2_4, .inl b2_5))] H → va_D A [(co, .inr (4, [.long b2_2, .long xreadX, .ref soa, .ref sna, .ref swa, .int xkept, .ref ri, .ref ro, .ref rw, .int xasked])), (ro, .inr (0, [.int ron, .ref roa])), (roa, .inl (cI, rok, .inl rof)), (rw, .inr (0, [.int b2_3, .ref b2_1])), (b2_1, .inl (cI, b2_4, .inl b2_5))] → va_S A s.heap H locs → lv_has ls 2 [(1, .int b2_0), (0, .ref co)] → W p l e R s m args below meth c H locs b2_6 b2_6 Q (F0 m 2 ls []) := by
    intro n9_2
    induction n9_2 using Nat.strongRecOn with
    | ind n9_2 ih9_2 =>
      intro b2_0 b2_1 b2_2 b2_3 b2_4 b2_5 b2_6 hn9_2 hi_2 hr1_2 hd_2 H locs ls hP hD hS hl
      refine lv_iload_n hx hb d_Stack_closeStack_2 rfl (lv_at hl 0 rfl) ?_
      refine lv_iconst (v := 4) hx hb d_Stack_closeStack_3 (by decide) ?_
      refine lv_icmp_ge (tgt := 17) hx hb d_Stack_closeStack_4 (by decide) (fun c_1 => ?_) (fun c_1 => ?_)
      · refine lv_aload_n hx hb d_Stack_closeStack_17 rfl (lv_at hl 1 rfl) ?_
        refine va_get (D := (dC, dI)) (ci := 4) (v := .ref ro) (C := "RangeCoders$Stack") (T := T_Stack) (N := 10) hx hb hg in_Stack hown hK hP 0 rfl rfl 7 (by decide) (hg _ k106) (fun x9 h9 => u_same (hg _ k107) x9 h9) rfl d_Stack_closeStack_18 ?_
        refine lv_aload_n hx hb d_Stack_closeStack_21 rfl (lv_at hl 1 rfl) ?_
        refine va_get (D := (dC, dI)) (ci := 4) (v := .ref rw) (C := "RangeCoders$Stack") (T := T_Stack) (N := 10) hx hb hg in_Stack hown hK hP 0 rfl rfl 8 (by decide) (hg _ k118) (fun x9 h9 => u_same (hg _ k119) x9 h9) rfl d_Stack_closeStack_22 ?_
        refine my_cvg (wr := [(co, .inr (4, [.long b2_2, .long xreadX, .ref soa, .ref sna, .ref swa, .int xkept, .ref ri, .ref ro, .ref rw, .int xasked]))]) (va_runV (As := [.ref rw]) (rest := []) ⟨hx, hb, hml, hown, hts⟩ (c_Row_becomeReverseOf l dC dI cI cM cO H.size (hSl H) ro ron roa rok rof rw b2_3 b2_1 b2_4 b2_5 (by first | assumption | omega) (by first | assumption | omega)) (cwV 1 hts (my_gV k653 k654 k655 k6 k656) rfl rfl rfl (by decide +kernel) ⟨by rw [hR]; exact Nat.le_of_ble_eq_true rfl, by rw [hR]; exact Nat.le_of_ble_eq_true rfl⟩) (my_preVg hK hN (hP.sub [1, 2, 3, 4] rfl) (hD.sub [1, 2, 3, 4] (by decide) rfl) 0 rfl rfl) rfl rfl hl.1 rfl (lv_room (Nat.le_of_ble_eq_true rfl)) d_Stack_closeStack_25 ⟨by rw [hR]; exact (show b2_6 + (rPh rok) ≤ (rPh rok + rPh rwk) by omega), by rw [hR]; exact (show b2_6 + (rPh rok) ≤ (rPh rok + rPh rwk) by omega)⟩) hP hD hS hA [1, 2, 3, 4] [0] rfl rfl (by decide) (by decide) (fun u9 d_25 H locs hd_25 hw_25 hP hD hS => ?_)
        obtain ⟨rrnq_25, rraq_25, rrkq_25, rrfq_25⟩ := u9
        have hrr_25 : rOk rrnq_25 rrkq_25 := hw_25
        have hd_25 : d_25 + (rPh rrkq_25) ≤ (rPh rok) := hd_25
        have hP : va_P (dC, dI) vwCl [(co, .inr (4, [.long b2_2, .long xreadX, .ref soa, .ref sna, .ref swa, .int xkept, .ref ri, .ref ro, .ref rw, .int xasked])), (ro, .inr (0, [.int rrnq_25, .ref rraq_25])), (rraq_25, .inl (cI, rrkq_25, .inl rrfq_25)), (rw, .inr (0, [.int b2_3, .ref b2_1])), (b2_1, .inl (cI, b2_4, .inl b2_5))] H := hP
        have hD : va_D A [(co, .inr (4, [.long b2_2, .long xreadX, .ref soa, .ref sna, .ref swa, .int xkept, .ref ri, .ref ro, .ref rw, .int xasked])), (ro, .inr (0, [.int rrnq_25, .ref rraq_25])), (rraq_25, .inl (cI, rrkq_25, .inl rrfq_25)), (rw, .inr (0, [.int b2_3, .ref b2_1])), (b2_1, .inl (cI, b2_4, .inl b2_5))] := hD
        exact my_vretg hx hb hr hlocks hQ hK hS (b2_2, rrnq_25, rraq_25, rrkq_25, rrfq_25, b2_3, b2_1, b2_4, b2_5) (show (b2_6 + d_25) + (rPh rrkq_25 + rPh b2_4) ≤ (rPh rok + rPh rwk) by omega) (show (b2_6 + d_25) + (rPh rrkq_25 + rPh b2_4) ≤ (rPh rok + rPh rwk) by omega) (⟨by first | assumption | (subst_vars; assumption), by first | assumption | (subst_vars; assumption)⟩) (hP.sub [0, 1, 2, 3, 4] rfl) (hD.sub [0, 1, 2, 3, 4] (by decide) rfl) d_Stack_closeStack_28
      · refine lv_aload_n hx hb d_Stack_closeStack_7 rfl (lv_at hl 1 rfl) ?_
        refine my_cvg (wr := [(ro, .inr (0, [.int ron, .ref roa])), (roa, .inl (cI, rok, .inl rof))]) (va_runV (As := []) (rest := []) ⟨hx, hb, hml, hown, hts⟩ (c_Stack_Stack_writeLowest l dC dI cI cM cO H.size (hSl H) co b2_2 xreadX soa sna swa xkept ri ro rw xasked b2_3 b2_1 b2_4 b2_5 (by first | assumption | omega)) (cwV 0 hts (my_gV k619 k621 ks10 k10 k622) rfl rfl rfl (by decide +kernel) ⟨by rw [hR]; exact Nat.le_of_ble_eq_true rfl, by rw [hR]; exact Nat.le_of_ble_eq_true rfl⟩) (my_preVg hK hN (hP.sub [0, 3, 4] rfl) (hD.sub [0, 3, 4] (by decide) rfl) 0 rfl rfl) rfl rfl hl.1 rfl (lv_room (Nat.le_of_ble_eq_true rfl)) d_Stack_closeStack_8 ⟨by rw [hR]; exact (show b2_6 + (rPh b2_4) ≤ (rPh rok + rPh rwk) by omega), by rw [hR]; exact (show b2_6 + (rPh b2_4) ≤ (rPh rok + rPh rwk) by omega)⟩) hP hD hS hA [0, 3, 4] [1, 2] rfl rfl (by decide) (by decide) (fun u9 d_8 H locs hd_8 hw_8 hP hD hS => ?_)
        obtain ⟨xxq_8, rwnq_8, rwaq_8, rwkq_8, rwfq_8⟩ := u9
        have hrw_8 : rOk rwnq_8 rwkq_8 := hw_8
        have hd_8 : d_8 + (rPh rwkq_8) ≤ (rPh b2_4) := hd_8
        have hP : va_P (dC, dI) vwCl [(ro, .inr (0, [.int ron, .ref roa])), (roa, .inl (cI, rok, .inl rof)), (co, .inr (4, [.long xxq_8, .long xreadX, .ref soa, .ref sna, .ref swa, .int xkept, .ref ri, .ref ro, .ref rw, .int xasked])), (rw, .inr (0, [.int rwnq_8, .ref rwaq_8])), (rwaq_8, .inl (cI, rwkq_8, .inl rwfq_8))] H := hP
        have hD : va_D A [(ro, .inr (0, [.int ron, .ref roa])), (roa, .inl (cI, rok, .inl rof)), (co, .inr (4, [.long xxq_8, .long xreadX, .ref soa, .ref sna, .ref swa, .int xkept, .ref ri, .ref ro, .ref rw, .int xasked])), (rw, .inr (0, [.int rwnq_8, .ref rwaq_8])), (rwaq_8, .inl (cI, rwkq_8, .inl rwfq_8))] := hD
        obtain ⟨v_2, ev_2⟩ : ∃ y : Int32, y = b2_0 + (1) := ⟨_, rfl⟩
        refine lv_iinc (v := v_2) (lv' := [(1, .int v_2), (0, .ref co)]) hx hb d_Stack_closeStack_11 hl (k := 0) rfl (by rw [ev_2]; rfl) (by decide) rfl (fun ls hl => ?_)
        refine lv_goto (tgt := 2) hx hb d_Stack_closeStack_14 (by decide) ?_
        exact ih9_2 _ (by first | omega | (have z9 := I_up c_1 ev_2; omega)) v_2 rwaq_8 xxq_8 rwnq_8 rwkq_8 rwfq_8 (b2_6 + d_8) rfl (by have z9 := I_up c_1 ev_2; omega) (by assumption) (by omega) H locs ls (hP.sub [2, 0, 1, 3, 4] rfl) (hD.sub [2, 0, 1, 3, 4] (by decide) rfl) hS (lv_sub hl [0, 1] rfl)
  exact J_2 _ (0 : Int32) rwa xx rwn rwk rwf (0 : Nat) rfl (by first | decide | assumption | omega) (by assumption) (by omega) H locs ls (hP.sub [0, 1, 2, 3, 4] rfl) (hD.sub [0, 1, 2, 3, 4] (by decide) rfl) hS (lv_sub hl [0, 1] rfl)
set_option maxHeartbeats 2000000 in
set_option maxRecDepth 100000 in
theorem c_Stack_Stack_openReading (l : Launch) (dC : Nat → ClassId) (dI : Nat → Nat → Nat) (cI cM cO : ClassId) (sz : Nat) (co : Nat) (xx : Int64) (xreadX : Int64) (soa : Nat) (sna : Nat) (swa : Nat) (xkept : Int32) (ri : Nat) (ro : Nat) (rw : Nat) (xasked : Int32) (rin : Int32) (ria : Nat) (rik : Nat) (rif : Nat → Int32) (hri : rOk rin rik) : MetI l y_Stack_openReading (Cond.code y_Stack_openReading prog_10_method_7_code 1 (some .boolean) :: gw) ({ frames := 4, cells := 0, slots := 0, locals := 86 } : Room) (dC, dI) vwCl (kT cI cM cO) [.ref co] [(co, .inr (4, [.long xx, .long xreadX, .ref soa, .ref sna, .ref swa, .int xkept, .ref ri, .ref ro, .ref rw, .int xasked])), (ri, .inr (0, [.int rin, .ref ria])), (ria, .inl (cI, rik, .inl rif))] sz (fun (r : Int32) (u : Int64 × Int32) => True) (fun (u : Int64 × Int32) => [(co, .inr (4, [.long xx, .long u.1, .ref soa, .ref sna, .ref swa, .int xkept, .ref ri, .ref ro, .ref rw, .int u.2])), (ri, .inr (0, [.int rin, .ref ria])), (ria, .inl (cI, rik, .inl rif))]) 0 0 := by
  refine my_ofI (cc := prog_10_method_7_code) (n := 1) (ret := (some .boolean)) (by decide) rfl (Nat.le_of_ble_eq_true rfl) ?_
  intro p e s m args below meth c R Q A ls H locs hx hb hr hts hown hlocks hml hnm hR hQ hA hl hP hK hN hD hS
  have hg : ∀ w ∈ gw, w.before args s = true := fun w h => hts w (List.mem_cons_of_mem _ h)
  have hown : s.vm.findClass "RangeCoders$Stack" = some m.cls := hown
  have hl : lv_has ls 1 [(0, .ref co)] := hl
  have hlt_hri := rOk_lt hri
  refine lv_aload_n hx hb d_Stack_openReading_0 rfl (lv_at hl 0 rfl) ?_
  refine lv_aload_n hx hb d_Stack_openReading_1 rfl (lv_at hl 0 rfl) ?_
  refine my_cl (wr := []) (va_runU (As := []) (rest := [.ref co]) ⟨hx, hb, hml, hown, hts⟩ (c_Stack_Coder_firstFourBytes l dC dI cI cM cO H.size co xx xreadX soa sna swa xkept ri ro rw xasked rin ria rik rif (by first | assumption | omega)) (va_cwU 0 hts (my_gU k757 k758 k759 k739 k3 k740) rfl rfl rfl rfl (by decide +kernel) ⟨by rw [hR]; exact Nat.le_of_ble_eq_true rfl, by rw [hR]; exact Nat.le_of_ble_eq_true rfl⟩) (my_preV hK hN (hP.sub [0, 1, 2] rfl) (hD.sub [0, 1, 2] (by decide) rfl) 0 rfl rfl) rfl rfl hl.1 rfl (lv_room (Nat.le_of_ble_eq_true rfl)) d_Stack_openReading_2 ⟨by rw [hR]; exact Nat.le_of_ble_eq_true rfl, by rw [hR]; exact Nat.le_of_ble_eq_true rfl⟩) hP hD hS hA [0, 1, 2] [] rfl rfl (by decide) (by decide) (fun r_2 u9 H locs hw_2 hP hD hS => ?_)
  obtain ⟨xaskedq_2, rfl⟩ : ∃ z, z = u9 := ⟨_, rfl⟩
  have hP : va_P (dC, dI) vwCl [(co, .inr (4, [.long xx, .long xreadX, .ref soa, .ref sna, .ref swa, .int xkept, .ref ri, .ref ro, .ref rw, .int xaskedq_2])), (ri, .inr (0, [.int rin, .ref ria])), (ria, .inl (cI, rik, .inl rif))] H := hP
  have hD : va_D A [(co, .inr (4, [.long xx, .long xreadX, .ref soa, .ref sna, .ref swa, .int xkept, .ref ri, .ref ro, .ref rw, .int xaskedq_2])), (ri, .inr (0, [.int rin, .ref ria])), (ria, .inl (cI, rik, .inl rif))] := hD
  refine va_put (D := (dC, dI)) (ci := 4) (v := .long r_2) (ty := .long) (C := "RangeCoders$Stack") (T := T_Stack) (N := 10) hx hb hg in_Stack t_Stack o_Stack n_Stack hown hK hP hD hS 0 rfl rfl 1 (by decide) (hg _ k215) (fun x9 h9 => u_same (hg _ k216) x9 h9) rfl (by decide +kernel) rfl rfl (Nat.le_of_ble_eq_true rfl) d_Stack_openReading_5 (fun H locs hP hD hS => ?_)
  have hP : va_P (dC, dI) vwCl [(co, .inr (4, [.long xx, .long r_2, .ref soa, .ref sna, .ref swa, .int xkept, .ref ri, .ref ro, .ref rw, .int xaskedq_2])), (ri, .inr (0, [.int rin, .ref ria])), (ria, .inl (cI, rik, .inl rif))] H := hP
  have hD : va_D A [(co, .inr (4, [.long xx, .long r_2, .ref soa, .ref sna, .ref swa, .int xkept, .ref ri, .ref ro, .ref rw, .int xaskedq_2])), (ri, .inr (0, [.int rin, .ref ria])), (ria, .inl (cI, rik, .inl rif))] := hD
  refine lv_aload_n hx hb d_Stack_openReading_8 rfl (lv_at hl 0 rfl) ?_
  refine va_get (D := (dC, dI)) (ci := 4) (v := .long r_2) (C := "RangeCoders$Stack") (T := T_Stack) (N := 10) hx hb hg in_Stack hown hK hP 0 rfl rfl 1 (by decide) (hg _ k215) (fun x9 h9 => u_same (hg _ k216) x9 h9) rfl d_Stack_openReading_9 ?_
  refine lv_ldc2 (v := 8388608) hx hb hown (hg _ k603) d_Stack_openReading_12 ?_
  refine W.lcmp hx hb d_Stack_openReading_15 ?_
  refine lv_if_lt (tgt := 23) hx hb d_Stack_openReading_16 (by decide) (fun c_1 => ?_) (fun c_1 => ?_)
  · rw [lg_cmp_lt] at c_1
    refine lv_iconst (v := 0) hx hb d_Stack_openReading_23 (by decide) ?_
    exact my_iret (v := 0) hx hb hr (rfl) hlocks hQ hK hS (Nat.le_refl _) (Nat.le_refl _) (r_2, xaskedq_2) (trivial) (hP.sub [0, 1, 2] rfl) (hD.sub [0, 1, 2] (by decide) rfl) d_Stack_openReading_24
  · rw [lg_cmp_lt] at c_1
    refine lv_iconst (v := 1) hx hb d_Stack_openReading_19 (by decide) ?_
    refine lv_goto (tgt := 24) hx hb d_Stack_openReading_20 (by decide) ?_
    exact my_iret (v := 1) hx hb hr (rfl) hlocks hQ hK hS (Nat.le_refl _) (Nat.le_refl _) (r_2, xaskedq_2) (trivial) (hP.sub [0, 1, 2] rfl) (hD.sub [0, 1, 2] (by decide) rfl) d_Stack_openReading_24
set_option maxHeartbeats 2000000 in
set_option maxRecDepth 100000 in
theorem c_Stack_Stack_unstackPart (l : Launch) (dC : Nat → ClassId) (dI : Nat → Nat → Nat) (cI cM cO : ClassId) (sz : Nat) (co : Nat) (xx : Int64) (xreadX : Int64) (soa : Nat) (sna : Nat) (swa : Nat) (xkept : Int32) (ri : Nat) (ro : Nat) (rw : Nat) (xasked : Int32) (rin : Int32) (ria : Nat) (rik : Nat) (rif : Nat → Int32) (pf : Int32) (rst : Int32) (hri : rOk rin rik) : MetV l y_Stack_unstackPart (Cond.code y_Stack_unstackPart prog_10_method_12_code 4 none :: gw) ({ frames := 3, cells := 0, slots := 0, locals := 63 } : Room) (dC, dI) vwCl (kT cI cM cO) [.ref co, .int pf, .int rst] [(co, .inr (4, [.long xx, .long xreadX, .ref soa, .ref sna, .ref swa, .int xkept, .ref ri, .ref ro, .ref rw, .int xasked])), (ri, .inr (0, [.int rin, .ref ria])), (ria, .inl (cI, rik, .inl rif))] sz (fun (u : Int64 × Int32) => True) (fun (u : Int64 × Int32) => [(co, .inr (4, [.long xx, .long u.1, .ref soa, .ref sna, .ref swa, .int xkept, .ref ri, .ref ro, .ref rw, .int u.2])), (ri, .inr (0, [.int rin, .ref ria])), (ria, .inl (cI, rik, .inl rif))]) 0 0 := by
  refine my_ofV (cc := prog_10_method_12_code) (n := 4) (ret := none) (by decide) rfl (Nat.le_of_ble_eq_true rfl) ?_
  intro p e s m args below meth c R Q A ls H locs hx hb hr hts hown hlocks hml hnm hR hQ hA hl hP hK hN hD hS
  have hg : ∀ w ∈ gw, w.before args s = true := fun w h => hts w (List.mem_cons_of_mem _ h)
  have hown : s.vm.findClass "RangeCoders$Stack" = some m.cls := hown
  have hl : lv_has ls 4 [(0, .ref co), (1, .int pf), (2, .int rst)] := hl
  have hlt_hri := rOk_lt hri
  refine lv_aload_n hx hb d_Stack_unstackPart_0 rfl (lv_at hl 0 rfl) ?_
  refine lv_iload_n hx hb d_Stack_unstackPart_1 rfl (lv_at hl 1 rfl) ?_
  refine lv_i2l hx hb d_Stack_unstackPart_2 rfl ?_
  refine lv_topl (fun v_1 ev_1 => ?_)
  refine lv_aload_n hx hb d_Stack_unstackPart_3 rfl (lv_at hl 0 rfl) ?_
  refine va_get (D := (dC, dI)) (ci := 4) (v := .long xreadX) (C := "RangeCoders$Stack") (T := T_Stack) (N := 10) hx hb hg in_Stack hown hK hP 0 rfl rfl 1 (by decide) (hg _ k215) (fun x9 h9 => u_same (hg _ k216) x9 h9) rfl d_Stack_unstackPart_4 ?_
  refine lv_bipush (v := 12) hx hb d_Stack_unstackPart_7 (by decide) ?_
  refine lv_lushr hx hb d_Stack_unstackPart_9 rfl ?_
  refine lv_topl (fun v_2 ev_2 => ?_)
  refine lv_lmul hx hb d_Stack_unstackPart_10 ?_
  refine lv_topl (fun v_3 ev_3 => ?_)
  refine lv_iload_n hx hb d_Stack_unstackPart_11 rfl (lv_at hl 2 rfl) ?_
  refine lv_i2l hx hb d_Stack_unstackPart_12 rfl ?_
  refine lv_topl (fun v_4 ev_4 => ?_)
  refine lv_ladd hx hb d_Stack_unstackPart_13 ?_
  refine lv_topl (fun v_5 ev_5 => ?_)
  refine va_put (D := (dC, dI)) (ci := 4) (v := .long v_5) (ty := .long) (C := "RangeCoders$Stack") (T := T_Stack) (N := 10) hx hb hg in_Stack t_Stack o_Stack n_Stack hown hK hP hD hS 0 rfl rfl 1 (by decide) (hg _ k215) (fun x9 h9 => u_same (hg _ k216) x9 h9) rfl (by decide +kernel) rfl rfl (Nat.le_of_ble_eq_true rfl) d_Stack_unstackPart_14 (fun H locs hP hD hS => ?_)
  have hP : va_P (dC, dI) vwCl [(co, .inr (4, [.long xx, .long v_5, .ref soa, .ref sna, .ref swa, .int xkept, .ref ri, .ref ro, .ref rw, .int xasked])), (ri, .inr (0, [.int rin, .ref ria])), (ria, .inl (cI, rik, .inl rif))] H := hP
  have hD : va_D A [(co, .inr (4, [.long xx, .long v_5, .ref soa, .ref sna, .ref swa, .int xkept, .ref ri, .ref ro, .ref rw, .int xasked])), (ri, .inr (0, [.int rin, .ref ria])), (ria, .inl (cI, rik, .inl rif))] := hD
  refine lv_iconst (v := 0) hx hb d_Stack_unstackPart_17 (by decide) ?_
  refine lv_istore_n (lv' := [(3, .int 0), (0, .ref co), (1, .int pf), (2, .int rst)]) hx hb d_Stack_unstackPart_18 rfl hl (by decide) rfl (fun ls hl => ?_)
  have J_19 : ∀ (n9_19 : Nat) (b19_0 : Int32) (b19_1 : Int64) (b19_2 : Int32) (hn9_19 : ((8 : Int32).toInt - b19_0.toInt).toNat = n9_19) (hi_19 : 0 ≤ b19_0.toInt) (H : Heap) (locs : List Loc) (ls : Array Slot), va_P (dC, dI) vwCl [(co, .inr (4, [.long xx, .long b19_1, .ref soa, .ref sna, .ref swa, .int xkept, .ref ri, .ref ro, .ref rw, .int b19_2])), (ri, .inr (0, [.int rin, .ref ria])), (ria, .inl (cI, rik, .inl rif))] H → va_D A [(co, .inr (4, [.long xx, .long b19_1, .ref soa, .ref sna, .ref swa, .int xkept, .ref ri, .ref ro, .ref rw, .int b19_2])), (ri, .inr (0, [.int rin, .ref ria])), (ria, .inl (cI, rik, .inl rif))] → va_S A s.heap H locs → lv_has ls 4 [(3, .int b19_0), (0, .ref co), (1, .int pf), (2, .int rst)] → W p l e R s m args below meth c H locs 0 0 Q (F0 m 19 ls []) := by
    intro n9_19
    induction n9_19 using Nat.strongRecOn with
    | ind n9_19 ih9_19 =>
      intro b19_0 b19_1 b19_2 hn9_19 hi_19 H locs ls hP hD hS hl
      refine lv_iload_n hx hb d_Stack_unstackPart_19 rfl (lv_at hl 0 rfl) ?_
      refine lv_bipush (v := 8) hx hb d_Stack_unstackPart_20 (by decide) ?_
      refine lv_icmp_ge (tgt := 59) hx hb d_Stack_unstackPart_22 (by decide) (fun c_6 => ?_) (fun c_6 => ?_)
      · exact my_vret hx hb hr hlocks hQ hK hS (Nat.le_refl _) (Nat.le_refl _) (b19_1, b19_2) (trivial) (hP.sub [0, 1, 2] rfl) (hD.sub [0, 1, 2] (by decide) rfl) d_Stack_unstackPart_59
      · refine lv_aload_n hx hb d_Stack_unstackPart_25 rfl (lv_at hl 1 rfl) ?_
        refine va_get (D := (dC, dI)) (ci := 4) (v := .long b19_1) (C := "RangeCoders$Stack") (T := T_Stack) (N := 10) hx hb hg in_Stack hown hK hP 0 rfl rfl 1 (by decide) (hg _ k215) (fun x9 h9 => u_same (hg _ k216) x9 h9) rfl d_Stack_unstackPart_26 ?_
        refine lv_ldc2 (v := 8388608) hx hb hown (hg _ k603) d_Stack_unstackPart_29 ?_
        refine W.lcmp hx hb d_Stack_unstackPart_32 ?_
        refine lv_if_ge (tgt := 59) hx hb d_Stack_unstackPart_33 (by decide) (fun c_7 => ?_) (fun c_7 => ?_)
        · rw [lg_cmp_ge] at c_7
          exact my_vret hx hb hr hlocks hQ hK hS (Nat.le_refl _) (Nat.le_refl _) (b19_1, b19_2) (trivial) (hP.sub [0, 1, 2] rfl) (hD.sub [0, 1, 2] (by decide) rfl) d_Stack_unstackPart_59
        · rw [lg_cmp_ge] at c_7
          refine lv_aload_n hx hb d_Stack_unstackPart_36 rfl (lv_at hl 1 rfl) ?_
          refine lv_aload_n hx hb d_Stack_unstackPart_37 rfl (lv_at hl 1 rfl) ?_
          refine va_get (D := (dC, dI)) (ci := 4) (v := .long b19_1) (C := "RangeCoders$Stack") (T := T_Stack) (N := 10) hx hb hg in_Stack hown hK hP 0 rfl rfl 1 (by decide) (hg _ k215) (fun x9 h9 => u_same (hg _ k216) x9 h9) rfl d_Stack_unstackPart_38 ?_
          refine lv_bipush (v := 8) hx hb d_Stack_unstackPart_41 (by decide) ?_
          refine lv_lshl hx hb d_Stack_unstackPart_43 rfl ?_
          refine lv_topl (fun v_8 ev_8 => ?_)
          refine lv_aload_n hx hb d_Stack_unstackPart_44 rfl (lv_at hl 1 rfl) ?_
          refine my_ci (wr := []) (va_runU (As := []) (rest := [.long v_8, .ref co]) ⟨hx, hb, hml, hown, hts⟩ (c_Stack_Coder_nextByte l dC dI cI cM cO H.size co xx b19_1 soa sna swa xkept ri ro rw b19_2 rin ria rik rif (by first | assumption | omega)) (va_cwU 0 hts (my_gU k839 k840 k841 k742 k3 k749) rfl rfl rfl rfl (by decide +kernel) ⟨by rw [hR]; exact Nat.le_of_ble_eq_true rfl, by rw [hR]; exact Nat.le_of_ble_eq_true rfl⟩) (my_preV hK hN (hP.sub [0, 1, 2] rfl) (hD.sub [0, 1, 2] (by decide) rfl) 0 rfl rfl) rfl rfl hl.1 rfl (lv_room (Nat.le_of_ble_eq_true rfl)) d_Stack_unstackPart_45 ⟨by rw [hR]; exact Nat.le_of_ble_eq_true rfl, by rw [hR]; exact Nat.le_of_ble_eq_true rfl⟩) hP hD hS hA [0, 1, 2] [] rfl rfl (by decide) (by decide) (fun r_45 u9 H locs hw_45 hP hD hS => ?_)
          obtain ⟨xaskedq_45, rfl⟩ : ∃ z, z = u9 := ⟨_, rfl⟩
          have hP : va_P (dC, dI) vwCl [(co, .inr (4, [.long xx, .long b19_1, .ref soa, .ref sna, .ref swa, .int xkept, .ref ri, .ref ro, .ref rw, .int xaskedq_45])), (ri, .inr (0, [.int rin, .ref ria])), (ria, .inl (cI, rik, .inl rif))] H := hP
          have hD : va_D A [(co, .inr (4, [.long xx, .long b19_1, .ref soa, .ref sna, .ref swa, .int xkept, .ref ri, .ref ro, .ref rw, .int xaskedq_45])), (ri, .inr (0, [.int rin, .ref ria])), (ria, .inl (cI, rik, .inl rif))] := hD
          refine lv_i2l hx hb d_Stack_unstackPart_48 rfl ?_
          refine lv_topl (fun v_9 ev_9 => ?_)
          refine lv_lor hx hb d_Stack_unstackPart_49 ?_
          refine lv_topl (fun v_10 ev_10 => ?_)
          refine va_put (D := (dC, dI)) (ci := 4) (v := .long v_10) (ty := .long) (C := "RangeCoders$Stack") (T := T_Stack) (N := 10) hx hb hg in_Stack t_Stack o_Stack n_Stack hown hK hP hD hS 0 rfl rfl 1 (by decide) (hg _ k215) (fun x9 h9 => u_same (hg _ k216) x9 h9) rfl (by decide +kernel) rfl rfl (Nat.le_of_ble_eq_true rfl) d_Stack_unstackPart_50 (fun H locs hP hD hS => ?_)
          have hP : va_P (dC, dI) vwCl [(co, .inr (4, [.long xx, .long v_10, .ref soa, .ref sna, .ref swa, .int xkept, .ref ri, .ref ro, .ref rw, .int xaskedq_45])), (ri, .inr (0, [.int rin, .ref ria])), (ria, .inl (cI, rik, .inl rif))] H := hP
          have hD : va_D A [(co, .inr (4, [.long xx, .long v_10, .ref soa, .ref sna, .ref swa, .int xkept, .ref ri, .ref ro, .ref rw, .int xaskedq_45])), (ri, .inr (0, [.int rin, .ref ria])), (ria, .inl (cI, rik, .inl rif))] := hD
          obtain ⟨v_11, ev_11⟩ : ∃ y : Int32, y = b19_0 + (1) := ⟨_, rfl⟩
          refine lv_iinc (v := v_11) (lv' := [(3, .int v_11), (0, .ref co), (1, .int pf), (2, .int rst)]) hx hb d_Stack_unstackPart_53 hl (k := 0) rfl (by rw [ev_11]; rfl) (by decide) rfl (fun ls hl => ?_)
          refine lv_goto (tgt := 19) hx hb d_Stack_unstackPart_56 (by decide) ?_
          exact ih9_19 _ (by first | omega | (have z9 := I_up c_6 ev_11; omega)) v_11 v_10 xaskedq_45 rfl (by have z9 := I_up c_6 ev_11; omega) H locs ls (hP.sub [0, 1, 2] rfl) (hD.sub [0, 1, 2] (by decide) rfl) hS (lv_sub hl [0, 1, 2, 3] rfl)
  exact J_19 _ (0 : Int32) v_5 xasked rfl (by first | decide | assumption | omega) H locs ls (hP.sub [0, 1, 2] rfl) (hD.sub [0, 1, 2] (by decide) rfl) hS (lv_sub hl [0, 1, 2, 3] rfl)
set_option maxHeartbeats 2000000 in
set_option maxRecDepth 100000 in
theorem c_Stack_Stack_nextSign (l : Launch) (dC : Nat → ClassId) (dI : Nat → Nat → Nat) (cI cM cO : ClassId) (sz : Nat) (co : Nat) (xx : Int64) (xreadX : Int64) (soa : Nat) (sna : Nat) (swa : Nat) (xkept : Int32) (ri : Nat) (ro : Nat) (rw : Nat) (xasked : Int32) (rin : Int32) (ria : Nat) (rik : Nat) (rif : Nat → Int32) (oo : Nat) (osg : Int32) (osm : Int32) (ofc : Int32) (oca : Nat) (opa : Nat) (ol : Nat) (ocf : Nat → Int32) (opl : Nat) (opf : Nat → Int32) (hri : rOk rin rik) (hol : ol ≤ 64) (hopl : opl ≤ 512) : MetI l y_Stack_nextSign (Cond.code y_Stack_nextSign prog_10_method_8_code 4 (some .int) :: gw) ({ frames := 4, cells := 0, slots := 0, locals := 86 } : Room) (dC, dI) vwCl (kT cI cM cO) [.ref co, .ref oo] [(co, .inr (4, [.long xx, .long xreadX, .ref soa, .ref sna, .ref swa, .int xkept, .ref ri, .ref ro, .ref rw, .int xasked])), (ri, .inr (0, [.int rin, .ref ria])), (ria, .inl (cI, rik, .inl rif)), (oo, .inr (7, [.int osg, .int osm, .int ofc, .ref oca, .ref opa])), (oca, .inl (cI, ol, .inl ocf)), (opa, .inl (cI, opl, .inl opf))] sz (fun (r : Int32) (u : Int64 × Int32) => True) (fun (u : Int64 × Int32) => [(co, .inr (4, [.long xx, .long u.1, .ref soa, .ref sna, .ref swa, .int xkept, .ref ri, .ref ro, .ref rw, .int u.2])), (ri, .inr (0, [.int rin, .ref ria])), (ria, .inl (cI, rik, .inl rif)), (oo, .inr (7, [.int osg, .int osm, .int ofc, .ref oca, .ref opa])), (oca, .inl (cI, ol, .inl ocf)), (opa, .inl (cI, opl, .inl opf))]) 0 0 := by
  refine my_ofI (cc := prog_10_method_8_code) (n := 4) (ret := (some .int)) (by decide) rfl (Nat.le_of_ble_eq_true rfl) ?_
  intro p e s m args below meth c R Q A ls H locs hx hb hr hts hown hlocks hml hnm hR hQ hA hl hP hK hN hD hS
  have hg : ∀ w ∈ gw, w.before args s = true := fun w h => hts w (List.mem_cons_of_mem _ h)
  have hown : s.vm.findClass "RangeCoders$Stack" = some m.cls := hown
  have hl : lv_has ls 4 [(0, .ref co), (1, .ref oo)] := hl
  have hlt_hri := rOk_lt hri
  refine lv_aload_n hx hb d_Stack_nextSign_0 rfl (lv_at hl 0 rfl) ?_
  refine va_get (D := (dC, dI)) (ci := 4) (v := .long xreadX) (C := "RangeCoders$Stack") (T := T_Stack) (N := 10) hx hb hg in_Stack hown hK hP 0 rfl rfl 1 (by decide) (hg _ k215) (fun x9 h9 => u_same (hg _ k216) x9 h9) rfl d_Stack_nextSign_1 ?_
  refine lv_ldc2 (v := 4095) hx hb hown (hg _ k833) d_Stack_nextSign_4 ?_
  refine lv_land hx hb d_Stack_nextSign_7 ?_
  refine lv_topl (fun v_1 ev_1 => ?_)
  refine lv_l2i hx hb d_Stack_nextSign_8 rfl ?_
  refine lv_topi (fun v_2 ev_2 => ?_)
  refine lv_istore_n (lv' := [(2, .int v_2), (0, .ref co), (1, .ref oo)]) hx hb d_Stack_nextSign_9 rfl hl (by decide) rfl (fun ls hl => ?_)
  refine lv_aload_n hx hb d_Stack_nextSign_10 rfl (lv_at hl 2 rfl) ?_
  refine lv_iload_n hx hb d_Stack_nextSign_11 rfl (lv_at hl 0 rfl) ?_
  refine my_ci (wr := [(co, .inr (4, [.long xx, .long xreadX, .ref soa, .ref sna, .ref swa, .int xkept, .ref ri, .ref ro, .ref rw, .int xasked])), (ri, .inr (0, [.int rin, .ref ria])), (ria, .inl (cI, rik, .inl rif))]) (va_runV (As := [.int v_2]) (rest := []) ⟨hx, hb, hml, hown, hts⟩ (c_Odds_signAt l dC dI cI cM cO H.size oo osg osm ofc oca opa ol ocf opl opf v_2 (by first | assumption | omega) (by first | assumption | omega)) (cwV 1 hts (my_gV k834 k812 k813 k14 k814) rfl rfl rfl (by decide +kernel) ⟨by rw [hR]; exact Nat.le_of_ble_eq_true rfl, by rw [hR]; exact Nat.le_of_ble_eq_true rfl⟩) (my_preV hK hN (hP.sub [3, 4, 5] rfl) (hD.sub [3, 4, 5] (by decide) rfl) 0 rfl rfl) rfl rfl hl.1 rfl (lv_room (Nat.le_of_ble_eq_true rfl)) d_Stack_nextSign_12 ⟨by rw [hR]; exact Nat.le_of_ble_eq_true rfl, by rw [hR]; exact Nat.le_of_ble_eq_true rfl⟩) hP hD hS hA [3, 4, 5] [0, 1, 2] rfl rfl (by decide) (by decide) (fun r_12 u9 H locs hw_12 hP hD hS => ?_)
  have hP : va_P (dC, dI) vwCl [(co, .inr (4, [.long xx, .long xreadX, .ref soa, .ref sna, .ref swa, .int xkept, .ref ri, .ref ro, .ref rw, .int xasked])), (ri, .inr (0, [.int rin, .ref ria])), (ria, .inl (cI, rik, .inl rif)), (oo, .inr (7, [.int osg, .int osm, .int ofc, .ref oca, .ref opa])), (oca, .inl (cI, ol, .inl ocf)), (opa, .inl (cI, opl, .inl opf))] H := hP
  have hD : va_D A [(co, .inr (4, [.long xx, .long xreadX, .ref soa, .ref sna, .ref swa, .int xkept, .ref ri, .ref ro, .ref rw, .int xasked])), (ri, .inr (0, [.int rin, .ref ria])), (ria, .inl (cI, rik, .inl rif)), (oo, .inr (7, [.int osg, .int osm, .int ofc, .ref oca, .ref opa])), (oca, .inl (cI, ol, .inl ocf)), (opa, .inl (cI, opl, .inl opf))] := hD
  refine lv_istore_n (lv' := [(3, .int r_12), (2, .int v_2), (0, .ref co), (1, .ref oo)]) hx hb d_Stack_nextSign_15 rfl hl (by decide) rfl (fun ls hl => ?_)
  refine lv_iload_n hx hb d_Stack_nextSign_16 rfl (lv_at hl 0 rfl) ?_
  refine lv_iconst (v := (-1)) hx hb d_Stack_nextSign_17 (by decide) ?_
  refine lv_icmp_eq (tgt := 37) hx hb d_Stack_nextSign_18 (by decide) (fun c_3 => ?_) (fun c_3 => ?_)
  · refine lv_iload_n hx hb d_Stack_nextSign_37 rfl (lv_at hl 0 rfl) ?_
    exact my_iret (v := r_12) hx hb hr (rfl) hlocks hQ hK hS (Nat.le_refl _) (Nat.le_refl _) (xreadX, xasked) (trivial) (hP.sub [0, 1, 2, 3, 4, 5] rfl) (hD.sub [0, 1, 2, 3, 4, 5] (by decide) rfl) d_Stack_nextSign_38
  · refine lv_aload_n hx hb d_Stack_nextSign_21 rfl (lv_at hl 2 rfl) ?_
    refine lv_aload_n hx hb d_Stack_nextSign_22 rfl (lv_at hl 3 rfl) ?_
    refine lv_iload_n hx hb d_Stack_nextSign_23 rfl (lv_at hl 0 rfl) ?_
    refine my_ci (wr := [(co, .inr (4, [.long xx, .long xreadX, .ref soa, .ref sna, .ref swa, .int xkept, .ref ri, .ref ro, .ref rw, .int xasked])), (ri, .inr (0, [.int rin, .ref ria])), (ria, .inl (cI, rik, .inl rif))]) (va_runV (As := [.int r_12]) (rest := [.ref co]) ⟨hx, hb, hml, hown, hts⟩ (c_Odds_at l dC dI cI cM cO H.size oo osg osm ofc oca opa ol ocf opl opf r_12 (by first | assumption | omega) (by first | assumption | omega)) (cwV 1 hts (my_gV k636 k436 k437 k14 k438) rfl rfl rfl (by decide +kernel) ⟨by rw [hR]; exact Nat.le_of_ble_eq_true rfl, by rw [hR]; exact Nat.le_of_ble_eq_true rfl⟩) (my_preV hK hN (hP.sub [3, 4, 5] rfl) (hD.sub [3, 4, 5] (by decide) rfl) 0 rfl rfl) rfl rfl hl.1 rfl (lv_room (Nat.le_of_ble_eq_true rfl)) d_Stack_nextSign_24 ⟨by rw [hR]; exact Nat.le_of_ble_eq_true rfl, by rw [hR]; exact Nat.le_of_ble_eq_true rfl⟩) hP hD hS hA [3, 4, 5] [0, 1, 2] rfl rfl (by decide) (by decide) (fun r_24 u9 H locs hw_24 hP hD hS => ?_)
    have hP : va_P (dC, dI) vwCl [(co, .inr (4, [.long xx, .long xreadX, .ref soa, .ref sna, .ref swa, .int xkept, .ref ri, .ref ro, .ref rw, .int xasked])), (ri, .inr (0, [.int rin, .ref ria])), (ria, .inl (cI, rik, .inl rif)), (oo, .inr (7, [.int osg, .int osm, .int ofc, .ref oca, .ref opa])), (oca, .inl (cI, ol, .inl ocf)), (opa, .inl (cI, opl, .inl opf))] H := hP
    have hD : va_D A [(co, .inr (4, [.long xx, .long xreadX, .ref soa, .ref sna, .ref swa, .int xkept, .ref ri, .ref ro, .ref rw, .int xasked])), (ri, .inr (0, [.int rin, .ref ria])), (ria, .inl (cI, rik, .inl rif)), (oo, .inr (7, [.int osg, .int osm, .int ofc, .ref oca, .ref opa])), (oca, .inl (cI, ol, .inl ocf)), (opa, .inl (cI, opl, .inl opf))] := hD
    refine lv_iload_n hx hb d_Stack_nextSign_27 rfl (lv_at hl 1 rfl) ?_
    refine lv_aload_n hx hb d_Stack_nextSign_28 rfl (lv_at hl 3 rfl) ?_
    refine lv_iload_n hx hb d_Stack_nextSign_29 rfl (lv_at hl 0 rfl) ?_
    refine my_ci (wr := [(co, .inr (4, [.long xx, .long xreadX, .ref soa, .ref sna, .ref swa, .int xkept, .ref ri, .ref ro, .ref rw, .int xasked])), (ri, .inr (0, [.int rin, .ref ria])), (ria, .inl (cI, rik, .inl rif))]) (va_runV (As := [.int r_12]) (rest := [.int v_2, .int r_24, .ref co]) ⟨hx, hb, hml, hown, hts⟩ (c_Odds_below l dC dI cI cM cO H.size oo osg osm ofc oca opa ol ocf opl opf r_12 (by first | assumption | omega) (by first | assumption | omega)) (cwV 1 hts (my_gV k637 k495 k496 k14 k497) rfl rfl rfl (by decide +kernel) ⟨by rw [hR]; exact Nat.le_of_ble_eq_true rfl, by rw [hR]; exact Nat.le_of_ble_eq_true rfl⟩) (my_preV hK hN (hP.sub [3, 4, 5] rfl) (hD.sub [3, 4, 5] (by decide) rfl) 0 rfl rfl) rfl rfl hl.1 rfl (lv_room (Nat.le_of_ble_eq_true rfl)) d_Stack_nextSign_30 ⟨by rw [hR]; exact Nat.le_of_ble_eq_true rfl, by rw [hR]; exact Nat.le_of_ble_eq_true rfl⟩) hP hD hS hA [3, 4, 5] [0, 1, 2] rfl rfl (by decide) (by decide) (fun r_30 u9 H locs hw_30 hP hD hS => ?_)
    have hP : va_P (dC, dI) vwCl [(co, .inr (4, [.long xx, .long xreadX, .ref soa, .ref sna, .ref swa, .int xkept, .ref ri, .ref ro, .ref rw, .int xasked])), (ri, .inr (0, [.int rin, .ref ria])), (ria, .inl (cI, rik, .inl rif)), (oo, .inr (7, [.int osg, .int osm, .int ofc, .ref oca, .ref opa])), (oca, .inl (cI, ol, .inl ocf)), (opa, .inl (cI, opl, .inl opf))] H := hP
    have hD : va_D A [(co, .inr (4, [.long xx, .long xreadX, .ref soa, .ref sna, .ref swa, .int xkept, .ref ri, .ref ro, .ref rw, .int xasked])), (ri, .inr (0, [.int rin, .ref ria])), (ria, .inl (cI, rik, .inl rif)), (oo, .inr (7, [.int osg, .int osm, .int ofc, .ref oca, .ref opa])), (oca, .inl (cI, ol, .inl ocf)), (opa, .inl (cI, opl, .inl opf))] := hD
    refine lv_isub hx hb d_Stack_nextSign_33 ?_
    refine lv_topi (fun v_4 ev_4 => ?_)
    refine my_cv (wr := [(oo, .inr (7, [.int osg, .int osm, .int ofc, .ref oca, .ref opa])), (oca, .inl (cI, ol, .inl ocf)), (opa, .inl (cI, opl, .inl opf))]) (va_runV (As := [.int r_24, .int v_4]) (rest := []) ⟨hx, hb, hml, hown, hts⟩ (c_Stack_Stack_unstackPart l dC dI cI cM cO H.size co xx xreadX soa sna swa xkept ri ro rw xasked rin ria rik rif r_24 v_4 (by first | assumption | omega)) (cwV 2 hts (my_gV k835 k837 ks16 k10 k838) rfl rfl rfl (by decide +kernel) ⟨by rw [hR]; exact Nat.le_of_ble_eq_true rfl, by rw [hR]; exact Nat.le_of_ble_eq_true rfl⟩) (my_preV hK hN (hP.sub [0, 1, 2] rfl) (hD.sub [0, 1, 2] (by decide) rfl) 0 rfl rfl) rfl rfl hl.1 rfl (lv_room (Nat.le_of_ble_eq_true rfl)) d_Stack_nextSign_34 ⟨by rw [hR]; exact Nat.le_of_ble_eq_true rfl, by rw [hR]; exact Nat.le_of_ble_eq_true rfl⟩) hP hD hS hA [0, 1, 2] [3, 4, 5] rfl rfl (by decide) (by decide) (fun u9 H locs hw_34 hP hD hS => ?_)
    obtain ⟨xreadXq_34, xaskedq_34⟩ := u9
    have hP : va_P (dC, dI) vwCl [(oo, .inr (7, [.int osg, .int osm, .int ofc, .ref oca, .ref opa])), (oca, .inl (cI, ol, .inl ocf)), (opa, .inl (cI, opl, .inl opf)), (co, .inr (4, [.long xx, .long xreadXq_34, .ref soa, .ref sna, .ref swa, .int xkept, .ref ri, .ref ro, .ref rw, .int xaskedq_34])), (ri, .inr (0, [.int rin, .ref ria])), (ria, .inl (cI, rik, .inl rif))] H := hP
    have hD : va_D A [(oo, .inr (7, [.int osg, .int osm, .int ofc, .ref oca, .ref opa])), (oca, .inl (cI, ol, .inl ocf)), (opa, .inl (cI, opl, .inl opf)), (co, .inr (4, [.long xx, .long xreadXq_34, .ref soa, .ref sna, .ref swa, .int xkept, .ref ri, .ref ro, .ref rw, .int xaskedq_34])), (ri, .inr (0, [.int rin, .ref ria])), (ria, .inl (cI, rik, .inl rif))] := hD
    refine lv_iload_n hx hb d_Stack_nextSign_37 rfl (lv_at hl 0 rfl) ?_
    exact my_iret (v := r_12) hx hb hr (rfl) hlocks hQ hK hS (Nat.le_refl _) (Nat.le_refl _) (xreadXq_34, xaskedq_34) (trivial) (hP.sub [3, 4, 5, 0, 1, 2] rfl) (hD.sub [3, 4, 5, 0, 1, 2] (by decide) rfl) d_Stack_nextSign_38
set_option maxHeartbeats 2000000 in
set_option maxRecDepth 100000 in
theorem c_Stack_Stack_nextValue (l : Launch) (dC : Nat → ClassId) (dI : Nat → Nat → Nat) (cI cM cO : ClassId) (sz : Nat) (co : Nat) (xx : Int64) (xreadX : Int64) (soa : Nat) (sna : Nat) (swa : Nat) (xkept : Int32) (ri : Nat) (ro : Nat) (rw : Nat) (xasked : Int32) (rin : Int32) (ria : Nat) (rik : Nat) (rif : Nat → Int32) (wd : Int32) (hri : rOk rin rik) : MetI l y_Stack_nextValue (Cond.code y_Stack_nextValue prog_10_method_9_code 4 (some .int) :: gw) ({ frames := 4, cells := 0, slots := 0, locals := 86 } : Room) (dC, dI) vwCl (kT cI cM cO) [.ref co, .int wd] [(co, .inr (4, [.long xx, .long xreadX, .ref soa, .ref sna, .ref swa, .int xkept, .ref ri, .ref ro, .ref rw, .int xasked])), (ri, .inr (0, [.int rin, .ref ria])), (ria, .inl (cI, rik, .inl rif))] sz (fun (r : Int32) (u : Int64 × Int32) => True) (fun (u : Int64 × Int32) => [(co, .inr (4, [.long xx, .long u.1, .ref soa, .ref sna, .ref swa, .int xkept, .ref ri, .ref ro, .ref rw, .int u.2])), (ri, .inr (0, [.int rin, .ref ria])), (ria, .inl (cI, rik, .inl rif))]) 0 0 := by
  refine my_ofI (cc := prog_10_method_9_code) (n := 4) (ret := (some .int)) (by decide) rfl (Nat.le_of_ble_eq_true rfl) ?_
  intro p e s m args below meth c R Q A ls H locs hx hb hr hts hown hlocks hml hnm hR hQ hA hl hP hK hN hD hS
  have hg : ∀ w ∈ gw, w.before args s = true := fun w h => hts w (List.mem_cons_of_mem _ h)
  have hown : s.vm.findClass "RangeCoders$Stack" = some m.cls := hown
  have hl : lv_has ls 4 [(0, .ref co), (1, .int wd)] := hl
  have hlt_hri := rOk_lt hri
  refine lv_aload_n hx hb d_Stack_nextValue_0 rfl (lv_at hl 0 rfl) ?_
  refine va_get (D := (dC, dI)) (ci := 4) (v := .long xreadX) (C := "RangeCoders$Stack") (T := T_Stack) (N := 10) hx hb hg in_Stack hown hK hP 0 rfl rfl 1 (by decide) (hg _ k215) (fun x9 h9 => u_same (hg _ k216) x9 h9) rfl d_Stack_nextValue_1 ?_
  refine lv_ldc2 (v := 4095) hx hb hown (hg _ k833) d_Stack_nextValue_4 ?_
  refine lv_land hx hb d_Stack_nextValue_7 ?_
  refine lv_topl (fun v_1 ev_1 => ?_)
  refine lv_l2i hx hb d_Stack_nextValue_8 rfl ?_
  refine lv_topi (fun v_2 ev_2 => ?_)
  refine lv_istore_n (lv' := [(2, .int v_2), (0, .ref co), (1, .int wd)]) hx hb d_Stack_nextValue_9 rfl hl (by decide) rfl (fun ls hl => ?_)
  refine lv_sipush (v := 4096) hx hb d_Stack_nextValue_10 (by decide) ?_
  refine lv_iload_n hx hb d_Stack_nextValue_13 rfl (lv_at hl 2 rfl) ?_
  refine lv_ishr hx hb d_Stack_nextValue_14 ?_
  refine lv_topi (fun v_3 ev_3 => ?_)
  refine lv_istore_n (lv' := [(3, .int v_3), (2, .int v_2), (0, .ref co), (1, .int wd)]) hx hb d_Stack_nextValue_15 rfl hl (by decide) rfl (fun ls hl => ?_)
  refine lv_iload_n hx hb d_Stack_nextValue_16 rfl (lv_at hl 0 rfl) ?_
  refine lv_if_gt (tgt := 22) hx hb d_Stack_nextValue_17 (by decide) (fun c_4 => ?_) (fun c_4 => ?_)
  · refine lv_aload_n hx hb d_Stack_nextValue_22 rfl (lv_at hl 2 rfl) ?_
    refine lv_iload_n hx hb d_Stack_nextValue_23 rfl (lv_at hl 0 rfl) ?_
    refine lv_iload_n hx hb d_Stack_nextValue_24 rfl (lv_at hl 1 rfl) ?_
    refine lv_iload_n hx hb d_Stack_nextValue_25 rfl (lv_at hl 0 rfl) ?_
    refine lv_irem hx hb d_Stack_nextValue_26 (by first | decide | exact I_nzp (by assumption) | exact I_nz (by assumption)) ?_
    refine lv_topi (fun v_5 ev_5 => ?_)
    refine my_cv (wr := []) (va_runV (As := [.int v_3, .int v_5]) (rest := []) ⟨hx, hb, hml, hown, hts⟩ (c_Stack_Stack_unstackPart l dC dI cI cM cO H.size co xx xreadX soa sna swa xkept ri ro rw xasked rin ria rik rif v_3 v_5 (by first | assumption | omega)) (cwV 2 hts (my_gV k835 k837 ks16 k10 k838) rfl rfl rfl (by decide +kernel) ⟨by rw [hR]; exact Nat.le_of_ble_eq_true rfl, by rw [hR]; exact Nat.le_of_ble_eq_true rfl⟩) (my_preV hK hN (hP.sub [0, 1, 2] rfl) (hD.sub [0, 1, 2] (by decide) rfl) 0 rfl rfl) rfl rfl hl.1 rfl (lv_room (Nat.le_of_ble_eq_true rfl)) d_Stack_nextValue_27 ⟨by rw [hR]; exact Nat.le_of_ble_eq_true rfl, by rw [hR]; exact Nat.le_of_ble_eq_true rfl⟩) hP hD hS hA [0, 1, 2] [] rfl rfl (by decide) (by decide) (fun u9 H locs hw_27 hP hD hS => ?_)
    obtain ⟨xreadXq_27, xaskedq_27⟩ := u9
    have hP : va_P (dC, dI) vwCl [(co, .inr (4, [.long xx, .long xreadXq_27, .ref soa, .ref sna, .ref swa, .int xkept, .ref ri, .ref ro, .ref rw, .int xaskedq_27])), (ri, .inr (0, [.int rin, .ref ria])), (ria, .inl (cI, rik, .inl rif))] H := hP
    have hD : va_D A [(co, .inr (4, [.long xx, .long xreadXq_27, .ref soa, .ref sna, .ref swa, .int xkept, .ref ri, .ref ro, .ref rw, .int xaskedq_27])), (ri, .inr (0, [.int rin, .ref ria])), (ria, .inl (cI, rik, .inl rif))] := hD
    refine lv_iload_n hx hb d_Stack_nextValue_30 rfl (lv_at hl 1 rfl) ?_
    refine lv_iload_n hx hb d_Stack_nextValue_31 rfl (lv_at hl 0 rfl) ?_
    refine lv_idiv hx hb d_Stack_nextValue_32 (by first | decide | exact I_nzp (by assumption) | exact I_nz (by assumption)) ?_
    refine lv_topi (fun v_6 ev_6 => ?_)
    exact my_iret (v := v_6) hx hb hr (rfl) hlocks hQ hK hS (Nat.le_refl _) (Nat.le_refl _) (xreadXq_27, xaskedq_27) (trivial) (hP.sub [0, 1, 2] rfl) (hD.sub [0, 1, 2] (by decide) rfl) d_Stack_nextValue_33
  · refine lv_iconst (v := (-1)) hx hb d_Stack_nextValue_20 (by decide) ?_
    exact my_iret (v := (-1)) hx hb hr (rfl) hlocks hQ hK hS (Nat.le_refl _) (Nat.le_refl _) (xreadX, xasked) (trivial) (hP.sub [0, 1, 2] rfl) (hD.sub [0, 1, 2] (by decide) rfl) d_Stack_nextValue_21
set_option maxHeartbeats 2000000 in
set_option maxRecDepth 100000 in
theorem c_Stack_Stacked_openMessage (l : Launch) (dC : Nat → ClassId) (dI : Nat → Nat → Nat) (cI cM cO : ClassId) (sz : Nat) (co : Nat) (xx : Int64) (xreadX : Int64) (soa : Nat) (sna : Nat) (swa : Nat) (xkept : Int32) (ri : Nat) (ro : Nat) (rw : Nat) (xasked : Int32) : MetV l y_Stacked_openMessage (Cond.code y_Stacked_openMessage prog_11_method_6_code 1 none :: gw) ({ frames := 0, cells := 0, slots := 0, locals := 0 } : Room) (dC, dI) vwCl (kT cI cM cO) [.ref co] [(co, .inr (4, [.long xx, .long xreadX, .ref soa, .ref sna, .ref swa, .int xkept, .ref ri, .ref ro, .ref rw, .int xasked]))] sz (fun (u : Int32) => 0 ≤ u.toInt) (fun (u : Int32) => [(co, .inr (4, [.long xx, .long xreadX, .ref soa, .ref sna, .ref swa, .int u, .ref ri, .ref ro, .ref rw, .int xasked]))]) 0 0 := by
  refine my_ofV (cc := prog_11_method_6_code) (n := 1) (ret := none) (by decide) rfl (Nat.le_of_ble_eq_true rfl) ?_
  intro p e s m args below meth c R Q A ls H locs hx hb hr hts hown hlocks hml hnm hR hQ hA hl hP hK hN hD hS
  have hg : ∀ w ∈ gw, w.before args s = true := fun w h => hts w (List.mem_cons_of_mem _ h)
  have hown : s.vm.findClass "RangeCoders$Stacked" = some m.cls := hown
  have hl : lv_has ls 1 [(0, .ref co)] := hl
  refine lv_aload_n hx hb d_Stacked_openMessage_0 rfl (lv_at hl 0 rfl) ?_
  refine lv_iconst (v := 0) hx hb d_Stacked_openMessage_1 (by decide) ?_
  refine va_put (D := (dC, dI)) (ci := 4) (v := .int 0) (ty := .int) (C := "RangeCoders$Stack") (T := T_Stack) (N := 10) hx hb hg in_Stack t_Stack o_Stack n_Stack hown hK hP hD hS 0 rfl rfl 5 (by decide) (hg _ k223) (fun _ h9 => h9) rfl (by decide +kernel) rfl rfl (Nat.le_of_ble_eq_true rfl) d_Stacked_openMessage_2 (fun H locs hP hD hS => ?_)
  have hP : va_P (dC, dI) vwCl [(co, .inr (4, [.long xx, .long xreadX, .ref soa, .ref sna, .ref swa, .int 0, .ref ri, .ref ro, .ref rw, .int xasked]))] H := hP
  have hD : va_D A [(co, .inr (4, [.long xx, .long xreadX, .ref soa, .ref sna, .ref swa, .int 0, .ref ri, .ref ro, .ref rw, .int xasked]))] := hD
  exact my_vret hx hb hr hlocks hQ hK hS (Nat.le_refl _) (Nat.le_refl _) ((0 : Int32)) (by decide) (hP.sub [0] rfl) (hD.sub [0] (by decide) rfl) d_Stacked_openMessage_5
set_option maxHeartbeats 2000000 in
set_option maxRecDepth 100000 in
theorem c_Stack_Stacked_keep (l : Launch) (dC : Nat → ClassId) (dI : Nat → Nat → Nat) (cI cM cO : ClassId) (sz : Nat) (co : Nat) (xx : Int64) (xreadX : Int64) (soa : Nat) (sna : Nat) (swa : Nat) (xkept : Int32) (ri : Nat) (ro : Nat) (rw : Nat) (xasked : Int32) (sof : Nat → Option Nat) (snf : Nat → Int32) (swf : Nat → Int32) (oo : Nat) (osg : Int32) (osm : Int32) (ofc : Int32) (oca : Nat) (opa : Nat) (ol : Nat) (ocf : Nat → Int32) (opl : Nat) (opf : Nat → Int32) (nb : Int32) (wd : Int32) (hol : ol ≤ 64) (hopl : opl ≤ 512) (hkp0 : 0 ≤ xkept.toInt) : MetV l y_Stacked_keep (Cond.code y_Stacked_keep prog_11_method_11_code 4 none :: gw) ({ frames := 0, cells := 0, slots := 0, locals := 0 } : Room) (dC, dI) vwCl (kT cI cM cO) [.ref co, .ref oo, .int nb, .int wd] [(co, .inr (4, [.long xx, .long xreadX, .ref soa, .ref sna, .ref swa, .int xkept, .ref ri, .ref ro, .ref rw, .int xasked])), (soa, .inl (cO, 600, .inr (.inr (.inr (.inr sof))))), (sna, .inl (cI, 600, .inl snf)), (swa, .inl (cI, 600, .inl swf)), (oo, .inr (7, [.int osg, .int osm, .int ofc, .ref oca, .ref opa])), (oca, .inl (cI, ol, .inl ocf)), (opa, .inl (cI, opl, .inl opf))] sz (fun (u : Int32 × (Nat → Option Nat) × (Nat → Int32) × (Nat → Int32)) => 0 ≤ u.1.toInt ∧ ∀ i, u.2.1 i = sof i ∨ u.2.1 i = some oo) (fun (u : Int32 × (Nat → Option Nat) × (Nat → Int32) × (Nat → Int32)) => [(co, .inr (4, [.long xx, .long xreadX, .ref soa, .ref sna, .ref swa, .int u.1, .ref ri, .ref ro, .ref rw, .int xasked])), (soa, .inl (cO, 600, .inr (.inr (.inr (.inr u.2.1))))), (sna, .inl (cI, 600, .inl u.2.2.1)), (swa, .inl (cI, 600, .inl u.2.2.2)), (oo, .inr (7, [.int osg, .int osm, .int ofc, .ref oca, .ref opa])), (oca, .inl (cI, ol, .inl ocf)), (opa, .inl (cI, opl, .inl opf))]) 0 0 := by
  refine my_ofV (cc := prog_11_method_11_code) (n := 4) (ret := none) (by decide) rfl (Nat.le_of_ble_eq_true rfl) ?_
  intro p e s m args below meth c R Q A ls H locs hx hb hr hts hown hlocks hml hnm hR hQ hA hl hP hK hN hD hS
  have hg : ∀ w ∈ gw, w.before args s = true := fun w h => hts w (List.mem_cons_of_mem _ h)
  have hown : s.vm.findClass "RangeCoders$Stacked" = some m.cls := hown
  have hl : lv_has ls 4 [(0, .ref co), (1, .ref oo), (2, .int nb), (3, .int wd)] := hl
  refine lv_aload_n hx hb d_Stacked_keep_0 rfl (lv_at hl 0 rfl) ?_
  refine va_get (D := (dC, dI)) (ci := 4) (v := .int xkept) (C := "RangeCoders$Stack") (T := T_Stack) (N := 10) hx hb hg in_Stack hown hK hP 0 rfl rfl 5 (by decide) (hg _ k223) (fun _ h9 => h9) rfl d_Stacked_keep_1 ?_
  refine lv_if_lt (tgt := 57) hx hb d_Stacked_keep_4 (by decide) (fun c_1 => ?_) (fun c_1 => ?_)
  · exact my_vret hx hb hr hlocks hQ hK hS (Nat.le_refl _) (Nat.le_refl _) (xkept, sof, snf, swf) (⟨by first | assumption | exact I_up0 hkp0 (by assumption) (by assumption), by first | assumption | exact fun _ => Or.inl rfl | exact va_up_or _ _ _⟩) (hP.sub [0, 1, 2, 3, 4, 5, 6] rfl) (hD.sub [0, 1, 2, 3, 4, 5, 6] (by decide) rfl) d_Stacked_keep_57
  · refine lv_aload_n hx hb d_Stacked_keep_7 rfl (lv_at hl 0 rfl) ?_
    refine va_get (D := (dC, dI)) (ci := 4) (v := .int xkept) (C := "RangeCoders$Stack") (T := T_Stack) (N := 10) hx hb hg in_Stack hown hK hP 0 rfl rfl 5 (by decide) (hg _ k223) (fun _ h9 => h9) rfl d_Stacked_keep_8 ?_
    refine lv_sipush (v := 600) hx hb d_Stacked_keep_11 (by decide) ?_
    refine lv_icmp_ge (tgt := 57) hx hb d_Stacked_keep_14 (by decide) (fun c_2 => ?_) (fun c_2 => ?_)
    · exact my_vret hx hb hr hlocks hQ hK hS (Nat.le_refl _) (Nat.le_refl _) (xkept, sof, snf, swf) (⟨by first | assumption | exact I_up0 hkp0 (by assumption) (by assumption), by first | assumption | exact fun _ => Or.inl rfl | exact va_up_or _ _ _⟩) (hP.sub [0, 1, 2, 3, 4, 5, 6] rfl) (hD.sub [0, 1, 2, 3, 4, 5, 6] (by decide) rfl) d_Stacked_keep_57
    · refine lv_aload_n hx hb d_Stacked_keep_17 rfl (lv_at hl 0 rfl) ?_
      refine va_get (D := (dC, dI)) (ci := 4) (v := .ref soa) (C := "RangeCoders$Stack") (T := T_Stack) (N := 10) hx hb hg in_Stack hown hK hP 0 rfl rfl 2 (by decide) (hg _ k220) (fun _ h9 => h9) rfl d_Stacked_keep_18 ?_
      refine lv_aload_n hx hb d_Stacked_keep_21 rfl (lv_at hl 0 rfl) ?_
      refine va_get (D := (dC, dI)) (ci := 4) (v := .int xkept) (C := "RangeCoders$Stack") (T := T_Stack) (N := 10) hx hb hg in_Stack hown hK hP 0 rfl rfl 5 (by decide) (hg _ k223) (fun _ h9 => h9) rfl d_Stacked_keep_22 ?_
      refine lv_aload_n hx hb d_Stacked_keep_25 rfl (lv_at hl 1 rfl) ?_
      refine va_astq hx hb hK hP hD hS 1 2 4 7 rfl rfl rfl rfl (by first | assumption | exact I_in (by omega) (by assumption) (by assumption) | exact I_in' (by omega) (by assumption) (by assumption)) d_Stacked_keep_26 (fun H locs hP hD hS => ?_)
      have hP : va_P (dC, dI) vwCl [(co, .inr (4, [.long xx, .long xreadX, .ref soa, .ref sna, .ref swa, .int xkept, .ref ri, .ref ro, .ref rw, .int xasked])), (soa, .inl (cO, 600, .inr (.inr (.inr (.inr (va_up sof xkept.toNatClampNeg (some oo))))))), (sna, .inl (cI, 600, .inl snf)), (swa, .inl (cI, 600, .inl swf)), (oo, .inr (7, [.int osg, .int osm, .int ofc, .ref oca, .ref opa])), (oca, .inl (cI, ol, .inl ocf)), (opa, .inl (cI, opl, .inl opf))] H := hP
      have hD : va_D A [(co, .inr (4, [.long xx, .long xreadX, .ref soa, .ref sna, .ref swa, .int xkept, .ref ri, .ref ro, .ref rw, .int xasked])), (soa, .inl (cO, 600, .inr (.inr (.inr (.inr (va_up sof xkept.toNatClampNeg (some oo))))))), (sna, .inl (cI, 600, .inl snf)), (swa, .inl (cI, 600, .inl swf)), (oo, .inr (7, [.int osg, .int osm, .int ofc, .ref oca, .ref opa])), (oca, .inl (cI, ol, .inl ocf)), (opa, .inl (cI, opl, .inl opf))] := hD
      refine lv_aload_n hx hb d_Stacked_keep_27 rfl (lv_at hl 0 rfl) ?_
      refine va_get (D := (dC, dI)) (ci := 4) (v := .ref sna) (C := "RangeCoders$Stack") (T := T_Stack) (N := 10) hx hb hg in_Stack hown hK hP 0 rfl rfl 3 (by decide) (hg _ k221) (fun _ h9 => h9) rfl d_Stacked_keep_28 ?_
      refine lv_aload_n hx hb d_Stacked_keep_31 rfl (lv_at hl 0 rfl) ?_
      refine va_get (D := (dC, dI)) (ci := 4) (v := .int xkept) (C := "RangeCoders$Stack") (T := T_Stack) (N := 10) hx hb hg in_Stack hown hK hP 0 rfl rfl 5 (by decide) (hg _ k223) (fun _ h9 => h9) rfl d_Stacked_keep_32 ?_
      refine lv_iload_n hx hb d_Stacked_keep_35 rfl (lv_at hl 2 rfl) ?_
      refine va_iast hx hb hK hP hD hS 2 0 rfl rfl (by first | assumption | exact I_in (by omega) (by assumption) (by assumption) | exact I_in' (by omega) (by assumption) (by assumption)) d_Stacked_keep_36 (fun H locs hP hD hS => ?_)
      have hP : va_P (dC, dI) vwCl [(co, .inr (4, [.long xx, .long xreadX, .ref soa, .ref sna, .ref swa, .int xkept, .ref ri, .ref ro, .ref rw, .int xasked])), (soa, .inl (cO, 600, .inr (.inr (.inr (.inr (va_up sof xkept.toNatClampNeg (some oo))))))), (sna, .inl (cI, 600, .inl (upd snf xkept.toNatClampNeg nb))), (swa, .inl (cI, 600, .inl swf)), (oo, .inr (7, [.int osg, .int osm, .int ofc, .ref oca, .ref opa])), (oca, .inl (cI, ol, .inl ocf)), (opa, .inl (cI, opl, .inl opf))] H := hP
      have hD : va_D A [(co, .inr (4, [.long xx, .long xreadX, .ref soa, .ref sna, .ref swa, .int xkept, .ref ri, .ref ro, .ref rw, .int xasked])), (soa, .inl (cO, 600, .inr (.inr (.inr (.inr (va_up sof xkept.toNatClampNeg (some oo))))))), (sna, .inl (cI, 600, .inl (upd snf xkept.toNatClampNeg nb))), (swa, .inl (cI, 600, .inl swf)), (oo, .inr (7, [.int osg, .int osm, .int ofc, .ref oca, .ref opa])), (oca, .inl (cI, ol, .inl ocf)), (opa, .inl (cI, opl, .inl opf))] := hD
      refine lv_aload_n hx hb d_Stacked_keep_37 rfl (lv_at hl 0 rfl) ?_
      refine va_get (D := (dC, dI)) (ci := 4) (v := .ref swa) (C := "RangeCoders$Stack") (T := T_Stack) (N := 10) hx hb hg in_Stack hown hK hP 0 rfl rfl 4 (by decide) (hg _ k222) (fun _ h9 => h9) rfl d_Stacked_keep_38 ?_
      refine lv_aload_n hx hb d_Stacked_keep_41 rfl (lv_at hl 0 rfl) ?_
      refine va_get (D := (dC, dI)) (ci := 4) (v := .int xkept) (C := "RangeCoders$Stack") (T := T_Stack) (N := 10) hx hb hg in_Stack hown hK hP 0 rfl rfl 5 (by decide) (hg _ k223) (fun _ h9 => h9) rfl d_Stacked_keep_42 ?_
      refine lv_iload_n hx hb d_Stacked_keep_45 rfl (lv_at hl 3 rfl) ?_
      refine va_iast hx hb hK hP hD hS 3 0 rfl rfl (by first | assumption | exact I_in (by omega) (by assumption) (by assumption) | exact I_in' (by omega) (by assumption) (by assumption)) d_Stacked_keep_46 (fun H locs hP hD hS => ?_)
      have hP : va_P (dC, dI) vwCl [(co, .inr (4, [.long xx, .long xreadX, .ref soa, .ref sna, .ref swa, .int xkept, .ref ri, .ref ro, .ref rw, .int xasked])), (soa, .inl (cO, 600, .inr (.inr (.inr (.inr (va_up sof xkept.toNatClampNeg (some oo))))))), (sna, .inl (cI, 600, .inl (upd snf xkept.toNatClampNeg nb))), (swa, .inl (cI, 600, .inl (upd swf xkept.toNatClampNeg wd))), (oo, .inr (7, [.int osg, .int osm, .int ofc, .ref oca, .ref opa])), (oca, .inl (cI, ol, .inl ocf)), (opa, .inl (cI, opl, .inl opf))] H := hP
      have hD : va_D A [(co, .inr (4, [.long xx, .long xreadX, .ref soa, .ref sna, .ref swa, .int xkept, .ref ri, .ref ro, .ref rw, .int xasked])), (soa, .inl (cO, 600, .inr (.inr (.inr (.inr (va_up sof xkept.toNatClampNeg (some oo))))))), (sna, .inl (cI, 600, .inl (upd snf xkept.toNatClampNeg nb))), (swa, .inl (cI, 600, .inl (upd swf xkept.toNatClampNeg wd))), (oo, .inr (7, [.int osg, .int osm, .int ofc, .ref oca, .ref opa])), (oca, .inl (cI, ol, .inl ocf)), (opa, .inl (cI, opl, .inl opf))] := hD
      refine lv_aload_n hx hb d_Stacked_keep_47 rfl (lv_at hl 0 rfl) ?_
      refine lv_dup hx hb d_Stacked_keep_48 rfl ?_
      refine va_get (D := (dC, dI)) (ci := 4) (v := .int xkept) (C := "RangeCoders$Stack") (T := T_Stack) (N := 10) hx hb hg in_Stack hown hK hP 0 rfl rfl 5 (by decide) (hg _ k223) (fun _ h9 => h9) rfl d_Stacked_keep_49 ?_
      refine lv_iconst (v := 1) hx hb d_Stacked_keep_52 (by decide) ?_
      refine lv_iadd hx hb d_Stacked_keep_53 ?_
      refine lv_topi (fun v_3 ev_3 => ?_)
      refine va_put (D := (dC, dI)) (ci := 4) (v := .int v_3) (ty := .int) (C := "RangeCoders$Stack") (T := T_Stack) (N := 10) hx hb hg in_Stack t_Stack o_Stack n_Stack hown hK hP hD hS 0 rfl rfl 5 (by decide) (hg _ k223) (fun _ h9 => h9) rfl (by decide +kernel) rfl rfl (Nat.le_of_ble_eq_true rfl) d_Stacked_keep_54 (fun H locs hP hD hS => ?_)
      have hP : va_P (dC, dI) vwCl [(co, .inr (4, [.long xx, .long xreadX, .ref soa, .ref sna, .ref swa, .int v_3, .ref ri, .ref ro, .ref rw, .int xasked])), (soa, .inl (cO, 600, .inr (.inr (.inr (.inr (va_up sof xkept.toNatClampNeg (some oo))))))), (sna, .inl (cI, 600, .inl (upd snf xkept.toNatClampNeg nb))), (swa, .inl (cI, 600, .inl (upd swf xkept.toNatClampNeg wd))), (oo, .inr (7, [.int osg, .int osm, .int ofc, .ref oca, .ref opa])), (oca, .inl (cI, ol, .inl ocf)), (opa, .inl (cI, opl, .inl opf))] H := hP
      have hD : va_D A [(co, .inr (4, [.long xx, .long xreadX, .ref soa, .ref sna, .ref swa, .int v_3, .ref ri, .ref ro, .ref rw, .int xasked])), (soa, .inl (cO, 600, .inr (.inr (.inr (.inr (va_up sof xkept.toNatClampNeg (some oo))))))), (sna, .inl (cI, 600, .inl (upd snf xkept.toNatClampNeg nb))), (swa, .inl (cI, 600, .inl (upd swf xkept.toNatClampNeg wd))), (oo, .inr (7, [.int osg, .int osm, .int ofc, .ref oca, .ref opa])), (oca, .inl (cI, ol, .inl ocf)), (opa, .inl (cI, opl, .inl opf))] := hD
      exact my_vret hx hb hr hlocks hQ hK hS (Nat.le_refl _) (Nat.le_refl _) (v_3, va_up sof xkept.toNatClampNeg (some oo), upd snf xkept.toNatClampNeg nb, upd swf xkept.toNatClampNeg wd) (⟨by first | assumption | exact I_up0 hkp0 (by assumption) (by assumption), by first | assumption | exact fun _ => Or.inl rfl | exact va_up_or _ _ _⟩) (hP.sub [0, 1, 2, 3, 4, 5, 6] rfl) (hD.sub [0, 1, 2, 3, 4, 5, 6] (by decide) rfl) d_Stacked_keep_57
set_option maxHeartbeats 2000000 in
set_option maxRecDepth 100000 in
theorem c_Stack_Stacked_keepN (l : Launch) (dC : Nat → ClassId) (dI : Nat → Nat → Nat) (cI cM cO : ClassId) (sz : Nat) (co : Nat) (xx : Int64) (xreadX : Int64) (soa : Nat) (sna : Nat) (swa : Nat) (xkept : Int32) (ri : Nat) (ro : Nat) (rw : Nat) (xasked : Int32) (sof : Nat → Option Nat) (snf : Nat → Int32) (swf : Nat → Int32) (nb : Int32) (wd : Int32) (hkp0 : 0 ≤ xkept.toInt) : MetV l y_Stacked_keep (Cond.code y_Stacked_keep prog_11_method_11_code 4 none :: gw) ({ frames := 0, cells := 0, slots := 0, locals := 0 } : Room) (dC, dI) vwCl (kT cI cM cO) [.ref co, .null, .int nb, .int wd] [(co, .inr (4, [.long xx, .long xreadX, .ref soa, .ref sna, .ref swa, .int xkept, .ref ri, .ref ro, .ref rw, .int xasked])), (soa, .inl (cO, 600, .inr (.inr (.inr (.inr sof))))), (sna, .inl (cI, 600, .inl snf)), (swa, .inl (cI, 600, .inl swf))] sz (fun (u : Int32 × (Nat → Option Nat) × (Nat → Int32) × (Nat → Int32)) => 0 ≤ u.1.toInt ∧ ∀ i, u.2.1 i = sof i ∨ u.2.1 i = none) (fun (u : Int32 × (Nat → Option Nat) × (Nat → Int32) × (Nat → Int32)) => [(co, .inr (4, [.long xx, .long xreadX, .ref soa, .ref sna, .ref swa, .int u.1, .ref ri, .ref ro, .ref rw, .int xasked])), (soa, .inl (cO, 600, .inr (.inr (.inr (.inr u.2.1))))), (sna, .inl (cI, 600, .inl u.2.2.1)), (swa, .inl (cI, 600, .inl u.2.2.2))]) 0 0 := by
  refine my_ofV (cc := prog_11_method_11_code) (n := 4) (ret := none) (by decide) rfl (Nat.le_of_ble_eq_true rfl) ?_
  intro p e s m args below meth c R Q A ls H locs hx hb hr hts hown hlocks hml hnm hR hQ hA hl hP hK hN hD hS
  have hg : ∀ w ∈ gw, w.before args s = true := fun w h => hts w (List.mem_cons_of_mem _ h)
  have hown : s.vm.findClass "RangeCoders$Stacked" = some m.cls := hown
  have hl : lv_has ls 4 [(0, .ref co), (1, .null), (2, .int nb), (3, .int wd)] := hl
  refine lv_aload_n hx hb d_Stacked_keep_0 rfl (lv_at hl 0 rfl) ?_
  refine va_get (D := (dC, dI)) (ci := 4) (v := .int xkept) (C := "RangeCoders$Stack") (T := T_Stack) (N := 10) hx hb hg in_Stack hown hK hP 0 rfl rfl 5 (by decide) (hg _ k223) (fun _ h9 => h9) rfl d_Stacked_keep_1 ?_
  refine lv_if_lt (tgt := 57) hx hb d_Stacked_keep_4 (by decide) (fun c_1 => ?_) (fun c_1 => ?_)
  · exact my_vret hx hb hr hlocks hQ hK hS (Nat.le_refl _) (Nat.le_refl _) (xkept, sof, snf, swf) (⟨by first | assumption | exact I_up0 hkp0 (by assumption) (by assumption), by first | assumption | exact fun _ => Or.inl rfl | exact va_up_or _ _ _⟩) (hP.sub [0, 1, 2, 3] rfl) (hD.sub [0, 1, 2, 3] (by decide) rfl) d_Stacked_keep_57
  · refine lv_aload_n hx hb d_Stacked_keep_7 rfl (lv_at hl 0 rfl) ?_
    refine va_get (D := (dC, dI)) (ci := 4) (v := .int xkept) (C := "RangeCoders$Stack") (T := T_Stack) (N := 10) hx hb hg in_Stack hown hK hP 0 rfl rfl 5 (by decide) (hg _ k223) (fun _ h9 => h9) rfl d_Stacked_keep_8 ?_
    refine lv_sipush (v := 600) hx hb d_Stacked_keep_11 (by decide) ?_
    refine lv_icmp_ge (tgt := 57) hx hb d_Stacked_keep_14 (by decide) (fun c_2 => ?_) (fun c_2 => ?_)
    · exact my_vret hx hb hr hlocks hQ hK hS (Nat.le_refl _) (Nat.le_refl _) (xkept, sof, snf, swf) (⟨by first | assumption | exact I_up0 hkp0 (by assumption) (by assumption), by first | assumption | exact fun _ => Or.inl rfl | exact va_up_or _ _ _⟩) (hP.sub [0, 1, 2, 3] rfl) (hD.sub [0, 1, 2, 3] (by decide) rfl) d_Stacked_keep_57
    · refine lv_aload_n hx hb d_Stacked_keep_17 rfl (lv_at hl 0 rfl) ?_
      refine va_get (D := (dC, dI)) (ci := 4) (v := .ref soa) (C := "RangeCoders$Stack") (T := T_Stack) (N := 10) hx hb hg in_Stack hown hK hP 0 rfl rfl 2 (by decide) (hg _ k220) (fun _ h9 => h9) rfl d_Stacked_keep_18 ?_
      refine lv_aload_n hx hb d_Stacked_keep_21 rfl (lv_at hl 0 rfl) ?_
      refine va_get (D := (dC, dI)) (ci := 4) (v := .int xkept) (C := "RangeCoders$Stack") (T := T_Stack) (N := 10) hx hb hg in_Stack hown hK hP 0 rfl rfl 5 (by decide) (hg _ k223) (fun _ h9 => h9) rfl d_Stacked_keep_22 ?_
      refine lv_aload_nN hx hb d_Stacked_keep_25 rfl (lv_at hl 1 rfl) ?_
      refine va_astqN hx hb hK hP hD hS 1 2 rfl rfl (by first | assumption | exact I_in (by omega) (by assumption) (by assumption) | exact I_in' (by omega) (by assumption) (by assumption)) d_Stacked_keep_26 (fun H locs hP hD hS => ?_)
      have hP : va_P (dC, dI) vwCl [(co, .inr (4, [.long xx, .long xreadX, .ref soa, .ref sna, .ref swa, .int xkept, .ref ri, .ref ro, .ref rw, .int xasked])), (soa, .inl (cO, 600, .inr (.inr (.inr (.inr (va_up sof xkept.toNatClampNeg (none))))))), (sna, .inl (cI, 600, .inl snf)), (swa, .inl (cI, 600, .inl swf))] H := hP
      have hD : va_D A [(co, .inr (4, [.long xx, .long xreadX, .ref soa, .ref sna, .ref swa, .int xkept, .ref ri, .ref ro, .ref rw, .int xasked])), (soa, .inl (cO, 600, .inr (.inr (.inr (.inr (va_up sof xkept.toNatClampNeg (none))))))), (sna, .inl (cI, 600, .inl snf)), (swa, .inl (cI, 600, .inl swf))] := hD
      refine lv_aload_n hx hb d_Stacked_keep_27 rfl (lv_at hl 0 rfl) ?_
      refine va_get (D := (dC, dI)) (ci := 4) (v := .ref sna) (C := "RangeCoders$Stack") (T := T_Stack) (N := 10) hx hb hg in_Stack hown hK hP 0 rfl rfl 3 (by decide) (hg _ k221) (fun _ h9 => h9) rfl d_Stacked_keep_28 ?_
      refine lv_aload_n hx hb d_Stacked_keep_31 rfl (lv_at hl 0 rfl) ?_
      refine va_get (D := (dC, dI)) (ci := 4) (v := .int xkept) (C := "RangeCoders$Stack") (T := T_Stack) (N := 10) hx hb hg in_Stack hown hK hP 0 rfl rfl 5 (by decide) (hg _ k223) (fun _ h9 => h9) rfl d_Stacked_keep_32 ?_
      refine lv_iload_n hx hb d_Stacked_keep_35 rfl (lv_at hl 2 rfl) ?_
      refine va_iast hx hb hK hP hD hS 2 0 rfl rfl (by first | assumption | exact I_in (by omega) (by assumption) (by assumption) | exact I_in' (by omega) (by assumption) (by assumption)) d_Stacked_keep_36 (fun H locs hP hD hS => ?_)
      have hP : va_P (dC, dI) vwCl [(co, .inr (4, [.long xx, .long xreadX, .ref soa, .ref sna, .ref swa, .int xkept, .ref ri, .ref ro, .ref rw, .int xasked])), (soa, .inl (cO, 600, .inr (.inr (.inr (.inr (va_up sof xkept.toNatClampNeg (none))))))), (sna, .inl (cI, 600, .inl (upd snf xkept.toNatClampNeg nb))), (swa, .inl (cI, 600, .inl swf))] H := hP
      have hD : va_D A [(co, .inr (4, [.long xx, .long xreadX, .ref soa, .ref sna, .ref swa, .int xkept, .ref ri, .ref ro, .ref rw, .int xasked])), (soa, .inl (cO, 600, .inr (.inr (.inr (.inr (va_up sof xkept.toNatClampNeg (none))))))), (sna, .inl (cI, 600, .inl (upd snf xkept.toNatClampNeg nb))), (swa, .inl (cI, 600, .inl swf))] := hD
      refine lv_aload_n hx hb d_Stacked_keep_37 rfl (lv_at hl 0 rfl) ?_
      refine va_get (D := (dC, dI)) (ci := 4) (v := .ref swa) (C := "RangeCoders$Stack") (T := T_Stack) (N := 10) hx hb hg in_Stack hown hK hP 0 rfl rfl 4 (by decide) (hg _ k222) (fun _ h9 => h9) rfl d_Stacked_keep_38 ?_
      refine lv_aload_n hx hb d_Stacked_keep_41 rfl (lv_at hl 0 rfl) ?_
      refine va_get (D := (dC, dI)) (ci := 4) (v := .int xkept) (C := "RangeCoders$Stack") (T := T_Stack) (N := 10) hx hb hg in_Stack hown hK hP 0 rfl rfl 5 (by decide) (hg _ k223) (fun _ h9 => h9) rfl d_Stacked_keep_42 ?_
      refine lv_iload_n hx hb d_Stacked_keep_45 rfl (lv_at hl 3 rfl) ?_
      refine va_iast hx hb hK hP hD hS 3 0 rfl rfl (by first | assumption | exact I_in (by omega) (by assumption) (by assumption) | exact I_in' (by omega) (by assumption) (by assumption)) d_Stacked_keep_46 (fun H locs hP hD hS => ?_)
      have hP : va_P (dC, dI) vwCl [(co, .inr (4, [.long xx, .long xreadX, .ref soa, .ref sna, .ref swa, .int xkept, .ref ri, .ref ro, .ref rw, .int xasked])), (soa, .inl (cO, 600, .inr (.inr (.inr (.inr (va_up sof xkept.toNatClampNeg (none))))))), (sna, .inl (cI, 600, .inl (upd snf xkept.toNatClampNeg nb))), (swa, .inl (cI, 600, .inl (upd swf xkept.toNatClampNeg wd)))] H := hP
      have hD : va_D A [(co, .inr (4, [.long xx, .long xreadX, .ref soa, .ref sna, .ref swa, .int xkept, .ref ri, .ref ro, .ref rw, .int xasked])), (soa, .inl (cO, 600, .inr (.inr (.inr (.inr (va_up sof xkept.toNatClampNeg (none))))))), (sna, .inl (cI, 600, .inl (upd snf xkept.toNatClampNeg nb))), (swa, .inl (cI, 600, .inl (upd swf xkept.toNatClampNeg wd)))] := hD
      refine lv_aload_n hx hb d_Stacked_keep_47 rfl (lv_at hl 0 rfl) ?_
      refine lv_dup hx hb d_Stacked_keep_48 rfl ?_
      refine va_get (D := (dC, dI)) (ci := 4) (v := .int xkept) (C := "RangeCoders$Stack") (T := T_Stack) (N := 10) hx hb hg in_Stack hown hK hP 0 rfl rfl 5 (by decide) (hg _ k223) (fun _ h9 => h9) rfl d_Stacked_keep_49 ?_
      refine lv_iconst (v := 1) hx hb d_Stacked_keep_52 (by decide) ?_
      refine lv_iadd hx hb d_Stacked_keep_53 ?_
      refine lv_topi (fun v_3 ev_3 => ?_)
      refine va_put (D := (dC, dI)) (ci := 4) (v := .int v_3) (ty := .int) (C := "RangeCoders$Stack") (T := T_Stack) (N := 10) hx hb hg in_Stack t_Stack o_Stack n_Stack hown hK hP hD hS 0 rfl rfl 5 (by decide) (hg _ k223) (fun _ h9 => h9) rfl (by decide +kernel) rfl rfl (Nat.le_of_ble_eq_true rfl) d_Stacked_keep_54 (fun H locs hP hD hS => ?_)
      have hP : va_P (dC, dI) vwCl [(co, .inr (4, [.long xx, .long xreadX, .ref soa, .ref sna, .ref swa, .int v_3, .ref ri, .ref ro, .ref rw, .int xasked])), (soa, .inl (cO, 600, .inr (.inr (.inr (.inr (va_up sof xkept.toNatClampNeg (none))))))), (sna, .inl (cI, 600, .inl (upd snf xkept.toNatClampNeg nb))), (swa, .inl (cI, 600, .inl (upd swf xkept.toNatClampNeg wd)))] H := hP
      have hD : va_D A [(co, .inr (4, [.long xx, .long xreadX, .ref soa, .ref sna, .ref swa, .int v_3, .ref ri, .ref ro, .ref rw, .int xasked])), (soa, .inl (cO, 600, .inr (.inr (.inr (.inr (va_up sof xkept.toNatClampNeg (none))))))), (sna, .inl (cI, 600, .inl (upd snf xkept.toNatClampNeg nb))), (swa, .inl (cI, 600, .inl (upd swf xkept.toNatClampNeg wd)))] := hD
      exact my_vret hx hb hr hlocks hQ hK hS (Nat.le_refl _) (Nat.le_refl _) (v_3, va_up sof xkept.toNatClampNeg (none), upd snf xkept.toNatClampNeg nb, upd swf xkept.toNatClampNeg wd) (⟨by first | assumption | exact I_up0 hkp0 (by assumption) (by assumption), by first | assumption | exact fun _ => Or.inl rfl | exact va_up_or _ _ _⟩) (hP.sub [0, 1, 2, 3] rfl) (hD.sub [0, 1, 2, 3] (by decide) rfl) d_Stacked_keep_57
set_option maxHeartbeats 2000000 in
set_option maxRecDepth 100000 in
theorem c_Stack_Stacked_writeSign (l : Launch) (dC : Nat → ClassId) (dI : Nat → Nat → Nat) (cI cM cO : ClassId) (sz : Nat) (co : Nat) (xx : Int64) (xreadX : Int64) (soa : Nat) (sna : Nat) (swa : Nat) (xkept : Int32) (ri : Nat) (ro : Nat) (rw : Nat) (xasked : Int32) (sof : Nat → Option Nat) (snf : Nat → Int32) (swf : Nat → Int32) (oo : Nat) (osg : Int32) (osm : Int32) (ofc : Int32) (oca : Nat) (opa : Nat) (ol : Nat) (ocf : Nat → Int32) (opl : Nat) (opf : Nat → Int32) (ii : Int32) (hol : ol ≤ 64) (hopl : opl ≤ 512) (hkp0 : 0 ≤ xkept.toInt) : MetV l y_Stacked_writeSign (Cond.code y_Stacked_writeSign prog_11_method_7_code 3 none :: gw) ({ frames := 1, cells := 0, slots := 0, locals := 23 } : Room) (dC, dI) vwCl (kT cI cM cO) [.ref co, .ref oo, .int ii] [(co, .inr (4, [.long xx, .long xreadX, .ref soa, .ref sna, .ref swa, .int xkept, .ref ri, .ref ro, .ref rw, .int xasked])), (soa, .inl (cO, 600, .inr (.inr (.inr (.inr sof))))), (sna, .inl (cI, 600, .inl snf)), (swa, .inl (cI, 600, .inl swf)), (oo, .inr (7, [.int osg, .int osm, .int ofc, .ref oca, .ref opa])), (oca, .inl (cI, ol, .inl ocf)), (opa, .inl (cI, opl, .inl opf))] sz (fun (u : Int32 × (Nat → Option Nat) × (Nat → Int32) × (Nat → Int32)) => 0 ≤ u.1.toInt ∧ ∀ i, u.2.1 i = sof i ∨ u.2.1 i = some oo) (fun (u : Int32 × (Nat → Option Nat) × (Nat → Int32) × (Nat → Int32)) => [(co, .inr (4, [.long xx, .long xreadX, .ref soa, .ref sna, .ref swa, .int u.1, .ref ri, .ref ro, .ref rw, .int xasked])), (soa, .inl (cO, 600, .inr (.inr (.inr (.inr u.2.1))))), (sna, .inl (cI, 600, .inl u.2.2.1)), (swa, .inl (cI, 600, .inl u.2.2.2)), (oo, .inr (7, [.int osg, .int osm, .int ofc, .ref oca, .ref opa])), (oca, .inl (cI, ol, .inl ocf)), (opa, .inl (cI, opl, .inl opf))]) 0 0 := by
  refine my_ofV (cc := prog_11_method_7_code) (n := 3) (ret := none) (by decide) rfl (Nat.le_of_ble_eq_true rfl) ?_
  intro p e s m args below meth c R Q A ls H locs hx hb hr hts hown hlocks hml hnm hR hQ hA hl hP hK hN hD hS
  have hg : ∀ w ∈ gw, w.before args s = true := fun w h => hts w (List.mem_cons_of_mem _ h)
  have hown : s.vm.findClass "RangeCoders$Stacked" = some m.cls := hown
  have hl : lv_has ls 3 [(0, .ref co), (1, .ref oo), (2, .int ii)] := hl
  refine lv_aload_n hx hb d_Stacked_writeSign_0 rfl (lv_at hl 0 rfl) ?_
  refine lv_aload_n hx hb d_Stacked_writeSign_1 rfl (lv_at hl 1 rfl) ?_
  refine lv_iload_n hx hb d_Stacked_writeSign_2 rfl (lv_at hl 2 rfl) ?_
  refine lv_iconst (v := 0) hx hb d_Stacked_writeSign_3 (by decide) ?_
  refine my_cv (wr := []) (va_runU (As := [.ref oo, .int ii, .int 0]) (rest := []) ⟨hx, hb, hml, hown, hts⟩ (c_Stack_Stacked_keep l dC dI cI cM cO H.size co xx xreadX soa sna swa xkept ri ro rw xasked sof snf swf oo osg osm ofc oca opa ol ocf opl opf ii 0 (by first | assumption | omega) (by first | assumption | omega) (by first | assumption | omega)) (va_cwU 3 hts (my_gU k534 k1286 kx2 k536 k9 k537) rfl rfl rfl rfl (by decide +kernel) ⟨by rw [hR]; exact Nat.le_of_ble_eq_true rfl, by rw [hR]; exact Nat.le_of_ble_eq_true rfl⟩) (my_preV hK hN (hP.sub [0, 1, 2, 3, 4, 5, 6] rfl) (hD.sub [0, 1, 2, 3, 4, 5, 6] (by decide) rfl) 0 rfl rfl) rfl rfl hl.1 rfl (lv_room (Nat.le_of_ble_eq_true rfl)) d_Stacked_writeSign_4 ⟨by rw [hR]; exact Nat.le_of_ble_eq_true rfl, by rw [hR]; exact Nat.le_of_ble_eq_true rfl⟩) hP hD hS hA [0, 1, 2, 3, 4, 5, 6] [] rfl rfl (by decide) (by decide) (fun u9 H locs hw_4 hP hD hS => ?_)
  obtain ⟨xkeptq_4, sofq_4, snfq_4, swfq_4⟩ := u9
  obtain ⟨hkp_4, hso_4⟩ : 0 ≤ xkeptq_4.toInt ∧ ∀ i, sofq_4 i = sof i ∨ sofq_4 i = some oo := hw_4
  have hP : va_P (dC, dI) vwCl [(co, .inr (4, [.long xx, .long xreadX, .ref soa, .ref sna, .ref swa, .int xkeptq_4, .ref ri, .ref ro, .ref rw, .int xasked])), (soa, .inl (cO, 600, .inr (.inr (.inr (.inr sofq_4))))), (sna, .inl (cI, 600, .inl snfq_4)), (swa, .inl (cI, 600, .inl swfq_4)), (oo, .inr (7, [.int osg, .int osm, .int ofc, .ref oca, .ref opa])), (oca, .inl (cI, ol, .inl ocf)), (opa, .inl (cI, opl, .inl opf))] H := hP
  have hD : va_D A [(co, .inr (4, [.long xx, .long xreadX, .ref soa, .ref sna, .ref swa, .int xkeptq_4, .ref ri, .ref ro, .ref rw, .int xasked])), (soa, .inl (cO, 600, .inr (.inr (.inr (.inr sofq_4))))), (sna, .inl (cI, 600, .inl snfq_4)), (swa, .inl (cI, 600, .inl swfq_4)), (oo, .inr (7, [.int osg, .int osm, .int ofc, .ref oca, .ref opa])), (oca, .inl (cI, ol, .inl ocf)), (opa, .inl (cI, opl, .inl opf))] := hD
  exact my_vret hx hb hr hlocks hQ hK hS (Nat.le_refl _) (Nat.le_refl _) (xkeptq_4, sofq_4, snfq_4, swfq_4) (⟨by first | assumption | (subst_vars; assumption), by first | assumption | exact fun _ => Or.inl rfl | exact va_up_or _ _ _⟩) (hP.sub [0, 1, 2, 3, 4, 5, 6] rfl) (hD.sub [0, 1, 2, 3, 4, 5, 6] (by decide) rfl) d_Stacked_writeSign_7
set_option maxHeartbeats 2000000 in
set_option maxRecDepth 100000 in
theorem c_Stack_Stacked_writeValue (l : Launch) (dC : Nat → ClassId) (dI : Nat → Nat → Nat) (cI cM cO : ClassId) (sz : Nat) (co : Nat) (xx : Int64) (xreadX : Int64) (soa : Nat) (sna : Nat) (swa : Nat) (xkept : Int32) (ri : Nat) (ro : Nat) (rw : Nat) (xasked : Int32) (sof : Nat → Option Nat) (snf : Nat → Int32) (swf : Nat → Int32) (vv : Int32) (wd : Int32) (hkp0 : 0 ≤ xkept.toInt) : MetV l y_Stacked_writeValue (Cond.code y_Stacked_writeValue prog_11_method_8_code 3 none :: gw) ({ frames := 1, cells := 0, slots := 0, locals := 23 } : Room) (dC, dI) vwCl (kT cI cM cO) [.ref co, .int vv, .int wd] [(co, .inr (4, [.long xx, .long xreadX, .ref soa, .ref sna, .ref swa, .int xkept, .ref ri, .ref ro, .ref rw, .int xasked])), (soa, .inl (cO, 600, .inr (.inr (.inr (.inr sof))))), (sna, .inl (cI, 600, .inl snf)), (swa, .inl (cI, 600, .inl swf))] sz (fun (u : Int32 × (Nat → Option Nat) × (Nat → Int32) × (Nat → Int32)) => 0 ≤ u.1.toInt ∧ ∀ i, u.2.1 i = sof i ∨ u.2.1 i = none) (fun (u : Int32 × (Nat → Option Nat) × (Nat → Int32) × (Nat → Int32)) => [(co, .inr (4, [.long xx, .long xreadX, .ref soa, .ref sna, .ref swa, .int u.1, .ref ri, .ref ro, .ref rw, .int xasked])), (soa, .inl (cO, 600, .inr (.inr (.inr (.inr u.2.1))))), (sna, .inl (cI, 600, .inl u.2.2.1)), (swa, .inl (cI, 600, .inl u.2.2.2))]) 0 0 := by
  refine my_ofV (cc := prog_11_method_8_code) (n := 3) (ret := none) (by decide) rfl (Nat.le_of_ble_eq_true rfl) ?_
  intro p e s m args below meth c R Q A ls H locs hx hb hr hts hown hlocks hml hnm hR hQ hA hl hP hK hN hD hS
  have hg : ∀ w ∈ gw, w.before args s = true := fun w h => hts w (List.mem_cons_of_mem _ h)
  have hown : s.vm.findClass "RangeCoders$Stacked" = some m.cls := hown
  have hl : lv_has ls 3 [(0, .ref co), (1, .int vv), (2, .int wd)] := hl
  refine lv_aload_n hx hb d_Stacked_writeValue_0 rfl (lv_at hl 0 rfl) ?_
  refine lv_null hx hb d_Stacked_writeValue_1 ?_
  refine lv_iload_n hx hb d_Stacked_writeValue_2 rfl (lv_at hl 1 rfl) ?_
  refine lv_iload_n hx hb d_Stacked_writeValue_3 rfl (lv_at hl 2 rfl) ?_
  refine my_cv (wr := []) (va_runU (As := [.null, .int vv, .int wd]) (rest := []) ⟨hx, hb, hml, hown, hts⟩ (c_Stack_Stacked_keepN l dC dI cI cM cO H.size co xx xreadX soa sna swa xkept ri ro rw xasked sof snf swf vv wd (by first | assumption | omega)) (va_cwU 3 hts (my_gU k534 k1286 kx2 k536 k9 k537) rfl rfl rfl rfl (by decide +kernel) ⟨by rw [hR]; exact Nat.le_of_ble_eq_true rfl, by rw [hR]; exact Nat.le_of_ble_eq_true rfl⟩) (my_preV hK hN (hP.sub [0, 1, 2, 3] rfl) (hD.sub [0, 1, 2, 3] (by decide) rfl) 0 rfl rfl) rfl rfl hl.1 rfl (lv_room (Nat.le_of_ble_eq_true rfl)) d_Stacked_writeValue_4 ⟨by rw [hR]; exact Nat.le_of_ble_eq_true rfl, by rw [hR]; exact Nat.le_of_ble_eq_true rfl⟩) hP hD hS hA [0, 1, 2, 3] [] rfl rfl (by decide) (by decide) (fun u9 H locs hw_4 hP hD hS => ?_)
  obtain ⟨xkeptq_4, sofq_4, snfq_4, swfq_4⟩ := u9
  obtain ⟨hkp_4, hso_4⟩ : 0 ≤ xkeptq_4.toInt ∧ ∀ i, sofq_4 i = sof i ∨ sofq_4 i = none := hw_4
  have hP : va_P (dC, dI) vwCl [(co, .inr (4, [.long xx, .long xreadX, .ref soa, .ref sna, .ref swa, .int xkeptq_4, .ref ri, .ref ro, .ref rw, .int xasked])), (soa, .inl (cO, 600, .inr (.inr (.inr (.inr sofq_4))))), (sna, .inl (cI, 600, .inl snfq_4)), (swa, .inl (cI, 600, .inl swfq_4))] H := hP
  have hD : va_D A [(co, .inr (4, [.long xx, .long xreadX, .ref soa, .ref sna, .ref swa, .int xkeptq_4, .ref ri, .ref ro, .ref rw, .int xasked])), (soa, .inl (cO, 600, .inr (.inr (.inr (.inr sofq_4))))), (sna, .inl (cI, 600, .inl snfq_4)), (swa, .inl (cI, 600, .inl swfq_4))] := hD
  exact my_vret hx hb hr hlocks hQ hK hS (Nat.le_refl _) (Nat.le_refl _) (xkeptq_4, sofq_4, snfq_4, swfq_4) (⟨by first | assumption | (subst_vars; assumption), by first | assumption | exact fun _ => Or.inl rfl | exact va_up_or _ _ _⟩) (hP.sub [0, 1, 2, 3] rfl) (hD.sub [0, 1, 2, 3] (by decide) rfl) d_Stacked_writeValue_7
