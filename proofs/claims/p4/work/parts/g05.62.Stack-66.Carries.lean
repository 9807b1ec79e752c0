section
set_option maxHeartbeats 2000000 in
set_option maxRecDepth 100000 in
theorem c_Stack_Coder_nextByte (l : Launch) (dC : Nat → ClassId) (dI : Nat → Nat → Nat) (cI cM cO : ClassId) (sz : Nat) (co : Nat) (xx : Int64) (xreadX : Int64) (soa : Nat) (sna : Nat) (swa : Nat) (xkept : Int32) (ri : Nat) (ro : Nat) (rw : Nat) (xasked : Int32) (rin : Int32) (ria : Nat) (rik : Nat) (rif : Nat → Int32) (hri : rOk rin rik) : MetI l y_Coder_nextByte (Cond.code y_Coder_nextByte prog_4_method_15_code 2 (some .int) :: gw) ({ frames := 2, cells := 0, slots := 0, locals := 42 } : Room) (dC, dI) vwCl (kT cI cM cO) [Value.ref co] [(co, Sum.inr (4, [Value.long xx, Value.long xreadX, Value.ref soa, Value.ref sna, Value.ref swa, Value.int xkept, Value.ref ri, Value.ref ro, Value.ref rw, Value.int xasked])), (ri, Sum.inr (0, [Value.int rin, Value.ref ria])), (ria, Sum.inl (cI, rik, Sum.inl rif))] sz (fun (r : Int32) (u : Int32) => True) (fun (u : Int32) => [(co, Sum.inr (4, [Value.long xx, Value.long xreadX, Value.ref soa, Value.ref sna, Value.ref swa, Value.int xkept, Value.ref ri, Value.ref ro, Value.ref rw, Value.int u])), (ri, Sum.inr (0, [Value.int rin, Value.ref ria])), (ria, Sum.inl (cI, rik, Sum.inl rif))]) 0 0 := by
  refine my_ofI (cc := prog_4_method_15_code) (n := 2) (ret := (some .int)) (by decide) rfl (Nat.le_of_ble_eq_true rfl) ?_
  intro p e s m args below meth c R Q A ls H locs hx hb hr hts hown hlocks hml hnm hR hQ hA hl hP hK hN hD hS
  have hg : ∀ w ∈ gw, w.before args s = true := fun w h => hts w (List.mem_cons_of_mem _ h)
  have hown : s.vm.findClass "RangeCoders$Coder" = some m.cls := hown
  have hl : lv_has ls 2 [(0, Value.ref co)] := hl
  have hlt_hri := rOk_lt hri
  refine lv_aload_n hx hb d_Coder_nextByte_0 rfl (lv_at hl 0 rfl) ?_
  refine va_get (D := (dC, dI)) (ci := 4) (v := .ref ri) (C := "RangeCoders$Stack") (T := T_Stack) (N := 10) hx hb hg in_Stack hown hK hP 0 rfl rfl 6 (by decide) (hg _ k101) (fun _ h9 => h9) rfl d_Coder_nextByte_1 ?_
  refine lv_aload_n hx hb d_Coder_nextByte_4 rfl (lv_at hl 0 rfl) ?_
  refine va_get (D := (dC, dI)) (ci := 4) (v := .int xasked) (C := "RangeCoders$Stack") (T := T_Stack) (N := 10) hx hb hg in_Stack hown hK hP 0 rfl rfl 9 (by decide) (hg _ k130) (fun _ h9 => h9) rfl d_Coder_nextByte_5 ?_
  refine my_ci (wr := [(co, Sum.inr (4, [Value.long xx, Value.long xreadX, Value.ref soa, Value.ref sna, Value.ref swa, Value.int xkept, Value.ref ri, Value.ref ro, Value.ref rw, Value.int xasked]))]) (va_runV (As := [Value.int xasked]) (rest := []) ⟨hx, hb, hml, hown, hts⟩ (c_Row_has l dC dI cI cM cO H.size ri rin ria rik rif xasked (by first | assumption | omega)) (cwV 1 hts (my_gV k750 k663 k664 k6 k665) rfl rfl rfl cu_Row_has_1 ⟨by rw [hR]; exact Nat.le_of_ble_eq_true rfl, by rw [hR]; exact Nat.le_of_ble_eq_true rfl⟩) (my_preV hK hN (hP.sub [1, 2] rfl) (hD.sub [1, 2] (by decide +kernel) rfl) 0 rfl rfl) rfl rfl hl.1 rfl (lv_room (Nat.le_of_ble_eq_true rfl)) d_Coder_nextByte_8 ⟨by rw [hR]; exact Nat.le_of_ble_eq_true rfl, by rw [hR]; exact Nat.le_of_ble_eq_true rfl⟩) hP hD hS hA [1, 2] [0] rfl rfl (by decide +kernel) (by decide +kernel) (fun r_8 u9 H locs hw_8 hP hD hS => ?_)
  have hr_8 : r_8 ≠ 0 → vp_in xasked rik := hw_8
  have hPD : my_PD (dC, dI) vwCl A [(co, Sum.inr (4, [Value.long xx, Value.long xreadX, Value.ref soa, Value.ref sna, Value.ref swa, Value.int xkept, Value.ref ri, Value.ref ro, Value.ref rw, Value.int xasked])), (ri, Sum.inr (0, [Value.int rin, Value.ref ria])), (ria, Sum.inl (cI, rik, Sum.inl rif))] H := ⟨hP, hD⟩
  have hP := hPD.1
  have hD := hPD.2
  refine lv_if_eq (tgt := 28) hx hb d_Coder_nextByte_11 (by decide) (fun c_1 => ?_) (fun c_1 => ?_)
  · refine lv_iconst (v := 0) hx hb d_Coder_nextByte_28 (by decide) ?_
    refine lv_istore_n (lv' := [(1, Value.int 0), (0, Value.ref co)]) hx hb d_Coder_nextByte_29 rfl hl (by decide) rfl (fun ls hl => ?_)
    refine lv_aload_n hx hb d_Coder_nextByte_30 rfl (lv_at hl 1 rfl) ?_
    refine lv_dup hx hb d_Coder_nextByte_31 rfl ?_
    refine va_get (D := (dC, dI)) (ci := 4) (v := .int xasked) (C := "RangeCoders$Stack") (T := T_Stack) (N := 10) hx hb hg in_Stack hown hK hP 0 rfl rfl 9 (by decide) (hg _ k130) (fun _ h9 => h9) rfl d_Coder_nextByte_32 ?_
    refine lv_iconst (v := 1) hx hb d_Coder_nextByte_35 (by decide) ?_
    refine lv_iadd hx hb d_Coder_nextByte_36 ?_
    refine lv_topi (fun v_2 ev_2 => ?_)
    refine va_put (D := (dC, dI)) (ci := 4) (v := .int v_2) (ty := .int) (C := "RangeCoders$Stack") (T := T_Stack) (N := 10) hx hb hg in_Stack t_Stack o_Stack n_Stack hown hK hP hD hS 0 rfl rfl 9 (by decide) (hg _ k130) (fun _ h9 => h9) rfl (o_Stack 9 (by decide)) rfl rfl (Nat.le_of_ble_eq_true rfl) d_Coder_nextByte_37 (fun H locs hP hD hS => ?_)
    have hPD : my_PD (dC, dI) vwCl A [(co, Sum.inr (4, [Value.long xx, Value.long xreadX, Value.ref soa, Value.ref sna, Value.ref swa, Value.int xkept, Value.ref ri, Value.ref ro, Value.ref rw, Value.int v_2])), (ri, Sum.inr (0, [Value.int rin, Value.ref ria])), (ria, Sum.inl (cI, rik, Sum.inl rif))] H := ⟨hP, hD⟩
    have hP := hPD.1
    have hD := hPD.2
    refine lv_iload_n hx hb d_Coder_nextByte_40 rfl (lv_at hl 0 rfl) ?_
    exact my_iret (v := 0) hx hb hr (rfl) hlocks hQ hK hS (Nat.le_refl _) (Nat.le_refl _) (v_2) (trivial) (hP.sub [0, 1, 2] rfl) (hD.sub [0, 1, 2] (by decide +kernel) rfl) d_Coder_nextByte_41
  · refine lv_aload_n hx hb d_Coder_nextByte_14 rfl (lv_at hl 0 rfl) ?_
    refine va_get (D := (dC, dI)) (ci := 4) (v := .ref ri) (C := "RangeCoders$Stack") (T := T_Stack) (N := 10) hx hb hg in_Stack hown hK hP 0 rfl rfl 6 (by decide) (hg _ k101) (fun _ h9 => h9) rfl d_Coder_nextByte_15 ?_
    refine lv_aload_n hx hb d_Coder_nextByte_18 rfl (lv_at hl 0 rfl) ?_
    refine va_get (D := (dC, dI)) (ci := 4) (v := .int xasked) (C := "RangeCoders$Stack") (T := T_Stack) (N := 10) hx hb hg in_Stack hown hK hP 0 rfl rfl 9 (by decide) (hg _ k130) (fun _ h9 => h9) rfl d_Coder_nextByte_19 ?_
    refine my_ci (wr := [(co, Sum.inr (4, [Value.long xx, Value.long xreadX, Value.ref soa, Value.ref sna, Value.ref swa, Value.int xkept, Value.ref ri, Value.ref ro, Value.ref rw, Value.int xasked]))]) (va_runV (As := [Value.int xasked]) (rest := []) ⟨hx, hb, hml, hown, hts⟩ (c_Row_at l dC dI cI cM cO H.size ri rin ria rik rif xasked (by first | assumption | omega)) (cwV 1 hts (my_gV k751 k659 k660 k6 k661) rfl rfl rfl cu_Row_at_1 ⟨by rw [hR]; exact Nat.le_of_ble_eq_true rfl, by rw [hR]; exact Nat.le_of_ble_eq_true rfl⟩) (my_preV hK hN (hP.sub [1, 2] rfl) (hD.sub [1, 2] (by decide +kernel) rfl) 0 rfl rfl) rfl rfl hl.1 rfl (lv_room (Nat.le_of_ble_eq_true rfl)) d_Coder_nextByte_22 ⟨by rw [hR]; exact Nat.le_of_ble_eq_true rfl, by rw [hR]; exact Nat.le_of_ble_eq_true rfl⟩) hP hD hS hA [1, 2] [0] rfl rfl (by decide +kernel) (by decide +kernel) (fun r_22 u9 H locs hw_22 hP hD hS => ?_)
    have hPD : my_PD (dC, dI) vwCl A [(co, Sum.inr (4, [Value.long xx, Value.long xreadX, Value.ref soa, Value.ref sna, Value.ref swa, Value.int xkept, Value.ref ri, Value.ref ro, Value.ref rw, Value.int xasked])), (ri, Sum.inr (0, [Value.int rin, Value.ref ria])), (ria, Sum.inl (cI, rik, Sum.inl rif))] H := ⟨hP, hD⟩
    have hP := hPD.1
    have hD := hPD.2
    refine lv_goto (tgt := 29) hx hb d_Coder_nextByte_25 (by decide) ?_
    refine lv_istore_n (lv' := [(1, Value.int r_22), (0, Value.ref co)]) hx hb d_Coder_nextByte_29 rfl hl (by decide) rfl (fun ls hl => ?_)
    refine lv_aload_n hx hb d_Coder_nextByte_30 rfl (lv_at hl 1 rfl) ?_
    refine lv_dup hx hb d_Coder_nextByte_31 rfl ?_
    refine va_get (D := (dC, dI)) (ci := 4) (v := .int xasked) (C := "RangeCoders$Stack") (T := T_Stack) (N := 10) hx hb hg in_Stack hown hK hP 0 rfl rfl 9 (by decide) (hg _ k130) (fun _ h9 => h9) rfl d_Coder_nextByte_32 ?_
    refine lv_iconst (v := 1) hx hb d_Coder_nextByte_35 (by decide) ?_
    refine lv_iadd hx hb d_Coder_nextByte_36 ?_
    refine lv_topi (fun v_3 ev_3 => ?_)
    refine va_put (D := (dC, dI)) (ci := 4) (v := .int v_3) (ty := .int) (C := "RangeCoders$Stack") (T := T_Stack) (N := 10) hx hb hg in_Stack t_Stack o_Stack n_Stack hown hK hP hD hS 0 rfl rfl 9 (by decide) (hg _ k130) (fun _ h9 => h9) rfl (o_Stack 9 (by decide)) rfl rfl (Nat.le_of_ble_eq_true rfl) d_Coder_nextByte_37 (fun H locs hP hD hS => ?_)
    have hPD : my_PD (dC, dI) vwCl A [(co, Sum.inr (4, [Value.long xx, Value.long xreadX, Value.ref soa, Value.ref sna, Value.ref swa, Value.int xkept, Value.ref ri, Value.ref ro, Value.ref rw, Value.int v_3])), (ri, Sum.inr (0, [Value.int rin, Value.ref ria])), (ria, Sum.inl (cI, rik, Sum.inl rif))] H := ⟨hP, hD⟩
    have hP := hPD.1
    have hD := hPD.2
    refine lv_iload_n hx hb d_Coder_nextByte_40 rfl (lv_at hl 0 rfl) ?_
    exact my_iret (v := r_22) hx hb hr (rfl) hlocks hQ hK hS (Nat.le_refl _) (Nat.le_refl _) (v_3) (trivial) (hP.sub [0, 1, 2] rfl) (hD.sub [0, 1, 2] (by decide +kernel) rfl) d_Coder_nextByte_41
set_option maxHeartbeats 2000000 in
set_option maxRecDepth 100000 in
theorem c_Stack_Coder_firstFourBytes (l : Launch) (dC : Nat → ClassId) (dI : Nat → Nat → Nat) (cI cM cO : ClassId) (sz : Nat) (co : Nat) (xx : Int64) (xreadX : Int64) (soa : Nat) (sna : Nat) (swa : Nat) (xkept : Int32) (ri : Nat) (ro : Nat) (rw : Nat) (xasked : Int32) (rin : Int32) (ria : Nat) (rik : Nat) (rif : Nat → Int32) (hri : rOk rin rik) : MetL l y_Coder_firstFourBytes (Cond.code y_Coder_firstFourBytes prog_4_method_16_code 4 (some .long) :: gw) ({ frames := 3, cells := 0, slots := 0, locals := 63 } : Room) (dC, dI) vwCl (kT cI cM cO) [Value.ref co] [(co, Sum.inr (4, [Value.long xx, Value.long xreadX, Value.ref soa, Value.ref sna, Value.ref swa, Value.int xkept, Value.ref ri, Value.ref ro, Value.ref rw, Value.int xasked])), (ri, Sum.inr (0, [Value.int rin, Value.ref ria])), (ria, Sum.inl (cI, rik, Sum.inl rif))] sz (fun (r : Int64) (u : Int32) => True) (fun (u : Int32) => [(co, Sum.inr (4, [Value.long xx, Value.long xreadX, Value.ref soa, Value.ref sna, Value.ref swa, Value.int xkept, Value.ref ri, Value.ref ro, Value.ref rw, Value.int u])), (ri, Sum.inr (0, [Value.int rin, Value.ref ria])), (ria, Sum.inl (cI, rik, Sum.inl rif))]) 0 0 := by
  refine my_ofL (cc := prog_4_method_16_code) (n := 4) (ret := (some .long)) (by decide) rfl (Nat.le_of_ble_eq_true rfl) ?_
  intro p e s m args below meth c R Q A ls H locs hx hb hr hts hown hlocks hml hnm hR hQ hA hl hP hK hN hD hS
  have hg : ∀ w ∈ gw, w.before args s = true := fun w h => hts w (List.mem_cons_of_mem _ h)
  have hown : s.vm.findClass "RangeCoders$Coder" = some m.cls := hown
  have hl : lv_has ls 4 [(0, Value.ref co)] := hl
  have hlt_hri := rOk_lt hri
  refine lv_aload_n hx hb d_Coder_firstFourBytes_0 rfl (lv_at hl 0 rfl) ?_
  refine lv_iconst (v := 0) hx hb d_Coder_firstFourBytes_1 (by decide) ?_
  refine va_put (D := (dC, dI)) (ci := 4) (v := .int 0) (ty := .int) (C := "RangeCoders$Stack") (T := T_Stack) (N := 10) hx hb hg in_Stack t_Stack o_Stack n_Stack hown hK hP hD hS 0 rfl rfl 9 (by decide) (hg _ k130) (fun _ h9 => h9) rfl (o_Stack 9 (by decide)) rfl rfl (Nat.le_of_ble_eq_true rfl) d_Coder_firstFourBytes_2 (fun H locs hP hD hS => ?_)
  have hPD : my_PD (dC, dI) vwCl A [(co, Sum.inr (4, [Value.long xx, Value.long xreadX, Value.ref soa, Value.ref sna, Value.ref swa, Value.int xkept, Value.ref ri, Value.ref ro, Value.ref rw, Value.int 0])), (ri, Sum.inr (0, [Value.int rin, Value.ref ria])), (ria, Sum.inl (cI, rik, Sum.inl rif))] H := ⟨hP, hD⟩
  have hP := hPD.1
  have hD := hPD.2
  refine lv_lconst (v := 0) hx hb d_Coder_firstFourBytes_5 (by decide) ?_
  refine lv_lstore_n (lv' := [(1, Value.long 0), (0, Value.ref co)]) hx hb d_Coder_firstFourBytes_6 rfl hl (by decide) rfl (fun ls hl => ?_)
  refine lv_iconst (v := 0) hx hb d_Coder_firstFourBytes_7 (by decide) ?_
  refine lv_istore_n (lv' := [(3, Value.int 0), (1, Value.long 0), (0, Value.ref co)]) hx hb d_Coder_firstFourBytes_8 rfl hl (by decide) rfl (fun ls hl => ?_)
  have J_9 : ∀ (n9_9 : Nat) (b9_0 : Int32) (b9_1 : Int64) (b9_2 : Int32) (hn9_9 : ((4 : Int32).toInt - b9_0.toInt).toNat = n9_9) (hi_9 : 0 ≤ b9_0.toInt) (H : Heap) (locs : List Loc) (ls : Array Slot), va_P (dC, dI) vwCl [(co, Sum.inr (4, [Value.long xx, Value.long xreadX, Value.ref soa, Value.ref sna, Value.ref swa, Value.int xkept, Value.ref ri, Value.ref ro, Value.ref rw, Value.int b9_2])), (ri, Sum.inr (0, [Value.int rin, Value.ref ria])), (ria, Sum.inl (cI, rik, Sum.inl rif))] H → va_D A [(co, Sum.inr (4, [Value.long xx, Value.long xreadX, Value.ref soa, Value.ref sna, Value.ref swa, Value.int xkept, Value.ref ri, Value.ref ro, Value.ref rw, Value.int b9_2])), (ri, Sum.inr (0, [Value.int rin, Value.ref ria])), (ria, Sum.inl (cI, rik, Sum.inl rif))] → va_S A s.heap H locs → lv_has ls 4 [(3, Value.int b9_0), (1, Value.long b9_1), (0, Value.ref co)] → W p l e R s m args below meth c H locs 0 0 Q (F0 m 9 ls []) := by
    intro n9_9
    induction n9_9 using Nat.strongRecOn with
    | ind n9_9 ih9_9 =>
      intro b9_0 b9_1 b9_2 hn9_9 hi_9 H locs ls hP hD hS hl
      refine lv_iload_n hx hb d_Coder_firstFourBytes_9 rfl (lv_at hl 0 rfl) ?_
      refine lv_iconst (v := 4) hx hb d_Coder_firstFourBytes_10 (by decide) ?_
      refine lv_icmp_ge (tgt := 31) hx hb d_Coder_firstFourBytes_11 (by decide) (fun c_1 => ?_) (fun c_1 => ?_)
      · refine lv_lload_n hx hb d_Coder_firstFourBytes_31 rfl (lv_at hl 1 rfl) ?_
        exact my_lret (v := b9_1) hx hb hr hlocks hQ hK hS (Nat.le_refl _) (Nat.le_refl _) (b9_2) (trivial) (hP.sub [0, 1, 2] rfl) (hD.sub [0, 1, 2] (by decide +kernel) rfl) d_Coder_firstFourBytes_32
      · refine lv_lload_n hx hb d_Coder_firstFourBytes_14 rfl (lv_at hl 1 rfl) ?_
        refine lv_bipush (v := 8) hx hb d_Coder_firstFourBytes_15 (by decide) ?_
        refine lv_lshl hx hb d_Coder_firstFourBytes_17 rfl ?_
        refine lv_topl (fun v_2 ev_2 => ?_)
        refine lv_aload_n hx hb d_Coder_firstFourBytes_18 rfl (lv_at hl 2 rfl) ?_
        refine my_ci (wr := []) (va_runU (As := []) (rest := [Value.long v_2]) ⟨hx, hb, hml, hown, hts⟩ (c_Stack_Coder_nextByte l dC dI cI cM cO H.size co xx xreadX soa sna swa xkept ri ro rw b9_2 rin ria rik rif (by first | assumption | omega)) (va_cwU 0 hts (my_gU k741 k743 k747 k742 k3 k749) rfl rfl rfl rfl (by decide +kernel) ⟨by rw [hR]; exact Nat.le_of_ble_eq_true rfl, by rw [hR]; exact Nat.le_of_ble_eq_true rfl⟩) (my_preV hK hN (hP.sub [0, 1, 2] rfl) (hD.sub [0, 1, 2] (by decide +kernel) rfl) 0 rfl rfl) rfl rfl hl.1 rfl (lv_room (Nat.le_of_ble_eq_true rfl)) d_Coder_firstFourBytes_19 ⟨by rw [hR]; exact Nat.le_of_ble_eq_true rfl, by rw [hR]; exact Nat.le_of_ble_eq_true rfl⟩) hP hD hS hA [0, 1, 2] [] rfl rfl (by decide +kernel) (by decide +kernel) (fun r_19 u9 H locs hw_19 hP hD hS => ?_)
        obtain ⟨xaskedq_19, rfl⟩ : ∃ z, z = u9 := ⟨_, rfl⟩
        have hPD : my_PD (dC, dI) vwCl A [(co, Sum.inr (4, [Value.long xx, Value.long xreadX, Value.ref soa, Value.ref sna, Value.ref swa, Value.int xkept, Value.ref ri, Value.ref ro, Value.ref rw, Value.int xaskedq_19])), (ri, Sum.inr (0, [Value.int rin, Value.ref ria])), (ria, Sum.inl (cI, rik, Sum.inl rif))] H := ⟨hP, hD⟩
        have hP := hPD.1
        have hD := hPD.2
        refine lv_i2l hx hb d_Coder_firstFourBytes_22 rfl ?_
        refine lv_topl (fun v_3 ev_3 => ?_)
        refine lv_lor hx hb d_Coder_firstFourBytes_23 ?_
        refine lv_topl (fun v_4 ev_4 => ?_)
        refine lv_lstore_n (lv' := [(1, Value.long v_4), (3, Value.int b9_0), (0, Value.ref co)]) hx hb d_Coder_firstFourBytes_24 rfl hl (by decide) rfl (fun ls hl => ?_)
        obtain ⟨v_5, ev_5⟩ : ∃ y : Int32, y = b9_0 + (1) := ⟨_, rfl⟩
        refine lv_iinc (v := v_5) (lv' := [(3, Value.int v_5), (1, Value.long v_4), (0, Value.ref co)]) hx hb d_Coder_firstFourBytes_25 hl (k := 1) rfl (by rw [ev_5]; rfl) (by decide) rfl (fun ls hl => ?_)
        refine lv_goto (tgt := 9) hx hb d_Coder_firstFourBytes_28 (by decide) ?_
        exact ih9_9 _ (by first | omega | (have z9 := I_up c_1 ev_5; omega)) v_5 v_4 xaskedq_19 rfl (by have z9 := I_up c_1 ev_5; omega) H locs ls (hP.sub [0, 1, 2] rfl) (hD.sub [0, 1, 2] (by decide +kernel) rfl) hS (lv_sub hl [0, 1, 2] rfl)
  exact J_9 _ (0 : Int32) (0 : Int64) (0 : Int32) rfl (by first | decide | assumption | omega) H locs ls (hP.sub [0, 1, 2] rfl) (hD.sub [0, 1, 2] (by decide +kernel) rfl) hS (lv_sub hl [0, 1, 2] rfl)
set_option maxHeartbeats 2000000 in
set_option maxRecDepth 100000 in
theorem c_Stack_Coder_hasWidth (l : Launch) (dC : Nat → ClassId) (dI : Nat → Nat → Nat) (cI cM cO : ClassId) (sz : Nat) (co : Nat) (xx : Int64) (xreadX : Int64) (soa : Nat) (sna : Nat) (swa : Nat) (xkept : Int32) (ri : Nat) (ro : Nat) (rw : Nat) (xasked : Int32) (wd : Int32) : MetI l y_Coder_hasWidth (Cond.code y_Coder_hasWidth prog_4_method_13_code 2 (some .boolean) :: gw) ({ frames := 0, cells := 0, slots := 0, locals := 0 } : Room) (dC, dI) vwCl (kT cI cM cO) [Value.ref co, Value.int wd] [(co, Sum.inr (4, [Value.long xx, Value.long xreadX, Value.ref soa, Value.ref sna, Value.ref swa, Value.int xkept, Value.ref ri, Value.ref ro, Value.ref rw, Value.int xasked]))] sz (fun (r : Int32) (u : Unit) => True) (fun (u : Unit) => [(co, Sum.inr (4, [Value.long xx, Value.long xreadX, Value.ref soa, Value.ref sna, Value.ref swa, Value.int xkept, Value.ref ri, Value.ref ro, Value.ref rw, Value.int xasked]))]) 0 0 := by
  refine my_ofI (cc := prog_4_method_13_code) (n := 2) (ret := (some .boolean)) (by decide) rfl (Nat.le_of_ble_eq_true rfl) ?_
  intro p e s m args below meth c R Q A ls H locs hx hb hr hts hown hlocks hml hnm hR hQ hA hl hP hK hN hD hS
  have hg : ∀ w ∈ gw, w.before args s = true := fun w h => hts w (List.mem_cons_of_mem _ h)
  have hown : s.vm.findClass "RangeCoders$Coder" = some m.cls := hown
  have hl : lv_has ls 2 [(0, Value.ref co), (1, Value.int wd)] := hl
  refine lv_iload_n hx hb d_Coder_hasWidth_0 rfl (lv_at hl 1 rfl) ?_
  refine lv_iconst (v := 1) hx hb d_Coder_hasWidth_1 (by decide) ?_
  refine lv_icmp_lt (tgt := 15) hx hb d_Coder_hasWidth_2 (by decide) (fun c_1 => ?_) (fun c_1 => ?_)
  · refine lv_iconst (v := 0) hx hb d_Coder_hasWidth_15 (by decide) ?_
    exact my_iret (v := 0) hx hb hr (rfl) hlocks hQ hK hS (Nat.le_refl _) (Nat.le_refl _) () (trivial) (hP.sub [0] rfl) (hD.sub [0] (by decide +kernel) rfl) d_Coder_hasWidth_16
  · refine lv_iload_n hx hb d_Coder_hasWidth_5 rfl (lv_at hl 1 rfl) ?_
    refine lv_bipush (v := 12) hx hb d_Coder_hasWidth_6 (by decide) ?_
    refine lv_icmp_gt (tgt := 15) hx hb d_Coder_hasWidth_8 (by decide) (fun c_2 => ?_) (fun c_2 => ?_)
    · refine lv_iconst (v := 0) hx hb d_Coder_hasWidth_15 (by decide) ?_
      exact my_iret (v := 0) hx hb hr (rfl) hlocks hQ hK hS (Nat.le_refl _) (Nat.le_refl _) () (trivial) (hP.sub [0] rfl) (hD.sub [0] (by decide +kernel) rfl) d_Coder_hasWidth_16
    · refine lv_iconst (v := 1) hx hb d_Coder_hasWidth_11 (by decide) ?_
      refine lv_goto (tgt := 16) hx hb d_Coder_hasWidth_12 (by decide) ?_
      exact my_iret (v := 1) hx hb hr (rfl) hlocks hQ hK hS (Nat.le_refl _) (Nat.le_refl _) () (trivial) (hP.sub [0] rfl) (hD.sub [0] (by decide +kernel) rfl) d_Coder_hasWidth_16
set_option maxHeartbeats 2000000 in
set_option maxRecDepth 100000 in
theorem c_Stack_Coder_bytesAsked (l : Launch) (dC : Nat → ClassId) (dI : Nat → Nat → Nat) (cI cM cO : ClassId) (sz : Nat) (co : Nat) (xx : Int64) (xreadX : Int64) (soa : Nat) (sna : Nat) (swa : Nat) (xkept : Int32) (ri : Nat) (ro : Nat) (rw : Nat) (xasked : Int32) : MetI l y_Coder_bytesAsked (Cond.code y_Coder_bytesAsked prog_4_method_14_code 1 (some .int) :: gw) ({ frames := 0, cells := 0, slots := 0, locals := 0 } : Room) (dC, dI) vwCl (kT cI cM cO) [Value.ref co] [(co, Sum.inr (4, [Value.long xx, Value.long xreadX, Value.ref soa, Value.ref sna, Value.ref swa, Value.int xkept, Value.ref ri, Value.ref ro, Value.ref rw, Value.int xasked]))] sz (fun (r : Int32) (u : Unit) => True) (fun (u : Unit) => [(co, Sum.inr (4, [Value.long xx, Value.long xreadX, Value.ref soa, Value.ref sna, Value.ref swa, Value.int xkept, Value.ref ri, Value.ref ro, Value.ref rw, Value.int xasked]))]) 0 0 := by
  refine my_ofI (cc := prog_4_method_14_code) (n := 1) (ret := (some .int)) (by decide) rfl (Nat.le_of_ble_eq_true rfl) ?_
  intro p e s m args below meth c R Q A ls H locs hx hb hr hts hown hlocks hml hnm hR hQ hA hl hP hK hN hD hS
  have hg : ∀ w ∈ gw, w.before args s = true := fun w h => hts w (List.mem_cons_of_mem _ h)
  have hown : s.vm.findClass "RangeCoders$Coder" = some m.cls := hown
  have hl : lv_has ls 1 [(0, Value.ref co)] := hl
  refine lv_aload_n hx hb d_Coder_bytesAsked_0 rfl (lv_at hl 0 rfl) ?_
  refine va_get (D := (dC, dI)) (ci := 4) (v := .int xasked) (C := "RangeCoders$Stack") (T := T_Stack) (N := 10) hx hb hg in_Stack hown hK hP 0 rfl rfl 9 (by decide) (hg _ k130) (fun _ h9 => h9) rfl d_Coder_bytesAsked_1 ?_
  exact my_iret (v := xasked) hx hb hr (rfl) hlocks hQ hK hS (Nat.le_refl _) (Nat.le_refl _) () (trivial) (hP.sub [0] rfl) (hD.sub [0] (by decide +kernel) rfl) d_Coder_bytesAsked_4
set_option maxHeartbeats 2000000 in
set_option maxRecDepth 100000 in
theorem c_Stack_Stacked_register (l : Launch) (dC : Nat → ClassId) (dI : Nat → Nat → Nat) (cI cM cO : ClassId) (sz : Nat) (co : Nat) (xx : Int64) (xreadX : Int64) (soa : Nat) (sna : Nat) (swa : Nat) (xkept : Int32) (ri : Nat) (ro : Nat) (rw : Nat) (xasked : Int32) (wh : Int32) : MetL l y_Stacked_register (Cond.code y_Stacked_register prog_11_method_10_code 2 (some .long) :: gw) ({ frames := 0, cells := 0, slots := 0, locals := 0 } : Room) (dC, dI) vwCl (kT cI cM cO) [Value.ref co, Value.int wh] [(co, Sum.inr (4, [Value.long xx, Value.long xreadX, Value.ref soa, Value.ref sna, Value.ref swa, Value.int xkept, Value.ref ri, Value.ref ro, Value.ref rw, Value.int xasked]))] sz (fun (r : Int64) (u : Unit) => True) (fun (u : Unit) => [(co, Sum.inr (4, [Value.long xx, Value.long xreadX, Value.ref soa, Value.ref sna, Value.ref swa, Value.int xkept, Value.ref ri, Value.ref ro, Value.ref rw, Value.int xasked]))]) 0 0 := by
  refine my_ofL (cc := prog_11_method_10_code) (n := 2) (ret := (some .long)) (by decide) rfl (Nat.le_of_ble_eq_true rfl) ?_
  intro p e s m args below meth c R Q A ls H locs hx hb hr hts hown hlocks hml hnm hR hQ hA hl hP hK hN hD hS
  have hg : ∀ w ∈ gw, w.before args s = true := fun w h => hts w (List.mem_cons_of_mem _ h)
  have hown : s.vm.findClass "RangeCoders$Stacked" = some m.cls := hown
  have hl : lv_has ls 2 [(0, Value.ref co), (1, Value.int wh)] := hl
  refine lv_iload_n hx hb d_Stacked_register_0 rfl (lv_at hl 1 rfl) ?_
  refine lv_iconst (v := 5) hx hb d_Stacked_register_1 (by decide) ?_
  refine lv_icmp_ne (tgt := 12) hx hb d_Stacked_register_2 (by decide) (fun c_1 => ?_) (fun c_1 => ?_)
  · refine lv_lconst (v := 0) hx hb d_Stacked_register_12 (by decide) ?_
    exact my_lret (v := 0) hx hb hr hlocks hQ hK hS (Nat.le_refl _) (Nat.le_refl _) () (trivial) (hP.sub [0] rfl) (hD.sub [0] (by decide +kernel) rfl) d_Stacked_register_13
  · refine lv_aload_n hx hb d_Stacked_register_5 rfl (lv_at hl 0 rfl) ?_
    refine va_get (D := (dC, dI)) (ci := 4) (v := .long xreadX) (C := "RangeCoders$Stack") (T := T_Stack) (N := 10) hx hb hg in_Stack hown hK hP 0 rfl rfl 1 (by decide) (hg _ k217) (fun _ h9 => h9) rfl d_Stacked_register_6 ?_
    refine lv_goto (tgt := 13) hx hb d_Stacked_register_9 (by decide) ?_
    exact my_lret (v := xreadX) hx hb hr hlocks hQ hK hS (Nat.le_refl _) (Nat.le_refl _) () (trivial) (hP.sub [0] rfl) (hD.sub [0] (by decide +kernel) rfl) d_Stacked_register_13
set_option maxHeartbeats 2000000 in
set_option maxRecDepth 100000 in
theorem c_Stack_Stack_prepare (l : Launch) (dC : Nat → ClassId) (dI : Nat → Nat → Nat) (cI cM cO : ClassId) (sz : Nat) (co : Nat) (xx : Int64) (xreadX : Int64) (soa : Nat) (sna : Nat) (swa : Nat) (xkept : Int32) (ri : Nat) (ro : Nat) (rw : Nat) (xasked : Int32) (oo : Nat) (osg : Int32) (osm : Int32) (ofc : Int32) (oca : Nat) (opa : Nat) (ol : Nat) (ocf : Nat → Int32) (opl : Nat) (opf : Nat → Int32) (ka : Nat) (kl : Nat) (kf : Nat → Int32) (hol : ol ≤ 64) (hopl : opl ≤ 512) (hol0 : 1 ≤ ol) (hkl : kl ≤ 64) : MetV l y_Stack_prepare (Cond.code y_Stack_prepare prog_10_method_2_code 3 none :: gw) ({ frames := 3, cells := 0, slots := 0, locals := 67 } : Room) (dC, dI) vwCl (kT cI cM cO) [Value.ref co, Value.ref oo, Value.ref ka] [(co, Sum.inr (4, [Value.long xx, Value.long xreadX, Value.ref soa, Value.ref sna, Value.ref swa, Value.int xkept, Value.ref ri, Value.ref ro, Value.ref rw, Value.int xasked])), (oo, Sum.inr (7, [Value.int osg, Value.int osm, Value.int ofc, Value.ref oca, Value.ref opa])), (oca, Sum.inl (cI, ol, Sum.inl ocf)), (opa, Sum.inl (cI, opl, Sum.inl opf)), (ka, Sum.inl (cI, kl, Sum.inl kf))] sz (fun (u : Int32 × (Nat → Int32)) => True) (fun (u : Int32 × (Nat → Int32)) => [(co, Sum.inr (4, [Value.long xx, Value.long xreadX, Value.ref soa, Value.ref sna, Value.ref swa, Value.int xkept, Value.ref ri, Value.ref ro, Value.ref rw, Value.int xasked])), (oo, Sum.inr (7, [Value.int osg, Value.int u.1, Value.int ofc, Value.ref oca, Value.ref opa])), (oca, Sum.inl (cI, ol, Sum.inl u.2)), (opa, Sum.inl (cI, opl, Sum.inl opf)), (ka, Sum.inl (cI, kl, Sum.inl kf))]) 0 0 := by
  refine my_ofV (cc := prog_10_method_2_code) (n := 3) (ret := none) (by decide) rfl (Nat.le_of_ble_eq_true rfl) ?_
  intro p e s m args below meth c R Q A ls H locs hx hb hr hts hown hlocks hml hnm hR hQ hA hl hP hK hN hD hS
  have hg : ∀ w ∈ gw, w.before args s = true := fun w h => hts w (List.mem_cons_of_mem _ h)
  have hown : s.vm.findClass "RangeCoders$Stack" = some m.cls := hown
  have hl : lv_has ls 3 [(0, Value.ref co), (1, Value.ref oo), (2, Value.ref ka)] := hl
  refine lv_aload_n hx hb d_Stack_prepare_0 rfl (lv_at hl 1 rfl) ?_
  refine lv_sipush (v := 4096) hx hb d_Stack_prepare_1 (by decide) ?_
  refine lv_aload_n hx hb d_Stack_prepare_4 rfl (lv_at hl 2 rfl) ?_
  refine my_cv (wr := [(co, Sum.inr (4, [Value.long xx, Value.long xreadX, Value.ref soa, Value.ref sna, Value.ref swa, Value.int xkept, Value.ref ri, Value.ref ro, Value.ref rw, Value.int xasked]))]) (va_runV (As := [Value.int 4096, Value.ref ka]) (rest := []) ⟨hx, hb, hml, hown, hts⟩ (c_Odds_scaleTo l dC dI cI cM cO H.size oo osg osm ofc oca opa ol ocf opl opf 4096 ka kl kf (by first | assumption | omega) (by first | assumption | omega) (by first | assumption | omega) (by first | assumption | omega)) (cwV 2 hts (my_gV k383 k384 k385 k14 k386) rfl rfl rfl cu_Odds_scaleTo_2 ⟨by rw [hR]; exact Nat.le_of_ble_eq_true rfl, by rw [hR]; exact Nat.le_of_ble_eq_true rfl⟩) (my_preV hK hN (hP.sub [1, 2, 3, 4] rfl) (hD.sub [1, 2, 3, 4] (by decide +kernel) rfl) 0 rfl rfl) rfl rfl hl.1 rfl (lv_room (Nat.le_of_ble_eq_true rfl)) d_Stack_prepare_5 ⟨by rw [hR]; exact Nat.le_of_ble_eq_true rfl, by rw [hR]; exact Nat.le_of_ble_eq_true rfl⟩) hP hD hS hA [1, 2, 3, 4] [0] rfl rfl (by decide +kernel) (by decide +kernel) (fun u9 H locs hw_5 hP hD hS => ?_)
  obtain ⟨osmq_5, ocfq_5⟩ := u9
  have hPD : my_PD (dC, dI) vwCl A [(co, Sum.inr (4, [Value.long xx, Value.long xreadX, Value.ref soa, Value.ref sna, Value.ref swa, Value.int xkept, Value.ref ri, Value.ref ro, Value.ref rw, Value.int xasked])), (oo, Sum.inr (7, [Value.int osg, Value.int osmq_5, Value.int ofc, Value.ref oca, Value.ref opa])), (oca, Sum.inl (cI, ol, Sum.inl ocfq_5)), (opa, Sum.inl (cI, opl, Sum.inl opf)), (ka, Sum.inl (cI, kl, Sum.inl kf))] H := ⟨hP, hD⟩
  have hP := hPD.1
  have hD := hPD.2
  exact my_vret hx hb hr hlocks hQ hK hS (Nat.le_refl _) (Nat.le_refl _) (osmq_5, ocfq_5) (trivial) (hP.sub [0, 1, 2, 3, 4] rfl) (hD.sub [0, 1, 2, 3, 4] (by decide +kernel) rfl) d_Stack_prepare_8
set_option maxHeartbeats 2000000 in
set_option maxRecDepth 100000 in
theorem c_Stack_Stack_openReading (l : Launch) (dC : Nat → ClassId) (dI : Nat → Nat → Nat) (cI cM cO : ClassId) (sz : Nat) (co : Nat) (xx : Int64) (xreadX : Int64) (soa : Nat) (sna : Nat) (swa : Nat) (xkept : Int32) (ri : Nat) (ro : Nat) (rw : Nat) (xasked : Int32) (rin : Int32) (ria : Nat) (rik : Nat) (rif : Nat → Int32) (hri : rOk rin rik) : MetI l y_Stack_openReading (Cond.code y_Stack_openReading prog_10_method_7_code 1 (some .boolean) :: gw) ({ frames := 4, cells := 0, slots := 0, locals := 86 } : Room) (dC, dI) vwCl (kT cI cM cO) [Value.ref co] [(co, Sum.inr (4, [Value.long xx, Value.long xreadX, Value.ref soa, Value.ref sna, Value.ref swa, Value.int xkept, Value.ref ri, Value.ref ro, Value.ref rw, Value.int xasked])), (ri, Sum.inr (0, [Value.int rin, Value.ref ria])), (ria, Sum.inl (cI, rik, Sum.inl rif))] sz (fun (r : Int32) (u : Int64 × Int32) => True) (fun (u : Int64 × Int32) => [(co, Sum.inr (4, [Value.long xx, Value.long u.1, Value.ref soa, Value.ref sna, Value.ref swa, Value.int xkept, Value.ref ri, Value.ref ro, Value.ref rw, Value.int u.2])), (ri, Sum.inr (0, [Value.int rin, Value.ref ria])), (ria, Sum.inl (cI, rik, Sum.inl rif))]) 0 0 := by
  refine my_ofI (cc := prog_10_method_7_code) (n := 1) (ret := (some .boolean)) (by decide) rfl (Nat.le_of_ble_eq_true rfl) ?_
  intro p e s m args below meth c R Q A ls H locs hx hb hr hts hown hlocks hml hnm hR hQ hA hl hP hK hN hD hS
  have hg : ∀ w ∈ gw, w.before args s = true := fun w h => hts w (List.mem_cons_of_mem _ h)
  have hown : s.vm.findClass "RangeCoders$Stack" = some m.cls := hown
  have hl : lv_has ls 1 [(0, Value.ref co)] := hl
  have hlt_hri := rOk_lt hri
  refine lv_aload_n hx hb d_Stack_openReading_0 rfl (lv_at hl 0 rfl) ?_
  refine lv_aload_n hx hb d_Stack_openReading_1 rfl (lv_at hl 0 rfl) ?_
  refine my_cl (wr := []) (va_runU (As := []) (rest := [Value.ref co]) ⟨hx, hb, hml, hown, hts⟩ (c_Stack_Coder_firstFourBytes l dC dI cI cM cO H.size co xx xreadX soa sna swa xkept ri ro rw xasked rin ria rik rif (by first | assumption | omega)) (va_cwU 0 hts (my_gU k757 k758 k759 k739 k3 k740) rfl rfl rfl rfl (by decide +kernel) ⟨by rw [hR]; exact Nat.le_of_ble_eq_true rfl, by rw [hR]; exact Nat.le_of_ble_eq_true rfl⟩) (my_preV hK hN (hP.sub [0, 1, 2] rfl) (hD.sub [0, 1, 2] (by decide +kernel) rfl) 0 rfl rfl) rfl rfl hl.1 rfl (lv_room (Nat.le_of_ble_eq_true rfl)) d_Stack_openReading_2 ⟨by rw [hR]; exact Nat.le_of_ble_eq_true rfl, by rw [hR]; exact Nat.le_of_ble_eq_true rfl⟩) hP hD hS hA [0, 1, 2] [] rfl rfl (by decide +kernel) (by decide +kernel) (fun r_2 u9 H locs hw_2 hP hD hS => ?_)
  obtain ⟨xaskedq_2, rfl⟩ : ∃ z, z = u9 := ⟨_, rfl⟩
  have hPD : my_PD (dC, dI) vwCl A [(co, Sum.inr (4, [Value.long xx, Value.long xreadX, Value.ref soa, Value.ref sna, Value.ref swa, Value.int xkept, Value.ref ri, Value.ref ro, Value.ref rw, Value.int xaskedq_2])), (ri, Sum.inr (0, [Value.int rin, Value.ref ria])), (ria, Sum.inl (cI, rik, Sum.inl rif))] H := ⟨hP, hD⟩
  have hP := hPD.1
  have hD := hPD.2
  refine va_put (D := (dC, dI)) (ci := 4) (v := .long r_2) (ty := .long) (C := "RangeCoders$Stack") (T := T_Stack) (N := 10) hx hb hg in_Stack t_Stack o_Stack n_Stack hown hK hP hD hS 0 rfl rfl 1 (by decide) (hg _ k215) (fun x9 h9 => u_same (hg _ k216) x9 h9) rfl (o_Stack 1 (by decide)) rfl rfl (Nat.le_of_ble_eq_true rfl) d_Stack_openReading_5 (fun H locs hP hD hS => ?_)
  have hPD : my_PD (dC, dI) vwCl A [(co, Sum.inr (4, [Value.long xx, Value.long r_2, Value.ref soa, Value.ref sna, Value.ref swa, Value.int xkept, Value.ref ri, Value.ref ro, Value.ref rw, Value.int xaskedq_2])), (ri, Sum.inr (0, [Value.int rin, Value.ref ria])), (ria, Sum.inl (cI, rik, Sum.inl rif))] H := ⟨hP, hD⟩
  have hP := hPD.1
  have hD := hPD.2
  refine lv_aload_n hx hb d_Stack_openReading_8 rfl (lv_at hl 0 rfl) ?_
  refine va_get (D := (dC, dI)) (ci := 4) (v := .long r_2) (C := "RangeCoders$Stack") (T := T_Stack) (N := 10) hx hb hg in_Stack hown hK hP 0 rfl rfl 1 (by decide) (hg _ k215) (fun x9 h9 => u_same (hg _ k216) x9 h9) rfl d_Stack_openReading_9 ?_
  refine lv_ldc2 (v := 8388608) hx hb hown (hg _ k603) d_Stack_openReading_12 ?_
  refine W.lcmp hx hb d_Stack_openReading_15 ?_
  refine lv_if_lt (tgt := 23) hx hb d_Stack_openReading_16 (by decide) (fun c_1 => ?_) (fun c_1 => ?_)
  · rw [lg_cmp_lt] at c_1
    refine lv_iconst (v := 0) hx hb d_Stack_openReading_23 (by decide) ?_
    exact my_iret (v := 0) hx hb hr (rfl) hlocks hQ hK hS (Nat.le_refl _) (Nat.le_refl _) (r_2, xaskedq_2) (trivial) (hP.sub [0, 1, 2] rfl) (hD.sub [0, 1, 2] (by decide +kernel) rfl) d_Stack_openReading_24
  · rw [lg_cmp_lt] at c_1
    refine lv_iconst (v := 1) hx hb d_Stack_openReading_19 (by decide) ?_
    refine lv_goto (tgt := 24) hx hb d_Stack_openReading_20 (by decide) ?_
    exact my_iret (v := 1) hx hb hr (rfl) hlocks hQ hK hS (Nat.le_refl _) (Nat.le_refl _) (r_2, xaskedq_2) (trivial) (hP.sub [0, 1, 2] rfl) (hD.sub [0, 1, 2] (by decide +kernel) rfl) d_Stack_openReading_24
set_option maxHeartbeats 2000000 in
set_option maxRecDepth 100000 in
theorem c_Stack_Stack_unstackPart (l : Launch) (dC : Nat → ClassId) (dI : Nat → Nat → Nat) (cI cM cO : ClassId) (sz : Nat) (co : Nat) (xx : Int64) (xreadX : Int64) (soa : Nat) (sna : Nat) (swa : Nat) (xkept : Int32) (ri : Nat) (ro : Nat) (rw : Nat) (xasked : Int32) (rin : Int32) (ria : Nat) (rik : Nat) (rif : Nat → Int32) (pf : Int32) (rst : Int32) (hri : rOk rin rik) : MetV l y_Stack_unstackPart (Cond.code y_Stack_unstackPart prog_10_method_12_code 4 none :: gw) ({ frames := 3, cells := 0, slots := 0, locals := 63 } : Room) (dC, dI) vwCl (kT cI cM cO) [Value.ref co, Value.int pf, Value.int rst] [(co, Sum.inr (4, [Value.long xx, Value.long xreadX, Value.ref soa, Value.ref sna, Value.ref swa, Value.int xkept, Value.ref ri, Value.ref ro, Value.ref rw, Value.int xasked])), (ri, Sum.inr (0, [Value.int rin, Value.ref ria])), (ria, Sum.inl (cI, rik, Sum.inl rif))] sz (fun (u : Int64 × Int32) => True) (fun (u : Int64 × Int32) => [(co, Sum.inr (4, [Value.long xx, Value.long u.1, Value.ref soa, Value.ref sna, Value.ref swa, Value.int xkept, Value.ref ri, Value.ref ro, Value.ref rw, Value.int u.2])), (ri, Sum.inr (0, [Value.int rin, Value.ref ria])), (ria, Sum.inl (cI, rik, Sum.inl rif))]) 0 0 := by
  refine my_ofV (cc := prog_10_method_12_code) (n := 4) (ret := none) (by decide) rfl (Nat.le_of_ble_eq_true rfl) ?_
  intro p e s m args below meth c R Q A ls H locs hx hb hr hts hown hlocks hml hnm hR hQ hA hl hP hK hN hD hS
  have hg : ∀ w ∈ gw, w.before args s = true := fun w h => hts w (List.mem_cons_of_mem _ h)
  have hown : s.vm.findClass "RangeCoders$Stack" = some m.cls := hown
  have hl : lv_has ls 4 [(0, Value.ref co), (1, Value.int pf), (2, Value.int rst)] := hl
  have hlt_hri := rOk_lt hri
  refine lv_aload_n hx hb d_Stack_unstackPart_0 rfl (lv_at hl 0 rfl) ?_
  refine lv_iload_n hx hb d_Stack_unstackPart_1 rfl (lv_at hl 1 rfl) ?_
  refine lv_i2l hx hb d_Stack_unstackPart_2 rfl ?_
  refine lv_topl (fun v_1 ev_1 => ?_)
  refine lv_aload_n hx hb d_Stack_unstackPart_3 rfl (lv_at hl 0 rfl) ?_
  refine va_get (D := (dC, dI)) (ci := 4) (v := .long xreadX) (C := "RangeCoders$Stack") (T := T_Stack) (N := 10) hx hb hg in_Stack hown hK hP 0 rfl rfl 1 (by decide) (hg _ k215) (fun x9 h9 => u_same (hg _ k216) x9 h9) rfl d_Stack_unstackPart_4 ?_
  refine lv_bipush (v := 12) hx hb d_Stack_unstackPart_7 (by decide) ?_
  refine lv_lushr hx hb d_Stack_unstackPart_9 rfl ?_
  refine lv_topl (fun v_2 ev_2 => ?_)
  refine lv_lmul hx hb d_Stack_unstackPart_10 ?_
  refine lv_topl (fun v_3 ev_3 => ?_)
  refine lv_iload_n hx hb d_Stack_unstackPart_11 rfl (lv_at hl 2 rfl) ?_
  refine lv_i2l hx hb d_Stack_unstackPart_12 rfl ?_
  refine lv_topl (fun v_4 ev_4 => ?_)
  refine lv_ladd hx hb d_Stack_unstackPart_13 ?_
  refine lv_topl (fun v_5 ev_5 => ?_)
  refine va_put (D := (dC, dI)) (ci := 4) (v := .long v_5) (ty := .long) (C := "RangeCoders$Stack") (T := T_Stack) (N := 10) hx hb hg in_Stack t_Stack o_Stack n_Stack hown hK hP hD hS 0 rfl rfl 1 (by decide) (hg _ k215) (fun x9 h9 => u_same (hg _ k216) x9 h9) rfl (o_Stack 1 (by decide)) rfl rfl (Nat.le_of_ble_eq_true rfl) d_Stack_unstackPart_14 (fun H locs hP hD hS => ?_)
  have hPD : my_PD (dC, dI) vwCl A [(co, Sum.inr (4, [Value.long xx, Value.long v_5, Value.ref soa, Value.ref sna, Value.ref swa, Value.int xkept, Value.ref ri, Value.ref ro, Value.ref rw, Value.int xasked])), (ri, Sum.inr (0, [Value.int rin, Value.ref ria])), (ria, Sum.inl (cI, rik, Sum.inl rif))] H := ⟨hP, hD⟩
  have hP := hPD.1
  have hD := hPD.2
  refine lv_iconst (v := 0) hx hb d_Stack_unstackPart_17 (by decide) ?_
  refine lv_istore_n (lv' := [(3, Value.int 0), (0, Value.ref co), (1, Value.int pf), (2, Value.int rst)]) hx hb d_Stack_unstackPart_18 rfl hl (by decide) rfl (fun ls hl => ?_)
  have J_19 : ∀ (n9_19 : Nat) (b19_0 : Int32) (b19_1 : Int64) (b19_2 : Int32) (hn9_19 : ((8 : Int32).toInt - b19_0.toInt).toNat = n9_19) (hi_19 : 0 ≤ b19_0.toInt) (H : Heap) (locs : List Loc) (ls : Array Slot), va_P (dC, dI) vwCl [(co, Sum.inr (4, [Value.long xx, Value.long b19_1, Value.ref soa, Value.ref sna, Value.ref swa, Value.int xkept, Value.ref ri, Value.ref ro, Value.ref rw, Value.int b19_2])), (ri, Sum.inr (0, [Value.int rin, Value.ref ria])), (ria, Sum.inl (cI, rik, Sum.inl rif))] H → va_D A [(co, Sum.inr (4, [Value.long xx, Value.long b19_1, Value.ref soa, Value.ref sna, Value.ref swa, Value.int xkept, Value.ref ri, Value.ref ro, Value.ref rw, Value.int b19_2])), (ri, Sum.inr (0, [Value.int rin, Value.ref ria])), (ria, Sum.inl (cI, rik, Sum.inl rif))] → va_S A s.heap H locs → lv_has ls 4 [(3, Value.int b19_0), (0, Value.ref co), (1, Value.int pf), (2, Value.int rst)] → W p l e R s m args below meth c H locs 0 0 Q (F0 m 19 ls []) := by
    intro n9_19
    induction n9_19 using Nat.strongRecOn with
    | ind n9_19 ih9_19 =>
      intro b19_0 b19_1 b19_2 hn9_19 hi_19 H locs ls hP hD hS hl
      refine lv_iload_n hx hb d_Stack_unstackPart_19 rfl (lv_at hl 0 rfl) ?_
      refine lv_bipush (v := 8) hx hb d_Stack_unstackPart_20 (by decide) ?_
      refine lv_icmp_ge (tgt := 59) hx hb d_Stack_unstackPart_22 (by decide) (fun c_6 => ?_) (fun c_6 => ?_)
      · exact my_vret hx hb hr hlocks hQ hK hS (Nat.le_refl _) (Nat.le_refl _) (b19_1, b19_2) (trivial) (hP.sub [0, 1, 2] rfl) (hD.sub [0, 1, 2] (by decide +kernel) rfl) d_Stack_unstackPart_59
      · refine lv_aload_n hx hb d_Stack_unstackPart_25 rfl (lv_at hl 1 rfl) ?_
        refine va_get (D := (dC, dI)) (ci := 4) (v := .long b19_1) (C := "RangeCoders$Stack") (T := T_Stack) (N := 10) hx hb hg in_Stack hown hK hP 0 rfl rfl 1 (by decide) (hg _ k215) (fun x9 h9 => u_same (hg _ k216) x9 h9) rfl d_Stack_unstackPart_26 ?_
        refine lv_ldc2 (v := 8388608) hx hb hown (hg _ k603) d_Stack_unstackPart_29 ?_
        refine W.lcmp hx hb d_Stack_unstackPart_32 ?_
        refine lv_if_ge (tgt := 59) hx hb d_Stack_unstackPart_33 (by decide) (fun c_7 => ?_) (fun c_7 => ?_)
        · rw [lg_cmp_ge] at c_7
          exact my_vret hx hb hr hlocks hQ hK hS (Nat.le_refl _) (Nat.le_refl _) (b19_1, b19_2) (trivial) (hP.sub [0, 1, 2] rfl) (hD.sub [0, 1, 2] (by decide +kernel) rfl) d_Stack_unstackPart_59
        · rw [lg_cmp_ge] at c_7
          refine lv_aload_n hx hb d_Stack_unstackPart_36 rfl (lv_at hl 1 rfl) ?_
          refine lv_aload_n hx hb d_Stack_unstackPart_37 rfl (lv_at hl 1 rfl) ?_
          refine va_get (D := (dC, dI)) (ci := 4) (v := .long b19_1) (C := "RangeCoders$Stack") (T := T_Stack) (N := 10) hx hb hg in_Stack hown hK hP 0 rfl rfl 1 (by decide) (hg _ k215) (fun x9 h9 => u_same (hg _ k216) x9 h9) rfl d_Stack_unstackPart_38 ?_
          refine lv_bipush (v := 8) hx hb d_Stack_unstackPart_41 (by decide) ?_
          refine lv_lshl hx hb d_Stack_unstackPart_43 rfl ?_
          refine lv_topl (fun v_8 ev_8 => ?_)
          refine lv_aload_n hx hb d_Stack_unstackPart_44 rfl (lv_at hl 1 rfl) ?_
          refine my_ci (wr := []) (va_runU (As := []) (rest := [Value.long v_8, Value.ref co]) ⟨hx, hb, hml, hown, hts⟩ (c_Stack_Coder_nextByte l dC dI cI cM cO H.size co xx b19_1 soa sna swa xkept ri ro rw b19_2 rin ria rik rif (by first | assumption | omega)) (va_cwU 0 hts (my_gU k839 k840 k841 k742 k3 k749) rfl rfl rfl rfl (by decide +kernel) ⟨by rw [hR]; exact Nat.le_of_ble_eq_true rfl, by rw [hR]; exact Nat.le_of_ble_eq_true rfl⟩) (my_preV hK hN (hP.sub [0, 1, 2] rfl) (hD.sub [0, 1, 2] (by decide +kernel) rfl) 0 rfl rfl) rfl rfl hl.1 rfl (lv_room (Nat.le_of_ble_eq_true rfl)) d_Stack_unstackPart_45 ⟨by rw [hR]; exact Nat.le_of_ble_eq_true rfl, by rw [hR]; exact Nat.le_of_ble_eq_true rfl⟩) hP hD hS hA [0, 1, 2] [] rfl rfl (by decide +kernel) (by decide +kernel) (fun r_45 u9 H locs hw_45 hP hD hS => ?_)
          obtain ⟨xaskedq_45, rfl⟩ : ∃ z, z = u9 := ⟨_, rfl⟩
          have hPD : my_PD (dC, dI) vwCl A [(co, Sum.inr (4, [Value.long xx, Value.long b19_1, Value.ref soa, Value.ref sna, Value.ref swa, Value.int xkept, Value.ref ri, Value.ref ro, Value.ref rw, Value.int xaskedq_45])), (ri, Sum.inr (0, [Value.int rin, Value.ref ria])), (ria, Sum.inl (cI, rik, Sum.inl rif))] H := ⟨hP, hD⟩
          have hP := hPD.1
          have hD := hPD.2
          refine lv_i2l hx hb d_Stack_unstackPart_48 rfl ?_
          refine lv_topl (fun v_9 ev_9 => ?_)
          refine lv_lor hx hb d_Stack_unstackPart_49 ?_
          refine lv_topl (fun v_10 ev_10 => ?_)
          refine va_put (D := (dC, dI)) (ci := 4) (v := .long v_10) (ty := .long) (C := "RangeCoders$Stack") (T := T_Stack) (N := 10) hx hb hg in_Stack t_Stack o_Stack n_Stack hown hK hP hD hS 0 rfl rfl 1 (by decide) (hg _ k215) (fun x9 h9 => u_same (hg _ k216) x9 h9) rfl (o_Stack 1 (by decide)) rfl rfl (Nat.le_of_ble_eq_true rfl) d_Stack_unstackPart_50 (fun H locs hP hD hS => ?_)
          have hPD : my_PD (dC, dI) vwCl A [(co, Sum.inr (4, [Value.long xx, Value.long v_10, Value.ref soa, Value.ref sna, Value.ref swa, Value.int xkept, Value.ref ri, Value.ref ro, Value.ref rw, Value.int xaskedq_45])), (ri, Sum.inr (0, [Value.int rin, Value.ref ria])), (ria, Sum.inl (cI, rik, Sum.inl rif))] H := ⟨hP, hD⟩
          have hP := hPD.1
          have hD := hPD.2
          obtain ⟨v_11, ev_11⟩ : ∃ y : Int32, y = b19_0 + (1) := ⟨_, rfl⟩
          refine lv_iinc (v := v_11) (lv' := [(3, Value.int v_11), (0, Value.ref co), (1, Value.int pf), (2, Value.int rst)]) hx hb d_Stack_unstackPart_53 hl (k := 0) rfl (by rw [ev_11]; rfl) (by decide) rfl (fun ls hl => ?_)
          refine lv_goto (tgt := 19) hx hb d_Stack_unstackPart_56 (by decide) ?_
          exact ih9_19 _ (by first | omega | (have z9 := I_up c_6 ev_11; omega)) v_11 v_10 xaskedq_45 rfl (by have z9 := I_up c_6 ev_11; omega) H locs ls (hP.sub [0, 1, 2] rfl) (hD.sub [0, 1, 2] (by decide +kernel) rfl) hS (lv_sub hl [0, 1, 2, 3] rfl)
  exact J_19 _ (0 : Int32) v_5 xasked rfl (by first | decide | assumption | omega) H locs ls (hP.sub [0, 1, 2] rfl) (hD.sub [0, 1, 2] (by decide +kernel) rfl) hS (lv_sub hl [0, 1, 2, 3] rfl)
set_option maxHeartbeats 2000000 in
set_option maxRecDepth 100000 in
theorem c_Stack_Stack_nextSign (l : Launch) (dC : Nat → ClassId) (dI : Nat → Nat → Nat) (cI cM cO : ClassId) (sz : Nat) (co : Nat) (xx : Int64) (xreadX : Int64) (soa : Nat) (sna : Nat) (swa : Nat) (xkept : Int32) (ri : Nat) (ro : Nat) (rw : Nat) (xasked : Int32) (rin : Int32) (ria : Nat) (rik : Nat) (rif : Nat → Int32) (oo : Nat) (osg : Int32) (osm : Int32) (ofc : Int32) (oca : Nat) (opa : Nat) (ol : Nat) (ocf : Nat → Int32) (opl : Nat) (opf : Nat → Int32) (hri : rOk rin rik) (hol : ol ≤ 64) (hopl : opl ≤ 512) : MetI l y_Stack_nextSign (Cond.code y_Stack_nextSign prog_10_method_8_code 4 (some .int) :: gw) ({ frames := 4, cells := 0, slots := 0, locals := 86 } : Room) (dC, dI) vwCl (kT cI cM cO) [Value.ref co, Value.ref oo] [(co, Sum.inr (4, [Value.long xx, Value.long xreadX, Value.ref soa, Value.ref sna, Value.ref swa, Value.int xkept, Value.ref ri, Value.ref ro, Value.ref rw, Value.int xasked])), (ri, Sum.inr (0, [Value.int rin, Value.ref ria])), (ria, Sum.inl (cI, rik, Sum.inl rif)), (oo, Sum.inr (7, [Value.int osg, Value.int osm, Value.int ofc, Value.ref oca, Value.ref opa])), (oca, Sum.inl (cI, ol, Sum.inl ocf)), (opa, Sum.inl (cI, opl, Sum.inl opf))] sz (fun (r : Int32) (u : Int64 × Int32) => True) (fun (u : Int64 × Int32) => [(co, Sum.inr (4, [Value.long xx, Value.long u.1, Value.ref soa, Value.ref sna, Value.ref swa, Value.int xkept, Value.ref ri, Value.ref ro, Value.ref rw, Value.int u.2])), (ri, Sum.inr (0, [Value.int rin, Value.ref ria])), (ria, Sum.inl (cI, rik, Sum.inl rif)), (oo, Sum.inr (7, [Value.int osg, Value.int osm, Value.int ofc, Value.ref oca, Value.ref opa])), (oca, Sum.inl (cI, ol, Sum.inl ocf)), (opa, Sum.inl (cI, opl, Sum.inl opf))]) 0 0 := by
  refine my_ofI (cc := prog_10_method_8_code) (n := 4) (ret := (some .int)) (by decide) rfl (Nat.le_of_ble_eq_true rfl) ?_
  intro p e s m args below meth c R Q A ls H locs hx hb hr hts hown hlocks hml hnm hR hQ hA hl hP hK hN hD hS
  have hg : ∀ w ∈ gw, w.before args s = true := fun w h => hts w (List.mem_cons_of_mem _ h)
  have hown : s.vm.findClass "RangeCoders$Stack" = some m.cls := hown
  have hl : lv_has ls 4 [(0, Value.ref co), (1, Value.ref oo)] := hl
  have hlt_hri := rOk_lt hri
  refine lv_aload_n hx hb d_Stack_nextSign_0 rfl (lv_at hl 0 rfl) ?_
  refine va_get (D := (dC, dI)) (ci := 4) (v := .long xreadX) (C := "RangeCoders$Stack") (T := T_Stack) (N := 10) hx hb hg in_Stack hown hK hP 0 rfl rfl 1 (by decide) (hg _ k215) (fun x9 h9 => u_same (hg _ k216) x9 h9) rfl d_Stack_nextSign_1 ?_
  refine lv_ldc2 (v := 4095) hx hb hown (hg _ k833) d_Stack_nextSign_4 ?_
  refine lv_land hx hb d_Stack_nextSign_7 ?_
  refine lv_topl (fun v_1 ev_1 => ?_)
  refine lv_l2i hx hb d_Stack_nextSign_8 rfl ?_
  refine lv_topi (fun v_2 ev_2 => ?_)
  refine lv_istore_n (lv' := [(2, Value.int v_2), (0, Value.ref co), (1, Value.ref oo)]) hx hb d_Stack_nextSign_9 rfl hl (by decide) rfl (fun ls hl => ?_)
  refine lv_aload_n hx hb d_Stack_nextSign_10 rfl (lv_at hl 2 rfl) ?_
  refine lv_iload_n hx hb d_Stack_nextSign_11 rfl (lv_at hl 0 rfl) ?_
  refine my_ci (wr := [(co, Sum.inr (4, [Value.long xx, Value.long xreadX, Value.ref soa, Value.ref sna, Value.ref swa, Value.int xkept, Value.ref ri, Value.ref ro, Value.ref rw, Value.int xasked])), (ri, Sum.inr (0, [Value.int rin, Value.ref ria])), (ria, Sum.inl (cI, rik, Sum.inl rif))]) (va_runV (As := [Value.int v_2]) (rest := []) ⟨hx, hb, hml, hown, hts⟩ (c_Odds_signAt l dC dI cI cM cO H.size oo osg osm ofc oca opa ol ocf opl opf v_2 (by first | assumption | omega) (by first | assumption | omega)) (cwV 1 hts (my_gV k834 k812 k813 k14 k814) rfl rfl rfl cu_Odds_signAt_1 ⟨by rw [hR]; exact Nat.le_of_ble_eq_true rfl, by rw [hR]; exact Nat.le_of_ble_eq_true rfl⟩) (my_preV hK hN (hP.sub [3, 4, 5] rfl) (hD.sub [3, 4, 5] (by decide +kernel) rfl) 0 rfl rfl) rfl rfl hl.1 rfl (lv_room (Nat.le_of_ble_eq_true rfl)) d_Stack_nextSign_12 ⟨by rw [hR]; exact Nat.le_of_ble_eq_true rfl, by rw [hR]; exact Nat.le_of_ble_eq_true rfl⟩) hP hD hS hA [3, 4, 5] [0, 1, 2] rfl rfl (by decide +kernel) (by decide +kernel) (fun r_12 u9 H locs hw_12 hP hD hS => ?_)
  have hPD : my_PD (dC, dI) vwCl A [(co, Sum.inr (4, [Value.long xx, Value.long xreadX, Value.ref soa, Value.ref sna, Value.ref swa, Value.int xkept, Value.ref ri, Value.ref ro, Value.ref rw, Value.int xasked])), (ri, Sum.inr (0, [Value.int rin, Value.ref ria])), (ria, Sum.inl (cI, rik, Sum.inl rif)), (oo, Sum.inr (7, [Value.int osg, Value.int osm, Value.int ofc, Value.ref oca, Value.ref opa])), (oca, Sum.inl (cI, ol, Sum.inl ocf)), (opa, Sum.inl (cI, opl, Sum.inl opf))] H := ⟨hP, hD⟩
  have hP := hPD.1
  have hD := hPD.2
  refine lv_istore_n (lv' := [(3, Value.int r_12), (2, Value.int v_2), (0, Value.ref co), (1, Value.ref oo)]) hx hb d_Stack_nextSign_15 rfl hl (by decide) rfl (fun ls hl => ?_)
  refine lv_iload_n hx hb d_Stack_nextSign_16 rfl (lv_at hl 0 rfl) ?_
  refine lv_iconst (v := (-1)) hx hb d_Stack_nextSign_17 (by decide) ?_
  refine lv_icmp_eq (tgt := 37) hx hb d_Stack_nextSign_18 (by decide) (fun c_3 => ?_) (fun c_3 => ?_)
  · refine lv_iload_n hx hb d_Stack_nextSign_37 rfl (lv_at hl 0 rfl) ?_
    exact my_iret (v := r_12) hx hb hr (rfl) hlocks hQ hK hS (Nat.le_refl _) (Nat.le_refl _) (xreadX, xasked) (trivial) (hP.sub [0, 1, 2, 3, 4, 5] rfl) (hD.sub [0, 1, 2, 3, 4, 5] (by decide +kernel) rfl) d_Stack_nextSign_38
  · refine lv_aload_n hx hb d_Stack_nextSign_21 rfl (lv_at hl 2 rfl) ?_
    refine lv_aload_n hx hb d_Stack_nextSign_22 rfl (lv_at hl 3 rfl) ?_
    refine lv_iload_n hx hb d_Stack_nextSign_23 rfl (lv_at hl 0 rfl) ?_
    refine my_ci (wr := [(co, Sum.inr (4, [Value.long xx, Value.long xreadX, Value.ref soa, Value.ref sna, Value.ref swa, Value.int xkept, Value.ref ri, Value.ref ro, Value.ref rw, Value.int xasked])), (ri, Sum.inr (0, [Value.int rin, Value.ref ria])), (ria, Sum.inl (cI, rik, Sum.inl rif))]) (va_runV (As := [Value.int r_12]) (rest := [Value.ref co]) ⟨hx, hb, hml, hown, hts⟩ (c_Odds_at l dC dI cI cM cO H.size oo osg osm ofc oca opa ol ocf opl opf r_12 (by first | assumption | omega) (by first | assumption | omega)) (cwV 1 hts (my_gV k636 k436 k437 k14 k438) rfl rfl rfl cu_Odds_at_1 ⟨by rw [hR]; exact Nat.le_of_ble_eq_true rfl, by rw [hR]; exact Nat.le_of_ble_eq_true rfl⟩) (my_preV hK hN (hP.sub [3, 4, 5] rfl) (hD.sub [3, 4, 5] (by decide +kernel) rfl) 0 rfl rfl) rfl rfl hl.1 rfl (lv_room (Nat.le_of_ble_eq_true rfl)) d_Stack_nextSign_24 ⟨by rw [hR]; exact Nat.le_of_ble_eq_true rfl, by rw [hR]; exact Nat.le_of_ble_eq_true rfl⟩) hP hD hS hA [3, 4, 5] [0, 1, 2] rfl rfl (by decide +kernel) (by decide +kernel) (fun r_24 u9 H locs hw_24 hP hD hS => ?_)
    have hPD : my_PD (dC, dI) vwCl A [(co, Sum.inr (4, [Value.long xx, Value.long xreadX, Value.ref soa, Value.ref sna, Value.ref swa, Value.int xkept, Value.ref ri, Value.ref ro, Value.ref rw, Value.int xasked])), (ri, Sum.inr (0, [Value.int rin, Value.ref ria])), (ria, Sum.inl (cI, rik, Sum.inl rif)), (oo, Sum.inr (7, [Value.int osg, Value.int osm, Value.int ofc, Value.ref oca, Value.ref opa])), (oca, Sum.inl (cI, ol, Sum.inl ocf)), (opa, Sum.inl (cI, opl, Sum.inl opf))] H := ⟨hP, hD⟩
    have hP := hPD.1
    have hD := hPD.2
    refine lv_iload_n hx hb d_Stack_nextSign_27 rfl (lv_at hl 1 rfl) ?_
    refine lv_aload_n hx hb d_Stack_nextSign_28 rfl (lv_at hl 3 rfl) ?_
    refine lv_iload_n hx hb d_Stack_nextSign_29 rfl (lv_at hl 0 rfl) ?_
    refine my_ci (wr := [(co, Sum.inr (4, [Value.long xx, Value.long xreadX, Value.ref soa, Value.ref sna, Value.ref swa, Value.int xkept, Value.ref ri, Value.ref ro, Value.ref rw, Value.int xasked])), (ri, Sum.inr (0, [Value.int rin, Value.ref ria])), (ria, Sum.inl (cI, rik, Sum.inl rif))]) (va_runV (As := [Value.int r_12]) (rest := [Value.int v_2, Value.int r_24, Value.ref co]) ⟨hx, hb, hml, hown, hts⟩ (c_Odds_below l dC dI cI cM cO H.size oo osg osm ofc oca opa ol ocf opl opf r_12 (by first | assumption | omega) (by first | assumption | omega)) (cwV 1 hts (my_gV k637 k495 k496 k14 k497) rfl rfl rfl cu_Odds_below_1 ⟨by rw [hR]; exact Nat.le_of_ble_eq_true rfl, by rw [hR]; exact Nat.le_of_ble_eq_true rfl⟩) (my_preV hK hN (hP.sub [3, 4, 5] rfl) (hD.sub [3, 4, 5] (by decide +kernel) rfl) 0 rfl rfl) rfl rfl hl.1 rfl (lv_room (Nat.le_of_ble_eq_true rfl)) d_Stack_nextSign_30 ⟨by rw [hR]; exact Nat.le_of_ble_eq_true rfl, by rw [hR]; exact Nat.le_of_ble_eq_true rfl⟩) hP hD hS hA [3, 4, 5] [0, 1, 2] rfl rfl (by decide +kernel) (by decide +kernel) (fun r_30 u9 H locs hw_30 hP hD hS => ?_)
    have hPD : my_PD (dC, dI) vwCl A [(co, Sum.inr (4, [Value.long xx, Value.long xreadX, Value.ref soa, Value.ref sna, Value.ref swa, Value.int xkept, Value.ref ri, Value.ref ro, Value.ref rw, Value.int xasked])), (ri, Sum.inr (0, [Value.int rin, Value.ref ria])), (ria, Sum.inl (cI, rik, Sum.inl rif)), (oo, Sum.inr (7, [Value.int osg, Value.int osm, Value.int ofc, Value.ref oca, Value.ref opa])), (oca, Sum.inl (cI, ol, Sum.inl ocf)), (opa, Sum.inl (cI, opl, Sum.inl opf))] H := ⟨hP, hD⟩
    have hP := hPD.1
    have hD := hPD.2
    refine lv_isub hx hb d_Stack_nextSign_33 ?_
    refine lv_topi (fun v_4 ev_4 => ?_)
    refine my_cv (wr := [(oo, Sum.inr (7, [Value.int osg, Value.int osm, Value.int ofc, Value.ref oca, Value.ref opa])), (oca, Sum.inl (cI, ol, Sum.inl ocf)), (opa, Sum.inl (cI, opl, Sum.inl opf))]) (va_runV (As := [Value.int r_24, Value.int v_4]) (rest := []) ⟨hx, hb, hml, hown, hts⟩ (c_Stack_Stack_unstackPart l dC dI cI cM cO H.size co xx xreadX soa sna swa xkept ri ro rw xasked rin ria rik rif r_24 v_4 (by first | assumption | omega)) (cwV 2 hts (my_gV k835 k837 ks16 k10 k838) rfl rfl rfl cu_Stack_unstackPart_2 ⟨by rw [hR]; exact Nat.le_of_ble_eq_true rfl, by rw [hR]; exact Nat.le_of_ble_eq_true rfl⟩) (my_preV hK hN (hP.sub [0, 1, 2] rfl) (hD.sub [0, 1, 2] (by decide +kernel) rfl) 0 rfl rfl) rfl rfl hl.1 rfl (lv_room (Nat.le_of_ble_eq_true rfl)) d_Stack_nextSign_34 ⟨by rw [hR]; exact Nat.le_of_ble_eq_true rfl, by rw [hR]; exact Nat.le_of_ble_eq_true rfl⟩) hP hD hS hA [0, 1, 2] [3, 4, 5] rfl rfl (by decide +kernel) (by decide +kernel) (fun u9 H locs hw_34 hP hD hS => ?_)
    obtain ⟨xreadXq_34, xaskedq_34⟩ := u9
    have hPD : my_PD (dC, dI) vwCl A [(oo, Sum.inr (7, [Value.int osg, Value.int osm, Value.int ofc, Value.ref oca, Value.ref opa])), (oca, Sum.inl (cI, ol, Sum.inl ocf)), (opa, Sum.inl (cI, opl, Sum.inl opf)), (co, Sum.inr (4, [Value.long xx, Value.long xreadXq_34, Value.ref soa, Value.ref sna, Value.ref swa, Value.int xkept, Value.ref ri, Value.ref ro, Value.ref rw, Value.int xaskedq_34])), (ri, Sum.inr (0, [Value.int rin, Value.ref ria])), (ria, Sum.inl (cI, rik, Sum.inl rif))] H := ⟨hP, hD⟩
    have hP := hPD.1
    have hD := hPD.2
    refine lv_iload_n hx hb d_Stack_nextSign_37 rfl (lv_at hl 0 rfl) ?_
    exact my_iret (v := r_12) hx hb hr (rfl) hlocks hQ hK hS (Nat.le_refl _) (Nat.le_refl _) (xreadXq_34, xaskedq_34) (trivial) (hP.sub [3, 4, 5, 0, 1, 2] rfl) (hD.sub [3, 4, 5, 0, 1, 2] (by decide +kernel) rfl) d_Stack_nextSign_38
set_option maxHeartbeats 2000000 in
set_option maxRecDepth 100000 in
theorem c_Stack_Stack_nextValue (l : Launch) (dC : Nat → ClassId) (dI : Nat → Nat → Nat) (cI cM cO : ClassId) (sz : Nat) (co : Nat) (xx : Int64) (xreadX : Int64) (soa : Nat) (sna : Nat) (swa : Nat) (xkept : Int32) (ri : Nat) (ro : Nat) (rw : Nat) (xasked : Int32) (rin : Int32) (ria : Nat) (rik : Nat) (rif : Nat → Int32) (wd : Int32) (hri : rOk rin rik) : MetI l y_Stack_nextValue (Cond.code y_Stack_nextValue prog_10_method_9_code 4 (some .int) :: gw) ({ frames := 4, cells := 0, slots := 0, locals := 86 } : Room) (dC, dI) vwCl (kT cI cM cO) [Value.ref co, Value.int wd] [(co, Sum.inr (4, [Value.long xx, Value.long xreadX, Value.ref soa, Value.ref sna, Value.ref swa, Value.int xkept, Value.ref ri, Value.ref ro, Value.ref rw, Value.int xasked])), (ri, Sum.inr (0, [Value.int rin, Value.ref ria])), (ria, Sum.inl (cI, rik, Sum.inl rif))] sz (fun (r : Int32) (u : Int64 × Int32) => True) (fun (u : Int64 × Int32) => [(co, Sum.inr (4, [Value.long xx, Value.long u.1, Value.ref soa, Value.ref sna, Value.ref swa, Value.int xkept, Value.ref ri, Value.ref ro, Value.ref rw, Value.int u.2])), (ri, Sum.inr (0, [Value.int rin, Value.ref ria])), (ria, Sum.inl (cI, rik, Sum.inl rif))]) 0 0 := by
  refine my_ofI (cc := prog_10_method_9_code) (n := 4) (ret := (some .int)) (by decide) rfl (Nat.le_of_ble_eq_true rfl) ?_
  intro p e s m args below meth c R Q A ls H locs hx hb hr hts hown hlocks hml hnm hR hQ hA hl hP hK hN hD hS
  have hg : ∀ w ∈ gw, w.before args s = true := fun w h => hts w (List.mem_cons_of_mem _ h)
  have hown : s.vm.findClass "RangeCoders$Stack" = some m.cls := hown
  have hl : lv_has ls 4 [(0, Value.ref co), (1, Value.int wd)] := hl
  have hlt_hri := rOk_lt hri
  refine lv_aload_n hx hb d_Stack_nextValue_0 rfl (lv_at hl 0 rfl) ?_
  refine va_get (D := (dC, dI)) (ci := 4) (v := .long xreadX) (C := "RangeCoders$Stack") (T := T_Stack) (N := 10) hx hb hg in_Stack hown hK hP 0 rfl rfl 1 (by decide) (hg _ k215) (fun x9 h9 => u_same (hg _ k216) x9 h9) rfl d_Stack_nextValue_1 ?_
  refine lv_ldc2 (v := 4095) hx hb hown (hg _ k833) d_Stack_nextValue_4 ?_
  refine lv_land hx hb d_Stack_nextValue_7 ?_
  refine lv_topl (fun v_1 ev_1 => ?_)
  refine lv_l2i hx hb d_Stack_nextValue_8 rfl ?_
  refine lv_topi (fun v_2 ev_2 => ?_)
  refine lv_istore_n (lv' := [(2, Value.int v_2), (0, Value.ref co), (1, Value.int wd)]) hx hb d_Stack_nextValue_9 rfl hl (by decide) rfl (fun ls hl => ?_)
  refine lv_sipush (v := 4096) hx hb d_Stack_nextValue_10 (by decide) ?_
  refine lv_iload_n hx hb d_Stack_nextValue_13 rfl (lv_at hl 2 rfl) ?_
  refine lv_ishr hx hb d_Stack_nextValue_14 ?_
  refine lv_topi (fun v_3 ev_3 => ?_)
  refine lv_istore_n (lv' := [(3, Value.int v_3), (2, Value.int v_2), (0, Value.ref co), (1, Value.int wd)]) hx hb d_Stack_nextValue_15 rfl hl (by decide) rfl (fun ls hl => ?_)
  refine lv_iload_n hx hb d_Stack_nextValue_16 rfl (lv_at hl 0 rfl) ?_
  refine lv_if_gt (tgt := 22) hx hb d_Stack_nextValue_17 (by decide) (fun c_4 => ?_) (fun c_4 => ?_)
  · refine lv_aload_n hx hb d_Stack_nextValue_22 rfl (lv_at hl 2 rfl) ?_
    refine lv_iload_n hx hb d_Stack_nextValue_23 rfl (lv_at hl 0 rfl) ?_
    refine lv_iload_n hx hb d_Stack_nextValue_24 rfl (lv_at hl 1 rfl) ?_
    refine lv_iload_n hx hb d_Stack_nextValue_25 rfl (lv_at hl 0 rfl) ?_
    refine lv_irem hx hb d_Stack_nextValue_26 (by first | decide | exact I_nzp (by assumption) | exact I_nz (by assumption)) ?_
    refine lv_topi (fun v_5 ev_5 => ?_)
    refine my_cv (wr := []) (va_runV (As := [Value.int v_3, Value.int v_5]) (rest := []) ⟨hx, hb, hml, hown, hts⟩ (c_Stack_Stack_unstackPart l dC dI cI cM cO H.size co xx xreadX soa sna swa xkept ri ro rw xasked rin ria rik rif v_3 v_5 (by first | assumption | omega)) (cwV 2 hts (my_gV k835 k837 ks16 k10 k838) rfl rfl rfl cu_Stack_unstackPart_2 ⟨by rw [hR]; exact Nat.le_of_ble_eq_true rfl, by rw [hR]; exact Nat.le_of_ble_eq_true rfl⟩) (my_preV hK hN (hP.sub [0, 1, 2] rfl) (hD.sub [0, 1, 2] (by decide +kernel) rfl) 0 rfl rfl) rfl rfl hl.1 rfl (lv_room (Nat.le_of_ble_eq_true rfl)) d_Stack_nextValue_27 ⟨by rw [hR]; exact Nat.le_of_ble_eq_true rfl, by rw [hR]; exact Nat.le_of_ble_eq_true rfl⟩) hP hD hS hA [0, 1, 2] [] rfl rfl (by decide +kernel) (by decide +kernel) (fun u9 H locs hw_27 hP hD hS => ?_)
    obtain ⟨xreadXq_27, xaskedq_27⟩ := u9
    have hPD : my_PD (dC, dI) vwCl A [(co, Sum.inr (4, [Value.long xx, Value.long xreadXq_27, Value.ref soa, Value.ref sna, Value.ref swa, Value.int xkept, Value.ref ri, Value.ref ro, Value.ref rw, Value.int xaskedq_27])), (ri, Sum.inr (0, [Value.int rin, Value.ref ria])), (ria, Sum.inl (cI, rik, Sum.inl rif))] H := ⟨hP, hD⟩
    have hP := hPD.1
    have hD := hPD.2
    refine lv_iload_n hx hb d_Stack_nextValue_30 rfl (lv_at hl 1 rfl) ?_
    refine lv_iload_n hx hb d_Stack_nextValue_31 rfl (lv_at hl 0 rfl) ?_
    refine lv_idiv hx hb d_Stack_nextValue_32 (by first | decide | exact I_nzp (by assumption) | exact I_nz (by assumption)) ?_
    refine lv_topi (fun v_6 ev_6 => ?_)
    exact my_iret (v := v_6) hx hb hr (rfl) hlocks hQ hK hS (Nat.le_refl _) (Nat.le_refl _) (xreadXq_27, xaskedq_27) (trivial) (hP.sub [0, 1, 2] rfl) (hD.sub [0, 1, 2] (by decide +kernel) rfl) d_Stack_nextValue_33
  · refine lv_iconst (v := (-1)) hx hb d_Stack_nextValue_20 (by decide) ?_
    exact my_iret (v := (-1)) hx hb hr (rfl) hlocks hQ hK hS (Nat.le_refl _) (Nat.le_refl _) (xreadX, xasked) (trivial) (hP.sub [0, 1, 2] rfl) (hD.sub [0, 1, 2] (by decide +kernel) rfl) d_Stack_nextValue_21
end
section
set_option maxHeartbeats 2000000 in
set_option maxRecDepth 100000 in
theorem c_Table_Stacked_register (l : Launch) (dC : Nat → ClassId) (dI : Nat → Nat → Nat) (cI cM cO : ClassId) (sz : Nat) (co : Nat) (xx : Int64) (xreadX : Int64) (soa : Nat) (sna : Nat) (swa : Nat) (xkept : Int32) (ri : Nat) (ro : Nat) (rw : Nat) (xasked : Int32) (wh : Int32) : MetL l y_Stacked_register (Cond.code y_Stacked_register prog_11_method_10_code 2 (some .long) :: gw) ({ frames := 0, cells := 0, slots := 0, locals := 0 } : Room) (dC, dI) vwCl (kT cI cM cO) [Value.ref co, Value.int wh] [(co, Sum.inr (5, [Value.long xx, Value.long xreadX, Value.ref soa, Value.ref sna, Value.ref swa, Value.int xkept, Value.ref ri, Value.ref ro, Value.ref rw, Value.int xasked]))] sz (fun (r : Int64) (u : Unit) => True) (fun (u : Unit) => [(co, Sum.inr (5, [Value.long xx, Value.long xreadX, Value.ref soa, Value.ref sna, Value.ref swa, Value.int xkept, Value.ref ri, Value.ref ro, Value.ref rw, Value.int xasked]))]) 0 0 := by
  refine my_ofL (cc := prog_11_method_10_code) (n := 2) (ret := (some .long)) (by decide) rfl (Nat.le_of_ble_eq_true rfl) ?_
  intro p e s m args below meth c R Q A ls H locs hx hb hr hts hown hlocks hml hnm hR hQ hA hl hP hK hN hD hS
  have hg : ∀ w ∈ gw, w.before args s = true := fun w h => hts w (List.mem_cons_of_mem _ h)
  have hown : s.vm.findClass "RangeCoders$Stacked" = some m.cls := hown
  have hl : lv_has ls 2 [(0, Value.ref co), (1, Value.int wh)] := hl
  refine lv_iload_n hx hb d_Stacked_register_0 rfl (lv_at hl 1 rfl) ?_
  refine lv_iconst (v := 5) hx hb d_Stacked_register_1 (by decide) ?_
  refine lv_icmp_ne (tgt := 12) hx hb d_Stacked_register_2 (by decide) (fun c_1 => ?_) (fun c_1 => ?_)
  · refine lv_lconst (v := 0) hx hb d_Stacked_register_12 (by decide) ?_
    exact my_lret (v := 0) hx hb hr hlocks hQ hK hS (Nat.le_refl _) (Nat.le_refl _) () (trivial) (hP.sub [0] rfl) (hD.sub [0] (by decide +kernel) rfl) d_Stacked_register_13
  · refine lv_aload_n hx hb d_Stacked_register_5 rfl (lv_at hl 0 rfl) ?_
    refine va_get (D := (dC, dI)) (ci := 5) (v := .long xreadX) (C := "RangeCoders$Table") (T := T_Table) (N := 10) hx hb hg in_Table hown hK hP 0 rfl rfl 1 (by decide) (hg _ k217) (fun _ h9 => h9) rfl d_Stacked_register_6 ?_
    refine lv_goto (tgt := 13) hx hb d_Stacked_register_9 (by decide) ?_
    exact my_lret (v := xreadX) hx hb hr hlocks hQ hK hS (Nat.le_refl _) (Nat.le_refl _) () (trivial) (hP.sub [0] rfl) (hD.sub [0] (by decide +kernel) rfl) d_Stacked_register_13
set_option maxHeartbeats 2000000 in
set_option maxRecDepth 100000 in
theorem c_Table_Table_prepare (l : Launch) (dC : Nat → ClassId) (dI : Nat → Nat → Nat) (cI cM cO : ClassId) (sz : Nat) (co : Nat) (xx : Int64) (xreadX : Int64) (soa : Nat) (sna : Nat) (swa : Nat) (xkept : Int32) (ri : Nat) (ro : Nat) (rw : Nat) (xasked : Int32) (oo : Nat) (osg : Int32) (osm : Int32) (ofc : Int32) (oca : Nat) (opa : Nat) (ol : Nat) (ocf : Nat → Int32) (opl : Nat) (opf : Nat → Int32) (ka : Nat) (kl : Nat) (kf : Nat → Int32) (hol : ol ≤ 64) (hopl : opl ≤ 512) (hol0 : 1 ≤ ol) (hkl : kl ≤ 64) : MetV l y_Table_prepare (Cond.code y_Table_prepare prog_12_method_3_code 3 none :: gw) ({ frames := 3, cells := 0, slots := 0, locals := 67 } : Room) (dC, dI) vwCl (kT cI cM cO) [Value.ref co, Value.ref oo, Value.ref ka] [(co, Sum.inr (5, [Value.long xx, Value.long xreadX, Value.ref soa, Value.ref sna, Value.ref swa, Value.int xkept, Value.ref ri, Value.ref ro, Value.ref rw, Value.int xasked])), (oo, Sum.inr (7, [Value.int osg, Value.int osm, Value.int ofc, Value.ref oca, Value.ref opa])), (oca, Sum.inl (cI, ol, Sum.inl ocf)), (opa, Sum.inl (cI, opl, Sum.inl opf)), (ka, Sum.inl (cI, kl, Sum.inl kf))] sz (fun (u : Int32 × (Nat → Int32) × (Nat → Int32)) => True) (fun (u : Int32 × (Nat → Int32) × (Nat → Int32)) => [(co, Sum.inr (5, [Value.long xx, Value.long xreadX, Value.ref soa, Value.ref sna, Value.ref swa, Value.int xkept, Value.ref ri, Value.ref ro, Value.ref rw, Value.int xasked])), (oo, Sum.inr (7, [Value.int osg, Value.int u.1, Value.int ofc, Value.ref oca, Value.ref opa])), (oca, Sum.inl (cI, ol, Sum.inl u.2.1)), (opa, Sum.inl (cI, opl, Sum.inl u.2.2)), (ka, Sum.inl (cI, kl, Sum.inl kf))]) 0 0 := by
  refine my_ofV (cc := prog_12_method_3_code) (n := 3) (ret := none) (by decide) rfl (Nat.le_of_ble_eq_true rfl) ?_
  intro p e s m args below meth c R Q A ls H locs hx hb hr hts hown hlocks hml hnm hR hQ hA hl hP hK hN hD hS
  have hg : ∀ w ∈ gw, w.before args s = true := fun w h => hts w (List.mem_cons_of_mem _ h)
  have hown : s.vm.findClass "RangeCoders$Table" = some m.cls := hown
  have hl : lv_has ls 3 [(0, Value.ref co), (1, Value.ref oo), (2, Value.ref ka)] := hl
  refine lv_aload_n hx hb d_Table_prepare_0 rfl (lv_at hl 1 rfl) ?_
  refine lv_sipush (v := 512) hx hb d_Table_prepare_1 (by decide) ?_
  refine lv_aload_n hx hb d_Table_prepare_4 rfl (lv_at hl 2 rfl) ?_
  refine my_cv (wr := [(co, Sum.inr (5, [Value.long xx, Value.long xreadX, Value.ref soa, Value.ref sna, Value.ref swa, Value.int xkept, Value.ref ri, Value.ref ro, Value.ref rw, Value.int xasked]))]) (va_runV (As := [Value.int 512, Value.ref ka]) (rest := []) ⟨hx, hb, hml, hown, hts⟩ (c_Odds_scaleTo l dC dI cI cM cO H.size oo osg osm ofc oca opa ol ocf opl opf 512 ka kl kf (by first | assumption | omega) (by first | assumption | omega) (by first | assumption | omega) (by first | assumption | omega)) (cwV 2 hts (my_gV k403 k384 k385 k14 k386) rfl rfl rfl cu_Odds_scaleTo_2 ⟨by rw [hR]; exact Nat.le_of_ble_eq_true rfl, by rw [hR]; exact Nat.le_of_ble_eq_true rfl⟩) (my_preV hK hN (hP.sub [1, 2, 3, 4] rfl) (hD.sub [1, 2, 3, 4] (by decide +kernel) rfl) 0 rfl rfl) rfl rfl hl.1 rfl (lv_room (Nat.le_of_ble_eq_true rfl)) d_Table_prepare_5 ⟨by rw [hR]; exact Nat.le_of_ble_eq_true rfl, by rw [hR]; exact Nat.le_of_ble_eq_true rfl⟩) hP hD hS hA [1, 2, 3, 4] [0] rfl rfl (by decide +kernel) (by decide +kernel) (fun u9 H locs hw_5 hP hD hS => ?_)
  obtain ⟨osmq_5, ocfq_5⟩ := u9
  have hPD : my_PD (dC, dI) vwCl A [(co, Sum.inr (5, [Value.long xx, Value.long xreadX, Value.ref soa, Value.ref sna, Value.ref swa, Value.int xkept, Value.ref ri, Value.ref ro, Value.ref rw, Value.int xasked])), (oo, Sum.inr (7, [Value.int osg, Value.int osmq_5, Value.int ofc, Value.ref oca, Value.ref opa])), (oca, Sum.inl (cI, ol, Sum.inl ocfq_5)), (opa, Sum.inl (cI, opl, Sum.inl opf)), (ka, Sum.inl (cI, kl, Sum.inl kf))] H := ⟨hP, hD⟩
  have hP := hPD.1
  have hD := hPD.2
  refine lv_aload_n hx hb d_Table_prepare_8 rfl (lv_at hl 1 rfl) ?_
  refine my_cv (wr := [(co, Sum.inr (5, [Value.long xx, Value.long xreadX, Value.ref soa, Value.ref sna, Value.ref swa, Value.int xkept, Value.ref ri, Value.ref ro, Value.ref rw, Value.int xasked])), (ka, Sum.inl (cI, kl, Sum.inl kf))]) (va_runV (As := []) (rest := []) ⟨hx, hb, hml, hown, hts⟩ (c_Odds_spread l dC dI cI cM cO H.size oo osg osmq_5 ofc oca opa ol ocfq_5 opl opf (by first | assumption | omega) (by first | assumption | omega)) (cwV 0 hts (my_gV k404 k405 k406 k14 k407) rfl rfl rfl cu_Odds_spread_0 ⟨by rw [hR]; exact Nat.le_of_ble_eq_true rfl, by rw [hR]; exact Nat.le_of_ble_eq_true rfl⟩) (my_preV hK hN (hP.sub [1, 2, 3] rfl) (hD.sub [1, 2, 3] (by decide +kernel) rfl) 0 rfl rfl) rfl rfl hl.1 rfl (lv_room (Nat.le_of_ble_eq_true rfl)) d_Table_prepare_9 ⟨by rw [hR]; exact Nat.le_of_ble_eq_true rfl, by rw [hR]; exact Nat.le_of_ble_eq_true rfl⟩) hP hD hS hA [1, 2, 3] [0, 4] rfl rfl (by decide +kernel) (by decide +kernel) (fun u9 H locs hw_9 hP hD hS => ?_)
  obtain ⟨opfq_9, rfl⟩ : ∃ z, z = u9 := ⟨_, rfl⟩
  have hPD : my_PD (dC, dI) vwCl A [(co, Sum.inr (5, [Value.long xx, Value.long xreadX, Value.ref soa, Value.ref sna, Value.ref swa, Value.int xkept, Value.ref ri, Value.ref ro, Value.ref rw, Value.int xasked])), (ka, Sum.inl (cI, kl, Sum.inl kf)), (oo, Sum.inr (7, [Value.int osg, Value.int osmq_5, Value.int ofc, Value.ref oca, Value.ref opa])), (oca, Sum.inl (cI, ol, Sum.inl ocfq_5)), (opa, Sum.inl (cI, opl, Sum.inl opfq_9))] H := ⟨hP, hD⟩
  have hP := hPD.1
  have hD := hPD.2
  exact my_vret hx hb hr hlocks hQ hK hS (Nat.le_refl _) (Nat.le_refl _) (osmq_5, ocfq_5, opfq_9) (trivial) (hP.sub [0, 2, 3, 4, 1] rfl) (hD.sub [0, 2, 3, 4, 1] (by decide +kernel) rfl) d_Table_prepare_12
set_option maxHeartbeats 2000000 in
set_option maxRecDepth 100000 in
theorem c_Table_Table_hasWidth (l : Launch) (dC : Nat → ClassId) (dI : Nat → Nat → Nat) (cI cM cO : ClassId) (sz : Nat) (co : Nat) (xx : Int64) (xreadX : Int64) (soa : Nat) (sna : Nat) (swa : Nat) (xkept : Int32) (ri : Nat) (ro : Nat) (rw : Nat) (xasked : Int32) (wd : Int32) : MetI l y_Table_hasWidth (Cond.code y_Table_hasWidth prog_12_method_4_code 2 (some .boolean) :: gw) ({ frames := 0, cells := 0, slots := 0, locals := 0 } : Room) (dC, dI) vwCl (kT cI cM cO) [Value.ref co, Value.int wd] [(co, Sum.inr (5, [Value.long xx, Value.long xreadX, Value.ref soa, Value.ref sna, Value.ref swa, Value.int xkept, Value.ref ri, Value.ref ro, Value.ref rw, Value.int xasked]))] sz (fun (r : Int32) (u : Unit) => True) (fun (u : Unit) => [(co, Sum.inr (5, [Value.long xx, Value.long xreadX, Value.ref soa, Value.ref sna, Value.ref swa, Value.int xkept, Value.ref ri, Value.ref ro, Value.ref rw, Value.int xasked]))]) 0 0 := by
  refine my_ofI (cc := prog_12_method_4_code) (n := 2) (ret := (some .boolean)) (by decide) rfl (Nat.le_of_ble_eq_true rfl) ?_
  intro p e s m args below meth c R Q A ls H locs hx hb hr hts hown hlocks hml hnm hR hQ hA hl hP hK hN hD hS
  have hg : ∀ w ∈ gw, w.before args s = true := fun w h => hts w (List.mem_cons_of_mem _ h)
  have hown : s.vm.findClass "RangeCoders$Table" = some m.cls := hown
  have hl : lv_has ls 2 [(0, Value.ref co), (1, Value.int wd)] := hl
  refine lv_iload_n hx hb d_Table_hasWidth_0 rfl (lv_at hl 1 rfl) ?_
  refine lv_iconst (v := 1) hx hb d_Table_hasWidth_1 (by decide) ?_
  refine lv_icmp_lt (tgt := 15) hx hb d_Table_hasWidth_2 (by decide) (fun c_1 => ?_) (fun c_1 => ?_)
  · refine lv_iconst (v := 0) hx hb d_Table_hasWidth_15 (by decide) ?_
    exact my_iret (v := 0) hx hb hr (rfl) hlocks hQ hK hS (Nat.le_refl _) (Nat.le_refl _) () (trivial) (hP.sub [0] rfl) (hD.sub [0] (by decide +kernel) rfl) d_Table_hasWidth_16
  · refine lv_iload_n hx hb d_Table_hasWidth_5 rfl (lv_at hl 1 rfl) ?_
    refine lv_bipush (v := 9) hx hb d_Table_hasWidth_6 (by decide) ?_
    refine lv_icmp_gt (tgt := 15) hx hb d_Table_hasWidth_8 (by decide) (fun c_2 => ?_) (fun c_2 => ?_)
    · refine lv_iconst (v := 0) hx hb d_Table_hasWidth_15 (by decide) ?_
      exact my_iret (v := 0) hx hb hr (rfl) hlocks hQ hK hS (Nat.le_refl _) (Nat.le_refl _) () (trivial) (hP.sub [0] rfl) (hD.sub [0] (by decide +kernel) rfl) d_Table_hasWidth_16
    · refine lv_iconst (v := 1) hx hb d_Table_hasWidth_11 (by decide) ?_
      refine lv_goto (tgt := 16) hx hb d_Table_hasWidth_12 (by decide) ?_
      exact my_iret (v := 1) hx hb hr (rfl) hlocks hQ hK hS (Nat.le_refl _) (Nat.le_refl _) () (trivial) (hP.sub [0] rfl) (hD.sub [0] (by decide +kernel) rfl) d_Table_hasWidth_16
set_option maxHeartbeats 2000000 in
set_option maxRecDepth 100000 in
theorem c_Table_Table_bytesAsked (l : Launch) (dC : Nat → ClassId) (dI : Nat → Nat → Nat) (cI cM cO : ClassId) (sz : Nat) (co : Nat) (xx : Int64) (xreadX : Int64) (soa : Nat) (sna : Nat) (swa : Nat) (xkept : Int32) (ri : Nat) (ro : Nat) (rw : Nat) (xasked : Int32) : MetI l y_Table_bytesAsked (Cond.code y_Table_bytesAsked prog_12_method_5_code 1 (some .int) :: gw) ({ frames := 0, cells := 0, slots := 0, locals := 0 } : Room) (dC, dI) vwCl (kT cI cM cO) [Value.ref co] [(co, Sum.inr (5, [Value.long xx, Value.long xreadX, Value.ref soa, Value.ref sna, Value.ref swa, Value.int xkept, Value.ref ri, Value.ref ro, Value.ref rw, Value.int xasked]))] sz (fun (r : Int32) (u : Unit) => True) (fun (u : Unit) => [(co, Sum.inr (5, [Value.long xx, Value.long xreadX, Value.ref soa, Value.ref sna, Value.ref swa, Value.int xkept, Value.ref ri, Value.ref ro, Value.ref rw, Value.int xasked]))]) 0 0 := by
  refine my_ofI (cc := prog_12_method_5_code) (n := 1) (ret := (some .int)) (by decide) rfl (Nat.le_of_ble_eq_true rfl) ?_
  intro p e s m args below meth c R Q A ls H locs hx hb hr hts hown hlocks hml hnm hR hQ hA hl hP hK hN hD hS
  have hg : ∀ w ∈ gw, w.before args s = true := fun w h => hts w (List.mem_cons_of_mem _ h)
  have hown : s.vm.findClass "RangeCoders$Table" = some m.cls := hown
  have hl : lv_has ls 1 [(0, Value.ref co)] := hl
  refine lv_aload_n hx hb d_Table_bytesAsked_0 rfl (lv_at hl 0 rfl) ?_
  refine va_get (D := (dC, dI)) (ci := 5) (v := .int xasked) (C := "RangeCoders$Table") (T := T_Table) (N := 10) hx hb hg in_Table hown hK hP 0 rfl rfl 9 (by decide) (hg _ k126) (fun x9 h9 => u_same (hg _ k127) x9 h9) rfl d_Table_bytesAsked_1 ?_
  refine lv_bipush (v := 7) hx hb d_Table_bytesAsked_4 (by decide) ?_
  refine lv_iadd hx hb d_Table_bytesAsked_6 ?_
  refine lv_topi (fun v_1 ev_1 => ?_)
  refine lv_bipush (v := 8) hx hb d_Table_bytesAsked_7 (by decide) ?_
  refine lv_idiv hx hb d_Table_bytesAsked_9 (by first | decide | exact I_nzp (by assumption) | exact I_nz (by assumption)) ?_
  refine lv_topi (fun v_2 ev_2 => ?_)
  exact my_iret (v := v_2) hx hb hr (rfl) hlocks hQ hK hS (Nat.le_refl _) (Nat.le_refl _) () (trivial) (hP.sub [0] rfl) (hD.sub [0] (by decide +kernel) rfl) d_Table_bytesAsked_10
set_option maxHeartbeats 2000000 in
set_option maxRecDepth 100000 in
theorem c_Table_Table_nextInBit (l : Launch) (dC : Nat → ClassId) (dI : Nat → Nat → Nat) (cI cM cO : ClassId) (sz : Nat) (co : Nat) (xx : Int64) (xreadX : Int64) (soa : Nat) (sna : Nat) (swa : Nat) (xkept : Int32) (ri : Nat) (ro : Nat) (rw : Nat) (xasked : Int32) (rin : Int32) (ria : Nat) (rik : Nat) (rif : Nat → Int32) (hri : rOk rin rik) : MetI l y_Table_nextInBit (Cond.code y_Table_nextInBit prog_12_method_14_code 3 (some .int) :: gw) ({ frames := 2, cells := 0, slots := 0, locals := 42 } : Room) (dC, dI) vwCl (kT cI cM cO) [Value.ref co] [(co, Sum.inr (5, [Value.long xx, Value.long xreadX, Value.ref soa, Value.ref sna, Value.ref swa, Value.int xkept, Value.ref ri, Value.ref ro, Value.ref rw, Value.int xasked])), (ri, Sum.inr (0, [Value.int rin, Value.ref ria])), (ria, Sum.inl (cI, rik, Sum.inl rif))] sz (fun (r : Int32) (u : Int32) => True) (fun (u : Int32) => [(co, Sum.inr (5, [Value.long xx, Value.long xreadX, Value.ref soa, Value.ref sna, Value.ref swa, Value.int xkept, Value.ref ri, Value.ref ro, Value.ref rw, Value.int u])), (ri, Sum.inr (0, [Value.int rin, Value.ref ria])), (ria, Sum.inl (cI, rik, Sum.inl rif))]) 0 0 := by
  refine my_ofI (cc := prog_12_method_14_code) (n := 3) (ret := (some .int)) (by decide) rfl (Nat.le_of_ble_eq_true rfl) ?_
  intro p e s m args below meth c R Q A ls H locs hx hb hr hts hown hlocks hml hnm hR hQ hA hl hP hK hN hD hS
  have hg : ∀ w ∈ gw, w.before args s = true := fun w h => hts w (List.mem_cons_of_mem _ h)
  have hown : s.vm.findClass "RangeCoders$Table" = some m.cls := hown
  have hl : lv_has ls 3 [(0, Value.ref co)] := hl
  have hlt_hri := rOk_lt hri
  refine lv_aload_n hx hb d_Table_nextInBit_0 rfl (lv_at hl 0 rfl) ?_
  refine va_get (D := (dC, dI)) (ci := 5) (v := .int xasked) (C := "RangeCoders$Table") (T := T_Table) (N := 10) hx hb hg in_Table hown hK hP 0 rfl rfl 9 (by decide) (hg _ k126) (fun x9 h9 => u_same (hg _ k127) x9 h9) rfl d_Table_nextInBit_1 ?_
  refine lv_bipush (v := 8) hx hb d_Table_nextInBit_4 (by decide) ?_
  refine lv_idiv hx hb d_Table_nextInBit_6 (by first | decide | exact I_nzp (by assumption) | exact I_nz (by assumption)) ?_
  refine lv_topi (fun v_1 ev_1 => ?_)
  refine lv_istore_n (lv' := [(1, Value.int v_1), (0, Value.ref co)]) hx hb d_Table_nextInBit_7 rfl hl (by decide) rfl (fun ls hl => ?_)
  refine lv_aload_n hx hb d_Table_nextInBit_8 rfl (lv_at hl 1 rfl) ?_
  refine va_get (D := (dC, dI)) (ci := 5) (v := .ref ri) (C := "RangeCoders$Table") (T := T_Table) (N := 10) hx hb hg in_Table hown hK hP 0 rfl rfl 6 (by decide) (hg _ k103) (fun x9 h9 => u_same (hg _ k104) x9 h9) rfl d_Table_nextInBit_9 ?_
  refine lv_iload_n hx hb d_Table_nextInBit_12 rfl (lv_at hl 0 rfl) ?_
  refine my_ci (wr := [(co, Sum.inr (5, [Value.long xx, Value.long xreadX, Value.ref soa, Value.ref sna, Value.ref swa, Value.int xkept, Value.ref ri, Value.ref ro, Value.ref rw, Value.int xasked]))]) (va_runV (As := [Value.int v_1]) (rest := []) ⟨hx, hb, hml, hown, hts⟩ (c_Row_has l dC dI cI cM cO H.size ri rin ria rik rif v_1 (by first | assumption | omega)) (cwV 1 hts (my_gV k676 k663 k664 k6 k665) rfl rfl rfl cu_Row_has_1 ⟨by rw [hR]; exact Nat.le_of_ble_eq_true rfl, by rw [hR]; exact Nat.le_of_ble_eq_true rfl⟩) (my_preV hK hN (hP.sub [1, 2] rfl) (hD.sub [1, 2] (by decide +kernel) rfl) 0 rfl rfl) rfl rfl hl.1 rfl (lv_room (Nat.le_of_ble_eq_true rfl)) d_Table_nextInBit_13 ⟨by rw [hR]; exact Nat.le_of_ble_eq_true rfl, by rw [hR]; exact Nat.le_of_ble_eq_true rfl⟩) hP hD hS hA [1, 2] [0] rfl rfl (by decide +kernel) (by decide +kernel) (fun r_13 u9 H locs hw_13 hP hD hS => ?_)
  have hr_13 : r_13 ≠ 0 → vp_in v_1 rik := hw_13
  have hPD : my_PD (dC, dI) vwCl A [(co, Sum.inr (5, [Value.long xx, Value.long xreadX, Value.ref soa, Value.ref sna, Value.ref swa, Value.int xkept, Value.ref ri, Value.ref ro, Value.ref rw, Value.int xasked])), (ri, Sum.inr (0, [Value.int rin, Value.ref ria])), (ria, Sum.inl (cI, rik, Sum.inl rif))] H := ⟨hP, hD⟩
  have hP := hPD.1
  have hD := hPD.2
  refine lv_if_eq (tgt := 43) hx hb d_Table_nextInBit_16 (by decide) (fun c_2 => ?_) (fun c_2 => ?_)
  · refine lv_iconst (v := 0) hx hb d_Table_nextInBit_43 (by decide) ?_
    refine lv_istore_n (lv' := [(2, Value.int 0), (1, Value.int v_1), (0, Value.ref co)]) hx hb d_Table_nextInBit_44 rfl hl (by decide) rfl (fun ls hl => ?_)
    refine lv_aload_n hx hb d_Table_nextInBit_45 rfl (lv_at hl 2 rfl) ?_
    refine lv_dup hx hb d_Table_nextInBit_46 rfl ?_
    refine va_get (D := (dC, dI)) (ci := 5) (v := .int xasked) (C := "RangeCoders$Table") (T := T_Table) (N := 10) hx hb hg in_Table hown hK hP 0 rfl rfl 9 (by decide) (hg _ k126) (fun x9 h9 => u_same (hg _ k127) x9 h9) rfl d_Table_nextInBit_47 ?_
    refine lv_iconst (v := 1) hx hb d_Table_nextInBit_50 (by decide) ?_
    refine lv_iadd hx hb d_Table_nextInBit_51 ?_
    refine lv_topi (fun v_3 ev_3 => ?_)
    refine va_put (D := (dC, dI)) (ci := 5) (v := .int v_3) (ty := .int) (C := "RangeCoders$Table") (T := T_Table) (N := 10) hx hb hg in_Table t_Table o_Table n_Table hown hK hP hD hS 0 rfl rfl 9 (by decide) (hg _ k126) (fun x9 h9 => u_same (hg _ k127) x9 h9) rfl (o_Table 9 (by decide)) rfl rfl (Nat.le_of_ble_eq_true rfl) d_Table_nextInBit_52 (fun H locs hP hD hS => ?_)
    have hPD : my_PD (dC, dI) vwCl A [(co, Sum.inr (5, [Value.long xx, Value.long xreadX, Value.ref soa, Value.ref sna, Value.ref swa, Value.int xkept, Value.ref ri, Value.ref ro, Value.ref rw, Value.int v_3])), (ri, Sum.inr (0, [Value.int rin, Value.ref ria])), (ria, Sum.inl (cI, rik, Sum.inl rif))] H := ⟨hP, hD⟩
    have hP := hPD.1
    have hD := hPD.2
    refine lv_iload_n hx hb d_Table_nextInBit_55 rfl (lv_at hl 0 rfl) ?_
    exact my_iret (v := 0) hx hb hr (rfl) hlocks hQ hK hS (Nat.le_refl _) (Nat.le_refl _) (v_3) (trivial) (hP.sub [0, 1, 2] rfl) (hD.sub [0, 1, 2] (by decide +kernel) rfl) d_Table_nextInBit_56
  · refine lv_aload_n hx hb d_Table_nextInBit_19 rfl (lv_at hl 1 rfl) ?_
    refine va_get (D := (dC, dI)) (ci := 5) (v := .ref ri) (C := "RangeCoders$Table") (T := T_Table) (N := 10) hx hb hg in_Table hown hK hP 0 rfl rfl 6 (by decide) (hg _ k103) (fun x9 h9 => u_same (hg _ k104) x9 h9) rfl d_Table_nextInBit_20 ?_
    refine lv_iload_n hx hb d_Table_nextInBit_23 rfl (lv_at hl 0 rfl) ?_
    refine my_ci (wr := [(co, Sum.inr (5, [Value.long xx, Value.long xreadX, Value.ref soa, Value.ref sna, Value.ref swa, Value.int xkept, Value.ref ri, Value.ref ro, Value.ref rw, Value.int xasked]))]) (va_runV (As := [Value.int v_1]) (rest := []) ⟨hx, hb, hml, hown, hts⟩ (c_Row_at l dC dI cI cM cO H.size ri rin ria rik rif v_1 (by first | assumption | omega)) (cwV 1 hts (my_gV k677 k659 k660 k6 k661) rfl rfl rfl cu_Row_at_1 ⟨by rw [hR]; exact Nat.le_of_ble_eq_true rfl, by rw [hR]; exact Nat.le_of_ble_eq_true rfl⟩) (my_preV hK hN (hP.sub [1, 2] rfl) (hD.sub [1, 2] (by decide +kernel) rfl) 0 rfl rfl) rfl rfl hl.1 rfl (lv_room (Nat.le_of_ble_eq_true rfl)) d_Table_nextInBit_24 ⟨by rw [hR]; exact Nat.le_of_ble_eq_true rfl, by rw [hR]; exact Nat.le_of_ble_eq_true rfl⟩) hP hD hS hA [1, 2] [0] rfl rfl (by decide +kernel) (by decide +kernel) (fun r_24 u9 H locs hw_24 hP hD hS => ?_)
    have hPD : my_PD (dC, dI) vwCl A [(co, Sum.inr (5, [Value.long xx, Value.long xreadX, Value.ref soa, Value.ref sna, Value.ref swa, Value.int xkept, Value.ref ri, Value.ref ro, Value.ref rw, Value.int xasked])), (ri, Sum.inr (0, [Value.int rin, Value.ref ria])), (ria, Sum.inl (cI, rik, Sum.inl rif))] H := ⟨hP, hD⟩
    have hP := hPD.1
    have hD := hPD.2
    refine lv_bipush (v := 7) hx hb d_Table_nextInBit_27 (by decide) ?_
    refine lv_aload_n hx hb d_Table_nextInBit_29 rfl (lv_at hl 1 rfl) ?_
    refine va_get (D := (dC, dI)) (ci := 5) (v := .int xasked) (C := "RangeCoders$Table") (T := T_Table) (N := 10) hx hb hg in_Table hown hK hP 0 rfl rfl 9 (by decide) (hg _ k126) (fun x9 h9 => u_same (hg _ k127) x9 h9) rfl d_Table_nextInBit_30 ?_
    refine lv_bipush (v := 8) hx hb d_Table_nextInBit_33 (by decide) ?_
    refine lv_irem hx hb d_Table_nextInBit_35 (by first | decide | exact I_nzp (by assumption) | exact I_nz (by assumption)) ?_
    refine lv_topi (fun v_4 ev_4 => ?_)
    refine lv_isub hx hb d_Table_nextInBit_36 ?_
    refine lv_topi (fun v_5 ev_5 => ?_)
    refine lv_iushr hx hb d_Table_nextInBit_37 rfl ?_
    refine lv_topi (fun v_6 ev_6 => ?_)
    refine lv_iconst (v := 1) hx hb d_Table_nextInBit_38 (by decide) ?_
    refine lv_iand hx hb d_Table_nextInBit_39 ?_
    refine lv_topi (fun v_7 ev_7 => ?_)
    refine lv_goto (tgt := 44) hx hb d_Table_nextInBit_40 (by decide) ?_
    refine lv_istore_n (lv' := [(2, Value.int v_7), (1, Value.int v_1), (0, Value.ref co)]) hx hb d_Table_nextInBit_44 rfl hl (by decide) rfl (fun ls hl => ?_)
    refine lv_aload_n hx hb d_Table_nextInBit_45 rfl (lv_at hl 2 rfl) ?_
    refine lv_dup hx hb d_Table_nextInBit_46 rfl ?_
    refine va_get (D := (dC, dI)) (ci := 5) (v := .int xasked) (C := "RangeCoders$Table") (T := T_Table) (N := 10) hx hb hg in_Table hown hK hP 0 rfl rfl 9 (by decide) (hg _ k126) (fun x9 h9 => u_same (hg _ k127) x9 h9) rfl d_Table_nextInBit_47 ?_
    refine lv_iconst (v := 1) hx hb d_Table_nextInBit_50 (by decide) ?_
    refine lv_iadd hx hb d_Table_nextInBit_51 ?_
    refine lv_topi (fun v_8 ev_8 => ?_)
    refine va_put (D := (dC, dI)) (ci := 5) (v := .int v_8) (ty := .int) (C := "RangeCoders$Table") (T := T_Table) (N := 10) hx hb hg in_Table t_Table o_Table n_Table hown hK hP hD hS 0 rfl rfl 9 (by decide) (hg _ k126) (fun x9 h9 => u_same (hg _ k127) x9 h9) rfl (o_Table 9 (by decide)) rfl rfl (Nat.le_of_ble_eq_true rfl) d_Table_nextInBit_52 (fun H locs hP hD hS => ?_)
    have hPD : my_PD (dC, dI) vwCl A [(co, Sum.inr (5, [Value.long xx, Value.long xreadX, Value.ref soa, Value.ref sna, Value.ref swa, Value.int xkept, Value.ref ri, Value.ref ro, Value.ref rw, Value.int v_8])), (ri, Sum.inr (0, [Value.int rin, Value.ref ria])), (ria, Sum.inl (cI, rik, Sum.inl rif))] H := ⟨hP, hD⟩
    have hP := hPD.1
    have hD := hPD.2
    refine lv_iload_n hx hb d_Table_nextInBit_55 rfl (lv_at hl 0 rfl) ?_
    exact my_iret (v := v_7) hx hb hr (rfl) hlocks hQ hK hS (Nat.le_refl _) (Nat.le_refl _) (v_8) (trivial) (hP.sub [0, 1, 2] rfl) (hD.sub [0, 1, 2] (by decide +kernel) rfl) d_Table_nextInBit_56
set_option maxHeartbeats 2000000 in
set_option maxRecDepth 100000 in
theorem c_Table_Table_nextValue (l : Launch) (dC : Nat → ClassId) (dI : Nat → Nat → Nat) (cI cM cO : ClassId) (sz : Nat) (co : Nat) (xx : Int64) (xreadX : Int64) (soa : Nat) (sna : Nat) (swa : Nat) (xkept : Int32) (ri : Nat) (ro : Nat) (rw : Nat) (xasked : Int32) (rin : Int32) (ria : Nat) (rik : Nat) (rif : Nat → Int32) (wd : Int32) (hri : rOk rin rik) : MetI l y_Table_nextValue (Cond.code y_Table_nextValue prog_12_method_12_code 4 (some .int) :: gw) ({ frames := 3, cells := 0, slots := 0, locals := 64 } : Room) (dC, dI) vwCl (kT cI cM cO) [Value.ref co, Value.int wd] [(co, Sum.inr (5, [Value.long xx, Value.long xreadX, Value.ref soa, Value.ref sna, Value.ref swa, Value.int xkept, Value.ref ri, Value.ref ro, Value.ref rw, Value.int xasked])), (ri, Sum.inr (0, [Value.int rin, Value.ref ria])), (ria, Sum.inl (cI, rik, Sum.inl rif))] sz (fun (r : Int32) (u : Int32) => True) (fun (u : Int32) => [(co, Sum.inr (5, [Value.long xx, Value.long xreadX, Value.ref soa, Value.ref sna, Value.ref swa, Value.int xkept, Value.ref ri, Value.ref ro, Value.ref rw, Value.int u])), (ri, Sum.inr (0, [Value.int rin, Value.ref ria])), (ria, Sum.inl (cI, rik, Sum.inl rif))]) 0 0 := by
  refine my_ofI (cc := prog_12_method_12_code) (n := 4) (ret := (some .int)) (by decide) rfl (Nat.le_of_ble_eq_true rfl) ?_
  intro p e s m args below meth c R Q A ls H locs hx hb hr hts hown hlocks hml hnm hR hQ hA hl hP hK hN hD hS
  have hg : ∀ w ∈ gw, w.before args s = true := fun w h => hts w (List.mem_cons_of_mem _ h)
  have hown : s.vm.findClass "RangeCoders$Table" = some m.cls := hown
  have hl : lv_has ls 4 [(0, Value.ref co), (1, Value.int wd)] := hl
  have hlt_hri := rOk_lt hri
  refine lv_iconst (v := 0) hx hb d_Table_nextValue_0 (by decide) ?_
  refine lv_istore_n (lv' := [(2, Value.int 0), (0, Value.ref co), (1, Value.int wd)]) hx hb d_Table_nextValue_1 rfl hl (by decide) rfl (fun ls hl => ?_)
  refine lv_iconst (v := 0) hx hb d_Table_nextValue_2 (by decide) ?_
  refine lv_istore_n (lv' := [(3, Value.int 0), (2, Value.int 0), (0, Value.ref co), (1, Value.int wd)]) hx hb d_Table_nextValue_3 rfl hl (by decide) rfl (fun ls hl => ?_)
  have J_4 : ∀ (n9_4 : Nat) (b4_0 : Int32) (b4_1 : Int32) (b4_2 : Int32) (hn9_4 : (wd.toInt - b4_0.toInt).toNat = n9_4) (hi_4 : 0 ≤ b4_0.toInt) (H : Heap) (locs : List Loc) (ls : Array Slot), va_P (dC, dI) vwCl [(co, Sum.inr (5, [Value.long xx, Value.long xreadX, Value.ref soa, Value.ref sna, Value.ref swa, Value.int xkept, Value.ref ri, Value.ref ro, Value.ref rw, Value.int b4_2])), (ri, Sum.inr (0, [Value.int rin, Value.ref ria])), (ria, Sum.inl (cI, rik, Sum.inl rif))] H → va_D A [(co, Sum.inr (5, [Value.long xx, Value.long xreadX, Value.ref soa, Value.ref sna, Value.ref swa, Value.int xkept, Value.ref ri, Value.ref ro, Value.ref rw, Value.int b4_2])), (ri, Sum.inr (0, [Value.int rin, Value.ref ria])), (ria, Sum.inl (cI, rik, Sum.inl rif))] → va_S A s.heap H locs → lv_has ls 4 [(3, Value.int b4_0), (2, Value.int b4_1), (0, Value.ref co), (1, Value.int wd)] → W p l e R s m args below meth c H locs 0 0 Q (F0 m 4 ls []) := by
    intro n9_4
    induction n9_4 using Nat.strongRecOn with
    | ind n9_4 ih9_4 =>
      intro b4_0 b4_1 b4_2 hn9_4 hi_4 H locs ls hP hD hS hl
      refine lv_iload_n hx hb d_Table_nextValue_4 rfl (lv_at hl 0 rfl) ?_
      refine lv_iload_n hx hb d_Table_nextValue_5 rfl (lv_at hl 3 rfl) ?_
      refine lv_icmp_ge (tgt := 24) hx hb d_Table_nextValue_6 (by decide) (fun c_1 => ?_) (fun c_1 => ?_)
      · refine lv_iload_n hx hb d_Table_nextValue_24 rfl (lv_at hl 1 rfl) ?_
        exact my_iret (v := b4_1) hx hb hr (rfl) hlocks hQ hK hS (Nat.le_refl _) (Nat.le_refl _) (b4_2) (trivial) (hP.sub [0, 1, 2] rfl) (hD.sub [0, 1, 2] (by decide +kernel) rfl) d_Table_nextValue_25
      · refine lv_iconst (v := 2) hx hb d_Table_nextValue_9 (by decide) ?_
        refine lv_iload_n hx hb d_Table_nextValue_10 rfl (lv_at hl 1 rfl) ?_
        refine lv_imul hx hb d_Table_nextValue_11 ?_
        refine lv_topi (fun v_2 ev_2 => ?_)
        refine lv_aload_n hx hb d_Table_nextValue_12 rfl (lv_at hl 2 rfl) ?_
        refine my_ci (wr := []) (va_runV (As := []) (rest := [Value.int v_2]) ⟨hx, hb, hml, hown, hts⟩ (c_Table_Table_nextInBit l dC dI cI cM cO H.size co xx xreadX soa sna swa xkept ri ro rw b4_2 rin ria rik rif (by first | assumption | omega)) (cwV 0 hts (my_gV k767 k769 ks12 k11 k770) rfl rfl rfl cu_Table_nextInBit_0 ⟨by rw [hR]; exact Nat.le_of_ble_eq_true rfl, by rw [hR]; exact Nat.le_of_ble_eq_true rfl⟩) (my_preV hK hN (hP.sub [0, 1, 2] rfl) (hD.sub [0, 1, 2] (by decide +kernel) rfl) 0 rfl rfl) rfl rfl hl.1 rfl (lv_room (Nat.le_of_ble_eq_true rfl)) d_Table_nextValue_13 ⟨by rw [hR]; exact Nat.le_of_ble_eq_true rfl, by rw [hR]; exact Nat.le_of_ble_eq_true rfl⟩) hP hD hS hA [0, 1, 2] [] rfl rfl (by decide +kernel) (by decide +kernel) (fun r_13 u9 H locs hw_13 hP hD hS => ?_)
        obtain ⟨xaskedq_13, rfl⟩ : ∃ z, z = u9 := ⟨_, rfl⟩
        have hPD : my_PD (dC, dI) vwCl A [(co, Sum.inr (5, [Value.long xx, Value.long xreadX, Value.ref soa, Value.ref sna, Value.ref swa, Value.int xkept, Value.ref ri, Value.ref ro, Value.ref rw, Value.int xaskedq_13])), (ri, Sum.inr (0, [Value.int rin, Value.ref ria])), (ria, Sum.inl (cI, rik, Sum.inl rif))] H := ⟨hP, hD⟩
        have hP := hPD.1
        have hD := hPD.2
        refine lv_iadd hx hb d_Table_nextValue_16 ?_
        refine lv_topi (fun v_3 ev_3 => ?_)
        refine lv_istore_n (lv' := [(2, Value.int v_3), (3, Value.int b4_0), (0, Value.ref co), (1, Value.int wd)]) hx hb d_Table_nextValue_17 rfl hl (by decide) rfl (fun ls hl => ?_)
        obtain ⟨v_4, ev_4⟩ : ∃ y : Int32, y = b4_0 + (1) := ⟨_, rfl⟩
        refine lv_iinc (v := v_4) (lv' := [(3, Value.int v_4), (2, Value.int v_3), (0, Value.ref co), (1, Value.int wd)]) hx hb d_Table_nextValue_18 hl (k := 1) rfl (by rw [ev_4]; rfl) (by decide) rfl (fun ls hl => ?_)
        refine lv_goto (tgt := 4) hx hb d_Table_nextValue_21 (by decide) ?_
        exact ih9_4 _ (by first | omega | (have z9 := I_up c_1 ev_4; omega)) v_4 v_3 xaskedq_13 rfl (by have z9 := I_up c_1 ev_4; omega) H locs ls (hP.sub [0, 1, 2] rfl) (hD.sub [0, 1, 2] (by decide +kernel) rfl) hS (lv_sub hl [0, 1, 2, 3] rfl)
  exact J_4 _ (0 : Int32) (0 : Int32) xasked rfl (by first | decide | assumption | omega) H locs ls (hP.sub [0, 1, 2] rfl) (hD.sub [0, 1, 2] (by decide +kernel) rfl) hS (lv_sub hl [0, 1, 2, 3] rfl)
set_option maxHeartbeats 2000000 in
set_option maxRecDepth 100000 in
theorem c_Table_Table_openReading (l : Launch) (dC : Nat → ClassId) (dI : Nat → Nat → Nat) (cI cM cO : ClassId) (sz : Nat) (co : Nat) (xx : Int64) (xreadX : Int64) (soa : Nat) (sna : Nat) (swa : Nat) (xkept : Int32) (ri : Nat) (ro : Nat) (rw : Nat) (xasked : Int32) (rin : Int32) (ria : Nat) (rik : Nat) (rif : Nat → Int32) (hri : rOk rin rik) : MetI l y_Table_openReading (Cond.code y_Table_openReading prog_12_method_10_code 1 (some .boolean) :: gw) ({ frames := 4, cells := 0, slots := 0, locals := 87 } : Room) (dC, dI) vwCl (kT cI cM cO) [Value.ref co] [(co, Sum.inr (5, [Value.long xx, Value.long xreadX, Value.ref soa, Value.ref sna, Value.ref swa, Value.int xkept, Value.ref ri, Value.ref ro, Value.ref rw, Value.int xasked])), (ri, Sum.inr (0, [Value.int rin, Value.ref ria])), (ria, Sum.inl (cI, rik, Sum.inl rif))] sz (fun (r : Int32) (u : Int64 × Int32) => True) (fun (u : Int64 × Int32) => [(co, Sum.inr (5, [Value.long xx, Value.long u.1, Value.ref soa, Value.ref sna, Value.ref swa, Value.int xkept, Value.ref ri, Value.ref ro, Value.ref rw, Value.int u.2])), (ri, Sum.inr (0, [Value.int rin, Value.ref ria])), (ria, Sum.inl (cI, rik, Sum.inl rif))]) 0 0 := by
  refine my_ofI (cc := prog_12_method_10_code) (n := 1) (ret := (some .boolean)) (by decide) rfl (Nat.le_of_ble_eq_true rfl) ?_
  intro p e s m args below meth c R Q A ls H locs hx hb hr hts hown hlocks hml hnm hR hQ hA hl hP hK hN hD hS
  have hg : ∀ w ∈ gw, w.before args s = true := fun w h => hts w (List.mem_cons_of_mem _ h)
  have hown : s.vm.findClass "RangeCoders$Table" = some m.cls := hown
  have hl : lv_has ls 1 [(0, Value.ref co)] := hl
  have hlt_hri := rOk_lt hri
  refine lv_aload_n hx hb d_Table_openReading_0 rfl (lv_at hl 0 rfl) ?_
  refine lv_iconst (v := 0) hx hb d_Table_openReading_1 (by decide) ?_
  refine va_put (D := (dC, dI)) (ci := 5) (v := .int 0) (ty := .int) (C := "RangeCoders$Table") (T := T_Table) (N := 10) hx hb hg in_Table t_Table o_Table n_Table hown hK hP hD hS 0 rfl rfl 9 (by decide) (hg _ k126) (fun x9 h9 => u_same (hg _ k127) x9 h9) rfl (o_Table 9 (by decide)) rfl rfl (Nat.le_of_ble_eq_true rfl) d_Table_openReading_2 (fun H locs hP hD hS => ?_)
  have hPD : my_PD (dC, dI) vwCl A [(co, Sum.inr (5, [Value.long xx, Value.long xreadX, Value.ref soa, Value.ref sna, Value.ref swa, Value.int xkept, Value.ref ri, Value.ref ro, Value.ref rw, Value.int 0])), (ri, Sum.inr (0, [Value.int rin, Value.ref ria])), (ria, Sum.inl (cI, rik, Sum.inl rif))] H := ⟨hP, hD⟩
  have hP := hPD.1
  have hD := hPD.2
  refine lv_aload_n hx hb d_Table_openReading_5 rfl (lv_at hl 0 rfl) ?_
  refine lv_sipush (v := 512) hx hb d_Table_openReading_6 (by decide) ?_
  refine lv_aload_n hx hb d_Table_openReading_9 rfl (lv_at hl 0 rfl) ?_
  refine lv_bipush (v := 9) hx hb d_Table_openReading_10 (by decide) ?_
  refine my_ci (wr := []) (va_runV (As := [Value.int 9]) (rest := [Value.int 512, Value.ref co]) ⟨hx, hb, hml, hown, hts⟩ (c_Table_Table_nextValue l dC dI cI cM cO H.size co xx xreadX soa sna swa xkept ri ro rw 0 rin ria rik rif 9 (by first | assumption | omega)) (cwV 1 hts (my_gV k763 k764 k765 k11 k766) rfl rfl rfl cu_Table_nextValue_1 ⟨by rw [hR]; exact Nat.le_of_ble_eq_true rfl, by rw [hR]; exact Nat.le_of_ble_eq_true rfl⟩) (my_preV hK hN (hP.sub [0, 1, 2] rfl) (hD.sub [0, 1, 2] (by decide +kernel) rfl) 0 rfl rfl) rfl rfl hl.1 rfl (lv_room (Nat.le_of_ble_eq_true rfl)) d_Table_openReading_12 ⟨by rw [hR]; exact Nat.le_of_ble_eq_true rfl, by rw [hR]; exact Nat.le_of_ble_eq_true rfl⟩) hP hD hS hA [0, 1, 2] [] rfl rfl (by decide +kernel) (by decide +kernel) (fun r_12 u9 H locs hw_12 hP hD hS => ?_)
  obtain ⟨xaskedq_12, rfl⟩ : ∃ z, z = u9 := ⟨_, rfl⟩
  have hPD : my_PD (dC, dI) vwCl A [(co, Sum.inr (5, [Value.long xx, Value.long xreadX, Value.ref soa, Value.ref sna, Value.ref swa, Value.int xkept, Value.ref ri, Value.ref ro, Value.ref rw, Value.int xaskedq_12])), (ri, Sum.inr (0, [Value.int rin, Value.ref ria])), (ria, Sum.inl (cI, rik, Sum.inl rif))] H := ⟨hP, hD⟩
  have hP := hPD.1
  have hD := hPD.2
  refine lv_iadd hx hb d_Table_openReading_15 ?_
  refine lv_topi (fun v_1 ev_1 => ?_)
  refine lv_i2l hx hb d_Table_openReading_16 rfl ?_
  refine lv_topl (fun v_2 ev_2 => ?_)
  refine va_put (D := (dC, dI)) (ci := 5) (v := .long v_2) (ty := .long) (C := "RangeCoders$Table") (T := T_Table) (N := 10) hx hb hg in_Table t_Table o_Table n_Table hown hK hP hD hS 0 rfl rfl 1 (by decide) (hg _ k218) (fun x9 h9 => u_same (hg _ k219) x9 h9) rfl (o_Table 1 (by decide)) rfl rfl (Nat.le_of_ble_eq_true rfl) d_Table_openReading_17 (fun H locs hP hD hS => ?_)
  have hPD : my_PD (dC, dI) vwCl A [(co, Sum.inr (5, [Value.long xx, Value.long v_2, Value.ref soa, Value.ref sna, Value.ref swa, Value.int xkept, Value.ref ri, Value.ref ro, Value.ref rw, Value.int xaskedq_12])), (ri, Sum.inr (0, [Value.int rin, Value.ref ria])), (ria, Sum.inl (cI, rik, Sum.inl rif))] H := ⟨hP, hD⟩
  have hP := hPD.1
  have hD := hPD.2
  refine lv_iconst (v := 1) hx hb d_Table_openReading_20 (by decide) ?_
  exact my_iret (v := 1) hx hb hr (rfl) hlocks hQ hK hS (Nat.le_refl _) (Nat.le_refl _) (v_2, xaskedq_12) (trivial) (hP.sub [0, 1, 2] rfl) (hD.sub [0, 1, 2] (by decide +kernel) rfl) d_Table_openReading_21
set_option maxHeartbeats 2000000 in
set_option maxRecDepth 100000 in
theorem c_Table_Table_nextSign (l : Launch) (dC : Nat → ClassId) (dI : Nat → Nat → Nat) (cI cM cO : ClassId) (sz : Nat) (co : Nat) (xx : Int64) (xreadX : Int64) (soa : Nat) (sna : Nat) (swa : Nat) (xkept : Int32) (ri : Nat) (ro : Nat) (rw : Nat) (xasked : Int32) (rin : Int32) (ria : Nat) (rik : Nat) (rif : Nat → Int32) (oo : Nat) (osg : Int32) (osm : Int32) (ofc : Int32) (oca : Nat) (opa : Nat) (ol : Nat) (ocf : Nat → Int32) (opl : Nat) (opf : Nat → Int32) (hri : rOk rin rik) (hol : ol ≤ 64) (hopl : opl ≤ 512) : MetI l y_Table_nextSign (Cond.code y_Table_nextSign prog_12_method_11_code 5 (some .int) :: gw) ({ frames := 3, cells := 0, slots := 0, locals := 64 } : Room) (dC, dI) vwCl (kT cI cM cO) [Value.ref co, Value.ref oo] [(co, Sum.inr (5, [Value.long xx, Value.long xreadX, Value.ref soa, Value.ref sna, Value.ref swa, Value.int xkept, Value.ref ri, Value.ref ro, Value.ref rw, Value.int xasked])), (ri, Sum.inr (0, [Value.int rin, Value.ref ria])), (ria, Sum.inl (cI, rik, Sum.inl rif)), (oo, Sum.inr (7, [Value.int osg, Value.int osm, Value.int ofc, Value.ref oca, Value.ref opa])), (oca, Sum.inl (cI, ol, Sum.inl ocf)), (opa, Sum.inl (cI, opl, Sum.inl opf))] sz (fun (r : Int32) (u : Int64 × Int32) => True) (fun (u : Int64 × Int32) => [(co, Sum.inr (5, [Value.long xx, Value.long u.1, Value.ref soa, Value.ref sna, Value.ref swa, Value.int xkept, Value.ref ri, Value.ref ro, Value.ref rw, Value.int u.2])), (ri, Sum.inr (0, [Value.int rin, Value.ref ria])), (ria, Sum.inl (cI, rik, Sum.inl rif)), (oo, Sum.inr (7, [Value.int osg, Value.int osm, Value.int ofc, Value.ref oca, Value.ref opa])), (oca, Sum.inl (cI, ol, Sum.inl ocf)), (opa, Sum.inl (cI, opl, Sum.inl opf))]) 0 0 := by
  refine my_ofI (cc := prog_12_method_11_code) (n := 5) (ret := (some .int)) (by decide) rfl (Nat.le_of_ble_eq_true rfl) ?_
  intro p e s m args below meth c R Q A ls H locs hx hb hr hts hown hlocks hml hnm hR hQ hA hl hP hK hN hD hS
  have hg : ∀ w ∈ gw, w.before args s = true := fun w h => hts w (List.mem_cons_of_mem _ h)
  have hown : s.vm.findClass "RangeCoders$Table" = some m.cls := hown
  have hl : lv_has ls 5 [(0, Value.ref co), (1, Value.ref oo)] := hl
  have hlt_hri := rOk_lt hri
  refine lv_aload_n hx hb d_Table_nextSign_0 rfl (lv_at hl 1 rfl) ?_
  refine va_get (D := (dC, dI)) (ci := 7) (v := .int osm) (C := "RangeCoders$Odds") (T := T_Odds) (N := 5) hx hb hg in_Odds hown hK hP 3 rfl rfl 1 (by decide) (hg _ k307) (fun _ h9 => h9) rfl d_Table_nextSign_1 ?_
  refine lv_if_gt (tgt := 9) hx hb d_Table_nextSign_4 (by decide) (fun c_1 => ?_) (fun c_1 => ?_)
  · refine lv_aload_n hx hb d_Table_nextSign_9 rfl (lv_at hl 0 rfl) ?_
    refine va_get (D := (dC, dI)) (ci := 5) (v := .long xreadX) (C := "RangeCoders$Table") (T := T_Table) (N := 10) hx hb hg in_Table hown hK hP 0 rfl rfl 1 (by decide) (hg _ k218) (fun x9 h9 => u_same (hg _ k219) x9 h9) rfl d_Table_nextSign_10 ?_
    refine lv_l2i hx hb d_Table_nextSign_13 rfl ?_
    refine lv_topi (fun v_2 ev_2 => ?_)
    refine lv_sipush (v := 512) hx hb d_Table_nextSign_14 (by decide) ?_
    refine lv_isub hx hb d_Table_nextSign_17 ?_
    refine lv_topi (fun v_3 ev_3 => ?_)
    refine lv_istore_n (lv' := [(2, Value.int v_3), (0, Value.ref co), (1, Value.ref oo)]) hx hb d_Table_nextSign_18 rfl hl (by decide) rfl (fun ls hl => ?_)
    refine lv_aload_n hx hb d_Table_nextSign_19 rfl (lv_at hl 2 rfl) ?_
    refine lv_iload_n hx hb d_Table_nextSign_20 rfl (lv_at hl 0 rfl) ?_
    refine my_ci (wr := [(co, Sum.inr (5, [Value.long xx, Value.long xreadX, Value.ref soa, Value.ref sna, Value.ref swa, Value.int xkept, Value.ref ri, Value.ref ro, Value.ref rw, Value.int xasked])), (ri, Sum.inr (0, [Value.int rin, Value.ref ria])), (ria, Sum.inl (cI, rik, Sum.inl rif))]) (va_runV (As := [Value.int v_3]) (rest := []) ⟨hx, hb, hml, hown, hts⟩ (c_Odds_signOfPlace l dC dI cI cM cO H.size oo osg osm ofc oca opa ol ocf opl opf v_3 (by first | assumption | omega) (by first | assumption | omega)) (cwV 1 hts (my_gV k845 k846 k847 k14 k848) rfl rfl rfl cu_Odds_signOfPlace_1 ⟨by rw [hR]; exact Nat.le_of_ble_eq_true rfl, by rw [hR]; exact Nat.le_of_ble_eq_true rfl⟩) (my_preV hK hN (hP.sub [3, 4, 5] rfl) (hD.sub [3, 4, 5] (by decide +kernel) rfl) 0 rfl rfl) rfl rfl hl.1 rfl (lv_room (Nat.le_of_ble_eq_true rfl)) d_Table_nextSign_21 ⟨by rw [hR]; exact Nat.le_of_ble_eq_true rfl, by rw [hR]; exact Nat.le_of_ble_eq_true rfl⟩) hP hD hS hA [3, 4, 5] [0, 1, 2] rfl rfl (by decide +kernel) (by decide +kernel) (fun r_21 u9 H locs hw_21 hP hD hS => ?_)
    have hPD : my_PD (dC, dI) vwCl A [(co, Sum.inr (5, [Value.long xx, Value.long xreadX, Value.ref soa, Value.ref sna, Value.ref swa, Value.int xkept, Value.ref ri, Value.ref ro, Value.ref rw, Value.int xasked])), (ri, Sum.inr (0, [Value.int rin, Value.ref ria])), (ria, Sum.inl (cI, rik, Sum.inl rif)), (oo, Sum.inr (7, [Value.int osg, Value.int osm, Value.int ofc, Value.ref oca, Value.ref opa])), (oca, Sum.inl (cI, ol, Sum.inl ocf)), (opa, Sum.inl (cI, opl, Sum.inl opf))] H := ⟨hP, hD⟩
    have hP := hPD.1
    have hD := hPD.2
    refine lv_istore_n (lv' := [(3, Value.int r_21), (2, Value.int v_3), (0, Value.ref co), (1, Value.ref oo)]) hx hb d_Table_nextSign_24 rfl hl (by decide) rfl (fun ls hl => ?_)
    refine lv_aload_n hx hb d_Table_nextSign_25 rfl (lv_at hl 2 rfl) ?_
    refine lv_aload_n hx hb d_Table_nextSign_26 rfl (lv_at hl 3 rfl) ?_
    refine lv_iload_n hx hb d_Table_nextSign_27 rfl (lv_at hl 0 rfl) ?_
    refine my_ci (wr := [(co, Sum.inr (5, [Value.long xx, Value.long xreadX, Value.ref soa, Value.ref sna, Value.ref swa, Value.int xkept, Value.ref ri, Value.ref ro, Value.ref rw, Value.int xasked])), (ri, Sum.inr (0, [Value.int rin, Value.ref ria])), (ria, Sum.inl (cI, rik, Sum.inl rif))]) (va_runV (As := [Value.int r_21]) (rest := [Value.ref co]) ⟨hx, hb, hml, hown, hts⟩ (c_Odds_at l dC dI cI cM cO H.size oo osg osm ofc oca opa ol ocf opl opf r_21 (by first | assumption | omega) (by first | assumption | omega)) (cwV 1 hts (my_gV k641 k436 k437 k14 k438) rfl rfl rfl cu_Odds_at_1 ⟨by rw [hR]; exact Nat.le_of_ble_eq_true rfl, by rw [hR]; exact Nat.le_of_ble_eq_true rfl⟩) (my_preV hK hN (hP.sub [3, 4, 5] rfl) (hD.sub [3, 4, 5] (by decide +kernel) rfl) 0 rfl rfl) rfl rfl hl.1 rfl (lv_room (Nat.le_of_ble_eq_true rfl)) d_Table_nextSign_28 ⟨by rw [hR]; exact Nat.le_of_ble_eq_true rfl, by rw [hR]; exact Nat.le_of_ble_eq_true rfl⟩) hP hD hS hA [3, 4, 5] [0, 1, 2] rfl rfl (by decide +kernel) (by decide +kernel) (fun r_28 u9 H locs hw_28 hP hD hS => ?_)
    have hPD : my_PD (dC, dI) vwCl A [(co, Sum.inr (5, [Value.long xx, Value.long xreadX, Value.ref soa, Value.ref sna, Value.ref swa, Value.int xkept, Value.ref ri, Value.ref ro, Value.ref rw, Value.int xasked])), (ri, Sum.inr (0, [Value.int rin, Value.ref ria])), (ria, Sum.inl (cI, rik, Sum.inl rif)), (oo, Sum.inr (7, [Value.int osg, Value.int osm, Value.int ofc, Value.ref oca, Value.ref opa])), (oca, Sum.inl (cI, ol, Sum.inl ocf)), (opa, Sum.inl (cI, opl, Sum.inl opf))] H := ⟨hP, hD⟩
    have hP := hPD.1
    have hD := hPD.2
    refine lv_aload_n hx hb d_Table_nextSign_31 rfl (lv_at hl 3 rfl) ?_
    refine lv_iload_n hx hb d_Table_nextSign_32 rfl (lv_at hl 1 rfl) ?_
    refine my_ci (wr := [(co, Sum.inr (5, [Value.long xx, Value.long xreadX, Value.ref soa, Value.ref sna, Value.ref swa, Value.int xkept, Value.ref ri, Value.ref ro, Value.ref rw, Value.int xasked])), (ri, Sum.inr (0, [Value.int rin, Value.ref ria])), (ria, Sum.inl (cI, rik, Sum.inl rif))]) (va_runV (As := [Value.int v_3]) (rest := [Value.int r_28, Value.ref co]) ⟨hx, hb, hml, hown, hts⟩ (c_Odds_numberOfPlace l dC dI cI cM cO H.size oo osg osm ofc oca opa ol ocf opl opf v_3 (by first | assumption | omega) (by first | assumption | omega)) (cwV 1 hts (my_gV k849 k850 k851 k14 k852) rfl rfl rfl cu_Odds_numberOfPlace_1 ⟨by rw [hR]; exact Nat.le_of_ble_eq_true rfl, by rw [hR]; exact Nat.le_of_ble_eq_true rfl⟩) (my_preV hK hN (hP.sub [3, 4, 5] rfl) (hD.sub [3, 4, 5] (by decide +kernel) rfl) 0 rfl rfl) rfl rfl hl.1 rfl (lv_room (Nat.le_of_ble_eq_true rfl)) d_Table_nextSign_33 ⟨by rw [hR]; exact Nat.le_of_ble_eq_true rfl, by rw [hR]; exact Nat.le_of_ble_eq_true rfl⟩) hP hD hS hA [3, 4, 5] [0, 1, 2] rfl rfl (by decide +kernel) (by decide +kernel) (fun r_33 u9 H locs hw_33 hP hD hS => ?_)
    have hPD : my_PD (dC, dI) vwCl A [(co, Sum.inr (5, [Value.long xx, Value.long xreadX, Value.ref soa, Value.ref sna, Value.ref swa, Value.int xkept, Value.ref ri, Value.ref ro, Value.ref rw, Value.int xasked])), (ri, Sum.inr (0, [Value.int rin, Value.ref ria])), (ria, Sum.inl (cI, rik, Sum.inl rif)), (oo, Sum.inr (7, [Value.int osg, Value.int osm, Value.int ofc, Value.ref oca, Value.ref opa])), (oca, Sum.inl (cI, ol, Sum.inl ocf)), (opa, Sum.inl (cI, opl, Sum.inl opf))] H := ⟨hP, hD⟩
    have hP := hPD.1
    have hD := hPD.2
    refine lv_iadd hx hb d_Table_nextSign_36 ?_
    refine lv_topi (fun v_4 ev_4 => ?_)
    refine lv_i2l hx hb d_Table_nextSign_37 rfl ?_
    refine lv_topl (fun v_5 ev_5 => ?_)
    refine va_put (D := (dC, dI)) (ci := 5) (v := .long v_5) (ty := .long) (C := "RangeCoders$Table") (T := T_Table) (N := 10) hx hb hg in_Table t_Table o_Table n_Table hown hK hP hD hS 0 rfl rfl 1 (by decide) (hg _ k218) (fun x9 h9 => u_same (hg _ k219) x9 h9) rfl (o_Table 1 (by decide)) rfl rfl (Nat.le_of_ble_eq_true rfl) d_Table_nextSign_38 (fun H locs hP hD hS => ?_)
    have hPD : my_PD (dC, dI) vwCl A [(co, Sum.inr (5, [Value.long xx, Value.long v_5, Value.ref soa, Value.ref sna, Value.ref swa, Value.int xkept, Value.ref ri, Value.ref ro, Value.ref rw, Value.int xasked])), (ri, Sum.inr (0, [Value.int rin, Value.ref ria])), (ria, Sum.inl (cI, rik, Sum.inl rif)), (oo, Sum.inr (7, [Value.int osg, Value.int osm, Value.int ofc, Value.ref oca, Value.ref opa])), (oca, Sum.inl (cI, ol, Sum.inl ocf)), (opa, Sum.inl (cI, opl, Sum.inl opf))] H := ⟨hP, hD⟩
    have hP := hPD.1
    have hD := hPD.2
    refine lv_iconst (v := 0) hx hb d_Table_nextSign_41 (by decide) ?_
    refine lv_istore (lv' := [(4, Value.int 0), (3, Value.int r_21), (2, Value.int v_3), (0, Value.ref co), (1, Value.ref oo)]) hx hb d_Table_nextSign_42 hl (by decide) rfl (fun ls hl => ?_)
    have J_44 : ∀ (n9_44 : Nat) (b44_0 : Int32) (b44_1 : Int64) (b44_2 : Int32) (hn9_44 : (10 - b44_0.toInt).toNat = n9_44) (hi_44 : 0 ≤ b44_0.toInt) (H : Heap) (locs : List Loc) (ls : Array Slot), va_P (dC, dI) vwCl [(co, Sum.inr (5, [Value.long xx, Value.long b44_1, Value.ref soa, Value.ref sna, Value.ref swa, Value.int xkept, Value.ref ri, Value.ref ro, Value.ref rw, Value.int b44_2])), (ri, Sum.inr (0, [Value.int rin, Value.ref ria])), (ria, Sum.inl (cI, rik, Sum.inl rif)), (oo, Sum.inr (7, [Value.int osg, Value.int osm, Value.int ofc, Value.ref oca, Value.ref opa])), (oca, Sum.inl (cI, ol, Sum.inl ocf)), (opa, Sum.inl (cI, opl, Sum.inl opf))] H → va_D A [(co, Sum.inr (5, [Value.long xx, Value.long b44_1, Value.ref soa, Value.ref sna, Value.ref swa, Value.int xkept, Value.ref ri, Value.ref ro, Value.ref rw, Value.int b44_2])), (ri, Sum.inr (0, [Value.int rin, Value.ref ria])), (ria, Sum.inl (cI, rik, Sum.inl rif)), (oo, Sum.inr (7, [Value.int osg, Value.int osm, Value.int ofc, Value.ref oca, Value.ref opa])), (oca, Sum.inl (cI, ol, Sum.inl ocf)), (opa, Sum.inl (cI, opl, Sum.inl opf))] → va_S A s.heap H locs → lv_has ls 5 [(4, Value.int b44_0), (3, Value.int r_21), (2, Value.int v_3), (0, Value.ref co), (1, Value.ref oo)] → W p l e R s m args below meth c H locs 0 0 Q (F0 m 44 ls []) := by
      intro n9_44
      induction n9_44 using Nat.strongRecOn with
      | ind n9_44 ih9_44 =>
        intro b44_0 b44_1 b44_2 hn9_44 hi_44 H locs ls hP hD hS hl
        refine lv_iload hx hb d_Table_nextSign_44 (lv_at hl 0 rfl) ?_
        refine lv_bipush (v := 9) hx hb d_Table_nextSign_46 (by decide) ?_
        refine lv_icmp_gt (tgt := 86) hx hb d_Table_nextSign_48 (by decide) (fun c_6 => ?_) (fun c_6 => ?_)
        · refine lv_iload_n hx hb d_Table_nextSign_86 rfl (lv_at hl 1 rfl) ?_
          exact my_iret (v := r_21) hx hb hr (rfl) hlocks hQ hK hS (Nat.le_refl _) (Nat.le_refl _) (b44_1, b44_2) (trivial) (hP.sub [0, 1, 2, 3, 4, 5] rfl) (hD.sub [0, 1, 2, 3, 4, 5] (by decide +kernel) rfl) d_Table_nextSign_87
        · refine lv_aload_n hx hb d_Table_nextSign_51 rfl (lv_at hl 3 rfl) ?_
          refine va_get (D := (dC, dI)) (ci := 5) (v := .long b44_1) (C := "RangeCoders$Table") (T := T_Table) (N := 10) hx hb hg in_Table hown hK hP 0 rfl rfl 1 (by decide) (hg _ k218) (fun x9 h9 => u_same (hg _ k219) x9 h9) rfl d_Table_nextSign_52 ?_
          refine lv_ldc2 (v := 512) hx hb hown (hg _ k607) d_Table_nextSign_55 ?_
          refine W.lcmp hx hb d_Table_nextSign_58 ?_
          refine lv_if_ge (tgt := 86) hx hb d_Table_nextSign_59 (by decide) (fun c_7 => ?_) (fun c_7 => ?_)
          · rw [lg_cmp_ge] at c_7
            refine lv_iload_n hx hb d_Table_nextSign_86 rfl (lv_at hl 1 rfl) ?_
            exact my_iret (v := r_21) hx hb hr (rfl) hlocks hQ hK hS (Nat.le_refl _) (Nat.le_refl _) (b44_1, b44_2) (trivial) (hP.sub [0, 1, 2, 3, 4, 5] rfl) (hD.sub [0, 1, 2, 3, 4, 5] (by decide +kernel) rfl) d_Table_nextSign_87
          · rw [lg_cmp_ge] at c_7
            refine lv_aload_n hx hb d_Table_nextSign_62 rfl (lv_at hl 3 rfl) ?_
            refine lv_ldc2 (v := 2) hx hb hown (hg _ k642) d_Table_nextSign_63 ?_
            refine lv_aload_n hx hb d_Table_nextSign_66 rfl (lv_at hl 3 rfl) ?_
            refine va_get (D := (dC, dI)) (ci := 5) (v := .long b44_1) (C := "RangeCoders$Table") (T := T_Table) (N := 10) hx hb hg in_Table hown hK hP 0 rfl rfl 1 (by decide) (hg _ k218) (fun x9 h9 => u_same (hg _ k219) x9 h9) rfl d_Table_nextSign_67 ?_
            refine lv_lmul hx hb d_Table_nextSign_70 ?_
            refine lv_topl (fun v_8 ev_8 => ?_)
            refine lv_aload_n hx hb d_Table_nextSign_71 rfl (lv_at hl 3 rfl) ?_
            refine my_ci (wr := [(oo, Sum.inr (7, [Value.int osg, Value.int osm, Value.int ofc, Value.ref oca, Value.ref opa])), (oca, Sum.inl (cI, ol, Sum.inl ocf)), (opa, Sum.inl (cI, opl, Sum.inl opf))]) (va_runV (As := []) (rest := [Value.long v_8, Value.ref co]) ⟨hx, hb, hml, hown, hts⟩ (c_Table_Table_nextInBit l dC dI cI cM cO H.size co xx b44_1 soa sna swa xkept ri ro rw b44_2 rin ria rik rif (by first | assumption | omega)) (cwV 0 hts (my_gV k767 k769 ks12 k11 k770) rfl rfl rfl cu_Table_nextInBit_0 ⟨by rw [hR]; exact Nat.le_of_ble_eq_true rfl, by rw [hR]; exact Nat.le_of_ble_eq_true rfl⟩) (my_preV hK hN (hP.sub [0, 1, 2] rfl) (hD.sub [0, 1, 2] (by decide +kernel) rfl) 0 rfl rfl) rfl rfl hl.1 rfl (lv_room (Nat.le_of_ble_eq_true rfl)) d_Table_nextSign_72 ⟨by rw [hR]; exact Nat.le_of_ble_eq_true rfl, by rw [hR]; exact Nat.le_of_ble_eq_true rfl⟩) hP hD hS hA [0, 1, 2] [3, 4, 5] rfl rfl (by decide +kernel) (by decide +kernel) (fun r_72 u9 H locs hw_72 hP hD hS => ?_)
            obtain ⟨xaskedq_72, rfl⟩ : ∃ z, z = u9 := ⟨_, rfl⟩
            have hPD : my_PD (dC, dI) vwCl A [(oo, Sum.inr (7, [Value.int osg, Value.int osm, Value.int ofc, Value.ref oca, Value.ref opa])), (oca, Sum.inl (cI, ol, Sum.inl ocf)), (opa, Sum.inl (cI, opl, Sum.inl opf)), (co, Sum.inr (5, [Value.long xx, Value.long b44_1, Value.ref soa, Value.ref sna, Value.ref swa, Value.int xkept, Value.ref ri, Value.ref ro, Value.ref rw, Value.int xaskedq_72])), (ri, Sum.inr (0, [Value.int rin, Value.ref ria])), (ria, Sum.inl (cI, rik, Sum.inl rif))] H := ⟨hP, hD⟩
            have hP := hPD.1
            have hD := hPD.2
            refine lv_i2l hx hb d_Table_nextSign_75 rfl ?_
            refine lv_topl (fun v_9 ev_9 => ?_)
            refine lv_ladd hx hb d_Table_nextSign_76 ?_
            refine lv_topl (fun v_10 ev_10 => ?_)
            refine va_put (D := (dC, dI)) (ci := 5) (v := .long v_10) (ty := .long) (C := "RangeCoders$Table") (T := T_Table) (N := 10) hx hb hg in_Table t_Table o_Table n_Table hown hK hP hD hS 3 rfl rfl 1 (by decide) (hg _ k218) (fun x9 h9 => u_same (hg _ k219) x9 h9) rfl (o_Table 1 (by decide)) rfl rfl (Nat.le_of_ble_eq_true rfl) d_Table_nextSign_77 (fun H locs hP hD hS => ?_)
            have hPD : my_PD (dC, dI) vwCl A [(oo, Sum.inr (7, [Value.int osg, Value.int osm, Value.int ofc, Value.ref oca, Value.ref opa])), (oca, Sum.inl (cI, ol, Sum.inl ocf)), (opa, Sum.inl (cI, opl, Sum.inl opf)), (co, Sum.inr (5, [Value.long xx, Value.long v_10, Value.ref soa, Value.ref sna, Value.ref swa, Value.int xkept, Value.ref ri, Value.ref ro, Value.ref rw, Value.int xaskedq_72])), (ri, Sum.inr (0, [Value.int rin, Value.ref ria])), (ria, Sum.inl (cI, rik, Sum.inl rif))] H := ⟨hP, hD⟩
            have hP := hPD.1
            have hD := hPD.2
            obtain ⟨v_11, ev_11⟩ : ∃ y : Int32, y = b44_0 + (1) := ⟨_, rfl⟩
            refine lv_iinc (v := v_11) (lv' := [(4, Value.int v_11), (3, Value.int r_21), (2, Value.int v_3), (0, Value.ref co), (1, Value.ref oo)]) hx hb d_Table_nextSign_80 hl (k := 0) rfl (by rw [ev_11]; rfl) (by decide) rfl (fun ls hl => ?_)
            refine lv_goto (tgt := 44) hx hb d_Table_nextSign_83 (by decide) ?_
            exact ih9_44 _ (by first | omega | (have z9 := I_up9 c_6 ev_11; omega)) v_11 v_10 xaskedq_72 rfl (by have z9 := I_up9 c_6 ev_11; omega) H locs ls (hP.sub [3, 4, 5, 0, 1, 2] rfl) (hD.sub [3, 4, 5, 0, 1, 2] (by decide +kernel) rfl) hS (lv_sub hl [0, 1, 2, 3, 4] rfl)
    exact J_44 _ (0 : Int32) v_5 xasked rfl (by first | decide | assumption | omega) H locs ls (hP.sub [0, 1, 2, 3, 4, 5] rfl) (hD.sub [0, 1, 2, 3, 4, 5] (by decide +kernel) rfl) hS (lv_sub hl [0, 1, 2, 3, 4] rfl)
  · refine lv_iconst (v := (-1)) hx hb d_Table_nextSign_7 (by decide) ?_
    exact my_iret (v := (-1)) hx hb hr (rfl) hlocks hQ hK hS (Nat.le_refl _) (Nat.le_refl _) (xreadX, xasked) (trivial) (hP.sub [0, 1, 2, 3, 4, 5] rfl) (hD.sub [0, 1, 2, 3, 4, 5] (by decide +kernel) rfl) d_Table_nextSign_8
end
section
set_option maxHeartbeats 2000000 in
set_option maxRecDepth 100000 in
theorem c_Odds_init (l : Launch) (dC : Nat → ClassId) (dI : Nat → Nat → Nat) (cI cM cO : ClassId) (sz : Nat) (sl : Nat) (oo : Nat) (isg : Int32) (ifc : Int32) (nc : Nat) (np : Nat) (hnc : nc ≤ 64) (hnp : np ≤ 512) : MetVg l y_Odds_init (Cond.code y_Odds_init prog_7_method_1_code 5 none :: gw) ({ frames := 1, cells := 600, slots := 600, locals := 12 } : Room) (dC, dI) vwCl (kT cI cM cO) [Value.ref oo, Value.int isg, Value.int ifc, Value.int (nI nc), Value.int (nI np)] [(oo, Sum.inr (7, [Value.int 0, Value.int 0, Value.int 0, Value.null, Value.null]))] sz sl (fun (u : Nat × Nat) => True) (fun (u : Nat × Nat) => [(oo, Sum.inr (7, [Value.int isg, Value.int 0, Value.int ifc, Value.ref u.1, Value.ref u.2])), (u.1, Sum.inl (cI, nc, Sum.inl (fun _ => 0))), (u.2, Sum.inl (cI, np, Sum.inl (fun _ => 0)))]) 600 (fun (u : Nat × Nat) => 0) := by
  refine my_ofVg (cc := prog_7_method_1_code) (n := 5) (ret := none) (by decide) rfl (Nat.le_of_ble_eq_true rfl) ?_
  intro p e s m args below meth c R Q A ls H locs hx hb hr hts hown hlocks hml hnm hR hQ hA hl hP hK hN hD hS
  have hg : ∀ w ∈ gw, w.before args s = true := fun w h => hts w (List.mem_cons_of_mem _ h)
  have hown : s.vm.findClass "RangeCoders$Odds" = some m.cls := hown
  have hl : lv_has ls 5 [(0, Value.ref oo), (1, Value.int isg), (2, Value.int ifc), (3, Value.int (nI nc)), (4, Value.int (nI np))] := hl
  refine lv_aload_n hx hb d_Odds_init_0 rfl (lv_at hl 0 rfl) ?_
  refine W.objInit hx hb hown (hg _ k302) (hg _ k23) (hg _ k24) rfl (by rw [hml]; exact hl.1) rfl d_Odds_init_1 (by rw [hR]; exact Nat.le_of_ble_eq_true rfl) (by rw [hR]; exact Nat.le_of_ble_eq_true rfl) ?_
  refine W.eq (g2 := F0 m 4 ls []) rfl ?_
  refine lv_aload_n hx hb d_Odds_init_4 rfl (lv_at hl 0 rfl) ?_
  refine lv_iload_n hx hb d_Odds_init_5 rfl (lv_at hl 1 rfl) ?_
  refine va_putF (D := (dC, dI)) (ci := 7) (v := .int isg) (ty := .int) (C := "RangeCoders$Odds") (T := T_Odds) (N := 5) hx hb hg in_Odds t_Odds o_Odds n_Odds hown hK hP hD hS 0 rfl rfl 0 (by decide) (hg _ k303) (fun _ h9 => h9) rfl (by rw [hnm]; rfl) rfl (o_Odds 0 (by decide)) rfl rfl (Nat.le_of_ble_eq_true rfl) d_Odds_init_6 (fun H locs hP hD hS => ?_)
  have hPD : my_PD (dC, dI) vwCl A [(oo, Sum.inr (7, [Value.int isg, Value.int 0, Value.int 0, Value.null, Value.null]))] H := ⟨hP, hD⟩
  have hP := hPD.1
  have hD := hPD.2
  refine lv_aload_n hx hb d_Odds_init_9 rfl (lv_at hl 0 rfl) ?_
  refine lv_iload_n hx hb d_Odds_init_10 rfl (lv_at hl 2 rfl) ?_
  refine va_putF (D := (dC, dI)) (ci := 7) (v := .int ifc) (ty := .int) (C := "RangeCoders$Odds") (T := T_Odds) (N := 5) hx hb hg in_Odds t_Odds o_Odds n_Odds hown hK hP hD hS 0 rfl rfl 2 (by decide) (hg _ k308) (fun _ h9 => h9) rfl (by rw [hnm]; rfl) rfl (o_Odds 2 (by decide)) rfl rfl (Nat.le_of_ble_eq_true rfl) d_Odds_init_11 (fun H locs hP hD hS => ?_)
  have hPD : my_PD (dC, dI) vwCl A [(oo, Sum.inr (7, [Value.int isg, Value.int 0, Value.int ifc, Value.null, Value.null]))] H := ⟨hP, hD⟩
  have hP := hPD.1
  have hD := hPD.2
  refine lv_aload_n hx hb d_Odds_init_14 rfl (lv_at hl 0 rfl) ?_
  refine lv_iload_n hx hb d_Odds_init_15 rfl (lv_at hl 3 rfl) ?_
  refine lv_if_lt (tgt := 23) hx hb d_Odds_init_16 (by decide) (fun c_1 => ?_) (fun c_1 => ?_)
  · exact absurd c_1 (nI_pos (by omega))
  · refine lv_iload_n hx hb d_Odds_init_19 rfl (lv_at hl 3 rfl) ?_
    refine lv_goto (tgt := 24) hx hb d_Odds_init_20 (by decide) ?_
    refine my_newi hx hb (hg _ k66) hK 0 rfl hP hD hS hA (N' := nc) (nI_pos (by omega)) (nI_clamp (by omega)) (by omega) (by rw [hR]; exact (show 0 + 1 ≤ 600 by omega)) (by rw [hR]; exact (show 0 + nc ≤ 600 by omega)) d_Odds_init_24 (fun q_2 H hP hD hS => ?_)
    have hPD : my_PD (dC, dI) vwCl A [(oo, Sum.inr (7, [Value.int isg, Value.int 0, Value.int ifc, Value.null, Value.null])), (q_2, Sum.inl (cI, nc, Sum.inl (fun _ => 0)))] H := ⟨hP, hD⟩
    have hP := hPD.1
    have hD := hPD.2
    refine va_putF (D := (dC, dI)) (ci := 7) (v := .ref q_2) (ty := (.array .int)) (C := "RangeCoders$Odds") (T := T_Odds) (N := 5) hx hb hg in_Odds t_Odds o_Odds n_Odds hown hK hP hD hS 0 rfl rfl 3 (by decide) (hg _ k309) (fun _ h9 => h9) rfl (by rw [hnm]; rfl) rfl (o_Odds 3 (by decide)) rfl rfl (Nat.le_of_ble_eq_true rfl) d_Odds_init_26 (fun H locs hP hD hS => ?_)
    have hPD : my_PD (dC, dI) vwCl A [(oo, Sum.inr (7, [Value.int isg, Value.int 0, Value.int ifc, Value.ref q_2, Value.null])), (q_2, Sum.inl (cI, nc, Sum.inl (fun _ => 0)))] H := ⟨hP, hD⟩
    have hP := hPD.1
    have hD := hPD.2
    refine lv_aload_n hx hb d_Odds_init_29 rfl (lv_at hl 0 rfl) ?_
    refine lv_iload hx hb d_Odds_init_30 (lv_at hl 4 rfl) ?_
    refine lv_if_lt (tgt := 40) hx hb d_Odds_init_32 (by decide) (fun c_3 => ?_) (fun c_3 => ?_)
    · exact absurd c_3 (nI_pos (by omega))
    · refine lv_iload hx hb d_Odds_init_35 (lv_at hl 4 rfl) ?_
      refine lv_goto (tgt := 41) hx hb d_Odds_init_37 (by decide) ?_
      refine my_newi hx hb (hg _ k66) hK 0 rfl hP hD hS hA (N' := np) (nI_pos (by omega)) (nI_clamp (by omega)) (by omega) (by rw [hR]; exact (show 0 + 1 + 1 ≤ 600 by omega)) (by rw [hR]; exact (show 0 + nc + np ≤ 600 by omega)) d_Odds_init_41 (fun q_4 H hP hD hS => ?_)
      have hPD : my_PD (dC, dI) vwCl A [(oo, Sum.inr (7, [Value.int isg, Value.int 0, Value.int ifc, Value.ref q_2, Value.null])), (q_2, Sum.inl (cI, nc, Sum.inl (fun _ => 0))), (q_4, Sum.inl (cI, np, Sum.inl (fun _ => 0)))] H := ⟨hP, hD⟩
      have hP := hPD.1
      have hD := hPD.2
      refine va_putF (D := (dC, dI)) (ci := 7) (v := .ref q_4) (ty := (.array .int)) (C := "RangeCoders$Odds") (T := T_Odds) (N := 5) hx hb hg in_Odds t_Odds o_Odds n_Odds hown hK hP hD hS 0 rfl rfl 4 (by decide) (hg _ k310) (fun _ h9 => h9) rfl (by rw [hnm]; rfl) rfl (o_Odds 4 (by decide)) rfl rfl (Nat.le_of_ble_eq_true rfl) d_Odds_init_43 (fun H locs hP hD hS => ?_)
      have hPD : my_PD (dC, dI) vwCl A [(oo, Sum.inr (7, [Value.int isg, Value.int 0, Value.int ifc, Value.ref q_2, Value.ref q_4])), (q_2, Sum.inl (cI, nc, Sum.inl (fun _ => 0))), (q_4, Sum.inl (cI, np, Sum.inl (fun _ => 0)))] H := ⟨hP, hD⟩
      have hP := hPD.1
      have hD := hPD.2
      exact my_vretg hx hb hr hlocks hQ hK hS (q_2, q_4) (show (0 + 1 + 1) + 0 ≤ 600 by omega) (show (0 + nc + np) + 0 ≤ 600 by omega) (trivial) (hP.sub [0, 1, 2] rfl) (hD.sub [0, 1, 2] (by decide +kernel) rfl) d_Odds_init_46
end
section
set_option maxHeartbeats 2000000 in
set_option maxRecDepth 100000 in
theorem c_Carries_Coderinit (l : Launch) (dC : Nat → ClassId) (dI : Nat → Nat → Nat) (cI cM cO : ClassId) (sz : Nat) (sl : Nat) (co : Nat) : MetVg l y_Coder_init (Cond.code y_Coder_init prog_4_method_1_code 1 none :: gw) ({ frames := 2, cells := 300, slots := 300, locals := 32 } : Room) (dC, dI) vwCl (kT cI cM cO) [Value.ref co] [(co, Sum.inr (1, [Value.int 0, Value.int 0, Value.long 0, Value.long 0, Value.long 0, Value.long 0, Value.long 0, Value.null, Value.null, Value.null, Value.int 0]))] sz sl (fun (u : Nat × Nat × Nat × Nat × Nat × Nat) => True) (fun (u : Nat × Nat × Nat × Nat × Nat × Nat) => [(co, Sum.inr (1, [Value.int 0, Value.int 0, Value.long 0, Value.long 0, Value.long 0, Value.long 0, Value.long 0, Value.ref u.1, Value.ref u.2.2.1, Value.ref u.2.2.2.2.1, Value.int 0])), (u.1, Sum.inr (0, [Value.int 0, Value.ref u.2.1])), (u.2.1, Sum.inl (cI, 64, Sum.inl (fun _ => 0))), (u.2.2.1, Sum.inr (0, [Value.int 0, Value.ref u.2.2.2.1])), (u.2.2.2.1, Sum.inl (cI, 64, Sum.inl (fun _ => 0))), (u.2.2.2.2.1, Sum.inr (0, [Value.int 0, Value.ref u.2.2.2.2.2])), (u.2.2.2.2.2, Sum.inl (cI, 64, Sum.inl (fun _ => 0)))]) 300 (fun (u : Nat × Nat × Nat × Nat × Nat × Nat) => 0) := by
  refine my_ofVg (cc := prog_4_method_1_code) (n := 1) (ret := none) (by decide) rfl (Nat.le_of_ble_eq_true rfl) ?_
  intro p e s m args below meth c R Q A ls H locs hx hb hr hts hown hlocks hml hnm hR hQ hA hl hP hK hN hD hS
  have hg : ∀ w ∈ gw, w.before args s = true := fun w h => hts w (List.mem_cons_of_mem _ h)
  have hown : s.vm.findClass "RangeCoders$Coder" = some m.cls := hown
  have hl : lv_has ls 1 [(0, Value.ref co)] := hl
  refine lv_aload_n hx hb d_Coder_init_0 rfl (lv_at hl 0 rfl) ?_
  refine W.objInit hx hb hown (hg _ k50) (hg _ k23) (hg _ k24) rfl (by rw [hml]; exact hl.1) rfl d_Coder_init_1 (by rw [hR]; exact Nat.le_of_ble_eq_true rfl) (by rw [hR]; exact Nat.le_of_ble_eq_true rfl) ?_
  refine W.eq (g2 := F0 m 4 ls []) rfl ?_
  refine lv_aload_n hx hb d_Coder_init_4 rfl (lv_at hl 0 rfl) ?_
  refine va_new (ci := 0) (fs := [Value.int 0, Value.null]) (C := "RangeCoders$Row") (T := T_Row) (N := 2) hx hb hg in_Row t_Row o_Row hown (hg _ k51) (hg _ k52) (hg _ k6) hK hP hD hS hA rfl (fun j hj => by rcases (show j = 0 ∨ j = 1 by omega) with rfl | rfl <;> rfl) (by rw [hR]; exact (show 0 + 1 ≤ 300 by omega)) (by rw [hR]; exact (show 0 + 2 ≤ 300 by omega)) d_Coder_init_5 (fun q_1 H hP hD hS => ?_)
  have hPD : my_PD (dC, dI) vwCl A [(co, Sum.inr (1, [Value.int 0, Value.int 0, Value.long 0, Value.long 0, Value.long 0, Value.long 0, Value.long 0, Value.null, Value.null, Value.null, Value.int 0])), (q_1, Sum.inr (0, [Value.int 0, Value.null]))] H := ⟨hP, hD⟩
  have hP := hPD.1
  have hD := hPD.2
  refine lv_dup hx hb d_Coder_init_8 rfl ?_
  refine my_cvg (wr := [(co, Sum.inr (1, [Value.int 0, Value.int 0, Value.long 0, Value.long 0, Value.long 0, Value.long 0, Value.long 0, Value.null, Value.null, Value.null, Value.int 0]))]) (va_runIN (As := []) (rest := [Value.ref q_1, Value.ref co]) ⟨hx, hb, hml, hown, hts⟩ (c_Row_init l dC dI cI cM cO H.size (hSl H) q_1) ⟨va_cnB 0 hts (my_gC k55) rfl rfl rfl (hN.1 _ j53 rfl) (hg _ k6) (by decide +kernel) ⟨by rw [hR]; exact Nat.le_of_ble_eq_true rfl, by rw [hR]; exact Nat.le_of_ble_eq_true rfl⟩, rfl, hg _ k54⟩ (my_preg (As := [Value.ref q_1]) hK hN (hP.sub [1] rfl) (hD.sub [1] (by decide +kernel) rfl)) rfl rfl hl.1 rfl (lv_room (Nat.le_of_ble_eq_true rfl)) d_Coder_init_9 ⟨by rw [hR]; exact (show (0 + 1) + 64 ≤ 300 by omega), by rw [hR]; exact (show (0 + 2) + 64 ≤ 300 by omega)⟩) hP hD hS hA [1] [0] rfl rfl (by decide +kernel) (by decide +kernel) (fun u9 d_9 H locs hd_9 hw_9 hP hD hS => ?_)
  obtain ⟨rraq_9, rfl⟩ : ∃ z, z = u9 := ⟨_, rfl⟩
  have hd_9 : d_9 + 0 ≤ 64 := hd_9
  have hPD : my_PD (dC, dI) vwCl A [(co, Sum.inr (1, [Value.int 0, Value.int 0, Value.long 0, Value.long 0, Value.long 0, Value.long 0, Value.long 0, Value.null, Value.null, Value.null, Value.int 0])), (q_1, Sum.inr (0, [Value.int 0, Value.ref rraq_9])), (rraq_9, Sum.inl (cI, 64, Sum.inl (fun _ => 0)))] H := ⟨hP, hD⟩
  have hP := hPD.1
  have hD := hPD.2
  refine va_putF (D := (dC, dI)) (ci := 1) (v := .ref q_1) (ty := (.object "RangeCoders$Row")) (C := "RangeCoders$Carries") (T := T_Carries) (N := 11) hx hb hg in_Carries t_Carries o_Carries n_Carries hown hK hP hD hS 0 rfl rfl 7 (by decide) (hg _ k101) (fun _ h9 => h9) rfl (by rw [hnm]; rfl) rfl (o_Carries 7 (by decide)) rfl rfl (Nat.le_of_ble_eq_true rfl) d_Coder_init_12 (fun H locs hP hD hS => ?_)
  have hPD : my_PD (dC, dI) vwCl A [(co, Sum.inr (1, [Value.int 0, Value.int 0, Value.long 0, Value.long 0, Value.long 0, Value.long 0, Value.long 0, Value.ref q_1, Value.null, Value.null, Value.int 0])), (q_1, Sum.inr (0, [Value.int 0, Value.ref rraq_9])), (rraq_9, Sum.inl (cI, 64, Sum.inl (fun _ => 0)))] H := ⟨hP, hD⟩
  have hP := hPD.1
  have hD := hPD.2
  refine lv_aload_n hx hb d_Coder_init_15 rfl (lv_at hl 0 rfl) ?_
  refine va_new (ci := 0) (fs := [Value.int 0, Value.null]) (C := "RangeCoders$Row") (T := T_Row) (N := 2) hx hb hg in_Row t_Row o_Row hown (hg _ k51) (hg _ k52) (hg _ k6) hK hP hD hS hA rfl (fun j hj => by rcases (show j = 0 ∨ j = 1 by omega) with rfl | rfl <;> rfl) (by rw [hR]; exact (show 0 + 1 + d_9 + 1 ≤ 300 by omega)) (by rw [hR]; exact (show 0 + 2 + d_9 + 2 ≤ 300 by omega)) d_Coder_init_16 (fun q_2 H hP hD hS => ?_)
  have hPD : my_PD (dC, dI) vwCl A [(co, Sum.inr (1, [Value.int 0, Value.int 0, Value.long 0, Value.long 0, Value.long 0, Value.long 0, Value.long 0, Value.ref q_1, Value.null, Value.null, Value.int 0])), (q_1, Sum.inr (0, [Value.int 0, Value.ref rraq_9])), (rraq_9, Sum.inl (cI, 64, Sum.inl (fun _ => 0))), (q_2, Sum.inr (0, [Value.int 0, Value.null]))] H := ⟨hP, hD⟩
  have hP := hPD.1
  have hD := hPD.2
  refine lv_dup hx hb d_Coder_init_19 rfl ?_
  refine my_cvg (wr := [(co, Sum.inr (1, [Value.int 0, Value.int 0, Value.long 0, Value.long 0, Value.long 0, Value.long 0, Value.long 0, Value.ref q_1, Value.null, Value.null, Value.int 0])), (q_1, Sum.inr (0, [Value.int 0, Value.ref rraq_9])), (rraq_9, Sum.inl (cI, 64, Sum.inl (fun _ => 0)))]) (va_runIN (As := []) (rest := [Value.ref q_2, Value.ref co]) ⟨hx, hb, hml, hown, hts⟩ (c_Row_init l dC dI cI cM cO H.size (hSl H) q_2) ⟨va_cnB 0 hts (my_gC k55) rfl rfl rfl (hN.1 _ j53 rfl) (hg _ k6) (by decide +kernel) ⟨by rw [hR]; exact Nat.le_of_ble_eq_true rfl, by rw [hR]; exact Nat.le_of_ble_eq_true rfl⟩, rfl, hg _ k54⟩ (my_preg (As := [Value.ref q_2]) hK hN (hP.sub [3] rfl) (hD.sub [3] (by decide +kernel) rfl)) rfl rfl hl.1 rfl (lv_room (Nat.le_of_ble_eq_true rfl)) d_Coder_init_20 ⟨by rw [hR]; exact (show (0 + 1 + d_9 + 1) + 64 ≤ 300 by omega), by rw [hR]; exact (show (0 + 2 + d_9 + 2) + 64 ≤ 300 by omega)⟩) hP hD hS hA [3] [0, 1, 2] rfl rfl (by decide +kernel) (by decide +kernel) (fun u9 d_20 H locs hd_20 hw_20 hP hD hS => ?_)
  obtain ⟨rraq_20, rfl⟩ : ∃ z, z = u9 := ⟨_, rfl⟩
  have hd_20 : d_20 + 0 ≤ 64 := hd_20
  have hPD : my_PD (dC, dI) vwCl A [(co, Sum.inr (1, [Value.int 0, Value.int 0, Value.long 0, Value.long 0, Value.long 0, Value.long 0, Value.long 0, Value.ref q_1, Value.null, Value.null, Value.int 0])), (q_1, Sum.inr (0, [Value.int 0, Value.ref rraq_9])), (rraq_9, Sum.inl (cI, 64, Sum.inl (fun _ => 0))), (q_2, Sum.inr (0, [Value.int 0, Value.ref rraq_20])), (rraq_20, Sum.inl (cI, 64, Sum.inl (fun _ => 0)))] H := ⟨hP, hD⟩
  have hP := hPD.1
  have hD := hPD.2
  refine va_put (D := (dC, dI)) (ci := 1) (v := .ref q_2) (ty := (.object "RangeCoders$Row")) (C := "RangeCoders$Carries") (T := T_Carries) (N := 11) hx hb hg in_Carries t_Carries o_Carries n_Carries hown hK hP hD hS 0 rfl rfl 8 (by decide) (hg _ k105) (fun _ h9 => h9) rfl (o_Carries 8 (by decide)) rfl rfl (Nat.le_of_ble_eq_true rfl) d_Coder_init_23 (fun H locs hP hD hS => ?_)
  have hPD : my_PD (dC, dI) vwCl A [(co, Sum.inr (1, [Value.int 0, Value.int 0, Value.long 0, Value.long 0, Value.long 0, Value.long 0, Value.long 0, Value.ref q_1, Value.ref q_2, Value.null, Value.int 0])), (q_1, Sum.inr (0, [Value.int 0, Value.ref rraq_9])), (rraq_9, Sum.inl (cI, 64, Sum.inl (fun _ => 0))), (q_2, Sum.inr (0, [Value.int 0, Value.ref rraq_20])), (rraq_20, Sum.inl (cI, 64, Sum.inl (fun _ => 0)))] H := ⟨hP, hD⟩
  have hP := hPD.1
  have hD := hPD.2
  refine lv_aload_n hx hb d_Coder_init_26 rfl (lv_at hl 0 rfl) ?_
  refine va_new (ci := 0) (fs := [Value.int 0, Value.null]) (C := "RangeCoders$Row") (T := T_Row) (N := 2) hx hb hg in_Row t_Row o_Row hown (hg _ k51) (hg _ k52) (hg _ k6) hK hP hD hS hA rfl (fun j hj => by rcases (show j = 0 ∨ j = 1 by omega) with rfl | rfl <;> rfl) (by rw [hR]; exact (show 0 + 1 + d_9 + 1 + d_20 + 1 ≤ 300 by omega)) (by rw [hR]; exact (show 0 + 2 + d_9 + 2 + d_20 + 2 ≤ 300 by omega)) d_Coder_init_27 (fun q_3 H hP hD hS => ?_)
  have hPD : my_PD (dC, dI) vwCl A [(co, Sum.inr (1, [Value.int 0, Value.int 0, Value.long 0, Value.long 0, Value.long 0, Value.long 0, Value.long 0, Value.ref q_1, Value.ref q_2, Value.null, Value.int 0])), (q_1, Sum.inr (0, [Value.int 0, Value.ref rraq_9])), (rraq_9, Sum.inl (cI, 64, Sum.inl (fun _ => 0))), (q_2, Sum.inr (0, [Value.int 0, Value.ref rraq_20])), (rraq_20, Sum.inl (cI, 64, Sum.inl (fun _ => 0))), (q_3, Sum.inr (0, [Value.int 0, Value.null]))] H := ⟨hP, hD⟩
  have hP := hPD.1
  have hD := hPD.2
  refine lv_dup hx hb d_Coder_init_30 rfl ?_
  refine my_cvg (wr := [(co, Sum.inr (1, [Value.int 0, Value.int 0, Value.long 0, Value.long 0, Value.long 0, Value.long 0, Value.long 0, Value.ref q_1, Value.ref q_2, Value.null, Value.int 0])), (q_1, Sum.inr (0, [Value.int 0, Value.ref rraq_9])), (rraq_9, Sum.inl (cI, 64, Sum.inl (fun _ => 0))), (q_2, Sum.inr (0, [Value.int 0, Value.ref rraq_20])), (rraq_20, Sum.inl (cI, 64, Sum.inl (fun _ => 0)))]) (va_runIN (As := []) (rest := [Value.ref q_3, Value.ref co]) ⟨hx, hb, hml, hown, hts⟩ (c_Row_init l dC dI cI cM cO H.size (hSl H) q_3) ⟨va_cnB 0 hts (my_gC k55) rfl rfl rfl (hN.1 _ j53 rfl) (hg _ k6) (by decide +kernel) ⟨by rw [hR]; exact Nat.le_of_ble_eq_true rfl, by rw [hR]; exact Nat.le_of_ble_eq_true rfl⟩, rfl, hg _ k54⟩ (my_preg (As := [Value.ref q_3]) hK hN (hP.sub [5] rfl) (hD.sub [5] (by decide +kernel) rfl)) rfl rfl hl.1 rfl (lv_room (Nat.le_of_ble_eq_true rfl)) d_Coder_init_31 ⟨by rw [hR]; exact (show (0 + 1 + d_9 + 1 + d_20 + 1) + 64 ≤ 300 by omega), by rw [hR]; exact (show (0 + 2 + d_9 + 2 + d_20 + 2) + 64 ≤ 300 by omega)⟩) hP hD hS hA [5] [0, 1, 2, 3, 4] rfl rfl (by decide +kernel) (by decide +kernel) (fun u9 d_31 H locs hd_31 hw_31 hP hD hS => ?_)
  obtain ⟨rraq_31, rfl⟩ : ∃ z, z = u9 := ⟨_, rfl⟩
  have hd_31 : d_31 + 0 ≤ 64 := hd_31
  have hPD : my_PD (dC, dI) vwCl A [(co, Sum.inr (1, [Value.int 0, Value.int 0, Value.long 0, Value.long 0, Value.long 0, Value.long 0, Value.long 0, Value.ref q_1, Value.ref q_2, Value.null, Value.int 0])), (q_1, Sum.inr (0, [Value.int 0, Value.ref rraq_9])), (rraq_9, Sum.inl (cI, 64, Sum.inl (fun _ => 0))), (q_2, Sum.inr (0, [Value.int 0, Value.ref rraq_20])), (rraq_20, Sum.inl (cI, 64, Sum.inl (fun _ => 0))), (q_3, Sum.inr (0, [Value.int 0, Value.ref rraq_31])), (rraq_31, Sum.inl (cI, 64, Sum.inl (fun _ => 0)))] H := ⟨hP, hD⟩
  have hP := hPD.1
  have hD := hPD.2
  refine va_put (D := (dC, dI)) (ci := 1) (v := .ref q_3) (ty := (.object "RangeCoders$Row")) (C := "RangeCoders$Carries") (T := T_Carries) (N := 11) hx hb hg in_Carries t_Carries o_Carries n_Carries hown hK hP hD hS 0 rfl rfl 9 (by decide) (hg _ k113) (fun _ h9 => h9) rfl (o_Carries 9 (by decide)) rfl rfl (Nat.le_of_ble_eq_true rfl) d_Coder_init_34 (fun H locs hP hD hS => ?_)
  have hPD : my_PD (dC, dI) vwCl A [(co, Sum.inr (1, [Value.int 0, Value.int 0, Value.long 0, Value.long 0, Value.long 0, Value.long 0, Value.long 0, Value.ref q_1, Value.ref q_2, Value.ref q_3, Value.int 0])), (q_1, Sum.inr (0, [Value.int 0, Value.ref rraq_9])), (rraq_9, Sum.inl (cI, 64, Sum.inl (fun _ => 0))), (q_2, Sum.inr (0, [Value.int 0, Value.ref rraq_20])), (rraq_20, Sum.inl (cI, 64, Sum.inl (fun _ => 0))), (q_3, Sum.inr (0, [Value.int 0, Value.ref rraq_31])), (rraq_31, Sum.inl (cI, 64, Sum.inl (fun _ => 0)))] H := ⟨hP, hD⟩
  have hP := hPD.1
  have hD := hPD.2
  exact my_vretg hx hb hr hlocks hQ hK hS (q_1, rraq_9, q_2, rraq_20, q_3, rraq_31) (show (0 + 1 + d_9 + 1 + d_20 + 1 + d_31) + 0 ≤ 300 by omega) (show (0 + 2 + d_9 + 2 + d_20 + 2 + d_31) + 0 ≤ 300 by omega) (trivial) (hP.sub [0, 1, 2, 3, 4, 5, 6] rfl) (hD.sub [0, 1, 2, 3, 4, 5, 6] (by decide +kernel) rfl) d_Coder_init_37
set_option maxHeartbeats 2000000 in
set_option maxRecDepth 100000 in
theorem c_NoCarries_Coderinit (l : Launch) (dC : Nat → ClassId) (dI : Nat → Nat → Nat) (cI cM cO : ClassId) (sz : Nat) (sl : Nat) (co : Nat) : MetVg l y_Coder_init (Cond.code y_Coder_init prog_4_method_1_code 1 none :: gw) ({ frames := 2, cells := 300, slots := 300, locals := 32 } : Room) (dC, dI) vwCl (kT cI cM cO) [Value.ref co] [(co, Sum.inr (2, [Value.long 0, Value.long 0, Value.long 0, Value.long 0, Value.long 0, Value.null, Value.null, Value.null, Value.int 0]))] sz sl (fun (u : Nat × Nat × Nat × Nat × Nat × Nat) => True) (fun (u : Nat × Nat × Nat × Nat × Nat × Nat) => [(co, Sum.inr (2, [Value.long 0, Value.long 0, Value.long 0, Value.long 0, Value.long 0, Value.ref u.1, Value.ref u.2.2.1, Value.ref u.2.2.2.2.1, Value.int 0])), (u.1, Sum.inr (0, [Value.int 0, Value.ref u.2.1])), (u.2.1, Sum.inl (cI, 64, Sum.inl (fun _ => 0))), (u.2.2.1, Sum.inr (0, [Value.int 0, Value.ref u.2.2.2.1])), (u.2.2.2.1, Sum.inl (cI, 64, Sum.inl (fun _ => 0))), (u.2.2.2.2.1, Sum.inr (0, [Value.int 0, Value.ref u.2.2.2.2.2])), (u.2.2.2.2.2, Sum.inl (cI, 64, Sum.inl (fun _ => 0)))]) 300 (fun (u : Nat × Nat × Nat × Nat × Nat × Nat) => 0) := by
  refine my_ofVg (cc := prog_4_method_1_code) (n := 1) (ret := none) (by decide) rfl (Nat.le_of_ble_eq_true rfl) ?_
  intro p e s m args below meth c R Q A ls H locs hx hb hr hts hown hlocks hml hnm hR hQ hA hl hP hK hN hD hS
  have hg : ∀ w ∈ gw, w.before args s = true := fun w h => hts w (List.mem_cons_of_mem _ h)
  have hown : s.vm.findClass "RangeCoders$Coder" = some m.cls := hown
  have hl : lv_has ls 1 [(0, Value.ref co)] := hl
  refine lv_aload_n hx hb d_Coder_init_0 rfl (lv_at hl 0 rfl) ?_
  refine W.objInit hx hb hown (hg _ k50) (hg _ k23) (hg _ k24) rfl (by rw [hml]; exact hl.1) rfl d_Coder_init_1 (by rw [hR]; exact Nat.le_of_ble_eq_true rfl) (by rw [hR]; exact Nat.le_of_ble_eq_true rfl) ?_
  refine W.eq (g2 := F0 m 4 ls []) rfl ?_
  refine lv_aload_n hx hb d_Coder_init_4 rfl (lv_at hl 0 rfl) ?_
  refine va_new (ci := 0) (fs := [Value.int 0, Value.null]) (C := "RangeCoders$Row") (T := T_Row) (N := 2) hx hb hg in_Row t_Row o_Row hown (hg _ k51) (hg _ k52) (hg _ k6) hK hP hD hS hA rfl (fun j hj => by rcases (show j = 0 ∨ j = 1 by omega) with rfl | rfl <;> rfl) (by rw [hR]; exact (show 0 + 1 ≤ 300 by omega)) (by rw [hR]; exact (show 0 + 2 ≤ 300 by omega)) d_Coder_init_5 (fun q_1 H hP hD hS => ?_)
  have hPD : my_PD (dC, dI) vwCl A [(co, Sum.inr (2, [Value.long 0, Value.long 0, Value.long 0, Value.long 0, Value.long 0, Value.null, Value.null, Value.null, Value.int 0])), (q_1, Sum.inr (0, [Value.int 0, Value.null]))] H := ⟨hP, hD⟩
  have hP := hPD.1
  have hD := hPD.2
  refine lv_dup hx hb d_Coder_init_8 rfl ?_
  refine my_cvg (wr := [(co, Sum.inr (2, [Value.long 0, Value.long 0, Value.long 0, Value.long 0, Value.long 0, Value.null, Value.null, Value.null, Value.int 0]))]) (va_runIN (As := []) (rest := [Value.ref q_1, Value.ref co]) ⟨hx, hb, hml, hown, hts⟩ (c_Row_init l dC dI cI cM cO H.size (hSl H) q_1) ⟨va_cnB 0 hts (my_gC k55) rfl rfl rfl (hN.1 _ j53 rfl) (hg _ k6) (by decide +kernel) ⟨by rw [hR]; exact Nat.le_of_ble_eq_true rfl, by rw [hR]; exact Nat.le_of_ble_eq_true rfl⟩, rfl, hg _ k54⟩ (my_preg (As := [Value.ref q_1]) hK hN (hP.sub [1] rfl) (hD.sub [1] (by decide +kernel) rfl)) rfl rfl hl.1 rfl (lv_room (Nat.le_of_ble_eq_true rfl)) d_Coder_init_9 ⟨by rw [hR]; exact (show (0 + 1) + 64 ≤ 300 by omega), by rw [hR]; exact (show (0 + 2) + 64 ≤ 300 by omega)⟩) hP hD hS hA [1] [0] rfl rfl (by decide +kernel) (by decide +kernel) (fun u9 d_9 H locs hd_9 hw_9 hP hD hS => ?_)
  obtain ⟨rraq_9, rfl⟩ : ∃ z, z = u9 := ⟨_, rfl⟩
  have hd_9 : d_9 + 0 ≤ 64 := hd_9
  have hPD : my_PD (dC, dI) vwCl A [(co, Sum.inr (2, [Value.long 0, Value.long 0, Value.long 0, Value.long 0, Value.long 0, Value.null, Value.null, Value.null, Value.int 0])), (q_1, Sum.inr (0, [Value.int 0, Value.ref rraq_9])), (rraq_9, Sum.inl (cI, 64, Sum.inl (fun _ => 0)))] H := ⟨hP, hD⟩
  have hP := hPD.1
  have hD := hPD.2
  refine va_putF (D := (dC, dI)) (ci := 2) (v := .ref q_1) (ty := (.object "RangeCoders$Row")) (C := "RangeCoders$NoCarries") (T := T_NoCarries) (N := 9) hx hb hg in_NoCarries t_NoCarries o_NoCarries n_NoCarries hown hK hP hD hS 0 rfl rfl 5 (by decide) (hg _ k101) (fun _ h9 => h9) rfl (by rw [hnm]; rfl) rfl (o_NoCarries 5 (by decide)) rfl rfl (Nat.le_of_ble_eq_true rfl) d_Coder_init_12 (fun H locs hP hD hS => ?_)
  have hPD : my_PD (dC, dI) vwCl A [(co, Sum.inr (2, [Value.long 0, Value.long 0, Value.long 0, Value.long 0, Value.long 0, Value.ref q_1, Value.null, Value.null, Value.int 0])), (q_1, Sum.inr (0, [Value.int 0, Value.ref rraq_9])), (rraq_9, Sum.inl (cI, 64, Sum.inl (fun _ => 0)))] H := ⟨hP, hD⟩
  have hP := hPD.1
  have hD := hPD.2
  refine lv_aload_n hx hb d_Coder_init_15 rfl (lv_at hl 0 rfl) ?_
  refine va_new (ci := 0) (fs := [Value.int 0, Value.null]) (C := "RangeCoders$Row") (T := T_Row) (N := 2) hx hb hg in_Row t_Row o_Row hown (hg _ k51) (hg _ k52) (hg _ k6) hK hP hD hS hA rfl (fun j hj => by rcases (show j = 0 ∨ j = 1 by omega) with rfl | rfl <;> rfl) (by rw [hR]; exact (show 0 + 1 + d_9 + 1 ≤ 300 by omega)) (by rw [hR]; exact (show 0 + 2 + d_9 + 2 ≤ 300 by omega)) d_Coder_init_16 (fun q_2 H hP hD hS => ?_)
  have hPD : my_PD (dC, dI) vwCl A [(co, Sum.inr (2, [Value.long 0, Value.long 0, Value.long 0, Value.long 0, Value.long 0, Value.ref q_1, Value.null, Value.null, Value.int 0])), (q_1, Sum.inr (0, [Value.int 0, Value.ref rraq_9])), (rraq_9, Sum.inl (cI, 64, Sum.inl (fun _ => 0))), (q_2, Sum.inr (0, [Value.int 0, Value.null]))] H := ⟨hP, hD⟩
  have hP := hPD.1
  have hD := hPD.2
  refine lv_dup hx hb d_Coder_init_19 rfl ?_
  refine my_cvg (wr := [(co, Sum.inr (2, [Value.long 0, Value.long 0, Value.long 0, Value.long 0, Value.long 0, Value.ref q_1, Value.null, Value.null, Value.int 0])), (q_1, Sum.inr (0, [Value.int 0, Value.ref rraq_9])), (rraq_9, Sum.inl (cI, 64, Sum.inl (fun _ => 0)))]) (va_runIN (As := []) (rest := [Value.ref q_2, Value.ref co]) ⟨hx, hb, hml, hown, hts⟩ (c_Row_init l dC dI cI cM cO H.size (hSl H) q_2) ⟨va_cnB 0 hts (my_gC k55) rfl rfl rfl (hN.1 _ j53 rfl) (hg _ k6) (by decide +kernel) ⟨by rw [hR]; exact Nat.le_of_ble_eq_true rfl, by rw [hR]; exact Nat.le_of_ble_eq_true rfl⟩, rfl, hg _ k54⟩ (my_preg (As := [Value.ref q_2]) hK hN (hP.sub [3] rfl) (hD.sub [3] (by decide +kernel) rfl)) rfl rfl hl.1 rfl (lv_room (Nat.le_of_ble_eq_true rfl)) d_Coder_init_20 ⟨by rw [hR]; exact (show (0 + 1 + d_9 + 1) + 64 ≤ 300 by omega), by rw [hR]; exact (show (0 + 2 + d_9 + 2) + 64 ≤ 300 by omega)⟩) hP hD hS hA [3] [0, 1, 2] rfl rfl (by decide +kernel) (by decide +kernel) (fun u9 d_20 H locs hd_20 hw_20 hP hD hS => ?_)
  obtain ⟨rraq_20, rfl⟩ : ∃ z, z = u9 := ⟨_, rfl⟩
  have hd_20 : d_20 + 0 ≤ 64 := hd_20
  have hPD : my_PD (dC, dI) vwCl A [(co, Sum.inr (2, [Value.long 0, Value.long 0, Value.long 0, Value.long 0, Value.long 0, Value.ref q_1, Value.null, Value.null, Value.int 0])), (q_1, Sum.inr (0, [Value.int 0, Value.ref rraq_9])), (rraq_9, Sum.inl (cI, 64, Sum.inl (fun _ => 0))), (q_2, Sum.inr (0, [Value.int 0, Value.ref rraq_20])), (rraq_20, Sum.inl (cI, 64, Sum.inl (fun _ => 0)))] H := ⟨hP, hD⟩
  have hP := hPD.1
  have hD := hPD.2
  refine va_put (D := (dC, dI)) (ci := 2) (v := .ref q_2) (ty := (.object "RangeCoders$Row")) (C := "RangeCoders$NoCarries") (T := T_NoCarries) (N := 9) hx hb hg in_NoCarries t_NoCarries o_NoCarries n_NoCarries hown hK hP hD hS 0 rfl rfl 6 (by decide) (hg _ k105) (fun _ h9 => h9) rfl (o_NoCarries 6 (by decide)) rfl rfl (Nat.le_of_ble_eq_true rfl) d_Coder_init_23 (fun H locs hP hD hS => ?_)
  have hPD : my_PD (dC, dI) vwCl A [(co, Sum.inr (2, [Value.long 0, Value.long 0, Value.long 0, Value.long 0, Value.long 0, Value.ref q_1, Value.ref q_2, Value.null, Value.int 0])), (q_1, Sum.inr (0, [Value.int 0, Value.ref rraq_9])), (rraq_9, Sum.inl (cI, 64, Sum.inl (fun _ => 0))), (q_2, Sum.inr (0, [Value.int 0, Value.ref rraq_20])), (rraq_20, Sum.inl (cI, 64, Sum.inl (fun _ => 0)))] H := ⟨hP, hD⟩
  have hP := hPD.1
  have hD := hPD.2
  refine lv_aload_n hx hb d_Coder_init_26 rfl (lv_at hl 0 rfl) ?_
  refine va_new (ci := 0) (fs := [Value.int 0, Value.null]) (C := "RangeCoders$Row") (T := T_Row) (N := 2) hx hb hg in_Row t_Row o_Row hown (hg _ k51) (hg _ k52) (hg _ k6) hK hP hD hS hA rfl (fun j hj => by rcases (show j = 0 ∨ j = 1 by omega) with rfl | rfl <;> rfl) (by rw [hR]; exact (show 0 + 1 + d_9 + 1 + d_20 + 1 ≤ 300 by omega)) (by rw [hR]; exact (show 0 + 2 + d_9 + 2 + d_20 + 2 ≤ 300 by omega)) d_Coder_init_27 (fun q_3 H hP hD hS => ?_)
  have hPD : my_PD (dC, dI) vwCl A [(co, Sum.inr (2, [Value.long 0, Value.long 0, Value.long 0, Value.long 0, Value.long 0, Value.ref q_1, Value.ref q_2, Value.null, Value.int 0])), (q_1, Sum.inr (0, [Value.int 0, Value.ref rraq_9])), (rraq_9, Sum.inl (cI, 64, Sum.inl (fun _ => 0))), (q_2, Sum.inr (0, [Value.int 0, Value.ref rraq_20])), (rraq_20, Sum.inl (cI, 64, Sum.inl (fun _ => 0))), (q_3, Sum.inr (0, [Value.int 0, Value.null]))] H := ⟨hP, hD⟩
  have hP := hPD.1
  have hD := hPD.2
  refine lv_dup hx hb d_Coder_init_30 rfl ?_
  refine my_cvg (wr := [(co, Sum.inr (2, [Value.long 0, Value.long 0, Value.long 0, Value.long 0, Value.long 0, Value.ref q_1, Value.ref q_2, Value.null, Value.int 0])), (q_1, Sum.inr (0, [Value.int 0, Value.ref rraq_9])), (rraq_9, Sum.inl (cI, 64, Sum.inl (fun _ => 0))), (q_2, Sum.inr (0, [Value.int 0, Value.ref rraq_20])), (rraq_20, Sum.inl (cI, 64, Sum.inl (fun _ => 0)))]) (va_runIN (As := []) (rest := [Value.ref q_3, Value.ref co]) ⟨hx, hb, hml, hown, hts⟩ (c_Row_init l dC dI cI cM cO H.size (hSl H) q_3) ⟨va_cnB 0 hts (my_gC k55) rfl rfl rfl (hN.1 _ j53 rfl) (hg _ k6) (by decide +kernel) ⟨by rw [hR]; exact Nat.le_of_ble_eq_true rfl, by rw [hR]; exact Nat.le_of_ble_eq_true rfl⟩, rfl, hg _ k54⟩ (my_preg (As := [Value.ref q_3]) hK hN (hP.sub [5] rfl) (hD.sub [5] (by decide +kernel) rfl)) rfl rfl hl.1 rfl (lv_room (Nat.le_of_ble_eq_true rfl)) d_Coder_init_31 ⟨by rw [hR]; exact (show (0 + 1 + d_9 + 1 + d_20 + 1) + 64 ≤ 300 by omega), by rw [hR]; exact (show (0 + 2 + d_9 + 2 + d_20 + 2) + 64 ≤ 300 by omega)⟩) hP hD hS hA [5] [0, 1, 2, 3, 4] rfl rfl (by decide +kernel) (by decide +kernel) (fun u9 d_31 H locs hd_31 hw_31 hP hD hS => ?_)
  obtain ⟨rraq_31, rfl⟩ : ∃ z, z = u9 := ⟨_, rfl⟩
  have hd_31 : d_31 + 0 ≤ 64 := hd_31
  have hPD : my_PD (dC, dI) vwCl A [(co, Sum.inr (2, [Value.long 0, Value.long 0, Value.long 0, Value.long 0, Value.long 0, Value.ref q_1, Value.ref q_2, Value.null, Value.int 0])), (q_1, Sum.inr (0, [Value.int 0, Value.ref rraq_9])), (rraq_9, Sum.inl (cI, 64, Sum.inl (fun _ => 0))), (q_2, Sum.inr (0, [Value.int 0, Value.ref rraq_20])), (rraq_20, Sum.inl (cI, 64, Sum.inl (fun _ => 0))), (q_3, Sum.inr (0, [Value.int 0, Value.ref rraq_31])), (rraq_31, Sum.inl (cI, 64, Sum.inl (fun _ => 0)))] H := ⟨hP, hD⟩
  have hP := hPD.1
  have hD := hPD.2
  refine va_put (D := (dC, dI)) (ci := 2) (v := .ref q_3) (ty := (.object "RangeCoders$Row")) (C := "RangeCoders$NoCarries") (T := T_NoCarries) (N := 9) hx hb hg in_NoCarries t_NoCarries o_NoCarries n_NoCarries hown hK hP hD hS 0 rfl rfl 7 (by decide) (hg _ k113) (fun _ h9 => h9) rfl (o_NoCarries 7 (by decide)) rfl rfl (Nat.le_of_ble_eq_true rfl) d_Coder_init_34 (fun H locs hP hD hS => ?_)
  have hPD : my_PD (dC, dI) vwCl A [(co, Sum.inr (2, [Value.long 0, Value.long 0, Value.long 0, Value.long 0, Value.long 0, Value.ref q_1, Value.ref q_2, Value.ref q_3, Value.int 0])), (q_1, Sum.inr (0, [Value.int 0, Value.ref rraq_9])), (rraq_9, Sum.inl (cI, 64, Sum.inl (fun _ => 0))), (q_2, Sum.inr (0, [Value.int 0, Value.ref rraq_20])), (rraq_20, Sum.inl (cI, 64, Sum.inl (fun _ => 0))), (q_3, Sum.inr (0, [Value.int 0, Value.ref rraq_31])), (rraq_31, Sum.inl (cI, 64, Sum.inl (fun _ => 0)))] H := ⟨hP, hD⟩
  have hP := hPD.1
  have hD := hPD.2
  exact my_vretg hx hb hr hlocks hQ hK hS (q_1, rraq_9, q_2, rraq_20, q_3, rraq_31) (show (0 + 1 + d_9 + 1 + d_20 + 1 + d_31) + 0 ≤ 300 by omega) (show (0 + 2 + d_9 + 2 + d_20 + 2 + d_31) + 0 ≤ 300 by omega) (trivial) (hP.sub [0, 1, 2, 3, 4, 5, 6] rfl) (hD.sub [0, 1, 2, 3, 4, 5, 6] (by decide +kernel) rfl) d_Coder_init_37
set_option maxHeartbeats 2000000 in
set_option maxRecDepth 100000 in
theorem c_Bits_Coderinit (l : Launch) (dC : Nat → ClassId) (dI : Nat → Nat → Nat) (cI cM cO : ClassId) (sz : Nat) (sl : Nat) (co : Nat) : MetVg l y_Coder_init (Cond.code y_Coder_init prog_4_method_1_code 1 none :: gw) ({ frames := 2, cells := 300, slots := 300, locals := 32 } : Room) (dC, dI) vwCl (kT cI cM cO) [Value.ref co] [(co, Sum.inr (3, [Value.int 0, Value.long 0, Value.long 0, Value.int 0, Value.int 0, Value.int 0, Value.long 0, Value.long 0, Value.long 0, Value.long 0, Value.long 0, Value.null, Value.null, Value.null, Value.int 0]))] sz sl (fun (u : Nat × Nat × Nat × Nat × Nat × Nat) => True) (fun (u : Nat × Nat × Nat × Nat × Nat × Nat) => [(co, Sum.inr (3, [Value.int 0, Value.long 0, Value.long 0, Value.int 0, Value.int 0, Value.int 0, Value.long 0, Value.long 0, Value.long 0, Value.long 0, Value.long 0, Value.ref u.1, Value.ref u.2.2.1, Value.ref u.2.2.2.2.1, Value.int 0])), (u.1, Sum.inr (0, [Value.int 0, Value.ref u.2.1])), (u.2.1, Sum.inl (cI, 64, Sum.inl (fun _ => 0))), (u.2.2.1, Sum.inr (0, [Value.int 0, Value.ref u.2.2.2.1])), (u.2.2.2.1, Sum.inl (cI, 64, Sum.inl (fun _ => 0))), (u.2.2.2.2.1, Sum.inr (0, [Value.int 0, Value.ref u.2.2.2.2.2])), (u.2.2.2.2.2, Sum.inl (cI, 64, Sum.inl (fun _ => 0)))]) 300 (fun (u : Nat × Nat × Nat × Nat × Nat × Nat) => 0) := by
  refine my_ofVg (cc := prog_4_method_1_code) (n := 1) (ret := none) (by decide) rfl (Nat.le_of_ble_eq_true rfl) ?_
  intro p e s m args below meth c R Q A ls H locs hx hb hr hts hown hlocks hml hnm hR hQ hA hl hP hK hN hD hS
  have hg : ∀ w ∈ gw, w.before args s = true := fun w h => hts w (List.mem_cons_of_mem _ h)
  have hown : s.vm.findClass "RangeCoders$Coder" = some m.cls := hown
  have hl : lv_has ls 1 [(0, Value.ref co)] := hl
  refine lv_aload_n hx hb d_Coder_init_0 rfl (lv_at hl 0 rfl) ?_
  refine W.objInit hx hb hown (hg _ k50) (hg _ k23) (hg _ k24) rfl (by rw [hml]; exact hl.1) rfl d_Coder_init_1 (by rw [hR]; exact Nat.le_of_ble_eq_true rfl) (by rw [hR]; exact Nat.le_of_ble_eq_true rfl) ?_
  refine W.eq (g2 := F0 m 4 ls []) rfl ?_
  refine lv_aload_n hx hb d_Coder_init_4 rfl (lv_at hl 0 rfl) ?_
  refine va_new (ci := 0) (fs := [Value.int 0, Value.null]) (C := "RangeCoders$Row") (T := T_Row) (N := 2) hx hb hg in_Row t_Row o_Row hown (hg _ k51) (hg _ k52) (hg _ k6) hK hP hD hS hA rfl (fun j hj => by rcases (show j = 0 ∨ j = 1 by omega) with rfl | rfl <;> rfl) (by rw [hR]; exact (show 0 + 1 ≤ 300 by omega)) (by rw [hR]; exact (show 0 + 2 ≤ 300 by omega)) d_Coder_init_5 (fun q_1 H hP hD hS => ?_)
  have hPD : my_PD (dC, dI) vwCl A [(co, Sum.inr (3, [Value.int 0, Value.long 0, Value.long 0, Value.int 0, Value.int 0, Value.int 0, Value.long 0, Value.long 0, Value.long 0, Value.long 0, Value.long 0, Value.null, Value.null, Value.null, Value.int 0])), (q_1, Sum.inr (0, [Value.int 0, Value.null]))] H := ⟨hP, hD⟩
  have hP := hPD.1
  have hD := hPD.2
  refine lv_dup hx hb d_Coder_init_8 rfl ?_
  refine my_cvg (wr := [(co, Sum.inr (3, [Value.int 0, Value.long 0, Value.long 0, Value.int 0, Value.int 0, Value.int 0, Value.long 0, Value.long 0, Value.long 0, Value.long 0, Value.long 0, Value.null, Value.null, Value.null, Value.int 0]))]) (va_runIN (As := []) (rest := [Value.ref q_1, Value.ref co]) ⟨hx, hb, hml, hown, hts⟩ (c_Row_init l dC dI cI cM cO H.size (hSl H) q_1) ⟨va_cnB 0 hts (my_gC k55) rfl rfl rfl (hN.1 _ j53 rfl) (hg _ k6) (by decide +kernel) ⟨by rw [hR]; exact Nat.le_of_ble_eq_true rfl, by rw [hR]; exact Nat.le_of_ble_eq_true rfl⟩, rfl, hg _ k54⟩ (my_preg (As := [Value.ref q_1]) hK hN (hP.sub [1] rfl) (hD.sub [1] (by decide +kernel) rfl)) rfl rfl hl.1 rfl (lv_room (Nat.le_of_ble_eq_true rfl)) d_Coder_init_9 ⟨by rw [hR]; exact (show (0 + 1) + 64 ≤ 300 by omega), by rw [hR]; exact (show (0 + 2) + 64 ≤ 300 by omega)⟩) hP hD hS hA [1] [0] rfl rfl (by decide +kernel) (by decide +kernel) (fun u9 d_9 H locs hd_9 hw_9 hP hD hS => ?_)
  obtain ⟨rraq_9, rfl⟩ : ∃ z, z = u9 := ⟨_, rfl⟩
  have hd_9 : d_9 + 0 ≤ 64 := hd_9
  have hPD : my_PD (dC, dI) vwCl A [(co, Sum.inr (3, [Value.int 0, Value.long 0, Value.long 0, Value.int 0, Value.int 0, Value.int 0, Value.long 0, Value.long 0, Value.long 0, Value.long 0, Value.long 0, Value.null, Value.null, Value.null, Value.int 0])), (q_1, Sum.inr (0, [Value.int 0, Value.ref rraq_9])), (rraq_9, Sum.inl (cI, 64, Sum.inl (fun _ => 0)))] H := ⟨hP, hD⟩
  have hP := hPD.1
  have hD := hPD.2
  refine va_putF (D := (dC, dI)) (ci := 3) (v := .ref q_1) (ty := (.object "RangeCoders$Row")) (C := "RangeCoders$Bits") (T := T_Bits) (N := 15) hx hb hg in_Bits t_Bits o_Bits n_Bits hown hK hP hD hS 0 rfl rfl 11 (by decide) (hg _ k101) (fun _ h9 => h9) rfl (by rw [hnm]; rfl) rfl (o_Bits 11 (by decide)) rfl rfl (Nat.le_of_ble_eq_true rfl) d_Coder_init_12 (fun H locs hP hD hS => ?_)
  have hPD : my_PD (dC, dI) vwCl A [(co, Sum.inr (3, [Value.int 0, Value.long 0, Value.long 0, Value.int 0, Value.int 0, Value.int 0, Value.long 0, Value.long 0, Value.long 0, Value.long 0, Value.long 0, Value.ref q_1, Value.null, Value.null, Value.int 0])), (q_1, Sum.inr (0, [Value.int 0, Value.ref rraq_9])), (rraq_9, Sum.inl (cI, 64, Sum.inl (fun _ => 0)))] H := ⟨hP, hD⟩
  have hP := hPD.1
  have hD := hPD.2
  refine lv_aload_n hx hb d_Coder_init_15 rfl (lv_at hl 0 rfl) ?_
  refine va_new (ci := 0) (fs := [Value.int 0, Value.null]) (C := "RangeCoders$Row") (T := T_Row) (N := 2) hx hb hg in_Row t_Row o_Row hown (hg _ k51) (hg _ k52) (hg _ k6) hK hP hD hS hA rfl (fun j hj => by rcases (show j = 0 ∨ j = 1 by omega) with rfl | rfl <;> rfl) (by rw [hR]; exact (show 0 + 1 + d_9 + 1 ≤ 300 by omega)) (by rw [hR]; exact (show 0 + 2 + d_9 + 2 ≤ 300 by omega)) d_Coder_init_16 (fun q_2 H hP hD hS => ?_)
  have hPD : my_PD (dC, dI) vwCl A [(co, Sum.inr (3, [Value.int 0, Value.long 0, Value.long 0, Value.int 0, Value.int 0, Value.int 0, Value.long 0, Value.long 0, Value.long 0, Value.long 0, Value.long 0, Value.ref q_1, Value.null, Value.null, Value.int 0])), (q_1, Sum.inr (0, [Value.int 0, Value.ref rraq_9])), (rraq_9, Sum.inl (cI, 64, Sum.inl (fun _ => 0))), (q_2, Sum.inr (0, [Value.int 0, Value.null]))] H := ⟨hP, hD⟩
  have hP := hPD.1
  have hD := hPD.2
  refine lv_dup hx hb d_Coder_init_19 rfl ?_
  refine my_cvg (wr := [(co, Sum.inr (3, [Value.int 0, Value.long 0, Value.long 0, Value.int 0, Value.int 0, Value.int 0, Value.long 0, Value.long 0, Value.long 0, Value.long 0, Value.long 0, Value.ref q_1, Value.null, Value.null, Value.int 0])), (q_1, Sum.inr (0, [Value.int 0, Value.ref rraq_9])), (rraq_9, Sum.inl (cI, 64, Sum.inl (fun _ => 0)))]) (va_runIN (As := []) (rest := [Value.ref q_2, Value.ref co]) ⟨hx, hb, hml, hown, hts⟩ (c_Row_init l dC dI cI cM cO H.size (hSl H) q_2) ⟨va_cnB 0 hts (my_gC k55) rfl rfl rfl (hN.1 _ j53 rfl) (hg _ k6) (by decide +kernel) ⟨by rw [hR]; exact Nat.le_of_ble_eq_true rfl, by rw [hR]; exact Nat.le_of_ble_eq_true rfl⟩, rfl, hg _ k54⟩ (my_preg (As := [Value.ref q_2]) hK hN (hP.sub [3] rfl) (hD.sub [3] (by decide +kernel) rfl)) rfl rfl hl.1 rfl (lv_room (Nat.le_of_ble_eq_true rfl)) d_Coder_init_20 ⟨by rw [hR]; exact (show (0 + 1 + d_9 + 1) + 64 ≤ 300 by omega), by rw [hR]; exact (show (0 + 2 + d_9 + 2) + 64 ≤ 300 by omega)⟩) hP hD hS hA [3] [0, 1, 2] rfl rfl (by decide +kernel) (by decide +kernel) (fun u9 d_20 H locs hd_20 hw_20 hP hD hS => ?_)
  obtain ⟨rraq_20, rfl⟩ : ∃ z, z = u9 := ⟨_, rfl⟩
  have hd_20 : d_20 + 0 ≤ 64 := hd_20
  have hPD : my_PD (dC, dI) vwCl A [(co, Sum.inr (3, [Value.int 0, Value.long 0, Value.long 0, Value.int 0, Value.int 0, Value.int 0, Value.long 0, Value.long 0, Value.long 0, Value.long 0, Value.long 0, Value.ref q_1, Value.null, Value.null, Value.int 0])), (q_1, Sum.inr (0, [Value.int 0, Value.ref rraq_9])), (rraq_9, Sum.inl (cI, 64, Sum.inl (fun _ => 0))), (q_2, Sum.inr (0, [Value.int 0, Value.ref rraq_20])), (rraq_20, Sum.inl (cI, 64, Sum.inl (fun _ => 0)))] H := ⟨hP, hD⟩
  have hP := hPD.1
  have hD := hPD.2
  refine va_put (D := (dC, dI)) (ci := 3) (v := .ref q_2) (ty := (.object "RangeCoders$Row")) (C := "RangeCoders$Bits") (T := T_Bits) (N := 15) hx hb hg in_Bits t_Bits o_Bits n_Bits hown hK hP hD hS 0 rfl rfl 12 (by decide) (hg _ k105) (fun _ h9 => h9) rfl (o_Bits 12 (by decide)) rfl rfl (Nat.le_of_ble_eq_true rfl) d_Coder_init_23 (fun H locs hP hD hS => ?_)
  have hPD : my_PD (dC, dI) vwCl A [(co, Sum.inr (3, [Value.int 0, Value.long 0, Value.long 0, Value.int 0, Value.int 0, Value.int 0, Value.long 0, Value.long 0, Value.long 0, Value.long 0, Value.long 0, Value.ref q_1, Value.ref q_2, Value.null, Value.int 0])), (q_1, Sum.inr (0, [Value.int 0, Value.ref rraq_9])), (rraq_9, Sum.inl (cI, 64, Sum.inl (fun _ => 0))), (q_2, Sum.inr (0, [Value.int 0, Value.ref rraq_20])), (rraq_20, Sum.inl (cI, 64, Sum.inl (fun _ => 0)))] H := ⟨hP, hD⟩
  have hP := hPD.1
  have hD := hPD.2
  refine lv_aload_n hx hb d_Coder_init_26 rfl (lv_at hl 0 rfl) ?_
  refine va_new (ci := 0) (fs := [Value.int 0, Value.null]) (C := "RangeCoders$Row") (T := T_Row) (N := 2) hx hb hg in_Row t_Row o_Row hown (hg _ k51) (hg _ k52) (hg _ k6) hK hP hD hS hA rfl (fun j hj => by rcases (show j = 0 ∨ j = 1 by omega) with rfl | rfl <;> rfl) (by rw [hR]; exact (show 0 + 1 + d_9 + 1 + d_20 + 1 ≤ 300 by omega)) (by rw [hR]; exact (show 0 + 2 + d_9 + 2 + d_20 + 2 ≤ 300 by omega)) d_Coder_init_27 (fun q_3 H hP hD hS => ?_)
  have hPD : my_PD (dC, dI) vwCl A [(co, Sum.inr (3, [Value.int 0, Value.long 0, Value.long 0, Value.int 0, Value.int 0, Value.int 0, Value.long 0, Value.long 0, Value.long 0, Value.long 0, Value.long 0, Value.ref q_1, Value.ref q_2, Value.null, Value.int 0])), (q_1, Sum.inr (0, [Value.int 0, Value.ref rraq_9])), (rraq_9, Sum.inl (cI, 64, Sum.inl (fun _ => 0))), (q_2, Sum.inr (0, [Value.int 0, Value.ref rraq_20])), (rraq_20, Sum.inl (cI, 64, Sum.inl (fun _ => 0))), (q_3, Sum.inr (0, [Value.int 0, Value.null]))] H := ⟨hP, hD⟩
  have hP := hPD.1
  have hD := hPD.2
  refine lv_dup hx hb d_Coder_init_30 rfl ?_
  refine my_cvg (wr := [(co, Sum.inr (3, [Value.int 0, Value.long 0, Value.long 0, Value.int 0, Value.int 0, Value.int 0, Value.long 0, Value.long 0, Value.long 0, Value.long 0, Value.long 0, Value.ref q_1, Value.ref q_2, Value.null, Value.int 0])), (q_1, Sum.inr (0, [Value.int 0, Value.ref rraq_9])), (rraq_9, Sum.inl (cI, 64, Sum.inl (fun _ => 0))), (q_2, Sum.inr (0, [Value.int 0, Value.ref rraq_20])), (rraq_20, Sum.inl (cI, 64, Sum.inl (fun _ => 0)))]) (va_runIN (As := []) (rest := [Value.ref q_3, Value.ref co]) ⟨hx, hb, hml, hown, hts⟩ (c_Row_init l dC dI cI cM cO H.size (hSl H) q_3) ⟨va_cnB 0 hts (my_gC k55) rfl rfl rfl (hN.1 _ j53 rfl) (hg _ k6) (by decide +kernel) ⟨by rw [hR]; exact Nat.le_of_ble_eq_true rfl, by rw [hR]; exact Nat.le_of_ble_eq_true rfl⟩, rfl, hg _ k54⟩ (my_preg (As := [Value.ref q_3]) hK hN (hP.sub [5] rfl) (hD.sub [5] (by decide +kernel) rfl)) rfl rfl hl.1 rfl (lv_room (Nat.le_of_ble_eq_true rfl)) d_Coder_init_31 ⟨by rw [hR]; exact (show (0 + 1 + d_9 + 1 + d_20 + 1) + 64 ≤ 300 by omega), by rw [hR]; exact (show (0 + 2 + d_9 + 2 + d_20 + 2) + 64 ≤ 300 by omega)⟩) hP hD hS hA [5] [0, 1, 2, 3, 4] rfl rfl (by decide +kernel) (by decide +kernel) (fun u9 d_31 H locs hd_31 hw_31 hP hD hS => ?_)
  obtain ⟨rraq_31, rfl⟩ : ∃ z, z = u9 := ⟨_, rfl⟩
  have hd_31 : d_31 + 0 ≤ 64 := hd_31
  have hPD : my_PD (dC, dI) vwCl A [(co, Sum.inr (3, [Value.int 0, Value.long 0, Value.long 0, Value.int 0, Value.int 0, Value.int 0, Value.long 0, Value.long 0, Value.long 0, Value.long 0, Value.long 0, Value.ref q_1, Value.ref q_2, Value.null, Value.int 0])), (q_1, Sum.inr (0, [Value.int 0, Value.ref rraq_9])), (rraq_9, Sum.inl (cI, 64, Sum.inl (fun _ => 0))), (q_2, Sum.inr (0, [Value.int 0, Value.ref rraq_20])), (rraq_20, Sum.inl (cI, 64, Sum.inl (fun _ => 0))), (q_3, Sum.inr (0, [Value.int 0, Value.ref rraq_31])), (rraq_31, Sum.inl (cI, 64, Sum.inl (fun _ => 0)))] H := ⟨hP, hD⟩
  have hP := hPD.1
  have hD := hPD.2
  refine va_put (D := (dC, dI)) (ci := 3) (v := .ref q_3) (ty := (.object "RangeCoders$Row")) (C := "RangeCoders$Bits") (T := T_Bits) (N := 15) hx hb hg in_Bits t_Bits o_Bits n_Bits hown hK hP hD hS 0 rfl rfl 13 (by decide) (hg _ k113) (fun _ h9 => h9) rfl (o_Bits 13 (by decide)) rfl rfl (Nat.le_of_ble_eq_true rfl) d_Coder_init_34 (fun H locs hP hD hS => ?_)
  have hPD : my_PD (dC, dI) vwCl A [(co, Sum.inr (3, [Value.int 0, Value.long 0, Value.long 0, Value.int 0, Value.int 0, Value.int 0, Value.long 0, Value.long 0, Value.long 0, Value.long 0, Value.long 0, Value.ref q_1, Value.ref q_2, Value.ref q_3, Value.int 0])), (q_1, Sum.inr (0, [Value.int 0, Value.ref rraq_9])), (rraq_9, Sum.inl (cI, 64, Sum.inl (fun _ => 0))), (q_2, Sum.inr (0, [Value.int 0, Value.ref rraq_20])), (rraq_20, Sum.inl (cI, 64, Sum.inl (fun _ => 0))), (q_3, Sum.inr (0, [Value.int 0, Value.ref rraq_31])), (rraq_31, Sum.inl (cI, 64, Sum.inl (fun _ => 0)))] H := ⟨hP, hD⟩
  have hP := hPD.1
  have hD := hPD.2
  exact my_vretg hx hb hr hlocks hQ hK hS (q_1, rraq_9, q_2, rraq_20, q_3, rraq_31) (show (0 + 1 + d_9 + 1 + d_20 + 1 + d_31) + 0 ≤ 300 by omega) (show (0 + 2 + d_9 + 2 + d_20 + 2 + d_31) + 0 ≤ 300 by omega) (trivial) (hP.sub [0, 1, 2, 3, 4, 5, 6] rfl) (hD.sub [0, 1, 2, 3, 4, 5, 6] (by decide +kernel) rfl) d_Coder_init_37
set_option maxHeartbeats 2000000 in
set_option maxRecDepth 100000 in
theorem c_Stack_Coderinit (l : Launch) (dC : Nat → ClassId) (dI : Nat → Nat → Nat) (cI cM cO : ClassId) (sz : Nat) (sl : Nat) (co : Nat) : MetVg l y_Coder_init (Cond.code y_Coder_init prog_4_method_1_code 1 none :: gw) ({ frames := 2, cells := 300, slots := 300, locals := 32 } : Room) (dC, dI) vwCl (kT cI cM cO) [Value.ref co] [(co, Sum.inr (4, [Value.long 0, Value.long 0, Value.null, Value.null, Value.null, Value.int 0, Value.null, Value.null, Value.null, Value.int 0]))] sz sl (fun (u : Nat × Nat × Nat × Nat × Nat × Nat) => True) (fun (u : Nat × Nat × Nat × Nat × Nat × Nat) => [(co, Sum.inr (4, [Value.long 0, Value.long 0, Value.null, Value.null, Value.null, Value.int 0, Value.ref u.1, Value.ref u.2.2.1, Value.ref u.2.2.2.2.1, Value.int 0])), (u.1, Sum.inr (0, [Value.int 0, Value.ref u.2.1])), (u.2.1, Sum.inl (cI, 64, Sum.inl (fun _ => 0))), (u.2.2.1, Sum.inr (0, [Value.int 0, Value.ref u.2.2.2.1])), (u.2.2.2.1, Sum.inl (cI, 64, Sum.inl (fun _ => 0))), (u.2.2.2.2.1, Sum.inr (0, [Value.int 0, Value.ref u.2.2.2.2.2])), (u.2.2.2.2.2, Sum.inl (cI, 64, Sum.inl (fun _ => 0)))]) 300 (fun (u : Nat × Nat × Nat × Nat × Nat × Nat) => 0) := by
  refine my_ofVg (cc := prog_4_method_1_code) (n := 1) (ret := none) (by decide) rfl (Nat.le_of_ble_eq_true rfl) ?_
  intro p e s m args below meth c R Q A ls H locs hx hb hr hts hown hlocks hml hnm hR hQ hA hl hP hK hN hD hS
  have hg : ∀ w ∈ gw, w.before args s = true := fun w h => hts w (List.mem_cons_of_mem _ h)
  have hown : s.vm.findClass "RangeCoders$Coder" = some m.cls := hown
  have hl : lv_has ls 1 [(0, Value.ref co)] := hl
  refine lv_aload_n hx hb d_Coder_init_0 rfl (lv_at hl 0 rfl) ?_
  refine W.objInit hx hb hown (hg _ k50) (hg _ k23) (hg _ k24) rfl (by rw [hml]; exact hl.1) rfl d_Coder_init_1 (by rw [hR]; exact Nat.le_of_ble_eq_true rfl) (by rw [hR]; exact Nat.le_of_ble_eq_true rfl) ?_
  refine W.eq (g2 := F0 m 4 ls []) rfl ?_
  refine lv_aload_n hx hb d_Coder_init_4 rfl (lv_at hl 0 rfl) ?_
  refine va_new (ci := 0) (fs := [Value.int 0, Value.null]) (C := "RangeCoders$Row") (T := T_Row) (N := 2) hx hb hg in_Row t_Row o_Row hown (hg _ k51) (hg _ k52) (hg _ k6) hK hP hD hS hA rfl (fun j hj => by rcases (show j = 0 ∨ j = 1 by omega) with rfl | rfl <;> rfl) (by rw [hR]; exact (show 0 + 1 ≤ 300 by omega)) (by rw [hR]; exact (show 0 + 2 ≤ 300 by omega)) d_Coder_init_5 (fun q_1 H hP hD hS => ?_)
  have hPD : my_PD (dC, dI) vwCl A [(co, Sum.inr (4, [Value.long 0, Value.long 0, Value.null, Value.null, Value.null, Value.int 0, Value.null, Value.null, Value.null, Value.int 0])), (q_1, Sum.inr (0, [Value.int 0, Value.null]))] H := ⟨hP, hD⟩
  have hP := hPD.1
  have hD := hPD.2
  refine lv_dup hx hb d_Coder_init_8 rfl ?_
  refine my_cvg (wr := [(co, Sum.inr (4, [Value.long 0, Value.long 0, Value.null, Value.null, Value.null, Value.int 0, Value.null, Value.null, Value.null, Value.int 0]))]) (va_runIN (As := []) (rest := [Value.ref q_1, Value.ref co]) ⟨hx, hb, hml, hown, hts⟩ (c_Row_init l dC dI cI cM cO H.size (hSl H) q_1) ⟨va_cnB 0 hts (my_gC k55) rfl rfl rfl (hN.1 _ j53 rfl) (hg _ k6) (by decide +kernel) ⟨by rw [hR]; exact Nat.le_of_ble_eq_true rfl, by rw [hR]; exact Nat.le_of_ble_eq_true rfl⟩, rfl, hg _ k54⟩ (my_preg (As := [Value.ref q_1]) hK hN (hP.sub [1] rfl) (hD.sub [1] (by decide +kernel) rfl)) rfl rfl hl.1 rfl (lv_room (Nat.le_of_ble_eq_true rfl)) d_Coder_init_9 ⟨by rw [hR]; exact (show (0 + 1) + 64 ≤ 300 by omega), by rw [hR]; exact (show (0 + 2) + 64 ≤ 300 by omega)⟩) hP hD hS hA [1] [0] rfl rfl (by decide +kernel) (by decide +kernel) (fun u9 d_9 H locs hd_9 hw_9 hP hD hS => ?_)
  obtain ⟨rraq_9, rfl⟩ : ∃ z, z = u9 := ⟨_, rfl⟩
  have hd_9 : d_9 + 0 ≤ 64 := hd_9
  have hPD : my_PD (dC, dI) vwCl A [(co, Sum.inr (4, [Value.long 0, Value.long 0, Value.null, Value.null, Value.null, Value.int 0, Value.null, Value.null, Value.null, Value.int 0])), (q_1, Sum.inr (0, [Value.int 0, Value.ref rraq_9])), (rraq_9, Sum.inl (cI, 64, Sum.inl (fun _ => 0)))] H := ⟨hP, hD⟩
  have hP := hPD.1
  have hD := hPD.2
  refine va_putF (D := (dC, dI)) (ci := 4) (v := .ref q_1) (ty := (.object "RangeCoders$Row")) (C := "RangeCoders$Stack") (T := T_Stack) (N := 10) hx hb hg in_Stack t_Stack o_Stack n_Stack hown hK hP hD hS 0 rfl rfl 6 (by decide) (hg _ k101) (fun _ h9 => h9) rfl (by rw [hnm]; rfl) rfl (o_Stack 6 (by decide)) rfl rfl (Nat.le_of_ble_eq_true rfl) d_Coder_init_12 (fun H locs hP hD hS => ?_)
  have hPD : my_PD (dC, dI) vwCl A [(co, Sum.inr (4, [Value.long 0, Value.long 0, Value.null, Value.null, Value.null, Value.int 0, Value.ref q_1, Value.null, Value.null, Value.int 0])), (q_1, Sum.inr (0, [Value.int 0, Value.ref rraq_9])), (rraq_9, Sum.inl (cI, 64, Sum.inl (fun _ => 0)))] H := ⟨hP, hD⟩
  have hP := hPD.1
  have hD := hPD.2
  refine lv_aload_n hx hb d_Coder_init_15 rfl (lv_at hl 0 rfl) ?_
  refine va_new (ci := 0) (fs := [Value.int 0, Value.null]) (C := "RangeCoders$Row") (T := T_Row) (N := 2) hx hb hg in_Row t_Row o_Row hown (hg _ k51) (hg _ k52) (hg _ k6) hK hP hD hS hA rfl (fun j hj => by rcases (show j = 0 ∨ j = 1 by omega) with rfl | rfl <;> rfl) (by rw [hR]; exact (show 0 + 1 + d_9 + 1 ≤ 300 by omega)) (by rw [hR]; exact (show 0 + 2 + d_9 + 2 ≤ 300 by omega)) d_Coder_init_16 (fun q_2 H hP hD hS => ?_)
  have hPD : my_PD (dC, dI) vwCl A [(co, Sum.inr (4, [Value.long 0, Value.long 0, Value.null, Value.null, Value.null, Value.int 0, Value.ref q_1, Value.null, Value.null, Value.int 0])), (q_1, Sum.inr (0, [Value.int 0, Value.ref rraq_9])), (rraq_9, Sum.inl (cI, 64, Sum.inl (fun _ => 0))), (q_2, Sum.inr (0, [Value.int 0, Value.null]))] H := ⟨hP, hD⟩
  have hP := hPD.1
  have hD := hPD.2
  refine lv_dup hx hb d_Coder_init_19 rfl ?_
  refine my_cvg (wr := [(co, Sum.inr (4, [Value.long 0, Value.long 0, Value.null, Value.null, Value.null, Value.int 0, Value.ref q_1, Value.null, Value.null, Value.int 0])), (q_1, Sum.inr (0, [Value.int 0, Value.ref rraq_9])), (rraq_9, Sum.inl (cI, 64, Sum.inl (fun _ => 0)))]) (va_runIN (As := []) (rest := [Value.ref q_2, Value.ref co]) ⟨hx, hb, hml, hown, hts⟩ (c_Row_init l dC dI cI cM cO H.size (hSl H) q_2) ⟨va_cnB 0 hts (my_gC k55) rfl rfl rfl (hN.1 _ j53 rfl) (hg _ k6) (by decide +kernel) ⟨by rw [hR]; exact Nat.le_of_ble_eq_true rfl, by rw [hR]; exact Nat.le_of_ble_eq_true rfl⟩, rfl, hg _ k54⟩ (my_preg (As := [Value.ref q_2]) hK hN (hP.sub [3] rfl) (hD.sub [3] (by decide +kernel) rfl)) rfl rfl hl.1 rfl (lv_room (Nat.le_of_ble_eq_true rfl)) d_Coder_init_20 ⟨by rw [hR]; exact (show (0 + 1 + d_9 + 1) + 64 ≤ 300 by omega), by rw [hR]; exact (show (0 + 2 + d_9 + 2) + 64 ≤ 300 by omega)⟩) hP hD hS hA [3] [0, 1, 2] rfl rfl (by decide +kernel) (by decide +kernel) (fun u9 d_20 H locs hd_20 hw_20 hP hD hS => ?_)
  obtain ⟨rraq_20, rfl⟩ : ∃ z, z = u9 := ⟨_, rfl⟩
  have hd_20 : d_20 + 0 ≤ 64 := hd_20
  have hPD : my_PD (dC, dI) vwCl A [(co, Sum.inr (4, [Value.long 0, Value.long 0, Value.null, Value.null, Value.null, Value.int 0, Value.ref q_1, Value.null, Value.null, Value.int 0])), (q_1, Sum.inr (0, [Value.int 0, Value.ref rraq_9])), (rraq_9, Sum.inl (cI, 64, Sum.inl (fun _ => 0))), (q_2, Sum.inr (0, [Value.int 0, Value.ref rraq_20])), (rraq_20, Sum.inl (cI, 64, Sum.inl (fun _ => 0)))] H := ⟨hP, hD⟩
  have hP := hPD.1
  have hD := hPD.2
  refine va_put (D := (dC, dI)) (ci := 4) (v := .ref q_2) (ty := (.object "RangeCoders$Row")) (C := "RangeCoders$Stack") (T := T_Stack) (N := 10) hx hb hg in_Stack t_Stack o_Stack n_Stack hown hK hP hD hS 0 rfl rfl 7 (by decide) (hg _ k105) (fun _ h9 => h9) rfl (o_Stack 7 (by decide)) rfl rfl (Nat.le_of_ble_eq_true rfl) d_Coder_init_23 (fun H locs hP hD hS => ?_)
  have hPD : my_PD (dC, dI) vwCl A [(co, Sum.inr (4, [Value.long 0, Value.long 0, Value.null, Value.null, Value.null, Value.int 0, Value.ref q_1, Value.ref q_2, Value.null, Value.int 0])), (q_1, Sum.inr (0, [Value.int 0, Value.ref rraq_9])), (rraq_9, Sum.inl (cI, 64, Sum.inl (fun _ => 0))), (q_2, Sum.inr (0, [Value.int 0, Value.ref rraq_20])), (rraq_20, Sum.inl (cI, 64, Sum.inl (fun _ => 0)))] H := ⟨hP, hD⟩
  have hP := hPD.1
  have hD := hPD.2
  refine lv_aload_n hx hb d_Coder_init_26 rfl (lv_at hl 0 rfl) ?_
  refine va_new (ci := 0) (fs := [Value.int 0, Value.null]) (C := "RangeCoders$Row") (T := T_Row) (N := 2) hx hb hg in_Row t_Row o_Row hown (hg _ k51) (hg _ k52) (hg _ k6) hK hP hD hS hA rfl (fun j hj => by rcases (show j = 0 ∨ j = 1 by omega) with rfl | rfl <;> rfl) (by rw [hR]; exact (show 0 + 1 + d_9 + 1 + d_20 + 1 ≤ 300 by omega)) (by rw [hR]; exact (show 0 + 2 + d_9 + 2 + d_20 + 2 ≤ 300 by omega)) d_Coder_init_27 (fun q_3 H hP hD hS => ?_)
  have hPD : my_PD (dC, dI) vwCl A [(co, Sum.inr (4, [Value.long 0, Value.long 0, Value.null, Value.null, Value.null, Value.int 0, Value.ref q_1, Value.ref q_2, Value.null, Value.int 0])), (q_1, Sum.inr (0, [Value.int 0, Value.ref rraq_9])), (rraq_9, Sum.inl (cI, 64, Sum.inl (fun _ => 0))), (q_2, Sum.inr (0, [Value.int 0, Value.ref rraq_20])), (rraq_20, Sum.inl (cI, 64, Sum.inl (fun _ => 0))), (q_3, Sum.inr (0, [Value.int 0, Value.null]))] H := ⟨hP, hD⟩
  have hP := hPD.1
  have hD := hPD.2
  refine lv_dup hx hb d_Coder_init_30 rfl ?_
  refine my_cvg (wr := [(co, Sum.inr (4, [Value.long 0, Value.long 0, Value.null, Value.null, Value.null, Value.int 0, Value.ref q_1, Value.ref q_2, Value.null, Value.int 0])), (q_1, Sum.inr (0, [Value.int 0, Value.ref rraq_9])), (rraq_9, Sum.inl (cI, 64, Sum.inl (fun _ => 0))), (q_2, Sum.inr (0, [Value.int 0, Value.ref rraq_20])), (rraq_20, Sum.inl (cI, 64, Sum.inl (fun _ => 0)))]) (va_runIN (As := []) (rest := [Value.ref q_3, Value.ref co]) ⟨hx, hb, hml, hown, hts⟩ (c_Row_init l dC dI cI cM cO H.size (hSl H) q_3) ⟨va_cnB 0 hts (my_gC k55) rfl rfl rfl (hN.1 _ j53 rfl) (hg _ k6) (by decide +kernel) ⟨by rw [hR]; exact Nat.le_of_ble_eq_true rfl, by rw [hR]; exact Nat.le_of_ble_eq_true rfl⟩, rfl, hg _ k54⟩ (my_preg (As := [Value.ref q_3]) hK hN (hP.sub [5] rfl) (hD.sub [5] (by decide +kernel) rfl)) rfl rfl hl.1 rfl (lv_room (Nat.le_of_ble_eq_true rfl)) d_Coder_init_31 ⟨by rw [hR]; exact (show (0 + 1 + d_9 + 1 + d_20 + 1) + 64 ≤ 300 by omega), by rw [hR]; exact (show (0 + 2 + d_9 + 2 + d_20 + 2) + 64 ≤ 300 by omega)⟩) hP hD hS hA [5] [0, 1, 2, 3, 4] rfl rfl (by decide +kernel) (by decide +kernel) (fun u9 d_31 H locs hd_31 hw_31 hP hD hS => ?_)
  obtain ⟨rraq_31, rfl⟩ : ∃ z, z = u9 := ⟨_, rfl⟩
  have hd_31 : d_31 + 0 ≤ 64 := hd_31
  have hPD : my_PD (dC, dI) vwCl A [(co, Sum.inr (4, [Value.long 0, Value.long 0, Value.null, Value.null, Value.null, Value.int 0, Value.ref q_1, Value.ref q_2, Value.null, Value.int 0])), (q_1, Sum.inr (0, [Value.int 0, Value.ref rraq_9])), (rraq_9, Sum.inl (cI, 64, Sum.inl (fun _ => 0))), (q_2, Sum.inr (0, [Value.int 0, Value.ref rraq_20])), (rraq_20, Sum.inl (cI, 64, Sum.inl (fun _ => 0))), (q_3, Sum.inr (0, [Value.int 0, Value.ref rraq_31])), (rraq_31, Sum.inl (cI, 64, Sum.inl (fun _ => 0)))] H := ⟨hP, hD⟩
  have hP := hPD.1
  have hD := hPD.2
  refine va_put (D := (dC, dI)) (ci := 4) (v := .ref q_3) (ty := (.object "RangeCoders$Row")) (C := "RangeCoders$Stack") (T := T_Stack) (N := 10) hx hb hg in_Stack t_Stack o_Stack n_Stack hown hK hP hD hS 0 rfl rfl 8 (by decide) (hg _ k113) (fun _ h9 => h9) rfl (o_Stack 8 (by decide)) rfl rfl (Nat.le_of_ble_eq_true rfl) d_Coder_init_34 (fun H locs hP hD hS => ?_)
  have hPD : my_PD (dC, dI) vwCl A [(co, Sum.inr (4, [Value.long 0, Value.long 0, Value.null, Value.null, Value.null, Value.int 0, Value.ref q_1, Value.ref q_2, Value.ref q_3, Value.int 0])), (q_1, Sum.inr (0, [Value.int 0, Value.ref rraq_9])), (rraq_9, Sum.inl (cI, 64, Sum.inl (fun _ => 0))), (q_2, Sum.inr (0, [Value.int 0, Value.ref rraq_20])), (rraq_20, Sum.inl (cI, 64, Sum.inl (fun _ => 0))), (q_3, Sum.inr (0, [Value.int 0, Value.ref rraq_31])), (rraq_31, Sum.inl (cI, 64, Sum.inl (fun _ => 0)))] H := ⟨hP, hD⟩
  have hP := hPD.1
  have hD := hPD.2
  exact my_vretg hx hb hr hlocks hQ hK hS (q_1, rraq_9, q_2, rraq_20, q_3, rraq_31) (show (0 + 1 + d_9 + 1 + d_20 + 1 + d_31) + 0 ≤ 300 by omega) (show (0 + 2 + d_9 + 2 + d_20 + 2 + d_31) + 0 ≤ 300 by omega) (trivial) (hP.sub [0, 1, 2, 3, 4, 5, 6] rfl) (hD.sub [0, 1, 2, 3, 4, 5, 6] (by decide +kernel) rfl) d_Coder_init_37
set_option maxHeartbeats 2000000 in
set_option maxRecDepth 100000 in
theorem c_Table_Coderinit (l : Launch) (dC : Nat → ClassId) (dI : Nat → Nat → Nat) (cI cM cO : ClassId) (sz : Nat) (sl : Nat) (co : Nat) : MetVg l y_Coder_init (Cond.code y_Coder_init prog_4_method_1_code 1 none :: gw) ({ frames := 2, cells := 300, slots := 300, locals := 32 } : Room) (dC, dI) vwCl (kT cI cM cO) [Value.ref co] [(co, Sum.inr (5, [Value.long 0, Value.long 0, Value.null, Value.null, Value.null, Value.int 0, Value.null, Value.null, Value.null, Value.int 0]))] sz sl (fun (u : Nat × Nat × Nat × Nat × Nat × Nat) => True) (fun (u : Nat × Nat × Nat × Nat × Nat × Nat) => [(co, Sum.inr (5, [Value.long 0, Value.long 0, Value.null, Value.null, Value.null, Value.int 0, Value.ref u.1, Value.ref u.2.2.1, Value.ref u.2.2.2.2.1, Value.int 0])), (u.1, Sum.inr (0, [Value.int 0, Value.ref u.2.1])), (u.2.1, Sum.inl (cI, 64, Sum.inl (fun _ => 0))), (u.2.2.1, Sum.inr (0, [Value.int 0, Value.ref u.2.2.2.1])), (u.2.2.2.1, Sum.inl (cI, 64, Sum.inl (fun _ => 0))), (u.2.2.2.2.1, Sum.inr (0, [Value.int 0, Value.ref u.2.2.2.2.2])), (u.2.2.2.2.2, Sum.inl (cI, 64, Sum.inl (fun _ => 0)))]) 300 (fun (u : Nat × Nat × Nat × Nat × Nat × Nat) => 0) := by
  refine my_ofVg (cc := prog_4_method_1_code) (n := 1) (ret := none) (by decide) rfl (Nat.le_of_ble_eq_true rfl) ?_
  intro p e s m args below meth c R Q A ls H locs hx hb hr hts hown hlocks hml hnm hR hQ hA hl hP hK hN hD hS
  have hg : ∀ w ∈ gw, w.before args s = true := fun w h => hts w (List.mem_cons_of_mem _ h)
  have hown : s.vm.findClass "RangeCoders$Coder" = some m.cls := hown
  have hl : lv_has ls 1 [(0, Value.ref co)] := hl
  refine lv_aload_n hx hb d_Coder_init_0 rfl (lv_at hl 0 rfl) ?_
  refine W.objInit hx hb hown (hg _ k50) (hg _ k23) (hg _ k24) rfl (by rw [hml]; exact hl.1) rfl d_Coder_init_1 (by rw [hR]; exact Nat.le_of_ble_eq_true rfl) (by rw [hR]; exact Nat.le_of_ble_eq_true rfl) ?_
  refine W.eq (g2 := F0 m 4 ls []) rfl ?_
  refine lv_aload_n hx hb d_Coder_init_4 rfl (lv_at hl 0 rfl) ?_
  refine va_new (ci := 0) (fs := [Value.int 0, Value.null]) (C := "RangeCoders$Row") (T := T_Row) (N := 2) hx hb hg in_Row t_Row o_Row hown (hg _ k51) (hg _ k52) (hg _ k6) hK hP hD hS hA rfl (fun j hj => by rcases (show j = 0 ∨ j = 1 by omega) with rfl | rfl <;> rfl) (by rw [hR]; exact (show 0 + 1 ≤ 300 by omega)) (by rw [hR]; exact (show 0 + 2 ≤ 300 by omega)) d_Coder_init_5 (fun q_1 H hP hD hS => ?_)
  have hPD : my_PD (dC, dI) vwCl A [(co, Sum.inr (5, [Value.long 0, Value.long 0, Value.null, Value.null, Value.null, Value.int 0, Value.null, Value.null, Value.null, Value.int 0])), (q_1, Sum.inr (0, [Value.int 0, Value.null]))] H := ⟨hP, hD⟩
  have hP := hPD.1
  have hD := hPD.2
  refine lv_dup hx hb d_Coder_init_8 rfl ?_
  refine my_cvg (wr := [(co, Sum.inr (5, [Value.long 0, Value.long 0, Value.null, Value.null, Value.null, Value.int 0, Value.null, Value.null, Value.null, Value.int 0]))]) (va_runIN (As := []) (rest := [Value.ref q_1, Value.ref co]) ⟨hx, hb, hml, hown, hts⟩ (c_Row_init l dC dI cI cM cO H.size (hSl H) q_1) ⟨va_cnB 0 hts (my_gC k55) rfl rfl rfl (hN.1 _ j53 rfl) (hg _ k6) (by decide +kernel) ⟨by rw [hR]; exact Nat.le_of_ble_eq_true rfl, by rw [hR]; exact Nat.le_of_ble_eq_true rfl⟩, rfl, hg _ k54⟩ (my_preg (As := [Value.ref q_1]) hK hN (hP.sub [1] rfl) (hD.sub [1] (by decide +kernel) rfl)) rfl rfl hl.1 rfl (lv_room (Nat.le_of_ble_eq_true rfl)) d_Coder_init_9 ⟨by rw [hR]; exact (show (0 + 1) + 64 ≤ 300 by omega), by rw [hR]; exact (show (0 + 2) + 64 ≤ 300 by omega)⟩) hP hD hS hA [1] [0] rfl rfl (by decide +kernel) (by decide +kernel) (fun u9 d_9 H locs hd_9 hw_9 hP hD hS => ?_)
  obtain ⟨rraq_9, rfl⟩ : ∃ z, z = u9 := ⟨_, rfl⟩
  have hd_9 : d_9 + 0 ≤ 64 := hd_9
  have hPD : my_PD (dC, dI) vwCl A [(co, Sum.inr (5, [Value.long 0, Value.long 0, Value.null, Value.null, Value.null, Value.int 0, Value.null, Value.null, Value.null, Value.int 0])), (q_1, Sum.inr (0, [Value.int 0, Value.ref rraq_9])), (rraq_9, Sum.inl (cI, 64, Sum.inl (fun _ => 0)))] H := ⟨hP, hD⟩
  have hP := hPD.1
  have hD := hPD.2
  refine va_putF (D := (dC, dI)) (ci := 5) (v := .ref q_1) (ty := (.object "RangeCoders$Row")) (C := "RangeCoders$Table") (T := T_Table) (N := 10) hx hb hg in_Table t_Table o_Table n_Table hown hK hP hD hS 0 rfl rfl 6 (by decide) (hg _ k101) (fun _ h9 => h9) rfl (by rw [hnm]; rfl) rfl (o_Table 6 (by decide)) rfl rfl (Nat.le_of_ble_eq_true rfl) d_Coder_init_12 (fun H locs hP hD hS => ?_)
  have hPD : my_PD (dC, dI) vwCl A [(co, Sum.inr (5, [Value.long 0, Value.long 0, Value.null, Value.null, Value.null, Value.int 0, Value.ref q_1, Value.null, Value.null, Value.int 0])), (q_1, Sum.inr (0, [Value.int 0, Value.ref rraq_9])), (rraq_9, Sum.inl (cI, 64, Sum.inl (fun _ => 0)))] H := ⟨hP, hD⟩
  have hP := hPD.1
  have hD := hPD.2
  refine lv_aload_n hx hb d_Coder_init_15 rfl (lv_at hl 0 rfl) ?_
  refine va_new (ci := 0) (fs := [Value.int 0, Value.null]) (C := "RangeCoders$Row") (T := T_Row) (N := 2) hx hb hg in_Row t_Row o_Row hown (hg _ k51) (hg _ k52) (hg _ k6) hK hP hD hS hA rfl (fun j hj => by rcases (show j = 0 ∨ j = 1 by omega) with rfl | rfl <;> rfl) (by rw [hR]; exact (show 0 + 1 + d_9 + 1 ≤ 300 by omega)) (by rw [hR]; exact (show 0 + 2 + d_9 + 2 ≤ 300 by omega)) d_Coder_init_16 (fun q_2 H hP hD hS => ?_)
  have hPD : my_PD (dC, dI) vwCl A [(co, Sum.inr (5, [Value.long 0, Value.long 0, Value.null, Value.null, Value.null, Value.int 0, Value.ref q_1, Value.null, Value.null, Value.int 0])), (q_1, Sum.inr (0, [Value.int 0, Value.ref rraq_9])), (rraq_9, Sum.inl (cI, 64, Sum.inl (fun _ => 0))), (q_2, Sum.inr (0, [Value.int 0, Value.null]))] H := ⟨hP, hD⟩
  have hP := hPD.1
  have hD := hPD.2
  refine lv_dup hx hb d_Coder_init_19 rfl ?_
  refine my_cvg (wr := [(co, Sum.inr (5, [Value.long 0, Value.long 0, Value.null, Value.null, Value.null, Value.int 0, Value.ref q_1, Value.null, Value.null, Value.int 0])), (q_1, Sum.inr (0, [Value.int 0, Value.ref rraq_9])), (rraq_9, Sum.inl (cI, 64, Sum.inl (fun _ => 0)))]) (va_runIN (As := []) (rest := [Value.ref q_2, Value.ref co]) ⟨hx, hb, hml, hown, hts⟩ (c_Row_init l dC dI cI cM cO H.size (hSl H) q_2) ⟨va_cnB 0 hts (my_gC k55) rfl rfl rfl (hN.1 _ j53 rfl) (hg _ k6) (by decide +kernel) ⟨by rw [hR]; exact Nat.le_of_ble_eq_true rfl, by rw [hR]; exact Nat.le_of_ble_eq_true rfl⟩, rfl, hg _ k54⟩ (my_preg (As := [Value.ref q_2]) hK hN (hP.sub [3] rfl) (hD.sub [3] (by decide +kernel) rfl)) rfl rfl hl.1 rfl (lv_room (Nat.le_of_ble_eq_true rfl)) d_Coder_init_20 ⟨by rw [hR]; exact (show (0 + 1 + d_9 + 1) + 64 ≤ 300 by omega), by rw [hR]; exact (show (0 + 2 + d_9 + 2) + 64 ≤ 300 by omega)⟩) hP hD hS hA [3] [0, 1, 2] rfl rfl (by decide +kernel) (by decide +kernel) (fun u9 d_20 H locs hd_20 hw_20 hP hD hS => ?_)
  obtain ⟨rraq_20, rfl⟩ : ∃ z, z = u9 := ⟨_, rfl⟩
  have hd_20 : d_20 + 0 ≤ 64 := hd_20
  have hPD : my_PD (dC, dI) vwCl A [(co, Sum.inr (5, [Value.long 0, Value.long 0, Value.null, Value.null, Value.null, Value.int 0, Value.ref q_1, Value.null, Value.null, Value.int 0])), (q_1, Sum.inr (0, [Value.int 0, Value.ref rraq_9])), (rraq_9, Sum.inl (cI, 64, Sum.inl (fun _ => 0))), (q_2, Sum.inr (0, [Value.int 0, Value.ref rraq_20])), (rraq_20, Sum.inl (cI, 64, Sum.inl (fun _ => 0)))] H := ⟨hP, hD⟩
  have hP := hPD.1
  have hD := hPD.2
  refine va_put (D := (dC, dI)) (ci := 5) (v := .ref q_2) (ty := (.object "RangeCoders$Row")) (C := "RangeCoders$Table") (T := T_Table) (N := 10) hx hb hg in_Table t_Table o_Table n_Table hown hK hP hD hS 0 rfl rfl 7 (by decide) (hg _ k105) (fun _ h9 => h9) rfl (o_Table 7 (by decide)) rfl rfl (Nat.le_of_ble_eq_true rfl) d_Coder_init_23 (fun H locs hP hD hS => ?_)
  have hPD : my_PD (dC, dI) vwCl A [(co, Sum.inr (5, [Value.long 0, Value.long 0, Value.null, Value.null, Value.null, Value.int 0, Value.ref q_1, Value.ref q_2, Value.null, Value.int 0])), (q_1, Sum.inr (0, [Value.int 0, Value.ref rraq_9])), (rraq_9, Sum.inl (cI, 64, Sum.inl (fun _ => 0))), (q_2, Sum.inr (0, [Value.int 0, Value.ref rraq_20])), (rraq_20, Sum.inl (cI, 64, Sum.inl (fun _ => 0)))] H := ⟨hP, hD⟩
  have hP := hPD.1
  have hD := hPD.2
  refine lv_aload_n hx hb d_Coder_init_26 rfl (lv_at hl 0 rfl) ?_
  refine va_new (ci := 0) (fs := [Value.int 0, Value.null]) (C := "RangeCoders$Row") (T := T_Row) (N := 2) hx hb hg in_Row t_Row o_Row hown (hg _ k51) (hg _ k52) (hg _ k6) hK hP hD hS hA rfl (fun j hj => by rcases (show j = 0 ∨ j = 1 by omega) with rfl | rfl <;> rfl) (by rw [hR]; exact (show 0 + 1 + d_9 + 1 + d_20 + 1 ≤ 300 by omega)) (by rw [hR]; exact (show 0 + 2 + d_9 + 2 + d_20 + 2 ≤ 300 by omega)) d_Coder_init_27 (fun q_3 H hP hD hS => ?_)
  have hPD : my_PD (dC, dI) vwCl A [(co, Sum.inr (5, [Value.long 0, Value.long 0, Value.null, Value.null, Value.null, Value.int 0, Value.ref q_1, Value.ref q_2, Value.null, Value.int 0])), (q_1, Sum.inr (0, [Value.int 0, Value.ref rraq_9])), (rraq_9, Sum.inl (cI, 64, Sum.inl (fun _ => 0))), (q_2, Sum.inr (0, [Value.int 0, Value.ref rraq_20])), (rraq_20, Sum.inl (cI, 64, Sum.inl (fun _ => 0))), (q_3, Sum.inr (0, [Value.int 0, Value.null]))] H := ⟨hP, hD⟩
  have hP := hPD.1
  have hD := hPD.2
  refine lv_dup hx hb d_Coder_init_30 rfl ?_
  refine my_cvg (wr := [(co, Sum.inr (5, [Value.long 0, Value.long 0, Value.null, Value.null, Value.null, Value.int 0, Value.ref q_1, Value.ref q_2, Value.null, Value.int 0])), (q_1, Sum.inr (0, [Value.int 0, Value.ref rraq_9])), (rraq_9, Sum.inl (cI, 64, Sum.inl (fun _ => 0))), (q_2, Sum.inr (0, [Value.int 0, Value.ref rraq_20])), (rraq_20, Sum.inl (cI, 64, Sum.inl (fun _ => 0)))]) (va_runIN (As := []) (rest := [Value.ref q_3, Value.ref co]) ⟨hx, hb, hml, hown, hts⟩ (c_Row_init l dC dI cI cM cO H.size (hSl H) q_3) ⟨va_cnB 0 hts (my_gC k55) rfl rfl rfl (hN.1 _ j53 rfl) (hg _ k6) (by decide +kernel) ⟨by rw [hR]; exact Nat.le_of_ble_eq_true rfl, by rw [hR]; exact Nat.le_of_ble_eq_true rfl⟩, rfl, hg _ k54⟩ (my_preg (As := [Value.ref q_3]) hK hN (hP.sub [5] rfl) (hD.sub [5] (by decide +kernel) rfl)) rfl rfl hl.1 rfl (lv_room (Nat.le_of_ble_eq_true rfl)) d_Coder_init_31 ⟨by rw [hR]; exact (show (0 + 1 + d_9 + 1 + d_20 + 1) + 64 ≤ 300 by omega), by rw [hR]; exact (show (0 + 2 + d_9 + 2 + d_20 + 2) + 64 ≤ 300 by omega)⟩) hP hD hS hA [5] [0, 1, 2, 3, 4] rfl rfl (by decide +kernel) (by decide +kernel) (fun u9 d_31 H locs hd_31 hw_31 hP hD hS => ?_)
  obtain ⟨rraq_31, rfl⟩ : ∃ z, z = u9 := ⟨_, rfl⟩
  have hd_31 : d_31 + 0 ≤ 64 := hd_31
  have hPD : my_PD (dC, dI) vwCl A [(co, Sum.inr (5, [Value.long 0, Value.long 0, Value.null, Value.null, Value.null, Value.int 0, Value.ref q_1, Value.ref q_2, Value.null, Value.int 0])), (q_1, Sum.inr (0, [Value.int 0, Value.ref rraq_9])), (rraq_9, Sum.inl (cI, 64, Sum.inl (fun _ => 0))), (q_2, Sum.inr (0, [Value.int 0, Value.ref rraq_20])), (rraq_20, Sum.inl (cI, 64, Sum.inl (fun _ => 0))), (q_3, Sum.inr (0, [Value.int 0, Value.ref rraq_31])), (rraq_31, Sum.inl (cI, 64, Sum.inl (fun _ => 0)))] H := ⟨hP, hD⟩
  have hP := hPD.1
  have hD := hPD.2
  refine va_put (D := (dC, dI)) (ci := 5) (v := .ref q_3) (ty := (.object "RangeCoders$Row")) (C := "RangeCoders$Table") (T := T_Table) (N := 10) hx hb hg in_Table t_Table o_Table n_Table hown hK hP hD hS 0 rfl rfl 8 (by decide) (hg _ k113) (fun _ h9 => h9) rfl (o_Table 8 (by decide)) rfl rfl (Nat.le_of_ble_eq_true rfl) d_Coder_init_34 (fun H locs hP hD hS => ?_)
  have hPD : my_PD (dC, dI) vwCl A [(co, Sum.inr (5, [Value.long 0, Value.long 0, Value.null, Value.null, Value.null, Value.int 0, Value.ref q_1, Value.ref q_2, Value.ref q_3, Value.int 0])), (q_1, Sum.inr (0, [Value.int 0, Value.ref rraq_9])), (rraq_9, Sum.inl (cI, 64, Sum.inl (fun _ => 0))), (q_2, Sum.inr (0, [Value.int 0, Value.ref rraq_20])), (rraq_20, Sum.inl (cI, 64, Sum.inl (fun _ => 0))), (q_3, Sum.inr (0, [Value.int 0, Value.ref rraq_31])), (rraq_31, Sum.inl (cI, 64, Sum.inl (fun _ => 0)))] H := ⟨hP, hD⟩
  have hP := hPD.1
  have hD := hPD.2
  exact my_vretg hx hb hr hlocks hQ hK hS (q_1, rraq_9, q_2, rraq_20, q_3, rraq_31) (show (0 + 1 + d_9 + 1 + d_20 + 1 + d_31) + 0 ≤ 300 by omega) (show (0 + 2 + d_9 + 2 + d_20 + 2 + d_31) + 0 ≤ 300 by omega) (trivial) (hP.sub [0, 1, 2, 3, 4, 5, 6] rfl) (hD.sub [0, 1, 2, 3, 4, 5, 6] (by decide +kernel) rfl) d_Coder_init_37
set_option maxHeartbeats 2000000 in
set_option maxRecDepth 100000 in
theorem c_Carries_Rangedinit (l : Launch) (dC : Nat → ClassId) (dI : Nat → Nat → Nat) (cI cM cO : ClassId) (sz : Nat) (sl : Nat) (co : Nat) : MetVg l y_Ranged_init (Cond.code y_Ranged_init prog_8_method_1_code 1 none :: gw) ({ frames := 3, cells := 300, slots := 300, locals := 52 } : Room) (dC, dI) vwCl (kT cI cM cO) [Value.ref co] [(co, Sum.inr (1, [Value.int 0, Value.int 0, Value.long 0, Value.long 0, Value.long 0, Value.long 0, Value.long 0, Value.null, Value.null, Value.null, Value.int 0]))] sz sl (fun (u : Nat × Nat × Nat × Nat × Nat × Nat) => True) (fun (u : Nat × Nat × Nat × Nat × Nat × Nat) => [(co, Sum.inr (1, [Value.int 0, Value.int 0, Value.long 0, Value.long 4294967295, Value.long 0, Value.long 0, Value.long 0, Value.ref u.1, Value.ref u.2.2.1, Value.ref u.2.2.2.2.1, Value.int 0])), (u.1, Sum.inr (0, [Value.int 0, Value.ref u.2.1])), (u.2.1, Sum.inl (cI, 64, Sum.inl (fun _ => 0))), (u.2.2.1, Sum.inr (0, [Value.int 0, Value.ref u.2.2.2.1])), (u.2.2.2.1, Sum.inl (cI, 64, Sum.inl (fun _ => 0))), (u.2.2.2.2.1, Sum.inr (0, [Value.int 0, Value.ref u.2.2.2.2.2])), (u.2.2.2.2.2, Sum.inl (cI, 64, Sum.inl (fun _ => 0)))]) 300 (fun (u : Nat × Nat × Nat × Nat × Nat × Nat) => 0) := by
  refine my_ofVg (cc := prog_8_method_1_code) (n := 1) (ret := none) (by decide) rfl (Nat.le_of_ble_eq_true rfl) ?_
  intro p e s m args below meth c R Q A ls H locs hx hb hr hts hown hlocks hml hnm hR hQ hA hl hP hK hN hD hS
  have hg : ∀ w ∈ gw, w.before args s = true := fun w h => hts w (List.mem_cons_of_mem _ h)
  have hown : s.vm.findClass "RangeCoders$Ranged" = some m.cls := hown
  have hl : lv_has ls 1 [(0, Value.ref co)] := hl
  refine lv_aload_n hx hb d_Ranged_init_0 rfl (lv_at hl 0 rfl) ?_
  refine my_cvg (wr := []) (va_runIN (As := []) (rest := []) ⟨hx, hb, hml, hown, hts⟩ (c_Carries_Coderinit l dC dI cI cM cO H.size (hSl H) co) ⟨va_cnB 0 hts (my_gC k49) rfl rfl rfl (hN.1 _ j47 rfl) (hg _ k3) (by decide +kernel) ⟨by rw [hR]; exact Nat.le_of_ble_eq_true rfl, by rw [hR]; exact Nat.le_of_ble_eq_true rfl⟩, rfl, hg _ k48⟩ (my_preg (As := [Value.ref co]) hK hN (hP.sub [0] rfl) (hD.sub [0] (by decide +kernel) rfl)) rfl rfl hl.1 rfl (lv_room (Nat.le_of_ble_eq_true rfl)) d_Ranged_init_1 ⟨by rw [hR]; exact (show 0 + 300 ≤ 300 by omega), by rw [hR]; exact (show 0 + 300 ≤ 300 by omega)⟩) hP hD hS hA [0] [] rfl rfl (by decide +kernel) (by decide +kernel) (fun u9 d_1 H locs hd_1 hw_1 hP hD hS => ?_)
  obtain ⟨zi_1, zia_1, zu_1, zua_1, zw_1, zwa_1⟩ := u9
  have hd_1 : d_1 + 0 ≤ 300 := hd_1
  have hPD : my_PD (dC, dI) vwCl A [(co, Sum.inr (1, [Value.int 0, Value.int 0, Value.long 0, Value.long 0, Value.long 0, Value.long 0, Value.long 0, Value.ref zi_1, Value.ref zu_1, Value.ref zw_1, Value.int 0])), (zi_1, Sum.inr (0, [Value.int 0, Value.ref zia_1])), (zia_1, Sum.inl (cI, 64, Sum.inl (fun _ => 0))), (zu_1, Sum.inr (0, [Value.int 0, Value.ref zua_1])), (zua_1, Sum.inl (cI, 64, Sum.inl (fun _ => 0))), (zw_1, Sum.inr (0, [Value.int 0, Value.ref zwa_1])), (zwa_1, Sum.inl (cI, 64, Sum.inl (fun _ => 0)))] H := ⟨hP, hD⟩
  have hP := hPD.1
  have hD := hPD.2
  refine lv_aload_n hx hb d_Ranged_init_4 rfl (lv_at hl 0 rfl) ?_
  refine lv_ldc2 (v := 4294967295) hx hb hown (hg _ k67) d_Ranged_init_5 ?_
  refine va_put (D := (dC, dI)) (ci := 1) (v := .long 4294967295) (ty := .long) (C := "RangeCoders$Carries") (T := T_Carries) (N := 11) hx hb hg in_Carries t_Carries o_Carries n_Carries hown hK hP hD hS 0 rfl rfl 3 (by decide) (hg _ k77) (fun _ h9 => h9) rfl (o_Carries 3 (by decide)) rfl rfl (Nat.le_of_ble_eq_true rfl) d_Ranged_init_8 (fun H locs hP hD hS => ?_)
  have hPD : my_PD (dC, dI) vwCl A [(co, Sum.inr (1, [Value.int 0, Value.int 0, Value.long 0, Value.long 4294967295, Value.long 0, Value.long 0, Value.long 0, Value.ref zi_1, Value.ref zu_1, Value.ref zw_1, Value.int 0])), (zi_1, Sum.inr (0, [Value.int 0, Value.ref zia_1])), (zia_1, Sum.inl (cI, 64, Sum.inl (fun _ => 0))), (zu_1, Sum.inr (0, [Value.int 0, Value.ref zua_1])), (zua_1, Sum.inl (cI, 64, Sum.inl (fun _ => 0))), (zw_1, Sum.inr (0, [Value.int 0, Value.ref zwa_1])), (zwa_1, Sum.inl (cI, 64, Sum.inl (fun _ => 0)))] H := ⟨hP, hD⟩
  have hP := hPD.1
  have hD := hPD.2
  exact my_vretg hx hb hr hlocks hQ hK hS (zi_1, zia_1, zu_1, zua_1, zw_1, zwa_1) (show (0 + d_1) + 0 ≤ 300 by omega) (show (0 + d_1) + 0 ≤ 300 by omega) (trivial) (hP.sub [0, 1, 2, 3, 4, 5, 6] rfl) (hD.sub [0, 1, 2, 3, 4, 5, 6] (by decide +kernel) rfl) d_Ranged_init_11
set_option maxHeartbeats 2000000 in
set_option maxRecDepth 100000 in
theorem c_NoCarries_Rangedinit (l : Launch) (dC : Nat → ClassId) (dI : Nat → Nat → Nat) (cI cM cO : ClassId) (sz : Nat) (sl : Nat) (co : Nat) : MetVg l y_Ranged_init (Cond.code y_Ranged_init prog_8_method_1_code 1 none :: gw) ({ frames := 3, cells := 300, slots := 300, locals := 52 } : Room) (dC, dI) vwCl (kT cI cM cO) [Value.ref co] [(co, Sum.inr (2, [Value.long 0, Value.long 0, Value.long 0, Value.long 0, Value.long 0, Value.null, Value.null, Value.null, Value.int 0]))] sz sl (fun (u : Nat × Nat × Nat × Nat × Nat × Nat) => True) (fun (u : Nat × Nat × Nat × Nat × Nat × Nat) => [(co, Sum.inr (2, [Value.long 0, Value.long 4294967295, Value.long 0, Value.long 0, Value.long 0, Value.ref u.1, Value.ref u.2.2.1, Value.ref u.2.2.2.2.1, Value.int 0])), (u.1, Sum.inr (0, [Value.int 0, Value.ref u.2.1])), (u.2.1, Sum.inl (cI, 64, Sum.inl (fun _ => 0))), (u.2.2.1, Sum.inr (0, [Value.int 0, Value.ref u.2.2.2.1])), (u.2.2.2.1, Sum.inl (cI, 64, Sum.inl (fun _ => 0))), (u.2.2.2.2.1, Sum.inr (0, [Value.int 0, Value.ref u.2.2.2.2.2])), (u.2.2.2.2.2, Sum.inl (cI, 64, Sum.inl (fun _ => 0)))]) 300 (fun (u : Nat × Nat × Nat × Nat × Nat × Nat) => 0) := by
  refine my_ofVg (cc := prog_8_method_1_code) (n := 1) (ret := none) (by decide) rfl (Nat.le_of_ble_eq_true rfl) ?_
  intro p e s m args below meth c R Q A ls H locs hx hb hr hts hown hlocks hml hnm hR hQ hA hl hP hK hN hD hS
  have hg : ∀ w ∈ gw, w.before args s = true := fun w h => hts w (List.mem_cons_of_mem _ h)
  have hown : s.vm.findClass "RangeCoders$Ranged" = some m.cls := hown
  have hl : lv_has ls 1 [(0, Value.ref co)] := hl
  refine lv_aload_n hx hb d_Ranged_init_0 rfl (lv_at hl 0 rfl) ?_
  refine my_cvg (wr := []) (va_runIN (As := []) (rest := []) ⟨hx, hb, hml, hown, hts⟩ (c_NoCarries_Coderinit l dC dI cI cM cO H.size (hSl H) co) ⟨va_cnB 0 hts (my_gC k49) rfl rfl rfl (hN.1 _ j47 rfl) (hg _ k3) (by decide +kernel) ⟨by rw [hR]; exact Nat.le_of_ble_eq_true rfl, by rw [hR]; exact Nat.le_of_ble_eq_true rfl⟩, rfl, hg _ k48⟩ (my_preg (As := [Value.ref co]) hK hN (hP.sub [0] rfl) (hD.sub [0] (by decide +kernel) rfl)) rfl rfl hl.1 rfl (lv_room (Nat.le_of_ble_eq_true rfl)) d_Ranged_init_1 ⟨by rw [hR]; exact (show 0 + 300 ≤ 300 by omega), by rw [hR]; exact (show 0 + 300 ≤ 300 by omega)⟩) hP hD hS hA [0] [] rfl rfl (by decide +kernel) (by decide +kernel) (fun u9 d_1 H locs hd_1 hw_1 hP hD hS => ?_)
  obtain ⟨zi_1, zia_1, zu_1, zua_1, zw_1, zwa_1⟩ := u9
  have hd_1 : d_1 + 0 ≤ 300 := hd_1
  have hPD : my_PD (dC, dI) vwCl A [(co, Sum.inr (2, [Value.long 0, Value.long 0, Value.long 0, Value.long 0, Value.long 0, Value.ref zi_1, Value.ref zu_1, Value.ref zw_1, Value.int 0])), (zi_1, Sum.inr (0, [Value.int 0, Value.ref zia_1])), (zia_1, Sum.inl (cI, 64, Sum.inl (fun _ => 0))), (zu_1, Sum.inr (0, [Value.int 0, Value.ref zua_1])), (zua_1, Sum.inl (cI, 64, Sum.inl (fun _ => 0))), (zw_1, Sum.inr (0, [Value.int 0, Value.ref zwa_1])), (zwa_1, Sum.inl (cI, 64, Sum.inl (fun _ => 0)))] H := ⟨hP, hD⟩
  have hP := hPD.1
  have hD := hPD.2
  refine lv_aload_n hx hb d_Ranged_init_4 rfl (lv_at hl 0 rfl) ?_
  refine lv_ldc2 (v := 4294967295) hx hb hown (hg _ k67) d_Ranged_init_5 ?_
  refine va_put (D := (dC, dI)) (ci := 2) (v := .long 4294967295) (ty := .long) (C := "RangeCoders$NoCarries") (T := T_NoCarries) (N := 9) hx hb hg in_NoCarries t_NoCarries o_NoCarries n_NoCarries hown hK hP hD hS 0 rfl rfl 1 (by decide) (hg _ k77) (fun _ h9 => h9) rfl (o_NoCarries 1 (by decide)) rfl rfl (Nat.le_of_ble_eq_true rfl) d_Ranged_init_8 (fun H locs hP hD hS => ?_)
  have hPD : my_PD (dC, dI) vwCl A [(co, Sum.inr (2, [Value.long 0, Value.long 4294967295, Value.long 0, Value.long 0, Value.long 0, Value.ref zi_1, Value.ref zu_1, Value.ref zw_1, Value.int 0])), (zi_1, Sum.inr (0, [Value.int 0, Value.ref zia_1])), (zia_1, Sum.inl (cI, 64, Sum.inl (fun _ => 0))), (zu_1, Sum.inr (0, [Value.int 0, Value.ref zua_1])), (zua_1, Sum.inl (cI, 64, Sum.inl (fun _ => 0))), (zw_1, Sum.inr (0, [Value.int 0, Value.ref zwa_1])), (zwa_1, Sum.inl (cI, 64, Sum.inl (fun _ => 0)))] H := ⟨hP, hD⟩
  have hP := hPD.1
  have hD := hPD.2
  exact my_vretg hx hb hr hlocks hQ hK hS (zi_1, zia_1, zu_1, zua_1, zw_1, zwa_1) (show (0 + d_1) + 0 ≤ 300 by omega) (show (0 + d_1) + 0 ≤ 300 by omega) (trivial) (hP.sub [0, 1, 2, 3, 4, 5, 6] rfl) (hD.sub [0, 1, 2, 3, 4, 5, 6] (by decide +kernel) rfl) d_Ranged_init_11
set_option maxHeartbeats 2000000 in
set_option maxRecDepth 100000 in
theorem c_Bits_Rangedinit (l : Launch) (dC : Nat → ClassId) (dI : Nat → Nat → Nat) (cI cM cO : ClassId) (sz : Nat) (sl : Nat) (co : Nat) : MetVg l y_Ranged_init (Cond.code y_Ranged_init prog_8_method_1_code 1 none :: gw) ({ frames := 3, cells := 300, slots := 300, locals := 52 } : Room) (dC, dI) vwCl (kT cI cM cO) [Value.ref co] [(co, Sum.inr (3, [Value.int 0, Value.long 0, Value.long 0, Value.int 0, Value.int 0, Value.int 0, Value.long 0, Value.long 0, Value.long 0, Value.long 0, Value.long 0, Value.null, Value.null, Value.null, Value.int 0]))] sz sl (fun (u : Nat × Nat × Nat × Nat × Nat × Nat) => True) (fun (u : Nat × Nat × Nat × Nat × Nat × Nat) => [(co, Sum.inr (3, [Value.int 0, Value.long 0, Value.long 0, Value.int 0, Value.int 0, Value.int 0, Value.long 0, Value.long 4294967295, Value.long 0, Value.long 0, Value.long 0, Value.ref u.1, Value.ref u.2.2.1, Value.ref u.2.2.2.2.1, Value.int 0])), (u.1, Sum.inr (0, [Value.int 0, Value.ref u.2.1])), (u.2.1, Sum.inl (cI, 64, Sum.inl (fun _ => 0))), (u.2.2.1, Sum.inr (0, [Value.int 0, Value.ref u.2.2.2.1])), (u.2.2.2.1, Sum.inl (cI, 64, Sum.inl (fun _ => 0))), (u.2.2.2.2.1, Sum.inr (0, [Value.int 0, Value.ref u.2.2.2.2.2])), (u.2.2.2.2.2, Sum.inl (cI, 64, Sum.inl (fun _ => 0)))]) 300 (fun (u : Nat × Nat × Nat × Nat × Nat × Nat) => 0) := by
  refine my_ofVg (cc := prog_8_method_1_code) (n := 1) (ret := none) (by decide) rfl (Nat.le_of_ble_eq_true rfl) ?_
  intro p e s m args below meth c R Q A ls H locs hx hb hr hts hown hlocks hml hnm hR hQ hA hl hP hK hN hD hS
  have hg : ∀ w ∈ gw, w.before args s = true := fun w h => hts w (List.mem_cons_of_mem _ h)
  have hown : s.vm.findClass "RangeCoders$Ranged" = some m.cls := hown
  have hl : lv_has ls 1 [(0, Value.ref co)] := hl
  refine lv_aload_n hx hb d_Ranged_init_0 rfl (lv_at hl 0 rfl) ?_
  refine my_cvg (wr := []) (va_runIN (As := []) (rest := []) ⟨hx, hb, hml, hown, hts⟩ (c_Bits_Coderinit l dC dI cI cM cO H.size (hSl H) co) ⟨va_cnB 0 hts (my_gC k49) rfl rfl rfl (hN.1 _ j47 rfl) (hg _ k3) (by decide +kernel) ⟨by rw [hR]; exact Nat.le_of_ble_eq_true rfl, by rw [hR]; exact Nat.le_of_ble_eq_true rfl⟩, rfl, hg _ k48⟩ (my_preg (As := [Value.ref co]) hK hN (hP.sub [0] rfl) (hD.sub [0] (by decide +kernel) rfl)) rfl rfl hl.1 rfl (lv_room (Nat.le_of_ble_eq_true rfl)) d_Ranged_init_1 ⟨by rw [hR]; exact (show 0 + 300 ≤ 300 by omega), by rw [hR]; exact (show 0 + 300 ≤ 300 by omega)⟩) hP hD hS hA [0] [] rfl rfl (by decide +kernel) (by decide +kernel) (fun u9 d_1 H locs hd_1 hw_1 hP hD hS => ?_)
  obtain ⟨zi_1, zia_1, zu_1, zua_1, zw_1, zwa_1⟩ := u9
  have hd_1 : d_1 + 0 ≤ 300 := hd_1
  have hPD : my_PD (dC, dI) vwCl A [(co, Sum.inr (3, [Value.int 0, Value.long 0, Value.long 0, Value.int 0, Value.int 0, Value.int 0, Value.long 0, Value.long 0, Value.long 0, Value.long 0, Value.long 0, Value.ref zi_1, Value.ref zu_1, Value.ref zw_1, Value.int 0])), (zi_1, Sum.inr (0, [Value.int 0, Value.ref zia_1])), (zia_1, Sum.inl (cI, 64, Sum.inl (fun _ => 0))), (zu_1, Sum.inr (0, [Value.int 0, Value.ref zua_1])), (zua_1, Sum.inl (cI, 64, Sum.inl (fun _ => 0))), (zw_1, Sum.inr (0, [Value.int 0, Value.ref zwa_1])), (zwa_1, Sum.inl (cI, 64, Sum.inl (fun _ => 0)))] H := ⟨hP, hD⟩
  have hP := hPD.1
  have hD := hPD.2
  refine lv_aload_n hx hb d_Ranged_init_4 rfl (lv_at hl 0 rfl) ?_
  refine lv_ldc2 (v := 4294967295) hx hb hown (hg _ k67) d_Ranged_init_5 ?_
  refine va_put (D := (dC, dI)) (ci := 3) (v := .long 4294967295) (ty := .long) (C := "RangeCoders$Bits") (T := T_Bits) (N := 15) hx hb hg in_Bits t_Bits o_Bits n_Bits hown hK hP hD hS 0 rfl rfl 7 (by decide) (hg _ k77) (fun _ h9 => h9) rfl (o_Bits 7 (by decide)) rfl rfl (Nat.le_of_ble_eq_true rfl) d_Ranged_init_8 (fun H locs hP hD hS => ?_)
  have hPD : my_PD (dC, dI) vwCl A [(co, Sum.inr (3, [Value.int 0, Value.long 0, Value.long 0, Value.int 0, Value.int 0, Value.int 0, Value.long 0, Value.long 4294967295, Value.long 0, Value.long 0, Value.long 0, Value.ref zi_1, Value.ref zu_1, Value.ref zw_1, Value.int 0])), (zi_1, Sum.inr (0, [Value.int 0, Value.ref zia_1])), (zia_1, Sum.inl (cI, 64, Sum.inl (fun _ => 0))), (zu_1, Sum.inr (0, [Value.int 0, Value.ref zua_1])), (zua_1, Sum.inl (cI, 64, Sum.inl (fun _ => 0))), (zw_1, Sum.inr (0, [Value.int 0, Value.ref zwa_1])), (zwa_1, Sum.inl (cI, 64, Sum.inl (fun _ => 0)))] H := ⟨hP, hD⟩
  have hP := hPD.1
  have hD := hPD.2
  exact my_vretg hx hb hr hlocks hQ hK hS (zi_1, zia_1, zu_1, zua_1, zw_1, zwa_1) (show (0 + d_1) + 0 ≤ 300 by omega) (show (0 + d_1) + 0 ≤ 300 by omega) (trivial) (hP.sub [0, 1, 2, 3, 4, 5, 6] rfl) (hD.sub [0, 1, 2, 3, 4, 5, 6] (by decide +kernel) rfl) d_Ranged_init_11
set_option maxHeartbeats 2000000 in
set_option maxRecDepth 100000 in
theorem c_Carries_Carriesinit (l : Launch) (dC : Nat → ClassId) (dI : Nat → Nat → Nat) (cI cM cO : ClassId) (sz : Nat) (sl : Nat) (co : Nat) : MetVg l y_Carries_init (Cond.code y_Carries_init prog_3_method_1_code 1 none :: gw) ({ frames := 4, cells := 300, slots := 300, locals := 72 } : Room) (dC, dI) vwCl (kT cI cM cO) [Value.ref co] [(co, Sum.inr (1, [Value.int 0, Value.int 0, Value.long 0, Value.long 0, Value.long 0, Value.long 0, Value.long 0, Value.null, Value.null, Value.null, Value.int 0]))] sz sl (fun (u : Nat × Nat × Nat × Nat × Nat × Nat) => True) (fun (u : Nat × Nat × Nat × Nat × Nat × Nat) => [(co, Sum.inr (1, [Value.int (-1), Value.int 0, Value.long 0, Value.long 4294967295, Value.long 0, Value.long 0, Value.long 0, Value.ref u.1, Value.ref u.2.2.1, Value.ref u.2.2.2.2.1, Value.int 0])), (u.1, Sum.inr (0, [Value.int 0, Value.ref u.2.1])), (u.2.1, Sum.inl (cI, 64, Sum.inl (fun _ => 0))), (u.2.2.1, Sum.inr (0, [Value.int 0, Value.ref u.2.2.2.1])), (u.2.2.2.1, Sum.inl (cI, 64, Sum.inl (fun _ => 0))), (u.2.2.2.2.1, Sum.inr (0, [Value.int 0, Value.ref u.2.2.2.2.2])), (u.2.2.2.2.2, Sum.inl (cI, 64, Sum.inl (fun _ => 0)))]) 300 (fun (u : Nat × Nat × Nat × Nat × Nat × Nat) => 0) := by
  refine my_ofVg (cc := prog_3_method_1_code) (n := 1) (ret := none) (by decide) rfl (Nat.le_of_ble_eq_true rfl) ?_
  intro p e s m args below meth c R Q A ls H locs hx hb hr hts hown hlocks hml hnm hR hQ hA hl hP hK hN hD hS
  have hg : ∀ w ∈ gw, w.before args s = true := fun w h => hts w (List.mem_cons_of_mem _ h)
  have hown : s.vm.findClass "RangeCoders$Carries" = some m.cls := hown
  have hl : lv_has ls 1 [(0, Value.ref co)] := hl
  refine lv_aload_n hx hb d_Carries_init_0 rfl (lv_at hl 0 rfl) ?_
  refine my_cvg (wr := []) (va_runIN (As := []) (rest := []) ⟨hx, hb, hml, hown, hts⟩ (c_Carries_Rangedinit l dC dI cI cM cO H.size (hSl H) co) ⟨va_cnB 0 hts (my_gC k46) rfl rfl rfl (hN.1 _ j44 rfl) (hg _ k4) (by decide +kernel) ⟨by rw [hR]; exact Nat.le_of_ble_eq_true rfl, by rw [hR]; exact Nat.le_of_ble_eq_true rfl⟩, rfl, hg _ k45⟩ (my_preg (As := [Value.ref co]) hK hN (hP.sub [0] rfl) (hD.sub [0] (by decide +kernel) rfl)) rfl rfl hl.1 rfl (lv_room (Nat.le_of_ble_eq_true rfl)) d_Carries_init_1 ⟨by rw [hR]; exact (show 0 + 300 ≤ 300 by omega), by rw [hR]; exact (show 0 + 300 ≤ 300 by omega)⟩) hP hD hS hA [0] [] rfl rfl (by decide +kernel) (by decide +kernel) (fun u9 d_1 H locs hd_1 hw_1 hP hD hS => ?_)
  obtain ⟨zi_1, zia_1, zu_1, zua_1, zw_1, zwa_1⟩ := u9
  have hd_1 : d_1 + 0 ≤ 300 := hd_1
  have hPD : my_PD (dC, dI) vwCl A [(co, Sum.inr (1, [Value.int 0, Value.int 0, Value.long 0, Value.long 4294967295, Value.long 0, Value.long 0, Value.long 0, Value.ref zi_1, Value.ref zu_1, Value.ref zw_1, Value.int 0])), (zi_1, Sum.inr (0, [Value.int 0, Value.ref zia_1])), (zia_1, Sum.inl (cI, 64, Sum.inl (fun _ => 0))), (zu_1, Sum.inr (0, [Value.int 0, Value.ref zua_1])), (zua_1, Sum.inl (cI, 64, Sum.inl (fun _ => 0))), (zw_1, Sum.inr (0, [Value.int 0, Value.ref zwa_1])), (zwa_1, Sum.inl (cI, 64, Sum.inl (fun _ => 0)))] H := ⟨hP, hD⟩
  have hP := hPD.1
  have hD := hPD.2
  refine lv_aload_n hx hb d_Carries_init_4 rfl (lv_at hl 0 rfl) ?_
  refine lv_iconst (v := (-1)) hx hb d_Carries_init_5 (by decide) ?_
  refine va_put (D := (dC, dI)) (ci := 1) (v := .int (-1)) (ty := .int) (C := "RangeCoders$Carries") (T := T_Carries) (N := 11) hx hb hg in_Carries t_Carries o_Carries n_Carries hown hK hP hD hS 0 rfl rfl 0 (by decide) (hg _ k68) (fun _ h9 => h9) rfl (o_Carries 0 (by decide)) rfl rfl (Nat.le_of_ble_eq_true rfl) d_Carries_init_6 (fun H locs hP hD hS => ?_)
  have hPD : my_PD (dC, dI) vwCl A [(co, Sum.inr (1, [Value.int (-1), Value.int 0, Value.long 0, Value.long 4294967295, Value.long 0, Value.long 0, Value.long 0, Value.ref zi_1, Value.ref zu_1, Value.ref zw_1, Value.int 0])), (zi_1, Sum.inr (0, [Value.int 0, Value.ref zia_1])), (zia_1, Sum.inl (cI, 64, Sum.inl (fun _ => 0))), (zu_1, Sum.inr (0, [Value.int 0, Value.ref zua_1])), (zua_1, Sum.inl (cI, 64, Sum.inl (fun _ => 0))), (zw_1, Sum.inr (0, [Value.int 0, Value.ref zwa_1])), (zwa_1, Sum.inl (cI, 64, Sum.inl (fun _ => 0)))] H := ⟨hP, hD⟩
  have hP := hPD.1
  have hD := hPD.2
  exact my_vretg hx hb hr hlocks hQ hK hS (zi_1, zia_1, zu_1, zua_1, zw_1, zwa_1) (show (0 + d_1) + 0 ≤ 300 by omega) (show (0 + d_1) + 0 ≤ 300 by omega) (trivial) (hP.sub [0, 1, 2, 3, 4, 5, 6] rfl) (hD.sub [0, 1, 2, 3, 4, 5, 6] (by decide +kernel) rfl) d_Carries_init_9
set_option maxHeartbeats 2000000 in
set_option maxRecDepth 100000 in
theorem c_Bits_Carriesinit (l : Launch) (dC : Nat → ClassId) (dI : Nat → Nat → Nat) (cI cM cO : ClassId) (sz : Nat) (sl : Nat) (co : Nat) : MetVg l y_Carries_init (Cond.code y_Carries_init prog_3_method_1_code 1 none :: gw) ({ frames := 4, cells := 300, slots := 300, locals := 72 } : Room) (dC, dI) vwCl (kT cI cM cO) [Value.ref co] [(co, Sum.inr (3, [Value.int 0, Value.long 0, Value.long 0, Value.int 0, Value.int 0, Value.int 0, Value.long 0, Value.long 0, Value.long 0, Value.long 0, Value.long 0, Value.null, Value.null, Value.null, Value.int 0]))] sz sl (fun (u : Nat × Nat × Nat × Nat × Nat × Nat) => True) (fun (u : Nat × Nat × Nat × Nat × Nat × Nat) => [(co, Sum.inr (3, [Value.int 0, Value.long 0, Value.long 0, Value.int 0, Value.int (-1), Value.int 0, Value.long 0, Value.long 4294967295, Value.long 0, Value.long 0, Value.long 0, Value.ref u.1, Value.ref u.2.2.1, Value.ref u.2.2.2.2.1, Value.int 0])), (u.1, Sum.inr (0, [Value.int 0, Value.ref u.2.1])), (u.2.1, Sum.inl (cI, 64, Sum.inl (fun _ => 0))), (u.2.2.1, Sum.inr (0, [Value.int 0, Value.ref u.2.2.2.1])), (u.2.2.2.1, Sum.inl (cI, 64, Sum.inl (fun _ => 0))), (u.2.2.2.2.1, Sum.inr (0, [Value.int 0, Value.ref u.2.2.2.2.2])), (u.2.2.2.2.2, Sum.inl (cI, 64, Sum.inl (fun _ => 0)))]) 300 (fun (u : Nat × Nat × Nat × Nat × Nat × Nat) => 0) := by
  refine my_ofVg (cc := prog_3_method_1_code) (n := 1) (ret := none) (by decide) rfl (Nat.le_of_ble_eq_true rfl) ?_
  intro p e s m args below meth c R Q A ls H locs hx hb hr hts hown hlocks hml hnm hR hQ hA hl hP hK hN hD hS
  have hg : ∀ w ∈ gw, w.before args s = true := fun w h => hts w (List.mem_cons_of_mem _ h)
  have hown : s.vm.findClass "RangeCoders$Carries" = some m.cls := hown
  have hl : lv_has ls 1 [(0, Value.ref co)] := hl
  refine lv_aload_n hx hb d_Carries_init_0 rfl (lv_at hl 0 rfl) ?_
  refine my_cvg (wr := []) (va_runIN (As := []) (rest := []) ⟨hx, hb, hml, hown, hts⟩ (c_Bits_Rangedinit l dC dI cI cM cO H.size (hSl H) co) ⟨va_cnB 0 hts (my_gC k46) rfl rfl rfl (hN.1 _ j44 rfl) (hg _ k4) (by decide +kernel) ⟨by rw [hR]; exact Nat.le_of_ble_eq_true rfl, by rw [hR]; exact Nat.le_of_ble_eq_true rfl⟩, rfl, hg _ k45⟩ (my_preg (As := [Value.ref co]) hK hN (hP.sub [0] rfl) (hD.sub [0] (by decide +kernel) rfl)) rfl rfl hl.1 rfl (lv_room (Nat.le_of_ble_eq_true rfl)) d_Carries_init_1 ⟨by rw [hR]; exact (show 0 + 300 ≤ 300 by omega), by rw [hR]; exact (show 0 + 300 ≤ 300 by omega)⟩) hP hD hS hA [0] [] rfl rfl (by decide +kernel) (by decide +kernel) (fun u9 d_1 H locs hd_1 hw_1 hP hD hS => ?_)
  obtain ⟨zi_1, zia_1, zu_1, zua_1, zw_1, zwa_1⟩ := u9
  have hd_1 : d_1 + 0 ≤ 300 := hd_1
  have hPD : my_PD (dC, dI) vwCl A [(co, Sum.inr (3, [Value.int 0, Value.long 0, Value.long 0, Value.int 0, Value.int 0, Value.int 0, Value.long 0, Value.long 4294967295, Value.long 0, Value.long 0, Value.long 0, Value.ref zi_1, Value.ref zu_1, Value.ref zw_1, Value.int 0])), (zi_1, Sum.inr (0, [Value.int 0, Value.ref zia_1])), (zia_1, Sum.inl (cI, 64, Sum.inl (fun _ => 0))), (zu_1, Sum.inr (0, [Value.int 0, Value.ref zua_1])), (zua_1, Sum.inl (cI, 64, Sum.inl (fun _ => 0))), (zw_1, Sum.inr (0, [Value.int 0, Value.ref zwa_1])), (zwa_1, Sum.inl (cI, 64, Sum.inl (fun _ => 0)))] H := ⟨hP, hD⟩
  have hP := hPD.1
  have hD := hPD.2
  refine lv_aload_n hx hb d_Carries_init_4 rfl (lv_at hl 0 rfl) ?_
  refine lv_iconst (v := (-1)) hx hb d_Carries_init_5 (by decide) ?_
  refine va_put (D := (dC, dI)) (ci := 3) (v := .int (-1)) (ty := .int) (C := "RangeCoders$Bits") (T := T_Bits) (N := 15) hx hb hg in_Bits t_Bits o_Bits n_Bits hown hK hP hD hS 0 rfl rfl 4 (by decide) (hg _ k68) (fun _ h9 => h9) rfl (o_Bits 4 (by decide)) rfl rfl (Nat.le_of_ble_eq_true rfl) d_Carries_init_6 (fun H locs hP hD hS => ?_)
  have hPD : my_PD (dC, dI) vwCl A [(co, Sum.inr (3, [Value.int 0, Value.long 0, Value.long 0, Value.int 0, Value.int (-1), Value.int 0, Value.long 0, Value.long 4294967295, Value.long 0, Value.long 0, Value.long 0, Value.ref zi_1, Value.ref zu_1, Value.ref zw_1, Value.int 0])), (zi_1, Sum.inr (0, [Value.int 0, Value.ref zia_1])), (zia_1, Sum.inl (cI, 64, Sum.inl (fun _ => 0))), (zu_1, Sum.inr (0, [Value.int 0, Value.ref zua_1])), (zua_1, Sum.inl (cI, 64, Sum.inl (fun _ => 0))), (zw_1, Sum.inr (0, [Value.int 0, Value.ref zwa_1])), (zwa_1, Sum.inl (cI, 64, Sum.inl (fun _ => 0)))] H := ⟨hP, hD⟩
  have hP := hPD.1
  have hD := hPD.2
  exact my_vretg hx hb hr hlocks hQ hK hS (zi_1, zia_1, zu_1, zua_1, zw_1, zwa_1) (show (0 + d_1) + 0 ≤ 300 by omega) (show (0 + d_1) + 0 ≤ 300 by omega) (trivial) (hP.sub [0, 1, 2, 3, 4, 5, 6] rfl) (hD.sub [0, 1, 2, 3, 4, 5, 6] (by decide +kernel) rfl) d_Carries_init_9
set_option maxHeartbeats 2000000 in
set_option maxRecDepth 100000 in
theorem c_NoCarries_NoCarriesinit (l : Launch) (dC : Nat → ClassId) (dI : Nat → Nat → Nat) (cI cM cO : ClassId) (sz : Nat) (sl : Nat) (co : Nat) : MetVg l y_NoCarries_init (Cond.code y_NoCarries_init prog_6_method_1_code 1 none :: gw) ({ frames := 4, cells := 300, slots := 300, locals := 72 } : Room) (dC, dI) vwCl (kT cI cM cO) [Value.ref co] [(co, Sum.inr (2, [Value.long 0, Value.long 0, Value.long 0, Value.long 0, Value.long 0, Value.null, Value.null, Value.null, Value.int 0]))] sz sl (fun (u : Nat × Nat × Nat × Nat × Nat × Nat) => True) (fun (u : Nat × Nat × Nat × Nat × Nat × Nat) => [(co, Sum.inr (2, [Value.long 0, Value.long 4294967295, Value.long 0, Value.long 0, Value.long 0, Value.ref u.1, Value.ref u.2.2.1, Value.ref u.2.2.2.2.1, Value.int 0])), (u.1, Sum.inr (0, [Value.int 0, Value.ref u.2.1])), (u.2.1, Sum.inl (cI, 64, Sum.inl (fun _ => 0))), (u.2.2.1, Sum.inr (0, [Value.int 0, Value.ref u.2.2.2.1])), (u.2.2.2.1, Sum.inl (cI, 64, Sum.inl (fun _ => 0))), (u.2.2.2.2.1, Sum.inr (0, [Value.int 0, Value.ref u.2.2.2.2.2])), (u.2.2.2.2.2, Sum.inl (cI, 64, Sum.inl (fun _ => 0)))]) 300 (fun (u : Nat × Nat × Nat × Nat × Nat × Nat) => 0) := by
  refine my_ofVg (cc := prog_6_method_1_code) (n := 1) (ret := none) (by decide) rfl (Nat.le_of_ble_eq_true rfl) ?_
  intro p e s m args below meth c R Q A ls H locs hx hb hr hts hown hlocks hml hnm hR hQ hA hl hP hK hN hD hS
  have hg : ∀ w ∈ gw, w.before args s = true := fun w h => hts w (List.mem_cons_of_mem _ h)
  have hown : s.vm.findClass "RangeCoders$NoCarries" = some m.cls := hown
  have hl : lv_has ls 1 [(0, Value.ref co)] := hl
  refine lv_aload_n hx hb d_NoCarries_init_0 rfl (lv_at hl 0 rfl) ?_
  refine my_cvg (wr := []) (va_runIN (As := []) (rest := []) ⟨hx, hb, hml, hown, hts⟩ (c_NoCarries_Rangedinit l dC dI cI cM cO H.size (hSl H) co) ⟨va_cnB 0 hts (my_gC k46) rfl rfl rfl (hN.1 _ j159 rfl) (hg _ k4) (by decide +kernel) ⟨by rw [hR]; exact Nat.le_of_ble_eq_true rfl, by rw [hR]; exact Nat.le_of_ble_eq_true rfl⟩, rfl, hg _ k45⟩ (my_preg (As := [Value.ref co]) hK hN (hP.sub [0] rfl) (hD.sub [0] (by decide +kernel) rfl)) rfl rfl hl.1 rfl (lv_room (Nat.le_of_ble_eq_true rfl)) d_NoCarries_init_1 ⟨by rw [hR]; exact (show 0 + 300 ≤ 300 by omega), by rw [hR]; exact (show 0 + 300 ≤ 300 by omega)⟩) hP hD hS hA [0] [] rfl rfl (by decide +kernel) (by decide +kernel) (fun u9 d_1 H locs hd_1 hw_1 hP hD hS => ?_)
  obtain ⟨zi_1, zia_1, zu_1, zua_1, zw_1, zwa_1⟩ := u9
  have hd_1 : d_1 + 0 ≤ 300 := hd_1
  have hPD : my_PD (dC, dI) vwCl A [(co, Sum.inr (2, [Value.long 0, Value.long 4294967295, Value.long 0, Value.long 0, Value.long 0, Value.ref zi_1, Value.ref zu_1, Value.ref zw_1, Value.int 0])), (zi_1, Sum.inr (0, [Value.int 0, Value.ref zia_1])), (zia_1, Sum.inl (cI, 64, Sum.inl (fun _ => 0))), (zu_1, Sum.inr (0, [Value.int 0, Value.ref zua_1])), (zua_1, Sum.inl (cI, 64, Sum.inl (fun _ => 0))), (zw_1, Sum.inr (0, [Value.int 0, Value.ref zwa_1])), (zwa_1, Sum.inl (cI, 64, Sum.inl (fun _ => 0)))] H := ⟨hP, hD⟩
  have hP := hPD.1
  have hD := hPD.2
  exact my_vretg hx hb hr hlocks hQ hK hS (zi_1, zia_1, zu_1, zua_1, zw_1, zwa_1) (show (0 + d_1) + 0 ≤ 300 by omega) (show (0 + d_1) + 0 ≤ 300 by omega) (trivial) (hP.sub [0, 1, 2, 3, 4, 5, 6] rfl) (hD.sub [0, 1, 2, 3, 4, 5, 6] (by decide +kernel) rfl) d_NoCarries_init_4
set_option maxHeartbeats 2000000 in
set_option maxRecDepth 100000 in
theorem c_Bits_Bitsinit (l : Launch) (dC : Nat → ClassId) (dI : Nat → Nat → Nat) (cI cM cO : ClassId) (sz : Nat) (sl : Nat) (co : Nat) (sh : Int32) : MetVg l y_Bits_init (Cond.code y_Bits_init prog_2_method_1_code 2 none :: gw) ({ frames := 5, cells := 300, slots := 300, locals := 92 } : Room) (dC, dI) vwCl (kT cI cM cO) [Value.ref co, Value.int sh] [(co, Sum.inr (3, [Value.int 0, Value.long 0, Value.long 0, Value.int 0, Value.int 0, Value.int 0, Value.long 0, Value.long 0, Value.long 0, Value.long 0, Value.long 0, Value.null, Value.null, Value.null, Value.int 0]))] sz sl (fun (u : Nat × Nat × Nat × Nat × Nat × Nat) => True) (fun (u : Nat × Nat × Nat × Nat × Nat × Nat) => [(co, Sum.inr (3, [Value.int sh, Value.long 0, Value.long 0, Value.int 0, Value.int (-1), Value.int 0, Value.long 0, Value.long 4294967295, Value.long 0, Value.long 0, Value.long 0, Value.ref u.1, Value.ref u.2.2.1, Value.ref u.2.2.2.2.1, Value.int 0])), (u.1, Sum.inr (0, [Value.int 0, Value.ref u.2.1])), (u.2.1, Sum.inl (cI, 64, Sum.inl (fun _ => 0))), (u.2.2.1, Sum.inr (0, [Value.int 0, Value.ref u.2.2.2.1])), (u.2.2.2.1, Sum.inl (cI, 64, Sum.inl (fun _ => 0))), (u.2.2.2.2.1, Sum.inr (0, [Value.int 0, Value.ref u.2.2.2.2.2])), (u.2.2.2.2.2, Sum.inl (cI, 64, Sum.inl (fun _ => 0)))]) 300 (fun (u : Nat × Nat × Nat × Nat × Nat × Nat) => 0) := by
  refine my_ofVg (cc := prog_2_method_1_code) (n := 2) (ret := none) (by decide) rfl (Nat.le_of_ble_eq_true rfl) ?_
  intro p e s m args below meth c R Q A ls H locs hx hb hr hts hown hlocks hml hnm hR hQ hA hl hP hK hN hD hS
  have hg : ∀ w ∈ gw, w.before args s = true := fun w h => hts w (List.mem_cons_of_mem _ h)
  have hown : s.vm.findClass "RangeCoders$Bits" = some m.cls := hown
  have hl : lv_has ls 2 [(0, Value.ref co), (1, Value.int sh)] := hl
  refine lv_aload_n hx hb d_Bits_init_0 rfl (lv_at hl 0 rfl) ?_
  refine my_cvg (wr := []) (va_runIN (As := []) (rest := []) ⟨hx, hb, hml, hown, hts⟩ (c_Bits_Carriesinit l dC dI cI cM cO H.size (hSl H) co) ⟨va_cnB 0 hts (my_gC k43) rfl rfl rfl (hN.1 _ j175 rfl) (hg _ k5) (by decide +kernel) ⟨by rw [hR]; exact Nat.le_of_ble_eq_true rfl, by rw [hR]; exact Nat.le_of_ble_eq_true rfl⟩, rfl, hg _ k42⟩ (my_preg (As := [Value.ref co]) hK hN (hP.sub [0] rfl) (hD.sub [0] (by decide +kernel) rfl)) rfl rfl hl.1 rfl (lv_room (Nat.le_of_ble_eq_true rfl)) d_Bits_init_1 ⟨by rw [hR]; exact (show 0 + 300 ≤ 300 by omega), by rw [hR]; exact (show 0 + 300 ≤ 300 by omega)⟩) hP hD hS hA [0] [] rfl rfl (by decide +kernel) (by decide +kernel) (fun u9 d_1 H locs hd_1 hw_1 hP hD hS => ?_)
  obtain ⟨zi_1, zia_1, zu_1, zua_1, zw_1, zwa_1⟩ := u9
  have hd_1 : d_1 + 0 ≤ 300 := hd_1
  have hPD : my_PD (dC, dI) vwCl A [(co, Sum.inr (3, [Value.int 0, Value.long 0, Value.long 0, Value.int 0, Value.int (-1), Value.int 0, Value.long 0, Value.long 4294967295, Value.long 0, Value.long 0, Value.long 0, Value.ref zi_1, Value.ref zu_1, Value.ref zw_1, Value.int 0])), (zi_1, Sum.inr (0, [Value.int 0, Value.ref zia_1])), (zia_1, Sum.inl (cI, 64, Sum.inl (fun _ => 0))), (zu_1, Sum.inr (0, [Value.int 0, Value.ref zua_1])), (zua_1, Sum.inl (cI, 64, Sum.inl (fun _ => 0))), (zw_1, Sum.inr (0, [Value.int 0, Value.ref zwa_1])), (zwa_1, Sum.inl (cI, 64, Sum.inl (fun _ => 0)))] H := ⟨hP, hD⟩
  have hP := hPD.1
  have hD := hPD.2
  refine lv_aload_n hx hb d_Bits_init_4 rfl (lv_at hl 0 rfl) ?_
  refine lv_iload_n hx hb d_Bits_init_5 rfl (lv_at hl 1 rfl) ?_
  refine va_putF (D := (dC, dI)) (ci := 3) (v := .int sh) (ty := .int) (C := "RangeCoders$Bits") (T := T_Bits) (N := 15) hx hb hg in_Bits t_Bits o_Bits n_Bits hown hK hP hD hS 0 rfl rfl 0 (by decide) (hg _ k176) (fun _ h9 => h9) rfl (by rw [hnm]; rfl) rfl (o_Bits 0 (by decide)) rfl rfl (Nat.le_of_ble_eq_true rfl) d_Bits_init_6 (fun H locs hP hD hS => ?_)
  have hPD : my_PD (dC, dI) vwCl A [(co, Sum.inr (3, [Value.int sh, Value.long 0, Value.long 0, Value.int 0, Value.int (-1), Value.int 0, Value.long 0, Value.long 4294967295, Value.long 0, Value.long 0, Value.long 0, Value.ref zi_1, Value.ref zu_1, Value.ref zw_1, Value.int 0])), (zi_1, Sum.inr (0, [Value.int 0, Value.ref zia_1])), (zia_1, Sum.inl (cI, 64, Sum.inl (fun _ => 0))), (zu_1, Sum.inr (0, [Value.int 0, Value.ref zua_1])), (zua_1, Sum.inl (cI, 64, Sum.inl (fun _ => 0))), (zw_1, Sum.inr (0, [Value.int 0, Value.ref zwa_1])), (zwa_1, Sum.inl (cI, 64, Sum.inl (fun _ => 0)))] H := ⟨hP, hD⟩
  have hP := hPD.1
  have hD := hPD.2
  exact my_vretg hx hb hr hlocks hQ hK hS (zi_1, zia_1, zu_1, zua_1, zw_1, zwa_1) (show (0 + d_1) + 0 ≤ 300 by omega) (show (0 + d_1) + 0 ≤ 300 by omega) (trivial) (hP.sub [0, 1, 2, 3, 4, 5, 6] rfl) (hD.sub [0, 1, 2, 3, 4, 5, 6] (by decide +kernel) rfl) d_Bits_init_9
set_option maxHeartbeats 2000000 in
set_option maxRecDepth 100000 in
theorem c_Stack_Stackedinit (l : Launch) (dC : Nat → ClassId) (dI : Nat → Nat → Nat) (cI cM cO : ClassId) (sz : Nat) (sl : Nat) (co : Nat) : MetVg l y_Stacked_init (Cond.code y_Stacked_init prog_11_method_1_code 1 none :: gw) ({ frames := 3, cells := 2200, slots := 2200, locals := 52 } : Room) (dC, dI) vwCl (kT cI cM cO) [Value.ref co] [(co, Sum.inr (4, [Value.long 0, Value.long 0, Value.null, Value.null, Value.null, Value.int 0, Value.null, Value.null, Value.null, Value.int 0]))] sz sl (fun (u : Nat × Nat × Nat × Nat × Nat × Nat × Nat × Nat × Nat) => True) (fun (u : Nat × Nat × Nat × Nat × Nat × Nat × Nat × Nat × Nat) => [(co, Sum.inr (4, [Value.long 0, Value.long 0, Value.ref u.2.2.2.2.2.2.1, Value.ref u.2.2.2.2.2.2.2.1, Value.ref u.2.2.2.2.2.2.2.2, Value.int 0, Value.ref u.1, Value.ref u.2.2.1, Value.ref u.2.2.2.2.1, Value.int 0])), (u.1, Sum.inr (0, [Value.int 0, Value.ref u.2.1])), (u.2.1, Sum.inl (cI, 64, Sum.inl (fun _ => 0))), (u.2.2.1, Sum.inr (0, [Value.int 0, Value.ref u.2.2.2.1])), (u.2.2.2.1, Sum.inl (cI, 64, Sum.inl (fun _ => 0))), (u.2.2.2.2.1, Sum.inr (0, [Value.int 0, Value.ref u.2.2.2.2.2.1])), (u.2.2.2.2.2.1, Sum.inl (cI, 64, Sum.inl (fun _ => 0))), (u.2.2.2.2.2.2.1, Sum.inl (cO, 600, Sum.inr (Sum.inr (Sum.inr (Sum.inr (fun _ => none)))))), (u.2.2.2.2.2.2.2.1, Sum.inl (cI, 600, Sum.inl (fun _ => 0))), (u.2.2.2.2.2.2.2.2, Sum.inl (cI, 600, Sum.inl (fun _ => 0)))]) 2200 (fun (u : Nat × Nat × Nat × Nat × Nat × Nat × Nat × Nat × Nat) => 0) := by
  refine my_ofVg (cc := prog_11_method_1_code) (n := 1) (ret := none) (by decide) rfl (Nat.le_of_ble_eq_true rfl) ?_
  intro p e s m args below meth c R Q A ls H locs hx hb hr hts hown hlocks hml hnm hR hQ hA hl hP hK hN hD hS
  have hg : ∀ w ∈ gw, w.before args s = true := fun w h => hts w (List.mem_cons_of_mem _ h)
  have hown : s.vm.findClass "RangeCoders$Stacked" = some m.cls := hown
  have hl : lv_has ls 1 [(0, Value.ref co)] := hl
  refine lv_aload_n hx hb d_Stacked_init_0 rfl (lv_at hl 0 rfl) ?_
  refine my_cvg (wr := []) (va_runIN (As := []) (rest := []) ⟨hx, hb, hml, hown, hts⟩ (c_Stack_Coderinit l dC dI cI cM cO H.size (hSl H) co) ⟨va_cnB 0 hts (my_gC k49) rfl rfl rfl (hN.1 _ j208 rfl) (hg _ k3) (by decide +kernel) ⟨by rw [hR]; exact Nat.le_of_ble_eq_true rfl, by rw [hR]; exact Nat.le_of_ble_eq_true rfl⟩, rfl, hg _ k48⟩ (my_preg (As := [Value.ref co]) hK hN (hP.sub [0] rfl) (hD.sub [0] (by decide +kernel) rfl)) rfl rfl hl.1 rfl (lv_room (Nat.le_of_ble_eq_true rfl)) d_Stacked_init_1 ⟨by rw [hR]; exact (show 0 + 300 ≤ 2200 by omega), by rw [hR]; exact (show 0 + 300 ≤ 2200 by omega)⟩) hP hD hS hA [0] [] rfl rfl (by decide +kernel) (by decide +kernel) (fun u9 d_1 H locs hd_1 hw_1 hP hD hS => ?_)
  obtain ⟨zi_1, zia_1, zu_1, zua_1, zw_1, zwa_1⟩ := u9
  have hd_1 : d_1 + 0 ≤ 300 := hd_1
  have hPD : my_PD (dC, dI) vwCl A [(co, Sum.inr (4, [Value.long 0, Value.long 0, Value.null, Value.null, Value.null, Value.int 0, Value.ref zi_1, Value.ref zu_1, Value.ref zw_1, Value.int 0])), (zi_1, Sum.inr (0, [Value.int 0, Value.ref zia_1])), (zia_1, Sum.inl (cI, 64, Sum.inl (fun _ => 0))), (zu_1, Sum.inr (0, [Value.int 0, Value.ref zua_1])), (zua_1, Sum.inl (cI, 64, Sum.inl (fun _ => 0))), (zw_1, Sum.inr (0, [Value.int 0, Value.ref zwa_1])), (zwa_1, Sum.inl (cI, 64, Sum.inl (fun _ => 0)))] H := ⟨hP, hD⟩
  have hP := hPD.1
  have hD := hPD.2
  refine lv_aload_n hx hb d_Stacked_init_4 rfl (lv_at hl 0 rfl) ?_
  refine lv_sipush (v := 600) hx hb d_Stacked_init_5 (by decide) ?_
  refine my_newq hx hb hown (hg _ k209) hN.2.2 hK 2 rfl hP hD hS hA (N' := 600) (by decide) rfl (by decide) (by rw [hR]; exact (show 0 + d_1 + 1 ≤ 2200 by omega)) (by rw [hR]; exact (show 0 + d_1 + 600 ≤ 2200 by omega)) d_Stacked_init_8 (fun q_1 H hP hD hS => ?_)
  have hPD : my_PD (dC, dI) vwCl A [(co, Sum.inr (4, [Value.long 0, Value.long 0, Value.null, Value.null, Value.null, Value.int 0, Value.ref zi_1, Value.ref zu_1, Value.ref zw_1, Value.int 0])), (zi_1, Sum.inr (0, [Value.int 0, Value.ref zia_1])), (zia_1, Sum.inl (cI, 64, Sum.inl (fun _ => 0))), (zu_1, Sum.inr (0, [Value.int 0, Value.ref zua_1])), (zua_1, Sum.inl (cI, 64, Sum.inl (fun _ => 0))), (zw_1, Sum.inr (0, [Value.int 0, Value.ref zwa_1])), (zwa_1, Sum.inl (cI, 64, Sum.inl (fun _ => 0))), (q_1, Sum.inl (cO, 600, Sum.inr (Sum.inr (Sum.inr (Sum.inr (fun _ => none))))))] H := ⟨hP, hD⟩
  have hP := hPD.1
  have hD := hPD.2
  refine va_putF (D := (dC, dI)) (ci := 4) (v := .ref q_1) (ty := (.array (.object "RangeCoders$Odds"))) (C := "RangeCoders$Stack") (T := T_Stack) (N := 10) hx hb hg in_Stack t_Stack o_Stack n_Stack hown hK hP hD hS 0 rfl rfl 2 (by decide) (hg _ k220) (fun _ h9 => h9) rfl (by rw [hnm]; rfl) rfl (o_Stack 2 (by decide)) rfl rfl (Nat.le_of_ble_eq_true rfl) d_Stacked_init_11 (fun H locs hP hD hS => ?_)
  have hPD : my_PD (dC, dI) vwCl A [(co, Sum.inr (4, [Value.long 0, Value.long 0, Value.ref q_1, Value.null, Value.null, Value.int 0, Value.ref zi_1, Value.ref zu_1, Value.ref zw_1, Value.int 0])), (zi_1, Sum.inr (0, [Value.int 0, Value.ref zia_1])), (zia_1, Sum.inl (cI, 64, Sum.inl (fun _ => 0))), (zu_1, Sum.inr (0, [Value.int 0, Value.ref zua_1])), (zua_1, Sum.inl (cI, 64, Sum.inl (fun _ => 0))), (zw_1, Sum.inr (0, [Value.int 0, Value.ref zwa_1])), (zwa_1, Sum.inl (cI, 64, Sum.inl (fun _ => 0))), (q_1, Sum.inl (cO, 600, Sum.inr (Sum.inr (Sum.inr (Sum.inr (fun _ => none))))))] H := ⟨hP, hD⟩
  have hP := hPD.1
  have hD := hPD.2
  refine lv_aload_n hx hb d_Stacked_init_14 rfl (lv_at hl 0 rfl) ?_
  refine lv_sipush (v := 600) hx hb d_Stacked_init_15 (by decide) ?_
  refine my_newi hx hb (hg _ k66) hK 0 rfl hP hD hS hA (N' := 600) (by decide) (rfl) (by omega) (by rw [hR]; exact (show 0 + d_1 + 1 + 1 ≤ 2200 by omega)) (by rw [hR]; exact (show 0 + d_1 + 600 + 600 ≤ 2200 by omega)) d_Stacked_init_18 (fun q_2 H hP hD hS => ?_)
  have hPD : my_PD (dC, dI) vwCl A [(co, Sum.inr (4, [Value.long 0, Value.long 0, Value.ref q_1, Value.null, Value.null, Value.int 0, Value.ref zi_1, Value.ref zu_1, Value.ref zw_1, Value.int 0])), (zi_1, Sum.inr (0, [Value.int 0, Value.ref zia_1])), (zia_1, Sum.inl (cI, 64, Sum.inl (fun _ => 0))), (zu_1, Sum.inr (0, [Value.int 0, Value.ref zua_1])), (zua_1, Sum.inl (cI, 64, Sum.inl (fun _ => 0))), (zw_1, Sum.inr (0, [Value.int 0, Value.ref zwa_1])), (zwa_1, Sum.inl (cI, 64, Sum.inl (fun _ => 0))), (q_1, Sum.inl (cO, 600, Sum.inr (Sum.inr (Sum.inr (Sum.inr (fun _ => none)))))), (q_2, Sum.inl (cI, 600, Sum.inl (fun _ => 0)))] H := ⟨hP, hD⟩
  have hP := hPD.1
  have hD := hPD.2
  refine va_putF (D := (dC, dI)) (ci := 4) (v := .ref q_2) (ty := (.array .int)) (C := "RangeCoders$Stack") (T := T_Stack) (N := 10) hx hb hg in_Stack t_Stack o_Stack n_Stack hown hK hP hD hS 0 rfl rfl 3 (by decide) (hg _ k221) (fun _ h9 => h9) rfl (by rw [hnm]; rfl) rfl (o_Stack 3 (by decide)) rfl rfl (Nat.le_of_ble_eq_true rfl) d_Stacked_init_20 (fun H locs hP hD hS => ?_)
  have hPD : my_PD (dC, dI) vwCl A [(co, Sum.inr (4, [Value.long 0, Value.long 0, Value.ref q_1, Value.ref q_2, Value.null, Value.int 0, Value.ref zi_1, Value.ref zu_1, Value.ref zw_1, Value.int 0])), (zi_1, Sum.inr (0, [Value.int 0, Value.ref zia_1])), (zia_1, Sum.inl (cI, 64, Sum.inl (fun _ => 0))), (zu_1, Sum.inr (0, [Value.int 0, Value.ref zua_1])), (zua_1, Sum.inl (cI, 64, Sum.inl (fun _ => 0))), (zw_1, Sum.inr (0, [Value.int 0, Value.ref zwa_1])), (zwa_1, Sum.inl (cI, 64, Sum.inl (fun _ => 0))), (q_1, Sum.inl (cO, 600, Sum.inr (Sum.inr (Sum.inr (Sum.inr (fun _ => none)))))), (q_2, Sum.inl (cI, 600, Sum.inl (fun _ => 0)))] H := ⟨hP, hD⟩
  have hP := hPD.1
  have hD := hPD.2
  refine lv_aload_n hx hb d_Stacked_init_23 rfl (lv_at hl 0 rfl) ?_
  refine lv_sipush (v := 600) hx hb d_Stacked_init_24 (by decide) ?_
  refine my_newi hx hb (hg _ k66) hK 0 rfl hP hD hS hA (N' := 600) (by decide) (rfl) (by omega) (by rw [hR]; exact (show 0 + d_1 + 1 + 1 + 1 ≤ 2200 by omega)) (by rw [hR]; exact (show 0 + d_1 + 600 + 600 + 600 ≤ 2200 by omega)) d_Stacked_init_27 (fun q_3 H hP hD hS => ?_)
  have hPD : my_PD (dC, dI) vwCl A [(co, Sum.inr (4, [Value.long 0, Value.long 0, Value.ref q_1, Value.ref q_2, Value.null, Value.int 0, Value.ref zi_1, Value.ref zu_1, Value.ref zw_1, Value.int 0])), (zi_1, Sum.inr (0, [Value.int 0, Value.ref zia_1])), (zia_1, Sum.inl (cI, 64, Sum.inl (fun _ => 0))), (zu_1, Sum.inr (0, [Value.int 0, Value.ref zua_1])), (zua_1, Sum.inl (cI, 64, Sum.inl (fun _ => 0))), (zw_1, Sum.inr (0, [Value.int 0, Value.ref zwa_1])), (zwa_1, Sum.inl (cI, 64, Sum.inl (fun _ => 0))), (q_1, Sum.inl (cO, 600, Sum.inr (Sum.inr (Sum.inr (Sum.inr (fun _ => none)))))), (q_2, Sum.inl (cI, 600, Sum.inl (fun _ => 0))), (q_3, Sum.inl (cI, 600, Sum.inl (fun _ => 0)))] H := ⟨hP, hD⟩
  have hP := hPD.1
  have hD := hPD.2
  refine va_putF (D := (dC, dI)) (ci := 4) (v := .ref q_3) (ty := (.array .int)) (C := "RangeCoders$Stack") (T := T_Stack) (N := 10) hx hb hg in_Stack t_Stack o_Stack n_Stack hown hK hP hD hS 0 rfl rfl 4 (by decide) (hg _ k222) (fun _ h9 => h9) rfl (by rw [hnm]; rfl) rfl (o_Stack 4 (by decide)) rfl rfl (Nat.le_of_ble_eq_true rfl) d_Stacked_init_29 (fun H locs hP hD hS => ?_)
  have hPD : my_PD (dC, dI) vwCl A [(co, Sum.inr (4, [Value.long 0, Value.long 0, Value.ref q_1, Value.ref q_2, Value.ref q_3, Value.int 0, Value.ref zi_1, Value.ref zu_1, Value.ref zw_1, Value.int 0])), (zi_1, Sum.inr (0, [Value.int 0, Value.ref zia_1])), (zia_1, Sum.inl (cI, 64, Sum.inl (fun _ => 0))), (zu_1, Sum.inr (0, [Value.int 0, Value.ref zua_1])), (zua_1, Sum.inl (cI, 64, Sum.inl (fun _ => 0))), (zw_1, Sum.inr (0, [Value.int 0, Value.ref zwa_1])), (zwa_1, Sum.inl (cI, 64, Sum.inl (fun _ => 0))), (q_1, Sum.inl (cO, 600, Sum.inr (Sum.inr (Sum.inr (Sum.inr (fun _ => none)))))), (q_2, Sum.inl (cI, 600, Sum.inl (fun _ => 0))), (q_3, Sum.inl (cI, 600, Sum.inl (fun _ => 0)))] H := ⟨hP, hD⟩
  have hP := hPD.1
  have hD := hPD.2
  exact my_vretg hx hb hr hlocks hQ hK hS (zi_1, zia_1, zu_1, zua_1, zw_1, zwa_1, q_1, q_2, q_3) (show (0 + d_1 + 1 + 1 + 1) + 0 ≤ 2200 by omega) (show (0 + d_1 + 600 + 600 + 600) + 0 ≤ 2200 by omega) (trivial) (hP.sub [0, 1, 2, 3, 4, 5, 6, 7, 8, 9] rfl) (hD.sub [0, 1, 2, 3, 4, 5, 6, 7, 8, 9] (by decide +kernel) rfl) d_Stacked_init_32
set_option maxHeartbeats 2000000 in
set_option maxRecDepth 100000 in
theorem c_Table_Stackedinit (l : Launch) (dC : Nat → ClassId) (dI : Nat → Nat → Nat) (cI cM cO : ClassId) (sz : Nat) (sl : Nat) (co : Nat) : MetVg l y_Stacked_init (Cond.code y_Stacked_init prog_11_method_1_code 1 none :: gw) ({ frames := 3, cells := 2200, slots := 2200, locals := 52 } : Room) (dC, dI) vwCl (kT cI cM cO) [Value.ref co] [(co, Sum.inr (5, [Value.long 0, Value.long 0, Value.null, Value.null, Value.null, Value.int 0, Value.null, Value.null, Value.null, Value.int 0]))] sz sl (fun (u : Nat × Nat × Nat × Nat × Nat × Nat × Nat × Nat × Nat) => True) (fun (u : Nat × Nat × Nat × Nat × Nat × Nat × Nat × Nat × Nat) => [(co, Sum.inr (5, [Value.long 0, Value.long 0, Value.ref u.2.2.2.2.2.2.1, Value.ref u.2.2.2.2.2.2.2.1, Value.ref u.2.2.2.2.2.2.2.2, Value.int 0, Value.ref u.1, Value.ref u.2.2.1, Value.ref u.2.2.2.2.1, Value.int 0])), (u.1, Sum.inr (0, [Value.int 0, Value.ref u.2.1])), (u.2.1, Sum.inl (cI, 64, Sum.inl (fun _ => 0))), (u.2.2.1, Sum.inr (0, [Value.int 0, Value.ref u.2.2.2.1])), (u.2.2.2.1, Sum.inl (cI, 64, Sum.inl (fun _ => 0))), (u.2.2.2.2.1, Sum.inr (0, [Value.int 0, Value.ref u.2.2.2.2.2.1])), (u.2.2.2.2.2.1, Sum.inl (cI, 64, Sum.inl (fun _ => 0))), (u.2.2.2.2.2.2.1, Sum.inl (cO, 600, Sum.inr (Sum.inr (Sum.inr (Sum.inr (fun _ => none)))))), (u.2.2.2.2.2.2.2.1, Sum.inl (cI, 600, Sum.inl (fun _ => 0))), (u.2.2.2.2.2.2.2.2, Sum.inl (cI, 600, Sum.inl (fun _ => 0)))]) 2200 (fun (u : Nat × Nat × Nat × Nat × Nat × Nat × Nat × Nat × Nat) => 0) := by
  refine my_ofVg (cc := prog_11_method_1_code) (n := 1) (ret := none) (by decide) rfl (Nat.le_of_ble_eq_true rfl) ?_
  intro p e s m args below meth c R Q A ls H locs hx hb hr hts hown hlocks hml hnm hR hQ hA hl hP hK hN hD hS
  have hg : ∀ w ∈ gw, w.before args s = true := fun w h => hts w (List.mem_cons_of_mem _ h)
  have hown : s.vm.findClass "RangeCoders$Stacked" = some m.cls := hown
  have hl : lv_has ls 1 [(0, Value.ref co)] := hl
  refine lv_aload_n hx hb d_Stacked_init_0 rfl (lv_at hl 0 rfl) ?_
  refine my_cvg (wr := []) (va_runIN (As := []) (rest := []) ⟨hx, hb, hml, hown, hts⟩ (c_Table_Coderinit l dC dI cI cM cO H.size (hSl H) co) ⟨va_cnB 0 hts (my_gC k49) rfl rfl rfl (hN.1 _ j208 rfl) (hg _ k3) (by decide +kernel) ⟨by rw [hR]; exact Nat.le_of_ble_eq_true rfl, by rw [hR]; exact Nat.le_of_ble_eq_true rfl⟩, rfl, hg _ k48⟩ (my_preg (As := [Value.ref co]) hK hN (hP.sub [0] rfl) (hD.sub [0] (by decide +kernel) rfl)) rfl rfl hl.1 rfl (lv_room (Nat.le_of_ble_eq_true rfl)) d_Stacked_init_1 ⟨by rw [hR]; exact (show 0 + 300 ≤ 2200 by omega), by rw [hR]; exact (show 0 + 300 ≤ 2200 by omega)⟩) hP hD hS hA [0] [] rfl rfl (by decide +kernel) (by decide +kernel) (fun u9 d_1 H locs hd_1 hw_1 hP hD hS => ?_)
  obtain ⟨zi_1, zia_1, zu_1, zua_1, zw_1, zwa_1⟩ := u9
  have hd_1 : d_1 + 0 ≤ 300 := hd_1
  have hPD : my_PD (dC, dI) vwCl A [(co, Sum.inr (5, [Value.long 0, Value.long 0, Value.null, Value.null, Value.null, Value.int 0, Value.ref zi_1, Value.ref zu_1, Value.ref zw_1, Value.int 0])), (zi_1, Sum.inr (0, [Value.int 0, Value.ref zia_1])), (zia_1, Sum.inl (cI, 64, Sum.inl (fun _ => 0))), (zu_1, Sum.inr (0, [Value.int 0, Value.ref zua_1])), (zua_1, Sum.inl (cI, 64, Sum.inl (fun _ => 0))), (zw_1, Sum.inr (0, [Value.int 0, Value.ref zwa_1])), (zwa_1, Sum.inl (cI, 64, Sum.inl (fun _ => 0)))] H := ⟨hP, hD⟩
  have hP := hPD.1
  have hD := hPD.2
  refine lv_aload_n hx hb d_Stacked_init_4 rfl (lv_at hl 0 rfl) ?_
  refine lv_sipush (v := 600) hx hb d_Stacked_init_5 (by decide) ?_
  refine my_newq hx hb hown (hg _ k209) hN.2.2 hK 2 rfl hP hD hS hA (N' := 600) (by decide) rfl (by decide) (by rw [hR]; exact (show 0 + d_1 + 1 ≤ 2200 by omega)) (by rw [hR]; exact (show 0 + d_1 + 600 ≤ 2200 by omega)) d_Stacked_init_8 (fun q_1 H hP hD hS => ?_)
  have hPD : my_PD (dC, dI) vwCl A [(co, Sum.inr (5, [Value.long 0, Value.long 0, Value.null, Value.null, Value.null, Value.int 0, Value.ref zi_1, Value.ref zu_1, Value.ref zw_1, Value.int 0])), (zi_1, Sum.inr (0, [Value.int 0, Value.ref zia_1])), (zia_1, Sum.inl (cI, 64, Sum.inl (fun _ => 0))), (zu_1, Sum.inr (0, [Value.int 0, Value.ref zua_1])), (zua_1, Sum.inl (cI, 64, Sum.inl (fun _ => 0))), (zw_1, Sum.inr (0, [Value.int 0, Value.ref zwa_1])), (zwa_1, Sum.inl (cI, 64, Sum.inl (fun _ => 0))), (q_1, Sum.inl (cO, 600, Sum.inr (Sum.inr (Sum.inr (Sum.inr (fun _ => none))))))] H := ⟨hP, hD⟩
  have hP := hPD.1
  have hD := hPD.2
  refine va_putF (D := (dC, dI)) (ci := 5) (v := .ref q_1) (ty := (.array (.object "RangeCoders$Odds"))) (C := "RangeCoders$Table") (T := T_Table) (N := 10) hx hb hg in_Table t_Table o_Table n_Table hown hK hP hD hS 0 rfl rfl 2 (by decide) (hg _ k220) (fun _ h9 => h9) rfl (by rw [hnm]; rfl) rfl (o_Table 2 (by decide)) rfl rfl (Nat.le_of_ble_eq_true rfl) d_Stacked_init_11 (fun H locs hP hD hS => ?_)
  have hPD : my_PD (dC, dI) vwCl A [(co, Sum.inr (5, [Value.long 0, Value.long 0, Value.ref q_1, Value.null, Value.null, Value.int 0, Value.ref zi_1, Value.ref zu_1, Value.ref zw_1, Value.int 0])), (zi_1, Sum.inr (0, [Value.int 0, Value.ref zia_1])), (zia_1, Sum.inl (cI, 64, Sum.inl (fun _ => 0))), (zu_1, Sum.inr (0, [Value.int 0, Value.ref zua_1])), (zua_1, Sum.inl (cI, 64, Sum.inl (fun _ => 0))), (zw_1, Sum.inr (0, [Value.int 0, Value.ref zwa_1])), (zwa_1, Sum.inl (cI, 64, Sum.inl (fun _ => 0))), (q_1, Sum.inl (cO, 600, Sum.inr (Sum.inr (Sum.inr (Sum.inr (fun _ => none))))))] H := ⟨hP, hD⟩
  have hP := hPD.1
  have hD := hPD.2
  refine lv_aload_n hx hb d_Stacked_init_14 rfl (lv_at hl 0 rfl) ?_
  refine lv_sipush (v := 600) hx hb d_Stacked_init_15 (by decide) ?_
  refine my_newi hx hb (hg _ k66) hK 0 rfl hP hD hS hA (N' := 600) (by decide) (rfl) (by omega) (by rw [hR]; exact (show 0 + d_1 + 1 + 1 ≤ 2200 by omega)) (by rw [hR]; exact (show 0 + d_1 + 600 + 600 ≤ 2200 by omega)) d_Stacked_init_18 (fun q_2 H hP hD hS => ?_)
  have hPD : my_PD (dC, dI) vwCl A [(co, Sum.inr (5, [Value.long 0, Value.long 0, Value.ref q_1, Value.null, Value.null, Value.int 0, Value.ref zi_1, Value.ref zu_1, Value.ref zw_1, Value.int 0])), (zi_1, Sum.inr (0, [Value.int 0, Value.ref zia_1])), (zia_1, Sum.inl (cI, 64, Sum.inl (fun _ => 0))), (zu_1, Sum.inr (0, [Value.int 0, Value.ref zua_1])), (zua_1, Sum.inl (cI, 64, Sum.inl (fun _ => 0))), (zw_1, Sum.inr (0, [Value.int 0, Value.ref zwa_1])), (zwa_1, Sum.inl (cI, 64, Sum.inl (fun _ => 0))), (q_1, Sum.inl (cO, 600, Sum.inr (Sum.inr (Sum.inr (Sum.inr (fun _ => none)))))), (q_2, Sum.inl (cI, 600, Sum.inl (fun _ => 0)))] H := ⟨hP, hD⟩
  have hP := hPD.1
  have hD := hPD.2
  refine va_putF (D := (dC, dI)) (ci := 5) (v := .ref q_2) (ty := (.array .int)) (C := "RangeCoders$Table") (T := T_Table) (N := 10) hx hb hg in_Table t_Table o_Table n_Table hown hK hP hD hS 0 rfl rfl 3 (by decide) (hg _ k221) (fun _ h9 => h9) rfl (by rw [hnm]; rfl) rfl (o_Table 3 (by decide)) rfl rfl (Nat.le_of_ble_eq_true rfl) d_Stacked_init_20 (fun H locs hP hD hS => ?_)
  have hPD : my_PD (dC, dI) vwCl A [(co, Sum.inr (5, [Value.long 0, Value.long 0, Value.ref q_1, Value.ref q_2, Value.null, Value.int 0, Value.ref zi_1, Value.ref zu_1, Value.ref zw_1, Value.int 0])), (zi_1, Sum.inr (0, [Value.int 0, Value.ref zia_1])), (zia_1, Sum.inl (cI, 64, Sum.inl (fun _ => 0))), (zu_1, Sum.inr (0, [Value.int 0, Value.ref zua_1])), (zua_1, Sum.inl (cI, 64, Sum.inl (fun _ => 0))), (zw_1, Sum.inr (0, [Value.int 0, Value.ref zwa_1])), (zwa_1, Sum.inl (cI, 64, Sum.inl (fun _ => 0))), (q_1, Sum.inl (cO, 600, Sum.inr (Sum.inr (Sum.inr (Sum.inr (fun _ => none)))))), (q_2, Sum.inl (cI, 600, Sum.inl (fun _ => 0)))] H := ⟨hP, hD⟩
  have hP := hPD.1
  have hD := hPD.2
  refine lv_aload_n hx hb d_Stacked_init_23 rfl (lv_at hl 0 rfl) ?_
  refine lv_sipush (v := 600) hx hb d_Stacked_init_24 (by decide) ?_
  refine my_newi hx hb (hg _ k66) hK 0 rfl hP hD hS hA (N' := 600) (by decide) (rfl) (by omega) (by rw [hR]; exact (show 0 + d_1 + 1 + 1 + 1 ≤ 2200 by omega)) (by rw [hR]; exact (show 0 + d_1 + 600 + 600 + 600 ≤ 2200 by omega)) d_Stacked_init_27 (fun q_3 H hP hD hS => ?_)
  have hPD : my_PD (dC, dI) vwCl A [(co, Sum.inr (5, [Value.long 0, Value.long 0, Value.ref q_1, Value.ref q_2, Value.null, Value.int 0, Value.ref zi_1, Value.ref zu_1, Value.ref zw_1, Value.int 0])), (zi_1, Sum.inr (0, [Value.int 0, Value.ref zia_1])), (zia_1, Sum.inl (cI, 64, Sum.inl (fun _ => 0))), (zu_1, Sum.inr (0, [Value.int 0, Value.ref zua_1])), (zua_1, Sum.inl (cI, 64, Sum.inl (fun _ => 0))), (zw_1, Sum.inr (0, [Value.int 0, Value.ref zwa_1])), (zwa_1, Sum.inl (cI, 64, Sum.inl (fun _ => 0))), (q_1, Sum.inl (cO, 600, Sum.inr (Sum.inr (Sum.inr (Sum.inr (fun _ => none)))))), (q_2, Sum.inl (cI, 600, Sum.inl (fun _ => 0))), (q_3, Sum.inl (cI, 600, Sum.inl (fun _ => 0)))] H := ⟨hP, hD⟩
  have hP := hPD.1
  have hD := hPD.2
  refine va_putF (D := (dC, dI)) (ci := 5) (v := .ref q_3) (ty := (.array .int)) (C := "RangeCoders$Table") (T := T_Table) (N := 10) hx hb hg in_Table t_Table o_Table n_Table hown hK hP hD hS 0 rfl rfl 4 (by decide) (hg _ k222) (fun _ h9 => h9) rfl (by rw [hnm]; rfl) rfl (o_Table 4 (by decide)) rfl rfl (Nat.le_of_ble_eq_true rfl) d_Stacked_init_29 (fun H locs hP hD hS => ?_)
  have hPD : my_PD (dC, dI) vwCl A [(co, Sum.inr (5, [Value.long 0, Value.long 0, Value.ref q_1, Value.ref q_2, Value.ref q_3, Value.int 0, Value.ref zi_1, Value.ref zu_1, Value.ref zw_1, Value.int 0])), (zi_1, Sum.inr (0, [Value.int 0, Value.ref zia_1])), (zia_1, Sum.inl (cI, 64, Sum.inl (fun _ => 0))), (zu_1, Sum.inr (0, [Value.int 0, Value.ref zua_1])), (zua_1, Sum.inl (cI, 64, Sum.inl (fun _ => 0))), (zw_1, Sum.inr (0, [Value.int 0, Value.ref zwa_1])), (zwa_1, Sum.inl (cI, 64, Sum.inl (fun _ => 0))), (q_1, Sum.inl (cO, 600, Sum.inr (Sum.inr (Sum.inr (Sum.inr (fun _ => none)))))), (q_2, Sum.inl (cI, 600, Sum.inl (fun _ => 0))), (q_3, Sum.inl (cI, 600, Sum.inl (fun _ => 0)))] H := ⟨hP, hD⟩
  have hP := hPD.1
  have hD := hPD.2
  exact my_vretg hx hb hr hlocks hQ hK hS (zi_1, zia_1, zu_1, zua_1, zw_1, zwa_1, q_1, q_2, q_3) (show (0 + d_1 + 1 + 1 + 1) + 0 ≤ 2200 by omega) (show (0 + d_1 + 600 + 600 + 600) + 0 ≤ 2200 by omega) (trivial) (hP.sub [0, 1, 2, 3, 4, 5, 6, 7, 8, 9] rfl) (hD.sub [0, 1, 2, 3, 4, 5, 6, 7, 8, 9] (by decide +kernel) rfl) d_Stacked_init_32
set_option maxHeartbeats 2000000 in
set_option maxRecDepth 100000 in
theorem c_Stack_Stackinit (l : Launch) (dC : Nat → ClassId) (dI : Nat → Nat → Nat) (cI cM cO : ClassId) (sz : Nat) (sl : Nat) (co : Nat) : MetVg l y_Stack_init (Cond.code y_Stack_init prog_10_method_1_code 1 none :: gw) ({ frames := 4, cells := 2200, slots := 2200, locals := 72 } : Room) (dC, dI) vwCl (kT cI cM cO) [Value.ref co] [(co, Sum.inr (4, [Value.long 0, Value.long 0, Value.null, Value.null, Value.null, Value.int 0, Value.null, Value.null, Value.null, Value.int 0]))] sz sl (fun (u : Nat × Nat × Nat × Nat × Nat × Nat × Nat × Nat × Nat) => True) (fun (u : Nat × Nat × Nat × Nat × Nat × Nat × Nat × Nat × Nat) => [(co, Sum.inr (4, [Value.long 0, Value.long 0, Value.ref u.2.2.2.2.2.2.1, Value.ref u.2.2.2.2.2.2.2.1, Value.ref u.2.2.2.2.2.2.2.2, Value.int 0, Value.ref u.1, Value.ref u.2.2.1, Value.ref u.2.2.2.2.1, Value.int 0])), (u.1, Sum.inr (0, [Value.int 0, Value.ref u.2.1])), (u.2.1, Sum.inl (cI, 64, Sum.inl (fun _ => 0))), (u.2.2.1, Sum.inr (0, [Value.int 0, Value.ref u.2.2.2.1])), (u.2.2.2.1, Sum.inl (cI, 64, Sum.inl (fun _ => 0))), (u.2.2.2.2.1, Sum.inr (0, [Value.int 0, Value.ref u.2.2.2.2.2.1])), (u.2.2.2.2.2.1, Sum.inl (cI, 64, Sum.inl (fun _ => 0))), (u.2.2.2.2.2.2.1, Sum.inl (cO, 600, Sum.inr (Sum.inr (Sum.inr (Sum.inr (fun _ => none)))))), (u.2.2.2.2.2.2.2.1, Sum.inl (cI, 600, Sum.inl (fun _ => 0))), (u.2.2.2.2.2.2.2.2, Sum.inl (cI, 600, Sum.inl (fun _ => 0)))]) 2200 (fun (u : Nat × Nat × Nat × Nat × Nat × Nat × Nat × Nat × Nat) => 0) := by
  refine my_ofVg (cc := prog_10_method_1_code) (n := 1) (ret := none) (by decide) rfl (Nat.le_of_ble_eq_true rfl) ?_
  intro p e s m args below meth c R Q A ls H locs hx hb hr hts hown hlocks hml hnm hR hQ hA hl hP hK hN hD hS
  have hg : ∀ w ∈ gw, w.before args s = true := fun w h => hts w (List.mem_cons_of_mem _ h)
  have hown : s.vm.findClass "RangeCoders$Stack" = some m.cls := hown
  have hl : lv_has ls 1 [(0, Value.ref co)] := hl
  refine lv_aload_n hx hb d_Stack_init_0 rfl (lv_at hl 0 rfl) ?_
  refine my_cvg (wr := []) (va_runIN (As := []) (rest := []) ⟨hx, hb, hml, hown, hts⟩ (c_Stack_Stackedinit l dC dI cI cM cO H.size (hSl H) co) ⟨va_cnB 0 hts (my_gC k207) rfl rfl rfl (hN.1 _ j205 rfl) (hg _ k9) (by decide +kernel) ⟨by rw [hR]; exact Nat.le_of_ble_eq_true rfl, by rw [hR]; exact Nat.le_of_ble_eq_true rfl⟩, rfl, hg _ k206⟩ (my_preg (As := [Value.ref co]) hK hN (hP.sub [0] rfl) (hD.sub [0] (by decide +kernel) rfl)) rfl rfl hl.1 rfl (lv_room (Nat.le_of_ble_eq_true rfl)) d_Stack_init_1 ⟨by rw [hR]; exact (show 0 + 2200 ≤ 2200 by omega), by rw [hR]; exact (show 0 + 2200 ≤ 2200 by omega)⟩) hP hD hS hA [0] [] rfl rfl (by decide +kernel) (by decide +kernel) (fun u9 d_1 H locs hd_1 hw_1 hP hD hS => ?_)
  obtain ⟨zi_1, zia_1, zu_1, zua_1, zw_1, zwa_1, zso_1, zsn_1, zsw_1⟩ := u9
  have hd_1 : d_1 + 0 ≤ 2200 := hd_1
  have hPD : my_PD (dC, dI) vwCl A [(co, Sum.inr (4, [Value.long 0, Value.long 0, Value.ref zso_1, Value.ref zsn_1, Value.ref zsw_1, Value.int 0, Value.ref zi_1, Value.ref zu_1, Value.ref zw_1, Value.int 0])), (zi_1, Sum.inr (0, [Value.int 0, Value.ref zia_1])), (zia_1, Sum.inl (cI, 64, Sum.inl (fun _ => 0))), (zu_1, Sum.inr (0, [Value.int 0, Value.ref zua_1])), (zua_1, Sum.inl (cI, 64, Sum.inl (fun _ => 0))), (zw_1, Sum.inr (0, [Value.int 0, Value.ref zwa_1])), (zwa_1, Sum.inl (cI, 64, Sum.inl (fun _ => 0))), (zso_1, Sum.inl (cO, 600, Sum.inr (Sum.inr (Sum.inr (Sum.inr (fun _ => none)))))), (zsn_1, Sum.inl (cI, 600, Sum.inl (fun _ => 0))), (zsw_1, Sum.inl (cI, 600, Sum.inl (fun _ => 0)))] H := ⟨hP, hD⟩
  have hP := hPD.1
  have hD := hPD.2
  exact my_vretg hx hb hr hlocks hQ hK hS (zi_1, zia_1, zu_1, zua_1, zw_1, zwa_1, zso_1, zsn_1, zsw_1) (show (0 + d_1) + 0 ≤ 2200 by omega) (show (0 + d_1) + 0 ≤ 2200 by omega) (trivial) (hP.sub [0, 1, 2, 3, 4, 5, 6, 7, 8, 9] rfl) (hD.sub [0, 1, 2, 3, 4, 5, 6, 7, 8, 9] (by decide +kernel) rfl) d_Stack_init_4
set_option maxHeartbeats 2000000 in
set_option maxRecDepth 100000 in
theorem c_Table_Tableinit (l : Launch) (dC : Nat → ClassId) (dI : Nat → Nat → Nat) (cI cM cO : ClassId) (sz : Nat) (sl : Nat) (co : Nat) : MetVg l y_Table_init (Cond.code y_Table_init prog_12_method_1_code 1 none :: gw) ({ frames := 4, cells := 2200, slots := 2200, locals := 72 } : Room) (dC, dI) vwCl (kT cI cM cO) [Value.ref co] [(co, Sum.inr (5, [Value.long 0, Value.long 0, Value.null, Value.null, Value.null, Value.int 0, Value.null, Value.null, Value.null, Value.int 0]))] sz sl (fun (u : Nat × Nat × Nat × Nat × Nat × Nat × Nat × Nat × Nat) => True) (fun (u : Nat × Nat × Nat × Nat × Nat × Nat × Nat × Nat × Nat) => [(co, Sum.inr (5, [Value.long 0, Value.long 0, Value.ref u.2.2.2.2.2.2.1, Value.ref u.2.2.2.2.2.2.2.1, Value.ref u.2.2.2.2.2.2.2.2, Value.int 0, Value.ref u.1, Value.ref u.2.2.1, Value.ref u.2.2.2.2.1, Value.int 0])), (u.1, Sum.inr (0, [Value.int 0, Value.ref u.2.1])), (u.2.1, Sum.inl (cI, 64, Sum.inl (fun _ => 0))), (u.2.2.1, Sum.inr (0, [Value.int 0, Value.ref u.2.2.2.1])), (u.2.2.2.1, Sum.inl (cI, 64, Sum.inl (fun _ => 0))), (u.2.2.2.2.1, Sum.inr (0, [Value.int 0, Value.ref u.2.2.2.2.2.1])), (u.2.2.2.2.2.1, Sum.inl (cI, 64, Sum.inl (fun _ => 0))), (u.2.2.2.2.2.2.1, Sum.inl (cO, 600, Sum.inr (Sum.inr (Sum.inr (Sum.inr (fun _ => none)))))), (u.2.2.2.2.2.2.2.1, Sum.inl (cI, 600, Sum.inl (fun _ => 0))), (u.2.2.2.2.2.2.2.2, Sum.inl (cI, 600, Sum.inl (fun _ => 0)))]) 2200 (fun (u : Nat × Nat × Nat × Nat × Nat × Nat × Nat × Nat × Nat) => 0) := by
  refine my_ofVg (cc := prog_12_method_1_code) (n := 1) (ret := none) (by decide) rfl (Nat.le_of_ble_eq_true rfl) ?_
  intro p e s m args below meth c R Q A ls H locs hx hb hr hts hown hlocks hml hnm hR hQ hA hl hP hK hN hD hS
  have hg : ∀ w ∈ gw, w.before args s = true := fun w h => hts w (List.mem_cons_of_mem _ h)
  have hown : s.vm.findClass "RangeCoders$Table" = some m.cls := hown
  have hl : lv_has ls 1 [(0, Value.ref co)] := hl
  refine lv_aload_n hx hb d_Table_init_0 rfl (lv_at hl 0 rfl) ?_
  refine my_cvg (wr := []) (va_runIN (As := []) (rest := []) ⟨hx, hb, hml, hown, hts⟩ (c_Table_Stackedinit l dC dI cI cM cO H.size (hSl H) co) ⟨va_cnB 0 hts (my_gC k207) rfl rfl rfl (hN.1 _ j246 rfl) (hg _ k9) (by decide +kernel) ⟨by rw [hR]; exact Nat.le_of_ble_eq_true rfl, by rw [hR]; exact Nat.le_of_ble_eq_true rfl⟩, rfl, hg _ k206⟩ (my_preg (As := [Value.ref co]) hK hN (hP.sub [0] rfl) (hD.sub [0] (by decide +kernel) rfl)) rfl rfl hl.1 rfl (lv_room (Nat.le_of_ble_eq_true rfl)) d_Table_init_1 ⟨by rw [hR]; exact (show 0 + 2200 ≤ 2200 by omega), by rw [hR]; exact (show 0 + 2200 ≤ 2200 by omega)⟩) hP hD hS hA [0] [] rfl rfl (by decide +kernel) (by decide +kernel) (fun u9 d_1 H locs hd_1 hw_1 hP hD hS => ?_)
  obtain ⟨zi_1, zia_1, zu_1, zua_1, zw_1, zwa_1, zso_1, zsn_1, zsw_1⟩ := u9
  have hd_1 : d_1 + 0 ≤ 2200 := hd_1
  have hPD : my_PD (dC, dI) vwCl A [(co, Sum.inr (5, [Value.long 0, Value.long 0, Value.ref zso_1, Value.ref zsn_1, Value.ref zsw_1, Value.int 0, Value.ref zi_1, Value.ref zu_1, Value.ref zw_1, Value.int 0])), (zi_1, Sum.inr (0, [Value.int 0, Value.ref zia_1])), (zia_1, Sum.inl (cI, 64, Sum.inl (fun _ => 0))), (zu_1, Sum.inr (0, [Value.int 0, Value.ref zua_1])), (zua_1, Sum.inl (cI, 64, Sum.inl (fun _ => 0))), (zw_1, Sum.inr (0, [Value.int 0, Value.ref zwa_1])), (zwa_1, Sum.inl (cI, 64, Sum.inl (fun _ => 0))), (zso_1, Sum.inl (cO, 600, Sum.inr (Sum.inr (Sum.inr (Sum.inr (fun _ => none)))))), (zsn_1, Sum.inl (cI, 600, Sum.inl (fun _ => 0))), (zsw_1, Sum.inl (cI, 600, Sum.inl (fun _ => 0)))] H := ⟨hP, hD⟩
  have hP := hPD.1
  have hD := hPD.2
  exact my_vretg hx hb hr hlocks hQ hK hS (zi_1, zia_1, zu_1, zua_1, zw_1, zwa_1, zso_1, zsn_1, zsw_1) (show (0 + d_1) + 0 ≤ 2200 by omega) (show (0 + d_1) + 0 ≤ 2200 by omega) (trivial) (hP.sub [0, 1, 2, 3, 4, 5, 6, 7, 8, 9] rfl) (hD.sub [0, 1, 2, 3, 4, 5, 6, 7, 8, 9] (by decide +kernel) rfl) d_Table_init_4
set_option maxHeartbeats 2000000 in
set_option maxRecDepth 100000 in
theorem c_RC_coderOf_Carries (l : Launch) (dC : Nat → ClassId) (dI : Nat → Nat → Nat) (cI cM cO : ClassId) (sz : Nat) (sl : Nat) (sh : Int32) : MetQg l y_RC_coderOf (Cond.code y_RC_coderOf prog_1_method_19_code 2 (some (.object "RangeCoders$Coder")) :: gw) ({ frames := 5, cells := 2300, slots := 2300, locals := 92 } : Room) (dC, dI) vwCl (kT cI cM cO) [Value.int 0, Value.int sh] [] sz sl (fun (r : Option Nat) (u : Nat × Nat × Nat × Nat × Nat × Nat × Nat) => r = some u.1) (fun (u : Nat × Nat × Nat × Nat × Nat × Nat × Nat) => [(u.1, Sum.inr (1, [Value.int (-1), Value.int 0, Value.long 0, Value.long 4294967295, Value.long 0, Value.long 0, Value.long 0, Value.ref u.2.1, Value.ref u.2.2.2.1, Value.ref u.2.2.2.2.2.1, Value.int 0])), (u.2.1, Sum.inr (0, [Value.int 0, Value.ref u.2.2.1])), (u.2.2.1, Sum.inl (cI, 64, Sum.inl (fun _ => 0))), (u.2.2.2.1, Sum.inr (0, [Value.int 0, Value.ref u.2.2.2.2.1])), (u.2.2.2.2.1, Sum.inl (cI, 64, Sum.inl (fun _ => 0))), (u.2.2.2.2.2.1, Sum.inr (0, [Value.int 0, Value.ref u.2.2.2.2.2.2])), (u.2.2.2.2.2.2, Sum.inl (cI, 64, Sum.inl (fun _ => 0)))]) 2300 (fun (u : Nat × Nat × Nat × Nat × Nat × Nat × Nat) => 0) := by
  refine my_ofQg (cc := prog_1_method_19_code) (n := 2) (ret := (some (.object "RangeCoders$Coder"))) (by decide) rfl (Nat.le_of_ble_eq_true rfl) ?_
  intro p e s m args below meth c R Q A ls H locs hx hb hr hts hown hlocks hml hnm hR hQ hA hl hP hK hN hD hS
  have hg : ∀ w ∈ gw, w.before args s = true := fun w h => hts w (List.mem_cons_of_mem _ h)
  have hown : s.vm.findClass "RangeCoders" = some m.cls := hown
  have hl : lv_has ls 2 [(0, Value.int 0), (1, Value.int sh)] := hl
  refine lv_iload_n hx hb d_RC_coderOf_0 rfl (lv_at hl 0 rfl) ?_
  refine lv_tableIn (tgt := 32) hx hb d_RC_coderOf_1 (by decide) (by decide) rfl (by decide) ?_
  refine va_new (ci := 1) (fs := [Value.int 0, Value.int 0, Value.long 0, Value.long 0, Value.long 0, Value.long 0, Value.long 0, Value.null, Value.null, Value.null, Value.int 0]) (C := "RangeCoders$Carries") (T := T_Carries) (N := 11) hx hb hg in_Carries t_Carries o_Carries hown (hg _ k39) (hg _ k40) (hg _ k5) hK hP hD hS hA rfl (fun j hj => by rcases (show j = 0 ∨ j = 1 ∨ j = 2 ∨ j = 3 ∨ j = 4 ∨ j = 5 ∨ j = 6 ∨ j = 7 ∨ j = 8 ∨ j = 9 ∨ j = 10 by omega) with rfl | rfl | rfl | rfl | rfl | rfl | rfl | rfl | rfl | rfl | rfl <;> rfl) (by rw [hR]; exact (show 0 + 1 ≤ 2300 by omega)) (by rw [hR]; exact (show 0 + 11 ≤ 2300 by omega)) d_RC_coderOf_32 (fun q_1 H hP hD hS => ?_)
  have hPD : my_PD (dC, dI) vwCl A [(q_1, Sum.inr (1, [Value.int 0, Value.int 0, Value.long 0, Value.long 0, Value.long 0, Value.long 0, Value.long 0, Value.null, Value.null, Value.null, Value.int 0]))] H := ⟨hP, hD⟩
  have hP := hPD.1
  have hD := hPD.2
  refine lv_dup hx hb d_RC_coderOf_35 rfl ?_
  refine my_cvg (wr := []) (va_runIN (As := []) (rest := [Value.ref q_1]) ⟨hx, hb, hml, hown, hts⟩ (c_Carries_Carriesinit l dC dI cI cM cO H.size (hSl H) q_1) ⟨va_cnB 0 hts (my_gC k43) rfl rfl rfl (hN.1 _ j41 rfl) (hg _ k5) (by decide +kernel) ⟨by rw [hR]; exact Nat.le_of_ble_eq_true rfl, by rw [hR]; exact Nat.le_of_ble_eq_true rfl⟩, rfl, hg _ k42⟩ (my_preg (As := [Value.ref q_1]) hK hN (hP.sub [0] rfl) (hD.sub [0] (by decide +kernel) rfl)) rfl rfl hl.1 rfl (lv_room (Nat.le_of_ble_eq_true rfl)) d_RC_coderOf_36 ⟨by rw [hR]; exact (show (0 + 1) + 300 ≤ 2300 by omega), by rw [hR]; exact (show (0 + 11) + 300 ≤ 2300 by omega)⟩) hP hD hS hA [0] [] rfl rfl (by decide +kernel) (by decide +kernel) (fun u9 d_36 H locs hd_36 hw_36 hP hD hS => ?_)
  obtain ⟨zi_36, zia_36, zu_36, zua_36, zw_36, zwa_36⟩ := u9
  have hd_36 : d_36 + 0 ≤ 300 := hd_36
  have hPD : my_PD (dC, dI) vwCl A [(q_1, Sum.inr (1, [Value.int (-1), Value.int 0, Value.long 0, Value.long 4294967295, Value.long 0, Value.long 0, Value.long 0, Value.ref zi_36, Value.ref zu_36, Value.ref zw_36, Value.int 0])), (zi_36, Sum.inr (0, [Value.int 0, Value.ref zia_36])), (zia_36, Sum.inl (cI, 64, Sum.inl (fun _ => 0))), (zu_36, Sum.inr (0, [Value.int 0, Value.ref zua_36])), (zua_36, Sum.inl (cI, 64, Sum.inl (fun _ => 0))), (zw_36, Sum.inr (0, [Value.int 0, Value.ref zwa_36])), (zwa_36, Sum.inl (cI, 64, Sum.inl (fun _ => 0)))] H := ⟨hP, hD⟩
  have hP := hPD.1
  have hD := hPD.2
  exact my_qretg (v := some q_1) hx hb hr (Or.inl ⟨_, rfl⟩) hlocks hQ hK hS (q_1, zi_36, zia_36, zu_36, zua_36, zw_36, zwa_36) (show (0 + 1 + d_36) + 0 ≤ 2300 by omega) (show (0 + 11 + d_36) + 0 ≤ 2300 by omega) (rfl) (hP.sub [0, 1, 2, 3, 4, 5, 6] rfl) (hD.sub [0, 1, 2, 3, 4, 5, 6] (by decide +kernel) rfl) d_RC_coderOf_39
set_option maxHeartbeats 2000000 in
set_option maxRecDepth 100000 in
theorem c_RC_coderOf_NoCarries (l : Launch) (dC : Nat → ClassId) (dI : Nat → Nat → Nat) (cI cM cO : ClassId) (sz : Nat) (sl : Nat) (sh : Int32) : MetQg l y_RC_coderOf (Cond.code y_RC_coderOf prog_1_method_19_code 2 (some (.object "RangeCoders$Coder")) :: gw) ({ frames := 5, cells := 2300, slots := 2300, locals := 92 } : Room) (dC, dI) vwCl (kT cI cM cO) [Value.int 1, Value.int sh] [] sz sl (fun (r : Option Nat) (u : Nat × Nat × Nat × Nat × Nat × Nat × Nat) => r = some u.1) (fun (u : Nat × Nat × Nat × Nat × Nat × Nat × Nat) => [(u.1, Sum.inr (2, [Value.long 0, Value.long 4294967295, Value.long 0, Value.long 0, Value.long 0, Value.ref u.2.1, Value.ref u.2.2.2.1, Value.ref u.2.2.2.2.2.1, Value.int 0])), (u.2.1, Sum.inr (0, [Value.int 0, Value.ref u.2.2.1])), (u.2.2.1, Sum.inl (cI, 64, Sum.inl (fun _ => 0))), (u.2.2.2.1, Sum.inr (0, [Value.int 0, Value.ref u.2.2.2.2.1])), (u.2.2.2.2.1, Sum.inl (cI, 64, Sum.inl (fun _ => 0))), (u.2.2.2.2.2.1, Sum.inr (0, [Value.int 0, Value.ref u.2.2.2.2.2.2])), (u.2.2.2.2.2.2, Sum.inl (cI, 64, Sum.inl (fun _ => 0)))]) 2300 (fun (u : Nat × Nat × Nat × Nat × Nat × Nat × Nat) => 0) := by
  refine my_ofQg (cc := prog_1_method_19_code) (n := 2) (ret := (some (.object "RangeCoders$Coder"))) (by decide) rfl (Nat.le_of_ble_eq_true rfl) ?_
  intro p e s m args below meth c R Q A ls H locs hx hb hr hts hown hlocks hml hnm hR hQ hA hl hP hK hN hD hS
  have hg : ∀ w ∈ gw, w.before args s = true := fun w h => hts w (List.mem_cons_of_mem _ h)
  have hown : s.vm.findClass "RangeCoders" = some m.cls := hown
  have hl : lv_has ls 2 [(0, Value.int 1), (1, Value.int sh)] := hl
  refine lv_iload_n hx hb d_RC_coderOf_0 rfl (lv_at hl 0 rfl) ?_
  refine lv_tableIn (tgt := 40) hx hb d_RC_coderOf_1 (by decide) (by decide) rfl (by decide) ?_
  refine va_new (ci := 2) (fs := [Value.long 0, Value.long 0, Value.long 0, Value.long 0, Value.long 0, Value.null, Value.null, Value.null, Value.int 0]) (C := "RangeCoders$NoCarries") (T := T_NoCarries) (N := 9) hx hb hg in_NoCarries t_NoCarries o_NoCarries hown (hg _ k154) (hg _ k155) (hg _ k7) hK hP hD hS hA rfl (fun j hj => by rcases (show j = 0 ∨ j = 1 ∨ j = 2 ∨ j = 3 ∨ j = 4 ∨ j = 5 ∨ j = 6 ∨ j = 7 ∨ j = 8 by omega) with rfl | rfl | rfl | rfl | rfl | rfl | rfl | rfl | rfl <;> rfl) (by rw [hR]; exact (show 0 + 1 ≤ 2300 by omega)) (by rw [hR]; exact (show 0 + 9 ≤ 2300 by omega)) d_RC_coderOf_40 (fun q_1 H hP hD hS => ?_)
  have hPD : my_PD (dC, dI) vwCl A [(q_1, Sum.inr (2, [Value.long 0, Value.long 0, Value.long 0, Value.long 0, Value.long 0, Value.null, Value.null, Value.null, Value.int 0]))] H := ⟨hP, hD⟩
  have hP := hPD.1
  have hD := hPD.2
  refine lv_dup hx hb d_RC_coderOf_43 rfl ?_
  refine my_cvg (wr := []) (va_runIN (As := []) (rest := [Value.ref q_1]) ⟨hx, hb, hml, hown, hts⟩ (c_NoCarries_NoCarriesinit l dC dI cI cM cO H.size (hSl H) q_1) ⟨va_cnB 0 hts (my_gC k158) rfl rfl rfl (hN.1 _ j156 rfl) (hg _ k7) (by decide +kernel) ⟨by rw [hR]; exact Nat.le_of_ble_eq_true rfl, by rw [hR]; exact Nat.le_of_ble_eq_true rfl⟩, rfl, hg _ k157⟩ (my_preg (As := [Value.ref q_1]) hK hN (hP.sub [0] rfl) (hD.sub [0] (by decide +kernel) rfl)) rfl rfl hl.1 rfl (lv_room (Nat.le_of_ble_eq_true rfl)) d_RC_coderOf_44 ⟨by rw [hR]; exact (show (0 + 1) + 300 ≤ 2300 by omega), by rw [hR]; exact (show (0 + 9) + 300 ≤ 2300 by omega)⟩) hP hD hS hA [0] [] rfl rfl (by decide +kernel) (by decide +kernel) (fun u9 d_44 H locs hd_44 hw_44 hP hD hS => ?_)
  obtain ⟨zi_44, zia_44, zu_44, zua_44, zw_44, zwa_44⟩ := u9
  have hd_44 : d_44 + 0 ≤ 300 := hd_44
  have hPD : my_PD (dC, dI) vwCl A [(q_1, Sum.inr (2, [Value.long 0, Value.long 4294967295, Value.long 0, Value.long 0, Value.long 0, Value.ref zi_44, Value.ref zu_44, Value.ref zw_44, Value.int 0])), (zi_44, Sum.inr (0, [Value.int 0, Value.ref zia_44])), (zia_44, Sum.inl (cI, 64, Sum.inl (fun _ => 0))), (zu_44, Sum.inr (0, [Value.int 0, Value.ref zua_44])), (zua_44, Sum.inl (cI, 64, Sum.inl (fun _ => 0))), (zw_44, Sum.inr (0, [Value.int 0, Value.ref zwa_44])), (zwa_44, Sum.inl (cI, 64, Sum.inl (fun _ => 0)))] H := ⟨hP, hD⟩
  have hP := hPD.1
  have hD := hPD.2
  exact my_qretg (v := some q_1) hx hb hr (Or.inl ⟨_, rfl⟩) hlocks hQ hK hS (q_1, zi_44, zia_44, zu_44, zua_44, zw_44, zwa_44) (show (0 + 1 + d_44) + 0 ≤ 2300 by omega) (show (0 + 9 + d_44) + 0 ≤ 2300 by omega) (rfl) (hP.sub [0, 1, 2, 3, 4, 5, 6] rfl) (hD.sub [0, 1, 2, 3, 4, 5, 6] (by decide +kernel) rfl) d_RC_coderOf_47
set_option maxHeartbeats 2000000 in
set_option maxRecDepth 100000 in
theorem c_RC_coderOf_Bits (l : Launch) (dC : Nat → ClassId) (dI : Nat → Nat → Nat) (cI cM cO : ClassId) (sz : Nat) (sl : Nat) (sh : Int32) : MetQg l y_RC_coderOf (Cond.code y_RC_coderOf prog_1_method_19_code 2 (some (.object "RangeCoders$Coder")) :: gw) ({ frames := 6, cells := 2300, slots := 2300, locals := 113 } : Room) (dC, dI) vwCl (kT cI cM cO) [Value.int 2, Value.int sh] [] sz sl (fun (r : Option Nat) (u : Nat × Nat × Nat × Nat × Nat × Nat × Nat) => r = some u.1) (fun (u : Nat × Nat × Nat × Nat × Nat × Nat × Nat) => [(u.1, Sum.inr (3, [Value.int sh, Value.long 0, Value.long 0, Value.int 0, Value.int (-1), Value.int 0, Value.long 0, Value.long 4294967295, Value.long 0, Value.long 0, Value.long 0, Value.ref u.2.1, Value.ref u.2.2.2.1, Value.ref u.2.2.2.2.2.1, Value.int 0])), (u.2.1, Sum.inr (0, [Value.int 0, Value.ref u.2.2.1])), (u.2.2.1, Sum.inl (cI, 64, Sum.inl (fun _ => 0))), (u.2.2.2.1, Sum.inr (0, [Value.int 0, Value.ref u.2.2.2.2.1])), (u.2.2.2.2.1, Sum.inl (cI, 64, Sum.inl (fun _ => 0))), (u.2.2.2.2.2.1, Sum.inr (0, [Value.int 0, Value.ref u.2.2.2.2.2.2])), (u.2.2.2.2.2.2, Sum.inl (cI, 64, Sum.inl (fun _ => 0)))]) 2300 (fun (u : Nat × Nat × Nat × Nat × Nat × Nat × Nat) => 0) := by
  refine my_ofQg (cc := prog_1_method_19_code) (n := 2) (ret := (some (.object "RangeCoders$Coder"))) (by decide) rfl (Nat.le_of_ble_eq_true rfl) ?_
  intro p e s m args below meth c R Q A ls H locs hx hb hr hts hown hlocks hml hnm hR hQ hA hl hP hK hN hD hS
  have hg : ∀ w ∈ gw, w.before args s = true := fun w h => hts w (List.mem_cons_of_mem _ h)
  have hown : s.vm.findClass "RangeCoders" = some m.cls := hown
  have hl : lv_has ls 2 [(0, Value.int 2), (1, Value.int sh)] := hl
  refine lv_iload_n hx hb d_RC_coderOf_0 rfl (lv_at hl 0 rfl) ?_
  refine lv_tableIn (tgt := 48) hx hb d_RC_coderOf_1 (by decide) (by decide) rfl (by decide) ?_
  refine va_new (ci := 3) (fs := [Value.int 0, Value.long 0, Value.long 0, Value.int 0, Value.int 0, Value.int 0, Value.long 0, Value.long 0, Value.long 0, Value.long 0, Value.long 0, Value.null, Value.null, Value.null, Value.int 0]) (C := "RangeCoders$Bits") (T := T_Bits) (N := 15) hx hb hg in_Bits t_Bits o_Bits hown (hg _ k170) (hg _ k171) (hg _ k8) hK hP hD hS hA rfl (fun j hj => by rcases (show j = 0 ∨ j = 1 ∨ j = 2 ∨ j = 3 ∨ j = 4 ∨ j = 5 ∨ j = 6 ∨ j = 7 ∨ j = 8 ∨ j = 9 ∨ j = 10 ∨ j = 11 ∨ j = 12 ∨ j = 13 ∨ j = 14 by omega) with rfl | rfl | rfl | rfl | rfl | rfl | rfl | rfl | rfl | rfl | rfl | rfl | rfl | rfl | rfl <;> rfl) (by rw [hR]; exact (show 0 + 1 ≤ 2300 by omega)) (by rw [hR]; exact (show 0 + 15 ≤ 2300 by omega)) d_RC_coderOf_48 (fun q_1 H hP hD hS => ?_)
  have hPD : my_PD (dC, dI) vwCl A [(q_1, Sum.inr (3, [Value.int 0, Value.long 0, Value.long 0, Value.int 0, Value.int 0, Value.int 0, Value.long 0, Value.long 0, Value.long 0, Value.long 0, Value.long 0, Value.null, Value.null, Value.null, Value.int 0]))] H := ⟨hP, hD⟩
  have hP := hPD.1
  have hD := hPD.2
  refine lv_dup hx hb d_RC_coderOf_51 rfl ?_
  refine lv_iload_n hx hb d_RC_coderOf_52 rfl (lv_at hl 1 rfl) ?_
  refine my_cvg (wr := []) (va_runI (As := [Value.int sh]) (rest := [Value.ref q_1]) ⟨hx, hb, hml, hown, hts⟩ (c_Bits_Bitsinit l dC dI cI cM cO H.size (hSl H) q_1 sh) (cwI 1 hts (my_gC k174) rfl rfl rfl (hg _ k8) (hg _ k172) (hg _ k173) rfl (by decide +kernel) ⟨by rw [hR]; exact Nat.le_of_ble_eq_true rfl, by rw [hR]; exact Nat.le_of_ble_eq_true rfl⟩) (my_preg (As := [Value.ref q_1, Value.int sh]) hK hN (hP.sub [0] rfl) (hD.sub [0] (by decide +kernel) rfl)) rfl rfl hl.1 rfl (lv_room (Nat.le_of_ble_eq_true rfl)) d_RC_coderOf_53 ⟨by rw [hR]; exact (show (0 + 1) + 300 ≤ 2300 by omega), by rw [hR]; exact (show (0 + 15) + 300 ≤ 2300 by omega)⟩) hP hD hS hA [0] [] rfl rfl (by decide +kernel) (by decide +kernel) (fun u9 d_53 H locs hd_53 hw_53 hP hD hS => ?_)
  obtain ⟨zi_53, zia_53, zu_53, zua_53, zw_53, zwa_53⟩ := u9
  have hd_53 : d_53 + 0 ≤ 300 := hd_53
  have hPD : my_PD (dC, dI) vwCl A [(q_1, Sum.inr (3, [Value.int sh, Value.long 0, Value.long 0, Value.int 0, Value.int (-1), Value.int 0, Value.long 0, Value.long 4294967295, Value.long 0, Value.long 0, Value.long 0, Value.ref zi_53, Value.ref zu_53, Value.ref zw_53, Value.int 0])), (zi_53, Sum.inr (0, [Value.int 0, Value.ref zia_53])), (zia_53, Sum.inl (cI, 64, Sum.inl (fun _ => 0))), (zu_53, Sum.inr (0, [Value.int 0, Value.ref zua_53])), (zua_53, Sum.inl (cI, 64, Sum.inl (fun _ => 0))), (zw_53, Sum.inr (0, [Value.int 0, Value.ref zwa_53])), (zwa_53, Sum.inl (cI, 64, Sum.inl (fun _ => 0)))] H := ⟨hP, hD⟩
  have hP := hPD.1
  have hD := hPD.2
  exact my_qretg (v := some q_1) hx hb hr (Or.inl ⟨_, rfl⟩) hlocks hQ hK hS (q_1, zi_53, zia_53, zu_53, zua_53, zw_53, zwa_53) (show (0 + 1 + d_53) + 0 ≤ 2300 by omega) (show (0 + 15 + d_53) + 0 ≤ 2300 by omega) (rfl) (hP.sub [0, 1, 2, 3, 4, 5, 6] rfl) (hD.sub [0, 1, 2, 3, 4, 5, 6] (by decide +kernel) rfl) d_RC_coderOf_56
set_option maxHeartbeats 2000000 in
set_option maxRecDepth 100000 in
theorem c_RC_coderOf_Stack (l : Launch) (dC : Nat → ClassId) (dI : Nat → Nat → Nat) (cI cM cO : ClassId) (sz : Nat) (sl : Nat) (sh : Int32) : MetQg l y_RC_coderOf (Cond.code y_RC_coderOf prog_1_method_19_code 2 (some (.object "RangeCoders$Coder")) :: gw) ({ frames := 5, cells := 2300, slots := 2300, locals := 92 } : Room) (dC, dI) vwCl (kT cI cM cO) [Value.int 3, Value.int sh] [] sz sl (fun (r : Option Nat) (u : Nat × Nat × Nat × Nat × Nat × Nat × Nat × Nat × Nat × Nat) => r = some u.1) (fun (u : Nat × Nat × Nat × Nat × Nat × Nat × Nat × Nat × Nat × Nat) => [(u.1, Sum.inr (4, [Value.long 0, Value.long 0, Value.ref u.2.2.2.2.2.2.2.1, Value.ref u.2.2.2.2.2.2.2.2.1, Value.ref u.2.2.2.2.2.2.2.2.2, Value.int 0, Value.ref u.2.1, Value.ref u.2.2.2.1, Value.ref u.2.2.2.2.2.1, Value.int 0])), (u.2.1, Sum.inr (0, [Value.int 0, Value.ref u.2.2.1])), (u.2.2.1, Sum.inl (cI, 64, Sum.inl (fun _ => 0))), (u.2.2.2.1, Sum.inr (0, [Value.int 0, Value.ref u.2.2.2.2.1])), (u.2.2.2.2.1, Sum.inl (cI, 64, Sum.inl (fun _ => 0))), (u.2.2.2.2.2.1, Sum.inr (0, [Value.int 0, Value.ref u.2.2.2.2.2.2.1])), (u.2.2.2.2.2.2.1, Sum.inl (cI, 64, Sum.inl (fun _ => 0))), (u.2.2.2.2.2.2.2.1, Sum.inl (cO, 600, Sum.inr (Sum.inr (Sum.inr (Sum.inr (fun _ => none)))))), (u.2.2.2.2.2.2.2.2.1, Sum.inl (cI, 600, Sum.inl (fun _ => 0))), (u.2.2.2.2.2.2.2.2.2, Sum.inl (cI, 600, Sum.inl (fun _ => 0)))]) 2300 (fun (u : Nat × Nat × Nat × Nat × Nat × Nat × Nat × Nat × Nat × Nat) => 0) := by
  refine my_ofQg (cc := prog_1_method_19_code) (n := 2) (ret := (some (.object "RangeCoders$Coder"))) (by decide) rfl (Nat.le_of_ble_eq_true rfl) ?_
  intro p e s m args below meth c R Q A ls H locs hx hb hr hts hown hlocks hml hnm hR hQ hA hl hP hK hN hD hS
  have hg : ∀ w ∈ gw, w.before args s = true := fun w h => hts w (List.mem_cons_of_mem _ h)
  have hown : s.vm.findClass "RangeCoders" = some m.cls := hown
  have hl : lv_has ls 2 [(0, Value.int 3), (1, Value.int sh)] := hl
  refine lv_iload_n hx hb d_RC_coderOf_0 rfl (lv_at hl 0 rfl) ?_
  refine lv_tableIn (tgt := 57) hx hb d_RC_coderOf_1 (by decide) (by decide) rfl (by decide) ?_
  refine va_new (ci := 4) (fs := [Value.long 0, Value.long 0, Value.null, Value.null, Value.null, Value.int 0, Value.null, Value.null, Value.null, Value.int 0]) (C := "RangeCoders$Stack") (T := T_Stack) (N := 10) hx hb hg in_Stack t_Stack o_Stack hown (hg _ k200) (hg _ k201) (hg _ k10) hK hP hD hS hA rfl (fun j hj => by rcases (show j = 0 ∨ j = 1 ∨ j = 2 ∨ j = 3 ∨ j = 4 ∨ j = 5 ∨ j = 6 ∨ j = 7 ∨ j = 8 ∨ j = 9 by omega) with rfl | rfl | rfl | rfl | rfl | rfl | rfl | rfl | rfl | rfl <;> rfl) (by rw [hR]; exact (show 0 + 1 ≤ 2300 by omega)) (by rw [hR]; exact (show 0 + 10 ≤ 2300 by omega)) d_RC_coderOf_57 (fun q_1 H hP hD hS => ?_)
  have hPD : my_PD (dC, dI) vwCl A [(q_1, Sum.inr (4, [Value.long 0, Value.long 0, Value.null, Value.null, Value.null, Value.int 0, Value.null, Value.null, Value.null, Value.int 0]))] H := ⟨hP, hD⟩
  have hP := hPD.1
  have hD := hPD.2
  refine lv_dup hx hb d_RC_coderOf_60 rfl ?_
  refine my_cvg (wr := []) (va_runIN (As := []) (rest := [Value.ref q_1]) ⟨hx, hb, hml, hown, hts⟩ (c_Stack_Stackinit l dC dI cI cM cO H.size (hSl H) q_1) ⟨va_cnB 0 hts (my_gC k204) rfl rfl rfl (hN.1 _ j202 rfl) (hg _ k10) (by decide +kernel) ⟨by rw [hR]; exact Nat.le_of_ble_eq_true rfl, by rw [hR]; exact Nat.le_of_ble_eq_true rfl⟩, rfl, hg _ k203⟩ (my_preg (As := [Value.ref q_1]) hK hN (hP.sub [0] rfl) (hD.sub [0] (by decide +kernel) rfl)) rfl rfl hl.1 rfl (lv_room (Nat.le_of_ble_eq_true rfl)) d_RC_coderOf_61 ⟨by rw [hR]; exact (show (0 + 1) + 2200 ≤ 2300 by omega), by rw [hR]; exact (show (0 + 10) + 2200 ≤ 2300 by omega)⟩) hP hD hS hA [0] [] rfl rfl (by decide +kernel) (by decide +kernel) (fun u9 d_61 H locs hd_61 hw_61 hP hD hS => ?_)
  obtain ⟨zi_61, zia_61, zu_61, zua_61, zw_61, zwa_61, zso_61, zsn_61, zsw_61⟩ := u9
  have hd_61 : d_61 + 0 ≤ 2200 := hd_61
  have hPD : my_PD (dC, dI) vwCl A [(q_1, Sum.inr (4, [Value.long 0, Value.long 0, Value.ref zso_61, Value.ref zsn_61, Value.ref zsw_61, Value.int 0, Value.ref zi_61, Value.ref zu_61, Value.ref zw_61, Value.int 0])), (zi_61, Sum.inr (0, [Value.int 0, Value.ref zia_61])), (zia_61, Sum.inl (cI, 64, Sum.inl (fun _ => 0))), (zu_61, Sum.inr (0, [Value.int 0, Value.ref zua_61])), (zua_61, Sum.inl (cI, 64, Sum.inl (fun _ => 0))), (zw_61, Sum.inr (0, [Value.int 0, Value.ref zwa_61])), (zwa_61, Sum.inl (cI, 64, Sum.inl (fun _ => 0))), (zso_61, Sum.inl (cO, 600, Sum.inr (Sum.inr (Sum.inr (Sum.inr (fun _ => none)))))), (zsn_61, Sum.inl (cI, 600, Sum.inl (fun _ => 0))), (zsw_61, Sum.inl (cI, 600, Sum.inl (fun _ => 0)))] H := ⟨hP, hD⟩
  have hP := hPD.1
  have hD := hPD.2
  exact my_qretg (v := some q_1) hx hb hr (Or.inl ⟨_, rfl⟩) hlocks hQ hK hS (q_1, zi_61, zia_61, zu_61, zua_61, zw_61, zwa_61, zso_61, zsn_61, zsw_61) (show (0 + 1 + d_61) + 0 ≤ 2300 by omega) (show (0 + 10 + d_61) + 0 ≤ 2300 by omega) (rfl) (hP.sub [0, 1, 2, 3, 4, 5, 6, 7, 8, 9] rfl) (hD.sub [0, 1, 2, 3, 4, 5, 6, 7, 8, 9] (by decide +kernel) rfl) d_RC_coderOf_64
set_option maxHeartbeats 2000000 in
set_option maxRecDepth 100000 in
theorem c_RC_coderOf_Table (l : Launch) (dC : Nat → ClassId) (dI : Nat → Nat → Nat) (cI cM cO : ClassId) (sz : Nat) (sl : Nat) (sh : Int32) : MetQg l y_RC_coderOf (Cond.code y_RC_coderOf prog_1_method_19_code 2 (some (.object "RangeCoders$Coder")) :: gw) ({ frames := 5, cells := 2300, slots := 2300, locals := 92 } : Room) (dC, dI) vwCl (kT cI cM cO) [Value.int 4, Value.int sh] [] sz sl (fun (r : Option Nat) (u : Nat × Nat × Nat × Nat × Nat × Nat × Nat × Nat × Nat × Nat) => r = some u.1) (fun (u : Nat × Nat × Nat × Nat × Nat × Nat × Nat × Nat × Nat × Nat) => [(u.1, Sum.inr (5, [Value.long 0, Value.long 0, Value.ref u.2.2.2.2.2.2.2.1, Value.ref u.2.2.2.2.2.2.2.2.1, Value.ref u.2.2.2.2.2.2.2.2.2, Value.int 0, Value.ref u.2.1, Value.ref u.2.2.2.1, Value.ref u.2.2.2.2.2.1, Value.int 0])), (u.2.1, Sum.inr (0, [Value.int 0, Value.ref u.2.2.1])), (u.2.2.1, Sum.inl (cI, 64, Sum.inl (fun _ => 0))), (u.2.2.2.1, Sum.inr (0, [Value.int 0, Value.ref u.2.2.2.2.1])), (u.2.2.2.2.1, Sum.inl (cI, 64, Sum.inl (fun _ => 0))), (u.2.2.2.2.2.1, Sum.inr (0, [Value.int 0, Value.ref u.2.2.2.2.2.2.1])), (u.2.2.2.2.2.2.1, Sum.inl (cI, 64, Sum.inl (fun _ => 0))), (u.2.2.2.2.2.2.2.1, Sum.inl (cO, 600, Sum.inr (Sum.inr (Sum.inr (Sum.inr (fun _ => none)))))), (u.2.2.2.2.2.2.2.2.1, Sum.inl (cI, 600, Sum.inl (fun _ => 0))), (u.2.2.2.2.2.2.2.2.2, Sum.inl (cI, 600, Sum.inl (fun _ => 0)))]) 2300 (fun (u : Nat × Nat × Nat × Nat × Nat × Nat × Nat × Nat × Nat × Nat) => 0) := by
  refine my_ofQg (cc := prog_1_method_19_code) (n := 2) (ret := (some (.object "RangeCoders$Coder"))) (by decide) rfl (Nat.le_of_ble_eq_true rfl) ?_
  intro p e s m args below meth c R Q A ls H locs hx hb hr hts hown hlocks hml hnm hR hQ hA hl hP hK hN hD hS
  have hg : ∀ w ∈ gw, w.before args s = true := fun w h => hts w (List.mem_cons_of_mem _ h)
  have hown : s.vm.findClass "RangeCoders" = some m.cls := hown
  have hl : lv_has ls 2 [(0, Value.int 4), (1, Value.int sh)] := hl
  refine lv_iload_n hx hb d_RC_coderOf_0 rfl (lv_at hl 0 rfl) ?_
  refine lv_tableOut (tgt := 65) hx hb d_RC_coderOf_1 (by decide) (by decide) ?_
  refine va_new (ci := 5) (fs := [Value.long 0, Value.long 0, Value.null, Value.null, Value.null, Value.int 0, Value.null, Value.null, Value.null, Value.int 0]) (C := "RangeCoders$Table") (T := T_Table) (N := 10) hx hb hg in_Table t_Table o_Table hown (hg _ k241) (hg _ k242) (hg _ k11) hK hP hD hS hA rfl (fun j hj => by rcases (show j = 0 ∨ j = 1 ∨ j = 2 ∨ j = 3 ∨ j = 4 ∨ j = 5 ∨ j = 6 ∨ j = 7 ∨ j = 8 ∨ j = 9 by omega) with rfl | rfl | rfl | rfl | rfl | rfl | rfl | rfl | rfl | rfl <;> rfl) (by rw [hR]; exact (show 0 + 1 ≤ 2300 by omega)) (by rw [hR]; exact (show 0 + 10 ≤ 2300 by omega)) d_RC_coderOf_65 (fun q_1 H hP hD hS => ?_)
  have hPD : my_PD (dC, dI) vwCl A [(q_1, Sum.inr (5, [Value.long 0, Value.long 0, Value.null, Value.null, Value.null, Value.int 0, Value.null, Value.null, Value.null, Value.int 0]))] H := ⟨hP, hD⟩
  have hP := hPD.1
  have hD := hPD.2
  refine lv_dup hx hb d_RC_coderOf_68 rfl ?_
  refine my_cvg (wr := []) (va_runIN (As := []) (rest := [Value.ref q_1]) ⟨hx, hb, hml, hown, hts⟩ (c_Table_Tableinit l dC dI cI cM cO H.size (hSl H) q_1) ⟨va_cnB 0 hts (my_gC k245) rfl rfl rfl (hN.1 _ j243 rfl) (hg _ k11) (by decide +kernel) ⟨by rw [hR]; exact Nat.le_of_ble_eq_true rfl, by rw [hR]; exact Nat.le_of_ble_eq_true rfl⟩, rfl, hg _ k244⟩ (my_preg (As := [Value.ref q_1]) hK hN (hP.sub [0] rfl) (hD.sub [0] (by decide +kernel) rfl)) rfl rfl hl.1 rfl (lv_room (Nat.le_of_ble_eq_true rfl)) d_RC_coderOf_69 ⟨by rw [hR]; exact (show (0 + 1) + 2200 ≤ 2300 by omega), by rw [hR]; exact (show (0 + 10) + 2200 ≤ 2300 by omega)⟩) hP hD hS hA [0] [] rfl rfl (by decide +kernel) (by decide +kernel) (fun u9 d_69 H locs hd_69 hw_69 hP hD hS => ?_)
  obtain ⟨zi_69, zia_69, zu_69, zua_69, zw_69, zwa_69, zso_69, zsn_69, zsw_69⟩ := u9
  have hd_69 : d_69 + 0 ≤ 2200 := hd_69
  have hPD : my_PD (dC, dI) vwCl A [(q_1, Sum.inr (5, [Value.long 0, Value.long 0, Value.ref zso_69, Value.ref zsn_69, Value.ref zsw_69, Value.int 0, Value.ref zi_69, Value.ref zu_69, Value.ref zw_69, Value.int 0])), (zi_69, Sum.inr (0, [Value.int 0, Value.ref zia_69])), (zia_69, Sum.inl (cI, 64, Sum.inl (fun _ => 0))), (zu_69, Sum.inr (0, [Value.int 0, Value.ref zua_69])), (zua_69, Sum.inl (cI, 64, Sum.inl (fun _ => 0))), (zw_69, Sum.inr (0, [Value.int 0, Value.ref zwa_69])), (zwa_69, Sum.inl (cI, 64, Sum.inl (fun _ => 0))), (zso_69, Sum.inl (cO, 600, Sum.inr (Sum.inr (Sum.inr (Sum.inr (fun _ => none)))))), (zsn_69, Sum.inl (cI, 600, Sum.inl (fun _ => 0))), (zsw_69, Sum.inl (cI, 600, Sum.inl (fun _ => 0)))] H := ⟨hP, hD⟩
  have hP := hPD.1
  have hD := hPD.2
  exact my_qretg (v := some q_1) hx hb hr (Or.inl ⟨_, rfl⟩) hlocks hQ hK hS (q_1, zi_69, zia_69, zu_69, zua_69, zw_69, zwa_69, zso_69, zsn_69, zsw_69) (show (0 + 1 + d_69) + 0 ≤ 2300 by omega) (show (0 + 10 + d_69) + 0 ≤ 2300 by omega) (rfl) (hP.sub [0, 1, 2, 3, 4, 5, 6, 7, 8, 9] rfl) (hD.sub [0, 1, 2, 3, 4, 5, 6, 7, 8, 9] (by decide +kernel) rfl) d_RC_coderOf_72
/-- the nearest number -/
def near (v lo hi : Int32) : Int32 := if lo < (if v < hi then v else hi) then (if v < hi then v else hi) else lo
set_option maxHeartbeats 2000000 in
set_option maxRecDepth 100000 in
theorem c_RC_nearest (l : Launch) (dC : Nat → ClassId) (dI : Nat → Nat → Nat) (cI cM cO : ClassId) (sz : Nat) (nv : Int32) (nlo : Int32) (nhi : Int32) : MetI l y_RC_nearest (Cond.code y_RC_nearest prog_1_method_18_code 3 (some .int) :: gw) ({ frames := 1, cells := 0, slots := 0, locals := 21 } : Room) (dC, dI) vwCl (kT cI cM cO) [Value.int nv, Value.int nlo, Value.int nhi] [] sz (fun (r : Int32) (u : Unit) => r = near nv nlo nhi) (fun (u : Unit) => []) 0 0 := by
  refine my_ofI (cc := prog_1_method_18_code) (n := 3) (ret := (some .int)) (by decide) rfl (Nat.le_of_ble_eq_true rfl) ?_
  intro p e s m args below meth c R Q A ls H locs hx hb hr hts hown hlocks hml hnm hR hQ hA hl hP hK hN hD hS
  have hg : ∀ w ∈ gw, w.before args s = true := fun w h => hts w (List.mem_cons_of_mem _ h)
  have hown : s.vm.findClass "RangeCoders" = some m.cls := hown
  have hl : lv_has ls 3 [(0, Value.int nv), (1, Value.int nlo), (2, Value.int nhi)] := hl
  refine lv_iload_n hx hb d_RC_nearest_0 rfl (lv_at hl 1 rfl) ?_
  refine lv_iload_n hx hb d_RC_nearest_1 rfl (lv_at hl 2 rfl) ?_
  refine lv_iload_n hx hb d_RC_nearest_2 rfl (lv_at hl 0 rfl) ?_
  refine va_mmin hx hb (by rw [hml]; exact hl.1.symm) hown (hg _ k30) (hg _ k31) (hg _ k2) (hg _ k32) (by rw [hR]; exact Nat.le_of_ble_eq_true rfl) (by rw [hR]; exact Nat.le_of_ble_eq_true rfl) (Nat.zero_le _) (Nat.zero_le _) d_RC_nearest_3 ?_
  refine lv_topi (fun v_1 ev_1 => ?_)
  refine va_mmax hx hb (by rw [hml]; exact hl.1.symm) hown (hg _ k33) (hg _ k34) (hg _ k2) (hg _ k35) (by rw [hR]; exact Nat.le_of_ble_eq_true rfl) (by rw [hR]; exact Nat.le_of_ble_eq_true rfl) (Nat.zero_le _) (Nat.zero_le _) d_RC_nearest_6 ?_
  refine lv_topi (fun v_2 ev_2 => ?_)
  exact my_iret (v := v_2) hx hb hr (rfl) hlocks hQ hK hS (Nat.le_refl _) (Nat.le_refl _) () (by subst_vars; rfl) (hP.sub [] rfl) (hD.sub [] (by decide +kernel) rfl) d_RC_nearest_9
end
section
set_option maxHeartbeats 2000000 in
set_option maxRecDepth 100000 in
theorem c_RC_init_Carries (l : Launch) (dC : Nat → ClassId) (dI : Nat → Nat → Nat) (cI cM cO : ClassId) (sz : Nat) (sl : Nat) (rc : Nat) (fm : Int32) (sh : Int32) (hfm : near fm 0 4 = 0) : MetVg l y_RC_init (Cond.code y_RC_init prog_1_method_1_code 3 none :: gw) ({ frames := 6, cells := 2400, slots := 2400, locals := 113 } : Room) (dC, dI) vwCl (kT cI cM cO) [Value.ref rc, Value.int fm, Value.int sh] [(rc, Sum.inr (6, [Value.null, Value.null, Value.int 0, Value.int 0, Value.int 0, Value.int 0, Value.int 0, Value.int 0]))] sz sl (fun (u : Nat × Nat × Nat × Nat × Nat × Nat × Nat × Nat) => True) (fun (u : Nat × Nat × Nat × Nat × Nat × Nat × Nat × Nat) => [(rc, Sum.inr (6, [Value.ref u.2.1, Value.ref u.1, Value.int 0, Value.int 0, Value.int 0, Value.int 0, Value.int 0, Value.int 0])), (u.1, Sum.inl (cM, 8, Sum.inr (Sum.inr (Sum.inr (Sum.inr (fun _ => none)))))), (u.2.1, Sum.inr (1, [Value.int (-1), Value.int 0, Value.long 0, Value.long 4294967295, Value.long 0, Value.long 0, Value.long 0, Value.ref u.2.2.1, Value.ref u.2.2.2.2.1, Value.ref u.2.2.2.2.2.2.1, Value.int 0])), (u.2.2.1, Sum.inr (0, [Value.int 0, Value.ref u.2.2.2.1])), (u.2.2.2.1, Sum.inl (cI, 64, Sum.inl (fun _ => 0))), (u.2.2.2.2.1, Sum.inr (0, [Value.int 0, Value.ref u.2.2.2.2.2.1])), (u.2.2.2.2.2.1, Sum.inl (cI, 64, Sum.inl (fun _ => 0))), (u.2.2.2.2.2.2.1, Sum.inr (0, [Value.int 0, Value.ref u.2.2.2.2.2.2.2])), (u.2.2.2.2.2.2.2, Sum.inl (cI, 64, Sum.inl (fun _ => 0)))]) 2400 (fun (u : Nat × Nat × Nat × Nat × Nat × Nat × Nat × Nat) => 0) := by
  refine my_ofVg (cc := prog_1_method_1_code) (n := 3) (ret := none) (by decide) rfl (Nat.le_of_ble_eq_true rfl) ?_
  intro p e s m args below meth c R Q A ls H locs hx hb hr hts hown hlocks hml hnm hR hQ hA hl hP hK hN hD hS
  have hg : ∀ w ∈ gw, w.before args s = true := fun w h => hts w (List.mem_cons_of_mem _ h)
  have hown : s.vm.findClass "RangeCoders" = some m.cls := hown
  have hl : lv_has ls 3 [(0, Value.ref rc), (1, Value.int fm), (2, Value.int sh)] := hl
  refine lv_aload_n hx hb d_RC_init_0 rfl (lv_at hl 0 rfl) ?_
  refine W.objInit hx hb hown (hg _ k22) (hg _ k23) (hg _ k24) rfl (by rw [hml]; exact hl.1) rfl d_RC_init_1 (by rw [hR]; exact Nat.le_of_ble_eq_true rfl) (by rw [hR]; exact Nat.le_of_ble_eq_true rfl) ?_
  refine W.eq (g2 := F0 m 4 ls []) rfl ?_
  refine lv_aload_n hx hb d_RC_init_4 rfl (lv_at hl 0 rfl) ?_
  refine lv_bipush (v := 8) hx hb d_RC_init_5 (by decide) ?_
  refine my_newq hx hb hown (hg _ k25) hN.2.1 hK 1 rfl hP hD hS hA (N' := 8) (by decide) rfl (by decide) (by rw [hR]; exact (show 0 + 1 ≤ 2400 by omega)) (by rw [hR]; exact (show 0 + 8 ≤ 2400 by omega)) d_RC_init_7 (fun q_1 H hP hD hS => ?_)
  have hPD : my_PD (dC, dI) vwCl A [(rc, Sum.inr (6, [Value.null, Value.null, Value.int 0, Value.int 0, Value.int 0, Value.int 0, Value.int 0, Value.int 0])), (q_1, Sum.inl (cM, 8, Sum.inr (Sum.inr (Sum.inr (Sum.inr (fun _ => none))))))] H := ⟨hP, hD⟩
  have hP := hPD.1
  have hD := hPD.2
  refine va_putF (D := (dC, dI)) (ci := 6) (v := .ref q_1) (ty := (.array (.object "RangeCoders$Model"))) (C := "RangeCoders") (T := T_RC) (N := 8) hx hb hg in_RC t_RC o_RC n_RC hown hK hP hD hS 0 rfl rfl 1 (by decide) (hg _ k259) (fun _ h9 => h9) rfl (by rw [hnm]; rfl) rfl (o_RC 1 (by decide)) rfl rfl (Nat.le_of_ble_eq_true rfl) d_RC_init_10 (fun H locs hP hD hS => ?_)
  have hPD : my_PD (dC, dI) vwCl A [(rc, Sum.inr (6, [Value.null, Value.ref q_1, Value.int 0, Value.int 0, Value.int 0, Value.int 0, Value.int 0, Value.int 0])), (q_1, Sum.inl (cM, 8, Sum.inr (Sum.inr (Sum.inr (Sum.inr (fun _ => none))))))] H := ⟨hP, hD⟩
  have hP := hPD.1
  have hD := hPD.2
  refine lv_aload_n hx hb d_RC_init_13 rfl (lv_at hl 0 rfl) ?_
  refine lv_iload_n hx hb d_RC_init_14 rfl (lv_at hl 1 rfl) ?_
  refine lv_iconst (v := 0) hx hb d_RC_init_15 (by decide) ?_
  refine lv_iconst (v := 4) hx hb d_RC_init_16 (by decide) ?_
  refine my_ci (wr := [(rc, Sum.inr (6, [Value.null, Value.ref q_1, Value.int 0, Value.int 0, Value.int 0, Value.int 0, Value.int 0, Value.int 0])), (q_1, Sum.inl (cM, 8, Sum.inr (Sum.inr (Sum.inr (Sum.inr (fun _ => none))))))]) (va_runS (As := [Value.int fm, Value.int 0, Value.int 4]) (rest := [Value.ref rc]) ⟨hx, hb, hml, hown, hts⟩ (c_RC_nearest l dC dI cI cM cO H.size fm 0 4) (cwS 3 hts (my_gS k27 k28 k1 k29) rfl rfl rfl (by decide +kernel) ⟨by rw [hR]; exact Nat.le_of_ble_eq_true rfl, by rw [hR]; exact Nat.le_of_ble_eq_true rfl⟩) (my_pre hK hN (hP.sub [] rfl) (hD.sub [] (by decide +kernel) rfl)) rfl rfl hl.1 rfl (lv_room (Nat.le_of_ble_eq_true rfl)) d_RC_init_17 ⟨by rw [hR]; exact (show (0 + 1) + 0 ≤ 2400 by omega), by rw [hR]; exact (show (0 + 8) + 0 ≤ 2400 by omega)⟩) hP hD hS hA [] [0, 1] rfl rfl (by decide +kernel) (by decide +kernel) (fun r_17 u9 H locs hw_17 hP hD hS => ?_)
  have hr_17 : r_17 = near fm 0 4 := hw_17
  have hPD : my_PD (dC, dI) vwCl A [(rc, Sum.inr (6, [Value.null, Value.ref q_1, Value.int 0, Value.int 0, Value.int 0, Value.int 0, Value.int 0, Value.int 0])), (q_1, Sum.inl (cM, 8, Sum.inr (Sum.inr (Sum.inr (Sum.inr (fun _ => none))))))] H := ⟨hP, hD⟩
  have hP := hPD.1
  have hD := hPD.2
  refine lv_iload_n hx hb d_RC_init_20 rfl (lv_at hl 2 rfl) ?_
  refine lv_iconst (v := 1) hx hb d_RC_init_21 (by decide) ?_
  refine lv_bipush (v := 10) hx hb d_RC_init_22 (by decide) ?_
  refine my_ci (wr := [(rc, Sum.inr (6, [Value.null, Value.ref q_1, Value.int 0, Value.int 0, Value.int 0, Value.int 0, Value.int 0, Value.int 0])), (q_1, Sum.inl (cM, 8, Sum.inr (Sum.inr (Sum.inr (Sum.inr (fun _ => none))))))]) (va_runS (As := [Value.int sh, Value.int 1, Value.int 10]) (rest := [Value.int r_17, Value.ref rc]) ⟨hx, hb, hml, hown, hts⟩ (c_RC_nearest l dC dI cI cM cO H.size sh 1 10) (cwS 3 hts (my_gS k27 k28 k1 k29) rfl rfl rfl (by decide +kernel) ⟨by rw [hR]; exact Nat.le_of_ble_eq_true rfl, by rw [hR]; exact Nat.le_of_ble_eq_true rfl⟩) (my_pre hK hN (hP.sub [] rfl) (hD.sub [] (by decide +kernel) rfl)) rfl rfl hl.1 rfl (lv_room (Nat.le_of_ble_eq_true rfl)) d_RC_init_24 ⟨by rw [hR]; exact (show (0 + 1) + 0 ≤ 2400 by omega), by rw [hR]; exact (show (0 + 8) + 0 ≤ 2400 by omega)⟩) hP hD hS hA [] [0, 1] rfl rfl (by decide +kernel) (by decide +kernel) (fun r_24 u9 H locs hw_24 hP hD hS => ?_)
  have hr_24 : r_24 = near sh 1 10 := hw_24
  have hPD : my_PD (dC, dI) vwCl A [(rc, Sum.inr (6, [Value.null, Value.ref q_1, Value.int 0, Value.int 0, Value.int 0, Value.int 0, Value.int 0, Value.int 0])), (q_1, Sum.inl (cM, 8, Sum.inr (Sum.inr (Sum.inr (Sum.inr (fun _ => none))))))] H := ⟨hP, hD⟩
  have hP := hPD.1
  have hD := hPD.2
  refine W.eq (g2 := F0 m 27 ls [Value.int (near sh 1 10), Value.int 0, Value.ref rc]) (by rw [hr_17, hr_24, hfm]) ?_
  refine my_cqg (wr := [(rc, Sum.inr (6, [Value.null, Value.ref q_1, Value.int 0, Value.int 0, Value.int 0, Value.int 0, Value.int 0, Value.int 0])), (q_1, Sum.inl (cM, 8, Sum.inr (Sum.inr (Sum.inr (Sum.inr (fun _ => none))))))]) (va_runS (As := [Value.int 0, Value.int (near sh 1 10)]) (rest := [Value.ref rc]) ⟨hx, hb, hml, hown, hts⟩ (c_RC_coderOf_Carries l dC dI cI cM cO H.size (hSl H) (near sh 1 10)) (cwS 2 hts (my_gS k36 k37 k1 k38) rfl rfl rfl (by decide +kernel) ⟨by rw [hR]; exact Nat.le_of_ble_eq_true rfl, by rw [hR]; exact Nat.le_of_ble_eq_true rfl⟩) (my_preg hK hN (hP.sub [] rfl) (hD.sub [] (by decide +kernel) rfl)) rfl rfl hl.1 rfl (lv_room (Nat.le_of_ble_eq_true rfl)) d_RC_init_27 ⟨by rw [hR]; exact (show (0 + 1) + 2300 ≤ 2400 by omega), by rw [hR]; exact (show (0 + 8) + 2300 ≤ 2400 by omega)⟩) hP hD hS hA [] [0, 1] rfl rfl (by decide +kernel) (by decide +kernel) (fun r_27 u9 d_27 H locs hd_27 hw_27 hP hD hS => ?_)
  obtain ⟨zc_27, zi_27, zia_27, zu_27, zua_27, zw_27, zwa_27⟩ := u9
  have hr_27 : r_27 = some zc_27 := hw_27
  have hd_27 : d_27 + 0 ≤ 2300 := hd_27
  have hPD : my_PD (dC, dI) vwCl A [(rc, Sum.inr (6, [Value.null, Value.ref q_1, Value.int 0, Value.int 0, Value.int 0, Value.int 0, Value.int 0, Value.int 0])), (q_1, Sum.inl (cM, 8, Sum.inr (Sum.inr (Sum.inr (Sum.inr (fun _ => none)))))), (zc_27, Sum.inr (1, [Value.int (-1), Value.int 0, Value.long 0, Value.long 4294967295, Value.long 0, Value.long 0, Value.long 0, Value.ref zi_27, Value.ref zu_27, Value.ref zw_27, Value.int 0])), (zi_27, Sum.inr (0, [Value.int 0, Value.ref zia_27])), (zia_27, Sum.inl (cI, 64, Sum.inl (fun _ => 0))), (zu_27, Sum.inr (0, [Value.int 0, Value.ref zua_27])), (zua_27, Sum.inl (cI, 64, Sum.inl (fun _ => 0))), (zw_27, Sum.inr (0, [Value.int 0, Value.ref zwa_27])), (zwa_27, Sum.inl (cI, 64, Sum.inl (fun _ => 0)))] H := ⟨hP, hD⟩
  have hP := hPD.1
  have hD := hPD.2
  subst hr_27
  refine W.eq (g2 := F0 m 30 ls [Value.ref zc_27, Value.ref rc]) rfl ?_
  refine va_putF (D := (dC, dI)) (ci := 6) (v := .ref zc_27) (ty := (.object "RangeCoders$Coder")) (C := "RangeCoders") (T := T_RC) (N := 8) hx hb hg in_RC t_RC o_RC n_RC hown hK hP hD hS 0 rfl rfl 0 (by decide) (hg _ k258) (fun _ h9 => h9) rfl (by rw [hnm]; rfl) rfl (o_RC 0 (by decide)) rfl rfl (Nat.le_of_ble_eq_true rfl) d_RC_init_30 (fun H locs hP hD hS => ?_)
  have hPD : my_PD (dC, dI) vwCl A [(rc, Sum.inr (6, [Value.ref zc_27, Value.ref q_1, Value.int 0, Value.int 0, Value.int 0, Value.int 0, Value.int 0, Value.int 0])), (q_1, Sum.inl (cM, 8, Sum.inr (Sum.inr (Sum.inr (Sum.inr (fun _ => none)))))), (zc_27, Sum.inr (1, [Value.int (-1), Value.int 0, Value.long 0, Value.long 4294967295, Value.long 0, Value.long 0, Value.long 0, Value.ref zi_27, Value.ref zu_27, Value.ref zw_27, Value.int 0])), (zi_27, Sum.inr (0, [Value.int 0, Value.ref zia_27])), (zia_27, Sum.inl (cI, 64, Sum.inl (fun _ => 0))), (zu_27, Sum.inr (0, [Value.int 0, Value.ref zua_27])), (zua_27, Sum.inl (cI, 64, Sum.inl (fun _ => 0))), (zw_27, Sum.inr (0, [Value.int 0, Value.ref zwa_27])), (zwa_27, Sum.inl (cI, 64, Sum.inl (fun _ => 0)))] H := ⟨hP, hD⟩
  have hP := hPD.1
  have hD := hPD.2
  exact my_vretg hx hb hr hlocks hQ hK hS (q_1, zc_27, zi_27, zia_27, zu_27, zua_27, zw_27, zwa_27) (show (0 + 1 + d_27) + 0 ≤ 2400 by omega) (show (0 + 8 + d_27) + 0 ≤ 2400 by omega) (trivial) (hP.sub [0, 1, 2, 3, 4, 5, 6, 7, 8] rfl) (hD.sub [0, 1, 2, 3, 4, 5, 6, 7, 8] (by decide +kernel) rfl) d_RC_init_33
set_option maxHeartbeats 2000000 in
set_option maxRecDepth 100000 in
theorem c_RC_init_NoCarries (l : Launch) (dC : Nat → ClassId) (dI : Nat → Nat → Nat) (cI cM cO : ClassId) (sz : Nat) (sl : Nat) (rc : Nat) (fm : Int32) (sh : Int32) (hfm : near fm 0 4 = 1) : MetVg l y_RC_init (Cond.code y_RC_init prog_1_method_1_code 3 none :: gw) ({ frames := 6, cells := 2400, slots := 2400, locals := 113 } : Room) (dC, dI) vwCl (kT cI cM cO) [Value.ref rc, Value.int fm, Value.int sh] [(rc, Sum.inr (6, [Value.null, Value.null, Value.int 0, Value.int 0, Value.int 0, Value.int 0, Value.int 0, Value.int 0]))] sz sl (fun (u : Nat × Nat × Nat × Nat × Nat × Nat × Nat × Nat) => True) (fun (u : Nat × Nat × Nat × Nat × Nat × Nat × Nat × Nat) => [(rc, Sum.inr (6, [Value.ref u.2.1, Value.ref u.1, Value.int 0, Value.int 0, Value.int 0, Value.int 0, Value.int 0, Value.int 0])), (u.1, Sum.inl (cM, 8, Sum.inr (Sum.inr (Sum.inr (Sum.inr (fun _ => none)))))), (u.2.1, Sum.inr (2, [Value.long 0, Value.long 4294967295, Value.long 0, Value.long 0, Value.long 0, Value.ref u.2.2.1, Value.ref u.2.2.2.2.1, Value.ref u.2.2.2.2.2.2.1, Value.int 0])), (u.2.2.1, Sum.inr (0, [Value.int 0, Value.ref u.2.2.2.1])), (u.2.2.2.1, Sum.inl (cI, 64, Sum.inl (fun _ => 0))), (u.2.2.2.2.1, Sum.inr (0, [Value.int 0, Value.ref u.2.2.2.2.2.1])), (u.2.2.2.2.2.1, Sum.inl (cI, 64, Sum.inl (fun _ => 0))), (u.2.2.2.2.2.2.1, Sum.inr (0, [Value.int 0, Value.ref u.2.2.2.2.2.2.2])), (u.2.2.2.2.2.2.2, Sum.inl (cI, 64, Sum.inl (fun _ => 0)))]) 2400 (fun (u : Nat × Nat × Nat × Nat × Nat × Nat × Nat × Nat) => 0) := by
  refine my_ofVg (cc := prog_1_method_1_code) (n := 3) (ret := none) (by decide) rfl (Nat.le_of_ble_eq_true rfl) ?_
  intro p e s m args below meth c R Q A ls H locs hx hb hr hts hown hlocks hml hnm hR hQ hA hl hP hK hN hD hS
  have hg : ∀ w ∈ gw, w.before args s = true := fun w h => hts w (List.mem_cons_of_mem _ h)
  have hown : s.vm.findClass "RangeCoders" = some m.cls := hown
  have hl : lv_has ls 3 [(0, Value.ref rc), (1, Value.int fm), (2, Value.int sh)] := hl
  refine lv_aload_n hx hb d_RC_init_0 rfl (lv_at hl 0 rfl) ?_
  refine W.objInit hx hb hown (hg _ k22) (hg _ k23) (hg _ k24) rfl (by rw [hml]; exact hl.1) rfl d_RC_init_1 (by rw [hR]; exact Nat.le_of_ble_eq_true rfl) (by rw [hR]; exact Nat.le_of_ble_eq_true rfl) ?_
  refine W.eq (g2 := F0 m 4 ls []) rfl ?_
  refine lv_aload_n hx hb d_RC_init_4 rfl (lv_at hl 0 rfl) ?_
  refine lv_bipush (v := 8) hx hb d_RC_init_5 (by decide) ?_
  refine my_newq hx hb hown (hg _ k25) hN.2.1 hK 1 rfl hP hD hS hA (N' := 8) (by decide) rfl (by decide) (by rw [hR]; exact (show 0 + 1 ≤ 2400 by omega)) (by rw [hR]; exact (show 0 + 8 ≤ 2400 by omega)) d_RC_init_7 (fun q_1 H hP hD hS => ?_)
  have hPD : my_PD (dC, dI) vwCl A [(rc, Sum.inr (6, [Value.null, Value.null, Value.int 0, Value.int 0, Value.int 0, Value.int 0, Value.int 0, Value.int 0])), (q_1, Sum.inl (cM, 8, Sum.inr (Sum.inr (Sum.inr (Sum.inr (fun _ => none))))))] H := ⟨hP, hD⟩
  have hP := hPD.1
  have hD := hPD.2
  refine va_putF (D := (dC, dI)) (ci := 6) (v := .ref q_1) (ty := (.array (.object "RangeCoders$Model"))) (C := "RangeCoders") (T := T_RC) (N := 8) hx hb hg in_RC t_RC o_RC n_RC hown hK hP hD hS 0 rfl rfl 1 (by decide) (hg _ k259) (fun _ h9 => h9) rfl (by rw [hnm]; rfl) rfl (o_RC 1 (by decide)) rfl rfl (Nat.le_of_ble_eq_true rfl) d_RC_init_10 (fun H locs hP hD hS => ?_)
  have hPD : my_PD (dC, dI) vwCl A [(rc, Sum.inr (6, [Value.null, Value.ref q_1, Value.int 0, Value.int 0, Value.int 0, Value.int 0, Value.int 0, Value.int 0])), (q_1, Sum.inl (cM, 8, Sum.inr (Sum.inr (Sum.inr (Sum.inr (fun _ => none))))))] H := ⟨hP, hD⟩
  have hP := hPD.1
  have hD := hPD.2
  refine lv_aload_n hx hb d_RC_init_13 rfl (lv_at hl 0 rfl) ?_
  refine lv_iload_n hx hb d_RC_init_14 rfl (lv_at hl 1 rfl) ?_
  refine lv_iconst (v := 0) hx hb d_RC_init_15 (by decide) ?_
  refine lv_iconst (v := 4) hx hb d_RC_init_16 (by decide) ?_
  refine my_ci (wr := [(rc, Sum.inr (6, [Value.null, Value.ref q_1, Value.int 0, Value.int 0, Value.int 0, Value.int 0, Value.int 0, Value.int 0])), (q_1, Sum.inl (cM, 8, Sum.inr (Sum.inr (Sum.inr (Sum.inr (fun _ => none))))))]) (va_runS (As := [Value.int fm, Value.int 0, Value.int 4]) (rest := [Value.ref rc]) ⟨hx, hb, hml, hown, hts⟩ (c_RC_nearest l dC dI cI cM cO H.size fm 0 4) (cwS 3 hts (my_gS k27 k28 k1 k29) rfl rfl rfl (by decide +kernel) ⟨by rw [hR]; exact Nat.le_of_ble_eq_true rfl, by rw [hR]; exact Nat.le_of_ble_eq_true rfl⟩) (my_pre hK hN (hP.sub [] rfl) (hD.sub [] (by decide +kernel) rfl)) rfl rfl hl.1 rfl (lv_room (Nat.le_of_ble_eq_true rfl)) d_RC_init_17 ⟨by rw [hR]; exact (show (0 + 1) + 0 ≤ 2400 by omega), by rw [hR]; exact (show (0 + 8) + 0 ≤ 2400 by omega)⟩) hP hD hS hA [] [0, 1] rfl rfl (by decide +kernel) (by decide +kernel) (fun r_17 u9 H locs hw_17 hP hD hS => ?_)
  have hr_17 : r_17 = near fm 0 4 := hw_17
  have hPD : my_PD (dC, dI) vwCl A [(rc, Sum.inr (6, [Value.null, Value.ref q_1, Value.int 0, Value.int 0, Value.int 0, Value.int 0, Value.int 0, Value.int 0])), (q_1, Sum.inl (cM, 8, Sum.inr (Sum.inr (Sum.inr (Sum.inr (fun _ => none))))))] H := ⟨hP, hD⟩
  have hP := hPD.1
  have hD := hPD.2
  refine lv_iload_n hx hb d_RC_init_20 rfl (lv_at hl 2 rfl) ?_
  refine lv_iconst (v := 1) hx hb d_RC_init_21 (by decide) ?_
  refine lv_bipush (v := 10) hx hb d_RC_init_22 (by decide) ?_
  refine my_ci (wr := [(rc, Sum.inr (6, [Value.null, Value.ref q_1, Value.int 0, Value.int 0, Value.int 0, Value.int 0, Value.int 0, Value.int 0])), (q_1, Sum.inl (cM, 8, Sum.inr (Sum.inr (Sum.inr (Sum.inr (fun _ => none))))))]) (va_runS (As := [Value.int sh, Value.int 1, Value.int 10]) (rest := [Value.int r_17, Value.ref rc]) ⟨hx, hb, hml, hown, hts⟩ (c_RC_nearest l dC dI cI cM cO H.size sh 1 10) (cwS 3 hts (my_gS k27 k28 k1 k29) rfl rfl rfl (by decide +kernel) ⟨by rw [hR]; exact Nat.le_of_ble_eq_true rfl, by rw [hR]; exact Nat.le_of_ble_eq_true rfl⟩) (my_pre hK hN (hP.sub [] rfl) (hD.sub [] (by decide +kernel) rfl)) rfl rfl hl.1 rfl (lv_room (Nat.le_of_ble_eq_true rfl)) d_RC_init_24 ⟨by rw [hR]; exact (show (0 + 1) + 0 ≤ 2400 by omega), by rw [hR]; exact (show (0 + 8) + 0 ≤ 2400 by omega)⟩) hP hD hS hA [] [0, 1] rfl rfl (by decide +kernel) (by decide +kernel) (fun r_24 u9 H locs hw_24 hP hD hS => ?_)
  have hr_24 : r_24 = near sh 1 10 := hw_24
  have hPD : my_PD (dC, dI) vwCl A [(rc, Sum.inr (6, [Value.null, Value.ref q_1, Value.int 0, Value.int 0, Value.int 0, Value.int 0, Value.int 0, Value.int 0])), (q_1, Sum.inl (cM, 8, Sum.inr (Sum.inr (Sum.inr (Sum.inr (fun _ => none))))))] H := ⟨hP, hD⟩
  have hP := hPD.1
  have hD := hPD.2
  refine W.eq (g2 := F0 m 27 ls [Value.int (near sh 1 10), Value.int 1, Value.ref rc]) (by rw [hr_17, hr_24, hfm]) ?_
  refine my_cqg (wr := [(rc, Sum.inr (6, [Value.null, Value.ref q_1, Value.int 0, Value.int 0, Value.int 0, Value.int 0, Value.int 0, Value.int 0])), (q_1, Sum.inl (cM, 8, Sum.inr (Sum.inr (Sum.inr (Sum.inr (fun _ => none))))))]) (va_runS (As := [Value.int 1, Value.int (near sh 1 10)]) (rest := [Value.ref rc]) ⟨hx, hb, hml, hown, hts⟩ (c_RC_coderOf_NoCarries l dC dI cI cM cO H.size (hSl H) (near sh 1 10)) (cwS 2 hts (my_gS k36 k37 k1 k38) rfl rfl rfl (by decide +kernel) ⟨by rw [hR]; exact Nat.le_of_ble_eq_true rfl, by rw [hR]; exact Nat.le_of_ble_eq_true rfl⟩) (my_preg hK hN (hP.sub [] rfl) (hD.sub [] (by decide +kernel) rfl)) rfl rfl hl.1 rfl (lv_room (Nat.le_of_ble_eq_true rfl)) d_RC_init_27 ⟨by rw [hR]; exact (show (0 + 1) + 2300 ≤ 2400 by omega), by rw [hR]; exact (show (0 + 8) + 2300 ≤ 2400 by omega)⟩) hP hD hS hA [] [0, 1] rfl rfl (by decide +kernel) (by decide +kernel) (fun r_27 u9 d_27 H locs hd_27 hw_27 hP hD hS => ?_)
  obtain ⟨zc_27, zi_27, zia_27, zu_27, zua_27, zw_27, zwa_27⟩ := u9
  have hr_27 : r_27 = some zc_27 := hw_27
  have hd_27 : d_27 + 0 ≤ 2300 := hd_27
  have hPD : my_PD (dC, dI) vwCl A [(rc, Sum.inr (6, [Value.null, Value.ref q_1, Value.int 0, Value.int 0, Value.int 0, Value.int 0, Value.int 0, Value.int 0])), (q_1, Sum.inl (cM, 8, Sum.inr (Sum.inr (Sum.inr (Sum.inr (fun _ => none)))))), (zc_27, Sum.inr (2, [Value.long 0, Value.long 4294967295, Value.long 0, Value.long 0, Value.long 0, Value.ref zi_27, Value.ref zu_27, Value.ref zw_27, Value.int 0])), (zi_27, Sum.inr (0, [Value.int 0, Value.ref zia_27])), (zia_27, Sum.inl (cI, 64, Sum.inl (fun _ => 0))), (zu_27, Sum.inr (0, [Value.int 0, Value.ref zua_27])), (zua_27, Sum.inl (cI, 64, Sum.inl (fun _ => 0))), (zw_27, Sum.inr (0, [Value.int 0, Value.ref zwa_27])), (zwa_27, Sum.inl (cI, 64, Sum.inl (fun _ => 0)))] H := ⟨hP, hD⟩
  have hP := hPD.1
  have hD := hPD.2
  subst hr_27
  refine W.eq (g2 := F0 m 30 ls [Value.ref zc_27, Value.ref rc]) rfl ?_
  refine va_putF (D := (dC, dI)) (ci := 6) (v := .ref zc_27) (ty := (.object "RangeCoders$Coder")) (C := "RangeCoders") (T := T_RC) (N := 8) hx hb hg in_RC t_RC o_RC n_RC hown hK hP hD hS 0 rfl rfl 0 (by decide) (hg _ k258) (fun _ h9 => h9) rfl (by rw [hnm]; rfl) rfl (o_RC 0 (by decide)) rfl rfl (Nat.le_of_ble_eq_true rfl) d_RC_init_30 (fun H locs hP hD hS => ?_)
  have hPD : my_PD (dC, dI) vwCl A [(rc, Sum.inr (6, [Value.ref zc_27, Value.ref q_1, Value.int 0, Value.int 0, Value.int 0, Value.int 0, Value.int 0, Value.int 0])), (q_1, Sum.inl (cM, 8, Sum.inr (Sum.inr (Sum.inr (Sum.inr (fun _ => none)))))), (zc_27, Sum.inr (2, [Value.long 0, Value.long 4294967295, Value.long 0, Value.long 0, Value.long 0, Value.ref zi_27, Value.ref zu_27, Value.ref zw_27, Value.int 0])), (zi_27, Sum.inr (0, [Value.int 0, Value.ref zia_27])), (zia_27, Sum.inl (cI, 64, Sum.inl (fun _ => 0))), (zu_27, Sum.inr (0, [Value.int 0, Value.ref zua_27])), (zua_27, Sum.inl (cI, 64, Sum.inl (fun _ => 0))), (zw_27, Sum.inr (0, [Value.int 0, Value.ref zwa_27])), (zwa_27, Sum.inl (cI, 64, Sum.inl (fun _ => 0)))] H := ⟨hP, hD⟩
  have hP := hPD.1
  have hD := hPD.2
  exact my_vretg hx hb hr hlocks hQ hK hS (q_1, zc_27, zi_27, zia_27, zu_27, zua_27, zw_27, zwa_27) (show (0 + 1 + d_27) + 0 ≤ 2400 by omega) (show (0 + 8 + d_27) + 0 ≤ 2400 by omega) (trivial) (hP.sub [0, 1, 2, 3, 4, 5, 6, 7, 8] rfl) (hD.sub [0, 1, 2, 3, 4, 5, 6, 7, 8] (by decide +kernel) rfl) d_RC_init_33
set_option maxHeartbeats 2000000 in
set_option maxRecDepth 100000 in
theorem c_RC_init_Bits (l : Launch) (dC : Nat → ClassId) (dI : Nat → Nat → Nat) (cI cM cO : ClassId) (sz : Nat) (sl : Nat) (rc : Nat) (fm : Int32) (sh : Int32) (hfm : near fm 0 4 = 2) : MetVg l y_RC_init (Cond.code y_RC_init prog_1_method_1_code 3 none :: gw) ({ frames := 7, cells := 2400, slots := 2400, locals := 134 } : Room) (dC, dI) vwCl (kT cI cM cO) [Value.ref rc, Value.int fm, Value.int sh] [(rc, Sum.inr (6, [Value.null, Value.null, Value.int 0, Value.int 0, Value.int 0, Value.int 0, Value.int 0, Value.int 0]))] sz sl (fun (u : Nat × Nat × Nat × Nat × Nat × Nat × Nat × Nat) => True) (fun (u : Nat × Nat × Nat × Nat × Nat × Nat × Nat × Nat) => [(rc, Sum.inr (6, [Value.ref u.2.1, Value.ref u.1, Value.int 0, Value.int 0, Value.int 0, Value.int 0, Value.int 0, Value.int 0])), (u.1, Sum.inl (cM, 8, Sum.inr (Sum.inr (Sum.inr (Sum.inr (fun _ => none)))))), (u.2.1, Sum.inr (3, [Value.int (near sh 1 10), Value.long 0, Value.long 0, Value.int 0, Value.int (-1), Value.int 0, Value.long 0, Value.long 4294967295, Value.long 0, Value.long 0, Value.long 0, Value.ref u.2.2.1, Value.ref u.2.2.2.2.1, Value.ref u.2.2.2.2.2.2.1, Value.int 0])), (u.2.2.1, Sum.inr (0, [Value.int 0, Value.ref u.2.2.2.1])), (u.2.2.2.1, Sum.inl (cI, 64, Sum.inl (fun _ => 0))), (u.2.2.2.2.1, Sum.inr (0, [Value.int 0, Value.ref u.2.2.2.2.2.1])), (u.2.2.2.2.2.1, Sum.inl (cI, 64, Sum.inl (fun _ => 0))), (u.2.2.2.2.2.2.1, Sum.inr (0, [Value.int 0, Value.ref u.2.2.2.2.2.2.2])), (u.2.2.2.2.2.2.2, Sum.inl (cI, 64, Sum.inl (fun _ => 0)))]) 2400 (fun (u : Nat × Nat × Nat × Nat × Nat × Nat × Nat × Nat) => 0) := by
  refine my_ofVg (cc := prog_1_method_1_code) (n := 3) (ret := none) (by decide) rfl (Nat.le_of_ble_eq_true rfl) ?_
  intro p e s m args below meth c R Q A ls H locs hx hb hr hts hown hlocks hml hnm hR hQ hA hl hP hK hN hD hS
  have hg : ∀ w ∈ gw, w.before args s = true := fun w h => hts w (List.mem_cons_of_mem _ h)
  have hown : s.vm.findClass "RangeCoders" = some m.cls := hown
  have hl : lv_has ls 3 [(0, Value.ref rc), (1, Value.int fm), (2, Value.int sh)] := hl
  refine lv_aload_n hx hb d_RC_init_0 rfl (lv_at hl 0 rfl) ?_
  refine W.objInit hx hb hown (hg _ k22) (hg _ k23) (hg _ k24) rfl (by rw [hml]; exact hl.1) rfl d_RC_init_1 (by rw [hR]; exact Nat.le_of_ble_eq_true rfl) (by rw [hR]; exact Nat.le_of_ble_eq_true rfl) ?_
  refine W.eq (g2 := F0 m 4 ls []) rfl ?_
  refine lv_aload_n hx hb d_RC_init_4 rfl (lv_at hl 0 rfl) ?_
  refine lv_bipush (v := 8) hx hb d_RC_init_5 (by decide) ?_
  refine my_newq hx hb hown (hg _ k25) hN.2.1 hK 1 rfl hP hD hS hA (N' := 8) (by decide) rfl (by decide) (by rw [hR]; exact (show 0 + 1 ≤ 2400 by omega)) (by rw [hR]; exact (show 0 + 8 ≤ 2400 by omega)) d_RC_init_7 (fun q_1 H hP hD hS => ?_)
  have hPD : my_PD (dC, dI) vwCl A [(rc, Sum.inr (6, [Value.null, Value.null, Value.int 0, Value.int 0, Value.int 0, Value.int 0, Value.int 0, Value.int 0])), (q_1, Sum.inl (cM, 8, Sum.inr (Sum.inr (Sum.inr (Sum.inr (fun _ => none))))))] H := ⟨hP, hD⟩
  have hP := hPD.1
  have hD := hPD.2
  refine va_putF (D := (dC, dI)) (ci := 6) (v := .ref q_1) (ty := (.array (.object "RangeCoders$Model"))) (C := "RangeCoders") (T := T_RC) (N := 8) hx hb hg in_RC t_RC o_RC n_RC hown hK hP hD hS 0 rfl rfl 1 (by decide) (hg _ k259) (fun _ h9 => h9) rfl (by rw [hnm]; rfl) rfl (o_RC 1 (by decide)) rfl rfl (Nat.le_of_ble_eq_true rfl) d_RC_init_10 (fun H locs hP hD hS => ?_)
  have hPD : my_PD (dC, dI) vwCl A [(rc, Sum.inr (6, [Value.null, Value.ref q_1, Value.int 0, Value.int 0, Value.int 0, Value.int 0, Value.int 0, Value.int 0])), (q_1, Sum.inl (cM, 8, Sum.inr (Sum.inr (Sum.inr (Sum.inr (fun _ => none))))))] H := ⟨hP, hD⟩
  have hP := hPD.1
  have hD := hPD.2
  refine lv_aload_n hx hb d_RC_init_13 rfl (lv_at hl 0 rfl) ?_
  refine lv_iload_n hx hb d_RC_init_14 rfl (lv_at hl 1 rfl) ?_
  refine lv_iconst (v := 0) hx hb d_RC_init_15 (by decide) ?_
  refine lv_iconst (v := 4) hx hb d_RC_init_16 (by decide) ?_
  refine my_ci (wr := [(rc, Sum.inr (6, [Value.null, Value.ref q_1, Value.int 0, Value.int 0, Value.int 0, Value.int 0, Value.int 0, Value.int 0])), (q_1, Sum.inl (cM, 8, Sum.inr (Sum.inr (Sum.inr (Sum.inr (fun _ => none))))))]) (va_runS (As := [Value.int fm, Value.int 0, Value.int 4]) (rest := [Value.ref rc]) ⟨hx, hb, hml, hown, hts⟩ (c_RC_nearest l dC dI cI cM cO H.size fm 0 4) (cwS 3 hts (my_gS k27 k28 k1 k29) rfl rfl rfl (by decide +kernel) ⟨by rw [hR]; exact Nat.le_of_ble_eq_true rfl, by rw [hR]; exact Nat.le_of_ble_eq_true rfl⟩) (my_pre hK hN (hP.sub [] rfl) (hD.sub [] (by decide +kernel) rfl)) rfl rfl hl.1 rfl (lv_room (Nat.le_of_ble_eq_true rfl)) d_RC_init_17 ⟨by rw [hR]; exact (show (0 + 1) + 0 ≤ 2400 by omega), by rw [hR]; exact (show (0 + 8) + 0 ≤ 2400 by omega)⟩) hP hD hS hA [] [0, 1] rfl rfl (by decide +kernel) (by decide +kernel) (fun r_17 u9 H locs hw_17 hP hD hS => ?_)
  have hr_17 : r_17 = near fm 0 4 := hw_17
  have hPD : my_PD (dC, dI) vwCl A [(rc, Sum.inr (6, [Value.null, Value.ref q_1, Value.int 0, Value.int 0, Value.int 0, Value.int 0, Value.int 0, Value.int 0])), (q_1, Sum.inl (cM, 8, Sum.inr (Sum.inr (Sum.inr (Sum.inr (fun _ => none))))))] H := ⟨hP, hD⟩
  have hP := hPD.1
  have hD := hPD.2
  refine lv_iload_n hx hb d_RC_init_20 rfl (lv_at hl 2 rfl) ?_
  refine lv_iconst (v := 1) hx hb d_RC_init_21 (by decide) ?_
  refine lv_bipush (v := 10) hx hb d_RC_init_22 (by decide) ?_
  refine my_ci (wr := [(rc, Sum.inr (6, [Value.null, Value.ref q_1, Value.int 0, Value.int 0, Value.int 0, Value.int 0, Value.int 0, Value.int 0])), (q_1, Sum.inl (cM, 8, Sum.inr (Sum.inr (Sum.inr (Sum.inr (fun _ => none))))))]) (va_runS (As := [Value.int sh, Value.int 1, Value.int 10]) (rest := [Value.int r_17, Value.ref rc]) ⟨hx, hb, hml, hown, hts⟩ (c_RC_nearest l dC dI cI cM cO H.size sh 1 10) (cwS 3 hts (my_gS k27 k28 k1 k29) rfl rfl rfl (by decide +kernel) ⟨by rw [hR]; exact Nat.le_of_ble_eq_true rfl, by rw [hR]; exact Nat.le_of_ble_eq_true rfl⟩) (my_pre hK hN (hP.sub [] rfl) (hD.sub [] (by decide +kernel) rfl)) rfl rfl hl.1 rfl (lv_room (Nat.le_of_ble_eq_true rfl)) d_RC_init_24 ⟨by rw [hR]; exact (show (0 + 1) + 0 ≤ 2400 by omega), by rw [hR]; exact (show (0 + 8) + 0 ≤ 2400 by omega)⟩) hP hD hS hA [] [0, 1] rfl rfl (by decide +kernel) (by decide +kernel) (fun r_24 u9 H locs hw_24 hP hD hS => ?_)
  have hr_24 : r_24 = near sh 1 10 := hw_24
  have hPD : my_PD (dC, dI) vwCl A [(rc, Sum.inr (6, [Value.null, Value.ref q_1, Value.int 0, Value.int 0, Value.int 0, Value.int 0, Value.int 0, Value.int 0])), (q_1, Sum.inl (cM, 8, Sum.inr (Sum.inr (Sum.inr (Sum.inr (fun _ => none))))))] H := ⟨hP, hD⟩
  have hP := hPD.1
  have hD := hPD.2
  refine W.eq (g2 := F0 m 27 ls [Value.int (near sh 1 10), Value.int 2, Value.ref rc]) (by rw [hr_17, hr_24, hfm]) ?_
  refine my_cqg (wr := [(rc, Sum.inr (6, [Value.null, Value.ref q_1, Value.int 0, Value.int 0, Value.int 0, Value.int 0, Value.int 0, Value.int 0])), (q_1, Sum.inl (cM, 8, Sum.inr (Sum.inr (Sum.inr (Sum.inr (fun _ => none))))))]) (va_runS (As := [Value.int 2, Value.int (near sh 1 10)]) (rest := [Value.ref rc]) ⟨hx, hb, hml, hown, hts⟩ (c_RC_coderOf_Bits l dC dI cI cM cO H.size (hSl H) (near sh 1 10)) (cwS 2 hts (my_gS k36 k37 k1 k38) rfl rfl rfl (by decide +kernel) ⟨by rw [hR]; exact Nat.le_of_ble_eq_true rfl, by rw [hR]; exact Nat.le_of_ble_eq_true rfl⟩) (my_preg hK hN (hP.sub [] rfl) (hD.sub [] (by decide +kernel) rfl)) rfl rfl hl.1 rfl (lv_room (Nat.le_of_ble_eq_true rfl)) d_RC_init_27 ⟨by rw [hR]; exact (show (0 + 1) + 2300 ≤ 2400 by omega), by rw [hR]; exact (show (0 + 8) + 2300 ≤ 2400 by omega)⟩) hP hD hS hA [] [0, 1] rfl rfl (by decide +kernel) (by decide +kernel) (fun r_27 u9 d_27 H locs hd_27 hw_27 hP hD hS => ?_)
  obtain ⟨zc_27, zi_27, zia_27, zu_27, zua_27, zw_27, zwa_27⟩ := u9
  have hr_27 : r_27 = some zc_27 := hw_27
  have hd_27 : d_27 + 0 ≤ 2300 := hd_27
  have hPD : my_PD (dC, dI) vwCl A [(rc, Sum.inr (6, [Value.null, Value.ref q_1, Value.int 0, Value.int 0, Value.int 0, Value.int 0, Value.int 0, Value.int 0])), (q_1, Sum.inl (cM, 8, Sum.inr (Sum.inr (Sum.inr (Sum.inr (fun _ => none)))))), (zc_27, Sum.inr (3, [Value.int (near sh 1 10), Value.long 0, Value.long 0, Value.int 0, Value.int (-1), Value.int 0, Value.long 0, Value.long 4294967295, Value.long 0, Value.long 0, Value.long 0, Value.ref zi_27, Value.ref zu_27, Value.ref zw_27, Value.int 0])), (zi_27, Sum.inr (0, [Value.int 0, Value.ref zia_27])), (zia_27, Sum.inl (cI, 64, Sum.inl (fun _ => 0))), (zu_27, Sum.inr (0, [Value.int 0, Value.ref zua_27])), (zua_27, Sum.inl (cI, 64, Sum.inl (fun _ => 0))), (zw_27, Sum.inr (0, [Value.int 0, Value.ref zwa_27])), (zwa_27, Sum.inl (cI, 64, Sum.inl (fun _ => 0)))] H := ⟨hP, hD⟩
  have hP := hPD.1
  have hD := hPD.2
  subst hr_27
  refine W.eq (g2 := F0 m 30 ls [Value.ref zc_27, Value.ref rc]) rfl ?_
  refine va_putF (D := (dC, dI)) (ci := 6) (v := .ref zc_27) (ty := (.object "RangeCoders$Coder")) (C := "RangeCoders") (T := T_RC) (N := 8) hx hb hg in_RC t_RC o_RC n_RC hown hK hP hD hS 0 rfl rfl 0 (by decide) (hg _ k258) (fun _ h9 => h9) rfl (by rw [hnm]; rfl) rfl (o_RC 0 (by decide)) rfl rfl (Nat.le_of_ble_eq_true rfl) d_RC_init_30 (fun H locs hP hD hS => ?_)
  have hPD : my_PD (dC, dI) vwCl A [(rc, Sum.inr (6, [Value.ref zc_27, Value.ref q_1, Value.int 0, Value.int 0, Value.int 0, Value.int 0, Value.int 0, Value.int 0])), (q_1, Sum.inl (cM, 8, Sum.inr (Sum.inr (Sum.inr (Sum.inr (fun _ => none)))))), (zc_27, Sum.inr (3, [Value.int (near sh 1 10), Value.long 0, Value.long 0, Value.int 0, Value.int (-1), Value.int 0, Value.long 0, Value.long 4294967295, Value.long 0, Value.long 0, Value.long 0, Value.ref zi_27, Value.ref zu_27, Value.ref zw_27, Value.int 0])), (zi_27, Sum.inr (0, [Value.int 0, Value.ref zia_27])), (zia_27, Sum.inl (cI, 64, Sum.inl (fun _ => 0))), (zu_27, Sum.inr (0, [Value.int 0, Value.ref zua_27])), (zua_27, Sum.inl (cI, 64, Sum.inl (fun _ => 0))), (zw_27, Sum.inr (0, [Value.int 0, Value.ref zwa_27])), (zwa_27, Sum.inl (cI, 64, Sum.inl (fun _ => 0)))] H := ⟨hP, hD⟩
  have hP := hPD.1
  have hD := hPD.2
  exact my_vretg hx hb hr hlocks hQ hK hS (q_1, zc_27, zi_27, zia_27, zu_27, zua_27, zw_27, zwa_27) (show (0 + 1 + d_27) + 0 ≤ 2400 by omega) (show (0 + 8 + d_27) + 0 ≤ 2400 by omega) (trivial) (hP.sub [0, 1, 2, 3, 4, 5, 6, 7, 8] rfl) (hD.sub [0, 1, 2, 3, 4, 5, 6, 7, 8] (by decide +kernel) rfl) d_RC_init_33
set_option maxHeartbeats 2000000 in
set_option maxRecDepth 100000 in
theorem c_RC_init_Stack (l : Launch) (dC : Nat → ClassId) (dI : Nat → Nat → Nat) (cI cM cO : ClassId) (sz : Nat) (sl : Nat) (rc : Nat) (fm : Int32) (sh : Int32) (hfm : near fm 0 4 = 3) : MetVg l y_RC_init (Cond.code y_RC_init prog_1_method_1_code 3 none :: gw) ({ frames := 6, cells := 2400, slots := 2400, locals := 113 } : Room) (dC, dI) vwCl (kT cI cM cO) [Value.ref rc, Value.int fm, Value.int sh] [(rc, Sum.inr (6, [Value.null, Value.null, Value.int 0, Value.int 0, Value.int 0, Value.int 0, Value.int 0, Value.int 0]))] sz sl (fun (u : Nat × Nat × Nat × Nat × Nat × Nat × Nat × Nat × Nat × Nat × Nat) => True) (fun (u : Nat × Nat × Nat × Nat × Nat × Nat × Nat × Nat × Nat × Nat × Nat) => [(rc, Sum.inr (6, [Value.ref u.2.1, Value.ref u.1, Value.int 0, Value.int 0, Value.int 0, Value.int 0, Value.int 0, Value.int 0])), (u.1, Sum.inl (cM, 8, Sum.inr (Sum.inr (Sum.inr (Sum.inr (fun _ => none)))))), (u.2.1, Sum.inr (4, [Value.long 0, Value.long 0, Value.ref u.2.2.2.2.2.2.2.2.1, Value.ref u.2.2.2.2.2.2.2.2.2.1, Value.ref u.2.2.2.2.2.2.2.2.2.2, Value.int 0, Value.ref u.2.2.1, Value.ref u.2.2.2.2.1, Value.ref u.2.2.2.2.2.2.1, Value.int 0])), (u.2.2.1, Sum.inr (0, [Value.int 0, Value.ref u.2.2.2.1])), (u.2.2.2.1, Sum.inl (cI, 64, Sum.inl (fun _ => 0))), (u.2.2.2.2.1, Sum.inr (0, [Value.int 0, Value.ref u.2.2.2.2.2.1])), (u.2.2.2.2.2.1, Sum.inl (cI, 64, Sum.inl (fun _ => 0))), (u.2.2.2.2.2.2.1, Sum.inr (0, [Value.int 0, Value.ref u.2.2.2.2.2.2.2.1])), (u.2.2.2.2.2.2.2.1, Sum.inl (cI, 64, Sum.inl (fun _ => 0))), (u.2.2.2.2.2.2.2.2.1, Sum.inl (cO, 600, Sum.inr (Sum.inr (Sum.inr (Sum.inr (fun _ => none)))))), (u.2.2.2.2.2.2.2.2.2.1, Sum.inl (cI, 600, Sum.inl (fun _ => 0))), (u.2.2.2.2.2.2.2.2.2.2, Sum.inl (cI, 600, Sum.inl (fun _ => 0)))]) 2400 (fun (u : Nat × Nat × Nat × Nat × Nat × Nat × Nat × Nat × Nat × Nat × Nat) => 0) := by
  refine my_ofVg (cc := prog_1_method_1_code) (n := 3) (ret := none) (by decide) rfl (Nat.le_of_ble_eq_true rfl) ?_
  intro p e s m args below meth c R Q A ls H locs hx hb hr hts hown hlocks hml hnm hR hQ hA hl hP hK hN hD hS
  have hg : ∀ w ∈ gw, w.before args s = true := fun w h => hts w (List.mem_cons_of_mem _ h)
  have hown : s.vm.findClass "RangeCoders" = some m.cls := hown
  have hl : lv_has ls 3 [(0, Value.ref rc), (1, Value.int fm), (2, Value.int sh)] := hl
  refine lv_aload_n hx hb d_RC_init_0 rfl (lv_at hl 0 rfl) ?_
  refine W.objInit hx hb hown (hg _ k22) (hg _ k23) (hg _ k24) rfl (by rw [hml]; exact hl.1) rfl d_RC_init_1 (by rw [hR]; exact Nat.le_of_ble_eq_true rfl) (by rw [hR]; exact Nat.le_of_ble_eq_true rfl) ?_
  refine W.eq (g2 := F0 m 4 ls []) rfl ?_
  refine lv_aload_n hx hb d_RC_init_4 rfl (lv_at hl 0 rfl) ?_
  refine lv_bipush (v := 8) hx hb d_RC_init_5 (by decide) ?_
  refine my_newq hx hb hown (hg _ k25) hN.2.1 hK 1 rfl hP hD hS hA (N' := 8) (by decide) rfl (by decide) (by rw [hR]; exact (show 0 + 1 ≤ 2400 by omega)) (by rw [hR]; exact (show 0 + 8 ≤ 2400 by omega)) d_RC_init_7 (fun q_1 H hP hD hS => ?_)
  have hPD : my_PD (dC, dI) vwCl A [(rc, Sum.inr (6, [Value.null, Value.null, Value.int 0, Value.int 0, Value.int 0, Value.int 0, Value.int 0, Value.int 0])), (q_1, Sum.inl (cM, 8, Sum.inr (Sum.inr (Sum.inr (Sum.inr (fun _ => none))))))] H := ⟨hP, hD⟩
  have hP := hPD.1
  have hD := hPD.2
  refine va_putF (D := (dC, dI)) (ci := 6) (v := .ref q_1) (ty := (.array (.object "RangeCoders$Model"))) (C := "RangeCoders") (T := T_RC) (N := 8) hx hb hg in_RC t_RC o_RC n_RC hown hK hP hD hS 0 rfl rfl 1 (by decide) (hg _ k259) (fun _ h9 => h9) rfl (by rw [hnm]; rfl) rfl (o_RC 1 (by decide)) rfl rfl (Nat.le_of_ble_eq_true rfl) d_RC_init_10 (fun H locs hP hD hS => ?_)
  have hPD : my_PD (dC, dI) vwCl A [(rc, Sum.inr (6, [Value.null, Value.ref q_1, Value.int 0, Value.int 0, Value.int 0, Value.int 0, Value.int 0, Value.int 0])), (q_1, Sum.inl (cM, 8, Sum.inr (Sum.inr (Sum.inr (Sum.inr (fun _ => none))))))] H := ⟨hP, hD⟩
  have hP := hPD.1
  have hD := hPD.2
  refine lv_aload_n hx hb d_RC_init_13 rfl (lv_at hl 0 rfl) ?_
  refine lv_iload_n hx hb d_RC_init_14 rfl (lv_at hl 1 rfl) ?_
  refine lv_iconst (v := 0) hx hb d_RC_init_15 (by decide) ?_
  refine lv_iconst (v := 4) hx hb d_RC_init_16 (by decide) ?_
  refine my_ci (wr := [(rc, Sum.inr (6, [Value.null, Value.ref q_1, Value.int 0, Value.int 0, Value.int 0, Value.int 0, Value.int 0, Value.int 0])), (q_1, Sum.inl (cM, 8, Sum.inr (Sum.inr (Sum.inr (Sum.inr (fun _ => none))))))]) (va_runS (As := [Value.int fm, Value.int 0, Value.int 4]) (rest := [Value.ref rc]) ⟨hx, hb, hml, hown, hts⟩ (c_RC_nearest l dC dI cI cM cO H.size fm 0 4) (cwS 3 hts (my_gS k27 k28 k1 k29) rfl rfl rfl (by decide +kernel) ⟨by rw [hR]; exact Nat.le_of_ble_eq_true rfl, by rw [hR]; exact Nat.le_of_ble_eq_true rfl⟩) (my_pre hK hN (hP.sub [] rfl) (hD.sub [] (by decide +kernel) rfl)) rfl rfl hl.1 rfl (lv_room (Nat.le_of_ble_eq_true rfl)) d_RC_init_17 ⟨by rw [hR]; exact (show (0 + 1) + 0 ≤ 2400 by omega), by rw [hR]; exact (show (0 + 8) + 0 ≤ 2400 by omega)⟩) hP hD hS hA [] [0, 1] rfl rfl (by decide +kernel) (by decide +kernel) (fun r_17 u9 H locs hw_17 hP hD hS => ?_)
  have hr_17 : r_17 = near fm 0 4 := hw_17
  have hPD : my_PD (dC, dI) vwCl A [(rc, Sum.inr (6, [Value.null, Value.ref q_1, Value.int 0, Value.int 0, Value.int 0, Value.int 0, Value.int 0, Value.int 0])), (q_1, Sum.inl (cM, 8, Sum.inr (Sum.inr (Sum.inr (Sum.inr (fun _ => none))))))] H := ⟨hP, hD⟩
  have hP := hPD.1
  have hD := hPD.2
  refine lv_iload_n hx hb d_RC_init_20 rfl (lv_at hl 2 rfl) ?_
  refine lv_iconst (v := 1) hx hb d_RC_init_21 (by decide) ?_
  refine lv_bipush (v := 10) hx hb d_RC_init_22 (by decide) ?_
  refine my_ci (wr := [(rc, Sum.inr (6, [Value.null, Value.ref q_1, Value.int 0, Value.int 0, Value.int 0, Value.int 0, Value.int 0, Value.int 0])), (q_1, Sum.inl (cM, 8, Sum.inr (Sum.inr (Sum.inr (Sum.inr (fun _ => none))))))]) (va_runS (As := [Value.int sh, Value.int 1, Value.int 10]) (rest := [Value.int r_17, Value.ref rc]) ⟨hx, hb, hml, hown, hts⟩ (c_RC_nearest l dC dI cI cM cO H.size sh 1 10) (cwS 3 hts (my_gS k27 k28 k1 k29) rfl rfl rfl (by decide +kernel) ⟨by rw [hR]; exact Nat.le_of_ble_eq_true rfl, by rw [hR]; exact Nat.le_of_ble_eq_true rfl⟩) (my_pre hK hN (hP.sub [] rfl) (hD.sub [] (by decide +kernel) rfl)) rfl rfl hl.1 rfl (lv_room (Nat.le_of_ble_eq_true rfl)) d_RC_init_24 ⟨by rw [hR]; exact (show (0 + 1) + 0 ≤ 2400 by omega), by rw [hR]; exact (show (0 + 8) + 0 ≤ 2400 by omega)⟩) hP hD hS hA [] [0, 1] rfl rfl (by decide +kernel) (by decide +kernel) (fun r_24 u9 H locs hw_24 hP hD hS => ?_)
  have hr_24 : r_24 = near sh 1 10 := hw_24
  have hPD : my_PD (dC, dI) vwCl A [(rc, Sum.inr (6, [Value.null, Value.ref q_1, Value.int 0, Value.int 0, Value.int 0, Value.int 0, Value.int 0, Value.int 0])), (q_1, Sum.inl (cM, 8, Sum.inr (Sum.inr (Sum.inr (Sum.inr (fun _ => none))))))] H := ⟨hP, hD⟩
  have hP := hPD.1
  have hD := hPD.2
  refine W.eq (g2 := F0 m 27 ls [Value.int (near sh 1 10), Value.int 3, Value.ref rc]) (by rw [hr_17, hr_24, hfm]) ?_
  refine my_cqg (wr := [(rc, Sum.inr (6, [Value.null, Value.ref q_1, Value.int 0, Value.int 0, Value.int 0, Value.int 0, Value.int 0, Value.int 0])), (q_1, Sum.inl (cM, 8, Sum.inr (Sum.inr (Sum.inr (Sum.inr (fun _ => none))))))]) (va_runS (As := [Value.int 3, Value.int (near sh 1 10)]) (rest := [Value.ref rc]) ⟨hx, hb, hml, hown, hts⟩ (c_RC_coderOf_Stack l dC dI cI cM cO H.size (hSl H) (near sh 1 10)) (cwS 2 hts (my_gS k36 k37 k1 k38) rfl rfl rfl (by decide +kernel) ⟨by rw [hR]; exact Nat.le_of_ble_eq_true rfl, by rw [hR]; exact Nat.le_of_ble_eq_true rfl⟩) (my_preg hK hN (hP.sub [] rfl) (hD.sub [] (by decide +kernel) rfl)) rfl rfl hl.1 rfl (lv_room (Nat.le_of_ble_eq_true rfl)) d_RC_init_27 ⟨by rw [hR]; exact (show (0 + 1) + 2300 ≤ 2400 by omega), by rw [hR]; exact (show (0 + 8) + 2300 ≤ 2400 by omega)⟩) hP hD hS hA [] [0, 1] rfl rfl (by decide +kernel) (by decide +kernel) (fun r_27 u9 d_27 H locs hd_27 hw_27 hP hD hS => ?_)
  obtain ⟨zc_27, zi_27, zia_27, zu_27, zua_27, zw_27, zwa_27, zso_27, zsn_27, zsw_27⟩ := u9
  have hr_27 : r_27 = some zc_27 := hw_27
  have hd_27 : d_27 + 0 ≤ 2300 := hd_27
  have hPD : my_PD (dC, dI) vwCl A [(rc, Sum.inr (6, [Value.null, Value.ref q_1, Value.int 0, Value.int 0, Value.int 0, Value.int 0, Value.int 0, Value.int 0])), (q_1, Sum.inl (cM, 8, Sum.inr (Sum.inr (Sum.inr (Sum.inr (fun _ => none)))))), (zc_27, Sum.inr (4, [Value.long 0, Value.long 0, Value.ref zso_27, Value.ref zsn_27, Value.ref zsw_27, Value.int 0, Value.ref zi_27, Value.ref zu_27, Value.ref zw_27, Value.int 0])), (zi_27, Sum.inr (0, [Value.int 0, Value.ref zia_27])), (zia_27, Sum.inl (cI, 64, Sum.inl (fun _ => 0))), (zu_27, Sum.inr (0, [Value.int 0, Value.ref zua_27])), (zua_27, Sum.inl (cI, 64, Sum.inl (fun _ => 0))), (zw_27, Sum.inr (0, [Value.int 0, Value.ref zwa_27])), (zwa_27, Sum.inl (cI, 64, Sum.inl (fun _ => 0))), (zso_27, Sum.inl (cO, 600, Sum.inr (Sum.inr (Sum.inr (Sum.inr (fun _ => none)))))), (zsn_27, Sum.inl (cI, 600, Sum.inl (fun _ => 0))), (zsw_27, Sum.inl (cI, 600, Sum.inl (fun _ => 0)))] H := ⟨hP, hD⟩
  have hP := hPD.1
  have hD := hPD.2
  subst hr_27
  refine W.eq (g2 := F0 m 30 ls [Value.ref zc_27, Value.ref rc]) rfl ?_
  refine va_putF (D := (dC, dI)) (ci := 6) (v := .ref zc_27) (ty := (.object "RangeCoders$Coder")) (C := "RangeCoders") (T := T_RC) (N := 8) hx hb hg in_RC t_RC o_RC n_RC hown hK hP hD hS 0 rfl rfl 0 (by decide) (hg _ k258) (fun _ h9 => h9) rfl (by rw [hnm]; rfl) rfl (o_RC 0 (by decide)) rfl rfl (Nat.le_of_ble_eq_true rfl) d_RC_init_30 (fun H locs hP hD hS => ?_)
  have hPD : my_PD (dC, dI) vwCl A [(rc, Sum.inr (6, [Value.ref zc_27, Value.ref q_1, Value.int 0, Value.int 0, Value.int 0, Value.int 0, Value.int 0, Value.int 0])), (q_1, Sum.inl (cM, 8, Sum.inr (Sum.inr (Sum.inr (Sum.inr (fun _ => none)))))), (zc_27, Sum.inr (4, [Value.long 0, Value.long 0, Value.ref zso_27, Value.ref zsn_27, Value.ref zsw_27, Value.int 0, Value.ref zi_27, Value.ref zu_27, Value.ref zw_27, Value.int 0])), (zi_27, Sum.inr (0, [Value.int 0, Value.ref zia_27])), (zia_27, Sum.inl (cI, 64, Sum.inl (fun _ => 0))), (zu_27, Sum.inr (0, [Value.int 0, Value.ref zua_27])), (zua_27, Sum.inl (cI, 64, Sum.inl (fun _ => 0))), (zw_27, Sum.inr (0, [Value.int 0, Value.ref zwa_27])), (zwa_27, Sum.inl (cI, 64, Sum.inl (fun _ => 0))), (zso_27, Sum.inl (cO, 600, Sum.inr (Sum.inr (Sum.inr (Sum.inr (fun _ => none)))))), (zsn_27, Sum.inl (cI, 600, Sum.inl (fun _ => 0))), (zsw_27, Sum.inl (cI, 600, Sum.inl (fun _ => 0)))] H := ⟨hP, hD⟩
  have hP := hPD.1
  have hD := hPD.2
  exact my_vretg hx hb hr hlocks hQ hK hS (q_1, zc_27, zi_27, zia_27, zu_27, zua_27, zw_27, zwa_27, zso_27, zsn_27, zsw_27) (show (0 + 1 + d_27) + 0 ≤ 2400 by omega) (show (0 + 8 + d_27) + 0 ≤ 2400 by omega) (trivial) (hP.sub [0, 1, 2, 3, 4, 5, 6, 7, 8, 9, 10, 11] rfl) (hD.sub [0, 1, 2, 3, 4, 5, 6, 7, 8, 9, 10, 11] (by decide +kernel) rfl) d_RC_init_33
set_option maxHeartbeats 2000000 in
set_option maxRecDepth 100000 in
theorem c_RC_init_Table (l : Launch) (dC : Nat → ClassId) (dI : Nat → Nat → Nat) (cI cM cO : ClassId) (sz : Nat) (sl : Nat) (rc : Nat) (fm : Int32) (sh : Int32) (hfm : near fm 0 4 = 4) : MetVg l y_RC_init (Cond.code y_RC_init prog_1_method_1_code 3 none :: gw) ({ frames := 6, cells := 2400, slots := 2400, locals := 113 } : Room) (dC, dI) vwCl (kT cI cM cO) [Value.ref rc, Value.int fm, Value.int sh] [(rc, Sum.inr (6, [Value.null, Value.null, Value.int 0, Value.int 0, Value.int 0, Value.int 0, Value.int 0, Value.int 0]))] sz sl (fun (u : Nat × Nat × Nat × Nat × Nat × Nat × Nat × Nat × Nat × Nat × Nat) => True) (fun (u : Nat × Nat × Nat × Nat × Nat × Nat × Nat × Nat × Nat × Nat × Nat) => [(rc, Sum.inr (6, [Value.ref u.2.1, Value.ref u.1, Value.int 0, Value.int 0, Value.int 0, Value.int 0, Value.int 0, Value.int 0])), (u.1, Sum.inl (cM, 8, Sum.inr (Sum.inr (Sum.inr (Sum.inr (fun _ => none)))))), (u.2.1, Sum.inr (5, [Value.long 0, Value.long 0, Value.ref u.2.2.2.2.2.2.2.2.1, Value.ref u.2.2.2.2.2.2.2.2.2.1, Value.ref u.2.2.2.2.2.2.2.2.2.2, Value.int 0, Value.ref u.2.2.1, Value.ref u.2.2.2.2.1, Value.ref u.2.2.2.2.2.2.1, Value.int 0])), (u.2.2.1, Sum.inr (0, [Value.int 0, Value.ref u.2.2.2.1])), (u.2.2.2.1, Sum.inl (cI, 64, Sum.inl (fun _ => 0))), (u.2.2.2.2.1, Sum.inr (0, [Value.int 0, Value.ref u.2.2.2.2.2.1])), (u.2.2.2.2.2.1, Sum.inl (cI, 64, Sum.inl (fun _ => 0))), (u.2.2.2.2.2.2.1, Sum.inr (0, [Value.int 0, Value.ref u.2.2.2.2.2.2.2.1])), (u.2.2.2.2.2.2.2.1, Sum.inl (cI, 64, Sum.inl (fun _ => 0))), (u.2.2.2.2.2.2.2.2.1, Sum.inl (cO, 600, Sum.inr (Sum.inr (Sum.inr (Sum.inr (fun _ => none)))))), (u.2.2.2.2.2.2.2.2.2.1, Sum.inl (cI, 600, Sum.inl (fun _ => 0))), (u.2.2.2.2.2.2.2.2.2.2, Sum.inl (cI, 600, Sum.inl (fun _ => 0)))]) 2400 (fun (u : Nat × Nat × Nat × Nat × Nat × Nat × Nat × Nat × Nat × Nat × Nat) => 0) := by
  refine my_ofVg (cc := prog_1_method_1_code) (n := 3) (ret := none) (by decide) rfl (Nat.le_of_ble_eq_true rfl) ?_
  intro p e s m args below meth c R Q A ls H locs hx hb hr hts hown hlocks hml hnm hR hQ hA hl hP hK hN hD hS
  have hg : ∀ w ∈ gw, w.before args s = true := fun w h => hts w (List.mem_cons_of_mem _ h)
  have hown : s.vm.findClass "RangeCoders" = some m.cls := hown
  have hl : lv_has ls 3 [(0, Value.ref rc), (1, Value.int fm), (2, Value.int sh)] := hl
  refine lv_aload_n hx hb d_RC_init_0 rfl (lv_at hl 0 rfl) ?_
  refine W.objInit hx hb hown (hg _ k22) (hg _ k23) (hg _ k24) rfl (by rw [hml]; exact hl.1) rfl d_RC_init_1 (by rw [hR]; exact Nat.le_of_ble_eq_true rfl) (by rw [hR]; exact Nat.le_of_ble_eq_true rfl) ?_
  refine W.eq (g2 := F0 m 4 ls []) rfl ?_
  refine lv_aload_n hx hb d_RC_init_4 rfl (lv_at hl 0 rfl) ?_
  refine lv_bipush (v := 8) hx hb d_RC_init_5 (by decide) ?_
  refine my_newq hx hb hown (hg _ k25) hN.2.1 hK 1 rfl hP hD hS hA (N' := 8) (by decide) rfl (by decide) (by rw [hR]; exact (show 0 + 1 ≤ 2400 by omega)) (by rw [hR]; exact (show 0 + 8 ≤ 2400 by omega)) d_RC_init_7 (fun q_1 H hP hD hS => ?_)
  have hPD : my_PD (dC, dI) vwCl A [(rc, Sum.inr (6, [Value.null, Value.null, Value.int 0, Value.int 0, Value.int 0, Value.int 0, Value.int 0, Value.int 0])), (q_1, Sum.inl (cM, 8, Sum.inr (Sum.inr (Sum.inr (Sum.inr (fun _ => none))))))] H := ⟨hP, hD⟩
  have hP := hPD.1
  have hD := hPD.2
  refine va_putF (D := (dC, dI)) (ci := 6) (v := .ref q_1) (ty := (.array (.object "RangeCoders$Model"))) (C := "RangeCoders") (T := T_RC) (N := 8) hx hb hg in_RC t_RC o_RC n_RC hown hK hP hD hS 0 rfl rfl 1 (by decide) (hg _ k259) (fun _ h9 => h9) rfl (by rw [hnm]; rfl) rfl (o_RC 1 (by decide)) rfl rfl (Nat.le_of_ble_eq_true rfl) d_RC_init_10 (fun H locs hP hD hS => ?_)
  have hPD : my_PD (dC, dI) vwCl A [(rc, Sum.inr (6, [Value.null, Value.ref q_1, Value.int 0, Value.int 0, Value.int 0, Value.int 0, Value.int 0, Value.int 0])), (q_1, Sum.inl (cM, 8, Sum.inr (Sum.inr (Sum.inr (Sum.inr (fun _ => none))))))] H := ⟨hP, hD⟩
  have hP := hPD.1
  have hD := hPD.2
  refine lv_aload_n hx hb d_RC_init_13 rfl (lv_at hl 0 rfl) ?_
  refine lv_iload_n hx hb d_RC_init_14 rfl (lv_at hl 1 rfl) ?_
  refine lv_iconst (v := 0) hx hb d_RC_init_15 (by decide) ?_
  refine lv_iconst (v := 4) hx hb d_RC_init_16 (by decide) ?_
  refine my_ci (wr := [(rc, Sum.inr (6, [Value.null, Value.ref q_1, Value.int 0, Value.int 0, Value.int 0, Value.int 0, Value.int 0, Value.int 0])), (q_1, Sum.inl (cM, 8, Sum.inr (Sum.inr (Sum.inr (Sum.inr (fun _ => none))))))]) (va_runS (As := [Value.int fm, Value.int 0, Value.int 4]) (rest := [Value.ref rc]) ⟨hx, hb, hml, hown, hts⟩ (c_RC_nearest l dC dI cI cM cO H.size fm 0 4) (cwS 3 hts (my_gS k27 k28 k1 k29) rfl rfl rfl (by decide +kernel) ⟨by rw [hR]; exact Nat.le_of_ble_eq_true rfl, by rw [hR]; exact Nat.le_of_ble_eq_true rfl⟩) (my_pre hK hN (hP.sub [] rfl) (hD.sub [] (by decide +kernel) rfl)) rfl rfl hl.1 rfl (lv_room (Nat.le_of_ble_eq_true rfl)) d_RC_init_17 ⟨by rw [hR]; exact (show (0 + 1) + 0 ≤ 2400 by omega), by rw [hR]; exact (show (0 + 8) + 0 ≤ 2400 by omega)⟩) hP hD hS hA [] [0, 1] rfl rfl (by decide +kernel) (by decide +kernel) (fun r_17 u9 H locs hw_17 hP hD hS => ?_)
  have hr_17 : r_17 = near fm 0 4 := hw_17
  have hPD : my_PD (dC, dI) vwCl A [(rc, Sum.inr (6, [Value.null, Value.ref q_1, Value.int 0, Value.int 0, Value.int 0, Value.int 0, Value.int 0, Value.int 0])), (q_1, Sum.inl (cM, 8, Sum.inr (Sum.inr (Sum.inr (Sum.inr (fun _ => none))))))] H := ⟨hP, hD⟩
  have hP := hPD.1
  have hD := hPD.2
  refine lv_iload_n hx hb d_RC_init_20 rfl (lv_at hl 2 rfl) ?_
  refine lv_iconst (v := 1) hx hb d_RC_init_21 (by decide) ?_
  refine lv_bipush (v := 10) hx hb d_RC_init_22 (by decide) ?_
  refine my_ci (wr := [(rc, Sum.inr (6, [Value.null, Value.ref q_1, Value.int 0, Value.int 0, Value.int 0, Value.int 0, Value.int 0, Value.int 0])), (q_1, Sum.inl (cM, 8, Sum.inr (Sum.inr (Sum.inr (Sum.inr (fun _ => none))))))]) (va_runS (As := [Value.int sh, Value.int 1, Value.int 10]) (rest := [Value.int r_17, Value.ref rc]) ⟨hx, hb, hml, hown, hts⟩ (c_RC_nearest l dC dI cI cM cO H.size sh 1 10) (cwS 3 hts (my_gS k27 k28 k1 k29) rfl rfl rfl (by decide +kernel) ⟨by rw [hR]; exact Nat.le_of_ble_eq_true rfl, by rw [hR]; exact Nat.le_of_ble_eq_true rfl⟩) (my_pre hK hN (hP.sub [] rfl) (hD.sub [] (by decide +kernel) rfl)) rfl rfl hl.1 rfl (lv_room (Nat.le_of_ble_eq_true rfl)) d_RC_init_24 ⟨by rw [hR]; exact (show (0 + 1) + 0 ≤ 2400 by omega), by rw [hR]; exact (show (0 + 8) + 0 ≤ 2400 by omega)⟩) hP hD hS hA [] [0, 1] rfl rfl (by decide +kernel) (by decide +kernel) (fun r_24 u9 H locs hw_24 hP hD hS => ?_)
  have hr_24 : r_24 = near sh 1 10 := hw_24
  have hPD : my_PD (dC, dI) vwCl A [(rc, Sum.inr (6, [Value.null, Value.ref q_1, Value.int 0, Value.int 0, Value.int 0, Value.int 0, Value.int 0, Value.int 0])), (q_1, Sum.inl (cM, 8, Sum.inr (Sum.inr (Sum.inr (Sum.inr (fun _ => none))))))] H := ⟨hP, hD⟩
  have hP := hPD.1
  have hD := hPD.2
  refine W.eq (g2 := F0 m 27 ls [Value.int (near sh 1 10), Value.int 4, Value.ref rc]) (by rw [hr_17, hr_24, hfm]) ?_
  refine my_cqg (wr := [(rc, Sum.inr (6, [Value.null, Value.ref q_1, Value.int 0, Value.int 0, Value.int 0, Value.int 0, Value.int 0, Value.int 0])), (q_1, Sum.inl (cM, 8, Sum.inr (Sum.inr (Sum.inr (Sum.inr (fun _ => none))))))]) (va_runS (As := [Value.int 4, Value.int (near sh 1 10)]) (rest := [Value.ref rc]) ⟨hx, hb, hml, hown, hts⟩ (c_RC_coderOf_Table l dC dI cI cM cO H.size (hSl H) (near sh 1 10)) (cwS 2 hts (my_gS k36 k37 k1 k38) rfl rfl rfl (by decide +kernel) ⟨by rw [hR]; exact Nat.le_of_ble_eq_true rfl, by rw [hR]; exact Nat.le_of_ble_eq_true rfl⟩) (my_preg hK hN (hP.sub [] rfl) (hD.sub [] (by decide +kernel) rfl)) rfl rfl hl.1 rfl (lv_room (Nat.le_of_ble_eq_true rfl)) d_RC_init_27 ⟨by rw [hR]; exact (show (0 + 1) + 2300 ≤ 2400 by omega), by rw [hR]; exact (show (0 + 8) + 2300 ≤ 2400 by omega)⟩) hP hD hS hA [] [0, 1] rfl rfl (by decide +kernel) (by decide +kernel) (fun r_27 u9 d_27 H locs hd_27 hw_27 hP hD hS => ?_)
  obtain ⟨zc_27, zi_27, zia_27, zu_27, zua_27, zw_27, zwa_27, zso_27, zsn_27, zsw_27⟩ := u9
  have hr_27 : r_27 = some zc_27 := hw_27
  have hd_27 : d_27 + 0 ≤ 2300 := hd_27
  have hPD : my_PD (dC, dI) vwCl A [(rc, Sum.inr (6, [Value.null, Value.ref q_1, Value.int 0, Value.int 0, Value.int 0, Value.int 0, Value.int 0, Value.int 0])), (q_1, Sum.inl (cM, 8, Sum.inr (Sum.inr (Sum.inr (Sum.inr (fun _ => none)))))), (zc_27, Sum.inr (5, [Value.long 0, Value.long 0, Value.ref zso_27, Value.ref zsn_27, Value.ref zsw_27, Value.int 0, Value.ref zi_27, Value.ref zu_27, Value.ref zw_27, Value.int 0])), (zi_27, Sum.inr (0, [Value.int 0, Value.ref zia_27])), (zia_27, Sum.inl (cI, 64, Sum.inl (fun _ => 0))), (zu_27, Sum.inr (0, [Value.int 0, Value.ref zua_27])), (zua_27, Sum.inl (cI, 64, Sum.inl (fun _ => 0))), (zw_27, Sum.inr (0, [Value.int 0, Value.ref zwa_27])), (zwa_27, Sum.inl (cI, 64, Sum.inl (fun _ => 0))), (zso_27, Sum.inl (cO, 600, Sum.inr (Sum.inr (Sum.inr (Sum.inr (fun _ => none)))))), (zsn_27, Sum.inl (cI, 600, Sum.inl (fun _ => 0))), (zsw_27, Sum.inl (cI, 600, Sum.inl (fun _ => 0)))] H := ⟨hP, hD⟩
  have hP := hPD.1
  have hD := hPD.2
  subst hr_27
  refine W.eq (g2 := F0 m 30 ls [Value.ref zc_27, Value.ref rc]) rfl ?_
  refine va_putF (D := (dC, dI)) (ci := 6) (v := .ref zc_27) (ty := (.object "RangeCoders$Coder")) (C := "RangeCoders") (T := T_RC) (N := 8) hx hb hg in_RC t_RC o_RC n_RC hown hK hP hD hS 0 rfl rfl 0 (by decide) (hg _ k258) (fun _ h9 => h9) rfl (by rw [hnm]; rfl) rfl (o_RC 0 (by decide)) rfl rfl (Nat.le_of_ble_eq_true rfl) d_RC_init_30 (fun H locs hP hD hS => ?_)
  have hPD : my_PD (dC, dI) vwCl A [(rc, Sum.inr (6, [Value.ref zc_27, Value.ref q_1, Value.int 0, Value.int 0, Value.int 0, Value.int 0, Value.int 0, Value.int 0])), (q_1, Sum.inl (cM, 8, Sum.inr (Sum.inr (Sum.inr (Sum.inr (fun _ => none)))))), (zc_27, Sum.inr (5, [Value.long 0, Value.long 0, Value.ref zso_27, Value.ref zsn_27, Value.ref zsw_27, Value.int 0, Value.ref zi_27, Value.ref zu_27, Value.ref zw_27, Value.int 0])), (zi_27, Sum.inr (0, [Value.int 0, Value.ref zia_27])), (zia_27, Sum.inl (cI, 64, Sum.inl (fun _ => 0))), (zu_27, Sum.inr (0, [Value.int 0, Value.ref zua_27])), (zua_27, Sum.inl (cI, 64, Sum.inl (fun _ => 0))), (zw_27, Sum.inr (0, [Value.int 0, Value.ref zwa_27])), (zwa_27, Sum.inl (cI, 64, Sum.inl (fun _ => 0))), (zso_27, Sum.inl (cO, 600, Sum.inr (Sum.inr (Sum.inr (Sum.inr (fun _ => none)))))), (zsn_27, Sum.inl (cI, 600, Sum.inl (fun _ => 0))), (zsw_27, Sum.inl (cI, 600, Sum.inl (fun _ => 0)))] H := ⟨hP, hD⟩
  have hP := hPD.1
  have hD := hPD.2
  exact my_vretg hx hb hr hlocks hQ hK hS (q_1, zc_27, zi_27, zia_27, zu_27, zua_27, zw_27, zwa_27, zso_27, zsn_27, zsw_27) (show (0 + 1 + d_27) + 0 ≤ 2400 by omega) (show (0 + 8 + d_27) + 0 ≤ 2400 by omega) (trivial) (hP.sub [0, 1, 2, 3, 4, 5, 6, 7, 8, 9, 10, 11] rfl) (hD.sub [0, 1, 2, 3, 4, 5, 6, 7, 8, 9, 10, 11] (by decide +kernel) rfl) d_RC_init_33
set_option maxHeartbeats 2000000 in
set_option maxRecDepth 100000 in
theorem c_RC_modelAtA (l : Launch) (dC : Nat → ClassId) (dI : Nat → Nat → Nat) (cI cM cO : ClassId) (sz : Nat) (rc : Nat) (ma : Nat) (k : Nat) (fit : Int32) (fen : Int32) (frd : Int32) (fbd : Int32) (fir : Int32) (mf : Nat → Option Nat) (co : Nat) (mm : Int32) (hbad : mm < 0 ∨ nI k ≤ mm) : MetQ l y_RC_modelAt (Cond.code y_RC_modelAt prog_1_method_20_code 2 (some (.object "RangeCoders$Model")) :: gw) ({ frames := 0, cells := 0, slots := 0, locals := 0 } : Room) (dC, dI) vwCl (kT cI cM cO) [Value.ref rc, Value.int mm] [(rc, Sum.inr (6, [Value.ref co, Value.ref ma, Value.int (nI k), Value.int fit, Value.int fen, Value.int frd, Value.int fbd, Value.int fir])), (ma, Sum.inl (cM, 8, Sum.inr (Sum.inr (Sum.inr (Sum.inr mf)))))] sz (fun (r : Option Nat) (u : Unit) => r = none) (fun (u : Unit) => [(rc, Sum.inr (6, [Value.ref co, Value.ref ma, Value.int (nI k), Value.int fit, Value.int fen, Value.int frd, Value.int fbd, Value.int fir])), (ma, Sum.inl (cM, 8, Sum.inr (Sum.inr (Sum.inr (Sum.inr mf)))))]) 0 0 := by
  refine my_ofQ (cc := prog_1_method_20_code) (n := 2) (ret := (some (.object "RangeCoders$Model"))) (by decide) rfl (Nat.le_of_ble_eq_true rfl) ?_
  intro p e s m args below meth c R Q A ls H locs hx hb hr hts hown hlocks hml hnm hR hQ hA hl hP hK hN hD hS
  have hg : ∀ w ∈ gw, w.before args s = true := fun w h => hts w (List.mem_cons_of_mem _ h)
  have hown : s.vm.findClass "RangeCoders" = some m.cls := hown
  have hl : lv_has ls 2 [(0, Value.ref rc), (1, Value.int mm)] := hl
  refine lv_iload_n hx hb d_RC_modelAt_0 rfl (lv_at hl 1 rfl) ?_
  refine lv_if_lt (tgt := 21) hx hb d_RC_modelAt_1 (by decide) (fun c_1 => ?_) (fun c_1 => ?_)
  · refine lv_null hx hb d_RC_modelAt_21 ?_
    exact my_qret (v := none) hx hb hr (Or.inl ⟨_, rfl⟩) hlocks hQ hK hS (Nat.le_refl _) (Nat.le_refl _) () (rfl) (hP.sub [0, 1] rfl) (hD.sub [0, 1] (by decide +kernel) rfl) d_RC_modelAt_22
  · refine lv_iload_n hx hb d_RC_modelAt_4 rfl (lv_at hl 1 rfl) ?_
    refine lv_aload_n hx hb d_RC_modelAt_5 rfl (lv_at hl 0 rfl) ?_
    refine va_get (D := (dC, dI)) (ci := 6) (v := .int (nI k)) (C := "RangeCoders") (T := T_RC) (N := 8) hx hb hg in_RC hown hK hP 0 rfl rfl 2 (by decide) (hg _ k260) (fun _ h9 => h9) rfl d_RC_modelAt_6 ?_
    refine lv_icmp_ge (tgt := 21) hx hb d_RC_modelAt_9 (by decide) (fun c_2 => ?_) (fun c_2 => ?_)
    · refine lv_null hx hb d_RC_modelAt_21 ?_
      exact my_qret (v := none) hx hb hr (Or.inl ⟨_, rfl⟩) hlocks hQ hK hS (Nat.le_refl _) (Nat.le_refl _) () (rfl) (hP.sub [0, 1] rfl) (hD.sub [0, 1] (by decide +kernel) rfl) d_RC_modelAt_22
    · exact absurd hbad (fun h9 => h9.elim c_1 c_2)
set_option maxHeartbeats 2000000 in
set_option maxRecDepth 100000 in
theorem c_RC_modelAtB (l : Launch) (dC : Nat → ClassId) (dI : Nat → Nat → Nat) (cI cM cO : ClassId) (sz : Nat) (rc : Nat) (ma : Nat) (k : Nat) (fit : Int32) (fen : Int32) (frd : Int32) (fbd : Int32) (fir : Int32) (mf : Nat → Option Nat) (co : Nat) (j : Nat) (mo : Nat) (hk8 : k ≤ 8) (hj : j < k) (hmf : mf j = some mo) : MetQ l y_RC_modelAt (Cond.code y_RC_modelAt prog_1_method_20_code 2 (some (.object "RangeCoders$Model")) :: gw) ({ frames := 0, cells := 0, slots := 0, locals := 0 } : Room) (dC, dI) vwCl (kT cI cM cO) [Value.ref rc, Value.int (nI j)] [(rc, Sum.inr (6, [Value.ref co, Value.ref ma, Value.int (nI k), Value.int fit, Value.int fen, Value.int frd, Value.int fbd, Value.int fir])), (ma, Sum.inl (cM, 8, Sum.inr (Sum.inr (Sum.inr (Sum.inr mf)))))] sz (fun (r : Option Nat) (u : Unit) => r = some mo) (fun (u : Unit) => [(rc, Sum.inr (6, [Value.ref co, Value.ref ma, Value.int (nI k), Value.int fit, Value.int fen, Value.int frd, Value.int fbd, Value.int fir])), (ma, Sum.inl (cM, 8, Sum.inr (Sum.inr (Sum.inr (Sum.inr mf)))))]) 0 0 := by
  refine my_ofQ (cc := prog_1_method_20_code) (n := 2) (ret := (some (.object "RangeCoders$Model"))) (by decide) rfl (Nat.le_of_ble_eq_true rfl) ?_
  intro p e s m args below meth c R Q A ls H locs hx hb hr hts hown hlocks hml hnm hR hQ hA hl hP hK hN hD hS
  have hg : ∀ w ∈ gw, w.before args s = true := fun w h => hts w (List.mem_cons_of_mem _ h)
  have hown : s.vm.findClass "RangeCoders" = some m.cls := hown
  have hl : lv_has ls 2 [(0, Value.ref rc), (1, Value.int (nI j))] := hl
  refine lv_iload_n hx hb d_RC_modelAt_0 rfl (lv_at hl 1 rfl) ?_
  refine lv_if_lt (tgt := 21) hx hb d_RC_modelAt_1 (by decide) (fun c_1 => ?_) (fun c_1 => ?_)
  · exact absurd c_1 (nI_pos (by omega))
  · refine lv_iload_n hx hb d_RC_modelAt_4 rfl (lv_at hl 1 rfl) ?_
    refine lv_aload_n hx hb d_RC_modelAt_5 rfl (lv_at hl 0 rfl) ?_
    refine va_get (D := (dC, dI)) (ci := 6) (v := .int (nI k)) (C := "RangeCoders") (T := T_RC) (N := 8) hx hb hg in_RC hown hK hP 0 rfl rfl 2 (by decide) (hg _ k260) (fun _ h9 => h9) rfl d_RC_modelAt_6 ?_
    refine lv_icmp_ge (tgt := 21) hx hb d_RC_modelAt_9 (by decide) (fun c_2 => ?_) (fun c_2 => ?_)
    · exact absurd c_2 (nI_ge hj (by omega))
    · refine lv_aload_n hx hb d_RC_modelAt_12 rfl (lv_at hl 0 rfl) ?_
      refine va_get (D := (dC, dI)) (ci := 6) (v := .ref ma) (C := "RangeCoders") (T := T_RC) (N := 8) hx hb hg in_RC hown hK hP 0 rfl rfl 1 (by decide) (hg _ k259) (fun _ h9 => h9) rfl d_RC_modelAt_13 ?_
      refine lv_iload_n hx hb d_RC_modelAt_16 rfl (lv_at hl 1 rfl) ?_
      refine va_aldq hx hb hK hP 1 1 rfl rfl (vp_in_nI (by omega) (by decide)) d_RC_modelAt_17 ?_
      refine lv_goto (tgt := 22) hx hb d_RC_modelAt_18 (by decide) ?_
      exact my_qret (v := mf (nI j).toNatClampNeg) hx hb hr (Or.inl ⟨_, rfl⟩) hlocks hQ hK hS (Nat.le_refl _) (Nat.le_refl _) () (by rw [nI_clamp (by omega)]; exact hmf) (hP.sub [0, 1] rfl) (hD.sub [0, 1] (by decide +kernel) rfl) d_RC_modelAt_22
set_option maxHeartbeats 2000000 in
set_option maxRecDepth 100000 in
theorem c_RC_itemOrBad (l : Launch) (dC : Nat → ClassId) (dI : Nat → Nat → Nat) (cI cM cO : ClassId) (sz : Nat) (rc : Nat) (ma : Nat) (k : Nat) (fit : Int32) (fen : Int32) (frd : Int32) (fbd : Int32) (fir : Int32) (mf : Nat → Option Nat) (co : Nat) (it : Int32) : MetI l y_RC_itemOrBad (Cond.code y_RC_itemOrBad prog_1_method_21_code 2 (some .int) :: gw) ({ frames := 0, cells := 0, slots := 0, locals := 0 } : Room) (dC, dI) vwCl (kT cI cM cO) [Value.ref rc, Value.int it] [(rc, Sum.inr (6, [Value.ref co, Value.ref ma, Value.int (nI k), Value.int fit, Value.int fen, Value.int frd, Value.int fbd, Value.int fir]))] sz (fun (r : Int32) (u : Int32 × Int32) => True) (fun (u : Int32 × Int32) => [(rc, Sum.inr (6, [Value.ref co, Value.ref ma, Value.int (nI k), Value.int fit, Value.int fen, Value.int frd, Value.int u.1, Value.int u.2]))]) 0 0 := by
  refine my_ofI (cc := prog_1_method_21_code) (n := 2) (ret := (some .int)) (by decide) rfl (Nat.le_of_ble_eq_true rfl) ?_
  intro p e s m args below meth c R Q A ls H locs hx hb hr hts hown hlocks hml hnm hR hQ hA hl hP hK hN hD hS
  have hg : ∀ w ∈ gw, w.before args s = true := fun w h => hts w (List.mem_cons_of_mem _ h)
  have hown : s.vm.findClass "RangeCoders" = some m.cls := hown
  have hl : lv_has ls 2 [(0, Value.ref rc), (1, Value.int it)] := hl
  refine lv_iload_n hx hb d_RC_itemOrBad_0 rfl (lv_at hl 1 rfl) ?_
  refine lv_iconst (v := (-1)) hx hb d_RC_itemOrBad_1 (by decide) ?_
  refine lv_icmp_ne (tgt := 13) hx hb d_RC_itemOrBad_2 (by decide) (fun c_1 => ?_) (fun c_1 => ?_)
  · refine lv_aload_n hx hb d_RC_itemOrBad_13 rfl (lv_at hl 0 rfl) ?_
    refine lv_dup hx hb d_RC_itemOrBad_14 rfl ?_
    refine va_get (D := (dC, dI)) (ci := 6) (v := .int fir) (C := "RangeCoders") (T := T_RC) (N := 8) hx hb hg in_RC hown hK hP 0 rfl rfl 7 (by decide) (hg _ k265) (fun _ h9 => h9) rfl d_RC_itemOrBad_15 ?_
    refine lv_iconst (v := 1) hx hb d_RC_itemOrBad_18 (by decide) ?_
    refine lv_iadd hx hb d_RC_itemOrBad_19 ?_
    refine lv_topi (fun v_2 ev_2 => ?_)
    refine va_put (D := (dC, dI)) (ci := 6) (v := .int v_2) (ty := .int) (C := "RangeCoders") (T := T_RC) (N := 8) hx hb hg in_RC t_RC o_RC n_RC hown hK hP hD hS 0 rfl rfl 7 (by decide) (hg _ k265) (fun _ h9 => h9) rfl (o_RC 7 (by decide)) rfl rfl (Nat.le_of_ble_eq_true rfl) d_RC_itemOrBad_20 (fun H locs hP hD hS => ?_)
    have hPD : my_PD (dC, dI) vwCl A [(rc, Sum.inr (6, [Value.ref co, Value.ref ma, Value.int (nI k), Value.int fit, Value.int fen, Value.int frd, Value.int fbd, Value.int v_2]))] H := ⟨hP, hD⟩
    have hP := hPD.1
    have hD := hPD.2
    refine lv_iload_n hx hb d_RC_itemOrBad_23 rfl (lv_at hl 1 rfl) ?_
    exact my_iret (v := it) hx hb hr (rfl) hlocks hQ hK hS (Nat.le_refl _) (Nat.le_refl _) (fbd, v_2) (trivial) (hP.sub [0] rfl) (hD.sub [0] (by decide +kernel) rfl) d_RC_itemOrBad_24
  · refine lv_aload_n hx hb d_RC_itemOrBad_5 rfl (lv_at hl 0 rfl) ?_
    refine lv_iconst (v := 1) hx hb d_RC_itemOrBad_6 (by decide) ?_
    refine va_put (D := (dC, dI)) (ci := 6) (v := .int 1) (ty := .boolean) (C := "RangeCoders") (T := T_RC) (N := 8) hx hb hg in_RC t_RC o_RC n_RC hown hK hP hD hS 0 rfl rfl 6 (by decide) (hg _ k264) (fun _ h9 => h9) rfl (o_RC 6 (by decide)) rfl rfl (Nat.le_of_ble_eq_true rfl) d_RC_itemOrBad_7 (fun H locs hP hD hS => ?_)
    have hPD : my_PD (dC, dI) vwCl A [(rc, Sum.inr (6, [Value.ref co, Value.ref ma, Value.int (nI k), Value.int fit, Value.int fen, Value.int frd, Value.int 1, Value.int fir]))] H := ⟨hP, hD⟩
    have hP := hPD.1
    have hD := hPD.2
    refine lv_bipush (v := (-5)) hx hb d_RC_itemOrBad_10 (by decide) ?_
    exact my_iret (v := (-5)) hx hb hr (rfl) hlocks hQ hK hS (Nat.le_refl _) (Nat.le_refl _) ((1 : Int32), fir) (trivial) (hP.sub [0] rfl) (hD.sub [0] (by decide +kernel) rfl) d_RC_itemOrBad_12
end
section
set_option maxHeartbeats 2000000 in
set_option maxRecDepth 100000 in
theorem c_RC_getA_Bits (l : Launch) (dC : Nat → ClassId) (dI : Nat → Nat → Nat) (cI cM cO : ClassId) (sz : Nat) (rc : Nat) (ma : Nat) (k : Nat) (fit : Int32) (fen : Int32) (frd : Int32) (fbd : Int32) (fir : Int32) (mf : Nat → Option Nat) (co : Nat) (xshift : Int32) (xkeptCode : Int64) (xkeptRange : Int64) (xkeptAsked : Int32) (xcache : Int32) (xpending : Int32) (xlow : Int64) (xrange : Int64) (xcode : Int64) (xreadLow : Int64) (xreadRange : Int64) (ri : Nat) (ro : Nat) (rw : Nat) (xasked : Int32) (mm : Int32) (hk8 : k ≤ 8) (hbad : mm < 0 ∨ nI k ≤ mm) : MetI l y_RC_get (Cond.code y_RC_get prog_1_method_13_code 3 (some .int) :: gw) ({ frames := 1, cells := 0, slots := 0, locals := 21 } : Room) (dC, dI) vwCl (kT cI cM cO) [Value.ref rc, Value.int mm] [(rc, Sum.inr (6, [Value.ref co, Value.ref ma, Value.int (nI k), Value.int fit, Value.int fen, Value.int frd, Value.int fbd, Value.int fir])), (ma, Sum.inl (cM, 8, Sum.inr (Sum.inr (Sum.inr (Sum.inr mf))))), (co, Sum.inr (3, [Value.int xshift, Value.long xkeptCode, Value.long xkeptRange, Value.int xkeptAsked, Value.int xcache, Value.int xpending, Value.long xlow, Value.long xrange, Value.long xcode, Value.long xreadLow, Value.long xreadRange, Value.ref ri, Value.ref ro, Value.ref rw, Value.int xasked]))] sz (fun (r : Int32) (u : Unit) => True) (fun (u : Unit) => [(rc, Sum.inr (6, [Value.ref co, Value.ref ma, Value.int (nI k), Value.int fit, Value.int fen, Value.int frd, Value.int fbd, Value.int fir])), (ma, Sum.inl (cM, 8, Sum.inr (Sum.inr (Sum.inr (Sum.inr mf))))), (co, Sum.inr (3, [Value.int xshift, Value.long xkeptCode, Value.long xkeptRange, Value.int xkeptAsked, Value.int xcache, Value.int xpending, Value.long xlow, Value.long xrange, Value.long xcode, Value.long xreadLow, Value.long xreadRange, Value.ref ri, Value.ref ro, Value.ref rw, Value.int xasked]))]) 0 0 := by
  refine my_ofI (cc := prog_1_method_13_code) (n := 3) (ret := (some .int)) (by decide) rfl (Nat.le_of_ble_eq_true rfl) ?_
  intro p e s m args below meth c R Q A ls H locs hx hb hr hts hown hlocks hml hnm hR hQ hA hl hP hK hN hD hS
  have hg : ∀ w ∈ gw, w.before args s = true := fun w h => hts w (List.mem_cons_of_mem _ h)
  have hown : s.vm.findClass "RangeCoders" = some m.cls := hown
  have hl : lv_has ls 3 [(0, Value.ref rc), (1, Value.int mm)] := hl
  refine lv_aload_n hx hb d_RC_get_0 rfl (lv_at hl 0 rfl) ?_
  refine lv_iload_n hx hb d_RC_get_1 rfl (lv_at hl 1 rfl) ?_
  refine my_cq (wr := [(co, Sum.inr (3, [Value.int xshift, Value.long xkeptCode, Value.long xkeptRange, Value.int xkeptAsked, Value.int xcache, Value.int xpending, Value.long xlow, Value.long xrange, Value.long xcode, Value.long xreadLow, Value.long xreadRange, Value.ref ri, Value.ref ro, Value.ref rw, Value.int xasked]))]) (va_runV (As := [Value.int mm]) (rest := []) ⟨hx, hb, hml, hown, hts⟩ (c_RC_modelAtA l dC dI cI cM cO H.size rc ma k fit fen frd fbd fir mf co mm (by first | assumption | omega)) (cwV 1 hts (my_gV k412 k414 ks3 k1 k415) rfl rfl rfl cu_RC_modelAt_1 ⟨by rw [hR]; exact Nat.le_of_ble_eq_true rfl, by rw [hR]; exact Nat.le_of_ble_eq_true rfl⟩) (my_preV hK hN (hP.sub [0, 1] rfl) (hD.sub [0, 1] (by decide +kernel) rfl) 0 rfl rfl) rfl rfl hl.1 rfl (lv_room (Nat.le_of_ble_eq_true rfl)) d_RC_get_2 ⟨by rw [hR]; exact Nat.le_of_ble_eq_true rfl, by rw [hR]; exact Nat.le_of_ble_eq_true rfl⟩) hP hD hS hA [0, 1] [2] rfl rfl (by decide +kernel) (by decide +kernel) (fun r_2 u9 H locs hw_2 hP hD hS => ?_)
  have hr_2 : r_2 = none := hw_2
  have hPD : my_PD (dC, dI) vwCl A [(co, Sum.inr (3, [Value.int xshift, Value.long xkeptCode, Value.long xkeptRange, Value.int xkeptAsked, Value.int xcache, Value.int xpending, Value.long xlow, Value.long xrange, Value.long xcode, Value.long xreadLow, Value.long xreadRange, Value.ref ri, Value.ref ro, Value.ref rw, Value.int xasked])), (rc, Sum.inr (6, [Value.ref co, Value.ref ma, Value.int (nI k), Value.int fit, Value.int fen, Value.int frd, Value.int fbd, Value.int fir])), (ma, Sum.inl (cM, 8, Sum.inr (Sum.inr (Sum.inr (Sum.inr mf)))))] H := ⟨hP, hD⟩
  have hP := hPD.1
  have hD := hPD.2
  subst hr_2
  refine W.eq (g2 := F0 m 5 ls [Value.null]) rfl ?_
  refine lv_astore_nN (lv' := [(2, Value.null), (0, Value.ref rc), (1, Value.int mm)]) hx hb d_RC_get_5 rfl hl (by decide) rfl (fun ls hl => ?_)
  refine lv_aload_nN hx hb d_RC_get_6 rfl (lv_at hl 0 rfl) ?_
  refine lv_ifnonnullN hx hb d_RC_get_7 ?_
  refine lv_iconst (v := (-1)) hx hb d_RC_get_10 (by decide) ?_
  exact my_iret (v := (-1)) hx hb hr (rfl) hlocks hQ hK hS (Nat.le_refl _) (Nat.le_refl _) () (trivial) (hP.sub [1, 2, 0] rfl) (hD.sub [1, 2, 0] (by decide +kernel) rfl) d_RC_get_11
set_option maxHeartbeats 2000000 in
set_option maxRecDepth 100000 in
theorem c_RC_getB_Bits (l : Launch) (dC : Nat → ClassId) (dI : Nat → Nat → Nat) (cI cM cO : ClassId) (sz : Nat) (rc : Nat) (ma : Nat) (k : Nat) (fit : Int32) (fen : Int32) (frd : Int32) (fbd : Int32) (fir : Int32) (mf : Nat → Option Nat) (co : Nat) (xshift : Int32) (xkeptCode : Int64) (xkeptRange : Int64) (xkeptAsked : Int32) (xcache : Int32) (xpending : Int32) (xlow : Int64) (xrange : Int64) (xcode : Int64) (xreadLow : Int64) (xreadRange : Int64) (ri : Nat) (ro : Nat) (rw : Nat) (xasked : Int32) (rin : Int32) (ria : Nat) (rik : Nat) (rif : Nat → Int32) (j : Nat) (mo : Nat) (o2 : Nat) (oo : Nat) (osg : Int32) (osm : Int32) (ofc : Int32) (oca : Nat) (opa : Nat) (ol : Nat) (ocf : Nat → Int32) (opl : Nat) (opf : Nat → Int32) (ka : Nat) (kl : Nat) (kf : Nat → Int32) (hk8 : k ≤ 8) (hri : rOk rin rik) (hj : j < k) (hmf : mf j = some mo) (hol : ol ≤ 64) (hopl : opl ≤ 512) (hol0 : 1 ≤ ol) (hkl : kl ≤ 64) : MetI l y_RC_get (Cond.code y_RC_get prog_1_method_13_code 3 (some .int) :: gw) ({ frames := 6, cells := 0, slots := 0, locals := 133 } : Room) (dC, dI) vwCl (kT cI cM cO) [Value.ref rc, Value.int (nI j)] [(rc, Sum.inr (6, [Value.ref co, Value.ref ma, Value.int (nI k), Value.int fit, Value.int fen, Value.int frd, Value.int fbd, Value.int fir])), (ma, Sum.inl (cM, 8, Sum.inr (Sum.inr (Sum.inr (Sum.inr mf))))), (co, Sum.inr (3, [Value.int xshift, Value.long xkeptCode, Value.long xkeptRange, Value.int xkeptAsked, Value.int xcache, Value.int xpending, Value.long xlow, Value.long xrange, Value.long xcode, Value.long xreadLow, Value.long xreadRange, Value.ref ri, Value.ref ro, Value.ref rw, Value.int xasked])), (ri, Sum.inr (0, [Value.int rin, Value.ref ria])), (ria, Sum.inl (cI, rik, Sum.inl rif)), (mo, Sum.inr (8, [Value.ref ka, Value.ref o2, Value.ref oo])), (ka, Sum.inl (cI, kl, Sum.inl kf)), (oo, Sum.inr (7, [Value.int osg, Value.int osm, Value.int ofc, Value.ref oca, Value.ref opa])), (oca, Sum.inl (cI, ol, Sum.inl ocf)), (opa, Sum.inl (cI, opl, Sum.inl opf))] sz (fun (r : Int32) (u : Int32 × Int32 × Int64 × Int64 × Int32 × Int64 × Int64 × Int32 × Int32 × (Nat → Int32)) => True) (fun (u : Int32 × Int32 × Int64 × Int64 × Int32 × Int64 × Int64 × Int32 × Int32 × (Nat → Int32)) => [(rc, Sum.inr (6, [Value.ref co, Value.ref ma, Value.int (nI k), Value.int fit, Value.int fen, Value.int frd, Value.int u.1, Value.int u.2.1])), (ma, Sum.inl (cM, 8, Sum.inr (Sum.inr (Sum.inr (Sum.inr mf))))), (co, Sum.inr (3, [Value.int xshift, Value.long u.2.2.1, Value.long u.2.2.2.1, Value.int u.2.2.2.2.1, Value.int xcache, Value.int xpending, Value.long xlow, Value.long xrange, Value.long u.2.2.2.2.2.1, Value.long xreadLow, Value.long u.2.2.2.2.2.2.1, Value.ref ri, Value.ref ro, Value.ref rw, Value.int u.2.2.2.2.2.2.2.1])), (ri, Sum.inr (0, [Value.int rin, Value.ref ria])), (ria, Sum.inl (cI, rik, Sum.inl rif)), (mo, Sum.inr (8, [Value.ref ka, Value.ref o2, Value.ref oo])), (ka, Sum.inl (cI, kl, Sum.inl kf)), (oo, Sum.inr (7, [Value.int osg, Value.int u.2.2.2.2.2.2.2.2.1, Value.int ofc, Value.ref oca, Value.ref opa])), (oca, Sum.inl (cI, ol, Sum.inl u.2.2.2.2.2.2.2.2.2)), (opa, Sum.inl (cI, opl, Sum.inl opf))]) 0 0 := by
  refine my_ofI (cc := prog_1_method_13_code) (n := 3) (ret := (some .int)) (by decide) rfl (Nat.le_of_ble_eq_true rfl) ?_
  intro p e s m args below meth c R Q A ls H locs hx hb hr hts hown hlocks hml hnm hR hQ hA hl hP hK hN hD hS
  have hg : ∀ w ∈ gw, w.before args s = true := fun w h => hts w (List.mem_cons_of_mem _ h)
  have hown : s.vm.findClass "RangeCoders" = some m.cls := hown
  have hl : lv_has ls 3 [(0, Value.ref rc), (1, Value.int (nI j))] := hl
  have hlt_hri := rOk_lt hri
  refine lv_aload_n hx hb d_RC_get_0 rfl (lv_at hl 0 rfl) ?_
  refine lv_iload_n hx hb d_RC_get_1 rfl (lv_at hl 1 rfl) ?_
  refine my_cq (wr := [(co, Sum.inr (3, [Value.int xshift, Value.long xkeptCode, Value.long xkeptRange, Value.int xkeptAsked, Value.int xcache, Value.int xpending, Value.long xlow, Value.long xrange, Value.long xcode, Value.long xreadLow, Value.long xreadRange, Value.ref ri, Value.ref ro, Value.ref rw, Value.int xasked])), (ri, Sum.inr (0, [Value.int rin, Value.ref ria])), (ria, Sum.inl (cI, rik, Sum.inl rif)), (mo, Sum.inr (8, [Value.ref ka, Value.ref o2, Value.ref oo])), (ka, Sum.inl (cI, kl, Sum.inl kf)), (oo, Sum.inr (7, [Value.int osg, Value.int osm, Value.int ofc, Value.ref oca, Value.ref opa])), (oca, Sum.inl (cI, ol, Sum.inl ocf)), (opa, Sum.inl (cI, opl, Sum.inl opf))]) (va_runV (As := [Value.int (nI j)]) (rest := []) ⟨hx, hb, hml, hown, hts⟩ (c_RC_modelAtB l dC dI cI cM cO H.size rc ma k fit fen frd fbd fir mf co j mo (by first | assumption | omega) (by first | assumption | omega) (by first | assumption | omega)) (cwV 1 hts (my_gV k412 k414 ks3 k1 k415) rfl rfl rfl cu_RC_modelAt_1 ⟨by rw [hR]; exact Nat.le_of_ble_eq_true rfl, by rw [hR]; exact Nat.le_of_ble_eq_true rfl⟩) (my_preV hK hN (hP.sub [0, 1] rfl) (hD.sub [0, 1] (by decide +kernel) rfl) 0 rfl rfl) rfl rfl hl.1 rfl (lv_room (Nat.le_of_ble_eq_true rfl)) d_RC_get_2 ⟨by rw [hR]; exact Nat.le_of_ble_eq_true rfl, by rw [hR]; exact Nat.le_of_ble_eq_true rfl⟩) hP hD hS hA [0, 1] [2, 3, 4, 5, 6, 7, 8, 9] rfl rfl (by decide +kernel) (by decide +kernel) (fun r_2 u9 H locs hw_2 hP hD hS => ?_)
  have hr_2 : r_2 = some mo := hw_2
  have hPD : my_PD (dC, dI) vwCl A [(co, Sum.inr (3, [Value.int xshift, Value.long xkeptCode, Value.long xkeptRange, Value.int xkeptAsked, Value.int xcache, Value.int xpending, Value.long xlow, Value.long xrange, Value.long xcode, Value.long xreadLow, Value.long xreadRange, Value.ref ri, Value.ref ro, Value.ref rw, Value.int xasked])), (ri, Sum.inr (0, [Value.int rin, Value.ref ria])), (ria, Sum.inl (cI, rik, Sum.inl rif)), (mo, Sum.inr (8, [Value.ref ka, Value.ref o2, Value.ref oo])), (ka, Sum.inl (cI, kl, Sum.inl kf)), (oo, Sum.inr (7, [Value.int osg, Value.int osm, Value.int ofc, Value.ref oca, Value.ref opa])), (oca, Sum.inl (cI, ol, Sum.inl ocf)), (opa, Sum.inl (cI, opl, Sum.inl opf)), (rc, Sum.inr (6, [Value.ref co, Value.ref ma, Value.int (nI k), Value.int fit, Value.int fen, Value.int frd, Value.int fbd, Value.int fir])), (ma, Sum.inl (cM, 8, Sum.inr (Sum.inr (Sum.inr (Sum.inr mf)))))] H := ⟨hP, hD⟩
  have hP := hPD.1
  have hD := hPD.2
  subst hr_2
  refine W.eq (g2 := F0 m 5 ls [Value.ref mo]) rfl ?_
  refine lv_astore_n (lv' := [(2, Value.ref mo), (0, Value.ref rc), (1, Value.int (nI j))]) hx hb d_RC_get_5 rfl hl (by decide) rfl (fun ls hl => ?_)
  refine lv_aload_n hx hb d_RC_get_6 rfl (lv_at hl 0 rfl) ?_
  refine lv_ifnonnull (tgt := 12) hx hb d_RC_get_7 (by decide) ?_
  refine lv_aload_n hx hb d_RC_get_12 rfl (lv_at hl 1 rfl) ?_
  refine va_get (D := (dC, dI)) (ci := 6) (v := .int frd) (C := "RangeCoders") (T := T_RC) (N := 8) hx hb hg in_RC hown hK hP 8 rfl rfl 5 (by decide) (hg _ k263) (fun _ h9 => h9) rfl d_RC_get_13 ?_
  refine lv_if_ne (tgt := 22) hx hb d_RC_get_16 (by decide) (fun c_1 => ?_) (fun c_1 => ?_)
  · refine lv_aload_n hx hb d_RC_get_22 rfl (lv_at hl 1 rfl) ?_
    refine va_get (D := (dC, dI)) (ci := 6) (v := .int fbd) (C := "RangeCoders") (T := T_RC) (N := 8) hx hb hg in_RC hown hK hP 8 rfl rfl 6 (by decide) (hg _ k264) (fun _ h9 => h9) rfl d_RC_get_23 ?_
    refine lv_if_eq (tgt := 34) hx hb d_RC_get_26 (by decide) (fun c_2 => ?_) (fun c_2 => ?_)
    · refine lv_aload_n hx hb d_RC_get_34 rfl (lv_at hl 1 rfl) ?_
      refine lv_aload_n hx hb d_RC_get_35 rfl (lv_at hl 1 rfl) ?_
      refine va_get (D := (dC, dI)) (ci := 6) (v := .ref co) (C := "RangeCoders") (T := T_RC) (N := 8) hx hb hg in_RC hown hK hP 8 rfl rfl 0 (by decide) (hg _ k258) (fun _ h9 => h9) rfl d_RC_get_36 ?_
      refine lv_aload_n hx hb d_RC_get_39 rfl (lv_at hl 0 rfl) ?_
      refine va_get (D := (dC, dI)) (ci := 8) (v := .ref oo) (C := "RangeCoders$Model") (T := T_Model) (N := 3) hx hb hg in_Model hown hK hP 3 rfl rfl 2 (by decide) (hg _ k345) (fun _ h9 => h9) rfl d_RC_get_40 ?_
      refine my_ci (wr := [(mo, Sum.inr (8, [Value.ref ka, Value.ref o2, Value.ref oo])), (ka, Sum.inl (cI, kl, Sum.inl kf)), (rc, Sum.inr (6, [Value.ref co, Value.ref ma, Value.int (nI k), Value.int fit, Value.int fen, Value.int frd, Value.int fbd, Value.int fir])), (ma, Sum.inl (cM, 8, Sum.inr (Sum.inr (Sum.inr (Sum.inr mf)))))]) (va_runU (As := [Value.ref oo]) (rest := [Value.ref rc]) ⟨hx, hb, hml, hown, hts⟩ (c_Bits_Bits_nextSign l dC dI cI cM cO H.size co xshift xkeptCode xkeptRange xkeptAsked xcache xpending xlow xrange xcode xreadLow xreadRange ri ro rw xasked rin ria rik rif oo osg osm ofc oca opa ol ocf opl opf (by first | assumption | omega) (by first | assumption | omega) (by first | assumption | omega)) (va_cwA 1 hts (my_gU k775 k777 k778 k779 k8 k780) rfl rfl rfl (hN.1 _ j776 rfl) (by decide +kernel) ⟨by rw [hR]; exact Nat.le_of_ble_eq_true rfl, by rw [hR]; exact Nat.le_of_ble_eq_true rfl⟩) (my_preV hK hN (hP.sub [0, 1, 2, 5, 6, 7] rfl) (hD.sub [0, 1, 2, 5, 6, 7] (by decide +kernel) rfl) 0 rfl rfl) rfl rfl hl.1 rfl (lv_room (Nat.le_of_ble_eq_true rfl)) d_RC_get_43 ⟨by rw [hR]; exact Nat.le_of_ble_eq_true rfl, by rw [hR]; exact Nat.le_of_ble_eq_true rfl⟩) hP hD hS hA [0, 1, 2, 5, 6, 7] [3, 4, 8, 9] rfl rfl (by decide +kernel) (by decide +kernel) (fun r_43 u9 H locs hw_43 hP hD hS => ?_)
      obtain ⟨xkeptCodeq_43, xkeptRangeq_43, xkeptAskedq_43, xcodeq_43, xreadRangeq_43, xaskedq_43, osmq_43, ocfq_43⟩ := u9
      have hPD : my_PD (dC, dI) vwCl A [(mo, Sum.inr (8, [Value.ref ka, Value.ref o2, Value.ref oo])), (ka, Sum.inl (cI, kl, Sum.inl kf)), (rc, Sum.inr (6, [Value.ref co, Value.ref ma, Value.int (nI k), Value.int fit, Value.int fen, Value.int frd, Value.int fbd, Value.int fir])), (ma, Sum.inl (cM, 8, Sum.inr (Sum.inr (Sum.inr (Sum.inr mf))))), (co, Sum.inr (3, [Value.int xshift, Value.long xkeptCodeq_43, Value.long xkeptRangeq_43, Value.int xkeptAskedq_43, Value.int xcache, Value.int xpending, Value.long xlow, Value.long xrange, Value.long xcodeq_43, Value.long xreadLow, Value.long xreadRangeq_43, Value.ref ri, Value.ref ro, Value.ref rw, Value.int xaskedq_43])), (ri, Sum.inr (0, [Value.int rin, Value.ref ria])), (ria, Sum.inl (cI, rik, Sum.inl rif)), (oo, Sum.inr (7, [Value.int osg, Value.int osmq_43, Value.int ofc, Value.ref oca, Value.ref opa])), (oca, Sum.inl (cI, ol, Sum.inl ocfq_43)), (opa, Sum.inl (cI, opl, Sum.inl opf))] H := ⟨hP, hD⟩
      have hP := hPD.1
      have hD := hPD.2
      refine my_ci (wr := [(mo, Sum.inr (8, [Value.ref ka, Value.ref o2, Value.ref oo])), (ka, Sum.inl (cI, kl, Sum.inl kf)), (ma, Sum.inl (cM, 8, Sum.inr (Sum.inr (Sum.inr (Sum.inr mf))))), (co, Sum.inr (3, [Value.int xshift, Value.long xkeptCodeq_43, Value.long xkeptRangeq_43, Value.int xkeptAskedq_43, Value.int xcache, Value.int xpending, Value.long xlow, Value.long xrange, Value.long xcodeq_43, Value.long xreadLow, Value.long xreadRangeq_43, Value.ref ri, Value.ref ro, Value.ref rw, Value.int xaskedq_43])), (ri, Sum.inr (0, [Value.int rin, Value.ref ria])), (ria, Sum.inl (cI, rik, Sum.inl rif)), (oo, Sum.inr (7, [Value.int osg, Value.int osmq_43, Value.int ofc, Value.ref oca, Value.ref opa])), (oca, Sum.inl (cI, ol, Sum.inl ocfq_43)), (opa, Sum.inl (cI, opl, Sum.inl opf))]) (va_runV (As := [Value.int r_43]) (rest := []) ⟨hx, hb, hml, hown, hts⟩ (c_RC_itemOrBad l dC dI cI cM cO H.size rc ma k fit fen frd fbd fir mf co r_43) (cwV 1 hts (my_gV k854 k856 ks17 k1 k857) rfl rfl rfl cu_RC_itemOrBad_1 ⟨by rw [hR]; exact Nat.le_of_ble_eq_true rfl, by rw [hR]; exact Nat.le_of_ble_eq_true rfl⟩) (my_preV hK hN (hP.sub [2] rfl) (hD.sub [2] (by decide +kernel) rfl) 0 rfl rfl) rfl rfl hl.1 rfl (lv_room (Nat.le_of_ble_eq_true rfl)) d_RC_get_46 ⟨by rw [hR]; exact Nat.le_of_ble_eq_true rfl, by rw [hR]; exact Nat.le_of_ble_eq_true rfl⟩) hP hD hS hA [2] [0, 1, 3, 4, 5, 6, 7, 8, 9] rfl rfl (by decide +kernel) (by decide +kernel) (fun r_46 u9 H locs hw_46 hP hD hS => ?_)
      obtain ⟨fbdq_46, firq_46⟩ := u9
      have hPD : my_PD (dC, dI) vwCl A [(mo, Sum.inr (8, [Value.ref ka, Value.ref o2, Value.ref oo])), (ka, Sum.inl (cI, kl, Sum.inl kf)), (ma, Sum.inl (cM, 8, Sum.inr (Sum.inr (Sum.inr (Sum.inr mf))))), (co, Sum.inr (3, [Value.int xshift, Value.long xkeptCodeq_43, Value.long xkeptRangeq_43, Value.int xkeptAskedq_43, Value.int xcache, Value.int xpending, Value.long xlow, Value.long xrange, Value.long xcodeq_43, Value.long xreadLow, Value.long xreadRangeq_43, Value.ref ri, Value.ref ro, Value.ref rw, Value.int xaskedq_43])), (ri, Sum.inr (0, [Value.int rin, Value.ref ria])), (ria, Sum.inl (cI, rik, Sum.inl rif)), (oo, Sum.inr (7, [Value.int osg, Value.int osmq_43, Value.int ofc, Value.ref oca, Value.ref opa])), (oca, Sum.inl (cI, ol, Sum.inl ocfq_43)), (opa, Sum.inl (cI, opl, Sum.inl opf)), (rc, Sum.inr (6, [Value.ref co, Value.ref ma, Value.int (nI k), Value.int fit, Value.int fen, Value.int frd, Value.int fbdq_46, Value.int firq_46]))] H := ⟨hP, hD⟩
      have hP := hPD.1
      have hD := hPD.2
      exact my_iret (v := r_46) hx hb hr (rfl) hlocks hQ hK hS (Nat.le_refl _) (Nat.le_refl _) (fbdq_46, firq_46, xkeptCodeq_43, xkeptRangeq_43, xkeptAskedq_43, xcodeq_43, xreadRangeq_43, xaskedq_43, osmq_43, ocfq_43) (trivial) (hP.sub [9, 2, 3, 4, 5, 0, 1, 6, 7, 8] rfl) (hD.sub [9, 2, 3, 4, 5, 0, 1, 6, 7, 8] (by decide +kernel) rfl) d_RC_get_49
    · refine lv_bipush (v := (-5)) hx hb d_RC_get_29 (by decide) ?_
      refine lv_goto (tgt := 49) hx hb d_RC_get_31 (by decide) ?_
      exact my_iret (v := (-5)) hx hb hr (rfl) hlocks hQ hK hS (Nat.le_refl _) (Nat.le_refl _) (fbd, fir, xkeptCode, xkeptRange, xkeptAsked, xcode, xreadRange, xasked, osm, ocf) (trivial) (hP.sub [8, 9, 0, 1, 2, 3, 4, 5, 6, 7] rfl) (hD.sub [8, 9, 0, 1, 2, 3, 4, 5, 6, 7] (by decide +kernel) rfl) d_RC_get_49
  · refine lv_bipush (v := (-3)) hx hb d_RC_get_19 (by decide) ?_
    exact my_iret (v := (-3)) hx hb hr (rfl) hlocks hQ hK hS (Nat.le_refl _) (Nat.le_refl _) (fbd, fir, xkeptCode, xkeptRange, xkeptAsked, xcode, xreadRange, xasked, osm, ocf) (trivial) (hP.sub [8, 9, 0, 1, 2, 3, 4, 5, 6, 7] rfl) (hD.sub [8, 9, 0, 1, 2, 3, 4, 5, 6, 7] (by decide +kernel) rfl) d_RC_get_21
set_option maxHeartbeats 2000000 in
set_option maxRecDepth 100000 in
theorem c_RC_getBits_Bits (l : Launch) (dC : Nat → ClassId) (dI : Nat → Nat → Nat) (cI cM cO : ClassId) (sz : Nat) (rc : Nat) (ma : Nat) (k : Nat) (fit : Int32) (fen : Int32) (frd : Int32) (fbd : Int32) (fir : Int32) (mf : Nat → Option Nat) (co : Nat) (xshift : Int32) (xkeptCode : Int64) (xkeptRange : Int64) (xkeptAsked : Int32) (xcache : Int32) (xpending : Int32) (xlow : Int64) (xrange : Int64) (xcode : Int64) (xreadLow : Int64) (xreadRange : Int64) (ri : Nat) (ro : Nat) (rw : Nat) (xasked : Int32) (rin : Int32) (ria : Nat) (rik : Nat) (rif : Nat → Int32) (wd : Int32) (hk8 : k ≤ 8) (hri : rOk rin rik) : MetI l y_RC_getBits (Cond.code y_RC_getBits prog_1_method_14_code 2 (some .int) :: gw) ({ frames := 5, cells := 0, slots := 0, locals := 108 } : Room) (dC, dI) vwCl (kT cI cM cO) [Value.ref rc, Value.int wd] [(rc, Sum.inr (6, [Value.ref co, Value.ref ma, Value.int (nI k), Value.int fit, Value.int fen, Value.int frd, Value.int fbd, Value.int fir])), (ma, Sum.inl (cM, 8, Sum.inr (Sum.inr (Sum.inr (Sum.inr mf))))), (co, Sum.inr (3, [Value.int xshift, Value.long xkeptCode, Value.long xkeptRange, Value.int xkeptAsked, Value.int xcache, Value.int xpending, Value.long xlow, Value.long xrange, Value.long xcode, Value.long xreadLow, Value.long xreadRange, Value.ref ri, Value.ref ro, Value.ref rw, Value.int xasked])), (ri, Sum.inr (0, [Value.int rin, Value.ref ria])), (ria, Sum.inl (cI, rik, Sum.inl rif))] sz (fun (r : Int32) (u : Int32 × Int32 × Int64 × Int64 × Int32 × Int64 × Int64 × Int32) => True) (fun (u : Int32 × Int32 × Int64 × Int64 × Int32 × Int64 × Int64 × Int32) => [(rc, Sum.inr (6, [Value.ref co, Value.ref ma, Value.int (nI k), Value.int fit, Value.int fen, Value.int frd, Value.int u.1, Value.int u.2.1])), (ma, Sum.inl (cM, 8, Sum.inr (Sum.inr (Sum.inr (Sum.inr mf))))), (co, Sum.inr (3, [Value.int xshift, Value.long u.2.2.1, Value.long u.2.2.2.1, Value.int u.2.2.2.2.1, Value.int xcache, Value.int xpending, Value.long xlow, Value.long xrange, Value.long u.2.2.2.2.2.1, Value.long xreadLow, Value.long u.2.2.2.2.2.2.1, Value.ref ri, Value.ref ro, Value.ref rw, Value.int u.2.2.2.2.2.2.2])), (ri, Sum.inr (0, [Value.int rin, Value.ref ria])), (ria, Sum.inl (cI, rik, Sum.inl rif))]) 0 0 := by
  refine my_ofI (cc := prog_1_method_14_code) (n := 2) (ret := (some .int)) (by decide) rfl (Nat.le_of_ble_eq_true rfl) ?_
  intro p e s m args below meth c R Q A ls H locs hx hb hr hts hown hlocks hml hnm hR hQ hA hl hP hK hN hD hS
  have hg : ∀ w ∈ gw, w.before args s = true := fun w h => hts w (List.mem_cons_of_mem _ h)
  have hown : s.vm.findClass "RangeCoders" = some m.cls := hown
  have hl : lv_has ls 2 [(0, Value.ref rc), (1, Value.int wd)] := hl
  have hlt_hri := rOk_lt hri
  refine lv_aload_n hx hb d_RC_getBits_0 rfl (lv_at hl 0 rfl) ?_
  refine va_get (D := (dC, dI)) (ci := 6) (v := .ref co) (C := "RangeCoders") (T := T_RC) (N := 8) hx hb hg in_RC hown hK hP 0 rfl rfl 0 (by decide) (hg _ k258) (fun _ h9 => h9) rfl d_RC_getBits_1 ?_
  refine lv_iload_n hx hb d_RC_getBits_4 rfl (lv_at hl 1 rfl) ?_
  refine my_ci (wr := [(rc, Sum.inr (6, [Value.ref co, Value.ref ma, Value.int (nI k), Value.int fit, Value.int fen, Value.int frd, Value.int fbd, Value.int fir])), (ma, Sum.inl (cM, 8, Sum.inr (Sum.inr (Sum.inr (Sum.inr mf))))), (ri, Sum.inr (0, [Value.int rin, Value.ref ria])), (ria, Sum.inl (cI, rik, Sum.inl rif))]) (va_runU (As := [Value.int wd]) (rest := []) ⟨hx, hb, hml, hown, hts⟩ (c_Bits_Coder_hasWidth l dC dI cI cM cO H.size co xshift xkeptCode xkeptRange xkeptAsked xcache xpending xlow xrange xcode xreadLow xreadRange ri ro rw xasked wd) (va_cwU 1 hts (my_gU k543 k545 k546 k544 k3 k553) rfl rfl rfl rfl (by decide +kernel) ⟨by rw [hR]; exact Nat.le_of_ble_eq_true rfl, by rw [hR]; exact Nat.le_of_ble_eq_true rfl⟩) (my_preV hK hN (hP.sub [2] rfl) (hD.sub [2] (by decide +kernel) rfl) 0 rfl rfl) rfl rfl hl.1 rfl (lv_room (Nat.le_of_ble_eq_true rfl)) d_RC_getBits_5 ⟨by rw [hR]; exact Nat.le_of_ble_eq_true rfl, by rw [hR]; exact Nat.le_of_ble_eq_true rfl⟩) hP hD hS hA [2] [0, 1, 3, 4] rfl rfl (by decide +kernel) (by decide +kernel) (fun r_5 u9 H locs hw_5 hP hD hS => ?_)
  have hPD : my_PD (dC, dI) vwCl A [(rc, Sum.inr (6, [Value.ref co, Value.ref ma, Value.int (nI k), Value.int fit, Value.int fen, Value.int frd, Value.int fbd, Value.int fir])), (ma, Sum.inl (cM, 8, Sum.inr (Sum.inr (Sum.inr (Sum.inr mf))))), (ri, Sum.inr (0, [Value.int rin, Value.ref ria])), (ria, Sum.inl (cI, rik, Sum.inl rif)), (co, Sum.inr (3, [Value.int xshift, Value.long xkeptCode, Value.long xkeptRange, Value.int xkeptAsked, Value.int xcache, Value.int xpending, Value.long xlow, Value.long xrange, Value.long xcode, Value.long xreadLow, Value.long xreadRange, Value.ref ri, Value.ref ro, Value.ref rw, Value.int xasked]))] H := ⟨hP, hD⟩
  have hP := hPD.1
  have hD := hPD.2
  refine lv_if_ne (tgt := 14) hx hb d_RC_getBits_8 (by decide) (fun c_1 => ?_) (fun c_1 => ?_)
  · refine lv_aload_n hx hb d_RC_getBits_14 rfl (lv_at hl 0 rfl) ?_
    refine va_get (D := (dC, dI)) (ci := 6) (v := .int frd) (C := "RangeCoders") (T := T_RC) (N := 8) hx hb hg in_RC hown hK hP 0 rfl rfl 5 (by decide) (hg _ k263) (fun _ h9 => h9) rfl d_RC_getBits_15 ?_
    refine lv_if_ne (tgt := 24) hx hb d_RC_getBits_18 (by decide) (fun c_2 => ?_) (fun c_2 => ?_)
    · refine lv_aload_n hx hb d_RC_getBits_24 rfl (lv_at hl 0 rfl) ?_
      refine va_get (D := (dC, dI)) (ci := 6) (v := .int fbd) (C := "RangeCoders") (T := T_RC) (N := 8) hx hb hg in_RC hown hK hP 0 rfl rfl 6 (by decide) (hg _ k264) (fun _ h9 => h9) rfl d_RC_getBits_25 ?_
      refine lv_if_eq (tgt := 36) hx hb d_RC_getBits_28 (by decide) (fun c_3 => ?_) (fun c_3 => ?_)
      · refine lv_aload_n hx hb d_RC_getBits_36 rfl (lv_at hl 0 rfl) ?_
        refine lv_aload_n hx hb d_RC_getBits_37 rfl (lv_at hl 0 rfl) ?_
        refine va_get (D := (dC, dI)) (ci := 6) (v := .ref co) (C := "RangeCoders") (T := T_RC) (N := 8) hx hb hg in_RC hown hK hP 0 rfl rfl 0 (by decide) (hg _ k258) (fun _ h9 => h9) rfl d_RC_getBits_38 ?_
        refine lv_iload_n hx hb d_RC_getBits_41 rfl (lv_at hl 1 rfl) ?_
        refine my_ci (wr := [(rc, Sum.inr (6, [Value.ref co, Value.ref ma, Value.int (nI k), Value.int fit, Value.int fen, Value.int frd, Value.int fbd, Value.int fir])), (ma, Sum.inl (cM, 8, Sum.inr (Sum.inr (Sum.inr (Sum.inr mf)))))]) (va_runU (As := [Value.int wd]) (rest := [Value.ref rc]) ⟨hx, hb, hml, hown, hts⟩ (c_Bits_Bits_nextValue l dC dI cI cM cO H.size co xshift xkeptCode xkeptRange xkeptAsked xcache xpending xlow xrange xcode xreadLow xreadRange ri ro rw xasked rin ria rik rif wd (by first | assumption | omega)) (va_cwA 1 hts (my_gU k862 k864 k865 k866 k8 k867) rfl rfl rfl (hN.1 _ j863 rfl) (by decide +kernel) ⟨by rw [hR]; exact Nat.le_of_ble_eq_true rfl, by rw [hR]; exact Nat.le_of_ble_eq_true rfl⟩) (my_preV hK hN (hP.sub [4, 2, 3] rfl) (hD.sub [4, 2, 3] (by decide +kernel) rfl) 0 rfl rfl) rfl rfl hl.1 rfl (lv_room (Nat.le_of_ble_eq_true rfl)) d_RC_getBits_42 ⟨by rw [hR]; exact Nat.le_of_ble_eq_true rfl, by rw [hR]; exact Nat.le_of_ble_eq_true rfl⟩) hP hD hS hA [4, 2, 3] [0, 1] rfl rfl (by decide +kernel) (by decide +kernel) (fun r_42 u9 H locs hw_42 hP hD hS => ?_)
        obtain ⟨xkeptCodeq_42, xkeptRangeq_42, xkeptAskedq_42, xcodeq_42, xreadRangeq_42, xaskedq_42⟩ := u9
        have hPD : my_PD (dC, dI) vwCl A [(rc, Sum.inr (6, [Value.ref co, Value.ref ma, Value.int (nI k), Value.int fit, Value.int fen, Value.int frd, Value.int fbd, Value.int fir])), (ma, Sum.inl (cM, 8, Sum.inr (Sum.inr (Sum.inr (Sum.inr mf))))), (co, Sum.inr (3, [Value.int xshift, Value.long xkeptCodeq_42, Value.long xkeptRangeq_42, Value.int xkeptAskedq_42, Value.int xcache, Value.int xpending, Value.long xlow, Value.long xrange, Value.long xcodeq_42, Value.long xreadLow, Value.long xreadRangeq_42, Value.ref ri, Value.ref ro, Value.ref rw, Value.int xaskedq_42])), (ri, Sum.inr (0, [Value.int rin, Value.ref ria])), (ria, Sum.inl (cI, rik, Sum.inl rif))] H := ⟨hP, hD⟩
        have hP := hPD.1
        have hD := hPD.2
        refine my_ci (wr := [(ma, Sum.inl (cM, 8, Sum.inr (Sum.inr (Sum.inr (Sum.inr mf))))), (co, Sum.inr (3, [Value.int xshift, Value.long xkeptCodeq_42, Value.long xkeptRangeq_42, Value.int xkeptAskedq_42, Value.int xcache, Value.int xpending, Value.long xlow, Value.long xrange, Value.long xcodeq_42, Value.long xreadLow, Value.long xreadRangeq_42, Value.ref ri, Value.ref ro, Value.ref rw, Value.int xaskedq_42])), (ri, Sum.inr (0, [Value.int rin, Value.ref ria])), (ria, Sum.inl (cI, rik, Sum.inl rif))]) (va_runV (As := [Value.int r_42]) (rest := []) ⟨hx, hb, hml, hown, hts⟩ (c_RC_itemOrBad l dC dI cI cM cO H.size rc ma k fit fen frd fbd fir mf co r_42) (cwV 1 hts (my_gV k854 k856 ks17 k1 k857) rfl rfl rfl cu_RC_itemOrBad_1 ⟨by rw [hR]; exact Nat.le_of_ble_eq_true rfl, by rw [hR]; exact Nat.le_of_ble_eq_true rfl⟩) (my_preV hK hN (hP.sub [0] rfl) (hD.sub [0] (by decide +kernel) rfl) 0 rfl rfl) rfl rfl hl.1 rfl (lv_room (Nat.le_of_ble_eq_true rfl)) d_RC_getBits_45 ⟨by rw [hR]; exact Nat.le_of_ble_eq_true rfl, by rw [hR]; exact Nat.le_of_ble_eq_true rfl⟩) hP hD hS hA [0] [1, 2, 3, 4] rfl rfl (by decide +kernel) (by decide +kernel) (fun r_45 u9 H locs hw_45 hP hD hS => ?_)
        obtain ⟨fbdq_45, firq_45⟩ := u9
        have hPD : my_PD (dC, dI) vwCl A [(ma, Sum.inl (cM, 8, Sum.inr (Sum.inr (Sum.inr (Sum.inr mf))))), (co, Sum.inr (3, [Value.int xshift, Value.long xkeptCodeq_42, Value.long xkeptRangeq_42, Value.int xkeptAskedq_42, Value.int xcache, Value.int xpending, Value.long xlow, Value.long xrange, Value.long xcodeq_42, Value.long xreadLow, Value.long xreadRangeq_42, Value.ref ri, Value.ref ro, Value.ref rw, Value.int xaskedq_42])), (ri, Sum.inr (0, [Value.int rin, Value.ref ria])), (ria, Sum.inl (cI, rik, Sum.inl rif)), (rc, Sum.inr (6, [Value.ref co, Value.ref ma, Value.int (nI k), Value.int fit, Value.int fen, Value.int frd, Value.int fbdq_45, Value.int firq_45]))] H := ⟨hP, hD⟩
        have hP := hPD.1
        have hD := hPD.2
        exact my_iret (v := r_45) hx hb hr (rfl) hlocks hQ hK hS (Nat.le_refl _) (Nat.le_refl _) (fbdq_45, firq_45, xkeptCodeq_42, xkeptRangeq_42, xkeptAskedq_42, xcodeq_42, xreadRangeq_42, xaskedq_42) (trivial) (hP.sub [4, 0, 1, 2, 3] rfl) (hD.sub [4, 0, 1, 2, 3] (by decide +kernel) rfl) d_RC_getBits_48
      · refine lv_bipush (v := (-5)) hx hb d_RC_getBits_31 (by decide) ?_
        refine lv_goto (tgt := 48) hx hb d_RC_getBits_33 (by decide) ?_
        exact my_iret (v := (-5)) hx hb hr (rfl) hlocks hQ hK hS (Nat.le_refl _) (Nat.le_refl _) (fbd, fir, xkeptCode, xkeptRange, xkeptAsked, xcode, xreadRange, xasked) (trivial) (hP.sub [0, 1, 4, 2, 3] rfl) (hD.sub [0, 1, 4, 2, 3] (by decide +kernel) rfl) d_RC_getBits_48
    · refine lv_bipush (v := (-3)) hx hb d_RC_getBits_21 (by decide) ?_
      exact my_iret (v := (-3)) hx hb hr (rfl) hlocks hQ hK hS (Nat.le_refl _) (Nat.le_refl _) (fbd, fir, xkeptCode, xkeptRange, xkeptAsked, xcode, xreadRange, xasked) (trivial) (hP.sub [0, 1, 4, 2, 3] rfl) (hD.sub [0, 1, 4, 2, 3] (by decide +kernel) rfl) d_RC_getBits_23
  · refine lv_bipush (v := (-2)) hx hb d_RC_getBits_11 (by decide) ?_
    exact my_iret (v := (-2)) hx hb hr (rfl) hlocks hQ hK hS (Nat.le_refl _) (Nat.le_refl _) (fbd, fir, xkeptCode, xkeptRange, xkeptAsked, xcode, xreadRange, xasked) (trivial) (hP.sub [0, 1, 4, 2, 3] rfl) (hD.sub [0, 1, 4, 2, 3] (by decide +kernel) rfl) d_RC_getBits_13
set_option maxHeartbeats 2000000 in
set_option maxRecDepth 100000 in
theorem c_RC_told_Bits (l : Launch) (dC : Nat → ClassId) (dI : Nat → Nat → Nat) (cI cM cO : ClassId) (sz : Nat) (rc : Nat) (ma : Nat) (k : Nat) (fit : Int32) (fen : Int32) (frd : Int32) (fbd : Int32) (fir : Int32) (mf : Nat → Option Nat) (co : Nat) (xshift : Int32) (xkeptCode : Int64) (xkeptRange : Int64) (xkeptAsked : Int32) (xcache : Int32) (xpending : Int32) (xlow : Int64) (xrange : Int64) (xcode : Int64) (xreadLow : Int64) (xreadRange : Int64) (ri : Nat) (ro : Nat) (rw : Nat) (xasked : Int32) (rin : Int32) (ria : Nat) (rik : Nat) (rif : Nat → Int32) (ron : Int32) (roa : Nat) (rok : Nat) (rof : Nat → Int32) (wh : Int32) (hk8 : k ≤ 8) (hri : rOk rin rik) (hro : rOk ron rok) : MetI l y_RC_told (Cond.code y_RC_told prog_1_method_15_code 2 (some .int) :: gw) ({ frames := 1, cells := 0, slots := 0, locals := 20 } : Room) (dC, dI) vwCl (kT cI cM cO) [Value.ref rc, Value.int wh] [(rc, Sum.inr (6, [Value.ref co, Value.ref ma, Value.int (nI k), Value.int fit, Value.int fen, Value.int frd, Value.int fbd, Value.int fir])), (ma, Sum.inl (cM, 8, Sum.inr (Sum.inr (Sum.inr (Sum.inr mf))))), (co, Sum.inr (3, [Value.int xshift, Value.long xkeptCode, Value.long xkeptRange, Value.int xkeptAsked, Value.int xcache, Value.int xpending, Value.long xlow, Value.long xrange, Value.long xcode, Value.long xreadLow, Value.long xreadRange, Value.ref ri, Value.ref ro, Value.ref rw, Value.int xasked])), (ri, Sum.inr (0, [Value.int rin, Value.ref ria])), (ria, Sum.inl (cI, rik, Sum.inl rif)), (ro, Sum.inr (0, [Value.int ron, Value.ref roa])), (roa, Sum.inl (cI, rok, Sum.inl rof))] sz (fun (r : Int32) (u : Unit) => True) (fun (u : Unit) => [(rc, Sum.inr (6, [Value.ref co, Value.ref ma, Value.int (nI k), Value.int fit, Value.int fen, Value.int frd, Value.int fbd, Value.int fir])), (ma, Sum.inl (cM, 8, Sum.inr (Sum.inr (Sum.inr (Sum.inr mf))))), (co, Sum.inr (3, [Value.int xshift, Value.long xkeptCode, Value.long xkeptRange, Value.int xkeptAsked, Value.int xcache, Value.int xpending, Value.long xlow, Value.long xrange, Value.long xcode, Value.long xreadLow, Value.long xreadRange, Value.ref ri, Value.ref ro, Value.ref rw, Value.int xasked])), (ri, Sum.inr (0, [Value.int rin, Value.ref ria])), (ria, Sum.inl (cI, rik, Sum.inl rif)), (ro, Sum.inr (0, [Value.int ron, Value.ref roa])), (roa, Sum.inl (cI, rok, Sum.inl rof))]) 0 0 := by
  refine my_ofI (cc := prog_1_method_15_code) (n := 2) (ret := (some .int)) (by decide) rfl (Nat.le_of_ble_eq_true rfl) ?_
  intro p e s m args below meth c R Q A ls H locs hx hb hr hts hown hlocks hml hnm hR hQ hA hl hP hK hN hD hS
  have hg : ∀ w ∈ gw, w.before args s = true := fun w h => hts w (List.mem_cons_of_mem _ h)
  have hown : s.vm.findClass "RangeCoders" = some m.cls := hown
  have hl : lv_has ls 2 [(0, Value.ref rc), (1, Value.int wh)] := hl
  have hlt_hri := rOk_lt hri
  have hlt_hro := rOk_lt hro
  refine lv_iload_n hx hb d_RC_told_0 rfl (lv_at hl 1 rfl) ?_
  refine lv_if_lt (tgt := 10) hx hb d_RC_told_1 (by decide) (fun c_1 => ?_) (fun c_1 => ?_)
  · refine lv_bipush (v := (-2)) hx hb d_RC_told_10 (by decide) ?_
    exact my_iret (v := (-2)) hx hb hr (rfl) hlocks hQ hK hS (Nat.le_refl _) (Nat.le_refl _) () (trivial) (hP.sub [0, 1, 2, 3, 4, 5, 6] rfl) (hD.sub [0, 1, 2, 3, 4, 5, 6] (by decide +kernel) rfl) d_RC_told_12
  · refine lv_iload_n hx hb d_RC_told_4 rfl (lv_at hl 1 rfl) ?_
    refine lv_bipush (v := 7) hx hb d_RC_told_5 (by decide) ?_
    refine lv_icmp_le (tgt := 13) hx hb d_RC_told_7 (by decide) (fun c_2 => ?_) (fun c_2 => ?_)
    · refine lv_iload_n hx hb d_RC_told_13 rfl (lv_at hl 1 rfl) ?_
      by_cases c_3 : wh = 0
      · refine lv_tableIn (tgt := 56) hx hb d_RC_told_14 (by rw [c_3]; decide) (by rw [c_3]; decide) (by rw [c_3]; rfl) (by decide) ?_
        refine lv_aload_n hx hb d_RC_told_56 rfl (lv_at hl 0 rfl) ?_
        refine va_get (D := (dC, dI)) (ci := 6) (v := .int fit) (C := "RangeCoders") (T := T_RC) (N := 8) hx hb hg in_RC hown hK hP 0 rfl rfl 3 (by decide) (hg _ k261) (fun _ h9 => h9) rfl d_RC_told_57 ?_
        exact my_iret (v := fit) hx hb hr (rfl) hlocks hQ hK hS (Nat.le_refl _) (Nat.le_refl _) () (trivial) (hP.sub [0, 1, 2, 3, 4, 5, 6] rfl) (hD.sub [0, 1, 2, 3, 4, 5, 6] (by decide +kernel) rfl) d_RC_told_60
      by_cases c_4 : wh = 1
      · refine lv_tableIn (tgt := 61) hx hb d_RC_told_14 (by rw [c_4]; decide) (by rw [c_4]; decide) (by rw [c_4]; rfl) (by decide) ?_
        refine lv_aload_n hx hb d_RC_told_61 rfl (lv_at hl 0 rfl) ?_
        refine va_get (D := (dC, dI)) (ci := 6) (v := .int fen) (C := "RangeCoders") (T := T_RC) (N := 8) hx hb hg in_RC hown hK hP 0 rfl rfl 4 (by decide) (hg _ k262) (fun _ h9 => h9) rfl d_RC_told_62 ?_
        refine lv_if_eq (tgt := 72) hx hb d_RC_told_65 (by decide) (fun c_5 => ?_) (fun c_5 => ?_)
        · refine lv_iconst (v := 0) hx hb d_RC_told_72 (by decide) ?_
          exact my_iret (v := 0) hx hb hr (rfl) hlocks hQ hK hS (Nat.le_refl _) (Nat.le_refl _) () (trivial) (hP.sub [0, 1, 2, 3, 4, 5, 6] rfl) (hD.sub [0, 1, 2, 3, 4, 5, 6] (by decide +kernel) rfl) d_RC_told_73
        · refine lv_iconst (v := 1) hx hb d_RC_told_68 (by decide) ?_
          refine lv_goto (tgt := 73) hx hb d_RC_told_69 (by decide) ?_
          exact my_iret (v := 1) hx hb hr (rfl) hlocks hQ hK hS (Nat.le_refl _) (Nat.le_refl _) () (trivial) (hP.sub [0, 1, 2, 3, 4, 5, 6] rfl) (hD.sub [0, 1, 2, 3, 4, 5, 6] (by decide +kernel) rfl) d_RC_told_73
      by_cases c_6 : wh = 2
      · refine lv_tableIn (tgt := 74) hx hb d_RC_told_14 (by rw [c_6]; decide) (by rw [c_6]; decide) (by rw [c_6]; rfl) (by decide) ?_
        refine lv_aload_n hx hb d_RC_told_74 rfl (lv_at hl 0 rfl) ?_
        refine va_get (D := (dC, dI)) (ci := 6) (v := .ref co) (C := "RangeCoders") (T := T_RC) (N := 8) hx hb hg in_RC hown hK hP 0 rfl rfl 0 (by decide) (hg _ k258) (fun _ h9 => h9) rfl d_RC_told_75 ?_
        refine va_get (D := (dC, dI)) (ci := 3) (v := .ref ro) (C := "RangeCoders$Bits") (T := T_Bits) (N := 15) hx hb hg in_Bits hown hK hP 2 rfl rfl 12 (by decide) (hg _ k108) (fun _ h9 => h9) rfl d_RC_told_78 ?_
        refine va_get (D := (dC, dI)) (ci := 0) (v := .int ron) (C := "RangeCoders$Row") (T := T_Row) (N := 2) hx hb hg in_Row hown hK hP 5 rfl rfl 0 (by decide) (hg _ k58) (fun _ h9 => h9) rfl d_RC_told_81 ?_
        exact my_iret (v := ron) hx hb hr (rfl) hlocks hQ hK hS (Nat.le_refl _) (Nat.le_refl _) () (trivial) (hP.sub [0, 1, 2, 3, 4, 5, 6] rfl) (hD.sub [0, 1, 2, 3, 4, 5, 6] (by decide +kernel) rfl) d_RC_told_84
      by_cases c_7 : wh = 3
      · refine lv_tableIn (tgt := 85) hx hb d_RC_told_14 (by rw [c_7]; decide) (by rw [c_7]; decide) (by rw [c_7]; rfl) (by decide) ?_
        refine lv_aload_n hx hb d_RC_told_85 rfl (lv_at hl 0 rfl) ?_
        refine va_get (D := (dC, dI)) (ci := 6) (v := .ref co) (C := "RangeCoders") (T := T_RC) (N := 8) hx hb hg in_RC hown hK hP 0 rfl rfl 0 (by decide) (hg _ k258) (fun _ h9 => h9) rfl d_RC_told_86 ?_
        refine va_get (D := (dC, dI)) (ci := 3) (v := .ref ri) (C := "RangeCoders$Bits") (T := T_Bits) (N := 15) hx hb hg in_Bits hown hK hP 2 rfl rfl 11 (by decide) (hg _ k102) (fun _ h9 => h9) rfl d_RC_told_89 ?_
        refine va_get (D := (dC, dI)) (ci := 0) (v := .int rin) (C := "RangeCoders$Row") (T := T_Row) (N := 2) hx hb hg in_Row hown hK hP 3 rfl rfl 0 (by decide) (hg _ k58) (fun _ h9 => h9) rfl d_RC_told_92 ?_
        exact my_iret (v := rin) hx hb hr (rfl) hlocks hQ hK hS (Nat.le_refl _) (Nat.le_refl _) () (trivial) (hP.sub [0, 1, 2, 3, 4, 5, 6] rfl) (hD.sub [0, 1, 2, 3, 4, 5, 6] (by decide +kernel) rfl) d_RC_told_95
      by_cases c_8 : wh = 4
      · refine lv_tableIn (tgt := 96) hx hb d_RC_told_14 (by rw [c_8]; decide) (by rw [c_8]; decide) (by rw [c_8]; rfl) (by decide) ?_
        refine lv_aload_n hx hb d_RC_told_96 rfl (lv_at hl 0 rfl) ?_
        refine va_get (D := (dC, dI)) (ci := 6) (v := .int fir) (C := "RangeCoders") (T := T_RC) (N := 8) hx hb hg in_RC hown hK hP 0 rfl rfl 7 (by decide) (hg _ k265) (fun _ h9 => h9) rfl d_RC_told_97 ?_
        exact my_iret (v := fir) hx hb hr (rfl) hlocks hQ hK hS (Nat.le_refl _) (Nat.le_refl _) () (trivial) (hP.sub [0, 1, 2, 3, 4, 5, 6] rfl) (hD.sub [0, 1, 2, 3, 4, 5, 6] (by decide +kernel) rfl) d_RC_told_100
      by_cases c_9 : wh = 5
      · refine lv_tableIn (tgt := 101) hx hb d_RC_told_14 (by rw [c_9]; decide) (by rw [c_9]; decide) (by rw [c_9]; rfl) (by decide) ?_
        refine lv_aload_n hx hb d_RC_told_101 rfl (lv_at hl 0 rfl) ?_
        refine va_get (D := (dC, dI)) (ci := 6) (v := .int frd) (C := "RangeCoders") (T := T_RC) (N := 8) hx hb hg in_RC hown hK hP 0 rfl rfl 5 (by decide) (hg _ k263) (fun _ h9 => h9) rfl d_RC_told_102 ?_
        refine lv_if_eq (tgt := 118) hx hb d_RC_told_105 (by decide) (fun c_10 => ?_) (fun c_10 => ?_)
        · refine lv_iconst (v := 0) hx hb d_RC_told_118 (by decide) ?_
          exact my_iret (v := 0) hx hb hr (rfl) hlocks hQ hK hS (Nat.le_refl _) (Nat.le_refl _) () (trivial) (hP.sub [0, 1, 2, 3, 4, 5, 6] rfl) (hD.sub [0, 1, 2, 3, 4, 5, 6] (by decide +kernel) rfl) d_RC_told_119
        · refine lv_aload_n hx hb d_RC_told_108 rfl (lv_at hl 0 rfl) ?_
          refine va_get (D := (dC, dI)) (ci := 6) (v := .ref co) (C := "RangeCoders") (T := T_RC) (N := 8) hx hb hg in_RC hown hK hP 0 rfl rfl 0 (by decide) (hg _ k258) (fun _ h9 => h9) rfl d_RC_told_109 ?_
          refine my_ci (wr := [(rc, Sum.inr (6, [Value.ref co, Value.ref ma, Value.int (nI k), Value.int fit, Value.int fen, Value.int frd, Value.int fbd, Value.int fir])), (ma, Sum.inl (cM, 8, Sum.inr (Sum.inr (Sum.inr (Sum.inr mf))))), (ri, Sum.inr (0, [Value.int rin, Value.ref ria])), (ria, Sum.inl (cI, rik, Sum.inl rif)), (ro, Sum.inr (0, [Value.int ron, Value.ref roa])), (roa, Sum.inl (cI, rok, Sum.inl rof))]) (va_runU (As := []) (rest := []) ⟨hx, hb, hml, hown, hts⟩ (c_Bits_Coder_bytesAsked l dC dI cI cM cO H.size co xshift xkeptCode xkeptRange xkeptAsked xcache xpending xlow xrange xcode xreadLow xreadRange ri ro rw xasked) (va_cwU 0 hts (my_gU k880 k882 k883 k881 k3 k890) rfl rfl rfl rfl (by decide +kernel) ⟨by rw [hR]; exact Nat.le_of_ble_eq_true rfl, by rw [hR]; exact Nat.le_of_ble_eq_true rfl⟩) (my_preV hK hN (hP.sub [2] rfl) (hD.sub [2] (by decide +kernel) rfl) 0 rfl rfl) rfl rfl hl.1 rfl (lv_room (Nat.le_of_ble_eq_true rfl)) d_RC_told_112 ⟨by rw [hR]; exact Nat.le_of_ble_eq_true rfl, by rw [hR]; exact Nat.le_of_ble_eq_true rfl⟩) hP hD hS hA [2] [0, 1, 3, 4, 5, 6] rfl rfl (by decide +kernel) (by decide +kernel) (fun r_112 u9 H locs hw_112 hP hD hS => ?_)
          have hPD : my_PD (dC, dI) vwCl A [(rc, Sum.inr (6, [Value.ref co, Value.ref ma, Value.int (nI k), Value.int fit, Value.int fen, Value.int frd, Value.int fbd, Value.int fir])), (ma, Sum.inl (cM, 8, Sum.inr (Sum.inr (Sum.inr (Sum.inr mf))))), (ri, Sum.inr (0, [Value.int rin, Value.ref ria])), (ria, Sum.inl (cI, rik, Sum.inl rif)), (ro, Sum.inr (0, [Value.int ron, Value.ref roa])), (roa, Sum.inl (cI, rok, Sum.inl rof)), (co, Sum.inr (3, [Value.int xshift, Value.long xkeptCode, Value.long xkeptRange, Value.int xkeptAsked, Value.int xcache, Value.int xpending, Value.long xlow, Value.long xrange, Value.long xcode, Value.long xreadLow, Value.long xreadRange, Value.ref ri, Value.ref ro, Value.ref rw, Value.int xasked]))] H := ⟨hP, hD⟩
          have hP := hPD.1
          have hD := hPD.2
          refine lv_goto (tgt := 119) hx hb d_RC_told_115 (by decide) ?_
          exact my_iret (v := r_112) hx hb hr (rfl) hlocks hQ hK hS (Nat.le_refl _) (Nat.le_refl _) () (trivial) (hP.sub [0, 1, 6, 2, 3, 4, 5] rfl) (hD.sub [0, 1, 6, 2, 3, 4, 5] (by decide +kernel) rfl) d_RC_told_119
      by_cases c_11 : wh = 6
      · refine lv_tableIn (tgt := 120) hx hb d_RC_told_14 (by rw [c_11]; decide) (by rw [c_11]; decide) (by rw [c_11]; rfl) (by decide) ?_
        refine lv_aload_n hx hb d_RC_told_120 rfl (lv_at hl 0 rfl) ?_
        refine va_get (D := (dC, dI)) (ci := 6) (v := .int fbd) (C := "RangeCoders") (T := T_RC) (N := 8) hx hb hg in_RC hown hK hP 0 rfl rfl 6 (by decide) (hg _ k264) (fun _ h9 => h9) rfl d_RC_told_121 ?_
        refine lv_if_eq (tgt := 131) hx hb d_RC_told_124 (by decide) (fun c_12 => ?_) (fun c_12 => ?_)
        · refine lv_iconst (v := 0) hx hb d_RC_told_131 (by decide) ?_
          exact my_iret (v := 0) hx hb hr (rfl) hlocks hQ hK hS (Nat.le_refl _) (Nat.le_refl _) () (trivial) (hP.sub [0, 1, 2, 3, 4, 5, 6] rfl) (hD.sub [0, 1, 2, 3, 4, 5, 6] (by decide +kernel) rfl) d_RC_told_132
        · refine lv_iconst (v := 1) hx hb d_RC_told_127 (by decide) ?_
          refine lv_goto (tgt := 132) hx hb d_RC_told_128 (by decide) ?_
          exact my_iret (v := 1) hx hb hr (rfl) hlocks hQ hK hS (Nat.le_refl _) (Nat.le_refl _) () (trivial) (hP.sub [0, 1, 2, 3, 4, 5, 6] rfl) (hD.sub [0, 1, 2, 3, 4, 5, 6] (by decide +kernel) rfl) d_RC_told_132
      refine lv_tableOut (tgt := 133) hx hb d_RC_told_14 (by have ac_3 : wh.toInt ≠ 0 := fun z => c_3 (Int32.toInt_inj.mp z); have ac_4 : wh.toInt ≠ 1 := fun z => c_4 (Int32.toInt_inj.mp z); have ac_6 : wh.toInt ≠ 2 := fun z => c_6 (Int32.toInt_inj.mp z); have ac_7 : wh.toInt ≠ 3 := fun z => c_7 (Int32.toInt_inj.mp z); have ac_8 : wh.toInt ≠ 4 := fun z => c_8 (Int32.toInt_inj.mp z); have ac_9 : wh.toInt ≠ 5 := fun z => c_9 (Int32.toInt_inj.mp z); have ac_11 : wh.toInt ≠ 6 := fun z => c_11 (Int32.toInt_inj.mp z); omega) (by decide) ?_
      refine lv_aload_n hx hb d_RC_told_133 rfl (lv_at hl 0 rfl) ?_
      refine va_get (D := (dC, dI)) (ci := 6) (v := .int frd) (C := "RangeCoders") (T := T_RC) (N := 8) hx hb hg in_RC hown hK hP 0 rfl rfl 5 (by decide) (hg _ k263) (fun _ h9 => h9) rfl d_RC_told_134 ?_
      refine lv_if_eq (tgt := 144) hx hb d_RC_told_137 (by decide) (fun c_13 => ?_) (fun c_13 => ?_)
      · refine lv_iconst (v := 0) hx hb d_RC_told_144 (by decide) ?_
        exact my_iret (v := 0) hx hb hr (rfl) hlocks hQ hK hS (Nat.le_refl _) (Nat.le_refl _) () (trivial) (hP.sub [0, 1, 2, 3, 4, 5, 6] rfl) (hD.sub [0, 1, 2, 3, 4, 5, 6] (by decide +kernel) rfl) d_RC_told_145
      · refine lv_iconst (v := 1) hx hb d_RC_told_140 (by decide) ?_
        refine lv_goto (tgt := 145) hx hb d_RC_told_141 (by decide) ?_
        exact my_iret (v := 1) hx hb hr (rfl) hlocks hQ hK hS (Nat.le_refl _) (Nat.le_refl _) () (trivial) (hP.sub [0, 1, 2, 3, 4, 5, 6] rfl) (hD.sub [0, 1, 2, 3, 4, 5, 6] (by decide +kernel) rfl) d_RC_told_145
    · refine lv_bipush (v := (-2)) hx hb d_RC_told_10 (by decide) ?_
      exact my_iret (v := (-2)) hx hb hr (rfl) hlocks hQ hK hS (Nat.le_refl _) (Nat.le_refl _) () (trivial) (hP.sub [0, 1, 2, 3, 4, 5, 6] rfl) (hD.sub [0, 1, 2, 3, 4, 5, 6] (by decide +kernel) rfl) d_RC_told_12
set_option maxHeartbeats 2000000 in
set_option maxRecDepth 100000 in
theorem c_RC_state_Bits (l : Launch) (dC : Nat → ClassId) (dI : Nat → Nat → Nat) (cI cM cO : ClassId) (sz : Nat) (rc : Nat) (ma : Nat) (k : Nat) (fit : Int32) (fen : Int32) (frd : Int32) (fbd : Int32) (fir : Int32) (mf : Nat → Option Nat) (co : Nat) (xshift : Int32) (xkeptCode : Int64) (xkeptRange : Int64) (xkeptAsked : Int32) (xcache : Int32) (xpending : Int32) (xlow : Int64) (xrange : Int64) (xcode : Int64) (xreadLow : Int64) (xreadRange : Int64) (ri : Nat) (ro : Nat) (rw : Nat) (xasked : Int32) (wh : Int32) (hk8 : k ≤ 8) : MetL l y_RC_state (Cond.code y_RC_state prog_1_method_16_code 2 (some .long) :: gw) ({ frames := 1, cells := 0, slots := 0, locals := 21 } : Room) (dC, dI) vwCl (kT cI cM cO) [Value.ref rc, Value.int wh] [(rc, Sum.inr (6, [Value.ref co, Value.ref ma, Value.int (nI k), Value.int fit, Value.int fen, Value.int frd, Value.int fbd, Value.int fir])), (ma, Sum.inl (cM, 8, Sum.inr (Sum.inr (Sum.inr (Sum.inr mf))))), (co, Sum.inr (3, [Value.int xshift, Value.long xkeptCode, Value.long xkeptRange, Value.int xkeptAsked, Value.int xcache, Value.int xpending, Value.long xlow, Value.long xrange, Value.long xcode, Value.long xreadLow, Value.long xreadRange, Value.ref ri, Value.ref ro, Value.ref rw, Value.int xasked]))] sz (fun (r : Int64) (u : Unit) => True) (fun (u : Unit) => [(rc, Sum.inr (6, [Value.ref co, Value.ref ma, Value.int (nI k), Value.int fit, Value.int fen, Value.int frd, Value.int fbd, Value.int fir])), (ma, Sum.inl (cM, 8, Sum.inr (Sum.inr (Sum.inr (Sum.inr mf))))), (co, Sum.inr (3, [Value.int xshift, Value.long xkeptCode, Value.long xkeptRange, Value.int xkeptAsked, Value.int xcache, Value.int xpending, Value.long xlow, Value.long xrange, Value.long xcode, Value.long xreadLow, Value.long xreadRange, Value.ref ri, Value.ref ro, Value.ref rw, Value.int xasked]))]) 0 0 := by
  refine my_ofL (cc := prog_1_method_16_code) (n := 2) (ret := (some .long)) (by decide) rfl (Nat.le_of_ble_eq_true rfl) ?_
  intro p e s m args below meth c R Q A ls H locs hx hb hr hts hown hlocks hml hnm hR hQ hA hl hP hK hN hD hS
  have hg : ∀ w ∈ gw, w.before args s = true := fun w h => hts w (List.mem_cons_of_mem _ h)
  have hown : s.vm.findClass "RangeCoders" = some m.cls := hown
  have hl : lv_has ls 2 [(0, Value.ref rc), (1, Value.int wh)] := hl
  refine lv_iload_n hx hb d_RC_state_0 rfl (lv_at hl 1 rfl) ?_
  refine lv_if_lt (tgt := 9) hx hb d_RC_state_1 (by decide) (fun c_1 => ?_) (fun c_1 => ?_)
  · refine lv_ldc2 (v := (-2)) hx hb hown (hg _ k895) d_RC_state_9 ?_
    exact my_lret (v := (-2)) hx hb hr hlocks hQ hK hS (Nat.le_refl _) (Nat.le_refl _) () (trivial) (hP.sub [0, 1, 2] rfl) (hD.sub [0, 1, 2] (by decide +kernel) rfl) d_RC_state_12
  · refine lv_iload_n hx hb d_RC_state_4 rfl (lv_at hl 1 rfl) ?_
    refine lv_iconst (v := 5) hx hb d_RC_state_5 (by decide) ?_
    refine lv_icmp_le (tgt := 13) hx hb d_RC_state_6 (by decide) (fun c_2 => ?_) (fun c_2 => ?_)
    · refine lv_iload_n hx hb d_RC_state_13 rfl (lv_at hl 1 rfl) ?_
      refine lv_iconst (v := 1) hx hb d_RC_state_14 (by decide) ?_
      refine lv_icmp_le (tgt := 27) hx hb d_RC_state_15 (by decide) (fun c_3 => ?_) (fun c_3 => ?_)
      · refine lv_aload_n hx hb d_RC_state_27 rfl (lv_at hl 0 rfl) ?_
        refine va_get (D := (dC, dI)) (ci := 6) (v := .ref co) (C := "RangeCoders") (T := T_RC) (N := 8) hx hb hg in_RC hown hK hP 0 rfl rfl 0 (by decide) (hg _ k258) (fun _ h9 => h9) rfl d_RC_state_28 ?_
        refine lv_iload_n hx hb d_RC_state_31 rfl (lv_at hl 1 rfl) ?_
        refine my_cl (wr := [(rc, Sum.inr (6, [Value.ref co, Value.ref ma, Value.int (nI k), Value.int fit, Value.int fen, Value.int frd, Value.int fbd, Value.int fir])), (ma, Sum.inl (cM, 8, Sum.inr (Sum.inr (Sum.inr (Sum.inr mf)))))]) (va_runU (As := [Value.int wh]) (rest := []) ⟨hx, hb, hml, hown, hts⟩ (c_Bits_Ranged_register l dC dI cI cM cO H.size co xshift xkeptCode xkeptRange xkeptAsked xcache xpending xlow xrange xcode xreadLow xreadRange ri ro rw xasked wh) (va_cwA 1 hts (my_gU k896 k898 k899 k900 k4 k901) rfl rfl rfl (hN.1 _ j897 rfl) (by decide +kernel) ⟨by rw [hR]; exact Nat.le_of_ble_eq_true rfl, by rw [hR]; exact Nat.le_of_ble_eq_true rfl⟩) (my_preV hK hN (hP.sub [2] rfl) (hD.sub [2] (by decide +kernel) rfl) 0 rfl rfl) rfl rfl hl.1 rfl (lv_room (Nat.le_of_ble_eq_true rfl)) d_RC_state_32 ⟨by rw [hR]; exact Nat.le_of_ble_eq_true rfl, by rw [hR]; exact Nat.le_of_ble_eq_true rfl⟩) hP hD hS hA [2] [0, 1] rfl rfl (by decide +kernel) (by decide +kernel) (fun r_32 u9 H locs hw_32 hP hD hS => ?_)
        have hPD : my_PD (dC, dI) vwCl A [(rc, Sum.inr (6, [Value.ref co, Value.ref ma, Value.int (nI k), Value.int fit, Value.int fen, Value.int frd, Value.int fbd, Value.int fir])), (ma, Sum.inl (cM, 8, Sum.inr (Sum.inr (Sum.inr (Sum.inr mf))))), (co, Sum.inr (3, [Value.int xshift, Value.long xkeptCode, Value.long xkeptRange, Value.int xkeptAsked, Value.int xcache, Value.int xpending, Value.long xlow, Value.long xrange, Value.long xcode, Value.long xreadLow, Value.long xreadRange, Value.ref ri, Value.ref ro, Value.ref rw, Value.int xasked]))] H := ⟨hP, hD⟩
        have hP := hPD.1
        have hD := hPD.2
        exact my_lret (v := r_32) hx hb hr hlocks hQ hK hS (Nat.le_refl _) (Nat.le_refl _) () (trivial) (hP.sub [0, 1, 2] rfl) (hD.sub [0, 1, 2] (by decide +kernel) rfl) d_RC_state_35
      · refine lv_aload_n hx hb d_RC_state_18 rfl (lv_at hl 0 rfl) ?_
        refine va_get (D := (dC, dI)) (ci := 6) (v := .int frd) (C := "RangeCoders") (T := T_RC) (N := 8) hx hb hg in_RC hown hK hP 0 rfl rfl 5 (by decide) (hg _ k263) (fun _ h9 => h9) rfl d_RC_state_19 ?_
        refine lv_if_ne (tgt := 27) hx hb d_RC_state_22 (by decide) (fun c_4 => ?_) (fun c_4 => ?_)
        · refine lv_aload_n hx hb d_RC_state_27 rfl (lv_at hl 0 rfl) ?_
          refine va_get (D := (dC, dI)) (ci := 6) (v := .ref co) (C := "RangeCoders") (T := T_RC) (N := 8) hx hb hg in_RC hown hK hP 0 rfl rfl 0 (by decide) (hg _ k258) (fun _ h9 => h9) rfl d_RC_state_28 ?_
          refine lv_iload_n hx hb d_RC_state_31 rfl (lv_at hl 1 rfl) ?_
          refine my_cl (wr := [(rc, Sum.inr (6, [Value.ref co, Value.ref ma, Value.int (nI k), Value.int fit, Value.int fen, Value.int frd, Value.int fbd, Value.int fir])), (ma, Sum.inl (cM, 8, Sum.inr (Sum.inr (Sum.inr (Sum.inr mf)))))]) (va_runU (As := [Value.int wh]) (rest := []) ⟨hx, hb, hml, hown, hts⟩ (c_Bits_Ranged_register l dC dI cI cM cO H.size co xshift xkeptCode xkeptRange xkeptAsked xcache xpending xlow xrange xcode xreadLow xreadRange ri ro rw xasked wh) (va_cwA 1 hts (my_gU k896 k898 k899 k900 k4 k901) rfl rfl rfl (hN.1 _ j897 rfl) (by decide +kernel) ⟨by rw [hR]; exact Nat.le_of_ble_eq_true rfl, by rw [hR]; exact Nat.le_of_ble_eq_true rfl⟩) (my_preV hK hN (hP.sub [2] rfl) (hD.sub [2] (by decide +kernel) rfl) 0 rfl rfl) rfl rfl hl.1 rfl (lv_room (Nat.le_of_ble_eq_true rfl)) d_RC_state_32 ⟨by rw [hR]; exact Nat.le_of_ble_eq_true rfl, by rw [hR]; exact Nat.le_of_ble_eq_true rfl⟩) hP hD hS hA [2] [0, 1] rfl rfl (by decide +kernel) (by decide +kernel) (fun r_32 u9 H locs hw_32 hP hD hS => ?_)
          have hPD : my_PD (dC, dI) vwCl A [(rc, Sum.inr (6, [Value.ref co, Value.ref ma, Value.int (nI k), Value.int fit, Value.int fen, Value.int frd, Value.int fbd, Value.int fir])), (ma, Sum.inl (cM, 8, Sum.inr (Sum.inr (Sum.inr (Sum.inr mf))))), (co, Sum.inr (3, [Value.int xshift, Value.long xkeptCode, Value.long xkeptRange, Value.int xkeptAsked, Value.int xcache, Value.int xpending, Value.long xlow, Value.long xrange, Value.long xcode, Value.long xreadLow, Value.long xreadRange, Value.ref ri, Value.ref ro, Value.ref rw, Value.int xasked]))] H := ⟨hP, hD⟩
          have hP := hPD.1
          have hD := hPD.2
          exact my_lret (v := r_32) hx hb hr hlocks hQ hK hS (Nat.le_refl _) (Nat.le_refl _) () (trivial) (hP.sub [0, 1, 2] rfl) (hD.sub [0, 1, 2] (by decide +kernel) rfl) d_RC_state_35
        · refine lv_lconst (v := 0) hx hb d_RC_state_25 (by decide) ?_
          exact my_lret (v := 0) hx hb hr hlocks hQ hK hS (Nat.le_refl _) (Nat.le_refl _) () (trivial) (hP.sub [0, 1, 2] rfl) (hD.sub [0, 1, 2] (by decide +kernel) rfl) d_RC_state_26
    · refine lv_ldc2 (v := (-2)) hx hb hown (hg _ k895) d_RC_state_9 ?_
      exact my_lret (v := (-2)) hx hb hr hlocks hQ hK hS (Nat.le_refl _) (Nat.le_refl _) () (trivial) (hP.sub [0, 1, 2] rfl) (hD.sub [0, 1, 2] (by decide +kernel) rfl) d_RC_state_12
set_option maxHeartbeats 2000000 in
set_option maxRecDepth 100000 in
theorem c_RC_modelA_Bits (l : Launch) (dC : Nat → ClassId) (dI : Nat → Nat → Nat) (cI cM cO : ClassId) (sz : Nat) (rc : Nat) (ma : Nat) (k : Nat) (fit : Int32) (fen : Int32) (frd : Int32) (fbd : Int32) (fir : Int32) (mf : Nat → Option Nat) (co : Nat) (xshift : Int32) (xkeptCode : Int64) (xkeptRange : Int64) (xkeptAsked : Int32) (xcache : Int32) (xpending : Int32) (xlow : Int64) (xrange : Int64) (xcode : Int64) (xreadLow : Int64) (xreadRange : Int64) (ri : Nat) (ro : Nat) (rw : Nat) (xasked : Int32) (nn : Int32) (hrf : nn < 2 ∨ 64 < nn) : MetI l y_RC_model (Cond.code y_RC_model prog_1_method_2_code 3 (some .int) :: gw) ({ frames := 0, cells := 0, slots := 0, locals := 0 } : Room) (dC, dI) vwCl (kT cI cM cO) [Value.ref rc, Value.int nn] [(rc, Sum.inr (6, [Value.ref co, Value.ref ma, Value.int (nI k), Value.int fit, Value.int fen, Value.int frd, Value.int fbd, Value.int fir])), (ma, Sum.inl (cM, 8, Sum.inr (Sum.inr (Sum.inr (Sum.inr mf))))), (co, Sum.inr (3, [Value.int xshift, Value.long xkeptCode, Value.long xkeptRange, Value.int xkeptAsked, Value.int xcache, Value.int xpending, Value.long xlow, Value.long xrange, Value.long xcode, Value.long xreadLow, Value.long xreadRange, Value.ref ri, Value.ref ro, Value.ref rw, Value.int xasked]))] sz (fun (r : Int32) (u : Unit) => r = -2) (fun (u : Unit) => [(rc, Sum.inr (6, [Value.ref co, Value.ref ma, Value.int (nI k), Value.int fit, Value.int fen, Value.int frd, Value.int fbd, Value.int fir])), (ma, Sum.inl (cM, 8, Sum.inr (Sum.inr (Sum.inr (Sum.inr mf))))), (co, Sum.inr (3, [Value.int xshift, Value.long xkeptCode, Value.long xkeptRange, Value.int xkeptAsked, Value.int xcache, Value.int xpending, Value.long xlow, Value.long xrange, Value.long xcode, Value.long xreadLow, Value.long xreadRange, Value.ref ri, Value.ref ro, Value.ref rw, Value.int xasked]))]) 0 0 := by
  refine my_ofI (cc := prog_1_method_2_code) (n := 3) (ret := (some .int)) (by decide) rfl (Nat.le_of_ble_eq_true rfl) ?_
  intro p e s m args below meth c R Q A ls H locs hx hb hr hts hown hlocks hml hnm hR hQ hA hl hP hK hN hD hS
  have hg : ∀ w ∈ gw, w.before args s = true := fun w h => hts w (List.mem_cons_of_mem _ h)
  have hown : s.vm.findClass "RangeCoders" = some m.cls := hown
  have hl : lv_has ls 3 [(0, Value.ref rc), (1, Value.int nn)] := hl
  refine lv_iload_n hx hb d_RC_model_0 rfl (lv_at hl 1 rfl) ?_
  refine lv_iconst (v := 2) hx hb d_RC_model_1 (by decide) ?_
  refine lv_icmp_lt (tgt := 11) hx hb d_RC_model_2 (by decide) (fun c_1 => ?_) (fun c_1 => ?_)
  · refine lv_bipush (v := (-2)) hx hb d_RC_model_11 (by decide) ?_
    exact my_iret (v := (-2)) hx hb hr (rfl) hlocks hQ hK hS (Nat.le_refl _) (Nat.le_refl _) () (rfl) (hP.sub [0, 1, 2] rfl) (hD.sub [0, 1, 2] (by decide +kernel) rfl) d_RC_model_13
  · refine lv_iload_n hx hb d_RC_model_5 rfl (lv_at hl 1 rfl) ?_
    refine lv_bipush (v := 64) hx hb d_RC_model_6 (by decide) ?_
    refine lv_icmp_le (tgt := 14) hx hb d_RC_model_8 (by decide) (fun c_2 => ?_) (fun c_2 => ?_)
    · exact absurd hrf (fun h9 => h9.elim c_1 (fun h8 => absurd c_2 (Int32.not_le.mpr h8)))
    · refine lv_bipush (v := (-2)) hx hb d_RC_model_11 (by decide) ?_
      exact my_iret (v := (-2)) hx hb hr (rfl) hlocks hQ hK hS (Nat.le_refl _) (Nat.le_refl _) () (rfl) (hP.sub [0, 1, 2] rfl) (hD.sub [0, 1, 2] (by decide +kernel) rfl) d_RC_model_13
set_option maxHeartbeats 2000000 in
set_option maxRecDepth 100000 in
theorem c_RC_modelF_Bits (l : Launch) (dC : Nat → ClassId) (dI : Nat → Nat → Nat) (cI cM cO : ClassId) (sz : Nat) (rc : Nat) (ma : Nat) (k : Nat) (fit : Int32) (fen : Int32) (frd : Int32) (fbd : Int32) (fir : Int32) (mf : Nat → Option Nat) (co : Nat) (xshift : Int32) (xkeptCode : Int64) (xkeptRange : Int64) (xkeptAsked : Int32) (xcache : Int32) (xpending : Int32) (xlow : Int64) (xrange : Int64) (xcode : Int64) (xreadLow : Int64) (xreadRange : Int64) (ri : Nat) (ro : Nat) (rw : Nat) (xasked : Int32) (ns : Nat) (hns2 : 2 ≤ ns) (hns : ns ≤ 64) (hk : k = 8) : MetI l y_RC_model (Cond.code y_RC_model prog_1_method_2_code 3 (some .int) :: gw) ({ frames := 0, cells := 0, slots := 0, locals := 0 } : Room) (dC, dI) vwCl (kT cI cM cO) [Value.ref rc, Value.int (nI ns)] [(rc, Sum.inr (6, [Value.ref co, Value.ref ma, Value.int (nI k), Value.int fit, Value.int fen, Value.int frd, Value.int fbd, Value.int fir])), (ma, Sum.inl (cM, 8, Sum.inr (Sum.inr (Sum.inr (Sum.inr mf))))), (co, Sum.inr (3, [Value.int xshift, Value.long xkeptCode, Value.long xkeptRange, Value.int xkeptAsked, Value.int xcache, Value.int xpending, Value.long xlow, Value.long xrange, Value.long xcode, Value.long xreadLow, Value.long xreadRange, Value.ref ri, Value.ref ro, Value.ref rw, Value.int xasked]))] sz (fun (r : Int32) (u : Unit) => r = -4) (fun (u : Unit) => [(rc, Sum.inr (6, [Value.ref co, Value.ref ma, Value.int (nI k), Value.int fit, Value.int fen, Value.int frd, Value.int fbd, Value.int fir])), (ma, Sum.inl (cM, 8, Sum.inr (Sum.inr (Sum.inr (Sum.inr mf))))), (co, Sum.inr (3, [Value.int xshift, Value.long xkeptCode, Value.long xkeptRange, Value.int xkeptAsked, Value.int xcache, Value.int xpending, Value.long xlow, Value.long xrange, Value.long xcode, Value.long xreadLow, Value.long xreadRange, Value.ref ri, Value.ref ro, Value.ref rw, Value.int xasked]))]) 0 0 := by
  refine my_ofI (cc := prog_1_method_2_code) (n := 3) (ret := (some .int)) (by decide) rfl (Nat.le_of_ble_eq_true rfl) ?_
  intro p e s m args below meth c R Q A ls H locs hx hb hr hts hown hlocks hml hnm hR hQ hA hl hP hK hN hD hS
  have hg : ∀ w ∈ gw, w.before args s = true := fun w h => hts w (List.mem_cons_of_mem _ h)
  have hown : s.vm.findClass "RangeCoders" = some m.cls := hown
  have hl : lv_has ls 3 [(0, Value.ref rc), (1, Value.int (nI ns))] := hl
  refine lv_iload_n hx hb d_RC_model_0 rfl (lv_at hl 1 rfl) ?_
  refine lv_iconst (v := 2) hx hb d_RC_model_1 (by decide) ?_
  refine lv_icmp_lt (tgt := 11) hx hb d_RC_model_2 (by decide) (fun c_1 => ?_) (fun c_1 => ?_)
  · exact absurd c_1 (show ¬ nI ns < nI 2 from nI_nlt hns2 (by omega))
  · refine lv_iload_n hx hb d_RC_model_5 rfl (lv_at hl 1 rfl) ?_
    refine lv_bipush (v := 64) hx hb d_RC_model_6 (by decide) ?_
    refine lv_icmp_le (tgt := 14) hx hb d_RC_model_8 (by decide) (fun c_2 => ?_) (fun c_2 => ?_)
    · refine lv_aload_n hx hb d_RC_model_14 rfl (lv_at hl 0 rfl) ?_
      refine va_get (D := (dC, dI)) (ci := 6) (v := .int (nI k)) (C := "RangeCoders") (T := T_RC) (N := 8) hx hb hg in_RC hown hK hP 0 rfl rfl 2 (by decide) (hg _ k260) (fun _ h9 => h9) rfl d_RC_model_15 ?_
      refine lv_bipush (v := 8) hx hb d_RC_model_18 (by decide) ?_
      refine lv_icmp_lt (tgt := 26) hx hb d_RC_model_20 (by decide) (fun c_3 => ?_) (fun c_3 => ?_)
      · exact absurd c_3 (show ¬ nI k < nI 8 from nI_nlt (by omega) (by omega))
      · refine lv_bipush (v := (-4)) hx hb d_RC_model_23 (by decide) ?_
        exact my_iret (v := (-4)) hx hb hr (rfl) hlocks hQ hK hS (Nat.le_refl _) (Nat.le_refl _) () (rfl) (hP.sub [0, 1, 2] rfl) (hD.sub [0, 1, 2] (by decide +kernel) rfl) d_RC_model_25
    · exact absurd (show nI ns ≤ nI 64 from nI_le hns (by omega)) c_2
end
section
set_option maxHeartbeats 2000000 in
set_option maxRecDepth 100000 in
theorem c_RC_getA_Carries (l : Launch) (dC : Nat → ClassId) (dI : Nat → Nat → Nat) (cI cM cO : ClassId) (sz : Nat) (rc : Nat) (ma : Nat) (k : Nat) (fit : Int32) (fen : Int32) (frd : Int32) (fbd : Int32) (fir : Int32) (mf : Nat → Option Nat) (co : Nat) (xcache : Int32) (xpending : Int32) (xlow : Int64) (xrange : Int64) (xcode : Int64) (xreadLow : Int64) (xreadRange : Int64) (ri : Nat) (ro : Nat) (rw : Nat) (xasked : Int32) (mm : Int32) (hk8 : k ≤ 8) (hbad : mm < 0 ∨ nI k ≤ mm) : MetI l y_RC_get (Cond.code y_RC_get prog_1_method_13_code 3 (some .int) :: gw) ({ frames := 1, cells := 0, slots := 0, locals := 21 } : Room) (dC, dI) vwCl (kT cI cM cO) [Value.ref rc, Value.int mm] [(rc, Sum.inr (6, [Value.ref co, Value.ref ma, Value.int (nI k), Value.int fit, Value.int fen, Value.int frd, Value.int fbd, Value.int fir])), (ma, Sum.inl (cM, 8, Sum.inr (Sum.inr (Sum.inr (Sum.inr mf))))), (co, Sum.inr (1, [Value.int xcache, Value.int xpending, Value.long xlow, Value.long xrange, Value.long xcode, Value.long xreadLow, Value.long xreadRange, Value.ref ri, Value.ref ro, Value.ref rw, Value.int xasked]))] sz (fun (r : Int32) (u : Unit) => True) (fun (u : Unit) => [(rc, Sum.inr (6, [Value.ref co, Value.ref ma, Value.int (nI k), Value.int fit, Value.int fen, Value.int frd, Value.int fbd, Value.int fir])), (ma, Sum.inl (cM, 8, Sum.inr (Sum.inr (Sum.inr (Sum.inr mf))))), (co, Sum.inr (1, [Value.int xcache, Value.int xpending, Value.long xlow, Value.long xrange, Value.long xcode, Value.long xreadLow, Value.long xreadRange, Value.ref ri, Value.ref ro, Value.ref rw, Value.int xasked]))]) 0 0 := by
  refine my_ofI (cc := prog_1_method_13_code) (n := 3) (ret := (some .int)) (by decide) rfl (Nat.le_of_ble_eq_true rfl) ?_
  intro p e s m args below meth c R Q A ls H locs hx hb hr hts hown hlocks hml hnm hR hQ hA hl hP hK hN hD hS
  have hg : ∀ w ∈ gw, w.before args s = true := fun w h => hts w (List.mem_cons_of_mem _ h)
  have hown : s.vm.findClass "RangeCoders" = some m.cls := hown
  have hl : lv_has ls 3 [(0, Value.ref rc), (1, Value.int mm)] := hl
  refine lv_aload_n hx hb d_RC_get_0 rfl (lv_at hl 0 rfl) ?_
  refine lv_iload_n hx hb d_RC_get_1 rfl (lv_at hl 1 rfl) ?_
  refine my_cq (wr := [(co, Sum.inr (1, [Value.int xcache, Value.int xpending, Value.long xlow, Value.long xrange, Value.long xcode, Value.long xreadLow, Value.long xreadRange, Value.ref ri, Value.ref ro, Value.ref rw, Value.int xasked]))]) (va_runV (As := [Value.int mm]) (rest := []) ⟨hx, hb, hml, hown, hts⟩ (c_RC_modelAtA l dC dI cI cM cO H.size rc ma k fit fen frd fbd fir mf co mm (by first | assumption | omega)) (cwV 1 hts (my_gV k412 k414 ks3 k1 k415) rfl rfl rfl cu_RC_modelAt_1 ⟨by rw [hR]; exact Nat.le_of_ble_eq_true rfl, by rw [hR]; exact Nat.le_of_ble_eq_true rfl⟩) (my_preV hK hN (hP.sub [0, 1] rfl) (hD.sub [0, 1] (by decide +kernel) rfl) 0 rfl rfl) rfl rfl hl.1 rfl (lv_room (Nat.le_of_ble_eq_true rfl)) d_RC_get_2 ⟨by rw [hR]; exact Nat.le_of_ble_eq_true rfl, by rw [hR]; exact Nat.le_of_ble_eq_true rfl⟩) hP hD hS hA [0, 1] [2] rfl rfl (by decide +kernel) (by decide +kernel) (fun r_2 u9 H locs hw_2 hP hD hS => ?_)
  have hr_2 : r_2 = none := hw_2
  have hPD : my_PD (dC, dI) vwCl A [(co, Sum.inr (1, [Value.int xcache, Value.int xpending, Value.long xlow, Value.long xrange, Value.long xcode, Value.long xreadLow, Value.long xreadRange, Value.ref ri, Value.ref ro, Value.ref rw, Value.int xasked])), (rc, Sum.inr (6, [Value.ref co, Value.ref ma, Value.int (nI k), Value.int fit, Value.int fen, Value.int frd, Value.int fbd, Value.int fir])), (ma, Sum.inl (cM, 8, Sum.inr (Sum.inr (Sum.inr (Sum.inr mf)))))] H := ⟨hP, hD⟩
  have hP := hPD.1
  have hD := hPD.2
  subst hr_2
  refine W.eq (g2 := F0 m 5 ls [Value.null]) rfl ?_
  refine lv_astore_nN (lv' := [(2, Value.null), (0, Value.ref rc), (1, Value.int mm)]) hx hb d_RC_get_5 rfl hl (by decide) rfl (fun ls hl => ?_)
  refine lv_aload_nN hx hb d_RC_get_6 rfl (lv_at hl 0 rfl) ?_
  refine lv_ifnonnullN hx hb d_RC_get_7 ?_
  refine lv_iconst (v := (-1)) hx hb d_RC_get_10 (by decide) ?_
  exact my_iret (v := (-1)) hx hb hr (rfl) hlocks hQ hK hS (Nat.le_refl _) (Nat.le_refl _) () (trivial) (hP.sub [1, 2, 0] rfl) (hD.sub [1, 2, 0] (by decide +kernel) rfl) d_RC_get_11
set_option maxHeartbeats 2000000 in
set_option maxRecDepth 100000 in
theorem c_RC_getB_Carries (l : Launch) (dC : Nat → ClassId) (dI : Nat → Nat → Nat) (cI cM cO : ClassId) (sz : Nat) (rc : Nat) (ma : Nat) (k : Nat) (fit : Int32) (fen : Int32) (frd : Int32) (fbd : Int32) (fir : Int32) (mf : Nat → Option Nat) (co : Nat) (xcache : Int32) (xpending : Int32) (xlow : Int64) (xrange : Int64) (xcode : Int64) (xreadLow : Int64) (xreadRange : Int64) (ri : Nat) (ro : Nat) (rw : Nat) (xasked : Int32) (rin : Int32) (ria : Nat) (rik : Nat) (rif : Nat → Int32) (j : Nat) (mo : Nat) (o2 : Nat) (oo : Nat) (osg : Int32) (osm : Int32) (ofc : Int32) (oca : Nat) (opa : Nat) (ol : Nat) (ocf : Nat → Int32) (opl : Nat) (opf : Nat → Int32) (ka : Nat) (kl : Nat) (kf : Nat → Int32) (hk8 : k ≤ 8) (hri : rOk rin rik) (hj : j < k) (hmf : mf j = some mo) (hol : ol ≤ 64) (hopl : opl ≤ 512) (hol0 : 1 ≤ ol) (hkl : kl ≤ 64) : MetI l y_RC_get (Cond.code y_RC_get prog_1_method_13_code 3 (some .int) :: gw) ({ frames := 6, cells := 0, slots := 0, locals := 132 } : Room) (dC, dI) vwCl (kT cI cM cO) [Value.ref rc, Value.int (nI j)] [(rc, Sum.inr (6, [Value.ref co, Value.ref ma, Value.int (nI k), Value.int fit, Value.int fen, Value.int frd, Value.int fbd, Value.int fir])), (ma, Sum.inl (cM, 8, Sum.inr (Sum.inr (Sum.inr (Sum.inr mf))))), (co, Sum.inr (1, [Value.int xcache, Value.int xpending, Value.long xlow, Value.long xrange, Value.long xcode, Value.long xreadLow, Value.long xreadRange, Value.ref ri, Value.ref ro, Value.ref rw, Value.int xasked])), (ri, Sum.inr (0, [Value.int rin, Value.ref ria])), (ria, Sum.inl (cI, rik, Sum.inl rif)), (mo, Sum.inr (8, [Value.ref ka, Value.ref o2, Value.ref oo])), (ka, Sum.inl (cI, kl, Sum.inl kf)), (oo, Sum.inr (7, [Value.int osg, Value.int osm, Value.int ofc, Value.ref oca, Value.ref opa])), (oca, Sum.inl (cI, ol, Sum.inl ocf)), (opa, Sum.inl (cI, opl, Sum.inl opf))] sz (fun (r : Int32) (u : Int32 × Int32 × Int64 × Int64 × Int32 × Int32 × (Nat → Int32)) => True) (fun (u : Int32 × Int32 × Int64 × Int64 × Int32 × Int32 × (Nat → Int32)) => [(rc, Sum.inr (6, [Value.ref co, Value.ref ma, Value.int (nI k), Value.int fit, Value.int fen, Value.int frd, Value.int u.1, Value.int u.2.1])), (ma, Sum.inl (cM, 8, Sum.inr (Sum.inr (Sum.inr (Sum.inr mf))))), (co, Sum.inr (1, [Value.int xcache, Value.int xpending, Value.long xlow, Value.long xrange, Value.long u.2.2.1, Value.long xreadLow, Value.long u.2.2.2.1, Value.ref ri, Value.ref ro, Value.ref rw, Value.int u.2.2.2.2.1])), (ri, Sum.inr (0, [Value.int rin, Value.ref ria])), (ria, Sum.inl (cI, rik, Sum.inl rif)), (mo, Sum.inr (8, [Value.ref ka, Value.ref o2, Value.ref oo])), (ka, Sum.inl (cI, kl, Sum.inl kf)), (oo, Sum.inr (7, [Value.int osg, Value.int u.2.2.2.2.2.1, Value.int ofc, Value.ref oca, Value.ref opa])), (oca, Sum.inl (cI, ol, Sum.inl u.2.2.2.2.2.2)), (opa, Sum.inl (cI, opl, Sum.inl opf))]) 0 0 := by
  refine my_ofI (cc := prog_1_method_13_code) (n := 3) (ret := (some .int)) (by decide) rfl (Nat.le_of_ble_eq_true rfl) ?_
  intro p e s m args below meth c R Q A ls H locs hx hb hr hts hown hlocks hml hnm hR hQ hA hl hP hK hN hD hS
  have hg : ∀ w ∈ gw, w.before args s = true := fun w h => hts w (List.mem_cons_of_mem _ h)
  have hown : s.vm.findClass "RangeCoders" = some m.cls := hown
  have hl : lv_has ls 3 [(0, Value.ref rc), (1, Value.int (nI j))] := hl
  have hlt_hri := rOk_lt hri
  refine lv_aload_n hx hb d_RC_get_0 rfl (lv_at hl 0 rfl) ?_
  refine lv_iload_n hx hb d_RC_get_1 rfl (lv_at hl 1 rfl) ?_
  refine my_cq (wr := [(co, Sum.inr (1, [Value.int xcache, Value.int xpending, Value.long xlow, Value.long xrange, Value.long xcode, Value.long xreadLow, Value.long xreadRange, Value.ref ri, Value.ref ro, Value.ref rw, Value.int xasked])), (ri, Sum.inr (0, [Value.int rin, Value.ref ria])), (ria, Sum.inl (cI, rik, Sum.inl rif)), (mo, Sum.inr (8, [Value.ref ka, Value.ref o2, Value.ref oo])), (ka, Sum.inl (cI, kl, Sum.inl kf)), (oo, Sum.inr (7, [Value.int osg, Value.int osm, Value.int ofc, Value.ref oca, Value.ref opa])), (oca, Sum.inl (cI, ol, Sum.inl ocf)), (opa, Sum.inl (cI, opl, Sum.inl opf))]) (va_runV (As := [Value.int (nI j)]) (rest := []) ⟨hx, hb, hml, hown, hts⟩ (c_RC_modelAtB l dC dI cI cM cO H.size rc ma k fit fen frd fbd fir mf co j mo (by first | assumption | omega) (by first | assumption | omega) (by first | assumption | omega)) (cwV 1 hts (my_gV k412 k414 ks3 k1 k415) rfl rfl rfl cu_RC_modelAt_1 ⟨by rw [hR]; exact Nat.le_of_ble_eq_true rfl, by rw [hR]; exact Nat.le_of_ble_eq_true rfl⟩) (my_preV hK hN (hP.sub [0, 1] rfl) (hD.sub [0, 1] (by decide +kernel) rfl) 0 rfl rfl) rfl rfl hl.1 rfl (lv_room (Nat.le_of_ble_eq_true rfl)) d_RC_get_2 ⟨by rw [hR]; exact Nat.le_of_ble_eq_true rfl, by rw [hR]; exact Nat.le_of_ble_eq_true rfl⟩) hP hD hS hA [0, 1] [2, 3, 4, 5, 6, 7, 8, 9] rfl rfl (by decide +kernel) (by decide +kernel) (fun r_2 u9 H locs hw_2 hP hD hS => ?_)
  have hr_2 : r_2 = some mo := hw_2
  have hPD : my_PD (dC, dI) vwCl A [(co, Sum.inr (1, [Value.int xcache, Value.int xpending, Value.long xlow, Value.long xrange, Value.long xcode, Value.long xreadLow, Value.long xreadRange, Value.ref ri, Value.ref ro, Value.ref rw, Value.int xasked])), (ri, Sum.inr (0, [Value.int rin, Value.ref ria])), (ria, Sum.inl (cI, rik, Sum.inl rif)), (mo, Sum.inr (8, [Value.ref ka, Value.ref o2, Value.ref oo])), (ka, Sum.inl (cI, kl, Sum.inl kf)), (oo, Sum.inr (7, [Value.int osg, Value.int osm, Value.int ofc, Value.ref oca, Value.ref opa])), (oca, Sum.inl (cI, ol, Sum.inl ocf)), (opa, Sum.inl (cI, opl, Sum.inl opf)), (rc, Sum.inr (6, [Value.ref co, Value.ref ma, Value.int (nI k), Value.int fit, Value.int fen, Value.int frd, Value.int fbd, Value.int fir])), (ma, Sum.inl (cM, 8, Sum.inr (Sum.inr (Sum.inr (Sum.inr mf)))))] H := ⟨hP, hD⟩
  have hP := hPD.1
  have hD := hPD.2
  subst hr_2
  refine W.eq (g2 := F0 m 5 ls [Value.ref mo]) rfl ?_
  refine lv_astore_n (lv' := [(2, Value.ref mo), (0, Value.ref rc), (1, Value.int (nI j))]) hx hb d_RC_get_5 rfl hl (by decide) rfl (fun ls hl => ?_)
  refine lv_aload_n hx hb d_RC_get_6 rfl (lv_at hl 0 rfl) ?_
  refine lv_ifnonnull (tgt := 12) hx hb d_RC_get_7 (by decide) ?_
  refine lv_aload_n hx hb d_RC_get_12 rfl (lv_at hl 1 rfl) ?_
  refine va_get (D := (dC, dI)) (ci := 6) (v := .int frd) (C := "RangeCoders") (T := T_RC) (N := 8) hx hb hg in_RC hown hK hP 8 rfl rfl 5 (by decide) (hg _ k263) (fun _ h9 => h9) rfl d_RC_get_13 ?_
  refine lv_if_ne (tgt := 22) hx hb d_RC_get_16 (by decide) (fun c_1 => ?_) (fun c_1 => ?_)
  · refine lv_aload_n hx hb d_RC_get_22 rfl (lv_at hl 1 rfl) ?_
    refine va_get (D := (dC, dI)) (ci := 6) (v := .int fbd) (C := "RangeCoders") (T := T_RC) (N := 8) hx hb hg in_RC hown hK hP 8 rfl rfl 6 (by decide) (hg _ k264) (fun _ h9 => h9) rfl d_RC_get_23 ?_
    refine lv_if_eq (tgt := 34) hx hb d_RC_get_26 (by decide) (fun c_2 => ?_) (fun c_2 => ?_)
    · refine lv_aload_n hx hb d_RC_get_34 rfl (lv_at hl 1 rfl) ?_
      refine lv_aload_n hx hb d_RC_get_35 rfl (lv_at hl 1 rfl) ?_
      refine va_get (D := (dC, dI)) (ci := 6) (v := .ref co) (C := "RangeCoders") (T := T_RC) (N := 8) hx hb hg in_RC hown hK hP 8 rfl rfl 0 (by decide) (hg _ k258) (fun _ h9 => h9) rfl d_RC_get_36 ?_
      refine lv_aload_n hx hb d_RC_get_39 rfl (lv_at hl 0 rfl) ?_
      refine va_get (D := (dC, dI)) (ci := 8) (v := .ref oo) (C := "RangeCoders$Model") (T := T_Model) (N := 3) hx hb hg in_Model hown hK hP 3 rfl rfl 2 (by decide) (hg _ k345) (fun _ h9 => h9) rfl d_RC_get_40 ?_
      refine my_ci (wr := [(mo, Sum.inr (8, [Value.ref ka, Value.ref o2, Value.ref oo])), (ka, Sum.inl (cI, kl, Sum.inl kf)), (rc, Sum.inr (6, [Value.ref co, Value.ref ma, Value.int (nI k), Value.int fit, Value.int fen, Value.int frd, Value.int fbd, Value.int fir])), (ma, Sum.inl (cM, 8, Sum.inr (Sum.inr (Sum.inr (Sum.inr mf)))))]) (va_runU (As := [Value.ref oo]) (rest := [Value.ref rc]) ⟨hx, hb, hml, hown, hts⟩ (c_Carries_Ranged_nextSign l dC dI cI cM cO H.size co xcache xpending xlow xrange xcode xreadLow xreadRange ri ro rw xasked rin ria rik rif oo osg osm ofc oca opa ol ocf opl opf (by first | assumption | omega) (by first | assumption | omega) (by first | assumption | omega)) (va_cwA 1 hts (my_gU k775 k777 k804 k805 k4 k806) rfl rfl rfl (hN.1 _ j776 rfl) (by decide +kernel) ⟨by rw [hR]; exact Nat.le_of_ble_eq_true rfl, by rw [hR]; exact Nat.le_of_ble_eq_true rfl⟩) (my_preV hK hN (hP.sub [0, 1, 2, 5, 6, 7] rfl) (hD.sub [0, 1, 2, 5, 6, 7] (by decide +kernel) rfl) 0 rfl rfl) rfl rfl hl.1 rfl (lv_room (Nat.le_of_ble_eq_true rfl)) d_RC_get_43 ⟨by rw [hR]; exact Nat.le_of_ble_eq_true rfl, by rw [hR]; exact Nat.le_of_ble_eq_true rfl⟩) hP hD hS hA [0, 1, 2, 5, 6, 7] [3, 4, 8, 9] rfl rfl (by decide +kernel) (by decide +kernel) (fun r_43 u9 H locs hw_43 hP hD hS => ?_)
      obtain ⟨xcodeq_43, xreadRangeq_43, xaskedq_43, osmq_43, ocfq_43⟩ := u9
      have hPD : my_PD (dC, dI) vwCl A [(mo, Sum.inr (8, [Value.ref ka, Value.ref o2, Value.ref oo])), (ka, Sum.inl (cI, kl, Sum.inl kf)), (rc, Sum.inr (6, [Value.ref co, Value.ref ma, Value.int (nI k), Value.int fit, Value.int fen, Value.int frd, Value.int fbd, Value.int fir])), (ma, Sum.inl (cM, 8, Sum.inr (Sum.inr (Sum.inr (Sum.inr mf))))), (co, Sum.inr (1, [Value.int xcache, Value.int xpending, Value.long xlow, Value.long xrange, Value.long xcodeq_43, Value.long xreadLow, Value.long xreadRangeq_43, Value.ref ri, Value.ref ro, Value.ref rw, Value.int xaskedq_43])), (ri, Sum.inr (0, [Value.int rin, Value.ref ria])), (ria, Sum.inl (cI, rik, Sum.inl rif)), (oo, Sum.inr (7, [Value.int osg, Value.int osmq_43, Value.int ofc, Value.ref oca, Value.ref opa])), (oca, Sum.inl (cI, ol, Sum.inl ocfq_43)), (opa, Sum.inl (cI, opl, Sum.inl opf))] H := ⟨hP, hD⟩
      have hP := hPD.1
      have hD := hPD.2
      refine my_ci (wr := [(mo, Sum.inr (8, [Value.ref ka, Value.ref o2, Value.ref oo])), (ka, Sum.inl (cI, kl, Sum.inl kf)), (ma, Sum.inl (cM, 8, Sum.inr (Sum.inr (Sum.inr (Sum.inr mf))))), (co, Sum.inr (1, [Value.int xcache, Value.int xpending, Value.long xlow, Value.long xrange, Value.long xcodeq_43, Value.long xreadLow, Value.long xreadRangeq_43, Value.ref ri, Value.ref ro, Value.ref rw, Value.int xaskedq_43])), (ri, Sum.inr (0, [Value.int rin, Value.ref ria])), (ria, Sum.inl (cI, rik, Sum.inl rif)), (oo, Sum.inr (7, [Value.int osg, Value.int osmq_43, Value.int ofc, Value.ref oca, Value.ref opa])), (oca, Sum.inl (cI, ol, Sum.inl ocfq_43)), (opa, Sum.inl (cI, opl, Sum.inl opf))]) (va_runV (As := [Value.int r_43]) (rest := []) ⟨hx, hb, hml, hown, hts⟩ (c_RC_itemOrBad l dC dI cI cM cO H.size rc ma k fit fen frd fbd fir mf co r_43) (cwV 1 hts (my_gV k854 k856 ks17 k1 k857) rfl rfl rfl cu_RC_itemOrBad_1 ⟨by rw [hR]; exact Nat.le_of_ble_eq_true rfl, by rw [hR]; exact Nat.le_of_ble_eq_true rfl⟩) (my_preV hK hN (hP.sub [2] rfl) (hD.sub [2] (by decide +kernel) rfl) 0 rfl rfl) rfl rfl hl.1 rfl (lv_room (Nat.le_of_ble_eq_true rfl)) d_RC_get_46 ⟨by rw [hR]; exact Nat.le_of_ble_eq_true rfl, by rw [hR]; exact Nat.le_of_ble_eq_true rfl⟩) hP hD hS hA [2] [0, 1, 3, 4, 5, 6, 7, 8, 9] rfl rfl (by decide +kernel) (by decide +kernel) (fun r_46 u9 H locs hw_46 hP hD hS => ?_)
      obtain ⟨fbdq_46, firq_46⟩ := u9
      have hPD : my_PD (dC, dI) vwCl A [(mo, Sum.inr (8, [Value.ref ka, Value.ref o2, Value.ref oo])), (ka, Sum.inl (cI, kl, Sum.inl kf)), (ma, Sum.inl (cM, 8, Sum.inr (Sum.inr (Sum.inr (Sum.inr mf))))), (co, Sum.inr (1, [Value.int xcache, Value.int xpending, Value.long xlow, Value.long xrange, Value.long xcodeq_43, Value.long xreadLow, Value.long xreadRangeq_43, Value.ref ri, Value.ref ro, Value.ref rw, Value.int xaskedq_43])), (ri, Sum.inr (0, [Value.int rin, Value.ref ria])), (ria, Sum.inl (cI, rik, Sum.inl rif)), (oo, Sum.inr (7, [Value.int osg, Value.int osmq_43, Value.int ofc, Value.ref oca, Value.ref opa])), (oca, Sum.inl (cI, ol, Sum.inl ocfq_43)), (opa, Sum.inl (cI, opl, Sum.inl opf)), (rc, Sum.inr (6, [Value.ref co, Value.ref ma, Value.int (nI k), Value.int fit, Value.int fen, Value.int frd, Value.int fbdq_46, Value.int firq_46]))] H := ⟨hP, hD⟩
      have hP := hPD.1
      have hD := hPD.2
      exact my_iret (v := r_46) hx hb hr (rfl) hlocks hQ hK hS (Nat.le_refl _) (Nat.le_refl _) (fbdq_46, firq_46, xcodeq_43, xreadRangeq_43, xaskedq_43, osmq_43, ocfq_43) (trivial) (hP.sub [9, 2, 3, 4, 5, 0, 1, 6, 7, 8] rfl) (hD.sub [9, 2, 3, 4, 5, 0, 1, 6, 7, 8] (by decide +kernel) rfl) d_RC_get_49
    · refine lv_bipush (v := (-5)) hx hb d_RC_get_29 (by decide) ?_
      refine lv_goto (tgt := 49) hx hb d_RC_get_31 (by decide) ?_
      exact my_iret (v := (-5)) hx hb hr (rfl) hlocks hQ hK hS (Nat.le_refl _) (Nat.le_refl _) (fbd, fir, xcode, xreadRange, xasked, osm, ocf) (trivial) (hP.sub [8, 9, 0, 1, 2, 3, 4, 5, 6, 7] rfl) (hD.sub [8, 9, 0, 1, 2, 3, 4, 5, 6, 7] (by decide +kernel) rfl) d_RC_get_49
  · refine lv_bipush (v := (-3)) hx hb d_RC_get_19 (by decide) ?_
    exact my_iret (v := (-3)) hx hb hr (rfl) hlocks hQ hK hS (Nat.le_refl _) (Nat.le_refl _) (fbd, fir, xcode, xreadRange, xasked, osm, ocf) (trivial) (hP.sub [8, 9, 0, 1, 2, 3, 4, 5, 6, 7] rfl) (hD.sub [8, 9, 0, 1, 2, 3, 4, 5, 6, 7] (by decide +kernel) rfl) d_RC_get_21
set_option maxHeartbeats 2000000 in
set_option maxRecDepth 100000 in
theorem c_RC_getBits_Carries (l : Launch) (dC : Nat → ClassId) (dI : Nat → Nat → Nat) (cI cM cO : ClassId) (sz : Nat) (rc : Nat) (ma : Nat) (k : Nat) (fit : Int32) (fen : Int32) (frd : Int32) (fbd : Int32) (fir : Int32) (mf : Nat → Option Nat) (co : Nat) (xcache : Int32) (xpending : Int32) (xlow : Int64) (xrange : Int64) (xcode : Int64) (xreadLow : Int64) (xreadRange : Int64) (ri : Nat) (ro : Nat) (rw : Nat) (xasked : Int32) (rin : Int32) (ria : Nat) (rik : Nat) (rif : Nat → Int32) (wd : Int32) (hk8 : k ≤ 8) (hri : rOk rin rik) : MetI l y_RC_getBits (Cond.code y_RC_getBits prog_1_method_14_code 2 (some .int) :: gw) ({ frames := 6, cells := 0, slots := 0, locals := 131 } : Room) (dC, dI) vwCl (kT cI cM cO) [Value.ref rc, Value.int wd] [(rc, Sum.inr (6, [Value.ref co, Value.ref ma, Value.int (nI k), Value.int fit, Value.int fen, Value.int frd, Value.int fbd, Value.int fir])), (ma, Sum.inl (cM, 8, Sum.inr (Sum.inr (Sum.inr (Sum.inr mf))))), (co, Sum.inr (1, [Value.int xcache, Value.int xpending, Value.long xlow, Value.long xrange, Value.long xcode, Value.long xreadLow, Value.long xreadRange, Value.ref ri, Value.ref ro, Value.ref rw, Value.int xasked])), (ri, Sum.inr (0, [Value.int rin, Value.ref ria])), (ria, Sum.inl (cI, rik, Sum.inl rif))] sz (fun (r : Int32) (u : Int32 × Int32 × Int64 × Int64 × Int32) => True) (fun (u : Int32 × Int32 × Int64 × Int64 × Int32) => [(rc, Sum.inr (6, [Value.ref co, Value.ref ma, Value.int (nI k), Value.int fit, Value.int fen, Value.int frd, Value.int u.1, Value.int u.2.1])), (ma, Sum.inl (cM, 8, Sum.inr (Sum.inr (Sum.inr (Sum.inr mf))))), (co, Sum.inr (1, [Value.int xcache, Value.int xpending, Value.long xlow, Value.long xrange, Value.long u.2.2.1, Value.long xreadLow, Value.long u.2.2.2.1, Value.ref ri, Value.ref ro, Value.ref rw, Value.int u.2.2.2.2])), (ri, Sum.inr (0, [Value.int rin, Value.ref ria])), (ria, Sum.inl (cI, rik, Sum.inl rif))]) 0 0 := by
  refine my_ofI (cc := prog_1_method_14_code) (n := 2) (ret := (some .int)) (by decide) rfl (Nat.le_of_ble_eq_true rfl) ?_
  intro p e s m args below meth c R Q A ls H locs hx hb hr hts hown hlocks hml hnm hR hQ hA hl hP hK hN hD hS
  have hg : ∀ w ∈ gw, w.before args s = true := fun w h => hts w (List.mem_cons_of_mem _ h)
  have hown : s.vm.findClass "RangeCoders" = some m.cls := hown
  have hl : lv_has ls 2 [(0, Value.ref rc), (1, Value.int wd)] := hl
  have hlt_hri := rOk_lt hri
  refine lv_aload_n hx hb d_RC_getBits_0 rfl (lv_at hl 0 rfl) ?_
  refine va_get (D := (dC, dI)) (ci := 6) (v := .ref co) (C := "RangeCoders") (T := T_RC) (N := 8) hx hb hg in_RC hown hK hP 0 rfl rfl 0 (by decide) (hg _ k258) (fun _ h9 => h9) rfl d_RC_getBits_1 ?_
  refine lv_iload_n hx hb d_RC_getBits_4 rfl (lv_at hl 1 rfl) ?_
  refine my_ci (wr := [(rc, Sum.inr (6, [Value.ref co, Value.ref ma, Value.int (nI k), Value.int fit, Value.int fen, Value.int frd, Value.int fbd, Value.int fir])), (ma, Sum.inl (cM, 8, Sum.inr (Sum.inr (Sum.inr (Sum.inr mf))))), (ri, Sum.inr (0, [Value.int rin, Value.ref ria])), (ria, Sum.inl (cI, rik, Sum.inl rif))]) (va_runU (As := [Value.int wd]) (rest := []) ⟨hx, hb, hml, hown, hts⟩ (c_Carries_Coder_hasWidth l dC dI cI cM cO H.size co xcache xpending xlow xrange xcode xreadLow xreadRange ri ro rw xasked wd) (va_cwU 1 hts (my_gU k543 k545 k547 k544 k3 k553) rfl rfl rfl rfl (by decide +kernel) ⟨by rw [hR]; exact Nat.le_of_ble_eq_true rfl, by rw [hR]; exact Nat.le_of_ble_eq_true rfl⟩) (my_preV hK hN (hP.sub [2] rfl) (hD.sub [2] (by decide +kernel) rfl) 0 rfl rfl) rfl rfl hl.1 rfl (lv_room (Nat.le_of_ble_eq_true rfl)) d_RC_getBits_5 ⟨by rw [hR]; exact Nat.le_of_ble_eq_true rfl, by rw [hR]; exact Nat.le_of_ble_eq_true rfl⟩) hP hD hS hA [2] [0, 1, 3, 4] rfl rfl (by decide +kernel) (by decide +kernel) (fun r_5 u9 H locs hw_5 hP hD hS => ?_)
  have hPD : my_PD (dC, dI) vwCl A [(rc, Sum.inr (6, [Value.ref co, Value.ref ma, Value.int (nI k), Value.int fit, Value.int fen, Value.int frd, Value.int fbd, Value.int fir])), (ma, Sum.inl (cM, 8, Sum.inr (Sum.inr (Sum.inr (Sum.inr mf))))), (ri, Sum.inr (0, [Value.int rin, Value.ref ria])), (ria, Sum.inl (cI, rik, Sum.inl rif)), (co, Sum.inr (1, [Value.int xcache, Value.int xpending, Value.long xlow, Value.long xrange, Value.long xcode, Value.long xreadLow, Value.long xreadRange, Value.ref ri, Value.ref ro, Value.ref rw, Value.int xasked]))] H := ⟨hP, hD⟩
  have hP := hPD.1
  have hD := hPD.2
  refine lv_if_ne (tgt := 14) hx hb d_RC_getBits_8 (by decide) (fun c_1 => ?_) (fun c_1 => ?_)
  · refine lv_aload_n hx hb d_RC_getBits_14 rfl (lv_at hl 0 rfl) ?_
    refine va_get (D := (dC, dI)) (ci := 6) (v := .int frd) (C := "RangeCoders") (T := T_RC) (N := 8) hx hb hg in_RC hown hK hP 0 rfl rfl 5 (by decide) (hg _ k263) (fun _ h9 => h9) rfl d_RC_getBits_15 ?_
    refine lv_if_ne (tgt := 24) hx hb d_RC_getBits_18 (by decide) (fun c_2 => ?_) (fun c_2 => ?_)
    · refine lv_aload_n hx hb d_RC_getBits_24 rfl (lv_at hl 0 rfl) ?_
      refine va_get (D := (dC, dI)) (ci := 6) (v := .int fbd) (C := "RangeCoders") (T := T_RC) (N := 8) hx hb hg in_RC hown hK hP 0 rfl rfl 6 (by decide) (hg _ k264) (fun _ h9 => h9) rfl d_RC_getBits_25 ?_
      refine lv_if_eq (tgt := 36) hx hb d_RC_getBits_28 (by decide) (fun c_3 => ?_) (fun c_3 => ?_)
      · refine lv_aload_n hx hb d_RC_getBits_36 rfl (lv_at hl 0 rfl) ?_
        refine lv_aload_n hx hb d_RC_getBits_37 rfl (lv_at hl 0 rfl) ?_
        refine va_get (D := (dC, dI)) (ci := 6) (v := .ref co) (C := "RangeCoders") (T := T_RC) (N := 8) hx hb hg in_RC hown hK hP 0 rfl rfl 0 (by decide) (hg _ k258) (fun _ h9 => h9) rfl d_RC_getBits_38 ?_
        refine lv_iload_n hx hb d_RC_getBits_41 rfl (lv_at hl 1 rfl) ?_
        refine my_ci (wr := [(rc, Sum.inr (6, [Value.ref co, Value.ref ma, Value.int (nI k), Value.int fit, Value.int fen, Value.int frd, Value.int fbd, Value.int fir])), (ma, Sum.inl (cM, 8, Sum.inr (Sum.inr (Sum.inr (Sum.inr mf)))))]) (va_runU (As := [Value.int wd]) (rest := [Value.ref rc]) ⟨hx, hb, hml, hown, hts⟩ (c_Carries_Ranged_nextValue l dC dI cI cM cO H.size co xcache xpending xlow xrange xcode xreadLow xreadRange ri ro rw xasked rin ria rik rif wd (by first | assumption | omega)) (va_cwA 1 hts (my_gU k862 k864 k868 k869 k4 k870) rfl rfl rfl (hN.1 _ j863 rfl) (by decide +kernel) ⟨by rw [hR]; exact Nat.le_of_ble_eq_true rfl, by rw [hR]; exact Nat.le_of_ble_eq_true rfl⟩) (my_preV hK hN (hP.sub [4, 2, 3] rfl) (hD.sub [4, 2, 3] (by decide +kernel) rfl) 0 rfl rfl) rfl rfl hl.1 rfl (lv_room (Nat.le_of_ble_eq_true rfl)) d_RC_getBits_42 ⟨by rw [hR]; exact Nat.le_of_ble_eq_true rfl, by rw [hR]; exact Nat.le_of_ble_eq_true rfl⟩) hP hD hS hA [4, 2, 3] [0, 1] rfl rfl (by decide +kernel) (by decide +kernel) (fun r_42 u9 H locs hw_42 hP hD hS => ?_)
        obtain ⟨xcodeq_42, xreadRangeq_42, xaskedq_42⟩ := u9
        have hPD : my_PD (dC, dI) vwCl A [(rc, Sum.inr (6, [Value.ref co, Value.ref ma, Value.int (nI k), Value.int fit, Value.int fen, Value.int frd, Value.int fbd, Value.int fir])), (ma, Sum.inl (cM, 8, Sum.inr (Sum.inr (Sum.inr (Sum.inr mf))))), (co, Sum.inr (1, [Value.int xcache, Value.int xpending, Value.long xlow, Value.long xrange, Value.long xcodeq_42, Value.long xreadLow, Value.long xreadRangeq_42, Value.ref ri, Value.ref ro, Value.ref rw, Value.int xaskedq_42])), (ri, Sum.inr (0, [Value.int rin, Value.ref ria])), (ria, Sum.inl (cI, rik, Sum.inl rif))] H := ⟨hP, hD⟩
        have hP := hPD.1
        have hD := hPD.2
        refine my_ci (wr := [(ma, Sum.inl (cM, 8, Sum.inr (Sum.inr (Sum.inr (Sum.inr mf))))), (co, Sum.inr (1, [Value.int xcache, Value.int xpending, Value.long xlow, Value.long xrange, Value.long xcodeq_42, Value.long xreadLow, Value.long xreadRangeq_42, Value.ref ri, Value.ref ro, Value.ref rw, Value.int xaskedq_42])), (ri, Sum.inr (0, [Value.int rin, Value.ref ria])), (ria, Sum.inl (cI, rik, Sum.inl rif))]) (va_runV (As := [Value.int r_42]) (rest := []) ⟨hx, hb, hml, hown, hts⟩ (c_RC_itemOrBad l dC dI cI cM cO H.size rc ma k fit fen frd fbd fir mf co r_42) (cwV 1 hts (my_gV k854 k856 ks17 k1 k857) rfl rfl rfl cu_RC_itemOrBad_1 ⟨by rw [hR]; exact Nat.le_of_ble_eq_true rfl, by rw [hR]; exact Nat.le_of_ble_eq_true rfl⟩) (my_preV hK hN (hP.sub [0] rfl) (hD.sub [0] (by decide +kernel) rfl) 0 rfl rfl) rfl rfl hl.1 rfl (lv_room (Nat.le_of_ble_eq_true rfl)) d_RC_getBits_45 ⟨by rw [hR]; exact Nat.le_of_ble_eq_true rfl, by rw [hR]; exact Nat.le_of_ble_eq_true rfl⟩) hP hD hS hA [0] [1, 2, 3, 4] rfl rfl (by decide +kernel) (by decide +kernel) (fun r_45 u9 H locs hw_45 hP hD hS => ?_)
        obtain ⟨fbdq_45, firq_45⟩ := u9
        have hPD : my_PD (dC, dI) vwCl A [(ma, Sum.inl (cM, 8, Sum.inr (Sum.inr (Sum.inr (Sum.inr mf))))), (co, Sum.inr (1, [Value.int xcache, Value.int xpending, Value.long xlow, Value.long xrange, Value.long xcodeq_42, Value.long xreadLow, Value.long xreadRangeq_42, Value.ref ri, Value.ref ro, Value.ref rw, Value.int xaskedq_42])), (ri, Sum.inr (0, [Value.int rin, Value.ref ria])), (ria, Sum.inl (cI, rik, Sum.inl rif)), (rc, Sum.inr (6, [Value.ref co, Value.ref ma, Value.int (nI k), Value.int fit, Value.int fen, Value.int frd, Value.int fbdq_45, Value.int firq_45]))] H := ⟨hP, hD⟩
        have hP := hPD.1
        have hD := hPD.2
        exact my_iret (v := r_45) hx hb hr (rfl) hlocks hQ hK hS (Nat.le_refl _) (Nat.le_refl _) (fbdq_45, firq_45, xcodeq_42, xreadRangeq_42, xaskedq_42) (trivial) (hP.sub [4, 0, 1, 2, 3] rfl) (hD.sub [4, 0, 1, 2, 3] (by decide +kernel) rfl) d_RC_getBits_48
      · refine lv_bipush (v := (-5)) hx hb d_RC_getBits_31 (by decide) ?_
        refine lv_goto (tgt := 48) hx hb d_RC_getBits_33 (by decide) ?_
        exact my_iret (v := (-5)) hx hb hr (rfl) hlocks hQ hK hS (Nat.le_refl _) (Nat.le_refl _) (fbd, fir, xcode, xreadRange, xasked) (trivial) (hP.sub [0, 1, 4, 2, 3] rfl) (hD.sub [0, 1, 4, 2, 3] (by decide +kernel) rfl) d_RC_getBits_48
    · refine lv_bipush (v := (-3)) hx hb d_RC_getBits_21 (by decide) ?_
      exact my_iret (v := (-3)) hx hb hr (rfl) hlocks hQ hK hS (Nat.le_refl _) (Nat.le_refl _) (fbd, fir, xcode, xreadRange, xasked) (trivial) (hP.sub [0, 1, 4, 2, 3] rfl) (hD.sub [0, 1, 4, 2, 3] (by decide +kernel) rfl) d_RC_getBits_23
  · refine lv_bipush (v := (-2)) hx hb d_RC_getBits_11 (by decide) ?_
    exact my_iret (v := (-2)) hx hb hr (rfl) hlocks hQ hK hS (Nat.le_refl _) (Nat.le_refl _) (fbd, fir, xcode, xreadRange, xasked) (trivial) (hP.sub [0, 1, 4, 2, 3] rfl) (hD.sub [0, 1, 4, 2, 3] (by decide +kernel) rfl) d_RC_getBits_13
set_option maxHeartbeats 2000000 in
set_option maxRecDepth 100000 in
theorem c_RC_told_Carries (l : Launch) (dC : Nat → ClassId) (dI : Nat → Nat → Nat) (cI cM cO : ClassId) (sz : Nat) (rc : Nat) (ma : Nat) (k : Nat) (fit : Int32) (fen : Int32) (frd : Int32) (fbd : Int32) (fir : Int32) (mf : Nat → Option Nat) (co : Nat) (xcache : Int32) (xpending : Int32) (xlow : Int64) (xrange : Int64) (xcode : Int64) (xreadLow : Int64) (xreadRange : Int64) (ri : Nat) (ro : Nat) (rw : Nat) (xasked : Int32) (rin : Int32) (ria : Nat) (rik : Nat) (rif : Nat → Int32) (ron : Int32) (roa : Nat) (rok : Nat) (rof : Nat → Int32) (wh : Int32) (hk8 : k ≤ 8) (hri : rOk rin rik) (hro : rOk ron rok) : MetI l y_RC_told (Cond.code y_RC_told prog_1_method_15_code 2 (some .int) :: gw) ({ frames := 1, cells := 0, slots := 0, locals := 20 } : Room) (dC, dI) vwCl (kT cI cM cO) [Value.ref rc, Value.int wh] [(rc, Sum.inr (6, [Value.ref co, Value.ref ma, Value.int (nI k), Value.int fit, Value.int fen, Value.int frd, Value.int fbd, Value.int fir])), (ma, Sum.inl (cM, 8, Sum.inr (Sum.inr (Sum.inr (Sum.inr mf))))), (co, Sum.inr (1, [Value.int xcache, Value.int xpending, Value.long xlow, Value.long xrange, Value.long xcode, Value.long xreadLow, Value.long xreadRange, Value.ref ri, Value.ref ro, Value.ref rw, Value.int xasked])), (ri, Sum.inr (0, [Value.int rin, Value.ref ria])), (ria, Sum.inl (cI, rik, Sum.inl rif)), (ro, Sum.inr (0, [Value.int ron, Value.ref roa])), (roa, Sum.inl (cI, rok, Sum.inl rof))] sz (fun (r : Int32) (u : Unit) => True) (fun (u : Unit) => [(rc, Sum.inr (6, [Value.ref co, Value.ref ma, Value.int (nI k), Value.int fit, Value.int fen, Value.int frd, Value.int fbd, Value.int fir])), (ma, Sum.inl (cM, 8, Sum.inr (Sum.inr (Sum.inr (Sum.inr mf))))), (co, Sum.inr (1, [Value.int xcache, Value.int xpending, Value.long xlow, Value.long xrange, Value.long xcode, Value.long xreadLow, Value.long xreadRange, Value.ref ri, Value.ref ro, Value.ref rw, Value.int xasked])), (ri, Sum.inr (0, [Value.int rin, Value.ref ria])), (ria, Sum.inl (cI, rik, Sum.inl rif)), (ro, Sum.inr (0, [Value.int ron, Value.ref roa])), (roa, Sum.inl (cI, rok, Sum.inl rof))]) 0 0 := by
  refine my_ofI (cc := prog_1_method_15_code) (n := 2) (ret := (some .int)) (by decide) rfl (Nat.le_of_ble_eq_true rfl) ?_
  intro p e s m args below meth c R Q A ls H locs hx hb hr hts hown hlocks hml hnm hR hQ hA hl hP hK hN hD hS
  have hg : ∀ w ∈ gw, w.before args s = true := fun w h => hts w (List.mem_cons_of_mem _ h)
  have hown : s.vm.findClass "RangeCoders" = some m.cls := hown
  have hl : lv_has ls 2 [(0, Value.ref rc), (1, Value.int wh)] := hl
  have hlt_hri := rOk_lt hri
  have hlt_hro := rOk_lt hro
  refine lv_iload_n hx hb d_RC_told_0 rfl (lv_at hl 1 rfl) ?_
  refine lv_if_lt (tgt := 10) hx hb d_RC_told_1 (by decide) (fun c_1 => ?_) (fun c_1 => ?_)
  · refine lv_bipush (v := (-2)) hx hb d_RC_told_10 (by decide) ?_
    exact my_iret (v := (-2)) hx hb hr (rfl) hlocks hQ hK hS (Nat.le_refl _) (Nat.le_refl _) () (trivial) (hP.sub [0, 1, 2, 3, 4, 5, 6] rfl) (hD.sub [0, 1, 2, 3, 4, 5, 6] (by decide +kernel) rfl) d_RC_told_12
  · refine lv_iload_n hx hb d_RC_told_4 rfl (lv_at hl 1 rfl) ?_
    refine lv_bipush (v := 7) hx hb d_RC_told_5 (by decide) ?_
    refine lv_icmp_le (tgt := 13) hx hb d_RC_told_7 (by decide) (fun c_2 => ?_) (fun c_2 => ?_)
    · refine lv_iload_n hx hb d_RC_told_13 rfl (lv_at hl 1 rfl) ?_
      by_cases c_3 : wh = 0
      · refine lv_tableIn (tgt := 56) hx hb d_RC_told_14 (by rw [c_3]; decide) (by rw [c_3]; decide) (by rw [c_3]; rfl) (by decide) ?_
        refine lv_aload_n hx hb d_RC_told_56 rfl (lv_at hl 0 rfl) ?_
        refine va_get (D := (dC, dI)) (ci := 6) (v := .int fit) (C := "RangeCoders") (T := T_RC) (N := 8) hx hb hg in_RC hown hK hP 0 rfl rfl 3 (by decide) (hg _ k261) (fun _ h9 => h9) rfl d_RC_told_57 ?_
        exact my_iret (v := fit) hx hb hr (rfl) hlocks hQ hK hS (Nat.le_refl _) (Nat.le_refl _) () (trivial) (hP.sub [0, 1, 2, 3, 4, 5, 6] rfl) (hD.sub [0, 1, 2, 3, 4, 5, 6] (by decide +kernel) rfl) d_RC_told_60
      by_cases c_4 : wh = 1
      · refine lv_tableIn (tgt := 61) hx hb d_RC_told_14 (by rw [c_4]; decide) (by rw [c_4]; decide) (by rw [c_4]; rfl) (by decide) ?_
        refine lv_aload_n hx hb d_RC_told_61 rfl (lv_at hl 0 rfl) ?_
        refine va_get (D := (dC, dI)) (ci := 6) (v := .int fen) (C := "RangeCoders") (T := T_RC) (N := 8) hx hb hg in_RC hown hK hP 0 rfl rfl 4 (by decide) (hg _ k262) (fun _ h9 => h9) rfl d_RC_told_62 ?_
        refine lv_if_eq (tgt := 72) hx hb d_RC_told_65 (by decide) (fun c_5 => ?_) (fun c_5 => ?_)
        · refine lv_iconst (v := 0) hx hb d_RC_told_72 (by decide) ?_
          exact my_iret (v := 0) hx hb hr (rfl) hlocks hQ hK hS (Nat.le_refl _) (Nat.le_refl _) () (trivial) (hP.sub [0, 1, 2, 3, 4, 5, 6] rfl) (hD.sub [0, 1, 2, 3, 4, 5, 6] (by decide +kernel) rfl) d_RC_told_73
        · refine lv_iconst (v := 1) hx hb d_RC_told_68 (by decide) ?_
          refine lv_goto (tgt := 73) hx hb d_RC_told_69 (by decide) ?_
          exact my_iret (v := 1) hx hb hr (rfl) hlocks hQ hK hS (Nat.le_refl _) (Nat.le_refl _) () (trivial) (hP.sub [0, 1, 2, 3, 4, 5, 6] rfl) (hD.sub [0, 1, 2, 3, 4, 5, 6] (by decide +kernel) rfl) d_RC_told_73
      by_cases c_6 : wh = 2
      · refine lv_tableIn (tgt := 74) hx hb d_RC_told_14 (by rw [c_6]; decide) (by rw [c_6]; decide) (by rw [c_6]; rfl) (by decide) ?_
        refine lv_aload_n hx hb d_RC_told_74 rfl (lv_at hl 0 rfl) ?_
        refine va_get (D := (dC, dI)) (ci := 6) (v := .ref co) (C := "RangeCoders") (T := T_RC) (N := 8) hx hb hg in_RC hown hK hP 0 rfl rfl 0 (by decide) (hg _ k258) (fun _ h9 => h9) rfl d_RC_told_75 ?_
        refine va_get (D := (dC, dI)) (ci := 1) (v := .ref ro) (C := "RangeCoders$Carries") (T := T_Carries) (N := 11) hx hb hg in_Carries hown hK hP 2 rfl rfl 8 (by decide) (hg _ k108) (fun _ h9 => h9) rfl d_RC_told_78 ?_
        refine va_get (D := (dC, dI)) (ci := 0) (v := .int ron) (C := "RangeCoders$Row") (T := T_Row) (N := 2) hx hb hg in_Row hown hK hP 5 rfl rfl 0 (by decide) (hg _ k58) (fun _ h9 => h9) rfl d_RC_told_81 ?_
        exact my_iret (v := ron) hx hb hr (rfl) hlocks hQ hK hS (Nat.le_refl _) (Nat.le_refl _) () (trivial) (hP.sub [0, 1, 2, 3, 4, 5, 6] rfl) (hD.sub [0, 1, 2, 3, 4, 5, 6] (by decide +kernel) rfl) d_RC_told_84
      by_cases c_7 : wh = 3
      · refine lv_tableIn (tgt := 85) hx hb d_RC_told_14 (by rw [c_7]; decide) (by rw [c_7]; decide) (by rw [c_7]; rfl) (by decide) ?_
        refine lv_aload_n hx hb d_RC_told_85 rfl (lv_at hl 0 rfl) ?_
        refine va_get (D := (dC, dI)) (ci := 6) (v := .ref co) (C := "RangeCoders") (T := T_RC) (N := 8) hx hb hg in_RC hown hK hP 0 rfl rfl 0 (by decide) (hg _ k258) (fun _ h9 => h9) rfl d_RC_told_86 ?_
        refine va_get (D := (dC, dI)) (ci := 1) (v := .ref ri) (C := "RangeCoders$Carries") (T := T_Carries) (N := 11) hx hb hg in_Carries hown hK hP 2 rfl rfl 7 (by decide) (hg _ k102) (fun _ h9 => h9) rfl d_RC_told_89 ?_
        refine va_get (D := (dC, dI)) (ci := 0) (v := .int rin) (C := "RangeCoders$Row") (T := T_Row) (N := 2) hx hb hg in_Row hown hK hP 3 rfl rfl 0 (by decide) (hg _ k58) (fun _ h9 => h9) rfl d_RC_told_92 ?_
        exact my_iret (v := rin) hx hb hr (rfl) hlocks hQ hK hS (Nat.le_refl _) (Nat.le_refl _) () (trivial) (hP.sub [0, 1, 2, 3, 4, 5, 6] rfl) (hD.sub [0, 1, 2, 3, 4, 5, 6] (by decide +kernel) rfl) d_RC_told_95
      by_cases c_8 : wh = 4
      · refine lv_tableIn (tgt := 96) hx hb d_RC_told_14 (by rw [c_8]; decide) (by rw [c_8]; decide) (by rw [c_8]; rfl) (by decide) ?_
        refine lv_aload_n hx hb d_RC_told_96 rfl (lv_at hl 0 rfl) ?_
        refine va_get (D := (dC, dI)) (ci := 6) (v := .int fir) (C := "RangeCoders") (T := T_RC) (N := 8) hx hb hg in_RC hown hK hP 0 rfl rfl 7 (by decide) (hg _ k265) (fun _ h9 => h9) rfl d_RC_told_97 ?_
        exact my_iret (v := fir) hx hb hr (rfl) hlocks hQ hK hS (Nat.le_refl _) (Nat.le_refl _) () (trivial) (hP.sub [0, 1, 2, 3, 4, 5, 6] rfl) (hD.sub [0, 1, 2, 3, 4, 5, 6] (by decide +kernel) rfl) d_RC_told_100
      by_cases c_9 : wh = 5
      · refine lv_tableIn (tgt := 101) hx hb d_RC_told_14 (by rw [c_9]; decide) (by rw [c_9]; decide) (by rw [c_9]; rfl) (by decide) ?_
        refine lv_aload_n hx hb d_RC_told_101 rfl (lv_at hl 0 rfl) ?_
        refine va_get (D := (dC, dI)) (ci := 6) (v := .int frd) (C := "RangeCoders") (T := T_RC) (N := 8) hx hb hg in_RC hown hK hP 0 rfl rfl 5 (by decide) (hg _ k263) (fun _ h9 => h9) rfl d_RC_told_102 ?_
        refine lv_if_eq (tgt := 118) hx hb d_RC_told_105 (by decide) (fun c_10 => ?_) (fun c_10 => ?_)
        · refine lv_iconst (v := 0) hx hb d_RC_told_118 (by decide) ?_
          exact my_iret (v := 0) hx hb hr (rfl) hlocks hQ hK hS (Nat.le_refl _) (Nat.le_refl _) () (trivial) (hP.sub [0, 1, 2, 3, 4, 5, 6] rfl) (hD.sub [0, 1, 2, 3, 4, 5, 6] (by decide +kernel) rfl) d_RC_told_119
        · refine lv_aload_n hx hb d_RC_told_108 rfl (lv_at hl 0 rfl) ?_
          refine va_get (D := (dC, dI)) (ci := 6) (v := .ref co) (C := "RangeCoders") (T := T_RC) (N := 8) hx hb hg in_RC hown hK hP 0 rfl rfl 0 (by decide) (hg _ k258) (fun _ h9 => h9) rfl d_RC_told_109 ?_
          refine my_ci (wr := [(rc, Sum.inr (6, [Value.ref co, Value.ref ma, Value.int (nI k), Value.int fit, Value.int fen, Value.int frd, Value.int fbd, Value.int fir])), (ma, Sum.inl (cM, 8, Sum.inr (Sum.inr (Sum.inr (Sum.inr mf))))), (ri, Sum.inr (0, [Value.int rin, Value.ref ria])), (ria, Sum.inl (cI, rik, Sum.inl rif)), (ro, Sum.inr (0, [Value.int ron, Value.ref roa])), (roa, Sum.inl (cI, rok, Sum.inl rof))]) (va_runU (As := []) (rest := []) ⟨hx, hb, hml, hown, hts⟩ (c_Carries_Coder_bytesAsked l dC dI cI cM cO H.size co xcache xpending xlow xrange xcode xreadLow xreadRange ri ro rw xasked) (va_cwU 0 hts (my_gU k880 k882 k884 k881 k3 k890) rfl rfl rfl rfl (by decide +kernel) ⟨by rw [hR]; exact Nat.le_of_ble_eq_true rfl, by rw [hR]; exact Nat.le_of_ble_eq_true rfl⟩) (my_preV hK hN (hP.sub [2] rfl) (hD.sub [2] (by decide +kernel) rfl) 0 rfl rfl) rfl rfl hl.1 rfl (lv_room (Nat.le_of_ble_eq_true rfl)) d_RC_told_112 ⟨by rw [hR]; exact Nat.le_of_ble_eq_true rfl, by rw [hR]; exact Nat.le_of_ble_eq_true rfl⟩) hP hD hS hA [2] [0, 1, 3, 4, 5, 6] rfl rfl (by decide +kernel) (by decide +kernel) (fun r_112 u9 H locs hw_112 hP hD hS => ?_)
          have hPD : my_PD (dC, dI) vwCl A [(rc, Sum.inr (6, [Value.ref co, Value.ref ma, Value.int (nI k), Value.int fit, Value.int fen, Value.int frd, Value.int fbd, Value.int fir])), (ma, Sum.inl (cM, 8, Sum.inr (Sum.inr (Sum.inr (Sum.inr mf))))), (ri, Sum.inr (0, [Value.int rin, Value.ref ria])), (ria, Sum.inl (cI, rik, Sum.inl rif)), (ro, Sum.inr (0, [Value.int ron, Value.ref roa])), (roa, Sum.inl (cI, rok, Sum.inl rof)), (co, Sum.inr (1, [Value.int xcache, Value.int xpending, Value.long xlow, Value.long xrange, Value.long xcode, Value.long xreadLow, Value.long xreadRange, Value.ref ri, Value.ref ro, Value.ref rw, Value.int xasked]))] H := ⟨hP, hD⟩
          have hP := hPD.1
          have hD := hPD.2
          refine lv_goto (tgt := 119) hx hb d_RC_told_115 (by decide) ?_
          exact my_iret (v := r_112) hx hb hr (rfl) hlocks hQ hK hS (Nat.le_refl _) (Nat.le_refl _) () (trivial) (hP.sub [0, 1, 6, 2, 3, 4, 5] rfl) (hD.sub [0, 1, 6, 2, 3, 4, 5] (by decide +kernel) rfl) d_RC_told_119
      by_cases c_11 : wh = 6
      · refine lv_tableIn (tgt := 120) hx hb d_RC_told_14 (by rw [c_11]; decide) (by rw [c_11]; decide) (by rw [c_11]; rfl) (by decide) ?_
        refine lv_aload_n hx hb d_RC_told_120 rfl (lv_at hl 0 rfl) ?_
        refine va_get (D := (dC, dI)) (ci := 6) (v := .int fbd) (C := "RangeCoders") (T := T_RC) (N := 8) hx hb hg in_RC hown hK hP 0 rfl rfl 6 (by decide) (hg _ k264) (fun _ h9 => h9) rfl d_RC_told_121 ?_
        refine lv_if_eq (tgt := 131) hx hb d_RC_told_124 (by decide) (fun c_12 => ?_) (fun c_12 => ?_)
        · refine lv_iconst (v := 0) hx hb d_RC_told_131 (by decide) ?_
          exact my_iret (v := 0) hx hb hr (rfl) hlocks hQ hK hS (Nat.le_refl _) (Nat.le_refl _) () (trivial) (hP.sub [0, 1, 2, 3, 4, 5, 6] rfl) (hD.sub [0, 1, 2, 3, 4, 5, 6] (by decide +kernel) rfl) d_RC_told_132
        · refine lv_iconst (v := 1) hx hb d_RC_told_127 (by decide) ?_
          refine lv_goto (tgt := 132) hx hb d_RC_told_128 (by decide) ?_
          exact my_iret (v := 1) hx hb hr (rfl) hlocks hQ hK hS (Nat.le_refl _) (Nat.le_refl _) () (trivial) (hP.sub [0, 1, 2, 3, 4, 5, 6] rfl) (hD.sub [0, 1, 2, 3, 4, 5, 6] (by decide +kernel) rfl) d_RC_told_132
      refine lv_tableOut (tgt := 133) hx hb d_RC_told_14 (by have ac_3 : wh.toInt ≠ 0 := fun z => c_3 (Int32.toInt_inj.mp z); have ac_4 : wh.toInt ≠ 1 := fun z => c_4 (Int32.toInt_inj.mp z); have ac_6 : wh.toInt ≠ 2 := fun z => c_6 (Int32.toInt_inj.mp z); have ac_7 : wh.toInt ≠ 3 := fun z => c_7 (Int32.toInt_inj.mp z); have ac_8 : wh.toInt ≠ 4 := fun z => c_8 (Int32.toInt_inj.mp z); have ac_9 : wh.toInt ≠ 5 := fun z => c_9 (Int32.toInt_inj.mp z); have ac_11 : wh.toInt ≠ 6 := fun z => c_11 (Int32.toInt_inj.mp z); omega) (by decide) ?_
      refine lv_aload_n hx hb d_RC_told_133 rfl (lv_at hl 0 rfl) ?_
      refine va_get (D := (dC, dI)) (ci := 6) (v := .int frd) (C := "RangeCoders") (T := T_RC) (N := 8) hx hb hg in_RC hown hK hP 0 rfl rfl 5 (by decide) (hg _ k263) (fun _ h9 => h9) rfl d_RC_told_134 ?_
      refine lv_if_eq (tgt := 144) hx hb d_RC_told_137 (by decide) (fun c_13 => ?_) (fun c_13 => ?_)
      · refine lv_iconst (v := 0) hx hb d_RC_told_144 (by decide) ?_
        exact my_iret (v := 0) hx hb hr (rfl) hlocks hQ hK hS (Nat.le_refl _) (Nat.le_refl _) () (trivial) (hP.sub [0, 1, 2, 3, 4, 5, 6] rfl) (hD.sub [0, 1, 2, 3, 4, 5, 6] (by decide +kernel) rfl) d_RC_told_145
      · refine lv_iconst (v := 1) hx hb d_RC_told_140 (by decide) ?_
        refine lv_goto (tgt := 145) hx hb d_RC_told_141 (by decide) ?_
        exact my_iret (v := 1) hx hb hr (rfl) hlocks hQ hK hS (Nat.le_refl _) (Nat.le_refl _) () (trivial) (hP.sub [0, 1, 2, 3, 4, 5, 6] rfl) (hD.sub [0, 1, 2, 3, 4, 5, 6] (by decide +kernel) rfl) d_RC_told_145
    · refine lv_bipush (v := (-2)) hx hb d_RC_told_10 (by decide) ?_
      exact my_iret (v := (-2)) hx hb hr (rfl) hlocks hQ hK hS (Nat.le_refl _) (Nat.le_refl _) () (trivial) (hP.sub [0, 1, 2, 3, 4, 5, 6] rfl) (hD.sub [0, 1, 2, 3, 4, 5, 6] (by decide +kernel) rfl) d_RC_told_12
set_option maxHeartbeats 2000000 in
set_option maxRecDepth 100000 in
theorem c_RC_state_Carries (l : Launch) (dC : Nat → ClassId) (dI : Nat → Nat → Nat) (cI cM cO : ClassId) (sz : Nat) (rc : Nat) (ma : Nat) (k : Nat) (fit : Int32) (fen : Int32) (frd : Int32) (fbd : Int32) (fir : Int32) (mf : Nat → Option Nat) (co : Nat) (xcache : Int32) (xpending : Int32) (xlow : Int64) (xrange : Int64) (xcode : Int64) (xreadLow : Int64) (xreadRange : Int64) (ri : Nat) (ro : Nat) (rw : Nat) (xasked : Int32) (wh : Int32) (hk8 : k ≤ 8) : MetL l y_RC_state (Cond.code y_RC_state prog_1_method_16_code 2 (some .long) :: gw) ({ frames := 1, cells := 0, slots := 0, locals := 21 } : Room) (dC, dI) vwCl (kT cI cM cO) [Value.ref rc, Value.int wh] [(rc, Sum.inr (6, [Value.ref co, Value.ref ma, Value.int (nI k), Value.int fit, Value.int fen, Value.int frd, Value.int fbd, Value.int fir])), (ma, Sum.inl (cM, 8, Sum.inr (Sum.inr (Sum.inr (Sum.inr mf))))), (co, Sum.inr (1, [Value.int xcache, Value.int xpending, Value.long xlow, Value.long xrange, Value.long xcode, Value.long xreadLow, Value.long xreadRange, Value.ref ri, Value.ref ro, Value.ref rw, Value.int xasked]))] sz (fun (r : Int64) (u : Unit) => True) (fun (u : Unit) => [(rc, Sum.inr (6, [Value.ref co, Value.ref ma, Value.int (nI k), Value.int fit, Value.int fen, Value.int frd, Value.int fbd, Value.int fir])), (ma, Sum.inl (cM, 8, Sum.inr (Sum.inr (Sum.inr (Sum.inr mf))))), (co, Sum.inr (1, [Value.int xcache, Value.int xpending, Value.long xlow, Value.long xrange, Value.long xcode, Value.long xreadLow, Value.long xreadRange, Value.ref ri, Value.ref ro, Value.ref rw, Value.int xasked]))]) 0 0 := by
  refine my_ofL (cc := prog_1_method_16_code) (n := 2) (ret := (some .long)) (by decide) rfl (Nat.le_of_ble_eq_true rfl) ?_
  intro p e s m args below meth c R Q A ls H locs hx hb hr hts hown hlocks hml hnm hR hQ hA hl hP hK hN hD hS
  have hg : ∀ w ∈ gw, w.before args s = true := fun w h => hts w (List.mem_cons_of_mem _ h)
  have hown : s.vm.findClass "RangeCoders" = some m.cls := hown
  have hl : lv_has ls 2 [(0, Value.ref rc), (1, Value.int wh)] := hl
  refine lv_iload_n hx hb d_RC_state_0 rfl (lv_at hl 1 rfl) ?_
  refine lv_if_lt (tgt := 9) hx hb d_RC_state_1 (by decide) (fun c_1 => ?_) (fun c_1 => ?_)
  · refine lv_ldc2 (v := (-2)) hx hb hown (hg _ k895) d_RC_state_9 ?_
    exact my_lret (v := (-2)) hx hb hr hlocks hQ hK hS (Nat.le_refl _) (Nat.le_refl _) () (trivial) (hP.sub [0, 1, 2] rfl) (hD.sub [0, 1, 2] (by decide +kernel) rfl) d_RC_state_12
  · refine lv_iload_n hx hb d_RC_state_4 rfl (lv_at hl 1 rfl) ?_
    refine lv_iconst (v := 5) hx hb d_RC_state_5 (by decide) ?_
    refine lv_icmp_le (tgt := 13) hx hb d_RC_state_6 (by decide) (fun c_2 => ?_) (fun c_2 => ?_)
    · refine lv_iload_n hx hb d_RC_state_13 rfl (lv_at hl 1 rfl) ?_
      refine lv_iconst (v := 1) hx hb d_RC_state_14 (by decide) ?_
      refine lv_icmp_le (tgt := 27) hx hb d_RC_state_15 (by decide) (fun c_3 => ?_) (fun c_3 => ?_)
      · refine lv_aload_n hx hb d_RC_state_27 rfl (lv_at hl 0 rfl) ?_
        refine va_get (D := (dC, dI)) (ci := 6) (v := .ref co) (C := "RangeCoders") (T := T_RC) (N := 8) hx hb hg in_RC hown hK hP 0 rfl rfl 0 (by decide) (hg _ k258) (fun _ h9 => h9) rfl d_RC_state_28 ?_
        refine lv_iload_n hx hb d_RC_state_31 rfl (lv_at hl 1 rfl) ?_
        refine my_cl (wr := [(rc, Sum.inr (6, [Value.ref co, Value.ref ma, Value.int (nI k), Value.int fit, Value.int fen, Value.int frd, Value.int fbd, Value.int fir])), (ma, Sum.inl (cM, 8, Sum.inr (Sum.inr (Sum.inr (Sum.inr mf)))))]) (va_runU (As := [Value.int wh]) (rest := []) ⟨hx, hb, hml, hown, hts⟩ (c_Carries_Ranged_register l dC dI cI cM cO H.size co xcache xpending xlow xrange xcode xreadLow xreadRange ri ro rw xasked wh) (va_cwA 1 hts (my_gU k896 k898 k902 k900 k4 k901) rfl rfl rfl (hN.1 _ j897 rfl) (by decide +kernel) ⟨by rw [hR]; exact Nat.le_of_ble_eq_true rfl, by rw [hR]; exact Nat.le_of_ble_eq_true rfl⟩) (my_preV hK hN (hP.sub [2] rfl) (hD.sub [2] (by decide +kernel) rfl) 0 rfl rfl) rfl rfl hl.1 rfl (lv_room (Nat.le_of_ble_eq_true rfl)) d_RC_state_32 ⟨by rw [hR]; exact Nat.le_of_ble_eq_true rfl, by rw [hR]; exact Nat.le_of_ble_eq_true rfl⟩) hP hD hS hA [2] [0, 1] rfl rfl (by decide +kernel) (by decide +kernel) (fun r_32 u9 H locs hw_32 hP hD hS => ?_)
        have hPD : my_PD (dC, dI) vwCl A [(rc, Sum.inr (6, [Value.ref co, Value.ref ma, Value.int (nI k), Value.int fit, Value.int fen, Value.int frd, Value.int fbd, Value.int fir])), (ma, Sum.inl (cM, 8, Sum.inr (Sum.inr (Sum.inr (Sum.inr mf))))), (co, Sum.inr (1, [Value.int xcache, Value.int xpending, Value.long xlow, Value.long xrange, Value.long xcode, Value.long xreadLow, Value.long xreadRange, Value.ref ri, Value.ref ro, Value.ref rw, Value.int xasked]))] H := ⟨hP, hD⟩
        have hP := hPD.1
        have hD := hPD.2
        exact my_lret (v := r_32) hx hb hr hlocks hQ hK hS (Nat.le_refl _) (Nat.le_refl _) () (trivial) (hP.sub [0, 1, 2] rfl) (hD.sub [0, 1, 2] (by decide +kernel) rfl) d_RC_state_35
      · refine lv_aload_n hx hb d_RC_state_18 rfl (lv_at hl 0 rfl) ?_
        refine va_get (D := (dC, dI)) (ci := 6) (v := .int frd) (C := "RangeCoders") (T := T_RC) (N := 8) hx hb hg in_RC hown hK hP 0 rfl rfl 5 (by decide) (hg _ k263) (fun _ h9 => h9) rfl d_RC_state_19 ?_
        refine lv_if_ne (tgt := 27) hx hb d_RC_state_22 (by decide) (fun c_4 => ?_) (fun c_4 => ?_)
        · refine lv_aload_n hx hb d_RC_state_27 rfl (lv_at hl 0 rfl) ?_
          refine va_get (D := (dC, dI)) (ci := 6) (v := .ref co) (C := "RangeCoders") (T := T_RC) (N := 8) hx hb hg in_RC hown hK hP 0 rfl rfl 0 (by decide) (hg _ k258) (fun _ h9 => h9) rfl d_RC_state_28 ?_
          refine lv_iload_n hx hb d_RC_state_31 rfl (lv_at hl 1 rfl) ?_
          refine my_cl (wr := [(rc, Sum.inr (6, [Value.ref co, Value.ref ma, Value.int (nI k), Value.int fit, Value.int fen, Value.int frd, Value.int fbd, Value.int fir])), (ma, Sum.inl (cM, 8, Sum.inr (Sum.inr (Sum.inr (Sum.inr mf)))))]) (va_runU (As := [Value.int wh]) (rest := []) ⟨hx, hb, hml, hown, hts⟩ (c_Carries_Ranged_register l dC dI cI cM cO H.size co xcache xpending xlow xrange xcode xreadLow xreadRange ri ro rw xasked wh) (va_cwA 1 hts (my_gU k896 k898 k902 k900 k4 k901) rfl rfl rfl (hN.1 _ j897 rfl) (by decide +kernel) ⟨by rw [hR]; exact Nat.le_of_ble_eq_true rfl, by rw [hR]; exact Nat.le_of_ble_eq_true rfl⟩) (my_preV hK hN (hP.sub [2] rfl) (hD.sub [2] (by decide +kernel) rfl) 0 rfl rfl) rfl rfl hl.1 rfl (lv_room (Nat.le_of_ble_eq_true rfl)) d_RC_state_32 ⟨by rw [hR]; exact Nat.le_of_ble_eq_true rfl, by rw [hR]; exact Nat.le_of_ble_eq_true rfl⟩) hP hD hS hA [2] [0, 1] rfl rfl (by decide +kernel) (by decide +kernel) (fun r_32 u9 H locs hw_32 hP hD hS => ?_)
          have hPD : my_PD (dC, dI) vwCl A [(rc, Sum.inr (6, [Value.ref co, Value.ref ma, Value.int (nI k), Value.int fit, Value.int fen, Value.int frd, Value.int fbd, Value.int fir])), (ma, Sum.inl (cM, 8, Sum.inr (Sum.inr (Sum.inr (Sum.inr mf))))), (co, Sum.inr (1, [Value.int xcache, Value.int xpending, Value.long xlow, Value.long xrange, Value.long xcode, Value.long xreadLow, Value.long xreadRange, Value.ref ri, Value.ref ro, Value.ref rw, Value.int xasked]))] H := ⟨hP, hD⟩
          have hP := hPD.1
          have hD := hPD.2
          exact my_lret (v := r_32) hx hb hr hlocks hQ hK hS (Nat.le_refl _) (Nat.le_refl _) () (trivial) (hP.sub [0, 1, 2] rfl) (hD.sub [0, 1, 2] (by decide +kernel) rfl) d_RC_state_35
        · refine lv_lconst (v := 0) hx hb d_RC_state_25 (by decide) ?_
          exact my_lret (v := 0) hx hb hr hlocks hQ hK hS (Nat.le_refl _) (Nat.le_refl _) () (trivial) (hP.sub [0, 1, 2] rfl) (hD.sub [0, 1, 2] (by decide +kernel) rfl) d_RC_state_26
    · refine lv_ldc2 (v := (-2)) hx hb hown (hg _ k895) d_RC_state_9 ?_
      exact my_lret (v := (-2)) hx hb hr hlocks hQ hK hS (Nat.le_refl _) (Nat.le_refl _) () (trivial) (hP.sub [0, 1, 2] rfl) (hD.sub [0, 1, 2] (by decide +kernel) rfl) d_RC_state_12
set_option maxHeartbeats 2000000 in
set_option maxRecDepth 100000 in
theorem c_RC_modelA_Carries (l : Launch) (dC : Nat → ClassId) (dI : Nat → Nat → Nat) (cI cM cO : ClassId) (sz : Nat) (rc : Nat) (ma : Nat) (k : Nat) (fit : Int32) (fen : Int32) (frd : Int32) (fbd : Int32) (fir : Int32) (mf : Nat → Option Nat) (co : Nat) (xcache : Int32) (xpending : Int32) (xlow : Int64) (xrange : Int64) (xcode : Int64) (xreadLow : Int64) (xreadRange : Int64) (ri : Nat) (ro : Nat) (rw : Nat) (xasked : Int32) (nn : Int32) (hrf : nn < 2 ∨ 64 < nn) : MetI l y_RC_model (Cond.code y_RC_model prog_1_method_2_code 3 (some .int) :: gw) ({ frames := 0, cells := 0, slots := 0, locals := 0 } : Room) (dC, dI) vwCl (kT cI cM cO) [Value.ref rc, Value.int nn] [(rc, Sum.inr (6, [Value.ref co, Value.ref ma, Value.int (nI k), Value.int fit, Value.int fen, Value.int frd, Value.int fbd, Value.int fir])), (ma, Sum.inl (cM, 8, Sum.inr (Sum.inr (Sum.inr (Sum.inr mf))))), (co, Sum.inr (1, [Value.int xcache, Value.int xpending, Value.long xlow, Value.long xrange, Value.long xcode, Value.long xreadLow, Value.long xreadRange, Value.ref ri, Value.ref ro, Value.ref rw, Value.int xasked]))] sz (fun (r : Int32) (u : Unit) => r = -2) (fun (u : Unit) => [(rc, Sum.inr (6, [Value.ref co, Value.ref ma, Value.int (nI k), Value.int fit, Value.int fen, Value.int frd, Value.int fbd, Value.int fir])), (ma, Sum.inl (cM, 8, Sum.inr (Sum.inr (Sum.inr (Sum.inr mf))))), (co, Sum.inr (1, [Value.int xcache, Value.int xpending, Value.long xlow, Value.long xrange, Value.long xcode, Value.long xreadLow, Value.long xreadRange, Value.ref ri, Value.ref ro, Value.ref rw, Value.int xasked]))]) 0 0 := by
  refine my_ofI (cc := prog_1_method_2_code) (n := 3) (ret := (some .int)) (by decide) rfl (Nat.le_of_ble_eq_true rfl) ?_
  intro p e s m args below meth c R Q A ls H locs hx hb hr hts hown hlocks hml hnm hR hQ hA hl hP hK hN hD hS
  have hg : ∀ w ∈ gw, w.before args s = true := fun w h => hts w (List.mem_cons_of_mem _ h)
  have hown : s.vm.findClass "RangeCoders" = some m.cls := hown
  have hl : lv_has ls 3 [(0, Value.ref rc), (1, Value.int nn)] := hl
  refine lv_iload_n hx hb d_RC_model_0 rfl (lv_at hl 1 rfl) ?_
  refine lv_iconst (v := 2) hx hb d_RC_model_1 (by decide) ?_
  refine lv_icmp_lt (tgt := 11) hx hb d_RC_model_2 (by decide) (fun c_1 => ?_) (fun c_1 => ?_)
  · refine lv_bipush (v := (-2)) hx hb d_RC_model_11 (by decide) ?_
    exact my_iret (v := (-2)) hx hb hr (rfl) hlocks hQ hK hS (Nat.le_refl _) (Nat.le_refl _) () (rfl) (hP.sub [0, 1, 2] rfl) (hD.sub [0, 1, 2] (by decide +kernel) rfl) d_RC_model_13
  · refine lv_iload_n hx hb d_RC_model_5 rfl (lv_at hl 1 rfl) ?_
    refine lv_bipush (v := 64) hx hb d_RC_model_6 (by decide) ?_
    refine lv_icmp_le (tgt := 14) hx hb d_RC_model_8 (by decide) (fun c_2 => ?_) (fun c_2 => ?_)
    · exact absurd hrf (fun h9 => h9.elim c_1 (fun h8 => absurd c_2 (Int32.not_le.mpr h8)))
    · refine lv_bipush (v := (-2)) hx hb d_RC_model_11 (by decide) ?_
      exact my_iret (v := (-2)) hx hb hr (rfl) hlocks hQ hK hS (Nat.le_refl _) (Nat.le_refl _) () (rfl) (hP.sub [0, 1, 2] rfl) (hD.sub [0, 1, 2] (by decide +kernel) rfl) d_RC_model_13
set_option maxHeartbeats 2000000 in
set_option maxRecDepth 100000 in
theorem c_RC_modelF_Carries (l : Launch) (dC : Nat → ClassId) (dI : Nat → Nat → Nat) (cI cM cO : ClassId) (sz : Nat) (rc : Nat) (ma : Nat) (k : Nat) (fit : Int32) (fen : Int32) (frd : Int32) (fbd : Int32) (fir : Int32) (mf : Nat → Option Nat) (co : Nat) (xcache : Int32) (xpending : Int32) (xlow : Int64) (xrange : Int64) (xcode : Int64) (xreadLow : Int64) (xreadRange : Int64) (ri : Nat) (ro : Nat) (rw : Nat) (xasked : Int32) (ns : Nat) (hns2 : 2 ≤ ns) (hns : ns ≤ 64) (hk : k = 8) : MetI l y_RC_model (Cond.code y_RC_model prog_1_method_2_code 3 (some .int) :: gw) ({ frames := 0, cells := 0, slots := 0, locals := 0 } : Room) (dC, dI) vwCl (kT cI cM cO) [Value.ref rc, Value.int (nI ns)] [(rc, Sum.inr (6, [Value.ref co, Value.ref ma, Value.int (nI k), Value.int fit, Value.int fen, Value.int frd, Value.int fbd, Value.int fir])), (ma, Sum.inl (cM, 8, Sum.inr (Sum.inr (Sum.inr (Sum.inr mf))))), (co, Sum.inr (1, [Value.int xcache, Value.int xpending, Value.long xlow, Value.long xrange, Value.long xcode, Value.long xreadLow, Value.long xreadRange, Value.ref ri, Value.ref ro, Value.ref rw, Value.int xasked]))] sz (fun (r : Int32) (u : Unit) => r = -4) (fun (u : Unit) => [(rc, Sum.inr (6, [Value.ref co, Value.ref ma, Value.int (nI k), Value.int fit, Value.int fen, Value.int frd, Value.int fbd, Value.int fir])), (ma, Sum.inl (cM, 8, Sum.inr (Sum.inr (Sum.inr (Sum.inr mf))))), (co, Sum.inr (1, [Value.int xcache, Value.int xpending, Value.long xlow, Value.long xrange, Value.long xcode, Value.long xreadLow, Value.long xreadRange, Value.ref ri, Value.ref ro, Value.ref rw, Value.int xasked]))]) 0 0 := by
  refine my_ofI (cc := prog_1_method_2_code) (n := 3) (ret := (some .int)) (by decide) rfl (Nat.le_of_ble_eq_true rfl) ?_
  intro p e s m args below meth c R Q A ls H locs hx hb hr hts hown hlocks hml hnm hR hQ hA hl hP hK hN hD hS
  have hg : ∀ w ∈ gw, w.before args s = true := fun w h => hts w (List.mem_cons_of_mem _ h)
  have hown : s.vm.findClass "RangeCoders" = some m.cls := hown
  have hl : lv_has ls 3 [(0, Value.ref rc), (1, Value.int (nI ns))] := hl
  refine lv_iload_n hx hb d_RC_model_0 rfl (lv_at hl 1 rfl) ?_
  refine lv_iconst (v := 2) hx hb d_RC_model_1 (by decide) ?_
  refine lv_icmp_lt (tgt := 11) hx hb d_RC_model_2 (by decide) (fun c_1 => ?_) (fun c_1 => ?_)
  · exact absurd c_1 (show ¬ nI ns < nI 2 from nI_nlt hns2 (by omega))
  · refine lv_iload_n hx hb d_RC_model_5 rfl (lv_at hl 1 rfl) ?_
    refine lv_bipush (v := 64) hx hb d_RC_model_6 (by decide) ?_
    refine lv_icmp_le (tgt := 14) hx hb d_RC_model_8 (by decide) (fun c_2 => ?_) (fun c_2 => ?_)
    · refine lv_aload_n hx hb d_RC_model_14 rfl (lv_at hl 0 rfl) ?_
      refine va_get (D := (dC, dI)) (ci := 6) (v := .int (nI k)) (C := "RangeCoders") (T := T_RC) (N := 8) hx hb hg in_RC hown hK hP 0 rfl rfl 2 (by decide) (hg _ k260) (fun _ h9 => h9) rfl d_RC_model_15 ?_
      refine lv_bipush (v := 8) hx hb d_RC_model_18 (by decide) ?_
      refine lv_icmp_lt (tgt := 26) hx hb d_RC_model_20 (by decide) (fun c_3 => ?_) (fun c_3 => ?_)
      · exact absurd c_3 (show ¬ nI k < nI 8 from nI_nlt (by omega) (by omega))
      · refine lv_bipush (v := (-4)) hx hb d_RC_model_23 (by decide) ?_
        exact my_iret (v := (-4)) hx hb hr (rfl) hlocks hQ hK hS (Nat.le_refl _) (Nat.le_refl _) () (rfl) (hP.sub [0, 1, 2] rfl) (hD.sub [0, 1, 2] (by decide +kernel) rfl) d_RC_model_25
    · exact absurd (show nI ns ≤ nI 64 from nI_le hns (by omega)) c_2
end
