section
set_option maxHeartbeats 2000000 in
set_option maxRecDepth 100000 in
theorem f_Stack_writeLowest (l : Launch) (dC : Nat → ClassId) (dI : Nat → Nat → Nat) (cI cM cO : ClassId) (sz : Nat) (sl : Nat) (co : Nat) (xreadX : Int64) (soa : Nat) (sna : Nat) (swa : Nat) (xkept : Int32) (ri : Nat) (ro : Nat) (rw : Nat) (xasked : Int32) (XX : Nat) (rwa : Nat) (rwk : Nat) (rwf : Nat → Int32) (bs : List Nat) (hX : XX < 2 ^ 62) (hrw : rOk (nI bs.length) rwk) (hGrw : gIs rwf bs) (hN9 : bs.length ≤ 8000) : MetVg l y_Stack_writeLowest (Cond.code y_Stack_writeLowest prog_10_method_11_code 1 none :: gw) ({ frames := 3, cells := rPh rwk, slots := rPh rwk, locals := 83 } : Room) (dC, dI) vwCl (kT cI cM cO) [Value.ref co] [(co, Sum.inr (4, [Value.long (lN XX), Value.long xreadX, Value.ref soa, Value.ref sna, Value.ref swa, Value.int xkept, Value.ref ri, Value.ref ro, Value.ref rw, Value.int xasked])), (rw, Sum.inr (0, [Value.int (nI bs.length), Value.ref rwa])), (rwa, Sum.inl (cI, rwk, Sum.inl rwf))] sz sl (fun (u : Nat × Nat × (Nat → Int32)) => rOk (nI (bs ++ [XX % 256]).length) u.2.1 ∧ gIs u.2.2 (bs ++ [XX % 256])) (fun (u : Nat × Nat × (Nat → Int32)) => [(co, Sum.inr (4, [Value.long (lN (XX / 256)), Value.long xreadX, Value.ref soa, Value.ref sna, Value.ref swa, Value.int xkept, Value.ref ri, Value.ref ro, Value.ref rw, Value.int xasked])), (rw, Sum.inr (0, [Value.int (nI (bs ++ [XX % 256]).length), Value.ref u.1])), (u.1, Sum.inl (cI, u.2.1, Sum.inl u.2.2))]) (rPh rwk) (fun (u : Nat × Nat × (Nat → Int32)) => rPh u.2.1) := by
  refine my_ofVg (cc := prog_10_method_11_code) (n := 1) (ret := none) (by decide) rfl (Nat.le_of_ble_eq_true rfl) ?_
  intro p e s m args below meth c R Q A ls H locs hx hb hr hts hown hlocks hml hnm hR hQ hA hl hP hK hN hD hS
  have hg : ∀ w ∈ gw, w.before args s = true := fun w h => hts w (List.mem_cons_of_mem _ h)
  have hown : s.vm.findClass "RangeCoders$Stack" = some m.cls := hown
  have hl : lv_has ls 1 [(0, Value.ref co)] := hl
  have hltw := rOk_lt hrw
  refine lv_aload_n hx hb d_Stack_writeLowest_0 rfl (lv_at hl 0 rfl) ?_
  refine va_get (D := (dC, dI)) (ci := 4) (v := .ref rw) (C := "RangeCoders$Stack") (T := T_Stack) (N := 10) hx hb hg in_Stack hown hK hP 0 rfl rfl 8 (by decide) (hg _ k118) (fun x9 h9 => u_same (hg _ k119) x9 h9) rfl d_Stack_writeLowest_1 ?_
  refine lv_aload_n hx hb d_Stack_writeLowest_4 rfl (lv_at hl 0 rfl) ?_
  refine va_get (D := (dC, dI)) (ci := 4) (v := .long (lN XX)) (C := "RangeCoders$Stack") (T := T_Stack) (N := 10) hx hb hg in_Stack hown hK hP 0 rfl rfl 0 (by decide) (hg _ k211) (fun x9 h9 => u_same (hg _ k212) x9 h9) rfl d_Stack_writeLowest_5 ?_
  refine lv_ldc2 (v := 255) hx hb hown (hg _ k623) d_Stack_writeLowest_8 ?_
  refine lv_land hx hb d_Stack_writeLowest_11 ?_
  refine lv_topl (fun v_1 ev_1 => ?_)
  refine lv_l2i hx hb d_Stack_writeLowest_12 rfl ?_
  refine lv_topi (fun v_2 ev_2 => ?_)
  have z9 : v_2 = nI (XX % 256) := by subst_vars; rw [L_and8 (by omega)]; exact lN_i _
  subst z9
  refine my_cvg (wr := [(co, Sum.inr (4, [Value.long (lN XX), Value.long xreadX, Value.ref soa, Value.ref sna, Value.ref swa, Value.int xkept, Value.ref ri, Value.ref ro, Value.ref rw, Value.int xasked]))]) (va_runV (As := [Value.int (nI (XX % 256))]) (rest := []) ⟨hx, hb, hml, hown, hts⟩ (f_Row_add l dC dI cI cM cO H.size (hSl H) rw rwa rwk rwf bs (XX % 256) (hrw) (hGrw) (by omega)) (cwV 1 hts (my_gV k624 k473 k474 k6 k475) rfl rfl rfl (by decide +kernel) ⟨by rw [hR]; exact Nat.le_of_ble_eq_true rfl, by rw [hR]; exact Nat.le_of_ble_eq_true rfl⟩) (my_preVg hK hN (hP.sub [1, 2] rfl) (hD.sub [1, 2] (by decide +kernel) rfl) 0 rfl rfl) rfl rfl hl.1 rfl (lv_room (Nat.le_of_ble_eq_true rfl)) d_Stack_writeLowest_13 ⟨by rw [hR]; exact (show 0 + (rPh rwk) ≤ (rPh rwk) by omega), by rw [hR]; exact (show 0 + (rPh rwk) ≤ (rPh rwk) by omega)⟩) hP hD hS hA [1, 2] [0] rfl rfl (by decide +kernel) (by decide +kernel) (fun u9 d_13 H locs hd_13 hw_13 hP hD hS => ?_)
  obtain ⟨rraq_13, rrkq_13, rrfq_13⟩ := u9
  obtain ⟨hrr_13, hGrr_13⟩ : rOk (nI (bs ++ [(XX % 256)]).length) rrkq_13 ∧ gIs rrfq_13 (bs ++ [(XX % 256)]) := hw_13
  have hd_13 : d_13 + (rPh rrkq_13) ≤ (rPh rwk) := hd_13
  have hPD : my_PD (dC, dI) vwCl A [(co, Sum.inr (4, [Value.long (lN XX), Value.long xreadX, Value.ref soa, Value.ref sna, Value.ref swa, Value.int xkept, Value.ref ri, Value.ref ro, Value.ref rw, Value.int xasked])), (rw, Sum.inr (0, [Value.int (nI (bs ++ [(XX % 256)]).length), Value.ref rraq_13])), (rraq_13, Sum.inl (cI, rrkq_13, Sum.inl rrfq_13))] H := ⟨hP, hD⟩
  have hP := hPD.1
  have hD := hPD.2
  refine lv_aload_n hx hb d_Stack_writeLowest_16 rfl (lv_at hl 0 rfl) ?_
  refine lv_dup hx hb d_Stack_writeLowest_17 rfl ?_
  refine va_get (D := (dC, dI)) (ci := 4) (v := .long (lN XX)) (C := "RangeCoders$Stack") (T := T_Stack) (N := 10) hx hb hg in_Stack hown hK hP 0 rfl rfl 0 (by decide) (hg _ k211) (fun x9 h9 => u_same (hg _ k212) x9 h9) rfl d_Stack_writeLowest_18 ?_
  refine lv_bipush (v := 8) hx hb d_Stack_writeLowest_21 (by decide) ?_
  refine lv_lushr hx hb d_Stack_writeLowest_23 rfl ?_
  refine lv_topl (fun v_3 ev_3 => ?_)
  have z9 : v_3 = lN (XX / 256) := by rw [ev_3]; exact U_shr8 (by omega)
  subst z9
  refine va_put (D := (dC, dI)) (ci := 4) (v := .long (lN (XX / 256))) (ty := .long) (C := "RangeCoders$Stack") (T := T_Stack) (N := 10) hx hb hg in_Stack t_Stack o_Stack n_Stack hown hK hP hD hS 0 rfl rfl 0 (by decide) (hg _ k211) (fun x9 h9 => u_same (hg _ k212) x9 h9) rfl (by decide +kernel) rfl rfl (Nat.le_of_ble_eq_true rfl) d_Stack_writeLowest_24 (fun H locs hP hD hS => ?_)
  have hPD : my_PD (dC, dI) vwCl A [(co, Sum.inr (4, [Value.long (lN (XX / 256)), Value.long xreadX, Value.ref soa, Value.ref sna, Value.ref swa, Value.int xkept, Value.ref ri, Value.ref ro, Value.ref rw, Value.int xasked])), (rw, Sum.inr (0, [Value.int (nI (bs ++ [(XX % 256)]).length), Value.ref rraq_13])), (rraq_13, Sum.inl (cI, rrkq_13, Sum.inl rrfq_13))] H := ⟨hP, hD⟩
  have hP := hPD.1
  have hD := hPD.2
  exact my_vretg hx hb hr hlocks hQ hK hS (rraq_13, rrkq_13, rrfq_13) (show (0 + d_13) + (rPh rrkq_13) ≤ (rPh rwk) by omega) (show (0 + d_13) + (rPh rrkq_13) ≤ (rPh rwk) by omega) (⟨hrr_13, hGrr_13⟩) (hP.sub [0, 1, 2] rfl) (hD.sub [0, 1, 2] (by decide +kernel) rfl) d_Stack_writeLowest_27
set_option maxHeartbeats 2000000 in
set_option maxRecDepth 100000 in
theorem f_Stack_stackPart (l : Launch) (dC : Nat → ClassId) (dI : Nat → Nat → Nat) (cI cM cO : ClassId) (sz : Nat) (sl : Nat) (co : Nat) (xreadX : Int64) (soa : Nat) (sna : Nat) (swa : Nat) (xkept : Int32) (ri : Nat) (ro : Nat) (rw : Nat) (xasked : Int32) (XX : Nat) (ff : Nat) (cc : Nat) (rwa : Nat) (rwk : Nat) (rwf : Nat → Int32) (bs : List Nat) (hf0 : 0 < ff) (hf1 : ff ≤ 4096) (hcc : cc ≤ 4096) (hX : XX < 2147483648) (hrw : rOk (nI bs.length) rwk) (hGrw : gIs rwf bs) (hN9 : bs.length + 8 ≤ 7900) : MetVg l y_Stack_stackPart (Cond.code y_Stack_stackPart prog_10_method_10_code 4 none :: gw) ({ frames := 4, cells := rPh rwk, slots := rPh rwk, locals := 103 } : Room) (dC, dI) vwCl (kT cI cM cO) [Value.ref co, Value.int (nI ff), Value.int (nI cc)] [(co, Sum.inr (4, [Value.long (lN XX), Value.long xreadX, Value.ref soa, Value.ref sna, Value.ref swa, Value.int xkept, Value.ref ri, Value.ref ro, Value.ref rw, Value.int xasked])), (rw, Sum.inr (0, [Value.int (nI bs.length), Value.ref rwa])), (rwa, Sum.inl (cI, rwk, Sum.inl rwf))] sz sl (fun (u : Nat × Nat × (Nat → Int32)) => rOk (nI ((s3I ff cc (XX, bs)).2).length) u.2.1 ∧ gIs u.2.2 ((s3I ff cc (XX, bs)).2)) (fun (u : Nat × Nat × (Nat → Int32)) => [(co, Sum.inr (4, [Value.long (lN (s3I ff cc (XX, bs)).1), Value.long xreadX, Value.ref soa, Value.ref sna, Value.ref swa, Value.int xkept, Value.ref ri, Value.ref ro, Value.ref rw, Value.int xasked])), (rw, Sum.inr (0, [Value.int (nI (s3I ff cc (XX, bs)).2.length), Value.ref u.1])), (u.1, Sum.inl (cI, u.2.1, Sum.inl u.2.2))]) (rPh rwk) (fun (u : Nat × Nat × (Nat → Int32)) => rPh u.2.1) := by
  refine my_ofVg (cc := prog_10_method_10_code) (n := 4) (ret := none) (by decide) rfl (Nat.le_of_ble_eq_true rfl) ?_
  intro p e s m args below meth c R Q A ls H locs hx hb hr hts hown hlocks hml hnm hR hQ hA hl hP hK hN hD hS
  have hg : ∀ w ∈ gw, w.before args s = true := fun w h => hts w (List.mem_cons_of_mem _ h)
  have hown : s.vm.findClass "RangeCoders$Stack" = some m.cls := hown
  have hl : lv_has ls 4 [(0, Value.ref co), (1, Value.int (nI ff)), (2, Value.int (nI cc))] := hl
  have hltw := rOk_lt hrw
  refine lv_iload_n hx hb d_Stack_stackPart_0 rfl (lv_at hl 1 rfl) ?_
  refine lv_if_gt (tgt := 5) hx hb d_Stack_stackPart_1 (by decide) (fun c_1 => ?_) (fun c_1 => ?_)
  · refine lv_iconst (v := 0) hx hb d_Stack_stackPart_5 (by decide) ?_
    refine lv_istore_n (lv' := [(3, Value.int 0), (0, Value.ref co), (1, Value.int (nI ff)), (2, Value.int (nI cc))]) hx hb d_Stack_stackPart_6 rfl hl (by decide) rfl (fun ls hl => ?_)
    have J_7 : ∀ (n9_7 : Nat) (e9 : Nat × List Nat) (k9 : Nat) (rwa9 : Nat) (rwk9 : Nat) (rwf9 : Nat → Int32) (d9 : Nat) (hn9_7 : k9 = n9_7) (hE9 : s3N ff 8 (XX, bs) = s3N ff k9 e9) (hk6 : 6 ≤ k9) (hk8 : k9 ≤ 8) (hx9 : e9.1 < xb k9) (hM9 : e9.2.length + k9 ≤ 7900) (hr9 : rOk (nI e9.2.length) rwk9) (hg9 : gIs rwf9 e9.2) (hd9 : d9 + rPh rwk9 ≤ rPh rwk) (H : Heap) (locs : List Loc) (ls : Array Slot), va_P (dC, dI) vwCl [(co, Sum.inr (4, [Value.long (lN e9.1), Value.long xreadX, Value.ref soa, Value.ref sna, Value.ref swa, Value.int xkept, Value.ref ri, Value.ref ro, Value.ref rw, Value.int xasked])), (rw, Sum.inr (0, [Value.int (nI e9.2.length), Value.ref rwa9])), (rwa9, Sum.inl (cI, rwk9, Sum.inl rwf9))] H → va_D A [(co, Sum.inr (4, [Value.long (lN e9.1), Value.long xreadX, Value.ref soa, Value.ref sna, Value.ref swa, Value.int xkept, Value.ref ri, Value.ref ro, Value.ref rw, Value.int xasked])), (rw, Sum.inr (0, [Value.int (nI e9.2.length), Value.ref rwa9])), (rwa9, Sum.inl (cI, rwk9, Sum.inl rwf9))] → va_S A s.heap H locs → lv_has ls 4 [(3, Value.int (nI (8 - k9))), (0, Value.ref co), (1, Value.int (nI ff)), (2, Value.int (nI cc))] → W p l e R s m args below meth c H locs d9 d9 Q (F0 m 7 ls []) := by
      intro n9_7
      induction n9_7 using Nat.strongRecOn with
      | ind n9_7 ih9_7 =>
        intro e9 k9 rwa9 rwk9 rwf9 d9 hn9_7 hE9 hk6 hk8 hx9 hM9 hr9 hg9 hd9 H locs ls hP hD hS hl
        have hxb : xb k9 ≤ 2147483648 := xb_le
        refine lv_iload_n hx hb d_Stack_stackPart_7 rfl (lv_at hl 0 rfl) ?_
        refine lv_bipush (v := 8) hx hb d_Stack_stackPart_8 (by decide) ?_
        refine lv_icmp_ge (tgt := 36) hx hb d_Stack_stackPart_10 (by decide) (fun c_2 => ?_) (fun c_2 => ?_)
        · exact absurd (nI_ge' (n := 8) (by omega) (by decide) c_2) (by omega)
        · refine lv_aload_n hx hb d_Stack_stackPart_13 rfl (lv_at hl 1 rfl) ?_
          refine va_get (D := (dC, dI)) (ci := 4) (v := .long (lN e9.1)) (C := "RangeCoders$Stack") (T := T_Stack) (N := 10) hx hb hg in_Stack hown hK hP 0 rfl rfl 0 (by decide) (hg _ k211) (fun x9 h9 => u_same (hg _ k212) x9 h9) rfl d_Stack_stackPart_14 ?_
          refine lv_iload_n hx hb d_Stack_stackPart_17 rfl (lv_at hl 2 rfl) ?_
          refine lv_i2l hx hb d_Stack_stackPart_18 rfl ?_
          refine lv_topl (fun v_3 ev_3 => ?_)
          refine lv_bipush (v := 19) hx hb d_Stack_stackPart_19 (by decide) ?_
          refine lv_lshl hx hb d_Stack_stackPart_21 rfl ?_
          refine lv_topl (fun v_4 ev_4 => ?_)
          have z9 : v_4 = lN (ff * 524288) := by subst_vars; rw [nI_l (by omega)]; exact L_shl19 _
          subst z9
          refine W.lcmp hx hb d_Stack_stackPart_22 ?_
          refine lv_if_lt (tgt := 36) hx hb d_Stack_stackPart_23 (by decide) (fun c_5 => ?_) (fun c_5 => ?_)
          · rw [lg_cmp_lt] at c_5
            have hlt : ¬ ff * 524288 ≤ e9.1 := by have q := (L_lt (by omega) (by omega)).mp c_5; omega
            have hx8 : s3N ff 8 (XX, bs) = e9 := by rw [hE9, s3N_e hlt]
            refine lv_aload_n hx hb d_Stack_stackPart_36 rfl (lv_at hl 1 rfl) ?_
            refine lv_ldc2 (v := 4096) hx hb hown (hg _ k625) d_Stack_stackPart_37 ?_
            refine lv_aload_n hx hb d_Stack_stackPart_40 rfl (lv_at hl 1 rfl) ?_
            refine va_get (D := (dC, dI)) (ci := 4) (v := .long (lN e9.1)) (C := "RangeCoders$Stack") (T := T_Stack) (N := 10) hx hb hg in_Stack hown hK hP 0 rfl rfl 0 (by decide) (hg _ k211) (fun x9 h9 => u_same (hg _ k212) x9 h9) rfl d_Stack_stackPart_41 ?_
            refine lv_iload_n hx hb d_Stack_stackPart_44 rfl (lv_at hl 2 rfl) ?_
            refine lv_i2l hx hb d_Stack_stackPart_45 rfl ?_
            refine lv_topl (fun v_6 ev_6 => ?_)
            refine lv_ldiv hx hb d_Stack_stackPart_46 (by rw [ev_6]; rw [nI_l (by omega)]; intro z; have := (pk_lEQ (b := 0) (by omega) (by decide)).mp z; omega) ?_
            refine lv_topl (fun v_7 ev_7 => ?_)
            refine lv_lmul hx hb d_Stack_stackPart_47 ?_
            refine lv_topl (fun v_8 ev_8 => ?_)
            refine lv_aload_n hx hb d_Stack_stackPart_48 rfl (lv_at hl 1 rfl) ?_
            refine va_get (D := (dC, dI)) (ci := 4) (v := .long (lN e9.1)) (C := "RangeCoders$Stack") (T := T_Stack) (N := 10) hx hb hg in_Stack hown hK hP 0 rfl rfl 0 (by decide) (hg _ k211) (fun x9 h9 => u_same (hg _ k212) x9 h9) rfl d_Stack_stackPart_49 ?_
            refine lv_iload_n hx hb d_Stack_stackPart_52 rfl (lv_at hl 2 rfl) ?_
            refine lv_i2l hx hb d_Stack_stackPart_53 rfl ?_
            refine lv_topl (fun v_9 ev_9 => ?_)
            refine lv_lrem hx hb d_Stack_stackPart_54 (by rw [ev_9]; rw [nI_l (by omega)]; intro z; have := (pk_lEQ (b := 0) (by omega) (by decide)).mp z; omega) ?_
            refine lv_topl (fun v_10 ev_10 => ?_)
            refine lv_ladd hx hb d_Stack_stackPart_55 ?_
            refine lv_topl (fun v_11 ev_11 => ?_)
            refine lv_iload_n hx hb d_Stack_stackPart_56 rfl (lv_at hl 3 rfl) ?_
            refine lv_i2l hx hb d_Stack_stackPart_57 rfl ?_
            refine lv_topl (fun v_12 ev_12 => ?_)
            refine lv_ladd hx hb d_Stack_stackPart_58 ?_
            refine lv_topl (fun v_13 ev_13 => ?_)
            have z9 : v_13 = lN (s3I ff cc (XX, bs)).1 := by unfold s3I; rw [hx8]; subst_vars; rw [nI_l (by omega), nI_l (by omega), pk_lRem (by omega) hf0 (by omega), pk_lDiv (by omega) hf0 (by omega), show (4096 : Int64) = lN 4096 from rfl, lN_mul, lN_add, lN_add, Nat.mul_comm 4096]
            subst z9
            have hsu : (nI e9.2.length : Int32) = nI (s3I ff cc (XX, bs)).2.length := by unfold s3I; rw [hx8]
            rw [hsu] at hP hD
            have hPD : my_PD (dC, dI) vwCl A [(co, Sum.inr (4, [Value.long (lN e9.1), Value.long xreadX, Value.ref soa, Value.ref sna, Value.ref swa, Value.int xkept, Value.ref ri, Value.ref ro, Value.ref rw, Value.int xasked])), (rw, Sum.inr (0, [Value.int (nI (s3I ff cc (XX, bs)).2.length), Value.ref rwa9])), (rwa9, Sum.inl (cI, rwk9, Sum.inl rwf9))] H := ⟨hP, hD⟩
            have hP := hPD.1
            have hD := hPD.2
            refine va_put (D := (dC, dI)) (ci := 4) (v := .long (lN (s3I ff cc (XX, bs)).1)) (ty := .long) (C := "RangeCoders$Stack") (T := T_Stack) (N := 10) hx hb hg in_Stack t_Stack o_Stack n_Stack hown hK hP hD hS 0 rfl rfl 0 (by decide) (hg _ k211) (fun x9 h9 => u_same (hg _ k212) x9 h9) rfl (by decide +kernel) rfl rfl (Nat.le_of_ble_eq_true rfl) d_Stack_stackPart_59 (fun H locs hP hD hS => ?_)
            have hPD : my_PD (dC, dI) vwCl A [(co, Sum.inr (4, [Value.long (lN (s3I ff cc (XX, bs)).1), Value.long xreadX, Value.ref soa, Value.ref sna, Value.ref swa, Value.int xkept, Value.ref ri, Value.ref ro, Value.ref rw, Value.int xasked])), (rw, Sum.inr (0, [Value.int (nI (s3I ff cc (XX, bs)).2.length), Value.ref rwa9])), (rwa9, Sum.inl (cI, rwk9, Sum.inl rwf9))] H := ⟨hP, hD⟩
            have hP := hPD.1
            have hD := hPD.2
            exact my_vretg hx hb hr hlocks hQ hK hS (rwa9, rwk9, rwf9) (show d9 + (rPh rwk9) ≤ (rPh rwk) by omega) (show d9 + (rPh rwk9) ≤ (rPh rwk) by omega) (⟨by unfold s3I; rw [hx8]; exact hr9, by unfold s3I; rw [hx8]; exact hg9⟩) (hP.sub [0, 1, 2] rfl) (hD.sub [0, 1, 2] (by decide +kernel) rfl) d_Stack_stackPart_62
          · rw [lg_cmp_lt] at c_5
            have hge : ff * 524288 ≤ e9.1 := by
              rcases Nat.lt_or_ge e9.1 (ff * 524288) with q | q
              · exact absurd ((L_lt (by omega) (by omega)).mpr q) c_5
              · exact q
            have hk7 := xb_k hk6 hk8 hf0 hx9 hge
            refine lv_aload_n hx hb d_Stack_stackPart_26 rfl (lv_at hl 1 rfl) ?_
            refine my_cvg (wr := []) (va_runV (As := []) (rest := []) ⟨hx, hb, hml, hown, hts⟩ (f_Stack_writeLowest l dC dI cI cM cO H.size (hSl H) co xreadX soa sna swa xkept ri ro rw xasked e9.1 rwa9 rwk9 rwf9 e9.2 (by omega) (hr9) (hg9) (by omega)) (cwV 0 hts (my_gV k619 k621 ks10 k10 k622) rfl rfl rfl (by decide +kernel) ⟨by rw [hR]; exact Nat.le_of_ble_eq_true rfl, by rw [hR]; exact Nat.le_of_ble_eq_true rfl⟩) (my_preVg hK hN (hP.sub [0, 1, 2] rfl) (hD.sub [0, 1, 2] (by decide +kernel) rfl) 0 rfl rfl) rfl rfl hl.1 rfl (lv_room (Nat.le_of_ble_eq_true rfl)) d_Stack_stackPart_27 ⟨by rw [hR]; exact (show d9 + (rPh rwk9) ≤ (rPh rwk) by omega), by rw [hR]; exact (show d9 + (rPh rwk9) ≤ (rPh rwk) by omega)⟩) hP hD hS hA [0, 1, 2] [] rfl rfl (by decide +kernel) (by decide +kernel) (fun u9 d_27 H locs hd_27 hw_27 hP hD hS => ?_)
            obtain ⟨rwaq_27, rwkq_27, rwfq_27⟩ := u9
            obtain ⟨hrw_27, hGrw_27⟩ : rOk (nI (e9.2 ++ [e9.1 % 256]).length) rwkq_27 ∧ gIs rwfq_27 (e9.2 ++ [e9.1 % 256]) := hw_27
            have hd_27 : d_27 + (rPh rwkq_27) ≤ (rPh rwk9) := hd_27
            have hPD : my_PD (dC, dI) vwCl A [(co, Sum.inr (4, [Value.long (lN (e9.1 / 256)), Value.long xreadX, Value.ref soa, Value.ref sna, Value.ref swa, Value.int xkept, Value.ref ri, Value.ref ro, Value.ref rw, Value.int xasked])), (rw, Sum.inr (0, [Value.int (nI (e9.2 ++ [e9.1 % 256]).length), Value.ref rwaq_27])), (rwaq_27, Sum.inl (cI, rwkq_27, Sum.inl rwfq_27))] H := ⟨hP, hD⟩
            have hP := hPD.1
            have hD := hPD.2
            obtain ⟨v_14, ev_14⟩ : ∃ y : Int32, y = (nI (8 - k9)) + (1) := ⟨_, rfl⟩
            refine lv_iinc (v := v_14) (lv' := [(3, Value.int v_14), (0, Value.ref co), (1, Value.int (nI ff)), (2, Value.int (nI cc))]) hx hb d_Stack_stackPart_30 hl (k := 0) rfl (by rw [ev_14]; rfl) (by decide) rfl (fun ls hl => ?_)
            have z9 : v_14 = nI (8 - (k9 - 1)) := by rw [ev_14, show 8 - (k9 - 1) = 8 - k9 + 1 by omega]; exact nI_1 _
            subst z9
            refine lv_goto (tgt := 7) hx hb d_Stack_stackPart_33 (by decide) ?_
            exact ih9_7 _ (by first | omega | (omega)) (e9.1 / 256, e9.2 ++ [e9.1 % 256]) (k9 - 1) rwaq_27 rwkq_27 rwfq_27 (d9 + d_27) rfl (by rw [hE9, s3N_s (by omega) hge]) (by omega) (by omega) (xb_s hk7 hk8 hx9) (by show (e9.2 ++ [_]).length + (k9 - 1) ≤ _; rw [List.length_append, List.length_singleton]; omega) (hrw_27) (hGrw_27) (by omega) H locs ls (hP.sub [0, 1, 2] rfl) (hD.sub [0, 1, 2] (by decide +kernel) rfl) hS (lv_sub hl [0, 1, 2, 3] rfl)
    exact J_7 _ (XX, bs) (8 : Nat) rwa rwk rwf (0 : Nat) rfl (rfl) (by decide) (by decide) (hX) (by show bs.length + 8 ≤ _; omega) (hrw) (hGrw) (by omega) H locs ls (hP.sub [0, 1, 2] rfl) (hD.sub [0, 1, 2] (by decide +kernel) rfl) hS (lv_sub hl [0, 1, 2, 3] rfl)
  · exact absurd (nI_pos0 hf0 (by omega)) c_1
set_option maxHeartbeats 2000000 in
set_option maxRecDepth 100000 in
theorem f_Stack_stackSign (l : Launch) (dC : Nat → ClassId) (dI : Nat → Nat → Nat) (cI cM cO : ClassId) (sz : Nat) (sl : Nat) (co : Nat) (xreadX : Int64) (soa : Nat) (sna : Nat) (swa : Nat) (xkept : Int32) (ri : Nat) (ro : Nat) (rw : Nat) (xasked : Int32) (XX : Nat) (rwa : Nat) (rwk : Nat) (rwf : Nat → Int32) (bs : List Nat) (oo : Nat) (osg : Int32) (ofc : Int32) (oca : Nat) (opa : Nat) (n : Nat) (ocf : Nat → Int32) (opl : Nat) (opf : Nat → Int32) (F : Nat → Nat) (osm : Int32) (t : Nat) (hn : n ≤ 64) (hpl : opl ≤ 512) (hf : tbI ocf n F) (ht : t < n) (hfc : ofc ≤ nI t) (hFt : 0 < F t) (hsum : ns F n ≤ 4096) (hX : XX < 2147483648) (hrw : rOk (nI bs.length) rwk) (hGrw : gIs rwf bs) (hN9 : bs.length + 8 ≤ 7900) : MetVg l y_Stack_stackSign (Cond.code y_Stack_stackSign prog_10_method_4_code 3 none :: gw) ({ frames := 5, cells := rPh rwk, slots := rPh rwk, locals := 126 } : Room) (dC, dI) vwCl (kT cI cM cO) [Value.ref co, Value.ref oo, Value.int (nI t)] [(co, Sum.inr (4, [Value.long (lN XX), Value.long xreadX, Value.ref soa, Value.ref sna, Value.ref swa, Value.int xkept, Value.ref ri, Value.ref ro, Value.ref rw, Value.int xasked])), (rw, Sum.inr (0, [Value.int (nI bs.length), Value.ref rwa])), (rwa, Sum.inl (cI, rwk, Sum.inl rwf)), (oo, Sum.inr (7, [Value.int osg, Value.int osm, Value.int ofc, Value.ref oca, Value.ref opa])), (oca, Sum.inl (cI, n, Sum.inl ocf)), (opa, Sum.inl (cI, opl, Sum.inl opf))] sz sl (fun (u : Nat × Nat × (Nat → Int32)) => rOk (nI ((s3I (F t) (ns F t) (XX, bs)).2).length) u.2.1 ∧ gIs u.2.2 ((s3I (F t) (ns F t) (XX, bs)).2)) (fun (u : Nat × Nat × (Nat → Int32)) => [(co, Sum.inr (4, [Value.long (lN (s3I (F t) (ns F t) (XX, bs)).1), Value.long xreadX, Value.ref soa, Value.ref sna, Value.ref swa, Value.int xkept, Value.ref ri, Value.ref ro, Value.ref rw, Value.int xasked])), (rw, Sum.inr (0, [Value.int (nI (s3I (F t) (ns F t) (XX, bs)).2.length), Value.ref u.1])), (u.1, Sum.inl (cI, u.2.1, Sum.inl u.2.2)), (oo, Sum.inr (7, [Value.int osg, Value.int osm, Value.int ofc, Value.ref oca, Value.ref opa])), (oca, Sum.inl (cI, n, Sum.inl ocf)), (opa, Sum.inl (cI, opl, Sum.inl opf))]) (rPh rwk) (fun (u : Nat × Nat × (Nat → Int32)) => rPh u.2.1) := by
  refine my_ofVg (cc := prog_10_method_4_code) (n := 3) (ret := none) (by decide) rfl (Nat.le_of_ble_eq_true rfl) ?_
  intro p e s m args below meth c R Q A ls H locs hx hb hr hts hown hlocks hml hnm hR hQ hA hl hP hK hN hD hS
  have hg : ∀ w ∈ gw, w.before args s = true := fun w h => hts w (List.mem_cons_of_mem _ h)
  have hown : s.vm.findClass "RangeCoders$Stack" = some m.cls := hown
  have hl : lv_has ls 3 [(0, Value.ref co), (1, Value.ref oo), (2, Value.int (nI t))] := hl
  have hltw := rOk_lt hrw
  have hm1 := ns_m1 F ht
  refine lv_aload_n hx hb d_Stack_stackSign_0 rfl (lv_at hl 0 rfl) ?_
  refine lv_aload_n hx hb d_Stack_stackSign_1 rfl (lv_at hl 1 rfl) ?_
  refine lv_iload_n hx hb d_Stack_stackSign_2 rfl (lv_at hl 2 rfl) ?_
  refine my_ci (wr := [(co, Sum.inr (4, [Value.long (lN XX), Value.long xreadX, Value.ref soa, Value.ref sna, Value.ref swa, Value.int xkept, Value.ref ri, Value.ref ro, Value.ref rw, Value.int xasked])), (rw, Sum.inr (0, [Value.int (nI bs.length), Value.ref rwa])), (rwa, Sum.inl (cI, rwk, Sum.inl rwf))]) (va_runV (As := [Value.int (nI t)]) (rest := [Value.ref co]) ⟨hx, hb, hml, hown, hts⟩ (f_Odds_at l dC dI cI cM cO H.size oo osg ofc oca opa n ocf opl opf osm t (by first | assumption | omega) (by first | assumption | omega) (by first | assumption | omega) (by first | assumption | omega)) (cwV 1 hts (my_gV k636 k436 k437 k14 k438) rfl rfl rfl (by decide +kernel) ⟨by rw [hR]; exact Nat.le_of_ble_eq_true rfl, by rw [hR]; exact Nat.le_of_ble_eq_true rfl⟩) (my_preV hK hN (hP.sub [3, 4, 5] rfl) (hD.sub [3, 4, 5] (by decide +kernel) rfl) 0 rfl rfl) rfl rfl hl.1 rfl (lv_room (Nat.le_of_ble_eq_true rfl)) d_Stack_stackSign_3 ⟨by rw [hR]; exact (show 0 + 0 ≤ (rPh rwk) by omega), by rw [hR]; exact (show 0 + 0 ≤ (rPh rwk) by omega)⟩) hP hD hS hA [3, 4, 5] [0, 1, 2] rfl rfl (by decide +kernel) (by decide +kernel) (fun r_3 u9 H locs hw_3 hP hD hS => ?_)
  have hr_3 : r_3 = ocf t := hw_3
  have hPD : my_PD (dC, dI) vwCl A [(co, Sum.inr (4, [Value.long (lN XX), Value.long xreadX, Value.ref soa, Value.ref sna, Value.ref swa, Value.int xkept, Value.ref ri, Value.ref ro, Value.ref rw, Value.int xasked])), (rw, Sum.inr (0, [Value.int (nI bs.length), Value.ref rwa])), (rwa, Sum.inl (cI, rwk, Sum.inl rwf)), (oo, Sum.inr (7, [Value.int osg, Value.int osm, Value.int ofc, Value.ref oca, Value.ref opa])), (oca, Sum.inl (cI, n, Sum.inl ocf)), (opa, Sum.inl (cI, opl, Sum.inl opf))] H := ⟨hP, hD⟩
  have hP := hPD.1
  have hD := hPD.2
  rw [hf t ht] at hr_3
  have z9 : r_3 = nI (F t) := hr_3
  subst z9
  refine lv_aload_n hx hb d_Stack_stackSign_6 rfl (lv_at hl 1 rfl) ?_
  refine lv_iload_n hx hb d_Stack_stackSign_7 rfl (lv_at hl 2 rfl) ?_
  refine my_ci (wr := [(co, Sum.inr (4, [Value.long (lN XX), Value.long xreadX, Value.ref soa, Value.ref sna, Value.ref swa, Value.int xkept, Value.ref ri, Value.ref ro, Value.ref rw, Value.int xasked])), (rw, Sum.inr (0, [Value.int (nI bs.length), Value.ref rwa])), (rwa, Sum.inl (cI, rwk, Sum.inl rwf))]) (va_runV (As := [Value.int (nI t)]) (rest := [Value.int (nI (F t)), Value.ref co]) ⟨hx, hb, hml, hown, hts⟩ (f_Odds_below l dC dI cI cM cO H.size oo osg ofc oca opa n ocf opl opf F osm t (by first | assumption | omega) (by first | assumption | omega) (by first | assumption | omega) (by omega)) (cwV 1 hts (my_gV k637 k495 k496 k14 k497) rfl rfl rfl (by decide +kernel) ⟨by rw [hR]; exact Nat.le_of_ble_eq_true rfl, by rw [hR]; exact Nat.le_of_ble_eq_true rfl⟩) (my_preV hK hN (hP.sub [3, 4, 5] rfl) (hD.sub [3, 4, 5] (by decide +kernel) rfl) 0 rfl rfl) rfl rfl hl.1 rfl (lv_room (Nat.le_of_ble_eq_true rfl)) d_Stack_stackSign_8 ⟨by rw [hR]; exact (show 0 + 0 ≤ (rPh rwk) by omega), by rw [hR]; exact (show 0 + 0 ≤ (rPh rwk) by omega)⟩) hP hD hS hA [3, 4, 5] [0, 1, 2] rfl rfl (by decide +kernel) (by decide +kernel) (fun r_8 u9 H locs hw_8 hP hD hS => ?_)
  have hr_8 : r_8 = nI (ns F t) := hw_8
  have hPD : my_PD (dC, dI) vwCl A [(co, Sum.inr (4, [Value.long (lN XX), Value.long xreadX, Value.ref soa, Value.ref sna, Value.ref swa, Value.int xkept, Value.ref ri, Value.ref ro, Value.ref rw, Value.int xasked])), (rw, Sum.inr (0, [Value.int (nI bs.length), Value.ref rwa])), (rwa, Sum.inl (cI, rwk, Sum.inl rwf)), (oo, Sum.inr (7, [Value.int osg, Value.int osm, Value.int ofc, Value.ref oca, Value.ref opa])), (oca, Sum.inl (cI, n, Sum.inl ocf)), (opa, Sum.inl (cI, opl, Sum.inl opf))] H := ⟨hP, hD⟩
  have hP := hPD.1
  have hD := hPD.2
  have z9 : r_8 = nI (ns F t) := hr_8
  subst z9
  refine my_cvg (wr := [(oo, Sum.inr (7, [Value.int osg, Value.int osm, Value.int ofc, Value.ref oca, Value.ref opa])), (oca, Sum.inl (cI, n, Sum.inl ocf)), (opa, Sum.inl (cI, opl, Sum.inl opf))]) (va_runV (As := [Value.int (nI (F t)), Value.int (nI (ns F t))]) (rest := []) ⟨hx, hb, hml, hown, hts⟩ (f_Stack_stackPart l dC dI cI cM cO H.size (hSl H) co xreadX soa sna swa xkept ri ro rw xasked XX (F t) (ns F t) rwa rwk rwf bs (hFt) (by omega) (by omega) (by first | assumption | omega) (by first | assumption | omega) (by first | assumption | omega) (by first | assumption | omega)) (cwV 2 hts (my_gV k615 k617 ks9 k10 k618) rfl rfl rfl (by decide +kernel) ⟨by rw [hR]; exact Nat.le_of_ble_eq_true rfl, by rw [hR]; exact Nat.le_of_ble_eq_true rfl⟩) (my_preVg hK hN (hP.sub [0, 1, 2] rfl) (hD.sub [0, 1, 2] (by decide +kernel) rfl) 0 rfl rfl) rfl rfl hl.1 rfl (lv_room (Nat.le_of_ble_eq_true rfl)) d_Stack_stackSign_11 ⟨by rw [hR]; exact (show 0 + (rPh rwk) ≤ (rPh rwk) by omega), by rw [hR]; exact (show 0 + (rPh rwk) ≤ (rPh rwk) by omega)⟩) hP hD hS hA [0, 1, 2] [3, 4, 5] rfl rfl (by decide +kernel) (by decide +kernel) (fun u9 d_11 H locs hd_11 hw_11 hP hD hS => ?_)
  obtain ⟨rwaq_11, rwkq_11, rwfq_11⟩ := u9
  obtain ⟨hrw_11, hGrw_11⟩ : rOk (nI ((s3I (F t) (ns F t) (XX, bs)).2).length) rwkq_11 ∧ gIs rwfq_11 ((s3I (F t) (ns F t) (XX, bs)).2) := hw_11
  have hd_11 : d_11 + (rPh rwkq_11) ≤ (rPh rwk) := hd_11
  have hPD : my_PD (dC, dI) vwCl A [(oo, Sum.inr (7, [Value.int osg, Value.int osm, Value.int ofc, Value.ref oca, Value.ref opa])), (oca, Sum.inl (cI, n, Sum.inl ocf)), (opa, Sum.inl (cI, opl, Sum.inl opf)), (co, Sum.inr (4, [Value.long (lN (s3I (F t) (ns F t) (XX, bs)).1), Value.long xreadX, Value.ref soa, Value.ref sna, Value.ref swa, Value.int xkept, Value.ref ri, Value.ref ro, Value.ref rw, Value.int xasked])), (rw, Sum.inr (0, [Value.int (nI (s3I (F t) (ns F t) (XX, bs)).2.length), Value.ref rwaq_11])), (rwaq_11, Sum.inl (cI, rwkq_11, Sum.inl rwfq_11))] H := ⟨hP, hD⟩
  have hP := hPD.1
  have hD := hPD.2
  exact my_vretg hx hb hr hlocks hQ hK hS (rwaq_11, rwkq_11, rwfq_11) (show (0 + d_11) + (rPh rwkq_11) ≤ (rPh rwk) by omega) (show (0 + d_11) + (rPh rwkq_11) ≤ (rPh rwk) by omega) (⟨hrw_11, hGrw_11⟩) (hP.sub [3, 4, 5, 0, 1, 2] rfl) (hD.sub [3, 4, 5, 0, 1, 2] (by decide +kernel) rfl) d_Stack_stackSign_14
set_option maxHeartbeats 2000000 in
set_option maxRecDepth 100000 in
theorem f_Stack_stackValue (l : Launch) (dC : Nat → ClassId) (dI : Nat → Nat → Nat) (cI cM cO : ClassId) (sz : Nat) (sl : Nat) (co : Nat) (xreadX : Int64) (soa : Nat) (sna : Nat) (swa : Nat) (xkept : Int32) (ri : Nat) (ro : Nat) (rw : Nat) (xasked : Int32) (XX : Nat) (rwa : Nat) (rwk : Nat) (rwf : Nat → Int32) (bs : List Nat) (v : Nat) (b : Nat) (hb1 : 1 ≤ b) (hb2 : b ≤ 12) (hv : v < 2 ^ b) (hX : XX < 2147483648) (hrw : rOk (nI bs.length) rwk) (hGrw : gIs rwf bs) (hN9 : bs.length + 8 ≤ 7900) : MetVg l y_Stack_stackValue (Cond.code y_Stack_stackValue prog_10_method_5_code 4 none :: gw) ({ frames := 5, cells := rPh rwk, slots := rPh rwk, locals := 126 } : Room) (dC, dI) vwCl (kT cI cM cO) [Value.ref co, Value.int (nI v), Value.int (nI b)] [(co, Sum.inr (4, [Value.long (lN XX), Value.long xreadX, Value.ref soa, Value.ref sna, Value.ref swa, Value.int xkept, Value.ref ri, Value.ref ro, Value.ref rw, Value.int xasked])), (rw, Sum.inr (0, [Value.int (nI bs.length), Value.ref rwa])), (rwa, Sum.inl (cI, rwk, Sum.inl rwf))] sz sl (fun (u : Nat × Nat × (Nat → Int32)) => rOk (nI ((s3I (4096 / 2 ^ b) (4096 / 2 ^ b * v) (XX, bs)).2).length) u.2.1 ∧ gIs u.2.2 ((s3I (4096 / 2 ^ b) (4096 / 2 ^ b * v) (XX, bs)).2)) (fun (u : Nat × Nat × (Nat → Int32)) => [(co, Sum.inr (4, [Value.long (lN (s3I (4096 / 2 ^ b) (4096 / 2 ^ b * v) (XX, bs)).1), Value.long xreadX, Value.ref soa, Value.ref sna, Value.ref swa, Value.int xkept, Value.ref ri, Value.ref ro, Value.ref rw, Value.int xasked])), (rw, Sum.inr (0, [Value.int (nI (s3I (4096 / 2 ^ b) (4096 / 2 ^ b * v) (XX, bs)).2.length), Value.ref u.1])), (u.1, Sum.inl (cI, u.2.1, Sum.inl u.2.2))]) (rPh rwk) (fun (u : Nat × Nat × (Nat → Int32)) => rPh u.2.1) := by
  refine my_ofVg (cc := prog_10_method_5_code) (n := 4) (ret := none) (by decide) rfl (Nat.le_of_ble_eq_true rfl) ?_
  intro p e s m args below meth c R Q A ls H locs hx hb hr hts hown hlocks hml hnm hR hQ hA hl hP hK hN hD hS
  have hg : ∀ w ∈ gw, w.before args s = true := fun w h => hts w (List.mem_cons_of_mem _ h)
  have hown : s.vm.findClass "RangeCoders$Stack" = some m.cls := hown
  have hl : lv_has ls 4 [(0, Value.ref co), (1, Value.int (nI v)), (2, Value.int (nI b))] := hl
  have hltw := rOk_lt hrw
  have hpw : 2 ^ b ≤ 2 ^ 12 := Nat.pow_le_pow_right (by decide) hb2
  have hpw0 : 0 < 2 ^ b := Nat.pow_pos (by decide)
  have hq0 : 0 < 4096 / 2 ^ b := Nat.div_pos hpw hpw0
  have hq1 : 4096 / 2 ^ b ≤ 4096 := Nat.div_le_self _ _
  have hq2 : 4096 / 2 ^ b * v ≤ 4096 / 2 ^ b * 2 ^ b := Nat.mul_le_mul_left _ (by omega)
  have hq3 := Nat.div_mul_le_self 4096 (2 ^ b)
  refine lv_sipush (v := 4096) hx hb d_Stack_stackValue_0 (by decide) ?_
  refine lv_iload_n hx hb d_Stack_stackValue_3 rfl (lv_at hl 2 rfl) ?_
  refine lv_ishr hx hb d_Stack_stackValue_4 ?_
  refine lv_topi (fun v_1 ev_1 => ?_)
  have z9 : v_1 = nI (4096 / 2 ^ b) := by rw [ev_1]; exact I_shr (n := 4096) (by decide) (by omega)
  subst z9
  refine lv_istore_n (lv' := [(3, Value.int (nI (4096 / 2 ^ b))), (0, Value.ref co), (1, Value.int (nI v)), (2, Value.int (nI b))]) hx hb d_Stack_stackValue_5 rfl hl (by decide) rfl (fun ls hl => ?_)
  refine lv_aload_n hx hb d_Stack_stackValue_6 rfl (lv_at hl 1 rfl) ?_
  refine lv_iload_n hx hb d_Stack_stackValue_7 rfl (lv_at hl 0 rfl) ?_
  refine lv_iload_n hx hb d_Stack_stackValue_8 rfl (lv_at hl 0 rfl) ?_
  refine lv_iload_n hx hb d_Stack_stackValue_9 rfl (lv_at hl 2 rfl) ?_
  refine lv_imul hx hb d_Stack_stackValue_10 ?_
  refine lv_topi (fun v_2 ev_2 => ?_)
  have z9 : v_2 = nI (4096 / 2 ^ b * v) := by rw [ev_2]; exact pk_mul _ _
  subst z9
  refine my_cvg (wr := []) (va_runV (As := [Value.int (nI (4096 / 2 ^ b)), Value.int (nI (4096 / 2 ^ b * v))]) (rest := []) ⟨hx, hb, hml, hown, hts⟩ (f_Stack_stackPart l dC dI cI cM cO H.size (hSl H) co xreadX soa sna swa xkept ri ro rw xasked XX (4096 / 2 ^ b) (4096 / 2 ^ b * v) rwa rwk rwf bs (hq0) (hq1) (by omega) (by first | assumption | omega) (by first | assumption | omega) (by first | assumption | omega) (by first | assumption | omega)) (cwV 2 hts (my_gV k615 k617 ks9 k10 k618) rfl rfl rfl (by decide +kernel) ⟨by rw [hR]; exact Nat.le_of_ble_eq_true rfl, by rw [hR]; exact Nat.le_of_ble_eq_true rfl⟩) (my_preVg hK hN (hP.sub [0, 1, 2] rfl) (hD.sub [0, 1, 2] (by decide +kernel) rfl) 0 rfl rfl) rfl rfl hl.1 rfl (lv_room (Nat.le_of_ble_eq_true rfl)) d_Stack_stackValue_11 ⟨by rw [hR]; exact (show 0 + (rPh rwk) ≤ (rPh rwk) by omega), by rw [hR]; exact (show 0 + (rPh rwk) ≤ (rPh rwk) by omega)⟩) hP hD hS hA [0, 1, 2] [] rfl rfl (by decide +kernel) (by decide +kernel) (fun u9 d_11 H locs hd_11 hw_11 hP hD hS => ?_)
  obtain ⟨rwaq_11, rwkq_11, rwfq_11⟩ := u9
  obtain ⟨hrw_11, hGrw_11⟩ : rOk (nI ((s3I (4096 / 2 ^ b) (4096 / 2 ^ b * v) (XX, bs)).2).length) rwkq_11 ∧ gIs rwfq_11 ((s3I (4096 / 2 ^ b) (4096 / 2 ^ b * v) (XX, bs)).2) := hw_11
  have hd_11 : d_11 + (rPh rwkq_11) ≤ (rPh rwk) := hd_11
  have hPD : my_PD (dC, dI) vwCl A [(co, Sum.inr (4, [Value.long (lN (s3I (4096 / 2 ^ b) (4096 / 2 ^ b * v) (XX, bs)).1), Value.long xreadX, Value.ref soa, Value.ref sna, Value.ref swa, Value.int xkept, Value.ref ri, Value.ref ro, Value.ref rw, Value.int xasked])), (rw, Sum.inr (0, [Value.int (nI (s3I (4096 / 2 ^ b) (4096 / 2 ^ b * v) (XX, bs)).2.length), Value.ref rwaq_11])), (rwaq_11, Sum.inl (cI, rwkq_11, Sum.inl rwfq_11))] H := ⟨hP, hD⟩
  have hP := hPD.1
  have hD := hPD.2
  exact my_vretg hx hb hr hlocks hQ hK hS (rwaq_11, rwkq_11, rwfq_11) (show (0 + d_11) + (rPh rwkq_11) ≤ (rPh rwk) by omega) (show (0 + d_11) + (rPh rwkq_11) ≤ (rPh rwk) by omega) (⟨hrw_11, hGrw_11⟩) (hP.sub [0, 1, 2] rfl) (hD.sub [0, 1, 2] (by decide +kernel) rfl) d_Stack_stackValue_14
end
section
set_option maxHeartbeats 2000000 in
set_option maxRecDepth 100000 in
theorem f_Carries_prepare (l : Launch) (dC : Nat → ClassId) (dI : Nat → Nat → Nat) (cI cM cO : ClassId) (sz : Nat) (co : Nat) (xcache : Int32) (xpending : Int32) (xlow : Int64) (xrange : Int64) (xcode : Int64) (xreadLow : Int64) (xreadRange : Int64) (ri : Nat) (ro : Nat) (rw : Nat) (xasked : Int32) (oo : Nat) (osg : Int32) (ofc : Int32) (oca : Nat) (opa : Nat) (n : Nat) (ocf : Nat → Int32) (opl : Nat) (opf : Nat → Int32) (osm : Int32) (ka : Nat) (kf : Nat → Int32) (C : Nat → Nat) (hn : n ≤ 64) (hpl : opl ≤ 512) (hk : tbI kf n C) (hB : bd C n 4095) : MetV l y_Ranged_prepare (Cond.code y_Ranged_prepare prog_8_method_5_code 3 none :: gw) ({ frames := 2, cells := 0, slots := 0, locals := 44 } : Room) (dC, dI) vwCl (kT cI cM cO) [Value.ref co, Value.ref oo, Value.ref ka] [(co, Sum.inr (1, [Value.int xcache, Value.int xpending, Value.long xlow, Value.long xrange, Value.long xcode, Value.long xreadLow, Value.long xreadRange, Value.ref ri, Value.ref ro, Value.ref rw, Value.int xasked])), (oo, Sum.inr (7, [Value.int osg, Value.int osm, Value.int ofc, Value.ref oca, Value.ref opa])), (oca, Sum.inl (cI, n, Sum.inl ocf)), (opa, Sum.inl (cI, opl, Sum.inl opf)), (ka, Sum.inl (cI, n, Sum.inl kf))] sz (fun (u : (Nat → Int32)) => tbI u n (les n C)) (fun (u : (Nat → Int32)) => [(co, Sum.inr (1, [Value.int xcache, Value.int xpending, Value.long xlow, Value.long xrange, Value.long xcode, Value.long xreadLow, Value.long xreadRange, Value.ref ri, Value.ref ro, Value.ref rw, Value.int xasked])), (oo, Sum.inr (7, [Value.int osg, Value.int (nI (ns (les n C) n)), Value.int ofc, Value.ref oca, Value.ref opa])), (oca, Sum.inl (cI, n, Sum.inl u)), (opa, Sum.inl (cI, opl, Sum.inl opf)), (ka, Sum.inl (cI, n, Sum.inl kf))]) 0 0 := by
  refine my_ofV (cc := prog_8_method_5_code) (n := 3) (ret := none) (by decide) rfl (Nat.le_of_ble_eq_true rfl) ?_
  intro p e s m args below meth c R Q A ls H locs hx hb hr hts hown hlocks hml hnm hR hQ hA hl hP hK hN hD hS
  have hg : ∀ w ∈ gw, w.before args s = true := fun w h => hts w (List.mem_cons_of_mem _ h)
  have hown : s.vm.findClass "RangeCoders$Ranged" = some m.cls := hown
  have hl : lv_has ls 3 [(0, Value.ref co), (1, Value.ref oo), (2, Value.ref ka)] := hl
  refine lv_aload_n hx hb d_Ranged_prepare_0 rfl (lv_at hl 1 rfl) ?_
  refine lv_aload_n hx hb d_Ranged_prepare_1 rfl (lv_at hl 2 rfl) ?_
  refine my_cv (wr := [(co, Sum.inr (1, [Value.int xcache, Value.int xpending, Value.long xlow, Value.long xrange, Value.long xcode, Value.long xreadLow, Value.long xreadRange, Value.ref ri, Value.ref ro, Value.ref rw, Value.int xasked]))]) (va_runV (As := [Value.ref ka]) (rest := []) ⟨hx, hb, hml, hown, hts⟩ (f_Odds_fromCounts l dC dI cI cM cO H.size oo osg ofc oca opa n ocf opl opf osm ka kf C (by first | assumption | omega) (by first | assumption | omega) (by first | assumption | omega) (by first | assumption | omega)) (cwV 1 hts (my_gV k367 k368 k369 k14 k370) rfl rfl rfl (by decide +kernel) ⟨by rw [hR]; exact Nat.le_of_ble_eq_true rfl, by rw [hR]; exact Nat.le_of_ble_eq_true rfl⟩) (my_preV hK hN (hP.sub [1, 2, 3, 4] rfl) (hD.sub [1, 2, 3, 4] (by decide +kernel) rfl) 0 rfl rfl) rfl rfl hl.1 rfl (lv_room (Nat.le_of_ble_eq_true rfl)) d_Ranged_prepare_2 ⟨by rw [hR]; exact Nat.le_of_ble_eq_true rfl, by rw [hR]; exact Nat.le_of_ble_eq_true rfl⟩) hP hD hS hA [1, 2, 3, 4] [0] rfl rfl (by decide +kernel) (by decide +kernel) (fun u9 H locs hw_2 hP hD hS => ?_)
  obtain ⟨ocfq_2, rfl⟩ : ∃ z, z = u9 := ⟨_, rfl⟩
  have hf_2 : tbI ocfq_2 n (les n C) := hw_2
  have hPD : my_PD (dC, dI) vwCl A [(co, Sum.inr (1, [Value.int xcache, Value.int xpending, Value.long xlow, Value.long xrange, Value.long xcode, Value.long xreadLow, Value.long xreadRange, Value.ref ri, Value.ref ro, Value.ref rw, Value.int xasked])), (oo, Sum.inr (7, [Value.int osg, Value.int (nI (ns (les n C) n)), Value.int ofc, Value.ref oca, Value.ref opa])), (oca, Sum.inl (cI, n, Sum.inl ocfq_2)), (opa, Sum.inl (cI, opl, Sum.inl opf)), (ka, Sum.inl (cI, n, Sum.inl kf))] H := ⟨hP, hD⟩
  have hP := hPD.1
  have hD := hPD.2
  exact my_vret hx hb hr hlocks hQ hK hS (Nat.le_refl _) (Nat.le_refl _) (ocfq_2) (hf_2) (hP.sub [0, 1, 2, 3, 4] rfl) (hD.sub [0, 1, 2, 3, 4] (by decide +kernel) rfl) d_Ranged_prepare_5
set_option maxHeartbeats 2000000 in
set_option maxRecDepth 100000 in
theorem f_Carries_canWrite (l : Launch) (dC : Nat → ClassId) (dI : Nat → Nat → Nat) (cI cM cO : ClassId) (sz : Nat) (co : Nat) (xcache : Int32) (xpending : Int32) (xlow : Int64) (xrange : Int64) (xcode : Int64) (xreadLow : Int64) (xreadRange : Int64) (ri : Nat) (ro : Nat) (rw : Nat) (xasked : Int32) (oo : Nat) (osg : Int32) (ofc : Int32) (oca : Nat) (opa : Nat) (n : Nat) (ocf : Nat → Int32) (opl : Nat) (opf : Nat → Int32) (F : Nat → Nat) (osm : Int32) (t : Nat) (hn : n ≤ 64) (hpl : opl ≤ 512) (hf : tbI ocf n F) (ht : t < n) (hfc : ofc ≤ nI t) (hFb : F t < 2 ^ 31) : MetI l y_Coder_canWrite (Cond.code y_Coder_canWrite prog_4_method_12_code 3 (some .boolean) :: gw) ({ frames := 2, cells := 0, slots := 0, locals := 42 } : Room) (dC, dI) vwCl (kT cI cM cO) [Value.ref co, Value.ref oo, Value.int (nI t)] [(co, Sum.inr (1, [Value.int xcache, Value.int xpending, Value.long xlow, Value.long xrange, Value.long xcode, Value.long xreadLow, Value.long xreadRange, Value.ref ri, Value.ref ro, Value.ref rw, Value.int xasked])), (oo, Sum.inr (7, [Value.int osg, Value.int osm, Value.int ofc, Value.ref oca, Value.ref opa])), (oca, Sum.inl (cI, n, Sum.inl ocf)), (opa, Sum.inl (cI, opl, Sum.inl opf))] sz (fun (r : Int32) (u : Unit) => r = if 0 < F t then 1 else 0) (fun (u : Unit) => [(co, Sum.inr (1, [Value.int xcache, Value.int xpending, Value.long xlow, Value.long xrange, Value.long xcode, Value.long xreadLow, Value.long xreadRange, Value.ref ri, Value.ref ro, Value.ref rw, Value.int xasked])), (oo, Sum.inr (7, [Value.int osg, Value.int osm, Value.int ofc, Value.ref oca, Value.ref opa])), (oca, Sum.inl (cI, n, Sum.inl ocf)), (opa, Sum.inl (cI, opl, Sum.inl opf))]) 0 0 := by
  refine my_ofI (cc := prog_4_method_12_code) (n := 3) (ret := (some .boolean)) (by decide) rfl (Nat.le_of_ble_eq_true rfl) ?_
  intro p e s m args below meth c R Q A ls H locs hx hb hr hts hown hlocks hml hnm hR hQ hA hl hP hK hN hD hS
  have hg : ∀ w ∈ gw, w.before args s = true := fun w h => hts w (List.mem_cons_of_mem _ h)
  have hown : s.vm.findClass "RangeCoders$Coder" = some m.cls := hown
  have hl : lv_has ls 3 [(0, Value.ref co), (1, Value.ref oo), (2, Value.int (nI t))] := hl
  refine lv_aload_n hx hb d_Coder_canWrite_0 rfl (lv_at hl 1 rfl) ?_
  refine lv_iload_n hx hb d_Coder_canWrite_1 rfl (lv_at hl 2 rfl) ?_
  refine my_ci (wr := [(co, Sum.inr (1, [Value.int xcache, Value.int xpending, Value.long xlow, Value.long xrange, Value.long xcode, Value.long xreadLow, Value.long xreadRange, Value.ref ri, Value.ref ro, Value.ref rw, Value.int xasked]))]) (va_runV (As := [Value.int (nI t)]) (rest := []) ⟨hx, hb, hml, hown, hts⟩ (f_Odds_at l dC dI cI cM cO H.size oo osg ofc oca opa n ocf opl opf osm t (by first | assumption | omega) (by first | assumption | omega) (by first | assumption | omega) (by first | assumption | omega)) (cwV 1 hts (my_gV k435 k436 k437 k14 k438) rfl rfl rfl (by decide +kernel) ⟨by rw [hR]; exact Nat.le_of_ble_eq_true rfl, by rw [hR]; exact Nat.le_of_ble_eq_true rfl⟩) (my_preV hK hN (hP.sub [1, 2, 3] rfl) (hD.sub [1, 2, 3] (by decide +kernel) rfl) 0 rfl rfl) rfl rfl hl.1 rfl (lv_room (Nat.le_of_ble_eq_true rfl)) d_Coder_canWrite_2 ⟨by rw [hR]; exact Nat.le_of_ble_eq_true rfl, by rw [hR]; exact Nat.le_of_ble_eq_true rfl⟩) hP hD hS hA [1, 2, 3] [0] rfl rfl (by decide +kernel) (by decide +kernel) (fun r_2 u9 H locs hw_2 hP hD hS => ?_)
  have hr_2 : r_2 = ocf t := hw_2
  have hPD : my_PD (dC, dI) vwCl A [(co, Sum.inr (1, [Value.int xcache, Value.int xpending, Value.long xlow, Value.long xrange, Value.long xcode, Value.long xreadLow, Value.long xreadRange, Value.ref ri, Value.ref ro, Value.ref rw, Value.int xasked])), (oo, Sum.inr (7, [Value.int osg, Value.int osm, Value.int ofc, Value.ref oca, Value.ref opa])), (oca, Sum.inl (cI, n, Sum.inl ocf)), (opa, Sum.inl (cI, opl, Sum.inl opf))] H := ⟨hP, hD⟩
  have hP := hPD.1
  have hD := hPD.2
  refine lv_if_le (tgt := 12) hx hb d_Coder_canWrite_5 (by decide) (fun c_1 => ?_) (fun c_1 => ?_)
  · refine lv_iconst (v := 0) hx hb d_Coder_canWrite_12 (by decide) ?_
    exact my_iret (v := 0) hx hb hr (rfl) hlocks hQ hK hS (Nat.le_refl _) (Nat.le_refl _) () (by rw [hr_2, hf t ht] at c_1; rw [if_neg (fun q => absurd (nI_pos0 q hFb) (Int32.not_lt.mpr c_1))]) (hP.sub [0, 1, 2, 3] rfl) (hD.sub [0, 1, 2, 3] (by decide +kernel) rfl) d_Coder_canWrite_13
  · refine lv_iconst (v := 1) hx hb d_Coder_canWrite_8 (by decide) ?_
    refine lv_goto (tgt := 13) hx hb d_Coder_canWrite_9 (by decide) ?_
    exact my_iret (v := 1) hx hb hr (rfl) hlocks hQ hK hS (Nat.le_refl _) (Nat.le_refl _) () (by rw [hr_2, hf t ht] at c_1; rw [if_pos (by rcases Nat.eq_zero_or_pos (F t) with q | q; exact absurd (by rw [q]; exact Int32.le_refl _) c_1; exact q)]) (hP.sub [0, 1, 2, 3] rfl) (hD.sub [0, 1, 2, 3] (by decide +kernel) rfl) d_Coder_canWrite_13
set_option maxHeartbeats 2000000 in
set_option maxRecDepth 100000 in
theorem f_NoCarries_prepare (l : Launch) (dC : Nat → ClassId) (dI : Nat → Nat → Nat) (cI cM cO : ClassId) (sz : Nat) (co : Nat) (xlow : Int64) (xrange : Int64) (xcode : Int64) (xreadLow : Int64) (xreadRange : Int64) (ri : Nat) (ro : Nat) (rw : Nat) (xasked : Int32) (oo : Nat) (osg : Int32) (ofc : Int32) (oca : Nat) (opa : Nat) (n : Nat) (ocf : Nat → Int32) (opl : Nat) (opf : Nat → Int32) (osm : Int32) (ka : Nat) (kf : Nat → Int32) (C : Nat → Nat) (hn : n ≤ 64) (hpl : opl ≤ 512) (hk : tbI kf n C) (hB : bd C n 4095) : MetV l y_Ranged_prepare (Cond.code y_Ranged_prepare prog_8_method_5_code 3 none :: gw) ({ frames := 2, cells := 0, slots := 0, locals := 44 } : Room) (dC, dI) vwCl (kT cI cM cO) [Value.ref co, Value.ref oo, Value.ref ka] [(co, Sum.inr (2, [Value.long xlow, Value.long xrange, Value.long xcode, Value.long xreadLow, Value.long xreadRange, Value.ref ri, Value.ref ro, Value.ref rw, Value.int xasked])), (oo, Sum.inr (7, [Value.int osg, Value.int osm, Value.int ofc, Value.ref oca, Value.ref opa])), (oca, Sum.inl (cI, n, Sum.inl ocf)), (opa, Sum.inl (cI, opl, Sum.inl opf)), (ka, Sum.inl (cI, n, Sum.inl kf))] sz (fun (u : (Nat → Int32)) => tbI u n (les n C)) (fun (u : (Nat → Int32)) => [(co, Sum.inr (2, [Value.long xlow, Value.long xrange, Value.long xcode, Value.long xreadLow, Value.long xreadRange, Value.ref ri, Value.ref ro, Value.ref rw, Value.int xasked])), (oo, Sum.inr (7, [Value.int osg, Value.int (nI (ns (les n C) n)), Value.int ofc, Value.ref oca, Value.ref opa])), (oca, Sum.inl (cI, n, Sum.inl u)), (opa, Sum.inl (cI, opl, Sum.inl opf)), (ka, Sum.inl (cI, n, Sum.inl kf))]) 0 0 := by
  refine my_ofV (cc := prog_8_method_5_code) (n := 3) (ret := none) (by decide) rfl (Nat.le_of_ble_eq_true rfl) ?_
  intro p e s m args below meth c R Q A ls H locs hx hb hr hts hown hlocks hml hnm hR hQ hA hl hP hK hN hD hS
  have hg : ∀ w ∈ gw, w.before args s = true := fun w h => hts w (List.mem_cons_of_mem _ h)
  have hown : s.vm.findClass "RangeCoders$Ranged" = some m.cls := hown
  have hl : lv_has ls 3 [(0, Value.ref co), (1, Value.ref oo), (2, Value.ref ka)] := hl
  refine lv_aload_n hx hb d_Ranged_prepare_0 rfl (lv_at hl 1 rfl) ?_
  refine lv_aload_n hx hb d_Ranged_prepare_1 rfl (lv_at hl 2 rfl) ?_
  refine my_cv (wr := [(co, Sum.inr (2, [Value.long xlow, Value.long xrange, Value.long xcode, Value.long xreadLow, Value.long xreadRange, Value.ref ri, Value.ref ro, Value.ref rw, Value.int xasked]))]) (va_runV (As := [Value.ref ka]) (rest := []) ⟨hx, hb, hml, hown, hts⟩ (f_Odds_fromCounts l dC dI cI cM cO H.size oo osg ofc oca opa n ocf opl opf osm ka kf C (by first | assumption | omega) (by first | assumption | omega) (by first | assumption | omega) (by first | assumption | omega)) (cwV 1 hts (my_gV k367 k368 k369 k14 k370) rfl rfl rfl (by decide +kernel) ⟨by rw [hR]; exact Nat.le_of_ble_eq_true rfl, by rw [hR]; exact Nat.le_of_ble_eq_true rfl⟩) (my_preV hK hN (hP.sub [1, 2, 3, 4] rfl) (hD.sub [1, 2, 3, 4] (by decide +kernel) rfl) 0 rfl rfl) rfl rfl hl.1 rfl (lv_room (Nat.le_of_ble_eq_true rfl)) d_Ranged_prepare_2 ⟨by rw [hR]; exact Nat.le_of_ble_eq_true rfl, by rw [hR]; exact Nat.le_of_ble_eq_true rfl⟩) hP hD hS hA [1, 2, 3, 4] [0] rfl rfl (by decide +kernel) (by decide +kernel) (fun u9 H locs hw_2 hP hD hS => ?_)
  obtain ⟨ocfq_2, rfl⟩ : ∃ z, z = u9 := ⟨_, rfl⟩
  have hf_2 : tbI ocfq_2 n (les n C) := hw_2
  have hPD : my_PD (dC, dI) vwCl A [(co, Sum.inr (2, [Value.long xlow, Value.long xrange, Value.long xcode, Value.long xreadLow, Value.long xreadRange, Value.ref ri, Value.ref ro, Value.ref rw, Value.int xasked])), (oo, Sum.inr (7, [Value.int osg, Value.int (nI (ns (les n C) n)), Value.int ofc, Value.ref oca, Value.ref opa])), (oca, Sum.inl (cI, n, Sum.inl ocfq_2)), (opa, Sum.inl (cI, opl, Sum.inl opf)), (ka, Sum.inl (cI, n, Sum.inl kf))] H := ⟨hP, hD⟩
  have hP := hPD.1
  have hD := hPD.2
  exact my_vret hx hb hr hlocks hQ hK hS (Nat.le_refl _) (Nat.le_refl _) (ocfq_2) (hf_2) (hP.sub [0, 1, 2, 3, 4] rfl) (hD.sub [0, 1, 2, 3, 4] (by decide +kernel) rfl) d_Ranged_prepare_5
set_option maxHeartbeats 2000000 in
set_option maxRecDepth 100000 in
theorem f_NoCarries_canWrite (l : Launch) (dC : Nat → ClassId) (dI : Nat → Nat → Nat) (cI cM cO : ClassId) (sz : Nat) (co : Nat) (xlow : Int64) (xrange : Int64) (xcode : Int64) (xreadLow : Int64) (xreadRange : Int64) (ri : Nat) (ro : Nat) (rw : Nat) (xasked : Int32) (oo : Nat) (osg : Int32) (ofc : Int32) (oca : Nat) (opa : Nat) (n : Nat) (ocf : Nat → Int32) (opl : Nat) (opf : Nat → Int32) (F : Nat → Nat) (osm : Int32) (t : Nat) (hn : n ≤ 64) (hpl : opl ≤ 512) (hf : tbI ocf n F) (ht : t < n) (hfc : ofc ≤ nI t) (hFb : F t < 2 ^ 31) : MetI l y_Coder_canWrite (Cond.code y_Coder_canWrite prog_4_method_12_code 3 (some .boolean) :: gw) ({ frames := 2, cells := 0, slots := 0, locals := 42 } : Room) (dC, dI) vwCl (kT cI cM cO) [Value.ref co, Value.ref oo, Value.int (nI t)] [(co, Sum.inr (2, [Value.long xlow, Value.long xrange, Value.long xcode, Value.long xreadLow, Value.long xreadRange, Value.ref ri, Value.ref ro, Value.ref rw, Value.int xasked])), (oo, Sum.inr (7, [Value.int osg, Value.int osm, Value.int ofc, Value.ref oca, Value.ref opa])), (oca, Sum.inl (cI, n, Sum.inl ocf)), (opa, Sum.inl (cI, opl, Sum.inl opf))] sz (fun (r : Int32) (u : Unit) => r = if 0 < F t then 1 else 0) (fun (u : Unit) => [(co, Sum.inr (2, [Value.long xlow, Value.long xrange, Value.long xcode, Value.long xreadLow, Value.long xreadRange, Value.ref ri, Value.ref ro, Value.ref rw, Value.int xasked])), (oo, Sum.inr (7, [Value.int osg, Value.int osm, Value.int ofc, Value.ref oca, Value.ref opa])), (oca, Sum.inl (cI, n, Sum.inl ocf)), (opa, Sum.inl (cI, opl, Sum.inl opf))]) 0 0 := by
  refine my_ofI (cc := prog_4_method_12_code) (n := 3) (ret := (some .boolean)) (by decide) rfl (Nat.le_of_ble_eq_true rfl) ?_
  intro p e s m args below meth c R Q A ls H locs hx hb hr hts hown hlocks hml hnm hR hQ hA hl hP hK hN hD hS
  have hg : ∀ w ∈ gw, w.before args s = true := fun w h => hts w (List.mem_cons_of_mem _ h)
  have hown : s.vm.findClass "RangeCoders$Coder" = some m.cls := hown
  have hl : lv_has ls 3 [(0, Value.ref co), (1, Value.ref oo), (2, Value.int (nI t))] := hl
  refine lv_aload_n hx hb d_Coder_canWrite_0 rfl (lv_at hl 1 rfl) ?_
  refine lv_iload_n hx hb d_Coder_canWrite_1 rfl (lv_at hl 2 rfl) ?_
  refine my_ci (wr := [(co, Sum.inr (2, [Value.long xlow, Value.long xrange, Value.long xcode, Value.long xreadLow, Value.long xreadRange, Value.ref ri, Value.ref ro, Value.ref rw, Value.int xasked]))]) (va_runV (As := [Value.int (nI t)]) (rest := []) ⟨hx, hb, hml, hown, hts⟩ (f_Odds_at l dC dI cI cM cO H.size oo osg ofc oca opa n ocf opl opf osm t (by first | assumption | omega) (by first | assumption | omega) (by first | assumption | omega) (by first | assumption | omega)) (cwV 1 hts (my_gV k435 k436 k437 k14 k438) rfl rfl rfl (by decide +kernel) ⟨by rw [hR]; exact Nat.le_of_ble_eq_true rfl, by rw [hR]; exact Nat.le_of_ble_eq_true rfl⟩) (my_preV hK hN (hP.sub [1, 2, 3] rfl) (hD.sub [1, 2, 3] (by decide +kernel) rfl) 0 rfl rfl) rfl rfl hl.1 rfl (lv_room (Nat.le_of_ble_eq_true rfl)) d_Coder_canWrite_2 ⟨by rw [hR]; exact Nat.le_of_ble_eq_true rfl, by rw [hR]; exact Nat.le_of_ble_eq_true rfl⟩) hP hD hS hA [1, 2, 3] [0] rfl rfl (by decide +kernel) (by decide +kernel) (fun r_2 u9 H locs hw_2 hP hD hS => ?_)
  have hr_2 : r_2 = ocf t := hw_2
  have hPD : my_PD (dC, dI) vwCl A [(co, Sum.inr (2, [Value.long xlow, Value.long xrange, Value.long xcode, Value.long xreadLow, Value.long xreadRange, Value.ref ri, Value.ref ro, Value.ref rw, Value.int xasked])), (oo, Sum.inr (7, [Value.int osg, Value.int osm, Value.int ofc, Value.ref oca, Value.ref opa])), (oca, Sum.inl (cI, n, Sum.inl ocf)), (opa, Sum.inl (cI, opl, Sum.inl opf))] H := ⟨hP, hD⟩
  have hP := hPD.1
  have hD := hPD.2
  refine lv_if_le (tgt := 12) hx hb d_Coder_canWrite_5 (by decide) (fun c_1 => ?_) (fun c_1 => ?_)
  · refine lv_iconst (v := 0) hx hb d_Coder_canWrite_12 (by decide) ?_
    exact my_iret (v := 0) hx hb hr (rfl) hlocks hQ hK hS (Nat.le_refl _) (Nat.le_refl _) () (by rw [hr_2, hf t ht] at c_1; rw [if_neg (fun q => absurd (nI_pos0 q hFb) (Int32.not_lt.mpr c_1))]) (hP.sub [0, 1, 2, 3] rfl) (hD.sub [0, 1, 2, 3] (by decide +kernel) rfl) d_Coder_canWrite_13
  · refine lv_iconst (v := 1) hx hb d_Coder_canWrite_8 (by decide) ?_
    refine lv_goto (tgt := 13) hx hb d_Coder_canWrite_9 (by decide) ?_
    exact my_iret (v := 1) hx hb hr (rfl) hlocks hQ hK hS (Nat.le_refl _) (Nat.le_refl _) () (by rw [hr_2, hf t ht] at c_1; rw [if_pos (by rcases Nat.eq_zero_or_pos (F t) with q | q; exact absurd (by rw [q]; exact Int32.le_refl _) c_1; exact q)]) (hP.sub [0, 1, 2, 3] rfl) (hD.sub [0, 1, 2, 3] (by decide +kernel) rfl) d_Coder_canWrite_13
set_option maxHeartbeats 2000000 in
set_option maxRecDepth 100000 in
theorem f_Bits_prepare (l : Launch) (dC : Nat → ClassId) (dI : Nat → Nat → Nat) (cI cM cO : ClassId) (sz : Nat) (co : Nat) (xshift : Int32) (xkeptCode : Int64) (xkeptRange : Int64) (xkeptAsked : Int32) (xcache : Int32) (xpending : Int32) (xlow : Int64) (xrange : Int64) (xcode : Int64) (xreadLow : Int64) (xreadRange : Int64) (ri : Nat) (ro : Nat) (rw : Nat) (xasked : Int32) (oo : Nat) (osg : Int32) (ofc : Int32) (oca : Nat) (opa : Nat) (n : Nat) (ocf : Nat → Int32) (opl : Nat) (opf : Nat → Int32) (osm : Int32) (ka : Nat) (kl : Nat) (kf : Nat → Int32) (hn : n ≤ 64) (hpl : opl ≤ 512) : MetV l y_Bits_prepare (Cond.code y_Bits_prepare prog_2_method_3_code 3 none :: gw) ({ frames := 2, cells := 0, slots := 0, locals := 44 } : Room) (dC, dI) vwCl (kT cI cM cO) [Value.ref co, Value.ref oo, Value.ref ka] [(co, Sum.inr (3, [Value.int xshift, Value.long xkeptCode, Value.long xkeptRange, Value.int xkeptAsked, Value.int xcache, Value.int xpending, Value.long xlow, Value.long xrange, Value.long xcode, Value.long xreadLow, Value.long xreadRange, Value.ref ri, Value.ref ro, Value.ref rw, Value.int xasked])), (oo, Sum.inr (7, [Value.int osg, Value.int osm, Value.int ofc, Value.ref oca, Value.ref opa])), (oca, Sum.inl (cI, n, Sum.inl ocf)), (opa, Sum.inl (cI, opl, Sum.inl opf)), (ka, Sum.inl (cI, kl, Sum.inl kf))] sz (fun (u : (Nat → Int32)) => tbI u n (fun _ => 1024)) (fun (u : (Nat → Int32)) => [(co, Sum.inr (3, [Value.int xshift, Value.long xkeptCode, Value.long xkeptRange, Value.int xkeptAsked, Value.int xcache, Value.int xpending, Value.long xlow, Value.long xrange, Value.long xcode, Value.long xreadLow, Value.long xreadRange, Value.ref ri, Value.ref ro, Value.ref rw, Value.int xasked])), (oo, Sum.inr (7, [Value.int osg, Value.int (nI (1024 * n)), Value.int ofc, Value.ref oca, Value.ref opa])), (oca, Sum.inl (cI, n, Sum.inl u)), (opa, Sum.inl (cI, opl, Sum.inl opf)), (ka, Sum.inl (cI, kl, Sum.inl kf))]) 0 0 := by
  refine my_ofV (cc := prog_2_method_3_code) (n := 3) (ret := none) (by decide) rfl (Nat.le_of_ble_eq_true rfl) ?_
  intro p e s m args below meth c R Q A ls H locs hx hb hr hts hown hlocks hml hnm hR hQ hA hl hP hK hN hD hS
  have hg : ∀ w ∈ gw, w.before args s = true := fun w h => hts w (List.mem_cons_of_mem _ h)
  have hown : s.vm.findClass "RangeCoders$Bits" = some m.cls := hown
  have hl : lv_has ls 3 [(0, Value.ref co), (1, Value.ref oo), (2, Value.ref ka)] := hl
  refine lv_aload_n hx hb d_Bits_prepare_0 rfl (lv_at hl 1 rfl) ?_
  refine lv_sipush (v := 1024) hx hb d_Bits_prepare_1 (by decide) ?_
  refine W.eq (g2 := F0 m 4 ls [Value.int (nI 1024), Value.ref oo]) rfl ?_
  refine my_cv (wr := [(co, Sum.inr (3, [Value.int xshift, Value.long xkeptCode, Value.long xkeptRange, Value.int xkeptAsked, Value.int xcache, Value.int xpending, Value.long xlow, Value.long xrange, Value.long xcode, Value.long xreadLow, Value.long xreadRange, Value.ref ri, Value.ref ro, Value.ref rw, Value.int xasked])), (ka, Sum.inl (cI, kl, Sum.inl kf))]) (va_runV (As := [Value.int (nI 1024)]) (rest := []) ⟨hx, hb, hml, hown, hts⟩ (f_Odds_fill l dC dI cI cM cO H.size oo osg ofc oca opa n ocf opl opf osm 1024 (by first | assumption | omega) (by first | assumption | omega)) (cwV 1 hts (my_gV k359 k360 k361 k14 k362) rfl rfl rfl (by decide +kernel) ⟨by rw [hR]; exact Nat.le_of_ble_eq_true rfl, by rw [hR]; exact Nat.le_of_ble_eq_true rfl⟩) (my_preV hK hN (hP.sub [1, 2, 3] rfl) (hD.sub [1, 2, 3] (by decide +kernel) rfl) 0 rfl rfl) rfl rfl hl.1 rfl (lv_room (Nat.le_of_ble_eq_true rfl)) d_Bits_prepare_4 ⟨by rw [hR]; exact Nat.le_of_ble_eq_true rfl, by rw [hR]; exact Nat.le_of_ble_eq_true rfl⟩) hP hD hS hA [1, 2, 3] [0, 4] rfl rfl (by decide +kernel) (by decide +kernel) (fun u9 H locs hw_4 hP hD hS => ?_)
  obtain ⟨ocfq_4, rfl⟩ : ∃ z, z = u9 := ⟨_, rfl⟩
  have hf_4 : tbI ocfq_4 n (fun _ => 1024) := hw_4
  have hPD : my_PD (dC, dI) vwCl A [(co, Sum.inr (3, [Value.int xshift, Value.long xkeptCode, Value.long xkeptRange, Value.int xkeptAsked, Value.int xcache, Value.int xpending, Value.long xlow, Value.long xrange, Value.long xcode, Value.long xreadLow, Value.long xreadRange, Value.ref ri, Value.ref ro, Value.ref rw, Value.int xasked])), (ka, Sum.inl (cI, kl, Sum.inl kf)), (oo, Sum.inr (7, [Value.int osg, Value.int (nI (1024 * n)), Value.int ofc, Value.ref oca, Value.ref opa])), (oca, Sum.inl (cI, n, Sum.inl ocfq_4)), (opa, Sum.inl (cI, opl, Sum.inl opf))] H := ⟨hP, hD⟩
  have hP := hPD.1
  have hD := hPD.2
  exact my_vret hx hb hr hlocks hQ hK hS (Nat.le_refl _) (Nat.le_refl _) (ocfq_4) (hf_4) (hP.sub [0, 2, 3, 4, 1] rfl) (hD.sub [0, 2, 3, 4, 1] (by decide +kernel) rfl) d_Bits_prepare_7
set_option maxHeartbeats 2000000 in
set_option maxRecDepth 100000 in
theorem f_Stack_prepare (l : Launch) (dC : Nat → ClassId) (dI : Nat → Nat → Nat) (cI cM cO : ClassId) (sz : Nat) (co : Nat) (xx : Int64) (xreadX : Int64) (soa : Nat) (sna : Nat) (swa : Nat) (xkept : Int32) (ri : Nat) (ro : Nat) (rw : Nat) (xasked : Int32) (oo : Nat) (osg : Int32) (ofc : Int32) (oca : Nat) (opa : Nat) (n : Nat) (ocf : Nat → Int32) (opl : Nat) (opf : Nat → Int32) (osm : Int32) (ka : Nat) (kf : Nat → Int32) (C : Nat → Nat) (hn : n ≤ 64) (hpl : opl ≤ 512) (hk : tbI kf n C) (hB : bd C n 4095) (hn1 : 1 ≤ n) (hfc0 : ofc = 0) : MetV l y_Stack_prepare (Cond.code y_Stack_prepare prog_10_method_2_code 3 none :: gw) ({ frames := 3, cells := 0, slots := 0, locals := 67 } : Room) (dC, dI) vwCl (kT cI cM cO) [Value.ref co, Value.ref oo, Value.ref ka] [(co, Sum.inr (4, [Value.long xx, Value.long xreadX, Value.ref soa, Value.ref sna, Value.ref swa, Value.int xkept, Value.ref ri, Value.ref ro, Value.ref rw, Value.int xasked])), (oo, Sum.inr (7, [Value.int osg, Value.int osm, Value.int ofc, Value.ref oca, Value.ref opa])), (oca, Sum.inl (cI, n, Sum.inl ocf)), (opa, Sum.inl (cI, opl, Sum.inl opf)), (ka, Sum.inl (cI, n, Sum.inl kf))] sz (fun (u : (Nat → Int32)) => tbI u n (sc n 4096 C)) (fun (u : (Nat → Int32)) => [(co, Sum.inr (4, [Value.long xx, Value.long xreadX, Value.ref soa, Value.ref sna, Value.ref swa, Value.int xkept, Value.ref ri, Value.ref ro, Value.ref rw, Value.int xasked])), (oo, Sum.inr (7, [Value.int osg, Value.int (nI (ns (sc n 4096 C) n)), Value.int ofc, Value.ref oca, Value.ref opa])), (oca, Sum.inl (cI, n, Sum.inl u)), (opa, Sum.inl (cI, opl, Sum.inl opf)), (ka, Sum.inl (cI, n, Sum.inl kf))]) 0 0 := by
  refine my_ofV (cc := prog_10_method_2_code) (n := 3) (ret := none) (by decide) rfl (Nat.le_of_ble_eq_true rfl) ?_
  intro p e s m args below meth c R Q A ls H locs hx hb hr hts hown hlocks hml hnm hR hQ hA hl hP hK hN hD hS
  have hg : ∀ w ∈ gw, w.before args s = true := fun w h => hts w (List.mem_cons_of_mem _ h)
  have hown : s.vm.findClass "RangeCoders$Stack" = some m.cls := hown
  have hl : lv_has ls 3 [(0, Value.ref co), (1, Value.ref oo), (2, Value.ref ka)] := hl
  refine lv_aload_n hx hb d_Stack_prepare_0 rfl (lv_at hl 1 rfl) ?_
  refine lv_sipush (v := 4096) hx hb d_Stack_prepare_1 (by decide) ?_
  refine lv_aload_n hx hb d_Stack_prepare_4 rfl (lv_at hl 2 rfl) ?_
  refine W.eq (g2 := F0 m 5 ls [Value.ref ka, Value.int (nI 4096), Value.ref oo]) rfl ?_
  refine my_cv (wr := [(co, Sum.inr (4, [Value.long xx, Value.long xreadX, Value.ref soa, Value.ref sna, Value.ref swa, Value.int xkept, Value.ref ri, Value.ref ro, Value.ref rw, Value.int xasked]))]) (va_runV (As := [Value.int (nI 4096), Value.ref ka]) (rest := []) ⟨hx, hb, hml, hown, hts⟩ (f_Odds_scaleTo l dC dI cI cM cO H.size oo osg ofc oca opa n ocf opl opf osm ka kf C 4096 (by first | assumption | omega) (by first | assumption | omega) (by first | assumption | omega) (by first | assumption | omega) (by first | assumption | omega) (by decide) (by decide) (by first | assumption | omega)) (cwV 2 hts (my_gV k383 k384 k385 k14 k386) rfl rfl rfl (by decide +kernel) ⟨by rw [hR]; exact Nat.le_of_ble_eq_true rfl, by rw [hR]; exact Nat.le_of_ble_eq_true rfl⟩) (my_preV hK hN (hP.sub [1, 2, 3, 4] rfl) (hD.sub [1, 2, 3, 4] (by decide +kernel) rfl) 0 rfl rfl) rfl rfl hl.1 rfl (lv_room (Nat.le_of_ble_eq_true rfl)) d_Stack_prepare_5 ⟨by rw [hR]; exact Nat.le_of_ble_eq_true rfl, by rw [hR]; exact Nat.le_of_ble_eq_true rfl⟩) hP hD hS hA [1, 2, 3, 4] [0] rfl rfl (by decide +kernel) (by decide +kernel) (fun u9 H locs hw_5 hP hD hS => ?_)
  obtain ⟨ocfq_5, rfl⟩ : ∃ z, z = u9 := ⟨_, rfl⟩
  have hf_5 : tbI ocfq_5 n (sc n 4096 C) := hw_5
  have hPD : my_PD (dC, dI) vwCl A [(co, Sum.inr (4, [Value.long xx, Value.long xreadX, Value.ref soa, Value.ref sna, Value.ref swa, Value.int xkept, Value.ref ri, Value.ref ro, Value.ref rw, Value.int xasked])), (oo, Sum.inr (7, [Value.int osg, Value.int (nI (ns (sc n 4096 C) n)), Value.int ofc, Value.ref oca, Value.ref opa])), (oca, Sum.inl (cI, n, Sum.inl ocfq_5)), (opa, Sum.inl (cI, opl, Sum.inl opf)), (ka, Sum.inl (cI, n, Sum.inl kf))] H := ⟨hP, hD⟩
  have hP := hPD.1
  have hD := hPD.2
  exact my_vret hx hb hr hlocks hQ hK hS (Nat.le_refl _) (Nat.le_refl _) (ocfq_5) (hf_5) (hP.sub [0, 1, 2, 3, 4] rfl) (hD.sub [0, 1, 2, 3, 4] (by decide +kernel) rfl) d_Stack_prepare_8
set_option maxHeartbeats 2000000 in
set_option maxRecDepth 100000 in
theorem f_Stack_canWrite (l : Launch) (dC : Nat → ClassId) (dI : Nat → Nat → Nat) (cI cM cO : ClassId) (sz : Nat) (co : Nat) (xx : Int64) (xreadX : Int64) (soa : Nat) (sna : Nat) (swa : Nat) (xkept : Int32) (ri : Nat) (ro : Nat) (rw : Nat) (xasked : Int32) (oo : Nat) (osg : Int32) (ofc : Int32) (oca : Nat) (opa : Nat) (n : Nat) (ocf : Nat → Int32) (opl : Nat) (opf : Nat → Int32) (F : Nat → Nat) (osm : Int32) (t : Nat) (hn : n ≤ 64) (hpl : opl ≤ 512) (hf : tbI ocf n F) (ht : t < n) (hfc : ofc ≤ nI t) (hFb : F t < 2 ^ 31) : MetI l y_Coder_canWrite (Cond.code y_Coder_canWrite prog_4_method_12_code 3 (some .boolean) :: gw) ({ frames := 2, cells := 0, slots := 0, locals := 42 } : Room) (dC, dI) vwCl (kT cI cM cO) [Value.ref co, Value.ref oo, Value.int (nI t)] [(co, Sum.inr (4, [Value.long xx, Value.long xreadX, Value.ref soa, Value.ref sna, Value.ref swa, Value.int xkept, Value.ref ri, Value.ref ro, Value.ref rw, Value.int xasked])), (oo, Sum.inr (7, [Value.int osg, Value.int osm, Value.int ofc, Value.ref oca, Value.ref opa])), (oca, Sum.inl (cI, n, Sum.inl ocf)), (opa, Sum.inl (cI, opl, Sum.inl opf))] sz (fun (r : Int32) (u : Unit) => r = if 0 < F t then 1 else 0) (fun (u : Unit) => [(co, Sum.inr (4, [Value.long xx, Value.long xreadX, Value.ref soa, Value.ref sna, Value.ref swa, Value.int xkept, Value.ref ri, Value.ref ro, Value.ref rw, Value.int xasked])), (oo, Sum.inr (7, [Value.int osg, Value.int osm, Value.int ofc, Value.ref oca, Value.ref opa])), (oca, Sum.inl (cI, n, Sum.inl ocf)), (opa, Sum.inl (cI, opl, Sum.inl opf))]) 0 0 := by
  refine my_ofI (cc := prog_4_method_12_code) (n := 3) (ret := (some .boolean)) (by decide) rfl (Nat.le_of_ble_eq_true rfl) ?_
  intro p e s m args below meth c R Q A ls H locs hx hb hr hts hown hlocks hml hnm hR hQ hA hl hP hK hN hD hS
  have hg : ∀ w ∈ gw, w.before args s = true := fun w h => hts w (List.mem_cons_of_mem _ h)
  have hown : s.vm.findClass "RangeCoders$Coder" = some m.cls := hown
  have hl : lv_has ls 3 [(0, Value.ref co), (1, Value.ref oo), (2, Value.int (nI t))] := hl
  refine lv_aload_n hx hb d_Coder_canWrite_0 rfl (lv_at hl 1 rfl) ?_
  refine lv_iload_n hx hb d_Coder_canWrite_1 rfl (lv_at hl 2 rfl) ?_
  refine my_ci (wr := [(co, Sum.inr (4, [Value.long xx, Value.long xreadX, Value.ref soa, Value.ref sna, Value.ref swa, Value.int xkept, Value.ref ri, Value.ref ro, Value.ref rw, Value.int xasked]))]) (va_runV (As := [Value.int (nI t)]) (rest := []) ⟨hx, hb, hml, hown, hts⟩ (f_Odds_at l dC dI cI cM cO H.size oo osg ofc oca opa n ocf opl opf osm t (by first | assumption | omega) (by first | assumption | omega) (by first | assumption | omega) (by first | assumption | omega)) (cwV 1 hts (my_gV k435 k436 k437 k14 k438) rfl rfl rfl (by decide +kernel) ⟨by rw [hR]; exact Nat.le_of_ble_eq_true rfl, by rw [hR]; exact Nat.le_of_ble_eq_true rfl⟩) (my_preV hK hN (hP.sub [1, 2, 3] rfl) (hD.sub [1, 2, 3] (by decide +kernel) rfl) 0 rfl rfl) rfl rfl hl.1 rfl (lv_room (Nat.le_of_ble_eq_true rfl)) d_Coder_canWrite_2 ⟨by rw [hR]; exact Nat.le_of_ble_eq_true rfl, by rw [hR]; exact Nat.le_of_ble_eq_true rfl⟩) hP hD hS hA [1, 2, 3] [0] rfl rfl (by decide +kernel) (by decide +kernel) (fun r_2 u9 H locs hw_2 hP hD hS => ?_)
  have hr_2 : r_2 = ocf t := hw_2
  have hPD : my_PD (dC, dI) vwCl A [(co, Sum.inr (4, [Value.long xx, Value.long xreadX, Value.ref soa, Value.ref sna, Value.ref swa, Value.int xkept, Value.ref ri, Value.ref ro, Value.ref rw, Value.int xasked])), (oo, Sum.inr (7, [Value.int osg, Value.int osm, Value.int ofc, Value.ref oca, Value.ref opa])), (oca, Sum.inl (cI, n, Sum.inl ocf)), (opa, Sum.inl (cI, opl, Sum.inl opf))] H := ⟨hP, hD⟩
  have hP := hPD.1
  have hD := hPD.2
  refine lv_if_le (tgt := 12) hx hb d_Coder_canWrite_5 (by decide) (fun c_1 => ?_) (fun c_1 => ?_)
  · refine lv_iconst (v := 0) hx hb d_Coder_canWrite_12 (by decide) ?_
    exact my_iret (v := 0) hx hb hr (rfl) hlocks hQ hK hS (Nat.le_refl _) (Nat.le_refl _) () (by rw [hr_2, hf t ht] at c_1; rw [if_neg (fun q => absurd (nI_pos0 q hFb) (Int32.not_lt.mpr c_1))]) (hP.sub [0, 1, 2, 3] rfl) (hD.sub [0, 1, 2, 3] (by decide +kernel) rfl) d_Coder_canWrite_13
  · refine lv_iconst (v := 1) hx hb d_Coder_canWrite_8 (by decide) ?_
    refine lv_goto (tgt := 13) hx hb d_Coder_canWrite_9 (by decide) ?_
    exact my_iret (v := 1) hx hb hr (rfl) hlocks hQ hK hS (Nat.le_refl _) (Nat.le_refl _) () (by rw [hr_2, hf t ht] at c_1; rw [if_pos (by rcases Nat.eq_zero_or_pos (F t) with q | q; exact absurd (by rw [q]; exact Int32.le_refl _) c_1; exact q)]) (hP.sub [0, 1, 2, 3] rfl) (hD.sub [0, 1, 2, 3] (by decide +kernel) rfl) d_Coder_canWrite_13
set_option maxHeartbeats 2000000 in
set_option maxRecDepth 100000 in
theorem f_Table_prepare (l : Launch) (dC : Nat → ClassId) (dI : Nat → Nat → Nat) (cI cM cO : ClassId) (sz : Nat) (co : Nat) (xx : Int64) (xreadX : Int64) (soa : Nat) (sna : Nat) (swa : Nat) (xkept : Int32) (ri : Nat) (ro : Nat) (rw : Nat) (xasked : Int32) (oo : Nat) (osg : Int32) (ofc : Int32) (oca : Nat) (opa : Nat) (n : Nat) (ocf : Nat → Int32) (opf : Nat → Int32) (osm : Int32) (ka : Nat) (kf : Nat → Int32) (C : Nat → Nat) (hn : n ≤ 64) (hk : tbI kf n C) (hB : bd C n 4095) (hn1 : 1 ≤ n) (hfc0 : ofc = 0) : MetV l y_Table_prepare (Cond.code y_Table_prepare prog_12_method_3_code 3 none :: gw) ({ frames := 3, cells := 0, slots := 0, locals := 67 } : Room) (dC, dI) vwCl (kT cI cM cO) [Value.ref co, Value.ref oo, Value.ref ka] [(co, Sum.inr (5, [Value.long xx, Value.long xreadX, Value.ref soa, Value.ref sna, Value.ref swa, Value.int xkept, Value.ref ri, Value.ref ro, Value.ref rw, Value.int xasked])), (oo, Sum.inr (7, [Value.int osg, Value.int osm, Value.int ofc, Value.ref oca, Value.ref opa])), (oca, Sum.inl (cI, n, Sum.inl ocf)), (opa, Sum.inl (cI, 512, Sum.inl opf)), (ka, Sum.inl (cI, n, Sum.inl kf))] sz (fun (u : (Nat → Int32) × (Nat → Int32)) => tbI u.1 n (sc n 512 C) ∧ layt u.2 (sc n 512 C) n (ns (sc n 512 C) n)) (fun (u : (Nat → Int32) × (Nat → Int32)) => [(co, Sum.inr (5, [Value.long xx, Value.long xreadX, Value.ref soa, Value.ref sna, Value.ref swa, Value.int xkept, Value.ref ri, Value.ref ro, Value.ref rw, Value.int xasked])), (oo, Sum.inr (7, [Value.int osg, Value.int (nI (ns (sc n 512 C) n)), Value.int ofc, Value.ref oca, Value.ref opa])), (oca, Sum.inl (cI, n, Sum.inl u.1)), (opa, Sum.inl (cI, 512, Sum.inl u.2)), (ka, Sum.inl (cI, n, Sum.inl kf))]) 0 0 := by
  refine my_ofV (cc := prog_12_method_3_code) (n := 3) (ret := none) (by decide) rfl (Nat.le_of_ble_eq_true rfl) ?_
  intro p e s m args below meth c R Q A ls H locs hx hb hr hts hown hlocks hml hnm hR hQ hA hl hP hK hN hD hS
  have hg : ∀ w ∈ gw, w.before args s = true := fun w h => hts w (List.mem_cons_of_mem _ h)
  have hown : s.vm.findClass "RangeCoders$Table" = some m.cls := hown
  have hl : lv_has ls 3 [(0, Value.ref co), (1, Value.ref oo), (2, Value.ref ka)] := hl
  refine lv_aload_n hx hb d_Table_prepare_0 rfl (lv_at hl 1 rfl) ?_
  refine lv_sipush (v := 512) hx hb d_Table_prepare_1 (by decide) ?_
  refine lv_aload_n hx hb d_Table_prepare_4 rfl (lv_at hl 2 rfl) ?_
  refine W.eq (g2 := F0 m 5 ls [Value.ref ka, Value.int (nI 512), Value.ref oo]) rfl ?_
  refine my_cv (wr := [(co, Sum.inr (5, [Value.long xx, Value.long xreadX, Value.ref soa, Value.ref sna, Value.ref swa, Value.int xkept, Value.ref ri, Value.ref ro, Value.ref rw, Value.int xasked]))]) (va_runV (As := [Value.int (nI 512), Value.ref ka]) (rest := []) ⟨hx, hb, hml, hown, hts⟩ (f_Odds_scaleTo l dC dI cI cM cO H.size oo osg ofc oca opa n ocf 512 opf osm ka kf C 512 (by first | assumption | omega) (by decide) (by first | assumption | omega) (by first | assumption | omega) (by first | assumption | omega) (by decide) (by decide) (by first | assumption | omega)) (cwV 2 hts (my_gV k403 k384 k385 k14 k386) rfl rfl rfl (by decide +kernel) ⟨by rw [hR]; exact Nat.le_of_ble_eq_true rfl, by rw [hR]; exact Nat.le_of_ble_eq_true rfl⟩) (my_preV hK hN (hP.sub [1, 2, 3, 4] rfl) (hD.sub [1, 2, 3, 4] (by decide +kernel) rfl) 0 rfl rfl) rfl rfl hl.1 rfl (lv_room (Nat.le_of_ble_eq_true rfl)) d_Table_prepare_5 ⟨by rw [hR]; exact Nat.le_of_ble_eq_true rfl, by rw [hR]; exact Nat.le_of_ble_eq_true rfl⟩) hP hD hS hA [1, 2, 3, 4] [0] rfl rfl (by decide +kernel) (by decide +kernel) (fun u9 H locs hw_5 hP hD hS => ?_)
  obtain ⟨ocfq_5, rfl⟩ : ∃ z, z = u9 := ⟨_, rfl⟩
  have hf_5 : tbI ocfq_5 n (sc n 512 C) := hw_5
  have hPD : my_PD (dC, dI) vwCl A [(co, Sum.inr (5, [Value.long xx, Value.long xreadX, Value.ref soa, Value.ref sna, Value.ref swa, Value.int xkept, Value.ref ri, Value.ref ro, Value.ref rw, Value.int xasked])), (oo, Sum.inr (7, [Value.int osg, Value.int (nI (ns (sc n 512 C) n)), Value.int ofc, Value.ref oca, Value.ref opa])), (oca, Sum.inl (cI, n, Sum.inl ocfq_5)), (opa, Sum.inl (cI, 512, Sum.inl opf)), (ka, Sum.inl (cI, n, Sum.inl kf))] H := ⟨hP, hD⟩
  have hP := hPD.1
  have hD := hPD.2
  refine lv_aload_n hx hb d_Table_prepare_8 rfl (lv_at hl 1 rfl) ?_
  refine my_cv (wr := [(co, Sum.inr (5, [Value.long xx, Value.long xreadX, Value.ref soa, Value.ref sna, Value.ref swa, Value.int xkept, Value.ref ri, Value.ref ro, Value.ref rw, Value.int xasked])), (ka, Sum.inl (cI, n, Sum.inl kf))]) (va_runV (As := []) (rest := []) ⟨hx, hb, hml, hown, hts⟩ (f_Odds_spread l dC dI cI cM cO H.size oo osg ofc oca opa n ocfq_5 512 opf (sc n 512 C) (nI (ns (sc n 512 C) n)) (by first | assumption | omega) (by decide) (hf_5) (by rcases sc_ok (n := n) (M := 512) (F := C) (by omega) with z | z <;> omega)) (cwV 0 hts (my_gV k404 k405 k406 k14 k407) rfl rfl rfl (by decide +kernel) ⟨by rw [hR]; exact Nat.le_of_ble_eq_true rfl, by rw [hR]; exact Nat.le_of_ble_eq_true rfl⟩) (my_preV hK hN (hP.sub [1, 2, 3] rfl) (hD.sub [1, 2, 3] (by decide +kernel) rfl) 0 rfl rfl) rfl rfl hl.1 rfl (lv_room (Nat.le_of_ble_eq_true rfl)) d_Table_prepare_9 ⟨by rw [hR]; exact Nat.le_of_ble_eq_true rfl, by rw [hR]; exact Nat.le_of_ble_eq_true rfl⟩) hP hD hS hA [1, 2, 3] [0, 4] rfl rfl (by decide +kernel) (by decide +kernel) (fun u9 H locs hw_9 hP hD hS => ?_)
  obtain ⟨opfq_9, rfl⟩ : ∃ z, z = u9 := ⟨_, rfl⟩
  have hl_9 : layt opfq_9 (sc n 512 C) n (ns (sc n 512 C) n) := hw_9
  have hPD : my_PD (dC, dI) vwCl A [(co, Sum.inr (5, [Value.long xx, Value.long xreadX, Value.ref soa, Value.ref sna, Value.ref swa, Value.int xkept, Value.ref ri, Value.ref ro, Value.ref rw, Value.int xasked])), (ka, Sum.inl (cI, n, Sum.inl kf)), (oo, Sum.inr (7, [Value.int osg, Value.int (nI (ns (sc n 512 C) n)), Value.int ofc, Value.ref oca, Value.ref opa])), (oca, Sum.inl (cI, n, Sum.inl ocfq_5)), (opa, Sum.inl (cI, 512, Sum.inl opfq_9))] H := ⟨hP, hD⟩
  have hP := hPD.1
  have hD := hPD.2
  exact my_vret hx hb hr hlocks hQ hK hS (Nat.le_refl _) (Nat.le_refl _) (ocfq_5, opfq_9) (⟨hf_5, hl_9⟩) (hP.sub [0, 2, 3, 4, 1] rfl) (hD.sub [0, 2, 3, 4, 1] (by decide +kernel) rfl) d_Table_prepare_12
set_option maxHeartbeats 2000000 in
set_option maxRecDepth 100000 in
theorem f_Table_canWrite (l : Launch) (dC : Nat → ClassId) (dI : Nat → Nat → Nat) (cI cM cO : ClassId) (sz : Nat) (co : Nat) (xx : Int64) (xreadX : Int64) (soa : Nat) (sna : Nat) (swa : Nat) (xkept : Int32) (ri : Nat) (ro : Nat) (rw : Nat) (xasked : Int32) (oo : Nat) (osg : Int32) (ofc : Int32) (oca : Nat) (opa : Nat) (n : Nat) (ocf : Nat → Int32) (opl : Nat) (opf : Nat → Int32) (F : Nat → Nat) (osm : Int32) (t : Nat) (hn : n ≤ 64) (hpl : opl ≤ 512) (hf : tbI ocf n F) (ht : t < n) (hfc : ofc ≤ nI t) (hFb : F t < 2 ^ 31) : MetI l y_Coder_canWrite (Cond.code y_Coder_canWrite prog_4_method_12_code 3 (some .boolean) :: gw) ({ frames := 2, cells := 0, slots := 0, locals := 42 } : Room) (dC, dI) vwCl (kT cI cM cO) [Value.ref co, Value.ref oo, Value.int (nI t)] [(co, Sum.inr (5, [Value.long xx, Value.long xreadX, Value.ref soa, Value.ref sna, Value.ref swa, Value.int xkept, Value.ref ri, Value.ref ro, Value.ref rw, Value.int xasked])), (oo, Sum.inr (7, [Value.int osg, Value.int osm, Value.int ofc, Value.ref oca, Value.ref opa])), (oca, Sum.inl (cI, n, Sum.inl ocf)), (opa, Sum.inl (cI, opl, Sum.inl opf))] sz (fun (r : Int32) (u : Unit) => r = if 0 < F t then 1 else 0) (fun (u : Unit) => [(co, Sum.inr (5, [Value.long xx, Value.long xreadX, Value.ref soa, Value.ref sna, Value.ref swa, Value.int xkept, Value.ref ri, Value.ref ro, Value.ref rw, Value.int xasked])), (oo, Sum.inr (7, [Value.int osg, Value.int osm, Value.int ofc, Value.ref oca, Value.ref opa])), (oca, Sum.inl (cI, n, Sum.inl ocf)), (opa, Sum.inl (cI, opl, Sum.inl opf))]) 0 0 := by
  refine my_ofI (cc := prog_4_method_12_code) (n := 3) (ret := (some .boolean)) (by decide) rfl (Nat.le_of_ble_eq_true rfl) ?_
  intro p e s m args below meth c R Q A ls H locs hx hb hr hts hown hlocks hml hnm hR hQ hA hl hP hK hN hD hS
  have hg : ∀ w ∈ gw, w.before args s = true := fun w h => hts w (List.mem_cons_of_mem _ h)
  have hown : s.vm.findClass "RangeCoders$Coder" = some m.cls := hown
  have hl : lv_has ls 3 [(0, Value.ref co), (1, Value.ref oo), (2, Value.int (nI t))] := hl
  refine lv_aload_n hx hb d_Coder_canWrite_0 rfl (lv_at hl 1 rfl) ?_
  refine lv_iload_n hx hb d_Coder_canWrite_1 rfl (lv_at hl 2 rfl) ?_
  refine my_ci (wr := [(co, Sum.inr (5, [Value.long xx, Value.long xreadX, Value.ref soa, Value.ref sna, Value.ref swa, Value.int xkept, Value.ref ri, Value.ref ro, Value.ref rw, Value.int xasked]))]) (va_runV (As := [Value.int (nI t)]) (rest := []) ⟨hx, hb, hml, hown, hts⟩ (f_Odds_at l dC dI cI cM cO H.size oo osg ofc oca opa n ocf opl opf osm t (by first | assumption | omega) (by first | assumption | omega) (by first | assumption | omega) (by first | assumption | omega)) (cwV 1 hts (my_gV k435 k436 k437 k14 k438) rfl rfl rfl (by decide +kernel) ⟨by rw [hR]; exact Nat.le_of_ble_eq_true rfl, by rw [hR]; exact Nat.le_of_ble_eq_true rfl⟩) (my_preV hK hN (hP.sub [1, 2, 3] rfl) (hD.sub [1, 2, 3] (by decide +kernel) rfl) 0 rfl rfl) rfl rfl hl.1 rfl (lv_room (Nat.le_of_ble_eq_true rfl)) d_Coder_canWrite_2 ⟨by rw [hR]; exact Nat.le_of_ble_eq_true rfl, by rw [hR]; exact Nat.le_of_ble_eq_true rfl⟩) hP hD hS hA [1, 2, 3] [0] rfl rfl (by decide +kernel) (by decide +kernel) (fun r_2 u9 H locs hw_2 hP hD hS => ?_)
  have hr_2 : r_2 = ocf t := hw_2
  have hPD : my_PD (dC, dI) vwCl A [(co, Sum.inr (5, [Value.long xx, Value.long xreadX, Value.ref soa, Value.ref sna, Value.ref swa, Value.int xkept, Value.ref ri, Value.ref ro, Value.ref rw, Value.int xasked])), (oo, Sum.inr (7, [Value.int osg, Value.int osm, Value.int ofc, Value.ref oca, Value.ref opa])), (oca, Sum.inl (cI, n, Sum.inl ocf)), (opa, Sum.inl (cI, opl, Sum.inl opf))] H := ⟨hP, hD⟩
  have hP := hPD.1
  have hD := hPD.2
  refine lv_if_le (tgt := 12) hx hb d_Coder_canWrite_5 (by decide) (fun c_1 => ?_) (fun c_1 => ?_)
  · refine lv_iconst (v := 0) hx hb d_Coder_canWrite_12 (by decide) ?_
    exact my_iret (v := 0) hx hb hr (rfl) hlocks hQ hK hS (Nat.le_refl _) (Nat.le_refl _) () (by rw [hr_2, hf t ht] at c_1; rw [if_neg (fun q => absurd (nI_pos0 q hFb) (Int32.not_lt.mpr c_1))]) (hP.sub [0, 1, 2, 3] rfl) (hD.sub [0, 1, 2, 3] (by decide +kernel) rfl) d_Coder_canWrite_13
  · refine lv_iconst (v := 1) hx hb d_Coder_canWrite_8 (by decide) ?_
    refine lv_goto (tgt := 13) hx hb d_Coder_canWrite_9 (by decide) ?_
    exact my_iret (v := 1) hx hb hr (rfl) hlocks hQ hK hS (Nat.le_refl _) (Nat.le_refl _) () (by rw [hr_2, hf t ht] at c_1; rw [if_pos (by rcases Nat.eq_zero_or_pos (F t) with q | q; exact absurd (by rw [q]; exact Int32.le_refl _) c_1; exact q)]) (hP.sub [0, 1, 2, 3] rfl) (hD.sub [0, 1, 2, 3] (by decide +kernel) rfl) d_Coder_canWrite_13
set_option maxHeartbeats 2000000 in
set_option maxRecDepth 100000 in
theorem f_Bits_canWrite (l : Launch) (dC : Nat → ClassId) (dI : Nat → Nat → Nat) (cI cM cO : ClassId) (sz : Nat) (co : Nat) (xshift : Int32) (xkeptCode : Int64) (xkeptRange : Int64) (xkeptAsked : Int32) (xcache : Int32) (xpending : Int32) (xlow : Int64) (xrange : Int64) (xcode : Int64) (xreadLow : Int64) (xreadRange : Int64) (ri : Nat) (ro : Nat) (rw : Nat) (xasked : Int32) (oo : Nat) (osg : Int32) (ofc : Int32) (oca : Nat) (opa : Nat) (n : Nat) (ocf : Nat → Int32) (opl : Nat) (opf : Nat → Int32) (osm : Int32) (ii : Int32) : MetI l y_Bits_canWrite (Cond.code y_Bits_canWrite prog_2_method_4_code 3 (some .boolean) :: gw) ({ frames := 0, cells := 0, slots := 0, locals := 0 } : Room) (dC, dI) vwCl (kT cI cM cO) [Value.ref co, Value.ref oo, Value.int ii] [(co, Sum.inr (3, [Value.int xshift, Value.long xkeptCode, Value.long xkeptRange, Value.int xkeptAsked, Value.int xcache, Value.int xpending, Value.long xlow, Value.long xrange, Value.long xcode, Value.long xreadLow, Value.long xreadRange, Value.ref ri, Value.ref ro, Value.ref rw, Value.int xasked])), (oo, Sum.inr (7, [Value.int osg, Value.int osm, Value.int ofc, Value.ref oca, Value.ref opa])), (oca, Sum.inl (cI, n, Sum.inl ocf)), (opa, Sum.inl (cI, opl, Sum.inl opf))] sz (fun (r : Int32) (u : Unit) => r = 1) (fun (u : Unit) => [(co, Sum.inr (3, [Value.int xshift, Value.long xkeptCode, Value.long xkeptRange, Value.int xkeptAsked, Value.int xcache, Value.int xpending, Value.long xlow, Value.long xrange, Value.long xcode, Value.long xreadLow, Value.long xreadRange, Value.ref ri, Value.ref ro, Value.ref rw, Value.int xasked])), (oo, Sum.inr (7, [Value.int osg, Value.int osm, Value.int ofc, Value.ref oca, Value.ref opa])), (oca, Sum.inl (cI, n, Sum.inl ocf)), (opa, Sum.inl (cI, opl, Sum.inl opf))]) 0 0 := by
  refine my_ofI (cc := prog_2_method_4_code) (n := 3) (ret := (some .boolean)) (by decide) rfl (Nat.le_of_ble_eq_true rfl) ?_
  intro p e s m args below meth c R Q A ls H locs hx hb hr hts hown hlocks hml hnm hR hQ hA hl hP hK hN hD hS
  have hg : ∀ w ∈ gw, w.before args s = true := fun w h => hts w (List.mem_cons_of_mem _ h)
  have hown : s.vm.findClass "RangeCoders$Bits" = some m.cls := hown
  have hl : lv_has ls 3 [(0, Value.ref co), (1, Value.ref oo), (2, Value.int ii)] := hl
  refine lv_iconst (v := 1) hx hb d_Bits_canWrite_0 (by decide) ?_
  exact my_iret (v := 1) hx hb hr (rfl) hlocks hQ hK hS (Nat.le_refl _) (Nat.le_refl _) () (rfl) (hP.sub [0, 1, 2, 3] rfl) (hD.sub [0, 1, 2, 3] (by decide +kernel) rfl) d_Bits_canWrite_1
set_option maxHeartbeats 2000000 in
set_option maxRecDepth 100000 in
theorem f_Carries_Ropen (l : Launch) (dC : Nat → ClassId) (dI : Nat → Nat → Nat) (cI cM cO : ClassId) (sz : Nat) (co : Nat) (xcache : Int32) (xpending : Int32) (xlow : Int64) (xrange : Int64) (xcode : Int64) (xreadLow : Int64) (xreadRange : Int64) (ri : Nat) (ro : Nat) (rw : Nat) (xasked : Int32) (rwn : Int32) (rwa : Nat) (rwk : Nat) (rwf : Nat → Int32) (hrw : rOk rwn rwk) : MetV l y_Ranged_openMessage (Cond.code y_Ranged_openMessage prog_8_method_6_code 1 none :: gw) ({ frames := 1, cells := 0, slots := 0, locals := 20 } : Room) (dC, dI) vwCl (kT cI cM cO) [Value.ref co] [(co, Sum.inr (1, [Value.int xcache, Value.int xpending, Value.long xlow, Value.long xrange, Value.long xcode, Value.long xreadLow, Value.long xreadRange, Value.ref ri, Value.ref ro, Value.ref rw, Value.int xasked])), (rw, Sum.inr (0, [Value.int rwn, Value.ref rwa])), (rwa, Sum.inl (cI, rwk, Sum.inl rwf))] sz (fun (u : Unit) => rOk 0 rwk) (fun (u : Unit) => [(co, Sum.inr (1, [Value.int xcache, Value.int xpending, Value.long 0, Value.long 4294967295, Value.long xcode, Value.long xreadLow, Value.long xreadRange, Value.ref ri, Value.ref ro, Value.ref rw, Value.int xasked])), (rw, Sum.inr (0, [Value.int 0, Value.ref rwa])), (rwa, Sum.inl (cI, rwk, Sum.inl rwf))]) 0 0 := by
  refine my_ofV (cc := prog_8_method_6_code) (n := 1) (ret := none) (by decide) rfl (Nat.le_of_ble_eq_true rfl) ?_
  intro p e s m args below meth c R Q A ls H locs hx hb hr hts hown hlocks hml hnm hR hQ hA hl hP hK hN hD hS
  have hg : ∀ w ∈ gw, w.before args s = true := fun w h => hts w (List.mem_cons_of_mem _ h)
  have hown : s.vm.findClass "RangeCoders$Ranged" = some m.cls := hown
  have hl : lv_has ls 1 [(0, Value.ref co)] := hl
  refine lv_aload_n hx hb d_Ranged_openMessage_0 rfl (lv_at hl 0 rfl) ?_
  refine va_get (D := (dC, dI)) (ci := 1) (v := .ref rw) (C := "RangeCoders$Carries") (T := T_Carries) (N := 11) hx hb hg in_Carries hown hK hP 0 rfl rfl 9 (by decide) (hg _ k116) (fun x9 h9 => u_same (hg _ k117) x9 h9) rfl d_Ranged_openMessage_1 ?_
  refine my_cv (wr := [(co, Sum.inr (1, [Value.int xcache, Value.int xpending, Value.long xlow, Value.long xrange, Value.long xcode, Value.long xreadLow, Value.long xreadRange, Value.ref ri, Value.ref ro, Value.ref rw, Value.int xasked]))]) (va_runV (As := []) (rest := []) ⟨hx, hb, hml, hown, hts⟩ (c_Row_clear l dC dI cI cM cO H.size rw rwn rwa rwk rwf (by first | assumption | omega)) (cwV 0 hts (my_gV k692 k594 k595 k6 k596) rfl rfl rfl (by decide +kernel) ⟨by rw [hR]; exact Nat.le_of_ble_eq_true rfl, by rw [hR]; exact Nat.le_of_ble_eq_true rfl⟩) (my_preV hK hN (hP.sub [1, 2] rfl) (hD.sub [1, 2] (by decide +kernel) rfl) 0 rfl rfl) rfl rfl hl.1 rfl (lv_room (Nat.le_of_ble_eq_true rfl)) d_Ranged_openMessage_4 ⟨by rw [hR]; exact Nat.le_of_ble_eq_true rfl, by rw [hR]; exact Nat.le_of_ble_eq_true rfl⟩) hP hD hS hA [1, 2] [0] rfl rfl (by decide +kernel) (by decide +kernel) (fun u9 H locs hw_4 hP hD hS => ?_)
  have hr_4 : rOk 0 rwk := hw_4
  have hPD : my_PD (dC, dI) vwCl A [(co, Sum.inr (1, [Value.int xcache, Value.int xpending, Value.long xlow, Value.long xrange, Value.long xcode, Value.long xreadLow, Value.long xreadRange, Value.ref ri, Value.ref ro, Value.ref rw, Value.int xasked])), (rw, Sum.inr (0, [Value.int 0, Value.ref rwa])), (rwa, Sum.inl (cI, rwk, Sum.inl rwf))] H := ⟨hP, hD⟩
  have hP := hPD.1
  have hD := hPD.2
  refine lv_aload_n hx hb d_Ranged_openMessage_7 rfl (lv_at hl 0 rfl) ?_
  refine lv_lconst (v := 0) hx hb d_Ranged_openMessage_8 (by decide) ?_
  refine va_put (D := (dC, dI)) (ci := 1) (v := .long 0) (ty := .long) (C := "RangeCoders$Carries") (T := T_Carries) (N := 11) hx hb hg in_Carries t_Carries o_Carries n_Carries hown hK hP hD hS 0 rfl rfl 2 (by decide) (hg _ k74) (fun _ h9 => h9) rfl (by decide +kernel) rfl rfl (Nat.le_of_ble_eq_true rfl) d_Ranged_openMessage_9 (fun H locs hP hD hS => ?_)
  have hPD : my_PD (dC, dI) vwCl A [(co, Sum.inr (1, [Value.int xcache, Value.int xpending, Value.long 0, Value.long xrange, Value.long xcode, Value.long xreadLow, Value.long xreadRange, Value.ref ri, Value.ref ro, Value.ref rw, Value.int xasked])), (rw, Sum.inr (0, [Value.int 0, Value.ref rwa])), (rwa, Sum.inl (cI, rwk, Sum.inl rwf))] H := ⟨hP, hD⟩
  have hP := hPD.1
  have hD := hPD.2
  refine lv_aload_n hx hb d_Ranged_openMessage_12 rfl (lv_at hl 0 rfl) ?_
  refine lv_ldc2 (v := 4294967295) hx hb hown (hg _ k67) d_Ranged_openMessage_13 ?_
  refine va_put (D := (dC, dI)) (ci := 1) (v := .long 4294967295) (ty := .long) (C := "RangeCoders$Carries") (T := T_Carries) (N := 11) hx hb hg in_Carries t_Carries o_Carries n_Carries hown hK hP hD hS 0 rfl rfl 3 (by decide) (hg _ k77) (fun _ h9 => h9) rfl (by decide +kernel) rfl rfl (Nat.le_of_ble_eq_true rfl) d_Ranged_openMessage_16 (fun H locs hP hD hS => ?_)
  have hPD : my_PD (dC, dI) vwCl A [(co, Sum.inr (1, [Value.int xcache, Value.int xpending, Value.long 0, Value.long 4294967295, Value.long xcode, Value.long xreadLow, Value.long xreadRange, Value.ref ri, Value.ref ro, Value.ref rw, Value.int xasked])), (rw, Sum.inr (0, [Value.int 0, Value.ref rwa])), (rwa, Sum.inl (cI, rwk, Sum.inl rwf))] H := ⟨hP, hD⟩
  have hP := hPD.1
  have hD := hPD.2
  exact my_vret hx hb hr hlocks hQ hK hS (Nat.le_refl _) (Nat.le_refl _) () (hr_4) (hP.sub [0, 1, 2] rfl) (hD.sub [0, 1, 2] (by decide +kernel) rfl) d_Ranged_openMessage_19
set_option maxHeartbeats 2000000 in
set_option maxRecDepth 100000 in
theorem f_Carries_open (l : Launch) (dC : Nat → ClassId) (dI : Nat → Nat → Nat) (cI cM cO : ClassId) (sz : Nat) (co : Nat) (xcache : Int32) (xpending : Int32) (xlow : Int64) (xrange : Int64) (xcode : Int64) (xreadLow : Int64) (xreadRange : Int64) (ri : Nat) (ro : Nat) (rw : Nat) (xasked : Int32) (rwn : Int32) (rwa : Nat) (rwk : Nat) (rwf : Nat → Int32) (hrw : rOk rwn rwk) : MetV l y_Carries_openMessage (Cond.code y_Carries_openMessage prog_3_method_2_code 1 none :: gw) ({ frames := 2, cells := 0, slots := 0, locals := 40 } : Room) (dC, dI) vwCl (kT cI cM cO) [Value.ref co] [(co, Sum.inr (1, [Value.int xcache, Value.int xpending, Value.long xlow, Value.long xrange, Value.long xcode, Value.long xreadLow, Value.long xreadRange, Value.ref ri, Value.ref ro, Value.ref rw, Value.int xasked])), (rw, Sum.inr (0, [Value.int rwn, Value.ref rwa])), (rwa, Sum.inl (cI, rwk, Sum.inl rwf))] sz (fun (u : Unit) => rOk 0 rwk) (fun (u : Unit) => [(co, Sum.inr (1, [Value.int (-1), Value.int 0, Value.long 0, Value.long 4294967295, Value.long xcode, Value.long xreadLow, Value.long xreadRange, Value.ref ri, Value.ref ro, Value.ref rw, Value.int xasked])), (rw, Sum.inr (0, [Value.int 0, Value.ref rwa])), (rwa, Sum.inl (cI, rwk, Sum.inl rwf))]) 0 0 := by
  refine my_ofV (cc := prog_3_method_2_code) (n := 1) (ret := none) (by decide) rfl (Nat.le_of_ble_eq_true rfl) ?_
  intro p e s m args below meth c R Q A ls H locs hx hb hr hts hown hlocks hml hnm hR hQ hA hl hP hK hN hD hS
  have hg : ∀ w ∈ gw, w.before args s = true := fun w h => hts w (List.mem_cons_of_mem _ h)
  have hown : s.vm.findClass "RangeCoders$Carries" = some m.cls := hown
  have hl : lv_has ls 1 [(0, Value.ref co)] := hl
  refine lv_aload_n hx hb d_Carries_openMessage_0 rfl (lv_at hl 0 rfl) ?_
  refine my_cv (wr := []) (va_runSU (As := []) (rest := []) (hK.1 1 _ rfl).2 ⟨hx, hb, hml, hown, hts⟩ (f_Carries_Ropen l dC dI cI cM cO H.size co xcache xpending xlow xrange xcode xreadLow xreadRange ri ro rw xasked rwn rwa rwk rwf (by first | assumption | omega)) (va_cwSU 0 hts (my_gSU k689 k1288 k153 k690 k4 k691) rfl rfl rfl (by decide +kernel) ⟨by rw [hR]; exact Nat.le_of_ble_eq_true rfl, by rw [hR]; exact Nat.le_of_ble_eq_true rfl⟩) (my_preV hK hN (hP.sub [0, 1, 2] rfl) (hD.sub [0, 1, 2] (by decide +kernel) rfl) 0 rfl rfl) rfl rfl hl.1 rfl (lv_room (Nat.le_of_ble_eq_true rfl)) d_Carries_openMessage_1 ⟨by rw [hR]; exact Nat.le_of_ble_eq_true rfl, by rw [hR]; exact Nat.le_of_ble_eq_true rfl⟩) hP hD hS hA [0, 1, 2] [] rfl rfl (by decide +kernel) (by decide +kernel) (fun u9 H locs hw_1 hP hD hS => ?_)
  have hr_1 : rOk 0 rwk := hw_1
  have hPD : my_PD (dC, dI) vwCl A [(co, Sum.inr (1, [Value.int xcache, Value.int xpending, Value.long 0, Value.long 4294967295, Value.long xcode, Value.long xreadLow, Value.long xreadRange, Value.ref ri, Value.ref ro, Value.ref rw, Value.int xasked])), (rw, Sum.inr (0, [Value.int 0, Value.ref rwa])), (rwa, Sum.inl (cI, rwk, Sum.inl rwf))] H := ⟨hP, hD⟩
  have hP := hPD.1
  have hD := hPD.2
  refine lv_aload_n hx hb d_Carries_openMessage_4 rfl (lv_at hl 0 rfl) ?_
  refine lv_iconst (v := (-1)) hx hb d_Carries_openMessage_5 (by decide) ?_
  refine va_put (D := (dC, dI)) (ci := 1) (v := .int (-1)) (ty := .int) (C := "RangeCoders$Carries") (T := T_Carries) (N := 11) hx hb hg in_Carries t_Carries o_Carries n_Carries hown hK hP hD hS 0 rfl rfl 0 (by decide) (hg _ k68) (fun _ h9 => h9) rfl (by decide +kernel) rfl rfl (Nat.le_of_ble_eq_true rfl) d_Carries_openMessage_6 (fun H locs hP hD hS => ?_)
  have hPD : my_PD (dC, dI) vwCl A [(co, Sum.inr (1, [Value.int (-1), Value.int xpending, Value.long 0, Value.long 4294967295, Value.long xcode, Value.long xreadLow, Value.long xreadRange, Value.ref ri, Value.ref ro, Value.ref rw, Value.int xasked])), (rw, Sum.inr (0, [Value.int 0, Value.ref rwa])), (rwa, Sum.inl (cI, rwk, Sum.inl rwf))] H := ⟨hP, hD⟩
  have hP := hPD.1
  have hD := hPD.2
  refine lv_aload_n hx hb d_Carries_openMessage_9 rfl (lv_at hl 0 rfl) ?_
  refine lv_iconst (v := 0) hx hb d_Carries_openMessage_10 (by decide) ?_
  refine va_put (D := (dC, dI)) (ci := 1) (v := .int 0) (ty := .int) (C := "RangeCoders$Carries") (T := T_Carries) (N := 11) hx hb hg in_Carries t_Carries o_Carries n_Carries hown hK hP hD hS 0 rfl rfl 1 (by decide) (hg _ k69) (fun _ h9 => h9) rfl (by decide +kernel) rfl rfl (Nat.le_of_ble_eq_true rfl) d_Carries_openMessage_11 (fun H locs hP hD hS => ?_)
  have hPD : my_PD (dC, dI) vwCl A [(co, Sum.inr (1, [Value.int (-1), Value.int 0, Value.long 0, Value.long 4294967295, Value.long xcode, Value.long xreadLow, Value.long xreadRange, Value.ref ri, Value.ref ro, Value.ref rw, Value.int xasked])), (rw, Sum.inr (0, [Value.int 0, Value.ref rwa])), (rwa, Sum.inl (cI, rwk, Sum.inl rwf))] H := ⟨hP, hD⟩
  have hP := hPD.1
  have hD := hPD.2
  exact my_vret hx hb hr hlocks hQ hK hS (Nat.le_refl _) (Nat.le_refl _) () (hr_1) (hP.sub [0, 1, 2] rfl) (hD.sub [0, 1, 2] (by decide +kernel) rfl) d_Carries_openMessage_14
set_option maxHeartbeats 2000000 in
set_option maxRecDepth 100000 in
theorem f_NoCarries_Ropen (l : Launch) (dC : Nat → ClassId) (dI : Nat → Nat → Nat) (cI cM cO : ClassId) (sz : Nat) (co : Nat) (xlow : Int64) (xrange : Int64) (xcode : Int64) (xreadLow : Int64) (xreadRange : Int64) (ri : Nat) (ro : Nat) (rw : Nat) (xasked : Int32) (rwn : Int32) (rwa : Nat) (rwk : Nat) (rwf : Nat → Int32) (hrw : rOk rwn rwk) : MetV l y_Ranged_openMessage (Cond.code y_Ranged_openMessage prog_8_method_6_code 1 none :: gw) ({ frames := 1, cells := 0, slots := 0, locals := 20 } : Room) (dC, dI) vwCl (kT cI cM cO) [Value.ref co] [(co, Sum.inr (2, [Value.long xlow, Value.long xrange, Value.long xcode, Value.long xreadLow, Value.long xreadRange, Value.ref ri, Value.ref ro, Value.ref rw, Value.int xasked])), (rw, Sum.inr (0, [Value.int rwn, Value.ref rwa])), (rwa, Sum.inl (cI, rwk, Sum.inl rwf))] sz (fun (u : Unit) => rOk 0 rwk) (fun (u : Unit) => [(co, Sum.inr (2, [Value.long 0, Value.long 4294967295, Value.long xcode, Value.long xreadLow, Value.long xreadRange, Value.ref ri, Value.ref ro, Value.ref rw, Value.int xasked])), (rw, Sum.inr (0, [Value.int 0, Value.ref rwa])), (rwa, Sum.inl (cI, rwk, Sum.inl rwf))]) 0 0 := by
  refine my_ofV (cc := prog_8_method_6_code) (n := 1) (ret := none) (by decide) rfl (Nat.le_of_ble_eq_true rfl) ?_
  intro p e s m args below meth c R Q A ls H locs hx hb hr hts hown hlocks hml hnm hR hQ hA hl hP hK hN hD hS
  have hg : ∀ w ∈ gw, w.before args s = true := fun w h => hts w (List.mem_cons_of_mem _ h)
  have hown : s.vm.findClass "RangeCoders$Ranged" = some m.cls := hown
  have hl : lv_has ls 1 [(0, Value.ref co)] := hl
  refine lv_aload_n hx hb d_Ranged_openMessage_0 rfl (lv_at hl 0 rfl) ?_
  refine va_get (D := (dC, dI)) (ci := 2) (v := .ref rw) (C := "RangeCoders$NoCarries") (T := T_NoCarries) (N := 9) hx hb hg in_NoCarries hown hK hP 0 rfl rfl 7 (by decide) (hg _ k116) (fun x9 h9 => u_same (hg _ k117) x9 h9) rfl d_Ranged_openMessage_1 ?_
  refine my_cv (wr := [(co, Sum.inr (2, [Value.long xlow, Value.long xrange, Value.long xcode, Value.long xreadLow, Value.long xreadRange, Value.ref ri, Value.ref ro, Value.ref rw, Value.int xasked]))]) (va_runV (As := []) (rest := []) ⟨hx, hb, hml, hown, hts⟩ (c_Row_clear l dC dI cI cM cO H.size rw rwn rwa rwk rwf (by first | assumption | omega)) (cwV 0 hts (my_gV k692 k594 k595 k6 k596) rfl rfl rfl (by decide +kernel) ⟨by rw [hR]; exact Nat.le_of_ble_eq_true rfl, by rw [hR]; exact Nat.le_of_ble_eq_true rfl⟩) (my_preV hK hN (hP.sub [1, 2] rfl) (hD.sub [1, 2] (by decide +kernel) rfl) 0 rfl rfl) rfl rfl hl.1 rfl (lv_room (Nat.le_of_ble_eq_true rfl)) d_Ranged_openMessage_4 ⟨by rw [hR]; exact Nat.le_of_ble_eq_true rfl, by rw [hR]; exact Nat.le_of_ble_eq_true rfl⟩) hP hD hS hA [1, 2] [0] rfl rfl (by decide +kernel) (by decide +kernel) (fun u9 H locs hw_4 hP hD hS => ?_)
  have hr_4 : rOk 0 rwk := hw_4
  have hPD : my_PD (dC, dI) vwCl A [(co, Sum.inr (2, [Value.long xlow, Value.long xrange, Value.long xcode, Value.long xreadLow, Value.long xreadRange, Value.ref ri, Value.ref ro, Value.ref rw, Value.int xasked])), (rw, Sum.inr (0, [Value.int 0, Value.ref rwa])), (rwa, Sum.inl (cI, rwk, Sum.inl rwf))] H := ⟨hP, hD⟩
  have hP := hPD.1
  have hD := hPD.2
  refine lv_aload_n hx hb d_Ranged_openMessage_7 rfl (lv_at hl 0 rfl) ?_
  refine lv_lconst (v := 0) hx hb d_Ranged_openMessage_8 (by decide) ?_
  refine va_put (D := (dC, dI)) (ci := 2) (v := .long 0) (ty := .long) (C := "RangeCoders$NoCarries") (T := T_NoCarries) (N := 9) hx hb hg in_NoCarries t_NoCarries o_NoCarries n_NoCarries hown hK hP hD hS 0 rfl rfl 0 (by decide) (hg _ k74) (fun _ h9 => h9) rfl (by decide +kernel) rfl rfl (Nat.le_of_ble_eq_true rfl) d_Ranged_openMessage_9 (fun H locs hP hD hS => ?_)
  have hPD : my_PD (dC, dI) vwCl A [(co, Sum.inr (2, [Value.long 0, Value.long xrange, Value.long xcode, Value.long xreadLow, Value.long xreadRange, Value.ref ri, Value.ref ro, Value.ref rw, Value.int xasked])), (rw, Sum.inr (0, [Value.int 0, Value.ref rwa])), (rwa, Sum.inl (cI, rwk, Sum.inl rwf))] H := ⟨hP, hD⟩
  have hP := hPD.1
  have hD := hPD.2
  refine lv_aload_n hx hb d_Ranged_openMessage_12 rfl (lv_at hl 0 rfl) ?_
  refine lv_ldc2 (v := 4294967295) hx hb hown (hg _ k67) d_Ranged_openMessage_13 ?_
  refine va_put (D := (dC, dI)) (ci := 2) (v := .long 4294967295) (ty := .long) (C := "RangeCoders$NoCarries") (T := T_NoCarries) (N := 9) hx hb hg in_NoCarries t_NoCarries o_NoCarries n_NoCarries hown hK hP hD hS 0 rfl rfl 1 (by decide) (hg _ k77) (fun _ h9 => h9) rfl (by decide +kernel) rfl rfl (Nat.le_of_ble_eq_true rfl) d_Ranged_openMessage_16 (fun H locs hP hD hS => ?_)
  have hPD : my_PD (dC, dI) vwCl A [(co, Sum.inr (2, [Value.long 0, Value.long 4294967295, Value.long xcode, Value.long xreadLow, Value.long xreadRange, Value.ref ri, Value.ref ro, Value.ref rw, Value.int xasked])), (rw, Sum.inr (0, [Value.int 0, Value.ref rwa])), (rwa, Sum.inl (cI, rwk, Sum.inl rwf))] H := ⟨hP, hD⟩
  have hP := hPD.1
  have hD := hPD.2
  exact my_vret hx hb hr hlocks hQ hK hS (Nat.le_refl _) (Nat.le_refl _) () (hr_4) (hP.sub [0, 1, 2] rfl) (hD.sub [0, 1, 2] (by decide +kernel) rfl) d_Ranged_openMessage_19
set_option maxHeartbeats 2000000 in
set_option maxRecDepth 100000 in
theorem f_Bits_Ropen (l : Launch) (dC : Nat → ClassId) (dI : Nat → Nat → Nat) (cI cM cO : ClassId) (sz : Nat) (co : Nat) (xshift : Int32) (xkeptCode : Int64) (xkeptRange : Int64) (xkeptAsked : Int32) (xcache : Int32) (xpending : Int32) (xlow : Int64) (xrange : Int64) (xcode : Int64) (xreadLow : Int64) (xreadRange : Int64) (ri : Nat) (ro : Nat) (rw : Nat) (xasked : Int32) (rwn : Int32) (rwa : Nat) (rwk : Nat) (rwf : Nat → Int32) (hrw : rOk rwn rwk) : MetV l y_Ranged_openMessage (Cond.code y_Ranged_openMessage prog_8_method_6_code 1 none :: gw) ({ frames := 1, cells := 0, slots := 0, locals := 20 } : Room) (dC, dI) vwCl (kT cI cM cO) [Value.ref co] [(co, Sum.inr (3, [Value.int xshift, Value.long xkeptCode, Value.long xkeptRange, Value.int xkeptAsked, Value.int xcache, Value.int xpending, Value.long xlow, Value.long xrange, Value.long xcode, Value.long xreadLow, Value.long xreadRange, Value.ref ri, Value.ref ro, Value.ref rw, Value.int xasked])), (rw, Sum.inr (0, [Value.int rwn, Value.ref rwa])), (rwa, Sum.inl (cI, rwk, Sum.inl rwf))] sz (fun (u : Unit) => rOk 0 rwk) (fun (u : Unit) => [(co, Sum.inr (3, [Value.int xshift, Value.long xkeptCode, Value.long xkeptRange, Value.int xkeptAsked, Value.int xcache, Value.int xpending, Value.long 0, Value.long 4294967295, Value.long xcode, Value.long xreadLow, Value.long xreadRange, Value.ref ri, Value.ref ro, Value.ref rw, Value.int xasked])), (rw, Sum.inr (0, [Value.int 0, Value.ref rwa])), (rwa, Sum.inl (cI, rwk, Sum.inl rwf))]) 0 0 := by
  refine my_ofV (cc := prog_8_method_6_code) (n := 1) (ret := none) (by decide) rfl (Nat.le_of_ble_eq_true rfl) ?_
  intro p e s m args below meth c R Q A ls H locs hx hb hr hts hown hlocks hml hnm hR hQ hA hl hP hK hN hD hS
  have hg : ∀ w ∈ gw, w.before args s = true := fun w h => hts w (List.mem_cons_of_mem _ h)
  have hown : s.vm.findClass "RangeCoders$Ranged" = some m.cls := hown
  have hl : lv_has ls 1 [(0, Value.ref co)] := hl
  refine lv_aload_n hx hb d_Ranged_openMessage_0 rfl (lv_at hl 0 rfl) ?_
  refine va_get (D := (dC, dI)) (ci := 3) (v := .ref rw) (C := "RangeCoders$Bits") (T := T_Bits) (N := 15) hx hb hg in_Bits hown hK hP 0 rfl rfl 13 (by decide) (hg _ k116) (fun x9 h9 => u_same (hg _ k117) x9 h9) rfl d_Ranged_openMessage_1 ?_
  refine my_cv (wr := [(co, Sum.inr (3, [Value.int xshift, Value.long xkeptCode, Value.long xkeptRange, Value.int xkeptAsked, Value.int xcache, Value.int xpending, Value.long xlow, Value.long xrange, Value.long xcode, Value.long xreadLow, Value.long xreadRange, Value.ref ri, Value.ref ro, Value.ref rw, Value.int xasked]))]) (va_runV (As := []) (rest := []) ⟨hx, hb, hml, hown, hts⟩ (c_Row_clear l dC dI cI cM cO H.size rw rwn rwa rwk rwf (by first | assumption | omega)) (cwV 0 hts (my_gV k692 k594 k595 k6 k596) rfl rfl rfl (by decide +kernel) ⟨by rw [hR]; exact Nat.le_of_ble_eq_true rfl, by rw [hR]; exact Nat.le_of_ble_eq_true rfl⟩) (my_preV hK hN (hP.sub [1, 2] rfl) (hD.sub [1, 2] (by decide +kernel) rfl) 0 rfl rfl) rfl rfl hl.1 rfl (lv_room (Nat.le_of_ble_eq_true rfl)) d_Ranged_openMessage_4 ⟨by rw [hR]; exact Nat.le_of_ble_eq_true rfl, by rw [hR]; exact Nat.le_of_ble_eq_true rfl⟩) hP hD hS hA [1, 2] [0] rfl rfl (by decide +kernel) (by decide +kernel) (fun u9 H locs hw_4 hP hD hS => ?_)
  have hr_4 : rOk 0 rwk := hw_4
  have hPD : my_PD (dC, dI) vwCl A [(co, Sum.inr (3, [Value.int xshift, Value.long xkeptCode, Value.long xkeptRange, Value.int xkeptAsked, Value.int xcache, Value.int xpending, Value.long xlow, Value.long xrange, Value.long xcode, Value.long xreadLow, Value.long xreadRange, Value.ref ri, Value.ref ro, Value.ref rw, Value.int xasked])), (rw, Sum.inr (0, [Value.int 0, Value.ref rwa])), (rwa, Sum.inl (cI, rwk, Sum.inl rwf))] H := ⟨hP, hD⟩
  have hP := hPD.1
  have hD := hPD.2
  refine lv_aload_n hx hb d_Ranged_openMessage_7 rfl (lv_at hl 0 rfl) ?_
  refine lv_lconst (v := 0) hx hb d_Ranged_openMessage_8 (by decide) ?_
  refine va_put (D := (dC, dI)) (ci := 3) (v := .long 0) (ty := .long) (C := "RangeCoders$Bits") (T := T_Bits) (N := 15) hx hb hg in_Bits t_Bits o_Bits n_Bits hown hK hP hD hS 0 rfl rfl 6 (by decide) (hg _ k74) (fun _ h9 => h9) rfl (by decide +kernel) rfl rfl (Nat.le_of_ble_eq_true rfl) d_Ranged_openMessage_9 (fun H locs hP hD hS => ?_)
  have hPD : my_PD (dC, dI) vwCl A [(co, Sum.inr (3, [Value.int xshift, Value.long xkeptCode, Value.long xkeptRange, Value.int xkeptAsked, Value.int xcache, Value.int xpending, Value.long 0, Value.long xrange, Value.long xcode, Value.long xreadLow, Value.long xreadRange, Value.ref ri, Value.ref ro, Value.ref rw, Value.int xasked])), (rw, Sum.inr (0, [Value.int 0, Value.ref rwa])), (rwa, Sum.inl (cI, rwk, Sum.inl rwf))] H := ⟨hP, hD⟩
  have hP := hPD.1
  have hD := hPD.2
  refine lv_aload_n hx hb d_Ranged_openMessage_12 rfl (lv_at hl 0 rfl) ?_
  refine lv_ldc2 (v := 4294967295) hx hb hown (hg _ k67) d_Ranged_openMessage_13 ?_
  refine va_put (D := (dC, dI)) (ci := 3) (v := .long 4294967295) (ty := .long) (C := "RangeCoders$Bits") (T := T_Bits) (N := 15) hx hb hg in_Bits t_Bits o_Bits n_Bits hown hK hP hD hS 0 rfl rfl 7 (by decide) (hg _ k77) (fun _ h9 => h9) rfl (by decide +kernel) rfl rfl (Nat.le_of_ble_eq_true rfl) d_Ranged_openMessage_16 (fun H locs hP hD hS => ?_)
  have hPD : my_PD (dC, dI) vwCl A [(co, Sum.inr (3, [Value.int xshift, Value.long xkeptCode, Value.long xkeptRange, Value.int xkeptAsked, Value.int xcache, Value.int xpending, Value.long 0, Value.long 4294967295, Value.long xcode, Value.long xreadLow, Value.long xreadRange, Value.ref ri, Value.ref ro, Value.ref rw, Value.int xasked])), (rw, Sum.inr (0, [Value.int 0, Value.ref rwa])), (rwa, Sum.inl (cI, rwk, Sum.inl rwf))] H := ⟨hP, hD⟩
  have hP := hPD.1
  have hD := hPD.2
  exact my_vret hx hb hr hlocks hQ hK hS (Nat.le_refl _) (Nat.le_refl _) () (hr_4) (hP.sub [0, 1, 2] rfl) (hD.sub [0, 1, 2] (by decide +kernel) rfl) d_Ranged_openMessage_19
set_option maxHeartbeats 2000000 in
set_option maxRecDepth 100000 in
theorem f_Bits_open (l : Launch) (dC : Nat → ClassId) (dI : Nat → Nat → Nat) (cI cM cO : ClassId) (sz : Nat) (co : Nat) (xshift : Int32) (xkeptCode : Int64) (xkeptRange : Int64) (xkeptAsked : Int32) (xcache : Int32) (xpending : Int32) (xlow : Int64) (xrange : Int64) (xcode : Int64) (xreadLow : Int64) (xreadRange : Int64) (ri : Nat) (ro : Nat) (rw : Nat) (xasked : Int32) (rwn : Int32) (rwa : Nat) (rwk : Nat) (rwf : Nat → Int32) (hrw : rOk rwn rwk) : MetV l y_Carries_openMessage (Cond.code y_Carries_openMessage prog_3_method_2_code 1 none :: gw) ({ frames := 2, cells := 0, slots := 0, locals := 40 } : Room) (dC, dI) vwCl (kT cI cM cO) [Value.ref co] [(co, Sum.inr (3, [Value.int xshift, Value.long xkeptCode, Value.long xkeptRange, Value.int xkeptAsked, Value.int xcache, Value.int xpending, Value.long xlow, Value.long xrange, Value.long xcode, Value.long xreadLow, Value.long xreadRange, Value.ref ri, Value.ref ro, Value.ref rw, Value.int xasked])), (rw, Sum.inr (0, [Value.int rwn, Value.ref rwa])), (rwa, Sum.inl (cI, rwk, Sum.inl rwf))] sz (fun (u : Unit) => rOk 0 rwk) (fun (u : Unit) => [(co, Sum.inr (3, [Value.int xshift, Value.long xkeptCode, Value.long xkeptRange, Value.int xkeptAsked, Value.int (-1), Value.int 0, Value.long 0, Value.long 4294967295, Value.long xcode, Value.long xreadLow, Value.long xreadRange, Value.ref ri, Value.ref ro, Value.ref rw, Value.int xasked])), (rw, Sum.inr (0, [Value.int 0, Value.ref rwa])), (rwa, Sum.inl (cI, rwk, Sum.inl rwf))]) 0 0 := by
  refine my_ofV (cc := prog_3_method_2_code) (n := 1) (ret := none) (by decide) rfl (Nat.le_of_ble_eq_true rfl) ?_
  intro p e s m args below meth c R Q A ls H locs hx hb hr hts hown hlocks hml hnm hR hQ hA hl hP hK hN hD hS
  have hg : ∀ w ∈ gw, w.before args s = true := fun w h => hts w (List.mem_cons_of_mem _ h)
  have hown : s.vm.findClass "RangeCoders$Carries" = some m.cls := hown
  have hl : lv_has ls 1 [(0, Value.ref co)] := hl
  refine lv_aload_n hx hb d_Carries_openMessage_0 rfl (lv_at hl 0 rfl) ?_
  refine my_cv (wr := []) (va_runSU (As := []) (rest := []) (hK.1 3 _ rfl).2 ⟨hx, hb, hml, hown, hts⟩ (f_Bits_Ropen l dC dI cI cM cO H.size co xshift xkeptCode xkeptRange xkeptAsked xcache xpending xlow xrange xcode xreadLow xreadRange ri ro rw xasked rwn rwa rwk rwf (by first | assumption | omega)) (va_cwSU 0 hts (my_gSU k689 k1288 k153 k690 k4 k691) rfl rfl rfl (by decide +kernel) ⟨by rw [hR]; exact Nat.le_of_ble_eq_true rfl, by rw [hR]; exact Nat.le_of_ble_eq_true rfl⟩) (my_preV hK hN (hP.sub [0, 1, 2] rfl) (hD.sub [0, 1, 2] (by decide +kernel) rfl) 0 rfl rfl) rfl rfl hl.1 rfl (lv_room (Nat.le_of_ble_eq_true rfl)) d_Carries_openMessage_1 ⟨by rw [hR]; exact Nat.le_of_ble_eq_true rfl, by rw [hR]; exact Nat.le_of_ble_eq_true rfl⟩) hP hD hS hA [0, 1, 2] [] rfl rfl (by decide +kernel) (by decide +kernel) (fun u9 H locs hw_1 hP hD hS => ?_)
  have hr_1 : rOk 0 rwk := hw_1
  have hPD : my_PD (dC, dI) vwCl A [(co, Sum.inr (3, [Value.int xshift, Value.long xkeptCode, Value.long xkeptRange, Value.int xkeptAsked, Value.int xcache, Value.int xpending, Value.long 0, Value.long 4294967295, Value.long xcode, Value.long xreadLow, Value.long xreadRange, Value.ref ri, Value.ref ro, Value.ref rw, Value.int xasked])), (rw, Sum.inr (0, [Value.int 0, Value.ref rwa])), (rwa, Sum.inl (cI, rwk, Sum.inl rwf))] H := ⟨hP, hD⟩
  have hP := hPD.1
  have hD := hPD.2
  refine lv_aload_n hx hb d_Carries_openMessage_4 rfl (lv_at hl 0 rfl) ?_
  refine lv_iconst (v := (-1)) hx hb d_Carries_openMessage_5 (by decide) ?_
  refine va_put (D := (dC, dI)) (ci := 3) (v := .int (-1)) (ty := .int) (C := "RangeCoders$Bits") (T := T_Bits) (N := 15) hx hb hg in_Bits t_Bits o_Bits n_Bits hown hK hP hD hS 0 rfl rfl 4 (by decide) (hg _ k68) (fun _ h9 => h9) rfl (by decide +kernel) rfl rfl (Nat.le_of_ble_eq_true rfl) d_Carries_openMessage_6 (fun H locs hP hD hS => ?_)
  have hPD : my_PD (dC, dI) vwCl A [(co, Sum.inr (3, [Value.int xshift, Value.long xkeptCode, Value.long xkeptRange, Value.int xkeptAsked, Value.int (-1), Value.int xpending, Value.long 0, Value.long 4294967295, Value.long xcode, Value.long xreadLow, Value.long xreadRange, Value.ref ri, Value.ref ro, Value.ref rw, Value.int xasked])), (rw, Sum.inr (0, [Value.int 0, Value.ref rwa])), (rwa, Sum.inl (cI, rwk, Sum.inl rwf))] H := ⟨hP, hD⟩
  have hP := hPD.1
  have hD := hPD.2
  refine lv_aload_n hx hb d_Carries_openMessage_9 rfl (lv_at hl 0 rfl) ?_
  refine lv_iconst (v := 0) hx hb d_Carries_openMessage_10 (by decide) ?_
  refine va_put (D := (dC, dI)) (ci := 3) (v := .int 0) (ty := .int) (C := "RangeCoders$Bits") (T := T_Bits) (N := 15) hx hb hg in_Bits t_Bits o_Bits n_Bits hown hK hP hD hS 0 rfl rfl 5 (by decide) (hg _ k69) (fun _ h9 => h9) rfl (by decide +kernel) rfl rfl (Nat.le_of_ble_eq_true rfl) d_Carries_openMessage_11 (fun H locs hP hD hS => ?_)
  have hPD : my_PD (dC, dI) vwCl A [(co, Sum.inr (3, [Value.int xshift, Value.long xkeptCode, Value.long xkeptRange, Value.int xkeptAsked, Value.int (-1), Value.int 0, Value.long 0, Value.long 4294967295, Value.long xcode, Value.long xreadLow, Value.long xreadRange, Value.ref ri, Value.ref ro, Value.ref rw, Value.int xasked])), (rw, Sum.inr (0, [Value.int 0, Value.ref rwa])), (rwa, Sum.inl (cI, rwk, Sum.inl rwf))] H := ⟨hP, hD⟩
  have hP := hPD.1
  have hD := hPD.2
  exact my_vret hx hb hr hlocks hQ hK hS (Nat.le_refl _) (Nat.le_refl _) () (hr_1) (hP.sub [0, 1, 2] rfl) (hD.sub [0, 1, 2] (by decide +kernel) rfl) d_Carries_openMessage_14
set_option maxHeartbeats 2000000 in
set_option maxRecDepth 100000 in
theorem f_Carries_close (l : Launch) (dC : Nat → ClassId) (dI : Nat → Nat → Nat) (cI cM cO : ClassId) (sz : Nat) (sl : Nat) (co : Nat) (xcode : Int64) (xreadLow : Int64) (xreadRange : Int64) (ri : Nat) (ro : Nat) (rw : Nat) (xasked : Int32) (Rg : Nat) (L : Nat) (ca : Option Nat) (Pn : Nat) (rwa : Nat) (rwk : Nat) (rwf : Nat → Int32) (bs : List Nat) (ron : Int32) (roa : Nat) (rok : Nat) (rof : Nat → Int32) (hE : eOk (Rg, L, ca, Pn, bs)) (hrw : rOk (nI bs.length) rwk) (hGrw : gIs rwf bs) (hN9 : bs.length + 20 + Pn ≤ 7900) : MetVg l y_Ranged_closeMessage (Cond.code y_Ranged_closeMessage prog_8_method_9_code 2 none :: gw) ({ frames := 6, cells := rPh rwk, slots := rPh rwk, locals := 146 } : Room) (dC, dI) vwCl (kT cI cM cO) [Value.ref co] [(co, Sum.inr (1, [Value.int (caI ca), Value.int (nI Pn), Value.long (lN L), Value.long (lN Rg), Value.long xcode, Value.long xreadLow, Value.long xreadRange, Value.ref ri, Value.ref ro, Value.ref rw, Value.int xasked])), (rw, Sum.inr (0, [Value.int (nI bs.length), Value.ref rwa])), (rwa, Sum.inl (cI, rwk, Sum.inl rwf)), (ro, Sum.inr (0, [Value.int ron, Value.ref roa])), (roa, Sum.inl (cI, rok, Sum.inl rof))] sz sl (fun (u : Nat × Nat × (Nat → Int32)) => rOk (nI ((eB (shK 5 (Rg, L, ca, Pn, bs)))).length) u.2.1 ∧ gIs u.2.2 ((eB (shK 5 (Rg, L, ca, Pn, bs))))) (fun (u : Nat × Nat × (Nat → Int32)) => [(co, Sum.inr (1, [Value.int (caI (eC (shK 5 (Rg, L, ca, Pn, bs)))), Value.int (nI (eP (shK 5 (Rg, L, ca, Pn, bs)))), Value.long (lN (eL (shK 5 (Rg, L, ca, Pn, bs)))), Value.long (lN (eR (shK 5 (Rg, L, ca, Pn, bs)))), Value.long xcode, Value.long xreadLow, Value.long xreadRange, Value.ref ri, Value.ref rw, Value.ref ro, Value.int xasked])), (rw, Sum.inr (0, [Value.int (nI (eB (shK 5 (Rg, L, ca, Pn, bs))).length), Value.ref u.1])), (u.1, Sum.inl (cI, u.2.1, Sum.inl u.2.2)), (ro, Sum.inr (0, [Value.int ron, Value.ref roa])), (roa, Sum.inl (cI, rok, Sum.inl rof))]) (rPh rwk) (fun (u : Nat × Nat × (Nat → Int32)) => rPh u.2.1) := by
  refine my_ofVg (cc := prog_8_method_9_code) (n := 2) (ret := none) (by decide) rfl (Nat.le_of_ble_eq_true rfl) ?_
  intro p e s m args below meth c R Q A ls H locs hx hb hr hts hown hlocks hml hnm hR hQ hA hl hP hK hN hD hS
  have hg : ∀ w ∈ gw, w.before args s = true := fun w h => hts w (List.mem_cons_of_mem _ h)
  have hown : s.vm.findClass "RangeCoders$Ranged" = some m.cls := hown
  have hl : lv_has ls 2 [(0, Value.ref co)] := hl
  refine lv_aload_n hx hb d_Ranged_closeMessage_0 rfl (lv_at hl 0 rfl) ?_
  refine my_cvg (wr := [(ro, Sum.inr (0, [Value.int ron, Value.ref roa])), (roa, Sum.inl (cI, rok, Sum.inl rof))]) (va_runU (As := []) (rest := []) ⟨hx, hb, hml, hown, hts⟩ (f_Carries_flush l dC dI cI cM cO H.size (hSl H) co xcode xreadLow xreadRange ri ro rw xasked Rg L ca Pn rwa rwk rwf bs (by first | assumption | omega) (by first | assumption | omega) (by first | assumption | omega) (by omega)) (va_cwA 0 hts (my_gU k578 k580 k584 k582 k5 k583) rfl rfl rfl (hN.1 _ j579 rfl) (by decide +kernel) ⟨by rw [hR]; exact Nat.le_of_ble_eq_true rfl, by rw [hR]; exact Nat.le_of_ble_eq_true rfl⟩) (my_preVg hK hN (hP.sub [0, 1, 2] rfl) (hD.sub [0, 1, 2] (by decide +kernel) rfl) 0 rfl rfl) rfl rfl hl.1 rfl (lv_room (Nat.le_of_ble_eq_true rfl)) d_Ranged_closeMessage_1 ⟨by rw [hR]; exact (show 0 + (rPh rwk) ≤ (rPh rwk) by omega), by rw [hR]; exact (show 0 + (rPh rwk) ≤ (rPh rwk) by omega)⟩) hP hD hS hA [0, 1, 2] [3, 4] rfl rfl (by decide +kernel) (by decide +kernel) (fun u9 d_1 H locs hd_1 hw_1 hP hD hS => ?_)
  obtain ⟨rwaq_1, rwkq_1, rwfq_1⟩ := u9
  obtain ⟨hrw_1, hGrw_1⟩ : rOk (nI (eB (shK 5 (Rg, L, ca, Pn, bs))).length) rwkq_1 ∧ gIs rwfq_1 (eB (shK 5 (Rg, L, ca, Pn, bs))) := hw_1
  have hd_1 : d_1 + (rPh rwkq_1) ≤ (rPh rwk) := hd_1
  have hPD : my_PD (dC, dI) vwCl A [(ro, Sum.inr (0, [Value.int ron, Value.ref roa])), (roa, Sum.inl (cI, rok, Sum.inl rof)), (co, Sum.inr (1, [Value.int (caI (eC (shK 5 (Rg, L, ca, Pn, bs)))), Value.int (nI (eP (shK 5 (Rg, L, ca, Pn, bs)))), Value.long (lN (eL (shK 5 (Rg, L, ca, Pn, bs)))), Value.long (lN (eR (shK 5 (Rg, L, ca, Pn, bs)))), Value.long xcode, Value.long xreadLow, Value.long xreadRange, Value.ref ri, Value.ref ro, Value.ref rw, Value.int xasked])), (rw, Sum.inr (0, [Value.int (nI (eB (shK 5 (Rg, L, ca, Pn, bs))).length), Value.ref rwaq_1])), (rwaq_1, Sum.inl (cI, rwkq_1, Sum.inl rwfq_1))] H := ⟨hP, hD⟩
  have hP := hPD.1
  have hD := hPD.2
  refine lv_aload_n hx hb d_Ranged_closeMessage_4 rfl (lv_at hl 0 rfl) ?_
  refine va_get (D := (dC, dI)) (ci := 1) (v := .ref ro) (C := "RangeCoders$Carries") (T := T_Carries) (N := 11) hx hb hg in_Carries hown hK hP 2 rfl rfl 8 (by decide) (hg _ k109) (fun x9 h9 => u_same (hg _ k110) x9 h9) rfl d_Ranged_closeMessage_5 ?_
  refine lv_astore_n (lv' := [(1, Value.ref ro), (0, Value.ref co)]) hx hb d_Ranged_closeMessage_8 rfl hl (by decide) rfl (fun ls hl => ?_)
  refine lv_aload_n hx hb d_Ranged_closeMessage_9 rfl (lv_at hl 1 rfl) ?_
  refine lv_aload_n hx hb d_Ranged_closeMessage_10 rfl (lv_at hl 1 rfl) ?_
  refine va_get (D := (dC, dI)) (ci := 1) (v := .ref rw) (C := "RangeCoders$Carries") (T := T_Carries) (N := 11) hx hb hg in_Carries hown hK hP 2 rfl rfl 9 (by decide) (hg _ k116) (fun x9 h9 => u_same (hg _ k117) x9 h9) rfl d_Ranged_closeMessage_11 ?_
  refine va_put (D := (dC, dI)) (ci := 1) (v := .ref rw) (ty := (.object "RangeCoders$Row")) (C := "RangeCoders$Carries") (T := T_Carries) (N := 11) hx hb hg in_Carries t_Carries o_Carries n_Carries hown hK hP hD hS 2 rfl rfl 8 (by decide) (hg _ k109) (fun x9 h9 => u_same (hg _ k110) x9 h9) rfl (by decide +kernel) rfl rfl (Nat.le_of_ble_eq_true rfl) d_Ranged_closeMessage_14 (fun H locs hP hD hS => ?_)
  have hPD : my_PD (dC, dI) vwCl A [(ro, Sum.inr (0, [Value.int ron, Value.ref roa])), (roa, Sum.inl (cI, rok, Sum.inl rof)), (co, Sum.inr (1, [Value.int (caI (eC (shK 5 (Rg, L, ca, Pn, bs)))), Value.int (nI (eP (shK 5 (Rg, L, ca, Pn, bs)))), Value.long (lN (eL (shK 5 (Rg, L, ca, Pn, bs)))), Value.long (lN (eR (shK 5 (Rg, L, ca, Pn, bs)))), Value.long xcode, Value.long xreadLow, Value.long xreadRange, Value.ref ri, Value.ref rw, Value.ref rw, Value.int xasked])), (rw, Sum.inr (0, [Value.int (nI (eB (shK 5 (Rg, L, ca, Pn, bs))).length), Value.ref rwaq_1])), (rwaq_1, Sum.inl (cI, rwkq_1, Sum.inl rwfq_1))] H := ⟨hP, hD⟩
  have hP := hPD.1
  have hD := hPD.2
  refine lv_aload_n hx hb d_Ranged_closeMessage_17 rfl (lv_at hl 1 rfl) ?_
  refine lv_aload_n hx hb d_Ranged_closeMessage_18 rfl (lv_at hl 0 rfl) ?_
  refine va_put (D := (dC, dI)) (ci := 1) (v := .ref ro) (ty := (.object "RangeCoders$Row")) (C := "RangeCoders$Carries") (T := T_Carries) (N := 11) hx hb hg in_Carries t_Carries o_Carries n_Carries hown hK hP hD hS 2 rfl rfl 9 (by decide) (hg _ k116) (fun x9 h9 => u_same (hg _ k117) x9 h9) rfl (by decide +kernel) rfl rfl (Nat.le_of_ble_eq_true rfl) d_Ranged_closeMessage_19 (fun H locs hP hD hS => ?_)
  have hPD : my_PD (dC, dI) vwCl A [(ro, Sum.inr (0, [Value.int ron, Value.ref roa])), (roa, Sum.inl (cI, rok, Sum.inl rof)), (co, Sum.inr (1, [Value.int (caI (eC (shK 5 (Rg, L, ca, Pn, bs)))), Value.int (nI (eP (shK 5 (Rg, L, ca, Pn, bs)))), Value.long (lN (eL (shK 5 (Rg, L, ca, Pn, bs)))), Value.long (lN (eR (shK 5 (Rg, L, ca, Pn, bs)))), Value.long xcode, Value.long xreadLow, Value.long xreadRange, Value.ref ri, Value.ref rw, Value.ref ro, Value.int xasked])), (rw, Sum.inr (0, [Value.int (nI (eB (shK 5 (Rg, L, ca, Pn, bs))).length), Value.ref rwaq_1])), (rwaq_1, Sum.inl (cI, rwkq_1, Sum.inl rwfq_1))] H := ⟨hP, hD⟩
  have hP := hPD.1
  have hD := hPD.2
  exact my_vretg hx hb hr hlocks hQ hK hS (rwaq_1, rwkq_1, rwfq_1) (show (0 + d_1) + (rPh rwkq_1) ≤ (rPh rwk) by omega) (show (0 + d_1) + (rPh rwkq_1) ≤ (rPh rwk) by omega) (⟨hrw_1, hGrw_1⟩) (hP.sub [2, 3, 4, 0, 1] rfl) (hD.sub [2, 3, 4, 0, 1] (by decide +kernel) rfl) d_Ranged_closeMessage_22
set_option maxHeartbeats 2000000 in
set_option maxRecDepth 100000 in
theorem f_NoCarries_close (l : Launch) (dC : Nat → ClassId) (dI : Nat → Nat → Nat) (cI cM cO : ClassId) (sz : Nat) (sl : Nat) (co : Nat) (xrange : Int64) (xcode : Int64) (xreadLow : Int64) (xreadRange : Int64) (ri : Nat) (ro : Nat) (rw : Nat) (xasked : Int32) (L : Nat) (rwa : Nat) (rwk : Nat) (rwf : Nat → Int32) (bs : List Nat) (ron : Int32) (roa : Nat) (rok : Nat) (rof : Nat → Int32) (hL : L < 4294967296) (hrw : rOk (nI bs.length) rwk) (hGrw : gIs rwf bs) (hN9 : bs.length + 20 + 0 ≤ 7900) : MetVg l y_Ranged_closeMessage (Cond.code y_Ranged_closeMessage prog_8_method_9_code 2 none :: gw) ({ frames := 5, cells := rPh rwk, slots := rPh rwk, locals := 124 } : Room) (dC, dI) vwCl (kT cI cM cO) [Value.ref co] [(co, Sum.inr (2, [Value.long (lN L), Value.long xrange, Value.long xcode, Value.long xreadLow, Value.long xreadRange, Value.ref ri, Value.ref ro, Value.ref rw, Value.int xasked])), (rw, Sum.inr (0, [Value.int (nI bs.length), Value.ref rwa])), (rwa, Sum.inl (cI, rwk, Sum.inl rwf)), (ro, Sum.inr (0, [Value.int ron, Value.ref roa])), (roa, Sum.inl (cI, rok, Sum.inl rof))] sz sl (fun (u : Nat × Nat × (Nat → Int32)) => rOk (nI ((tpK 4 (L, bs)).2).length) u.2.1 ∧ gIs u.2.2 ((tpK 4 (L, bs)).2)) (fun (u : Nat × Nat × (Nat → Int32)) => [(co, Sum.inr (2, [Value.long (lN (tpK 4 (L, bs)).1), Value.long xrange, Value.long xcode, Value.long xreadLow, Value.long xreadRange, Value.ref ri, Value.ref rw, Value.ref ro, Value.int xasked])), (rw, Sum.inr (0, [Value.int (nI (tpK 4 (L, bs)).2.length), Value.ref u.1])), (u.1, Sum.inl (cI, u.2.1, Sum.inl u.2.2)), (ro, Sum.inr (0, [Value.int ron, Value.ref roa])), (roa, Sum.inl (cI, rok, Sum.inl rof))]) (rPh rwk) (fun (u : Nat × Nat × (Nat → Int32)) => rPh u.2.1) := by
  refine my_ofVg (cc := prog_8_method_9_code) (n := 2) (ret := none) (by decide) rfl (Nat.le_of_ble_eq_true rfl) ?_
  intro p e s m args below meth c R Q A ls H locs hx hb hr hts hown hlocks hml hnm hR hQ hA hl hP hK hN hD hS
  have hg : ∀ w ∈ gw, w.before args s = true := fun w h => hts w (List.mem_cons_of_mem _ h)
  have hown : s.vm.findClass "RangeCoders$Ranged" = some m.cls := hown
  have hl : lv_has ls 2 [(0, Value.ref co)] := hl
  refine lv_aload_n hx hb d_Ranged_closeMessage_0 rfl (lv_at hl 0 rfl) ?_
  refine my_cvg (wr := [(ro, Sum.inr (0, [Value.int ron, Value.ref roa])), (roa, Sum.inl (cI, rok, Sum.inl rof))]) (va_runU (As := []) (rest := []) ⟨hx, hb, hml, hown, hts⟩ (f_NoCarries_flush l dC dI cI cM cO H.size (hSl H) co xrange xcode xreadLow xreadRange ri ro rw xasked L rwa rwk rwf bs (by first | assumption | omega) (by first | assumption | omega) (by first | assumption | omega) (by omega)) (va_cwA 0 hts (my_gU k578 k580 k585 k586 k7 k587) rfl rfl rfl (hN.1 _ j579 rfl) (by decide +kernel) ⟨by rw [hR]; exact Nat.le_of_ble_eq_true rfl, by rw [hR]; exact Nat.le_of_ble_eq_true rfl⟩) (my_preVg hK hN (hP.sub [0, 1, 2] rfl) (hD.sub [0, 1, 2] (by decide +kernel) rfl) 0 rfl rfl) rfl rfl hl.1 rfl (lv_room (Nat.le_of_ble_eq_true rfl)) d_Ranged_closeMessage_1 ⟨by rw [hR]; exact (show 0 + (rPh rwk) ≤ (rPh rwk) by omega), by rw [hR]; exact (show 0 + (rPh rwk) ≤ (rPh rwk) by omega)⟩) hP hD hS hA [0, 1, 2] [3, 4] rfl rfl (by decide +kernel) (by decide +kernel) (fun u9 d_1 H locs hd_1 hw_1 hP hD hS => ?_)
  obtain ⟨rwaq_1, rwkq_1, rwfq_1⟩ := u9
  obtain ⟨hrw_1, hGrw_1⟩ : rOk (nI ((tpK 4 (L, bs)).2).length) rwkq_1 ∧ gIs rwfq_1 ((tpK 4 (L, bs)).2) := hw_1
  have hd_1 : d_1 + (rPh rwkq_1) ≤ (rPh rwk) := hd_1
  have hPD : my_PD (dC, dI) vwCl A [(ro, Sum.inr (0, [Value.int ron, Value.ref roa])), (roa, Sum.inl (cI, rok, Sum.inl rof)), (co, Sum.inr (2, [Value.long (lN (tpK 4 (L, bs)).1), Value.long xrange, Value.long xcode, Value.long xreadLow, Value.long xreadRange, Value.ref ri, Value.ref ro, Value.ref rw, Value.int xasked])), (rw, Sum.inr (0, [Value.int (nI (tpK 4 (L, bs)).2.length), Value.ref rwaq_1])), (rwaq_1, Sum.inl (cI, rwkq_1, Sum.inl rwfq_1))] H := ⟨hP, hD⟩
  have hP := hPD.1
  have hD := hPD.2
  refine lv_aload_n hx hb d_Ranged_closeMessage_4 rfl (lv_at hl 0 rfl) ?_
  refine va_get (D := (dC, dI)) (ci := 2) (v := .ref ro) (C := "RangeCoders$NoCarries") (T := T_NoCarries) (N := 9) hx hb hg in_NoCarries hown hK hP 2 rfl rfl 6 (by decide) (hg _ k109) (fun x9 h9 => u_same (hg _ k110) x9 h9) rfl d_Ranged_closeMessage_5 ?_
  refine lv_astore_n (lv' := [(1, Value.ref ro), (0, Value.ref co)]) hx hb d_Ranged_closeMessage_8 rfl hl (by decide) rfl (fun ls hl => ?_)
  refine lv_aload_n hx hb d_Ranged_closeMessage_9 rfl (lv_at hl 1 rfl) ?_
  refine lv_aload_n hx hb d_Ranged_closeMessage_10 rfl (lv_at hl 1 rfl) ?_
  refine va_get (D := (dC, dI)) (ci := 2) (v := .ref rw) (C := "RangeCoders$NoCarries") (T := T_NoCarries) (N := 9) hx hb hg in_NoCarries hown hK hP 2 rfl rfl 7 (by decide) (hg _ k116) (fun x9 h9 => u_same (hg _ k117) x9 h9) rfl d_Ranged_closeMessage_11 ?_
  refine va_put (D := (dC, dI)) (ci := 2) (v := .ref rw) (ty := (.object "RangeCoders$Row")) (C := "RangeCoders$NoCarries") (T := T_NoCarries) (N := 9) hx hb hg in_NoCarries t_NoCarries o_NoCarries n_NoCarries hown hK hP hD hS 2 rfl rfl 6 (by decide) (hg _ k109) (fun x9 h9 => u_same (hg _ k110) x9 h9) rfl (by decide +kernel) rfl rfl (Nat.le_of_ble_eq_true rfl) d_Ranged_closeMessage_14 (fun H locs hP hD hS => ?_)
  have hPD : my_PD (dC, dI) vwCl A [(ro, Sum.inr (0, [Value.int ron, Value.ref roa])), (roa, Sum.inl (cI, rok, Sum.inl rof)), (co, Sum.inr (2, [Value.long (lN (tpK 4 (L, bs)).1), Value.long xrange, Value.long xcode, Value.long xreadLow, Value.long xreadRange, Value.ref ri, Value.ref rw, Value.ref rw, Value.int xasked])), (rw, Sum.inr (0, [Value.int (nI (tpK 4 (L, bs)).2.length), Value.ref rwaq_1])), (rwaq_1, Sum.inl (cI, rwkq_1, Sum.inl rwfq_1))] H := ⟨hP, hD⟩
  have hP := hPD.1
  have hD := hPD.2
  refine lv_aload_n hx hb d_Ranged_closeMessage_17 rfl (lv_at hl 1 rfl) ?_
  refine lv_aload_n hx hb d_Ranged_closeMessage_18 rfl (lv_at hl 0 rfl) ?_
  refine va_put (D := (dC, dI)) (ci := 2) (v := .ref ro) (ty := (.object "RangeCoders$Row")) (C := "RangeCoders$NoCarries") (T := T_NoCarries) (N := 9) hx hb hg in_NoCarries t_NoCarries o_NoCarries n_NoCarries hown hK hP hD hS 2 rfl rfl 7 (by decide) (hg _ k116) (fun x9 h9 => u_same (hg _ k117) x9 h9) rfl (by decide +kernel) rfl rfl (Nat.le_of_ble_eq_true rfl) d_Ranged_closeMessage_19 (fun H locs hP hD hS => ?_)
  have hPD : my_PD (dC, dI) vwCl A [(ro, Sum.inr (0, [Value.int ron, Value.ref roa])), (roa, Sum.inl (cI, rok, Sum.inl rof)), (co, Sum.inr (2, [Value.long (lN (tpK 4 (L, bs)).1), Value.long xrange, Value.long xcode, Value.long xreadLow, Value.long xreadRange, Value.ref ri, Value.ref rw, Value.ref ro, Value.int xasked])), (rw, Sum.inr (0, [Value.int (nI (tpK 4 (L, bs)).2.length), Value.ref rwaq_1])), (rwaq_1, Sum.inl (cI, rwkq_1, Sum.inl rwfq_1))] H := ⟨hP, hD⟩
  have hP := hPD.1
  have hD := hPD.2
  exact my_vretg hx hb hr hlocks hQ hK hS (rwaq_1, rwkq_1, rwfq_1) (show (0 + d_1) + (rPh rwkq_1) ≤ (rPh rwk) by omega) (show (0 + d_1) + (rPh rwkq_1) ≤ (rPh rwk) by omega) (⟨hrw_1, hGrw_1⟩) (hP.sub [2, 3, 4, 0, 1] rfl) (hD.sub [2, 3, 4, 0, 1] (by decide +kernel) rfl) d_Ranged_closeMessage_22
set_option maxHeartbeats 2000000 in
set_option maxRecDepth 100000 in
theorem f_Bits_close (l : Launch) (dC : Nat → ClassId) (dI : Nat → Nat → Nat) (cI cM cO : ClassId) (sz : Nat) (sl : Nat) (co : Nat) (xshift : Int32) (xkeptCode : Int64) (xkeptRange : Int64) (xkeptAsked : Int32) (xcode : Int64) (xreadLow : Int64) (xreadRange : Int64) (ri : Nat) (ro : Nat) (rw : Nat) (xasked : Int32) (Rg : Nat) (L : Nat) (ca : Option Nat) (Pn : Nat) (rwa : Nat) (rwk : Nat) (rwf : Nat → Int32) (bs : List Nat) (ron : Int32) (roa : Nat) (rok : Nat) (rof : Nat → Int32) (hE : eOk (Rg, L, ca, Pn, bs)) (hrw : rOk (nI bs.length) rwk) (hGrw : gIs rwf bs) (hN9 : bs.length + 20 + Pn ≤ 7900) : MetVg l y_Ranged_closeMessage (Cond.code y_Ranged_closeMessage prog_8_method_9_code 2 none :: gw) ({ frames := 6, cells := rPh rwk, slots := rPh rwk, locals := 146 } : Room) (dC, dI) vwCl (kT cI cM cO) [Value.ref co] [(co, Sum.inr (3, [Value.int xshift, Value.long xkeptCode, Value.long xkeptRange, Value.int xkeptAsked, Value.int (caI ca), Value.int (nI Pn), Value.long (lN L), Value.long (lN Rg), Value.long xcode, Value.long xreadLow, Value.long xreadRange, Value.ref ri, Value.ref ro, Value.ref rw, Value.int xasked])), (rw, Sum.inr (0, [Value.int (nI bs.length), Value.ref rwa])), (rwa, Sum.inl (cI, rwk, Sum.inl rwf)), (ro, Sum.inr (0, [Value.int ron, Value.ref roa])), (roa, Sum.inl (cI, rok, Sum.inl rof))] sz sl (fun (u : Nat × Nat × (Nat → Int32)) => rOk (nI ((eB (shK 5 (Rg, L, ca, Pn, bs)))).length) u.2.1 ∧ gIs u.2.2 ((eB (shK 5 (Rg, L, ca, Pn, bs))))) (fun (u : Nat × Nat × (Nat → Int32)) => [(co, Sum.inr (3, [Value.int xshift, Value.long xkeptCode, Value.long xkeptRange, Value.int xkeptAsked, Value.int (caI (eC (shK 5 (Rg, L, ca, Pn, bs)))), Value.int (nI (eP (shK 5 (Rg, L, ca, Pn, bs)))), Value.long (lN (eL (shK 5 (Rg, L, ca, Pn, bs)))), Value.long (lN (eR (shK 5 (Rg, L, ca, Pn, bs)))), Value.long xcode, Value.long xreadLow, Value.long xreadRange, Value.ref ri, Value.ref rw, Value.ref ro, Value.int xasked])), (rw, Sum.inr (0, [Value.int (nI (eB (shK 5 (Rg, L, ca, Pn, bs))).length), Value.ref u.1])), (u.1, Sum.inl (cI, u.2.1, Sum.inl u.2.2)), (ro, Sum.inr (0, [Value.int ron, Value.ref roa])), (roa, Sum.inl (cI, rok, Sum.inl rof))]) (rPh rwk) (fun (u : Nat × Nat × (Nat → Int32)) => rPh u.2.1) := by
  refine my_ofVg (cc := prog_8_method_9_code) (n := 2) (ret := none) (by decide) rfl (Nat.le_of_ble_eq_true rfl) ?_
  intro p e s m args below meth c R Q A ls H locs hx hb hr hts hown hlocks hml hnm hR hQ hA hl hP hK hN hD hS
  have hg : ∀ w ∈ gw, w.before args s = true := fun w h => hts w (List.mem_cons_of_mem _ h)
  have hown : s.vm.findClass "RangeCoders$Ranged" = some m.cls := hown
  have hl : lv_has ls 2 [(0, Value.ref co)] := hl
  refine lv_aload_n hx hb d_Ranged_closeMessage_0 rfl (lv_at hl 0 rfl) ?_
  refine my_cvg (wr := [(ro, Sum.inr (0, [Value.int ron, Value.ref roa])), (roa, Sum.inl (cI, rok, Sum.inl rof))]) (va_runU (As := []) (rest := []) ⟨hx, hb, hml, hown, hts⟩ (f_Bits_flush l dC dI cI cM cO H.size (hSl H) co xshift xkeptCode xkeptRange xkeptAsked xcode xreadLow xreadRange ri ro rw xasked Rg L ca Pn rwa rwk rwf bs (by first | assumption | omega) (by first | assumption | omega) (by first | assumption | omega) (by omega)) (va_cwA 0 hts (my_gU k578 k580 k581 k582 k5 k583) rfl rfl rfl (hN.1 _ j579 rfl) (by decide +kernel) ⟨by rw [hR]; exact Nat.le_of_ble_eq_true rfl, by rw [hR]; exact Nat.le_of_ble_eq_true rfl⟩) (my_preVg hK hN (hP.sub [0, 1, 2] rfl) (hD.sub [0, 1, 2] (by decide +kernel) rfl) 0 rfl rfl) rfl rfl hl.1 rfl (lv_room (Nat.le_of_ble_eq_true rfl)) d_Ranged_closeMessage_1 ⟨by rw [hR]; exact (show 0 + (rPh rwk) ≤ (rPh rwk) by omega), by rw [hR]; exact (show 0 + (rPh rwk) ≤ (rPh rwk) by omega)⟩) hP hD hS hA [0, 1, 2] [3, 4] rfl rfl (by decide +kernel) (by decide +kernel) (fun u9 d_1 H locs hd_1 hw_1 hP hD hS => ?_)
  obtain ⟨rwaq_1, rwkq_1, rwfq_1⟩ := u9
  obtain ⟨hrw_1, hGrw_1⟩ : rOk (nI (eB (shK 5 (Rg, L, ca, Pn, bs))).length) rwkq_1 ∧ gIs rwfq_1 (eB (shK 5 (Rg, L, ca, Pn, bs))) := hw_1
  have hd_1 : d_1 + (rPh rwkq_1) ≤ (rPh rwk) := hd_1
  have hPD : my_PD (dC, dI) vwCl A [(ro, Sum.inr (0, [Value.int ron, Value.ref roa])), (roa, Sum.inl (cI, rok, Sum.inl rof)), (co, Sum.inr (3, [Value.int xshift, Value.long xkeptCode, Value.long xkeptRange, Value.int xkeptAsked, Value.int (caI (eC (shK 5 (Rg, L, ca, Pn, bs)))), Value.int (nI (eP (shK 5 (Rg, L, ca, Pn, bs)))), Value.long (lN (eL (shK 5 (Rg, L, ca, Pn, bs)))), Value.long (lN (eR (shK 5 (Rg, L, ca, Pn, bs)))), Value.long xcode, Value.long xreadLow, Value.long xreadRange, Value.ref ri, Value.ref ro, Value.ref rw, Value.int xasked])), (rw, Sum.inr (0, [Value.int (nI (eB (shK 5 (Rg, L, ca, Pn, bs))).length), Value.ref rwaq_1])), (rwaq_1, Sum.inl (cI, rwkq_1, Sum.inl rwfq_1))] H := ⟨hP, hD⟩
  have hP := hPD.1
  have hD := hPD.2
  refine lv_aload_n hx hb d_Ranged_closeMessage_4 rfl (lv_at hl 0 rfl) ?_
  refine va_get (D := (dC, dI)) (ci := 3) (v := .ref ro) (C := "RangeCoders$Bits") (T := T_Bits) (N := 15) hx hb hg in_Bits hown hK hP 2 rfl rfl 12 (by decide) (hg _ k109) (fun x9 h9 => u_same (hg _ k110) x9 h9) rfl d_Ranged_closeMessage_5 ?_
  refine lv_astore_n (lv' := [(1, Value.ref ro), (0, Value.ref co)]) hx hb d_Ranged_closeMessage_8 rfl hl (by decide) rfl (fun ls hl => ?_)
  refine lv_aload_n hx hb d_Ranged_closeMessage_9 rfl (lv_at hl 1 rfl) ?_
  refine lv_aload_n hx hb d_Ranged_closeMessage_10 rfl (lv_at hl 1 rfl) ?_
  refine va_get (D := (dC, dI)) (ci := 3) (v := .ref rw) (C := "RangeCoders$Bits") (T := T_Bits) (N := 15) hx hb hg in_Bits hown hK hP 2 rfl rfl 13 (by decide) (hg _ k116) (fun x9 h9 => u_same (hg _ k117) x9 h9) rfl d_Ranged_closeMessage_11 ?_
  refine va_put (D := (dC, dI)) (ci := 3) (v := .ref rw) (ty := (.object "RangeCoders$Row")) (C := "RangeCoders$Bits") (T := T_Bits) (N := 15) hx hb hg in_Bits t_Bits o_Bits n_Bits hown hK hP hD hS 2 rfl rfl 12 (by decide) (hg _ k109) (fun x9 h9 => u_same (hg _ k110) x9 h9) rfl (by decide +kernel) rfl rfl (Nat.le_of_ble_eq_true rfl) d_Ranged_closeMessage_14 (fun H locs hP hD hS => ?_)
  have hPD : my_PD (dC, dI) vwCl A [(ro, Sum.inr (0, [Value.int ron, Value.ref roa])), (roa, Sum.inl (cI, rok, Sum.inl rof)), (co, Sum.inr (3, [Value.int xshift, Value.long xkeptCode, Value.long xkeptRange, Value.int xkeptAsked, Value.int (caI (eC (shK 5 (Rg, L, ca, Pn, bs)))), Value.int (nI (eP (shK 5 (Rg, L, ca, Pn, bs)))), Value.long (lN (eL (shK 5 (Rg, L, ca, Pn, bs)))), Value.long (lN (eR (shK 5 (Rg, L, ca, Pn, bs)))), Value.long xcode, Value.long xreadLow, Value.long xreadRange, Value.ref ri, Value.ref rw, Value.ref rw, Value.int xasked])), (rw, Sum.inr (0, [Value.int (nI (eB (shK 5 (Rg, L, ca, Pn, bs))).length), Value.ref rwaq_1])), (rwaq_1, Sum.inl (cI, rwkq_1, Sum.inl rwfq_1))] H := ⟨hP, hD⟩
  have hP := hPD.1
  have hD := hPD.2
  refine lv_aload_n hx hb d_Ranged_closeMessage_17 rfl (lv_at hl 1 rfl) ?_
  refine lv_aload_n hx hb d_Ranged_closeMessage_18 rfl (lv_at hl 0 rfl) ?_
  refine va_put (D := (dC, dI)) (ci := 3) (v := .ref ro) (ty := (.object "RangeCoders$Row")) (C := "RangeCoders$Bits") (T := T_Bits) (N := 15) hx hb hg in_Bits t_Bits o_Bits n_Bits hown hK hP hD hS 2 rfl rfl 13 (by decide) (hg _ k116) (fun x9 h9 => u_same (hg _ k117) x9 h9) rfl (by decide +kernel) rfl rfl (Nat.le_of_ble_eq_true rfl) d_Ranged_closeMessage_19 (fun H locs hP hD hS => ?_)
  have hPD : my_PD (dC, dI) vwCl A [(ro, Sum.inr (0, [Value.int ron, Value.ref roa])), (roa, Sum.inl (cI, rok, Sum.inl rof)), (co, Sum.inr (3, [Value.int xshift, Value.long xkeptCode, Value.long xkeptRange, Value.int xkeptAsked, Value.int (caI (eC (shK 5 (Rg, L, ca, Pn, bs)))), Value.int (nI (eP (shK 5 (Rg, L, ca, Pn, bs)))), Value.long (lN (eL (shK 5 (Rg, L, ca, Pn, bs)))), Value.long (lN (eR (shK 5 (Rg, L, ca, Pn, bs)))), Value.long xcode, Value.long xreadLow, Value.long xreadRange, Value.ref ri, Value.ref rw, Value.ref ro, Value.int xasked])), (rw, Sum.inr (0, [Value.int (nI (eB (shK 5 (Rg, L, ca, Pn, bs))).length), Value.ref rwaq_1])), (rwaq_1, Sum.inl (cI, rwkq_1, Sum.inl rwfq_1))] H := ⟨hP, hD⟩
  have hP := hPD.1
  have hD := hPD.2
  exact my_vretg hx hb hr hlocks hQ hK hS (rwaq_1, rwkq_1, rwfq_1) (show (0 + d_1) + (rPh rwkq_1) ≤ (rPh rwk) by omega) (show (0 + d_1) + (rPh rwkq_1) ≤ (rPh rwk) by omega) (⟨hrw_1, hGrw_1⟩) (hP.sub [2, 3, 4, 0, 1] rfl) (hD.sub [2, 3, 4, 0, 1] (by decide +kernel) rfl) d_Ranged_closeMessage_22
set_option maxHeartbeats 2000000 in
set_option maxRecDepth 100000 in
theorem f_Stack_keep (l : Launch) (dC : Nat → ClassId) (dI : Nat → Nat → Nat) (cI cM cO : ClassId) (sz : Nat) (co : Nat) (xx : Int64) (xreadX : Int64) (soa : Nat) (sna : Nat) (swa : Nat) (ri : Nat) (ro : Nat) (rw : Nat) (xasked : Int32) (sof : Nat → Option Nat) (snf : Nat → Int32) (swf : Nat → Int32) (oo : Nat) (osg : Int32) (ofc : Int32) (oca : Nat) (opa : Nat) (n : Nat) (ocf : Nat → Int32) (opl : Nat) (opf : Nat → Int32) (osm : Int32) (ki : Nat) (nb : Int32) (wd : Int32) (hki : ki < 600) : MetV l y_Stacked_keep (Cond.code y_Stacked_keep prog_11_method_11_code 4 none :: gw) ({ frames := 0, cells := 0, slots := 0, locals := 0 } : Room) (dC, dI) vwCl (kT cI cM cO) [Value.ref co, Value.ref oo, Value.int nb, Value.int wd] [(co, Sum.inr (4, [Value.long xx, Value.long xreadX, Value.ref soa, Value.ref sna, Value.ref swa, Value.int (nI ki), Value.ref ri, Value.ref ro, Value.ref rw, Value.int xasked])), (soa, Sum.inl (cO, 600, Sum.inr (Sum.inr (Sum.inr (Sum.inr sof))))), (sna, Sum.inl (cI, 600, Sum.inl snf)), (swa, Sum.inl (cI, 600, Sum.inl swf)), (oo, Sum.inr (7, [Value.int osg, Value.int osm, Value.int ofc, Value.ref oca, Value.ref opa])), (oca, Sum.inl (cI, n, Sum.inl ocf)), (opa, Sum.inl (cI, opl, Sum.inl opf))] sz (fun (u : (Nat → Option Nat) × (Nat → Int32) × (Nat → Int32)) => u.1 = va_up sof ki (some oo) ∧ u.2.1 = upd snf ki nb ∧ u.2.2 = upd swf ki wd) (fun (u : (Nat → Option Nat) × (Nat → Int32) × (Nat → Int32)) => [(co, Sum.inr (4, [Value.long xx, Value.long xreadX, Value.ref soa, Value.ref sna, Value.ref swa, Value.int (nI (ki + 1)), Value.ref ri, Value.ref ro, Value.ref rw, Value.int xasked])), (soa, Sum.inl (cO, 600, Sum.inr (Sum.inr (Sum.inr (Sum.inr u.1))))), (sna, Sum.inl (cI, 600, Sum.inl u.2.1)), (swa, Sum.inl (cI, 600, Sum.inl u.2.2)), (oo, Sum.inr (7, [Value.int osg, Value.int osm, Value.int ofc, Value.ref oca, Value.ref opa])), (oca, Sum.inl (cI, n, Sum.inl ocf)), (opa, Sum.inl (cI, opl, Sum.inl opf))]) 0 0 := by
  refine my_ofV (cc := prog_11_method_11_code) (n := 4) (ret := none) (by decide) rfl (Nat.le_of_ble_eq_true rfl) ?_
  intro p e s m args below meth c R Q A ls H locs hx hb hr hts hown hlocks hml hnm hR hQ hA hl hP hK hN hD hS
  have hg : ∀ w ∈ gw, w.before args s = true := fun w h => hts w (List.mem_cons_of_mem _ h)
  have hown : s.vm.findClass "RangeCoders$Stacked" = some m.cls := hown
  have hl : lv_has ls 4 [(0, Value.ref co), (1, Value.ref oo), (2, Value.int nb), (3, Value.int wd)] := hl
  refine lv_aload_n hx hb d_Stacked_keep_0 rfl (lv_at hl 0 rfl) ?_
  refine va_get (D := (dC, dI)) (ci := 4) (v := .int (nI ki)) (C := "RangeCoders$Stack") (T := T_Stack) (N := 10) hx hb hg in_Stack hown hK hP 0 rfl rfl 5 (by decide) (hg _ k223) (fun _ h9 => h9) rfl d_Stacked_keep_1 ?_
  refine lv_if_lt (tgt := 57) hx hb d_Stacked_keep_4 (by decide) (fun c_1 => ?_) (fun c_1 => ?_)
  · exact absurd c_1 (nI_pos (by omega))
  · refine lv_aload_n hx hb d_Stacked_keep_7 rfl (lv_at hl 0 rfl) ?_
    refine va_get (D := (dC, dI)) (ci := 4) (v := .int (nI ki)) (C := "RangeCoders$Stack") (T := T_Stack) (N := 10) hx hb hg in_Stack hown hK hP 0 rfl rfl 5 (by decide) (hg _ k223) (fun _ h9 => h9) rfl d_Stacked_keep_8 ?_
    refine lv_sipush (v := 600) hx hb d_Stacked_keep_11 (by decide) ?_
    refine lv_icmp_ge (tgt := 57) hx hb d_Stacked_keep_14 (by decide) (fun c_2 => ?_) (fun c_2 => ?_)
    · exact absurd (nI_ge' (n := 600) (by omega) (by decide) c_2) (by omega)
    · refine lv_aload_n hx hb d_Stacked_keep_17 rfl (lv_at hl 0 rfl) ?_
      refine va_get (D := (dC, dI)) (ci := 4) (v := .ref soa) (C := "RangeCoders$Stack") (T := T_Stack) (N := 10) hx hb hg in_Stack hown hK hP 0 rfl rfl 2 (by decide) (hg _ k220) (fun _ h9 => h9) rfl d_Stacked_keep_18 ?_
      refine lv_aload_n hx hb d_Stacked_keep_21 rfl (lv_at hl 0 rfl) ?_
      refine va_get (D := (dC, dI)) (ci := 4) (v := .int (nI ki)) (C := "RangeCoders$Stack") (T := T_Stack) (N := 10) hx hb hg in_Stack hown hK hP 0 rfl rfl 5 (by decide) (hg _ k223) (fun _ h9 => h9) rfl d_Stacked_keep_22 ?_
      refine lv_aload_n hx hb d_Stacked_keep_25 rfl (lv_at hl 1 rfl) ?_
      refine va_astq hx hb hK hP hD hS 1 2 4 7 rfl rfl rfl rfl (vp_in_nI hki (by decide)) d_Stacked_keep_26 (fun H locs hP hD hS => ?_)
      have hPD : my_PD (dC, dI) vwCl A [(co, Sum.inr (4, [Value.long xx, Value.long xreadX, Value.ref soa, Value.ref sna, Value.ref swa, Value.int (nI ki), Value.ref ri, Value.ref ro, Value.ref rw, Value.int xasked])), (soa, Sum.inl (cO, 600, Sum.inr (Sum.inr (Sum.inr (Sum.inr (va_up sof (nI ki).toNatClampNeg (some oo))))))), (sna, Sum.inl (cI, 600, Sum.inl snf)), (swa, Sum.inl (cI, 600, Sum.inl swf)), (oo, Sum.inr (7, [Value.int osg, Value.int osm, Value.int ofc, Value.ref oca, Value.ref opa])), (oca, Sum.inl (cI, n, Sum.inl ocf)), (opa, Sum.inl (cI, opl, Sum.inl opf))] H := ⟨hP, hD⟩
      have hP := hPD.1
      have hD := hPD.2
      refine lv_aload_n hx hb d_Stacked_keep_27 rfl (lv_at hl 0 rfl) ?_
      refine va_get (D := (dC, dI)) (ci := 4) (v := .ref sna) (C := "RangeCoders$Stack") (T := T_Stack) (N := 10) hx hb hg in_Stack hown hK hP 0 rfl rfl 3 (by decide) (hg _ k221) (fun _ h9 => h9) rfl d_Stacked_keep_28 ?_
      refine lv_aload_n hx hb d_Stacked_keep_31 rfl (lv_at hl 0 rfl) ?_
      refine va_get (D := (dC, dI)) (ci := 4) (v := .int (nI ki)) (C := "RangeCoders$Stack") (T := T_Stack) (N := 10) hx hb hg in_Stack hown hK hP 0 rfl rfl 5 (by decide) (hg _ k223) (fun _ h9 => h9) rfl d_Stacked_keep_32 ?_
      refine lv_iload_n hx hb d_Stacked_keep_35 rfl (lv_at hl 2 rfl) ?_
      refine va_iast hx hb hK hP hD hS 2 0 rfl rfl (vp_in_nI hki (by decide)) d_Stacked_keep_36 (fun H locs hP hD hS => ?_)
      have hPD : my_PD (dC, dI) vwCl A [(co, Sum.inr (4, [Value.long xx, Value.long xreadX, Value.ref soa, Value.ref sna, Value.ref swa, Value.int (nI ki), Value.ref ri, Value.ref ro, Value.ref rw, Value.int xasked])), (soa, Sum.inl (cO, 600, Sum.inr (Sum.inr (Sum.inr (Sum.inr (va_up sof (nI ki).toNatClampNeg (some oo))))))), (sna, Sum.inl (cI, 600, Sum.inl (upd snf (nI ki).toNatClampNeg nb))), (swa, Sum.inl (cI, 600, Sum.inl swf)), (oo, Sum.inr (7, [Value.int osg, Value.int osm, Value.int ofc, Value.ref oca, Value.ref opa])), (oca, Sum.inl (cI, n, Sum.inl ocf)), (opa, Sum.inl (cI, opl, Sum.inl opf))] H := ⟨hP, hD⟩
      have hP := hPD.1
      have hD := hPD.2
      refine lv_aload_n hx hb d_Stacked_keep_37 rfl (lv_at hl 0 rfl) ?_
      refine va_get (D := (dC, dI)) (ci := 4) (v := .ref swa) (C := "RangeCoders$Stack") (T := T_Stack) (N := 10) hx hb hg in_Stack hown hK hP 0 rfl rfl 4 (by decide) (hg _ k222) (fun _ h9 => h9) rfl d_Stacked_keep_38 ?_
      refine lv_aload_n hx hb d_Stacked_keep_41 rfl (lv_at hl 0 rfl) ?_
      refine va_get (D := (dC, dI)) (ci := 4) (v := .int (nI ki)) (C := "RangeCoders$Stack") (T := T_Stack) (N := 10) hx hb hg in_Stack hown hK hP 0 rfl rfl 5 (by decide) (hg _ k223) (fun _ h9 => h9) rfl d_Stacked_keep_42 ?_
      refine lv_iload_n hx hb d_Stacked_keep_45 rfl (lv_at hl 3 rfl) ?_
      refine va_iast hx hb hK hP hD hS 3 0 rfl rfl (vp_in_nI hki (by decide)) d_Stacked_keep_46 (fun H locs hP hD hS => ?_)
      have hPD : my_PD (dC, dI) vwCl A [(co, Sum.inr (4, [Value.long xx, Value.long xreadX, Value.ref soa, Value.ref sna, Value.ref swa, Value.int (nI ki), Value.ref ri, Value.ref ro, Value.ref rw, Value.int xasked])), (soa, Sum.inl (cO, 600, Sum.inr (Sum.inr (Sum.inr (Sum.inr (va_up sof (nI ki).toNatClampNeg (some oo))))))), (sna, Sum.inl (cI, 600, Sum.inl (upd snf (nI ki).toNatClampNeg nb))), (swa, Sum.inl (cI, 600, Sum.inl (upd swf (nI ki).toNatClampNeg wd))), (oo, Sum.inr (7, [Value.int osg, Value.int osm, Value.int ofc, Value.ref oca, Value.ref opa])), (oca, Sum.inl (cI, n, Sum.inl ocf)), (opa, Sum.inl (cI, opl, Sum.inl opf))] H := ⟨hP, hD⟩
      have hP := hPD.1
      have hD := hPD.2
      refine lv_aload_n hx hb d_Stacked_keep_47 rfl (lv_at hl 0 rfl) ?_
      refine lv_dup hx hb d_Stacked_keep_48 rfl ?_
      refine va_get (D := (dC, dI)) (ci := 4) (v := .int (nI ki)) (C := "RangeCoders$Stack") (T := T_Stack) (N := 10) hx hb hg in_Stack hown hK hP 0 rfl rfl 5 (by decide) (hg _ k223) (fun _ h9 => h9) rfl d_Stacked_keep_49 ?_
      refine lv_iconst (v := 1) hx hb d_Stacked_keep_52 (by decide) ?_
      refine lv_iadd hx hb d_Stacked_keep_53 ?_
      refine lv_topi (fun v_3 ev_3 => ?_)
      have z9 : v_3 = nI (ki + 1) := by rw [ev_3]; exact nI_1 _
      subst z9
      refine va_put (D := (dC, dI)) (ci := 4) (v := .int (nI (ki + 1))) (ty := .int) (C := "RangeCoders$Stack") (T := T_Stack) (N := 10) hx hb hg in_Stack t_Stack o_Stack n_Stack hown hK hP hD hS 0 rfl rfl 5 (by decide) (hg _ k223) (fun _ h9 => h9) rfl (by decide +kernel) rfl rfl (Nat.le_of_ble_eq_true rfl) d_Stacked_keep_54 (fun H locs hP hD hS => ?_)
      have hPD : my_PD (dC, dI) vwCl A [(co, Sum.inr (4, [Value.long xx, Value.long xreadX, Value.ref soa, Value.ref sna, Value.ref swa, Value.int (nI (ki + 1)), Value.ref ri, Value.ref ro, Value.ref rw, Value.int xasked])), (soa, Sum.inl (cO, 600, Sum.inr (Sum.inr (Sum.inr (Sum.inr (va_up sof (nI ki).toNatClampNeg (some oo))))))), (sna, Sum.inl (cI, 600, Sum.inl (upd snf (nI ki).toNatClampNeg nb))), (swa, Sum.inl (cI, 600, Sum.inl (upd swf (nI ki).toNatClampNeg wd))), (oo, Sum.inr (7, [Value.int osg, Value.int osm, Value.int ofc, Value.ref oca, Value.ref opa])), (oca, Sum.inl (cI, n, Sum.inl ocf)), (opa, Sum.inl (cI, opl, Sum.inl opf))] H := ⟨hP, hD⟩
      have hP := hPD.1
      have hD := hPD.2
      exact my_vret hx hb hr hlocks hQ hK hS (Nat.le_refl _) (Nat.le_refl _) (va_up sof (nI ki).toNatClampNeg (some oo), upd snf (nI ki).toNatClampNeg nb, upd swf (nI ki).toNatClampNeg wd) (⟨by rw [nI_clamp (by omega)], by rw [nI_clamp (by omega)], by rw [nI_clamp (by omega)]⟩) (hP.sub [0, 1, 2, 3, 4, 5, 6] rfl) (hD.sub [0, 1, 2, 3, 4, 5, 6] (by decide +kernel) rfl) d_Stacked_keep_57
set_option maxHeartbeats 2000000 in
set_option maxRecDepth 100000 in
theorem f_Stack_writeSign (l : Launch) (dC : Nat → ClassId) (dI : Nat → Nat → Nat) (cI cM cO : ClassId) (sz : Nat) (co : Nat) (xx : Int64) (xreadX : Int64) (soa : Nat) (sna : Nat) (swa : Nat) (ri : Nat) (ro : Nat) (rw : Nat) (xasked : Int32) (sof : Nat → Option Nat) (snf : Nat → Int32) (swf : Nat → Int32) (oo : Nat) (osg : Int32) (ofc : Int32) (oca : Nat) (opa : Nat) (n : Nat) (ocf : Nat → Int32) (opl : Nat) (opf : Nat → Int32) (osm : Int32) (ki : Nat) (t : Nat) (hki : ki < 600) : MetV l y_Stacked_writeSign (Cond.code y_Stacked_writeSign prog_11_method_7_code 3 none :: gw) ({ frames := 1, cells := 0, slots := 0, locals := 23 } : Room) (dC, dI) vwCl (kT cI cM cO) [Value.ref co, Value.ref oo, Value.int (nI t)] [(co, Sum.inr (4, [Value.long xx, Value.long xreadX, Value.ref soa, Value.ref sna, Value.ref swa, Value.int (nI ki), Value.ref ri, Value.ref ro, Value.ref rw, Value.int xasked])), (soa, Sum.inl (cO, 600, Sum.inr (Sum.inr (Sum.inr (Sum.inr sof))))), (sna, Sum.inl (cI, 600, Sum.inl snf)), (swa, Sum.inl (cI, 600, Sum.inl swf)), (oo, Sum.inr (7, [Value.int osg, Value.int osm, Value.int ofc, Value.ref oca, Value.ref opa])), (oca, Sum.inl (cI, n, Sum.inl ocf)), (opa, Sum.inl (cI, opl, Sum.inl opf))] sz (fun (u : (Nat → Option Nat) × (Nat → Int32) × (Nat → Int32)) => u.1 = va_up sof ki (some oo) ∧ u.2.1 = upd snf ki (nI t) ∧ u.2.2 = upd swf ki 0) (fun (u : (Nat → Option Nat) × (Nat → Int32) × (Nat → Int32)) => [(co, Sum.inr (4, [Value.long xx, Value.long xreadX, Value.ref soa, Value.ref sna, Value.ref swa, Value.int (nI (ki + 1)), Value.ref ri, Value.ref ro, Value.ref rw, Value.int xasked])), (soa, Sum.inl (cO, 600, Sum.inr (Sum.inr (Sum.inr (Sum.inr u.1))))), (sna, Sum.inl (cI, 600, Sum.inl u.2.1)), (swa, Sum.inl (cI, 600, Sum.inl u.2.2)), (oo, Sum.inr (7, [Value.int osg, Value.int osm, Value.int ofc, Value.ref oca, Value.ref opa])), (oca, Sum.inl (cI, n, Sum.inl ocf)), (opa, Sum.inl (cI, opl, Sum.inl opf))]) 0 0 := by
  refine my_ofV (cc := prog_11_method_7_code) (n := 3) (ret := none) (by decide) rfl (Nat.le_of_ble_eq_true rfl) ?_
  intro p e s m args below meth c R Q A ls H locs hx hb hr hts hown hlocks hml hnm hR hQ hA hl hP hK hN hD hS
  have hg : ∀ w ∈ gw, w.before args s = true := fun w h => hts w (List.mem_cons_of_mem _ h)
  have hown : s.vm.findClass "RangeCoders$Stacked" = some m.cls := hown
  have hl : lv_has ls 3 [(0, Value.ref co), (1, Value.ref oo), (2, Value.int (nI t))] := hl
  refine lv_aload_n hx hb d_Stacked_writeSign_0 rfl (lv_at hl 0 rfl) ?_
  refine lv_aload_n hx hb d_Stacked_writeSign_1 rfl (lv_at hl 1 rfl) ?_
  refine lv_iload_n hx hb d_Stacked_writeSign_2 rfl (lv_at hl 2 rfl) ?_
  refine lv_iconst (v := 0) hx hb d_Stacked_writeSign_3 (by decide) ?_
  refine my_cv (wr := []) (va_runU (As := [Value.ref oo, Value.int (nI t), Value.int 0]) (rest := []) ⟨hx, hb, hml, hown, hts⟩ (f_Stack_keep l dC dI cI cM cO H.size co xx xreadX soa sna swa ri ro rw xasked sof snf swf oo osg ofc oca opa n ocf opl opf osm ki (nI t) 0 (by first | assumption | omega)) (va_cwU 3 hts (my_gU k534 k1286 kx2 k536 k9 k537) rfl rfl rfl rfl (by decide +kernel) ⟨by rw [hR]; exact Nat.le_of_ble_eq_true rfl, by rw [hR]; exact Nat.le_of_ble_eq_true rfl⟩) (my_preV hK hN (hP.sub [0, 1, 2, 3, 4, 5, 6] rfl) (hD.sub [0, 1, 2, 3, 4, 5, 6] (by decide +kernel) rfl) 0 rfl rfl) rfl rfl hl.1 rfl (lv_room (Nat.le_of_ble_eq_true rfl)) d_Stacked_writeSign_4 ⟨by rw [hR]; exact Nat.le_of_ble_eq_true rfl, by rw [hR]; exact Nat.le_of_ble_eq_true rfl⟩) hP hD hS hA [0, 1, 2, 3, 4, 5, 6] [] rfl rfl (by decide +kernel) (by decide +kernel) (fun u9 H locs hw_4 hP hD hS => ?_)
  obtain ⟨sofq_4, snfq_4, swfq_4⟩ := u9
  obtain ⟨h1_4, h2_4, h3_4⟩ : sofq_4 = va_up sof ki (some oo) ∧ snfq_4 = upd snf ki (nI t) ∧ swfq_4 = upd swf ki 0 := hw_4
  have hPD : my_PD (dC, dI) vwCl A [(co, Sum.inr (4, [Value.long xx, Value.long xreadX, Value.ref soa, Value.ref sna, Value.ref swa, Value.int (nI (ki + 1)), Value.ref ri, Value.ref ro, Value.ref rw, Value.int xasked])), (soa, Sum.inl (cO, 600, Sum.inr (Sum.inr (Sum.inr (Sum.inr sofq_4))))), (sna, Sum.inl (cI, 600, Sum.inl snfq_4)), (swa, Sum.inl (cI, 600, Sum.inl swfq_4)), (oo, Sum.inr (7, [Value.int osg, Value.int osm, Value.int ofc, Value.ref oca, Value.ref opa])), (oca, Sum.inl (cI, n, Sum.inl ocf)), (opa, Sum.inl (cI, opl, Sum.inl opf))] H := ⟨hP, hD⟩
  have hP := hPD.1
  have hD := hPD.2
  exact my_vret hx hb hr hlocks hQ hK hS (Nat.le_refl _) (Nat.le_refl _) (sofq_4, snfq_4, swfq_4) (⟨h1_4, h2_4, h3_4⟩) (hP.sub [0, 1, 2, 3, 4, 5, 6] rfl) (hD.sub [0, 1, 2, 3, 4, 5, 6] (by decide +kernel) rfl) d_Stacked_writeSign_7
set_option maxHeartbeats 2000000 in
set_option maxRecDepth 100000 in
theorem f_Stack_keepN (l : Launch) (dC : Nat → ClassId) (dI : Nat → Nat → Nat) (cI cM cO : ClassId) (sz : Nat) (co : Nat) (xx : Int64) (xreadX : Int64) (soa : Nat) (sna : Nat) (swa : Nat) (ri : Nat) (ro : Nat) (rw : Nat) (xasked : Int32) (sof : Nat → Option Nat) (snf : Nat → Int32) (swf : Nat → Int32) (ki : Nat) (nb : Int32) (wd : Int32) (hki : ki < 600) : MetV l y_Stacked_keep (Cond.code y_Stacked_keep prog_11_method_11_code 4 none :: gw) ({ frames := 0, cells := 0, slots := 0, locals := 0 } : Room) (dC, dI) vwCl (kT cI cM cO) [Value.ref co, Value.null, Value.int nb, Value.int wd] [(co, Sum.inr (4, [Value.long xx, Value.long xreadX, Value.ref soa, Value.ref sna, Value.ref swa, Value.int (nI ki), Value.ref ri, Value.ref ro, Value.ref rw, Value.int xasked])), (soa, Sum.inl (cO, 600, Sum.inr (Sum.inr (Sum.inr (Sum.inr sof))))), (sna, Sum.inl (cI, 600, Sum.inl snf)), (swa, Sum.inl (cI, 600, Sum.inl swf))] sz (fun (u : (Nat → Option Nat) × (Nat → Int32) × (Nat → Int32)) => u.1 = va_up sof ki (none) ∧ u.2.1 = upd snf ki nb ∧ u.2.2 = upd swf ki wd) (fun (u : (Nat → Option Nat) × (Nat → Int32) × (Nat → Int32)) => [(co, Sum.inr (4, [Value.long xx, Value.long xreadX, Value.ref soa, Value.ref sna, Value.ref swa, Value.int (nI (ki + 1)), Value.ref ri, Value.ref ro, Value.ref rw, Value.int xasked])), (soa, Sum.inl (cO, 600, Sum.inr (Sum.inr (Sum.inr (Sum.inr u.1))))), (sna, Sum.inl (cI, 600, Sum.inl u.2.1)), (swa, Sum.inl (cI, 600, Sum.inl u.2.2))]) 0 0 := by
  refine my_ofV (cc := prog_11_method_11_code) (n := 4) (ret := none) (by decide) rfl (Nat.le_of_ble_eq_true rfl) ?_
  intro p e s m args below meth c R Q A ls H locs hx hb hr hts hown hlocks hml hnm hR hQ hA hl hP hK hN hD hS
  have hg : ∀ w ∈ gw, w.before args s = true := fun w h => hts w (List.mem_cons_of_mem _ h)
  have hown : s.vm.findClass "RangeCoders$Stacked" = some m.cls := hown
  have hl : lv_has ls 4 [(0, Value.ref co), (1, Value.null), (2, Value.int nb), (3, Value.int wd)] := hl
  refine lv_aload_n hx hb d_Stacked_keep_0 rfl (lv_at hl 0 rfl) ?_
  refine va_get (D := (dC, dI)) (ci := 4) (v := .int (nI ki)) (C := "RangeCoders$Stack") (T := T_Stack) (N := 10) hx hb hg in_Stack hown hK hP 0 rfl rfl 5 (by decide) (hg _ k223) (fun _ h9 => h9) rfl d_Stacked_keep_1 ?_
  refine lv_if_lt (tgt := 57) hx hb d_Stacked_keep_4 (by decide) (fun c_1 => ?_) (fun c_1 => ?_)
  · exact absurd c_1 (nI_pos (by omega))
  · refine lv_aload_n hx hb d_Stacked_keep_7 rfl (lv_at hl 0 rfl) ?_
    refine va_get (D := (dC, dI)) (ci := 4) (v := .int (nI ki)) (C := "RangeCoders$Stack") (T := T_Stack) (N := 10) hx hb hg in_Stack hown hK hP 0 rfl rfl 5 (by decide) (hg _ k223) (fun _ h9 => h9) rfl d_Stacked_keep_8 ?_
    refine lv_sipush (v := 600) hx hb d_Stacked_keep_11 (by decide) ?_
    refine lv_icmp_ge (tgt := 57) hx hb d_Stacked_keep_14 (by decide) (fun c_2 => ?_) (fun c_2 => ?_)
    · exact absurd (nI_ge' (n := 600) (by omega) (by decide) c_2) (by omega)
    · refine lv_aload_n hx hb d_Stacked_keep_17 rfl (lv_at hl 0 rfl) ?_
      refine va_get (D := (dC, dI)) (ci := 4) (v := .ref soa) (C := "RangeCoders$Stack") (T := T_Stack) (N := 10) hx hb hg in_Stack hown hK hP 0 rfl rfl 2 (by decide) (hg _ k220) (fun _ h9 => h9) rfl d_Stacked_keep_18 ?_
      refine lv_aload_n hx hb d_Stacked_keep_21 rfl (lv_at hl 0 rfl) ?_
      refine va_get (D := (dC, dI)) (ci := 4) (v := .int (nI ki)) (C := "RangeCoders$Stack") (T := T_Stack) (N := 10) hx hb hg in_Stack hown hK hP 0 rfl rfl 5 (by decide) (hg _ k223) (fun _ h9 => h9) rfl d_Stacked_keep_22 ?_
      refine lv_aload_nN hx hb d_Stacked_keep_25 rfl (lv_at hl 1 rfl) ?_
      refine va_astqN hx hb hK hP hD hS 1 2 rfl rfl (vp_in_nI hki (by decide)) d_Stacked_keep_26 (fun H locs hP hD hS => ?_)
      have hPD : my_PD (dC, dI) vwCl A [(co, Sum.inr (4, [Value.long xx, Value.long xreadX, Value.ref soa, Value.ref sna, Value.ref swa, Value.int (nI ki), Value.ref ri, Value.ref ro, Value.ref rw, Value.int xasked])), (soa, Sum.inl (cO, 600, Sum.inr (Sum.inr (Sum.inr (Sum.inr (va_up sof (nI ki).toNatClampNeg (none))))))), (sna, Sum.inl (cI, 600, Sum.inl snf)), (swa, Sum.inl (cI, 600, Sum.inl swf))] H := ⟨hP, hD⟩
      have hP := hPD.1
      have hD := hPD.2
      refine lv_aload_n hx hb d_Stacked_keep_27 rfl (lv_at hl 0 rfl) ?_
      refine va_get (D := (dC, dI)) (ci := 4) (v := .ref sna) (C := "RangeCoders$Stack") (T := T_Stack) (N := 10) hx hb hg in_Stack hown hK hP 0 rfl rfl 3 (by decide) (hg _ k221) (fun _ h9 => h9) rfl d_Stacked_keep_28 ?_
      refine lv_aload_n hx hb d_Stacked_keep_31 rfl (lv_at hl 0 rfl) ?_
      refine va_get (D := (dC, dI)) (ci := 4) (v := .int (nI ki)) (C := "RangeCoders$Stack") (T := T_Stack) (N := 10) hx hb hg in_Stack hown hK hP 0 rfl rfl 5 (by decide) (hg _ k223) (fun _ h9 => h9) rfl d_Stacked_keep_32 ?_
      refine lv_iload_n hx hb d_Stacked_keep_35 rfl (lv_at hl 2 rfl) ?_
      refine va_iast hx hb hK hP hD hS 2 0 rfl rfl (vp_in_nI hki (by decide)) d_Stacked_keep_36 (fun H locs hP hD hS => ?_)
      have hPD : my_PD (dC, dI) vwCl A [(co, Sum.inr (4, [Value.long xx, Value.long xreadX, Value.ref soa, Value.ref sna, Value.ref swa, Value.int (nI ki), Value.ref ri, Value.ref ro, Value.ref rw, Value.int xasked])), (soa, Sum.inl (cO, 600, Sum.inr (Sum.inr (Sum.inr (Sum.inr (va_up sof (nI ki).toNatClampNeg (none))))))), (sna, Sum.inl (cI, 600, Sum.inl (upd snf (nI ki).toNatClampNeg nb))), (swa, Sum.inl (cI, 600, Sum.inl swf))] H := ⟨hP, hD⟩
      have hP := hPD.1
      have hD := hPD.2
      refine lv_aload_n hx hb d_Stacked_keep_37 rfl (lv_at hl 0 rfl) ?_
      refine va_get (D := (dC, dI)) (ci := 4) (v := .ref swa) (C := "RangeCoders$Stack") (T := T_Stack) (N := 10) hx hb hg in_Stack hown hK hP 0 rfl rfl 4 (by decide) (hg _ k222) (fun _ h9 => h9) rfl d_Stacked_keep_38 ?_
      refine lv_aload_n hx hb d_Stacked_keep_41 rfl (lv_at hl 0 rfl) ?_
      refine va_get (D := (dC, dI)) (ci := 4) (v := .int (nI ki)) (C := "RangeCoders$Stack") (T := T_Stack) (N := 10) hx hb hg in_Stack hown hK hP 0 rfl rfl 5 (by decide) (hg _ k223) (fun _ h9 => h9) rfl d_Stacked_keep_42 ?_
      refine lv_iload_n hx hb d_Stacked_keep_45 rfl (lv_at hl 3 rfl) ?_
      refine va_iast hx hb hK hP hD hS 3 0 rfl rfl (vp_in_nI hki (by decide)) d_Stacked_keep_46 (fun H locs hP hD hS => ?_)
      have hPD : my_PD (dC, dI) vwCl A [(co, Sum.inr (4, [Value.long xx, Value.long xreadX, Value.ref soa, Value.ref sna, Value.ref swa, Value.int (nI ki), Value.ref ri, Value.ref ro, Value.ref rw, Value.int xasked])), (soa, Sum.inl (cO, 600, Sum.inr (Sum.inr (Sum.inr (Sum.inr (va_up sof (nI ki).toNatClampNeg (none))))))), (sna, Sum.inl (cI, 600, Sum.inl (upd snf (nI ki).toNatClampNeg nb))), (swa, Sum.inl (cI, 600, Sum.inl (upd swf (nI ki).toNatClampNeg wd)))] H := ⟨hP, hD⟩
      have hP := hPD.1
      have hD := hPD.2
      refine lv_aload_n hx hb d_Stacked_keep_47 rfl (lv_at hl 0 rfl) ?_
      refine lv_dup hx hb d_Stacked_keep_48 rfl ?_
      refine va_get (D := (dC, dI)) (ci := 4) (v := .int (nI ki)) (C := "RangeCoders$Stack") (T := T_Stack) (N := 10) hx hb hg in_Stack hown hK hP 0 rfl rfl 5 (by decide) (hg _ k223) (fun _ h9 => h9) rfl d_Stacked_keep_49 ?_
      refine lv_iconst (v := 1) hx hb d_Stacked_keep_52 (by decide) ?_
      refine lv_iadd hx hb d_Stacked_keep_53 ?_
      refine lv_topi (fun v_3 ev_3 => ?_)
      have z9 : v_3 = nI (ki + 1) := by rw [ev_3]; exact nI_1 _
      subst z9
      refine va_put (D := (dC, dI)) (ci := 4) (v := .int (nI (ki + 1))) (ty := .int) (C := "RangeCoders$Stack") (T := T_Stack) (N := 10) hx hb hg in_Stack t_Stack o_Stack n_Stack hown hK hP hD hS 0 rfl rfl 5 (by decide) (hg _ k223) (fun _ h9 => h9) rfl (by decide +kernel) rfl rfl (Nat.le_of_ble_eq_true rfl) d_Stacked_keep_54 (fun H locs hP hD hS => ?_)
      have hPD : my_PD (dC, dI) vwCl A [(co, Sum.inr (4, [Value.long xx, Value.long xreadX, Value.ref soa, Value.ref sna, Value.ref swa, Value.int (nI (ki + 1)), Value.ref ri, Value.ref ro, Value.ref rw, Value.int xasked])), (soa, Sum.inl (cO, 600, Sum.inr (Sum.inr (Sum.inr (Sum.inr (va_up sof (nI ki).toNatClampNeg (none))))))), (sna, Sum.inl (cI, 600, Sum.inl (upd snf (nI ki).toNatClampNeg nb))), (swa, Sum.inl (cI, 600, Sum.inl (upd swf (nI ki).toNatClampNeg wd)))] H := ⟨hP, hD⟩
      have hP := hPD.1
      have hD := hPD.2
      exact my_vret hx hb hr hlocks hQ hK hS (Nat.le_refl _) (Nat.le_refl _) (va_up sof (nI ki).toNatClampNeg (none), upd snf (nI ki).toNatClampNeg nb, upd swf (nI ki).toNatClampNeg wd) (⟨by rw [nI_clamp (by omega)], by rw [nI_clamp (by omega)], by rw [nI_clamp (by omega)]⟩) (hP.sub [0, 1, 2, 3] rfl) (hD.sub [0, 1, 2, 3] (by decide +kernel) rfl) d_Stacked_keep_57
set_option maxHeartbeats 2000000 in
set_option maxRecDepth 100000 in
theorem f_Stack_writeValue (l : Launch) (dC : Nat → ClassId) (dI : Nat → Nat → Nat) (cI cM cO : ClassId) (sz : Nat) (co : Nat) (xx : Int64) (xreadX : Int64) (soa : Nat) (sna : Nat) (swa : Nat) (ri : Nat) (ro : Nat) (rw : Nat) (xasked : Int32) (sof : Nat → Option Nat) (snf : Nat → Int32) (swf : Nat → Int32) (ki : Nat) (v : Nat) (b : Nat) (hki : ki < 600) : MetV l y_Stacked_writeValue (Cond.code y_Stacked_writeValue prog_11_method_8_code 3 none :: gw) ({ frames := 1, cells := 0, slots := 0, locals := 23 } : Room) (dC, dI) vwCl (kT cI cM cO) [Value.ref co, Value.int (nI v), Value.int (nI b)] [(co, Sum.inr (4, [Value.long xx, Value.long xreadX, Value.ref soa, Value.ref sna, Value.ref swa, Value.int (nI ki), Value.ref ri, Value.ref ro, Value.ref rw, Value.int xasked])), (soa, Sum.inl (cO, 600, Sum.inr (Sum.inr (Sum.inr (Sum.inr sof))))), (sna, Sum.inl (cI, 600, Sum.inl snf)), (swa, Sum.inl (cI, 600, Sum.inl swf))] sz (fun (u : (Nat → Option Nat) × (Nat → Int32) × (Nat → Int32)) => u.1 = va_up sof ki (none) ∧ u.2.1 = upd snf ki (nI v) ∧ u.2.2 = upd swf ki (nI b)) (fun (u : (Nat → Option Nat) × (Nat → Int32) × (Nat → Int32)) => [(co, Sum.inr (4, [Value.long xx, Value.long xreadX, Value.ref soa, Value.ref sna, Value.ref swa, Value.int (nI (ki + 1)), Value.ref ri, Value.ref ro, Value.ref rw, Value.int xasked])), (soa, Sum.inl (cO, 600, Sum.inr (Sum.inr (Sum.inr (Sum.inr u.1))))), (sna, Sum.inl (cI, 600, Sum.inl u.2.1)), (swa, Sum.inl (cI, 600, Sum.inl u.2.2))]) 0 0 := by
  refine my_ofV (cc := prog_11_method_8_code) (n := 3) (ret := none) (by decide) rfl (Nat.le_of_ble_eq_true rfl) ?_
  intro p e s m args below meth c R Q A ls H locs hx hb hr hts hown hlocks hml hnm hR hQ hA hl hP hK hN hD hS
  have hg : ∀ w ∈ gw, w.before args s = true := fun w h => hts w (List.mem_cons_of_mem _ h)
  have hown : s.vm.findClass "RangeCoders$Stacked" = some m.cls := hown
  have hl : lv_has ls 3 [(0, Value.ref co), (1, Value.int (nI v)), (2, Value.int (nI b))] := hl
  refine lv_aload_n hx hb d_Stacked_writeValue_0 rfl (lv_at hl 0 rfl) ?_
  refine lv_null hx hb d_Stacked_writeValue_1 ?_
  refine lv_iload_n hx hb d_Stacked_writeValue_2 rfl (lv_at hl 1 rfl) ?_
  refine lv_iload_n hx hb d_Stacked_writeValue_3 rfl (lv_at hl 2 rfl) ?_
  refine my_cv (wr := []) (va_runU (As := [Value.null, Value.int (nI v), Value.int (nI b)]) (rest := []) ⟨hx, hb, hml, hown, hts⟩ (f_Stack_keepN l dC dI cI cM cO H.size co xx xreadX soa sna swa ri ro rw xasked sof snf swf ki (nI v) (nI b) (by first | assumption | omega)) (va_cwU 3 hts (my_gU k534 k1286 kx2 k536 k9 k537) rfl rfl rfl rfl (by decide +kernel) ⟨by rw [hR]; exact Nat.le_of_ble_eq_true rfl, by rw [hR]; exact Nat.le_of_ble_eq_true rfl⟩) (my_preV hK hN (hP.sub [0, 1, 2, 3] rfl) (hD.sub [0, 1, 2, 3] (by decide +kernel) rfl) 0 rfl rfl) rfl rfl hl.1 rfl (lv_room (Nat.le_of_ble_eq_true rfl)) d_Stacked_writeValue_4 ⟨by rw [hR]; exact Nat.le_of_ble_eq_true rfl, by rw [hR]; exact Nat.le_of_ble_eq_true rfl⟩) hP hD hS hA [0, 1, 2, 3] [] rfl rfl (by decide +kernel) (by decide +kernel) (fun u9 H locs hw_4 hP hD hS => ?_)
  obtain ⟨sofq_4, snfq_4, swfq_4⟩ := u9
  obtain ⟨h1_4, h2_4, h3_4⟩ : sofq_4 = va_up sof ki (none) ∧ snfq_4 = upd snf ki (nI v) ∧ swfq_4 = upd swf ki (nI b) := hw_4
  have hPD : my_PD (dC, dI) vwCl A [(co, Sum.inr (4, [Value.long xx, Value.long xreadX, Value.ref soa, Value.ref sna, Value.ref swa, Value.int (nI (ki + 1)), Value.ref ri, Value.ref ro, Value.ref rw, Value.int xasked])), (soa, Sum.inl (cO, 600, Sum.inr (Sum.inr (Sum.inr (Sum.inr sofq_4))))), (sna, Sum.inl (cI, 600, Sum.inl snfq_4)), (swa, Sum.inl (cI, 600, Sum.inl swfq_4))] H := ⟨hP, hD⟩
  have hP := hPD.1
  have hD := hPD.2
  exact my_vret hx hb hr hlocks hQ hK hS (Nat.le_refl _) (Nat.le_refl _) (sofq_4, snfq_4, swfq_4) (⟨h1_4, h2_4, h3_4⟩) (hP.sub [0, 1, 2, 3] rfl) (hD.sub [0, 1, 2, 3] (by decide +kernel) rfl) d_Stacked_writeValue_7
set_option maxHeartbeats 2000000 in
set_option maxRecDepth 100000 in
theorem f_Stack_open (l : Launch) (dC : Nat → ClassId) (dI : Nat → Nat → Nat) (cI cM cO : ClassId) (sz : Nat) (co : Nat) (xx : Int64) (xreadX : Int64) (soa : Nat) (sna : Nat) (swa : Nat) (xkept : Int32) (ri : Nat) (ro : Nat) (rw : Nat) (xasked : Int32) : MetV l y_Stacked_openMessage (Cond.code y_Stacked_openMessage prog_11_method_6_code 1 none :: gw) ({ frames := 0, cells := 0, slots := 0, locals := 0 } : Room) (dC, dI) vwCl (kT cI cM cO) [Value.ref co] [(co, Sum.inr (4, [Value.long xx, Value.long xreadX, Value.ref soa, Value.ref sna, Value.ref swa, Value.int xkept, Value.ref ri, Value.ref ro, Value.ref rw, Value.int xasked]))] sz (fun (u : Unit) => True) (fun (u : Unit) => [(co, Sum.inr (4, [Value.long xx, Value.long xreadX, Value.ref soa, Value.ref sna, Value.ref swa, Value.int 0, Value.ref ri, Value.ref ro, Value.ref rw, Value.int xasked]))]) 0 0 := by
  refine my_ofV (cc := prog_11_method_6_code) (n := 1) (ret := none) (by decide) rfl (Nat.le_of_ble_eq_true rfl) ?_
  intro p e s m args below meth c R Q A ls H locs hx hb hr hts hown hlocks hml hnm hR hQ hA hl hP hK hN hD hS
  have hg : ∀ w ∈ gw, w.before args s = true := fun w h => hts w (List.mem_cons_of_mem _ h)
  have hown : s.vm.findClass "RangeCoders$Stacked" = some m.cls := hown
  have hl : lv_has ls 1 [(0, Value.ref co)] := hl
  refine lv_aload_n hx hb d_Stacked_openMessage_0 rfl (lv_at hl 0 rfl) ?_
  refine lv_iconst (v := 0) hx hb d_Stacked_openMessage_1 (by decide) ?_
  refine va_put (D := (dC, dI)) (ci := 4) (v := .int 0) (ty := .int) (C := "RangeCoders$Stack") (T := T_Stack) (N := 10) hx hb hg in_Stack t_Stack o_Stack n_Stack hown hK hP hD hS 0 rfl rfl 5 (by decide) (hg _ k223) (fun _ h9 => h9) rfl (by decide +kernel) rfl rfl (Nat.le_of_ble_eq_true rfl) d_Stacked_openMessage_2 (fun H locs hP hD hS => ?_)
  have hPD : my_PD (dC, dI) vwCl A [(co, Sum.inr (4, [Value.long xx, Value.long xreadX, Value.ref soa, Value.ref sna, Value.ref swa, Value.int 0, Value.ref ri, Value.ref ro, Value.ref rw, Value.int xasked]))] H := ⟨hP, hD⟩
  have hP := hPD.1
  have hD := hPD.2
  exact my_vret hx hb hr hlocks hQ hK hS (Nat.le_refl _) (Nat.le_refl _) () (trivial) (hP.sub [0] rfl) (hD.sub [0] (by decide +kernel) rfl) d_Stacked_openMessage_5
set_option maxHeartbeats 2000000 in
set_option maxRecDepth 100000 in
theorem f_Table_keep (l : Launch) (dC : Nat → ClassId) (dI : Nat → Nat → Nat) (cI cM cO : ClassId) (sz : Nat) (co : Nat) (xx : Int64) (xreadX : Int64) (soa : Nat) (sna : Nat) (swa : Nat) (ri : Nat) (ro : Nat) (rw : Nat) (xasked : Int32) (sof : Nat → Option Nat) (snf : Nat → Int32) (swf : Nat → Int32) (oo : Nat) (osg : Int32) (ofc : Int32) (oca : Nat) (opa : Nat) (n : Nat) (ocf : Nat → Int32) (opl : Nat) (opf : Nat → Int32) (osm : Int32) (ki : Nat) (nb : Int32) (wd : Int32) (hki : ki < 600) : MetV l y_Stacked_keep (Cond.code y_Stacked_keep prog_11_method_11_code 4 none :: gw) ({ frames := 0, cells := 0, slots := 0, locals := 0 } : Room) (dC, dI) vwCl (kT cI cM cO) [Value.ref co, Value.ref oo, Value.int nb, Value.int wd] [(co, Sum.inr (5, [Value.long xx, Value.long xreadX, Value.ref soa, Value.ref sna, Value.ref swa, Value.int (nI ki), Value.ref ri, Value.ref ro, Value.ref rw, Value.int xasked])), (soa, Sum.inl (cO, 600, Sum.inr (Sum.inr (Sum.inr (Sum.inr sof))))), (sna, Sum.inl (cI, 600, Sum.inl snf)), (swa, Sum.inl (cI, 600, Sum.inl swf)), (oo, Sum.inr (7, [Value.int osg, Value.int osm, Value.int ofc, Value.ref oca, Value.ref opa])), (oca, Sum.inl (cI, n, Sum.inl ocf)), (opa, Sum.inl (cI, opl, Sum.inl opf))] sz (fun (u : (Nat → Option Nat) × (Nat → Int32) × (Nat → Int32)) => u.1 = va_up sof ki (some oo) ∧ u.2.1 = upd snf ki nb ∧ u.2.2 = upd swf ki wd) (fun (u : (Nat → Option Nat) × (Nat → Int32) × (Nat → Int32)) => [(co, Sum.inr (5, [Value.long xx, Value.long xreadX, Value.ref soa, Value.ref sna, Value.ref swa, Value.int (nI (ki + 1)), Value.ref ri, Value.ref ro, Value.ref rw, Value.int xasked])), (soa, Sum.inl (cO, 600, Sum.inr (Sum.inr (Sum.inr (Sum.inr u.1))))), (sna, Sum.inl (cI, 600, Sum.inl u.2.1)), (swa, Sum.inl (cI, 600, Sum.inl u.2.2)), (oo, Sum.inr (7, [Value.int osg, Value.int osm, Value.int ofc, Value.ref oca, Value.ref opa])), (oca, Sum.inl (cI, n, Sum.inl ocf)), (opa, Sum.inl (cI, opl, Sum.inl opf))]) 0 0 := by
  refine my_ofV (cc := prog_11_method_11_code) (n := 4) (ret := none) (by decide) rfl (Nat.le_of_ble_eq_true rfl) ?_
  intro p e s m args below meth c R Q A ls H locs hx hb hr hts hown hlocks hml hnm hR hQ hA hl hP hK hN hD hS
  have hg : ∀ w ∈ gw, w.before args s = true := fun w h => hts w (List.mem_cons_of_mem _ h)
  have hown : s.vm.findClass "RangeCoders$Stacked" = some m.cls := hown
  have hl : lv_has ls 4 [(0, Value.ref co), (1, Value.ref oo), (2, Value.int nb), (3, Value.int wd)] := hl
  refine lv_aload_n hx hb d_Stacked_keep_0 rfl (lv_at hl 0 rfl) ?_
  refine va_get (D := (dC, dI)) (ci := 5) (v := .int (nI ki)) (C := "RangeCoders$Table") (T := T_Table) (N := 10) hx hb hg in_Table hown hK hP 0 rfl rfl 5 (by decide) (hg _ k223) (fun _ h9 => h9) rfl d_Stacked_keep_1 ?_
  refine lv_if_lt (tgt := 57) hx hb d_Stacked_keep_4 (by decide) (fun c_1 => ?_) (fun c_1 => ?_)
  · exact absurd c_1 (nI_pos (by omega))
  · refine lv_aload_n hx hb d_Stacked_keep_7 rfl (lv_at hl 0 rfl) ?_
    refine va_get (D := (dC, dI)) (ci := 5) (v := .int (nI ki)) (C := "RangeCoders$Table") (T := T_Table) (N := 10) hx hb hg in_Table hown hK hP 0 rfl rfl 5 (by decide) (hg _ k223) (fun _ h9 => h9) rfl d_Stacked_keep_8 ?_
    refine lv_sipush (v := 600) hx hb d_Stacked_keep_11 (by decide) ?_
    refine lv_icmp_ge (tgt := 57) hx hb d_Stacked_keep_14 (by decide) (fun c_2 => ?_) (fun c_2 => ?_)
    · exact absurd (nI_ge' (n := 600) (by omega) (by decide) c_2) (by omega)
    · refine lv_aload_n hx hb d_Stacked_keep_17 rfl (lv_at hl 0 rfl) ?_
      refine va_get (D := (dC, dI)) (ci := 5) (v := .ref soa) (C := "RangeCoders$Table") (T := T_Table) (N := 10) hx hb hg in_Table hown hK hP 0 rfl rfl 2 (by decide) (hg _ k220) (fun _ h9 => h9) rfl d_Stacked_keep_18 ?_
      refine lv_aload_n hx hb d_Stacked_keep_21 rfl (lv_at hl 0 rfl) ?_
      refine va_get (D := (dC, dI)) (ci := 5) (v := .int (nI ki)) (C := "RangeCoders$Table") (T := T_Table) (N := 10) hx hb hg in_Table hown hK hP 0 rfl rfl 5 (by decide) (hg _ k223) (fun _ h9 => h9) rfl d_Stacked_keep_22 ?_
      refine lv_aload_n hx hb d_Stacked_keep_25 rfl (lv_at hl 1 rfl) ?_
      refine va_astq hx hb hK hP hD hS 1 2 4 7 rfl rfl rfl rfl (vp_in_nI hki (by decide)) d_Stacked_keep_26 (fun H locs hP hD hS => ?_)
      have hPD : my_PD (dC, dI) vwCl A [(co, Sum.inr (5, [Value.long xx, Value.long xreadX, Value.ref soa, Value.ref sna, Value.ref swa, Value.int (nI ki), Value.ref ri, Value.ref ro, Value.ref rw, Value.int xasked])), (soa, Sum.inl (cO, 600, Sum.inr (Sum.inr (Sum.inr (Sum.inr (va_up sof (nI ki).toNatClampNeg (some oo))))))), (sna, Sum.inl (cI, 600, Sum.inl snf)), (swa, Sum.inl (cI, 600, Sum.inl swf)), (oo, Sum.inr (7, [Value.int osg, Value.int osm, Value.int ofc, Value.ref oca, Value.ref opa])), (oca, Sum.inl (cI, n, Sum.inl ocf)), (opa, Sum.inl (cI, opl, Sum.inl opf))] H := ⟨hP, hD⟩
      have hP := hPD.1
      have hD := hPD.2
      refine lv_aload_n hx hb d_Stacked_keep_27 rfl (lv_at hl 0 rfl) ?_
      refine va_get (D := (dC, dI)) (ci := 5) (v := .ref sna) (C := "RangeCoders$Table") (T := T_Table) (N := 10) hx hb hg in_Table hown hK hP 0 rfl rfl 3 (by decide) (hg _ k221) (fun _ h9 => h9) rfl d_Stacked_keep_28 ?_
      refine lv_aload_n hx hb d_Stacked_keep_31 rfl (lv_at hl 0 rfl) ?_
      refine va_get (D := (dC, dI)) (ci := 5) (v := .int (nI ki)) (C := "RangeCoders$Table") (T := T_Table) (N := 10) hx hb hg in_Table hown hK hP 0 rfl rfl 5 (by decide) (hg _ k223) (fun _ h9 => h9) rfl d_Stacked_keep_32 ?_
      refine lv_iload_n hx hb d_Stacked_keep_35 rfl (lv_at hl 2 rfl) ?_
      refine va_iast hx hb hK hP hD hS 2 0 rfl rfl (vp_in_nI hki (by decide)) d_Stacked_keep_36 (fun H locs hP hD hS => ?_)
      have hPD : my_PD (dC, dI) vwCl A [(co, Sum.inr (5, [Value.long xx, Value.long xreadX, Value.ref soa, Value.ref sna, Value.ref swa, Value.int (nI ki), Value.ref ri, Value.ref ro, Value.ref rw, Value.int xasked])), (soa, Sum.inl (cO, 600, Sum.inr (Sum.inr (Sum.inr (Sum.inr (va_up sof (nI ki).toNatClampNeg (some oo))))))), (sna, Sum.inl (cI, 600, Sum.inl (upd snf (nI ki).toNatClampNeg nb))), (swa, Sum.inl (cI, 600, Sum.inl swf)), (oo, Sum.inr (7, [Value.int osg, Value.int osm, Value.int ofc, Value.ref oca, Value.ref opa])), (oca, Sum.inl (cI, n, Sum.inl ocf)), (opa, Sum.inl (cI, opl, Sum.inl opf))] H := ⟨hP, hD⟩
      have hP := hPD.1
      have hD := hPD.2
      refine lv_aload_n hx hb d_Stacked_keep_37 rfl (lv_at hl 0 rfl) ?_
      refine va_get (D := (dC, dI)) (ci := 5) (v := .ref swa) (C := "RangeCoders$Table") (T := T_Table) (N := 10) hx hb hg in_Table hown hK hP 0 rfl rfl 4 (by decide) (hg _ k222) (fun _ h9 => h9) rfl d_Stacked_keep_38 ?_
      refine lv_aload_n hx hb d_Stacked_keep_41 rfl (lv_at hl 0 rfl) ?_
      refine va_get (D := (dC, dI)) (ci := 5) (v := .int (nI ki)) (C := "RangeCoders$Table") (T := T_Table) (N := 10) hx hb hg in_Table hown hK hP 0 rfl rfl 5 (by decide) (hg _ k223) (fun _ h9 => h9) rfl d_Stacked_keep_42 ?_
      refine lv_iload_n hx hb d_Stacked_keep_45 rfl (lv_at hl 3 rfl) ?_
      refine va_iast hx hb hK hP hD hS 3 0 rfl rfl (vp_in_nI hki (by decide)) d_Stacked_keep_46 (fun H locs hP hD hS => ?_)
      have hPD : my_PD (dC, dI) vwCl A [(co, Sum.inr (5, [Value.long xx, Value.long xreadX, Value.ref soa, Value.ref sna, Value.ref swa, Value.int (nI ki), Value.ref ri, Value.ref ro, Value.ref rw, Value.int xasked])), (soa, Sum.inl (cO, 600, Sum.inr (Sum.inr (Sum.inr (Sum.inr (va_up sof (nI ki).toNatClampNeg (some oo))))))), (sna, Sum.inl (cI, 600, Sum.inl (upd snf (nI ki).toNatClampNeg nb))), (swa, Sum.inl (cI, 600, Sum.inl (upd swf (nI ki).toNatClampNeg wd))), (oo, Sum.inr (7, [Value.int osg, Value.int osm, Value.int ofc, Value.ref oca, Value.ref opa])), (oca, Sum.inl (cI, n, Sum.inl ocf)), (opa, Sum.inl (cI, opl, Sum.inl opf))] H := ⟨hP, hD⟩
      have hP := hPD.1
      have hD := hPD.2
      refine lv_aload_n hx hb d_Stacked_keep_47 rfl (lv_at hl 0 rfl) ?_
      refine lv_dup hx hb d_Stacked_keep_48 rfl ?_
      refine va_get (D := (dC, dI)) (ci := 5) (v := .int (nI ki)) (C := "RangeCoders$Table") (T := T_Table) (N := 10) hx hb hg in_Table hown hK hP 0 rfl rfl 5 (by decide) (hg _ k223) (fun _ h9 => h9) rfl d_Stacked_keep_49 ?_
      refine lv_iconst (v := 1) hx hb d_Stacked_keep_52 (by decide) ?_
      refine lv_iadd hx hb d_Stacked_keep_53 ?_
      refine lv_topi (fun v_3 ev_3 => ?_)
      have z9 : v_3 = nI (ki + 1) := by rw [ev_3]; exact nI_1 _
      subst z9
      refine va_put (D := (dC, dI)) (ci := 5) (v := .int (nI (ki + 1))) (ty := .int) (C := "RangeCoders$Table") (T := T_Table) (N := 10) hx hb hg in_Table t_Table o_Table n_Table hown hK hP hD hS 0 rfl rfl 5 (by decide) (hg _ k223) (fun _ h9 => h9) rfl (by decide +kernel) rfl rfl (Nat.le_of_ble_eq_true rfl) d_Stacked_keep_54 (fun H locs hP hD hS => ?_)
      have hPD : my_PD (dC, dI) vwCl A [(co, Sum.inr (5, [Value.long xx, Value.long xreadX, Value.ref soa, Value.ref sna, Value.ref swa, Value.int (nI (ki + 1)), Value.ref ri, Value.ref ro, Value.ref rw, Value.int xasked])), (soa, Sum.inl (cO, 600, Sum.inr (Sum.inr (Sum.inr (Sum.inr (va_up sof (nI ki).toNatClampNeg (some oo))))))), (sna, Sum.inl (cI, 600, Sum.inl (upd snf (nI ki).toNatClampNeg nb))), (swa, Sum.inl (cI, 600, Sum.inl (upd swf (nI ki).toNatClampNeg wd))), (oo, Sum.inr (7, [Value.int osg, Value.int osm, Value.int ofc, Value.ref oca, Value.ref opa])), (oca, Sum.inl (cI, n, Sum.inl ocf)), (opa, Sum.inl (cI, opl, Sum.inl opf))] H := ⟨hP, hD⟩
      have hP := hPD.1
      have hD := hPD.2
      exact my_vret hx hb hr hlocks hQ hK hS (Nat.le_refl _) (Nat.le_refl _) (va_up sof (nI ki).toNatClampNeg (some oo), upd snf (nI ki).toNatClampNeg nb, upd swf (nI ki).toNatClampNeg wd) (⟨by rw [nI_clamp (by omega)], by rw [nI_clamp (by omega)], by rw [nI_clamp (by omega)]⟩) (hP.sub [0, 1, 2, 3, 4, 5, 6] rfl) (hD.sub [0, 1, 2, 3, 4, 5, 6] (by decide +kernel) rfl) d_Stacked_keep_57
set_option maxHeartbeats 2000000 in
set_option maxRecDepth 100000 in
theorem f_Table_writeSign (l : Launch) (dC : Nat → ClassId) (dI : Nat → Nat → Nat) (cI cM cO : ClassId) (sz : Nat) (co : Nat) (xx : Int64) (xreadX : Int64) (soa : Nat) (sna : Nat) (swa : Nat) (ri : Nat) (ro : Nat) (rw : Nat) (xasked : Int32) (sof : Nat → Option Nat) (snf : Nat → Int32) (swf : Nat → Int32) (oo : Nat) (osg : Int32) (ofc : Int32) (oca : Nat) (opa : Nat) (n : Nat) (ocf : Nat → Int32) (opl : Nat) (opf : Nat → Int32) (osm : Int32) (ki : Nat) (t : Nat) (hki : ki < 600) : MetV l y_Stacked_writeSign (Cond.code y_Stacked_writeSign prog_11_method_7_code 3 none :: gw) ({ frames := 1, cells := 0, slots := 0, locals := 23 } : Room) (dC, dI) vwCl (kT cI cM cO) [Value.ref co, Value.ref oo, Value.int (nI t)] [(co, Sum.inr (5, [Value.long xx, Value.long xreadX, Value.ref soa, Value.ref sna, Value.ref swa, Value.int (nI ki), Value.ref ri, Value.ref ro, Value.ref rw, Value.int xasked])), (soa, Sum.inl (cO, 600, Sum.inr (Sum.inr (Sum.inr (Sum.inr sof))))), (sna, Sum.inl (cI, 600, Sum.inl snf)), (swa, Sum.inl (cI, 600, Sum.inl swf)), (oo, Sum.inr (7, [Value.int osg, Value.int osm, Value.int ofc, Value.ref oca, Value.ref opa])), (oca, Sum.inl (cI, n, Sum.inl ocf)), (opa, Sum.inl (cI, opl, Sum.inl opf))] sz (fun (u : (Nat → Option Nat) × (Nat → Int32) × (Nat → Int32)) => u.1 = va_up sof ki (some oo) ∧ u.2.1 = upd snf ki (nI t) ∧ u.2.2 = upd swf ki 0) (fun (u : (Nat → Option Nat) × (Nat → Int32) × (Nat → Int32)) => [(co, Sum.inr (5, [Value.long xx, Value.long xreadX, Value.ref soa, Value.ref sna, Value.ref swa, Value.int (nI (ki + 1)), Value.ref ri, Value.ref ro, Value.ref rw, Value.int xasked])), (soa, Sum.inl (cO, 600, Sum.inr (Sum.inr (Sum.inr (Sum.inr u.1))))), (sna, Sum.inl (cI, 600, Sum.inl u.2.1)), (swa, Sum.inl (cI, 600, Sum.inl u.2.2)), (oo, Sum.inr (7, [Value.int osg, Value.int osm, Value.int ofc, Value.ref oca, Value.ref opa])), (oca, Sum.inl (cI, n, Sum.inl ocf)), (opa, Sum.inl (cI, opl, Sum.inl opf))]) 0 0 := by
  refine my_ofV (cc := prog_11_method_7_code) (n := 3) (ret := none) (by decide) rfl (Nat.le_of_ble_eq_true rfl) ?_
  intro p e s m args below meth c R Q A ls H locs hx hb hr hts hown hlocks hml hnm hR hQ hA hl hP hK hN hD hS
  have hg : ∀ w ∈ gw, w.before args s = true := fun w h => hts w (List.mem_cons_of_mem _ h)
  have hown : s.vm.findClass "RangeCoders$Stacked" = some m.cls := hown
  have hl : lv_has ls 3 [(0, Value.ref co), (1, Value.ref oo), (2, Value.int (nI t))] := hl
  refine lv_aload_n hx hb d_Stacked_writeSign_0 rfl (lv_at hl 0 rfl) ?_
  refine lv_aload_n hx hb d_Stacked_writeSign_1 rfl (lv_at hl 1 rfl) ?_
  refine lv_iload_n hx hb d_Stacked_writeSign_2 rfl (lv_at hl 2 rfl) ?_
  refine lv_iconst (v := 0) hx hb d_Stacked_writeSign_3 (by decide) ?_
  refine my_cv (wr := []) (va_runU (As := [Value.ref oo, Value.int (nI t), Value.int 0]) (rest := []) ⟨hx, hb, hml, hown, hts⟩ (f_Table_keep l dC dI cI cM cO H.size co xx xreadX soa sna swa ri ro rw xasked sof snf swf oo osg ofc oca opa n ocf opl opf osm ki (nI t) 0 (by first | assumption | omega)) (va_cwU 3 hts (my_gU k534 k1286 kx3 k536 k9 k537) rfl rfl rfl rfl (by decide +kernel) ⟨by rw [hR]; exact Nat.le_of_ble_eq_true rfl, by rw [hR]; exact Nat.le_of_ble_eq_true rfl⟩) (my_preV hK hN (hP.sub [0, 1, 2, 3, 4, 5, 6] rfl) (hD.sub [0, 1, 2, 3, 4, 5, 6] (by decide +kernel) rfl) 0 rfl rfl) rfl rfl hl.1 rfl (lv_room (Nat.le_of_ble_eq_true rfl)) d_Stacked_writeSign_4 ⟨by rw [hR]; exact Nat.le_of_ble_eq_true rfl, by rw [hR]; exact Nat.le_of_ble_eq_true rfl⟩) hP hD hS hA [0, 1, 2, 3, 4, 5, 6] [] rfl rfl (by decide +kernel) (by decide +kernel) (fun u9 H locs hw_4 hP hD hS => ?_)
  obtain ⟨sofq_4, snfq_4, swfq_4⟩ := u9
  obtain ⟨h1_4, h2_4, h3_4⟩ : sofq_4 = va_up sof ki (some oo) ∧ snfq_4 = upd snf ki (nI t) ∧ swfq_4 = upd swf ki 0 := hw_4
  have hPD : my_PD (dC, dI) vwCl A [(co, Sum.inr (5, [Value.long xx, Value.long xreadX, Value.ref soa, Value.ref sna, Value.ref swa, Value.int (nI (ki + 1)), Value.ref ri, Value.ref ro, Value.ref rw, Value.int xasked])), (soa, Sum.inl (cO, 600, Sum.inr (Sum.inr (Sum.inr (Sum.inr sofq_4))))), (sna, Sum.inl (cI, 600, Sum.inl snfq_4)), (swa, Sum.inl (cI, 600, Sum.inl swfq_4)), (oo, Sum.inr (7, [Value.int osg, Value.int osm, Value.int ofc, Value.ref oca, Value.ref opa])), (oca, Sum.inl (cI, n, Sum.inl ocf)), (opa, Sum.inl (cI, opl, Sum.inl opf))] H := ⟨hP, hD⟩
  have hP := hPD.1
  have hD := hPD.2
  exact my_vret hx hb hr hlocks hQ hK hS (Nat.le_refl _) (Nat.le_refl _) (sofq_4, snfq_4, swfq_4) (⟨h1_4, h2_4, h3_4⟩) (hP.sub [0, 1, 2, 3, 4, 5, 6] rfl) (hD.sub [0, 1, 2, 3, 4, 5, 6] (by decide +kernel) rfl) d_Stacked_writeSign_7
set_option maxHeartbeats 2000000 in
set_option maxRecDepth 100000 in
theorem f_Table_keepN (l : Launch) (dC : Nat → ClassId) (dI : Nat → Nat → Nat) (cI cM cO : ClassId) (sz : Nat) (co : Nat) (xx : Int64) (xreadX : Int64) (soa : Nat) (sna : Nat) (swa : Nat) (ri : Nat) (ro : Nat) (rw : Nat) (xasked : Int32) (sof : Nat → Option Nat) (snf : Nat → Int32) (swf : Nat → Int32) (ki : Nat) (nb : Int32) (wd : Int32) (hki : ki < 600) : MetV l y_Stacked_keep (Cond.code y_Stacked_keep prog_11_method_11_code 4 none :: gw) ({ frames := 0, cells := 0, slots := 0, locals := 0 } : Room) (dC, dI) vwCl (kT cI cM cO) [Value.ref co, Value.null, Value.int nb, Value.int wd] [(co, Sum.inr (5, [Value.long xx, Value.long xreadX, Value.ref soa, Value.ref sna, Value.ref swa, Value.int (nI ki), Value.ref ri, Value.ref ro, Value.ref rw, Value.int xasked])), (soa, Sum.inl (cO, 600, Sum.inr (Sum.inr (Sum.inr (Sum.inr sof))))), (sna, Sum.inl (cI, 600, Sum.inl snf)), (swa, Sum.inl (cI, 600, Sum.inl swf))] sz (fun (u : (Nat → Option Nat) × (Nat → Int32) × (Nat → Int32)) => u.1 = va_up sof ki (none) ∧ u.2.1 = upd snf ki nb ∧ u.2.2 = upd swf ki wd) (fun (u : (Nat → Option Nat) × (Nat → Int32) × (Nat → Int32)) => [(co, Sum.inr (5, [Value.long xx, Value.long xreadX, Value.ref soa, Value.ref sna, Value.ref swa, Value.int (nI (ki + 1)), Value.ref ri, Value.ref ro, Value.ref rw, Value.int xasked])), (soa, Sum.inl (cO, 600, Sum.inr (Sum.inr (Sum.inr (Sum.inr u.1))))), (sna, Sum.inl (cI, 600, Sum.inl u.2.1)), (swa, Sum.inl (cI, 600, Sum.inl u.2.2))]) 0 0 := by
  refine my_ofV (cc := prog_11_method_11_code) (n := 4) (ret := none) (by decide) rfl (Nat.le_of_ble_eq_true rfl) ?_
  intro p e s m args below meth c R Q A ls H locs hx hb hr hts hown hlocks hml hnm hR hQ hA hl hP hK hN hD hS
  have hg : ∀ w ∈ gw, w.before args s = true := fun w h => hts w (List.mem_cons_of_mem _ h)
  have hown : s.vm.findClass "RangeCoders$Stacked" = some m.cls := hown
  have hl : lv_has ls 4 [(0, Value.ref co), (1, Value.null), (2, Value.int nb), (3, Value.int wd)] := hl
  refine lv_aload_n hx hb d_Stacked_keep_0 rfl (lv_at hl 0 rfl) ?_
  refine va_get (D := (dC, dI)) (ci := 5) (v := .int (nI ki)) (C := "RangeCoders$Table") (T := T_Table) (N := 10) hx hb hg in_Table hown hK hP 0 rfl rfl 5 (by decide) (hg _ k223) (fun _ h9 => h9) rfl d_Stacked_keep_1 ?_
  refine lv_if_lt (tgt := 57) hx hb d_Stacked_keep_4 (by decide) (fun c_1 => ?_) (fun c_1 => ?_)
  · exact absurd c_1 (nI_pos (by omega))
  · refine lv_aload_n hx hb d_Stacked_keep_7 rfl (lv_at hl 0 rfl) ?_
    refine va_get (D := (dC, dI)) (ci := 5) (v := .int (nI ki)) (C := "RangeCoders$Table") (T := T_Table) (N := 10) hx hb hg in_Table hown hK hP 0 rfl rfl 5 (by decide) (hg _ k223) (fun _ h9 => h9) rfl d_Stacked_keep_8 ?_
    refine lv_sipush (v := 600) hx hb d_Stacked_keep_11 (by decide) ?_
    refine lv_icmp_ge (tgt := 57) hx hb d_Stacked_keep_14 (by decide) (fun c_2 => ?_) (fun c_2 => ?_)
    · exact absurd (nI_ge' (n := 600) (by omega) (by decide) c_2) (by omega)
    · refine lv_aload_n hx hb d_Stacked_keep_17 rfl (lv_at hl 0 rfl) ?_
      refine va_get (D := (dC, dI)) (ci := 5) (v := .ref soa) (C := "RangeCoders$Table") (T := T_Table) (N := 10) hx hb hg in_Table hown hK hP 0 rfl rfl 2 (by decide) (hg _ k220) (fun _ h9 => h9) rfl d_Stacked_keep_18 ?_
      refine lv_aload_n hx hb d_Stacked_keep_21 rfl (lv_at hl 0 rfl) ?_
      refine va_get (D := (dC, dI)) (ci := 5) (v := .int (nI ki)) (C := "RangeCoders$Table") (T := T_Table) (N := 10) hx hb hg in_Table hown hK hP 0 rfl rfl 5 (by decide) (hg _ k223) (fun _ h9 => h9) rfl d_Stacked_keep_22 ?_
      refine lv_aload_nN hx hb d_Stacked_keep_25 rfl (lv_at hl 1 rfl) ?_
      refine va_astqN hx hb hK hP hD hS 1 2 rfl rfl (vp_in_nI hki (by decide)) d_Stacked_keep_26 (fun H locs hP hD hS => ?_)
      have hPD : my_PD (dC, dI) vwCl A [(co, Sum.inr (5, [Value.long xx, Value.long xreadX, Value.ref soa, Value.ref sna, Value.ref swa, Value.int (nI ki), Value.ref ri, Value.ref ro, Value.ref rw, Value.int xasked])), (soa, Sum.inl (cO, 600, Sum.inr (Sum.inr (Sum.inr (Sum.inr (va_up sof (nI ki).toNatClampNeg (none))))))), (sna, Sum.inl (cI, 600, Sum.inl snf)), (swa, Sum.inl (cI, 600, Sum.inl swf))] H := ⟨hP, hD⟩
      have hP := hPD.1
      have hD := hPD.2
      refine lv_aload_n hx hb d_Stacked_keep_27 rfl (lv_at hl 0 rfl) ?_
      refine va_get (D := (dC, dI)) (ci := 5) (v := .ref sna) (C := "RangeCoders$Table") (T := T_Table) (N := 10) hx hb hg in_Table hown hK hP 0 rfl rfl 3 (by decide) (hg _ k221) (fun _ h9 => h9) rfl d_Stacked_keep_28 ?_
      refine lv_aload_n hx hb d_Stacked_keep_31 rfl (lv_at hl 0 rfl) ?_
      refine va_get (D := (dC, dI)) (ci := 5) (v := .int (nI ki)) (C := "RangeCoders$Table") (T := T_Table) (N := 10) hx hb hg in_Table hown hK hP 0 rfl rfl 5 (by decide) (hg _ k223) (fun _ h9 => h9) rfl d_Stacked_keep_32 ?_
      refine lv_iload_n hx hb d_Stacked_keep_35 rfl (lv_at hl 2 rfl) ?_
      refine va_iast hx hb hK hP hD hS 2 0 rfl rfl (vp_in_nI hki (by decide)) d_Stacked_keep_36 (fun H locs hP hD hS => ?_)
      have hPD : my_PD (dC, dI) vwCl A [(co, Sum.inr (5, [Value.long xx, Value.long xreadX, Value.ref soa, Value.ref sna, Value.ref swa, Value.int (nI ki), Value.ref ri, Value.ref ro, Value.ref rw, Value.int xasked])), (soa, Sum.inl (cO, 600, Sum.inr (Sum.inr (Sum.inr (Sum.inr (va_up sof (nI ki).toNatClampNeg (none))))))), (sna, Sum.inl (cI, 600, Sum.inl (upd snf (nI ki).toNatClampNeg nb))), (swa, Sum.inl (cI, 600, Sum.inl swf))] H := ⟨hP, hD⟩
      have hP := hPD.1
      have hD := hPD.2
      refine lv_aload_n hx hb d_Stacked_keep_37 rfl (lv_at hl 0 rfl) ?_
      refine va_get (D := (dC, dI)) (ci := 5) (v := .ref swa) (C := "RangeCoders$Table") (T := T_Table) (N := 10) hx hb hg in_Table hown hK hP 0 rfl rfl 4 (by decide) (hg _ k222) (fun _ h9 => h9) rfl d_Stacked_keep_38 ?_
      refine lv_aload_n hx hb d_Stacked_keep_41 rfl (lv_at hl 0 rfl) ?_
      refine va_get (D := (dC, dI)) (ci := 5) (v := .int (nI ki)) (C := "RangeCoders$Table") (T := T_Table) (N := 10) hx hb hg in_Table hown hK hP 0 rfl rfl 5 (by decide) (hg _ k223) (fun _ h9 => h9) rfl d_Stacked_keep_42 ?_
      refine lv_iload_n hx hb d_Stacked_keep_45 rfl (lv_at hl 3 rfl) ?_
      refine va_iast hx hb hK hP hD hS 3 0 rfl rfl (vp_in_nI hki (by decide)) d_Stacked_keep_46 (fun H locs hP hD hS => ?_)
      have hPD : my_PD (dC, dI) vwCl A [(co, Sum.inr (5, [Value.long xx, Value.long xreadX, Value.ref soa, Value.ref sna, Value.ref swa, Value.int (nI ki), Value.ref ri, Value.ref ro, Value.ref rw, Value.int xasked])), (soa, Sum.inl (cO, 600, Sum.inr (Sum.inr (Sum.inr (Sum.inr (va_up sof (nI ki).toNatClampNeg (none))))))), (sna, Sum.inl (cI, 600, Sum.inl (upd snf (nI ki).toNatClampNeg nb))), (swa, Sum.inl (cI, 600, Sum.inl (upd swf (nI ki).toNatClampNeg wd)))] H := ⟨hP, hD⟩
      have hP := hPD.1
      have hD := hPD.2
      refine lv_aload_n hx hb d_Stacked_keep_47 rfl (lv_at hl 0 rfl) ?_
      refine lv_dup hx hb d_Stacked_keep_48 rfl ?_
      refine va_get (D := (dC, dI)) (ci := 5) (v := .int (nI ki)) (C := "RangeCoders$Table") (T := T_Table) (N := 10) hx hb hg in_Table hown hK hP 0 rfl rfl 5 (by decide) (hg _ k223) (fun _ h9 => h9) rfl d_Stacked_keep_49 ?_
      refine lv_iconst (v := 1) hx hb d_Stacked_keep_52 (by decide) ?_
      refine lv_iadd hx hb d_Stacked_keep_53 ?_
      refine lv_topi (fun v_3 ev_3 => ?_)
      have z9 : v_3 = nI (ki + 1) := by rw [ev_3]; exact nI_1 _
      subst z9
      refine va_put (D := (dC, dI)) (ci := 5) (v := .int (nI (ki + 1))) (ty := .int) (C := "RangeCoders$Table") (T := T_Table) (N := 10) hx hb hg in_Table t_Table o_Table n_Table hown hK hP hD hS 0 rfl rfl 5 (by decide) (hg _ k223) (fun _ h9 => h9) rfl (by decide +kernel) rfl rfl (Nat.le_of_ble_eq_true rfl) d_Stacked_keep_54 (fun H locs hP hD hS => ?_)
      have hPD : my_PD (dC, dI) vwCl A [(co, Sum.inr (5, [Value.long xx, Value.long xreadX, Value.ref soa, Value.ref sna, Value.ref swa, Value.int (nI (ki + 1)), Value.ref ri, Value.ref ro, Value.ref rw, Value.int xasked])), (soa, Sum.inl (cO, 600, Sum.inr (Sum.inr (Sum.inr (Sum.inr (va_up sof (nI ki).toNatClampNeg (none))))))), (sna, Sum.inl (cI, 600, Sum.inl (upd snf (nI ki).toNatClampNeg nb))), (swa, Sum.inl (cI, 600, Sum.inl (upd swf (nI ki).toNatClampNeg wd)))] H := ⟨hP, hD⟩
      have hP := hPD.1
      have hD := hPD.2
      exact my_vret hx hb hr hlocks hQ hK hS (Nat.le_refl _) (Nat.le_refl _) (va_up sof (nI ki).toNatClampNeg (none), upd snf (nI ki).toNatClampNeg nb, upd swf (nI ki).toNatClampNeg wd) (⟨by rw [nI_clamp (by omega)], by rw [nI_clamp (by omega)], by rw [nI_clamp (by omega)]⟩) (hP.sub [0, 1, 2, 3] rfl) (hD.sub [0, 1, 2, 3] (by decide +kernel) rfl) d_Stacked_keep_57
set_option maxHeartbeats 2000000 in
set_option maxRecDepth 100000 in
theorem f_Table_writeValue (l : Launch) (dC : Nat → ClassId) (dI : Nat → Nat → Nat) (cI cM cO : ClassId) (sz : Nat) (co : Nat) (xx : Int64) (xreadX : Int64) (soa : Nat) (sna : Nat) (swa : Nat) (ri : Nat) (ro : Nat) (rw : Nat) (xasked : Int32) (sof : Nat → Option Nat) (snf : Nat → Int32) (swf : Nat → Int32) (ki : Nat) (v : Nat) (b : Nat) (hki : ki < 600) : MetV l y_Stacked_writeValue (Cond.code y_Stacked_writeValue prog_11_method_8_code 3 none :: gw) ({ frames := 1, cells := 0, slots := 0, locals := 23 } : Room) (dC, dI) vwCl (kT cI cM cO) [Value.ref co, Value.int (nI v), Value.int (nI b)] [(co, Sum.inr (5, [Value.long xx, Value.long xreadX, Value.ref soa, Value.ref sna, Value.ref swa, Value.int (nI ki), Value.ref ri, Value.ref ro, Value.ref rw, Value.int xasked])), (soa, Sum.inl (cO, 600, Sum.inr (Sum.inr (Sum.inr (Sum.inr sof))))), (sna, Sum.inl (cI, 600, Sum.inl snf)), (swa, Sum.inl (cI, 600, Sum.inl swf))] sz (fun (u : (Nat → Option Nat) × (Nat → Int32) × (Nat → Int32)) => u.1 = va_up sof ki (none) ∧ u.2.1 = upd snf ki (nI v) ∧ u.2.2 = upd swf ki (nI b)) (fun (u : (Nat → Option Nat) × (Nat → Int32) × (Nat → Int32)) => [(co, Sum.inr (5, [Value.long xx, Value.long xreadX, Value.ref soa, Value.ref sna, Value.ref swa, Value.int (nI (ki + 1)), Value.ref ri, Value.ref ro, Value.ref rw, Value.int xasked])), (soa, Sum.inl (cO, 600, Sum.inr (Sum.inr (Sum.inr (Sum.inr u.1))))), (sna, Sum.inl (cI, 600, Sum.inl u.2.1)), (swa, Sum.inl (cI, 600, Sum.inl u.2.2))]) 0 0 := by
  refine my_ofV (cc := prog_11_method_8_code) (n := 3) (ret := none) (by decide) rfl (Nat.le_of_ble_eq_true rfl) ?_
  intro p e s m args below meth c R Q A ls H locs hx hb hr hts hown hlocks hml hnm hR hQ hA hl hP hK hN hD hS
  have hg : ∀ w ∈ gw, w.before args s = true := fun w h => hts w (List.mem_cons_of_mem _ h)
  have hown : s.vm.findClass "RangeCoders$Stacked" = some m.cls := hown
  have hl : lv_has ls 3 [(0, Value.ref co), (1, Value.int (nI v)), (2, Value.int (nI b))] := hl
  refine lv_aload_n hx hb d_Stacked_writeValue_0 rfl (lv_at hl 0 rfl) ?_
  refine lv_null hx hb d_Stacked_writeValue_1 ?_
  refine lv_iload_n hx hb d_Stacked_writeValue_2 rfl (lv_at hl 1 rfl) ?_
  refine lv_iload_n hx hb d_Stacked_writeValue_3 rfl (lv_at hl 2 rfl) ?_
  refine my_cv (wr := []) (va_runU (As := [Value.null, Value.int (nI v), Value.int (nI b)]) (rest := []) ⟨hx, hb, hml, hown, hts⟩ (f_Table_keepN l dC dI cI cM cO H.size co xx xreadX soa sna swa ri ro rw xasked sof snf swf ki (nI v) (nI b) (by first | assumption | omega)) (va_cwU 3 hts (my_gU k534 k1286 kx3 k536 k9 k537) rfl rfl rfl rfl (by decide +kernel) ⟨by rw [hR]; exact Nat.le_of_ble_eq_true rfl, by rw [hR]; exact Nat.le_of_ble_eq_true rfl⟩) (my_preV hK hN (hP.sub [0, 1, 2, 3] rfl) (hD.sub [0, 1, 2, 3] (by decide +kernel) rfl) 0 rfl rfl) rfl rfl hl.1 rfl (lv_room (Nat.le_of_ble_eq_true rfl)) d_Stacked_writeValue_4 ⟨by rw [hR]; exact Nat.le_of_ble_eq_true rfl, by rw [hR]; exact Nat.le_of_ble_eq_true rfl⟩) hP hD hS hA [0, 1, 2, 3] [] rfl rfl (by decide +kernel) (by decide +kernel) (fun u9 H locs hw_4 hP hD hS => ?_)
  obtain ⟨sofq_4, snfq_4, swfq_4⟩ := u9
  obtain ⟨h1_4, h2_4, h3_4⟩ : sofq_4 = va_up sof ki (none) ∧ snfq_4 = upd snf ki (nI v) ∧ swfq_4 = upd swf ki (nI b) := hw_4
  have hPD : my_PD (dC, dI) vwCl A [(co, Sum.inr (5, [Value.long xx, Value.long xreadX, Value.ref soa, Value.ref sna, Value.ref swa, Value.int (nI (ki + 1)), Value.ref ri, Value.ref ro, Value.ref rw, Value.int xasked])), (soa, Sum.inl (cO, 600, Sum.inr (Sum.inr (Sum.inr (Sum.inr sofq_4))))), (sna, Sum.inl (cI, 600, Sum.inl snfq_4)), (swa, Sum.inl (cI, 600, Sum.inl swfq_4))] H := ⟨hP, hD⟩
  have hP := hPD.1
  have hD := hPD.2
  exact my_vret hx hb hr hlocks hQ hK hS (Nat.le_refl _) (Nat.le_refl _) (sofq_4, snfq_4, swfq_4) (⟨h1_4, h2_4, h3_4⟩) (hP.sub [0, 1, 2, 3] rfl) (hD.sub [0, 1, 2, 3] (by decide +kernel) rfl) d_Stacked_writeValue_7
set_option maxHeartbeats 2000000 in
set_option maxRecDepth 100000 in
theorem f_Table_open (l : Launch) (dC : Nat → ClassId) (dI : Nat → Nat → Nat) (cI cM cO : ClassId) (sz : Nat) (co : Nat) (xx : Int64) (xreadX : Int64) (soa : Nat) (sna : Nat) (swa : Nat) (xkept : Int32) (ri : Nat) (ro : Nat) (rw : Nat) (xasked : Int32) : MetV l y_Stacked_openMessage (Cond.code y_Stacked_openMessage prog_11_method_6_code 1 none :: gw) ({ frames := 0, cells := 0, slots := 0, locals := 0 } : Room) (dC, dI) vwCl (kT cI cM cO) [Value.ref co] [(co, Sum.inr (5, [Value.long xx, Value.long xreadX, Value.ref soa, Value.ref sna, Value.ref swa, Value.int xkept, Value.ref ri, Value.ref ro, Value.ref rw, Value.int xasked]))] sz (fun (u : Unit) => True) (fun (u : Unit) => [(co, Sum.inr (5, [Value.long xx, Value.long xreadX, Value.ref soa, Value.ref sna, Value.ref swa, Value.int 0, Value.ref ri, Value.ref ro, Value.ref rw, Value.int xasked]))]) 0 0 := by
  refine my_ofV (cc := prog_11_method_6_code) (n := 1) (ret := none) (by decide) rfl (Nat.le_of_ble_eq_true rfl) ?_
  intro p e s m args below meth c R Q A ls H locs hx hb hr hts hown hlocks hml hnm hR hQ hA hl hP hK hN hD hS
  have hg : ∀ w ∈ gw, w.before args s = true := fun w h => hts w (List.mem_cons_of_mem _ h)
  have hown : s.vm.findClass "RangeCoders$Stacked" = some m.cls := hown
  have hl : lv_has ls 1 [(0, Value.ref co)] := hl
  refine lv_aload_n hx hb d_Stacked_openMessage_0 rfl (lv_at hl 0 rfl) ?_
  refine lv_iconst (v := 0) hx hb d_Stacked_openMessage_1 (by decide) ?_
  refine va_put (D := (dC, dI)) (ci := 5) (v := .int 0) (ty := .int) (C := "RangeCoders$Table") (T := T_Table) (N := 10) hx hb hg in_Table t_Table o_Table n_Table hown hK hP hD hS 0 rfl rfl 5 (by decide) (hg _ k223) (fun _ h9 => h9) rfl (by decide +kernel) rfl rfl (Nat.le_of_ble_eq_true rfl) d_Stacked_openMessage_2 (fun H locs hP hD hS => ?_)
  have hPD : my_PD (dC, dI) vwCl A [(co, Sum.inr (5, [Value.long xx, Value.long xreadX, Value.ref soa, Value.ref sna, Value.ref swa, Value.int 0, Value.ref ri, Value.ref ro, Value.ref rw, Value.int xasked]))] H := ⟨hP, hD⟩
  have hP := hPD.1
  have hD := hPD.2
  exact my_vret hx hb hr hlocks hQ hK hS (Nat.le_refl _) (Nat.le_refl _) () (trivial) (hP.sub [0] rfl) (hD.sub [0] (by decide +kernel) rfl) d_Stacked_openMessage_5
end
