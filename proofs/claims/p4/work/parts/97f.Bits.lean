set_option maxHeartbeats 2000000 in
set_option maxRecDepth 100000 in
theorem f_Bits_writeWaiting (l : Launch) (dC : Nat → ClassId) (dI : Nat → Nat → Nat) (cI cM cO : ClassId) (sz : Nat) (sl : Nat) (co : Nat) (xshift : Int32) (xkeptCode : Int64) (xkeptRange : Int64) (xkeptAsked : Int32) (xlow : Int64) (xrange : Int64) (xcode : Int64) (xreadLow : Int64) (xreadRange : Int64) (ri : Nat) (ro : Nat) (rw : Nat) (xasked : Int32) (ca : Option Nat) (Pn : Nat) (kc : Nat) (rwa : Nat) (rwk : Nat) (rwf : Nat → Int32) (bs : List Nat) (hc : ∀ x, ca = some x → x < 256) (hkc : kc ≤ 1) (hrw : rOk (nI bs.length) rwk) (hGrw : gIs rwf bs) (hN9 : bs.length + Pn + 1 ≤ 8000) : MetVg l y_Carries_writeWaiting (Cond.code y_Carries_writeWaiting prog_3_method_9_code 3 none :: gw) ({ frames := 3, cells := rPh rwk, slots := rPh rwk, locals := 83 } : Room) (dC, dI) vwCl (kT cI cM cO) [Value.ref co, Value.int (nI kc)] [(co, Sum.inr (3, [Value.int xshift, Value.long xkeptCode, Value.long xkeptRange, Value.int xkeptAsked, Value.int (caI ca), Value.int (nI Pn), Value.long xlow, Value.long xrange, Value.long xcode, Value.long xreadLow, Value.long xreadRange, Value.ref ri, Value.ref ro, Value.ref rw, Value.int xasked])), (rw, Sum.inr (0, [Value.int (nI bs.length), Value.ref rwa])), (rwa, Sum.inl (cI, rwk, Sum.inl rwf))] sz sl (fun (u : Nat × Nat × (Nat → Int32)) => rOk (nI (bs ++ caB ca kc ++ List.replicate Pn ((255 + kc) % 256)).length) u.2.1 ∧ gIs u.2.2 (bs ++ caB ca kc ++ List.replicate Pn ((255 + kc) % 256))) (fun (u : Nat × Nat × (Nat → Int32)) => [(co, Sum.inr (3, [Value.int xshift, Value.long xkeptCode, Value.long xkeptRange, Value.int xkeptAsked, Value.int (caI ca), Value.int 0, Value.long xlow, Value.long xrange, Value.long xcode, Value.long xreadLow, Value.long xreadRange, Value.ref ri, Value.ref ro, Value.ref rw, Value.int xasked])), (rw, Sum.inr (0, [Value.int (nI (bs ++ caB ca kc ++ List.replicate Pn ((255 + kc) % 256)).length), Value.ref u.1])), (u.1, Sum.inl (cI, u.2.1, Sum.inl u.2.2))]) (rPh rwk) (fun (u : Nat × Nat × (Nat → Int32)) => rPh u.2.1) := by
  refine my_ofVg (cc := prog_3_method_9_code) (n := 3) (ret := none) (by decide) rfl (Nat.le_of_ble_eq_true rfl) ?_
  intro p e s m args below meth c R Q A ls H locs hx hb hr hts hown hlocks hml hnm hR hQ hA hl hP hK hN hD hS
  have hg : ∀ w ∈ gw, w.before args s = true := fun w h => hts w (List.mem_cons_of_mem _ h)
  have hown : s.vm.findClass "RangeCoders$Carries" = some m.cls := hown
  have hl : lv_has ls 3 [(0, Value.ref co), (1, Value.int (nI kc))] := hl
  have hltw := rOk_lt hrw
  refine lv_aload_n hx hb d_Carries_writeWaiting_0 rfl (lv_at hl 0 rfl) ?_
  refine va_get (D := (dC, dI)) (ci := 3) (v := .int (caI ca)) (C := "RangeCoders$Bits") (T := T_Bits) (N := 15) hx hb hg in_Bits hown hK hP 0 rfl rfl 4 (by decide) (hg _ k68) (fun _ h9 => h9) rfl d_Carries_writeWaiting_1 ?_
  refine lv_iconst (v := (-1)) hx hb d_Carries_writeWaiting_4 (by decide) ?_
  refine lv_icmp_eq (tgt := 25) hx hb d_Carries_writeWaiting_5 (by decide) (fun c_1 => ?_) (fun c_1 => ?_)
  · have hcn : ca = none := (caI_ne hc).mp c_1
    refine lv_iconst (v := 0) hx hb d_Carries_writeWaiting_25 (by decide) ?_
    refine lv_istore_n (lv' := [(2, Value.int 0), (0, Value.ref co), (1, Value.int (nI kc))]) hx hb d_Carries_writeWaiting_26 rfl hl (by decide) rfl (fun ls hl => ?_)
    have J_27 : ∀ (n9_27 : Nat) (j : Nat) (b9 : List Nat) (rwa9 : Nat) (rwk9 : Nat) (rwf9 : Nat → Int32) (d9 : Nat) (hn9_27 : Pn - j = n9_27) (hj : j ≤ Pn) (hb9 : b9 = bs ++ caB ca kc ++ List.replicate j ((255 + kc) % 256)) (hr9 : rOk (nI b9.length) rwk9) (hg9 : gIs rwf9 b9) (hd9 : d9 + rPh rwk9 ≤ rPh rwk) (H : Heap) (locs : List Loc) (ls : Array Slot), va_P (dC, dI) vwCl [(co, Sum.inr (3, [Value.int xshift, Value.long xkeptCode, Value.long xkeptRange, Value.int xkeptAsked, Value.int (caI ca), Value.int (nI Pn), Value.long xlow, Value.long xrange, Value.long xcode, Value.long xreadLow, Value.long xreadRange, Value.ref ri, Value.ref ro, Value.ref rw, Value.int xasked])), (rw, Sum.inr (0, [Value.int (nI b9.length), Value.ref rwa9])), (rwa9, Sum.inl (cI, rwk9, Sum.inl rwf9))] H → va_D A [(co, Sum.inr (3, [Value.int xshift, Value.long xkeptCode, Value.long xkeptRange, Value.int xkeptAsked, Value.int (caI ca), Value.int (nI Pn), Value.long xlow, Value.long xrange, Value.long xcode, Value.long xreadLow, Value.long xreadRange, Value.ref ri, Value.ref ro, Value.ref rw, Value.int xasked])), (rw, Sum.inr (0, [Value.int (nI b9.length), Value.ref rwa9])), (rwa9, Sum.inl (cI, rwk9, Sum.inl rwf9))] → va_S A s.heap H locs → lv_has ls 3 [(2, Value.int (nI j)), (0, Value.ref co), (1, Value.int (nI kc))] → W p l e R s m args below meth c H locs d9 d9 Q (F0 m 27 ls []) := by
      intro n9_27
      induction n9_27 using Nat.strongRecOn with
      | ind n9_27 ih9_27 =>
        intro j b9 rwa9 rwk9 rwf9 d9 hn9_27 hj hb9 hr9 hg9 hd9 H locs ls hP hD hS hl
        have hbl : b9.length ≤ bs.length + 1 + j := by
          rw [hb9]
          simp only [List.length_append, List.length_replicate]
          have := caB_le ca kc
          omega
        refine lv_iload_n hx hb d_Carries_writeWaiting_27 rfl (lv_at hl 0 rfl) ?_
        refine lv_aload_n hx hb d_Carries_writeWaiting_28 rfl (lv_at hl 1 rfl) ?_
        refine va_get (D := (dC, dI)) (ci := 3) (v := .int (nI Pn)) (C := "RangeCoders$Bits") (T := T_Bits) (N := 15) hx hb hg in_Bits hown hK hP 0 rfl rfl 5 (by decide) (hg _ k69) (fun _ h9 => h9) rfl d_Carries_writeWaiting_29 ?_
        refine lv_icmp_ge (tgt := 57) hx hb d_Carries_writeWaiting_32 (by decide) (fun c_2 => ?_) (fun c_2 => ?_)
        · have hj3 : Pn = j := by have := nI_ge' (by omega) (by omega) c_2; omega
          subst hj3
          have hP : va_P (dC, dI) vwCl [(co, Sum.inr (3, [Value.int xshift, Value.long xkeptCode, Value.long xkeptRange, Value.int xkeptAsked, Value.int (caI ca), Value.int (nI Pn), Value.long xlow, Value.long xrange, Value.long xcode, Value.long xreadLow, Value.long xreadRange, Value.ref ri, Value.ref ro, Value.ref rw, Value.int xasked])), (rw, Sum.inr (0, [Value.int (nI b9.length), Value.ref rwa9])), (rwa9, Sum.inl (cI, rwk9, Sum.inl rwf9))] H := hP
          have hD : va_D A [(co, Sum.inr (3, [Value.int xshift, Value.long xkeptCode, Value.long xkeptRange, Value.int xkeptAsked, Value.int (caI ca), Value.int (nI Pn), Value.long xlow, Value.long xrange, Value.long xcode, Value.long xreadLow, Value.long xreadRange, Value.ref ri, Value.ref ro, Value.ref rw, Value.int xasked])), (rw, Sum.inr (0, [Value.int (nI b9.length), Value.ref rwa9])), (rwa9, Sum.inl (cI, rwk9, Sum.inl rwf9))] := hD
          have z9 : b9 = bs ++ caB ca kc ++ List.replicate Pn ((255 + kc) % 256) := hb9
          subst z9
          refine lv_aload_n hx hb d_Carries_writeWaiting_57 rfl (lv_at hl 1 rfl) ?_
          refine lv_iconst (v := 0) hx hb d_Carries_writeWaiting_58 (by decide) ?_
          refine va_put (D := (dC, dI)) (ci := 3) (v := .int 0) (ty := .int) (C := "RangeCoders$Bits") (T := T_Bits) (N := 15) hx hb hg in_Bits t_Bits o_Bits n_Bits hown hK hP hD hS 0 rfl rfl 5 (by decide) (hg _ k69) (fun _ h9 => h9) rfl (by decide +kernel) rfl rfl (Nat.le_of_ble_eq_true rfl) d_Carries_writeWaiting_59 (fun H locs hP hD hS => ?_)
          have hP : va_P (dC, dI) vwCl [(co, Sum.inr (3, [Value.int xshift, Value.long xkeptCode, Value.long xkeptRange, Value.int xkeptAsked, Value.int (caI ca), Value.int 0, Value.long xlow, Value.long xrange, Value.long xcode, Value.long xreadLow, Value.long xreadRange, Value.ref ri, Value.ref ro, Value.ref rw, Value.int xasked])), (rw, Sum.inr (0, [Value.int (nI (bs ++ caB ca kc ++ List.replicate Pn ((255 + kc) % 256)).length), Value.ref rwa9])), (rwa9, Sum.inl (cI, rwk9, Sum.inl rwf9))] H := hP
          have hD : va_D A [(co, Sum.inr (3, [Value.int xshift, Value.long xkeptCode, Value.long xkeptRange, Value.int xkeptAsked, Value.int (caI ca), Value.int 0, Value.long xlow, Value.long xrange, Value.long xcode, Value.long xreadLow, Value.long xreadRange, Value.ref ri, Value.ref ro, Value.ref rw, Value.int xasked])), (rw, Sum.inr (0, [Value.int (nI (bs ++ caB ca kc ++ List.replicate Pn ((255 + kc) % 256)).length), Value.ref rwa9])), (rwa9, Sum.inl (cI, rwk9, Sum.inl rwf9))] := hD
          exact my_vretg hx hb hr hlocks hQ hK hS (rwa9, rwk9, rwf9) (show d9 + (rPh rwk9) ≤ (rPh rwk) by omega) (show d9 + (rPh rwk9) ≤ (rPh rwk) by omega) (⟨hr9, hg9⟩) (hP.sub [0, 1, 2] rfl) (hD.sub [0, 1, 2] (by decide +kernel) rfl) d_Carries_writeWaiting_62
        · have hj2 : j < Pn := nI_lt' (by omega) c_2
          refine lv_aload_n hx hb d_Carries_writeWaiting_35 rfl (lv_at hl 1 rfl) ?_
          refine va_get (D := (dC, dI)) (ci := 3) (v := .ref rw) (C := "RangeCoders$Bits") (T := T_Bits) (N := 15) hx hb hg in_Bits hown hK hP 0 rfl rfl 13 (by decide) (hg _ k124) (fun x9 h9 => u_same (hg _ k125) x9 h9) rfl d_Carries_writeWaiting_36 ?_
          refine lv_sipush (v := 255) hx hb d_Carries_writeWaiting_39 (by decide) ?_
          refine lv_iload_n hx hb d_Carries_writeWaiting_42 rfl (lv_at hl 2 rfl) ?_
          refine lv_iadd hx hb d_Carries_writeWaiting_43 ?_
          refine lv_topi (fun v_3 ev_3 => ?_)
          refine lv_sipush (v := 255) hx hb d_Carries_writeWaiting_44 (by decide) ?_
          refine lv_iand hx hb d_Carries_writeWaiting_47 ?_
          refine lv_topi (fun v_4 ev_4 => ?_)
          have z9 : v_4 = nI ((255 + kc) % 256) := by subst_vars; rw [show (255 : Int32) + nI kc = nI (255 + kc) from nI_add 255 kc]; exact pk_andN (by omega) 8 (by decide +kernel)
          subst z9
          refine my_cvg (wr := [(co, Sum.inr (3, [Value.int xshift, Value.long xkeptCode, Value.long xkeptRange, Value.int xkeptAsked, Value.int (caI ca), Value.int (nI Pn), Value.long xlow, Value.long xrange, Value.long xcode, Value.long xreadLow, Value.long xreadRange, Value.ref ri, Value.ref ro, Value.ref rw, Value.int xasked]))]) (va_runV (As := [Value.int (nI ((255 + kc) % 256))]) (rest := []) ⟨hx, hb, hml, hown, hts⟩ (f_Row_add l dC dI cI cM cO H.size (hSl H) rw rwa9 rwk9 rwf9 b9 ((255 + kc) % 256) (hr9) (hg9) (by omega)) (cwV 1 hts (my_gV k472 k473 k474 k6 k475) rfl rfl rfl (by decide +kernel) ⟨by rw [hR]; exact Nat.le_of_ble_eq_true rfl, by rw [hR]; exact Nat.le_of_ble_eq_true rfl⟩) (my_preVg hK hN (hP.sub [1, 2] rfl) (hD.sub [1, 2] (by decide +kernel) rfl) 0 rfl rfl) rfl rfl hl.1 rfl (lv_room (Nat.le_of_ble_eq_true rfl)) d_Carries_writeWaiting_48 ⟨by rw [hR]; exact (show d9 + (rPh rwk9) ≤ (rPh rwk) by omega), by rw [hR]; exact (show d9 + (rPh rwk9) ≤ (rPh rwk) by omega)⟩) hP hD hS hA [1, 2] [0] rfl rfl (by decide +kernel) (by decide +kernel) (fun u9 d_48 H locs hd_48 hw_48 hP hD hS => ?_)
          obtain ⟨rraq_48, rrkq_48, rrfq_48⟩ := u9
          obtain ⟨hrr_48, hGrr_48⟩ : rOk (nI (b9 ++ [((255 + kc) % 256)]).length) rrkq_48 ∧ gIs rrfq_48 (b9 ++ [((255 + kc) % 256)]) := hw_48
          have hd_48 : d_48 + (rPh rrkq_48) ≤ (rPh rwk9) := hd_48
          have hP : va_P (dC, dI) vwCl [(co, Sum.inr (3, [Value.int xshift, Value.long xkeptCode, Value.long xkeptRange, Value.int xkeptAsked, Value.int (caI ca), Value.int (nI Pn), Value.long xlow, Value.long xrange, Value.long xcode, Value.long xreadLow, Value.long xreadRange, Value.ref ri, Value.ref ro, Value.ref rw, Value.int xasked])), (rw, Sum.inr (0, [Value.int (nI (b9 ++ [((255 + kc) % 256)]).length), Value.ref rraq_48])), (rraq_48, Sum.inl (cI, rrkq_48, Sum.inl rrfq_48))] H := hP
          have hD : va_D A [(co, Sum.inr (3, [Value.int xshift, Value.long xkeptCode, Value.long xkeptRange, Value.int xkeptAsked, Value.int (caI ca), Value.int (nI Pn), Value.long xlow, Value.long xrange, Value.long xcode, Value.long xreadLow, Value.long xreadRange, Value.ref ri, Value.ref ro, Value.ref rw, Value.int xasked])), (rw, Sum.inr (0, [Value.int (nI (b9 ++ [((255 + kc) % 256)]).length), Value.ref rraq_48])), (rraq_48, Sum.inl (cI, rrkq_48, Sum.inl rrfq_48))] := hD
          obtain ⟨v_5, ev_5⟩ : ∃ y : Int32, y = (nI j) + (1) := ⟨_, rfl⟩
          refine lv_iinc (v := v_5) (lv' := [(2, Value.int v_5), (0, Value.ref co), (1, Value.int (nI kc))]) hx hb d_Carries_writeWaiting_51 hl (k := 0) rfl (by rw [ev_5]; rfl) (by decide) rfl (fun ls hl => ?_)
          have z9 : v_5 = nI (j + 1) := by rw [ev_5]; exact nI_1 _
          subst z9
          refine lv_goto (tgt := 27) hx hb d_Carries_writeWaiting_54 (by decide) ?_
          exact ih9_27 _ (by first | omega | (omega)) (j + 1) (b9 ++ [(255 + kc) % 256]) rraq_48 rrkq_48 rrfq_48 (d9 + d_48) rfl (by omega) (by rw [hb9, List.replicate_succ', ← List.append_assoc]) (hrr_48) (hGrr_48) (by omega) H locs ls (hP.sub [0, 1, 2] rfl) (hD.sub [0, 1, 2] (by decide +kernel) rfl) hS (lv_sub hl [0, 1, 2] rfl)
    exact J_27 _ (0 : Nat) bs rwa rwk rwf (0 : Nat) rfl (Nat.zero_le _) (by rw [hcn]; simp [caB]) (hrw) (hGrw) (by omega) H locs ls (hP.sub [0, 1, 2] rfl) (hD.sub [0, 1, 2] (by decide +kernel) rfl) hS (lv_sub hl [0, 1, 2] rfl)
  · obtain ⟨c0, hc0⟩ : ∃ x, ca = some x := by
      cases hca : ca with
      | none => exact absurd ((caI_ne hc).mpr hca) c_1
      | some x => exact ⟨x, rfl⟩
    have hc256 := hc c0 hc0
    have hcI : caI ca = nI c0 := by rw [hc0]; rfl
    refine lv_aload_n hx hb d_Carries_writeWaiting_8 rfl (lv_at hl 0 rfl) ?_
    refine va_get (D := (dC, dI)) (ci := 3) (v := .ref rw) (C := "RangeCoders$Bits") (T := T_Bits) (N := 15) hx hb hg in_Bits hown hK hP 0 rfl rfl 13 (by decide) (hg _ k124) (fun x9 h9 => u_same (hg _ k125) x9 h9) rfl d_Carries_writeWaiting_9 ?_
    refine lv_aload_n hx hb d_Carries_writeWaiting_12 rfl (lv_at hl 0 rfl) ?_
    refine va_get (D := (dC, dI)) (ci := 3) (v := .int (caI ca)) (C := "RangeCoders$Bits") (T := T_Bits) (N := 15) hx hb hg in_Bits hown hK hP 0 rfl rfl 4 (by decide) (hg _ k68) (fun _ h9 => h9) rfl d_Carries_writeWaiting_13 ?_
    refine lv_iload_n hx hb d_Carries_writeWaiting_16 rfl (lv_at hl 1 rfl) ?_
    refine lv_iadd hx hb d_Carries_writeWaiting_17 ?_
    refine lv_topi (fun v_6 ev_6 => ?_)
    refine lv_sipush (v := 255) hx hb d_Carries_writeWaiting_18 (by decide) ?_
    refine lv_iand hx hb d_Carries_writeWaiting_21 ?_
    refine lv_topi (fun v_7 ev_7 => ?_)
    have z9 : v_7 = nI ((c0 + kc) % 256) := by subst_vars; rw [hcI, nI_add]; exact pk_andN (by omega) 8 (by decide +kernel)
    subst z9
    refine my_cvg (wr := [(co, Sum.inr (3, [Value.int xshift, Value.long xkeptCode, Value.long xkeptRange, Value.int xkeptAsked, Value.int (caI ca), Value.int (nI Pn), Value.long xlow, Value.long xrange, Value.long xcode, Value.long xreadLow, Value.long xreadRange, Value.ref ri, Value.ref ro, Value.ref rw, Value.int xasked]))]) (va_runV (As := [Value.int (nI ((c0 + kc) % 256))]) (rest := []) ⟨hx, hb, hml, hown, hts⟩ (f_Row_add l dC dI cI cM cO H.size (hSl H) rw rwa rwk rwf bs ((c0 + kc) % 256) (hrw) (hGrw) (by omega)) (cwV 1 hts (my_gV k472 k473 k474 k6 k475) rfl rfl rfl (by decide +kernel) ⟨by rw [hR]; exact Nat.le_of_ble_eq_true rfl, by rw [hR]; exact Nat.le_of_ble_eq_true rfl⟩) (my_preVg hK hN (hP.sub [1, 2] rfl) (hD.sub [1, 2] (by decide +kernel) rfl) 0 rfl rfl) rfl rfl hl.1 rfl (lv_room (Nat.le_of_ble_eq_true rfl)) d_Carries_writeWaiting_22 ⟨by rw [hR]; exact (show 0 + (rPh rwk) ≤ (rPh rwk) by omega), by rw [hR]; exact (show 0 + (rPh rwk) ≤ (rPh rwk) by omega)⟩) hP hD hS hA [1, 2] [0] rfl rfl (by decide +kernel) (by decide +kernel) (fun u9 d_22 H locs hd_22 hw_22 hP hD hS => ?_)
    obtain ⟨rraq_22, rrkq_22, rrfq_22⟩ := u9
    obtain ⟨hrr_22, hGrr_22⟩ : rOk (nI (bs ++ [((c0 + kc) % 256)]).length) rrkq_22 ∧ gIs rrfq_22 (bs ++ [((c0 + kc) % 256)]) := hw_22
    have hd_22 : d_22 + (rPh rrkq_22) ≤ (rPh rwk) := hd_22
    have hP : va_P (dC, dI) vwCl [(co, Sum.inr (3, [Value.int xshift, Value.long xkeptCode, Value.long xkeptRange, Value.int xkeptAsked, Value.int (caI ca), Value.int (nI Pn), Value.long xlow, Value.long xrange, Value.long xcode, Value.long xreadLow, Value.long xreadRange, Value.ref ri, Value.ref ro, Value.ref rw, Value.int xasked])), (rw, Sum.inr (0, [Value.int (nI (bs ++ [((c0 + kc) % 256)]).length), Value.ref rraq_22])), (rraq_22, Sum.inl (cI, rrkq_22, Sum.inl rrfq_22))] H := hP
    have hD : va_D A [(co, Sum.inr (3, [Value.int xshift, Value.long xkeptCode, Value.long xkeptRange, Value.int xkeptAsked, Value.int (caI ca), Value.int (nI Pn), Value.long xlow, Value.long xrange, Value.long xcode, Value.long xreadLow, Value.long xreadRange, Value.ref ri, Value.ref ro, Value.ref rw, Value.int xasked])), (rw, Sum.inr (0, [Value.int (nI (bs ++ [((c0 + kc) % 256)]).length), Value.ref rraq_22])), (rraq_22, Sum.inl (cI, rrkq_22, Sum.inl rrfq_22))] := hD
    refine lv_iconst (v := 0) hx hb d_Carries_writeWaiting_25 (by decide) ?_
    refine lv_istore_n (lv' := [(2, Value.int 0), (0, Value.ref co), (1, Value.int (nI kc))]) hx hb d_Carries_writeWaiting_26 rfl hl (by decide) rfl (fun ls hl => ?_)
    have J_27 : ∀ (n9_27 : Nat) (j : Nat) (b9 : List Nat) (rwa9 : Nat) (rwk9 : Nat) (rwf9 : Nat → Int32) (d9 : Nat) (hn9_27 : Pn - j = n9_27) (hj : j ≤ Pn) (hb9 : b9 = bs ++ caB ca kc ++ List.replicate j ((255 + kc) % 256)) (hr9 : rOk (nI b9.length) rwk9) (hg9 : gIs rwf9 b9) (hd9 : d9 + rPh rwk9 ≤ rPh rwk) (H : Heap) (locs : List Loc) (ls : Array Slot), va_P (dC, dI) vwCl [(co, Sum.inr (3, [Value.int xshift, Value.long xkeptCode, Value.long xkeptRange, Value.int xkeptAsked, Value.int (caI ca), Value.int (nI Pn), Value.long xlow, Value.long xrange, Value.long xcode, Value.long xreadLow, Value.long xreadRange, Value.ref ri, Value.ref ro, Value.ref rw, Value.int xasked])), (rw, Sum.inr (0, [Value.int (nI b9.length), Value.ref rwa9])), (rwa9, Sum.inl (cI, rwk9, Sum.inl rwf9))] H → va_D A [(co, Sum.inr (3, [Value.int xshift, Value.long xkeptCode, Value.long xkeptRange, Value.int xkeptAsked, Value.int (caI ca), Value.int (nI Pn), Value.long xlow, Value.long xrange, Value.long xcode, Value.long xreadLow, Value.long xreadRange, Value.ref ri, Value.ref ro, Value.ref rw, Value.int xasked])), (rw, Sum.inr (0, [Value.int (nI b9.length), Value.ref rwa9])), (rwa9, Sum.inl (cI, rwk9, Sum.inl rwf9))] → va_S A s.heap H locs → lv_has ls 3 [(2, Value.int (nI j)), (0, Value.ref co), (1, Value.int (nI kc))] → W p l e R s m args below meth c H locs d9 d9 Q (F0 m 27 ls []) := by
      intro n9_27
      induction n9_27 using Nat.strongRecOn with
      | ind n9_27 ih9_27 =>
        intro j b9 rwa9 rwk9 rwf9 d9 hn9_27 hj hb9 hr9 hg9 hd9 H locs ls hP hD hS hl
        have hbl : b9.length ≤ bs.length + 1 + j := by
          rw [hb9]
          simp only [List.length_append, List.length_replicate]
          have := caB_le ca kc
          omega
        refine lv_iload_n hx hb d_Carries_writeWaiting_27 rfl (lv_at hl 0 rfl) ?_
        refine lv_aload_n hx hb d_Carries_writeWaiting_28 rfl (lv_at hl 1 rfl) ?_
        refine va_get (D := (dC, dI)) (ci := 3) (v := .int (nI Pn)) (C := "RangeCoders$Bits") (T := T_Bits) (N := 15) hx hb hg in_Bits hown hK hP 0 rfl rfl 5 (by decide) (hg _ k69) (fun _ h9 => h9) rfl d_Carries_writeWaiting_29 ?_
        refine lv_icmp_ge (tgt := 57) hx hb d_Carries_writeWaiting_32 (by decide) (fun c_8 => ?_) (fun c_8 => ?_)
        · have hj3 : Pn = j := by have := nI_ge' (by omega) (by omega) c_8; omega
          subst hj3
          have hP : va_P (dC, dI) vwCl [(co, Sum.inr (3, [Value.int xshift, Value.long xkeptCode, Value.long xkeptRange, Value.int xkeptAsked, Value.int (caI ca), Value.int (nI Pn), Value.long xlow, Value.long xrange, Value.long xcode, Value.long xreadLow, Value.long xreadRange, Value.ref ri, Value.ref ro, Value.ref rw, Value.int xasked])), (rw, Sum.inr (0, [Value.int (nI b9.length), Value.ref rwa9])), (rwa9, Sum.inl (cI, rwk9, Sum.inl rwf9))] H := hP
          have hD : va_D A [(co, Sum.inr (3, [Value.int xshift, Value.long xkeptCode, Value.long xkeptRange, Value.int xkeptAsked, Value.int (caI ca), Value.int (nI Pn), Value.long xlow, Value.long xrange, Value.long xcode, Value.long xreadLow, Value.long xreadRange, Value.ref ri, Value.ref ro, Value.ref rw, Value.int xasked])), (rw, Sum.inr (0, [Value.int (nI b9.length), Value.ref rwa9])), (rwa9, Sum.inl (cI, rwk9, Sum.inl rwf9))] := hD
          have z9 : b9 = bs ++ caB ca kc ++ List.replicate Pn ((255 + kc) % 256) := hb9
          subst z9
          refine lv_aload_n hx hb d_Carries_writeWaiting_57 rfl (lv_at hl 1 rfl) ?_
          refine lv_iconst (v := 0) hx hb d_Carries_writeWaiting_58 (by decide) ?_
          refine va_put (D := (dC, dI)) (ci := 3) (v := .int 0) (ty := .int) (C := "RangeCoders$Bits") (T := T_Bits) (N := 15) hx hb hg in_Bits t_Bits o_Bits n_Bits hown hK hP hD hS 0 rfl rfl 5 (by decide) (hg _ k69) (fun _ h9 => h9) rfl (by decide +kernel) rfl rfl (Nat.le_of_ble_eq_true rfl) d_Carries_writeWaiting_59 (fun H locs hP hD hS => ?_)
          have hP : va_P (dC, dI) vwCl [(co, Sum.inr (3, [Value.int xshift, Value.long xkeptCode, Value.long xkeptRange, Value.int xkeptAsked, Value.int (caI ca), Value.int 0, Value.long xlow, Value.long xrange, Value.long xcode, Value.long xreadLow, Value.long xreadRange, Value.ref ri, Value.ref ro, Value.ref rw, Value.int xasked])), (rw, Sum.inr (0, [Value.int (nI (bs ++ caB ca kc ++ List.replicate Pn ((255 + kc) % 256)).length), Value.ref rwa9])), (rwa9, Sum.inl (cI, rwk9, Sum.inl rwf9))] H := hP
          have hD : va_D A [(co, Sum.inr (3, [Value.int xshift, Value.long xkeptCode, Value.long xkeptRange, Value.int xkeptAsked, Value.int (caI ca), Value.int 0, Value.long xlow, Value.long xrange, Value.long xcode, Value.long xreadLow, Value.long xreadRange, Value.ref ri, Value.ref ro, Value.ref rw, Value.int xasked])), (rw, Sum.inr (0, [Value.int (nI (bs ++ caB ca kc ++ List.replicate Pn ((255 + kc) % 256)).length), Value.ref rwa9])), (rwa9, Sum.inl (cI, rwk9, Sum.inl rwf9))] := hD
          exact my_vretg hx hb hr hlocks hQ hK hS (rwa9, rwk9, rwf9) (show d9 + (rPh rwk9) ≤ (rPh rwk) by omega) (show d9 + (rPh rwk9) ≤ (rPh rwk) by omega) (⟨hr9, hg9⟩) (hP.sub [0, 1, 2] rfl) (hD.sub [0, 1, 2] (by decide +kernel) rfl) d_Carries_writeWaiting_62
        · have hj2 : j < Pn := nI_lt' (by omega) c_8
          refine lv_aload_n hx hb d_Carries_writeWaiting_35 rfl (lv_at hl 1 rfl) ?_
          refine va_get (D := (dC, dI)) (ci := 3) (v := .ref rw) (C := "RangeCoders$Bits") (T := T_Bits) (N := 15) hx hb hg in_Bits hown hK hP 0 rfl rfl 13 (by decide) (hg _ k124) (fun x9 h9 => u_same (hg _ k125) x9 h9) rfl d_Carries_writeWaiting_36 ?_
          refine lv_sipush (v := 255) hx hb d_Carries_writeWaiting_39 (by decide) ?_
          refine lv_iload_n hx hb d_Carries_writeWaiting_42 rfl (lv_at hl 2 rfl) ?_
          refine lv_iadd hx hb d_Carries_writeWaiting_43 ?_
          refine lv_topi (fun v_9 ev_9 => ?_)
          refine lv_sipush (v := 255) hx hb d_Carries_writeWaiting_44 (by decide) ?_
          refine lv_iand hx hb d_Carries_writeWaiting_47 ?_
          refine lv_topi (fun v_10 ev_10 => ?_)
          have z9 : v_10 = nI ((255 + kc) % 256) := by subst_vars; rw [show (255 : Int32) + nI kc = nI (255 + kc) from nI_add 255 kc]; exact pk_andN (by omega) 8 (by decide +kernel)
          subst z9
          refine my_cvg (wr := [(co, Sum.inr (3, [Value.int xshift, Value.long xkeptCode, Value.long xkeptRange, Value.int xkeptAsked, Value.int (caI ca), Value.int (nI Pn), Value.long xlow, Value.long xrange, Value.long xcode, Value.long xreadLow, Value.long xreadRange, Value.ref ri, Value.ref ro, Value.ref rw, Value.int xasked]))]) (va_runV (As := [Value.int (nI ((255 + kc) % 256))]) (rest := []) ⟨hx, hb, hml, hown, hts⟩ (f_Row_add l dC dI cI cM cO H.size (hSl H) rw rwa9 rwk9 rwf9 b9 ((255 + kc) % 256) (hr9) (hg9) (by omega)) (cwV 1 hts (my_gV k472 k473 k474 k6 k475) rfl rfl rfl (by decide +kernel) ⟨by rw [hR]; exact Nat.le_of_ble_eq_true rfl, by rw [hR]; exact Nat.le_of_ble_eq_true rfl⟩) (my_preVg hK hN (hP.sub [1, 2] rfl) (hD.sub [1, 2] (by decide +kernel) rfl) 0 rfl rfl) rfl rfl hl.1 rfl (lv_room (Nat.le_of_ble_eq_true rfl)) d_Carries_writeWaiting_48 ⟨by rw [hR]; exact (show d9 + (rPh rwk9) ≤ (rPh rwk) by omega), by rw [hR]; exact (show d9 + (rPh rwk9) ≤ (rPh rwk) by omega)⟩) hP hD hS hA [1, 2] [0] rfl rfl (by decide +kernel) (by decide +kernel) (fun u9 d_48 H locs hd_48 hw_48 hP hD hS => ?_)
          obtain ⟨rraq_48, rrkq_48, rrfq_48⟩ := u9
          obtain ⟨hrr_48, hGrr_48⟩ : rOk (nI (b9 ++ [((255 + kc) % 256)]).length) rrkq_48 ∧ gIs rrfq_48 (b9 ++ [((255 + kc) % 256)]) := hw_48
          have hd_48 : d_48 + (rPh rrkq_48) ≤ (rPh rwk9) := hd_48
          have hP : va_P (dC, dI) vwCl [(co, Sum.inr (3, [Value.int xshift, Value.long xkeptCode, Value.long xkeptRange, Value.int xkeptAsked, Value.int (caI ca), Value.int (nI Pn), Value.long xlow, Value.long xrange, Value.long xcode, Value.long xreadLow, Value.long xreadRange, Value.ref ri, Value.ref ro, Value.ref rw, Value.int xasked])), (rw, Sum.inr (0, [Value.int (nI (b9 ++ [((255 + kc) % 256)]).length), Value.ref rraq_48])), (rraq_48, Sum.inl (cI, rrkq_48, Sum.inl rrfq_48))] H := hP
          have hD : va_D A [(co, Sum.inr (3, [Value.int xshift, Value.long xkeptCode, Value.long xkeptRange, Value.int xkeptAsked, Value.int (caI ca), Value.int (nI Pn), Value.long xlow, Value.long xrange, Value.long xcode, Value.long xreadLow, Value.long xreadRange, Value.ref ri, Value.ref ro, Value.ref rw, Value.int xasked])), (rw, Sum.inr (0, [Value.int (nI (b9 ++ [((255 + kc) % 256)]).length), Value.ref rraq_48])), (rraq_48, Sum.inl (cI, rrkq_48, Sum.inl rrfq_48))] := hD
          obtain ⟨v_11, ev_11⟩ : ∃ y : Int32, y = (nI j) + (1) := ⟨_, rfl⟩
          refine lv_iinc (v := v_11) (lv' := [(2, Value.int v_11), (0, Value.ref co), (1, Value.int (nI kc))]) hx hb d_Carries_writeWaiting_51 hl (k := 0) rfl (by rw [ev_11]; rfl) (by decide) rfl (fun ls hl => ?_)
          have z9 : v_11 = nI (j + 1) := by rw [ev_11]; exact nI_1 _
          subst z9
          refine lv_goto (tgt := 27) hx hb d_Carries_writeWaiting_54 (by decide) ?_
          exact ih9_27 _ (by first | omega | (omega)) (j + 1) (b9 ++ [(255 + kc) % 256]) rraq_48 rrkq_48 rrfq_48 (d9 + d_48) rfl (by omega) (by rw [hb9, List.replicate_succ', ← List.append_assoc]) (hrr_48) (hGrr_48) (by omega) H locs ls (hP.sub [0, 1, 2] rfl) (hD.sub [0, 1, 2] (by decide +kernel) rfl) hS (lv_sub hl [0, 1, 2] rfl)
    exact J_27 _ (0 : Nat) (bs ++ [(c0 + kc) % 256]) rraq_22 rrkq_22 rrfq_22 (0 + d_22) rfl (Nat.zero_le _) (by rw [hc0]; simp [caB]) (hrr_22) (hGrr_22) (by omega) H locs ls (hP.sub [0, 1, 2] rfl) (hD.sub [0, 1, 2] (by decide +kernel) rfl) hS (lv_sub hl [0, 1, 2] rfl)
set_option maxHeartbeats 2000000 in
set_option maxRecDepth 100000 in
theorem f_Bits_shiftLow (l : Launch) (dC : Nat → ClassId) (dI : Nat → Nat → Nat) (cI cM cO : ClassId) (sz : Nat) (sl : Nat) (co : Nat) (xshift : Int32) (xkeptCode : Int64) (xkeptRange : Int64) (xkeptAsked : Int32) (xrange : Int64) (xcode : Int64) (xreadLow : Int64) (xreadRange : Int64) (ri : Nat) (ro : Nat) (rw : Nat) (xasked : Int32) (L : Nat) (ca : Option Nat) (Pn : Nat) (rwa : Nat) (rwk : Nat) (rwf : Nat → Int32) (bs : List Nat) (hL : L < 8589934592) (hc : ∀ x, ca = some x → x < 256) (hrw : rOk (nI bs.length) rwk) (hGrw : gIs rwf bs) (hN9 : bs.length + Pn + 1 ≤ 8000) : MetVg l y_Carries_shiftLow (Cond.code y_Carries_shiftLow prog_3_method_8_code 1 none :: gw) ({ frames := 4, cells := rPh rwk, slots := rPh rwk, locals := 105 } : Room) (dC, dI) vwCl (kT cI cM cO) [Value.ref co] [(co, Sum.inr (3, [Value.int xshift, Value.long xkeptCode, Value.long xkeptRange, Value.int xkeptAsked, Value.int (caI ca), Value.int (nI Pn), Value.long (lN L), Value.long xrange, Value.long xcode, Value.long xreadLow, Value.long xreadRange, Value.ref ri, Value.ref ro, Value.ref rw, Value.int xasked])), (rw, Sum.inr (0, [Value.int (nI bs.length), Value.ref rwa])), (rwa, Sum.inl (cI, rwk, Sum.inl rwf))] sz sl (fun (u : Nat × Nat × (Nat → Int32)) => rOk (nI (shB L ca Pn bs).length) u.2.1 ∧ gIs u.2.2 (shB L ca Pn bs)) (fun (u : Nat × Nat × (Nat → Int32)) => [(co, Sum.inr (3, [Value.int xshift, Value.long xkeptCode, Value.long xkeptRange, Value.int xkeptAsked, Value.int (caI (shC L ca)), Value.int (nI (shP L Pn)), Value.long (lN (shL L)), Value.long xrange, Value.long xcode, Value.long xreadLow, Value.long xreadRange, Value.ref ri, Value.ref ro, Value.ref rw, Value.int xasked])), (rw, Sum.inr (0, [Value.int (nI (shB L ca Pn bs).length), Value.ref u.1])), (u.1, Sum.inl (cI, u.2.1, Sum.inl u.2.2))]) (rPh rwk) (fun (u : Nat × Nat × (Nat → Int32)) => rPh u.2.1) := by
  refine my_ofVg (cc := prog_3_method_8_code) (n := 1) (ret := none) (by decide) rfl (Nat.le_of_ble_eq_true rfl) ?_
  intro p e s m args below meth c R Q A ls H locs hx hb hr hts hown hlocks hml hnm hR hQ hA hl hP hK hN hD hS
  have hg : ∀ w ∈ gw, w.before args s = true := fun w h => hts w (List.mem_cons_of_mem _ h)
  have hown : s.vm.findClass "RangeCoders$Carries" = some m.cls := hown
  have hl : lv_has ls 1 [(0, Value.ref co)] := hl
  have hltw := rOk_lt hrw
  refine lv_aload_n hx hb d_Carries_shiftLow_0 rfl (lv_at hl 0 rfl) ?_
  refine va_get (D := (dC, dI)) (ci := 3) (v := .long (lN L)) (C := "RangeCoders$Bits") (T := T_Bits) (N := 15) hx hb hg in_Bits hown hK hP 0 rfl rfl 6 (by decide) (hg _ k72) (fun x9 h9 => u_same (hg _ k73) x9 h9) rfl d_Carries_shiftLow_1 ?_
  refine lv_ldc2 (v := 4278190080) hx hb hown (hg _ k467) d_Carries_shiftLow_4 ?_
  refine W.lcmp hx hb d_Carries_shiftLow_7 ?_
  refine lv_if_lt (tgt := 22) hx hb d_Carries_shiftLow_8 (by decide) (fun c_1 => ?_) (fun c_1 => ?_)
  · rw [lg_cmp_lt] at c_1
    have hO : shO L := Or.inl ((L_lt (b := 4278190080) (by omega) (by decide)).mp c_1)
    refine lv_aload_n hx hb d_Carries_shiftLow_22 rfl (lv_at hl 0 rfl) ?_
    refine lv_aload_n hx hb d_Carries_shiftLow_23 rfl (lv_at hl 0 rfl) ?_
    refine va_get (D := (dC, dI)) (ci := 3) (v := .long (lN L)) (C := "RangeCoders$Bits") (T := T_Bits) (N := 15) hx hb hg in_Bits hown hK hP 0 rfl rfl 6 (by decide) (hg _ k72) (fun x9 h9 => u_same (hg _ k73) x9 h9) rfl d_Carries_shiftLow_24 ?_
    refine lv_bipush (v := 32) hx hb d_Carries_shiftLow_27 (by decide) ?_
    refine lv_lushr hx hb d_Carries_shiftLow_29 rfl ?_
    refine lv_topl (fun v_2 ev_2 => ?_)
    refine lv_l2i hx hb d_Carries_shiftLow_30 rfl ?_
    refine lv_topi (fun v_3 ev_3 => ?_)
    have z9 : v_3 = nI (L / 4294967296) := by subst_vars; rw [U_shr32 (by omega)]; exact lN_i _
    subst z9
    refine my_cvg (wr := []) (va_runU (As := [Value.int (nI (L / 4294967296))]) (rest := []) ⟨hx, hb, hml, hown, hts⟩ (f_Bits_writeWaiting l dC dI cI cM cO H.size (hSl H) co xshift xkeptCode xkeptRange xkeptAsked (lN L) xrange xcode xreadLow xreadRange ri ro rw xasked ca Pn (L / 4294967296) rwa rwk rwf bs (by first | assumption | omega) (by omega) (by first | assumption | omega) (by first | assumption | omega) (by first | assumption | omega)) (va_cwU 1 hts (my_gU k468 k1282 kx1 k470 k5 k471) rfl rfl rfl rfl (by decide +kernel) ⟨by rw [hR]; exact Nat.le_of_ble_eq_true rfl, by rw [hR]; exact Nat.le_of_ble_eq_true rfl⟩) (my_preVg hK hN (hP.sub [0, 1, 2] rfl) (hD.sub [0, 1, 2] (by decide +kernel) rfl) 0 rfl rfl) rfl rfl hl.1 rfl (lv_room (Nat.le_of_ble_eq_true rfl)) d_Carries_shiftLow_31 ⟨by rw [hR]; exact (show 0 + (rPh rwk) ≤ (rPh rwk) by omega), by rw [hR]; exact (show 0 + (rPh rwk) ≤ (rPh rwk) by omega)⟩) hP hD hS hA [0, 1, 2] [] rfl rfl (by decide +kernel) (by decide +kernel) (fun u9 d_31 H locs hd_31 hw_31 hP hD hS => ?_)
    obtain ⟨rwaq_31, rwkq_31, rwfq_31⟩ := u9
    obtain ⟨hrw_31, hGrw_31⟩ : rOk (nI (bs ++ caB ca (L / 4294967296) ++ List.replicate Pn ((255 + (L / 4294967296)) % 256)).length) rwkq_31 ∧ gIs rwfq_31 (bs ++ caB ca (L / 4294967296) ++ List.replicate Pn ((255 + (L / 4294967296)) % 256)) := hw_31
    have hd_31 : d_31 + (rPh rwkq_31) ≤ (rPh rwk) := hd_31
    have hP : va_P (dC, dI) vwCl [(co, Sum.inr (3, [Value.int xshift, Value.long xkeptCode, Value.long xkeptRange, Value.int xkeptAsked, Value.int (caI ca), Value.int 0, Value.long (lN L), Value.long xrange, Value.long xcode, Value.long xreadLow, Value.long xreadRange, Value.ref ri, Value.ref ro, Value.ref rw, Value.int xasked])), (rw, Sum.inr (0, [Value.int (nI (bs ++ caB ca (L / 4294967296) ++ List.replicate Pn ((255 + (L / 4294967296)) % 256)).length), Value.ref rwaq_31])), (rwaq_31, Sum.inl (cI, rwkq_31, Sum.inl rwfq_31))] H := hP
    have hD : va_D A [(co, Sum.inr (3, [Value.int xshift, Value.long xkeptCode, Value.long xkeptRange, Value.int xkeptAsked, Value.int (caI ca), Value.int 0, Value.long (lN L), Value.long xrange, Value.long xcode, Value.long xreadLow, Value.long xreadRange, Value.ref ri, Value.ref ro, Value.ref rw, Value.int xasked])), (rw, Sum.inr (0, [Value.int (nI (bs ++ caB ca (L / 4294967296) ++ List.replicate Pn ((255 + (L / 4294967296)) % 256)).length), Value.ref rwaq_31])), (rwaq_31, Sum.inl (cI, rwkq_31, Sum.inl rwfq_31))] := hD
    refine lv_aload_n hx hb d_Carries_shiftLow_34 rfl (lv_at hl 0 rfl) ?_
    refine lv_aload_n hx hb d_Carries_shiftLow_35 rfl (lv_at hl 0 rfl) ?_
    refine va_get (D := (dC, dI)) (ci := 3) (v := .long (lN L)) (C := "RangeCoders$Bits") (T := T_Bits) (N := 15) hx hb hg in_Bits hown hK hP 0 rfl rfl 6 (by decide) (hg _ k72) (fun x9 h9 => u_same (hg _ k73) x9 h9) rfl d_Carries_shiftLow_36 ?_
    refine lv_bipush (v := 24) hx hb d_Carries_shiftLow_39 (by decide) ?_
    refine lv_lushr hx hb d_Carries_shiftLow_41 rfl ?_
    refine lv_topl (fun v_4 ev_4 => ?_)
    refine lv_l2i hx hb d_Carries_shiftLow_42 rfl ?_
    refine lv_topi (fun v_5 ev_5 => ?_)
    refine lv_sipush (v := 255) hx hb d_Carries_shiftLow_43 (by decide) ?_
    refine lv_iand hx hb d_Carries_shiftLow_46 ?_
    refine lv_topi (fun v_6 ev_6 => ?_)
    have z9 : v_6 = caI (shC L ca) := by subst_vars; rw [U_shr24 (by omega), lN_i]; unfold shC; rw [if_pos hO]; exact pk_andN (by omega) 8 (by decide +kernel)
    subst z9
    refine va_put (D := (dC, dI)) (ci := 3) (v := .int (caI (shC L ca))) (ty := .int) (C := "RangeCoders$Bits") (T := T_Bits) (N := 15) hx hb hg in_Bits t_Bits o_Bits n_Bits hown hK hP hD hS 0 rfl rfl 4 (by decide) (hg _ k68) (fun _ h9 => h9) rfl (by decide +kernel) rfl rfl (Nat.le_of_ble_eq_true rfl) d_Carries_shiftLow_47 (fun H locs hP hD hS => ?_)
    have hP : va_P (dC, dI) vwCl [(co, Sum.inr (3, [Value.int xshift, Value.long xkeptCode, Value.long xkeptRange, Value.int xkeptAsked, Value.int (caI (shC L ca)), Value.int 0, Value.long (lN L), Value.long xrange, Value.long xcode, Value.long xreadLow, Value.long xreadRange, Value.ref ri, Value.ref ro, Value.ref rw, Value.int xasked])), (rw, Sum.inr (0, [Value.int (nI (bs ++ caB ca (L / 4294967296) ++ List.replicate Pn ((255 + (L / 4294967296)) % 256)).length), Value.ref rwaq_31])), (rwaq_31, Sum.inl (cI, rwkq_31, Sum.inl rwfq_31))] H := hP
    have hD : va_D A [(co, Sum.inr (3, [Value.int xshift, Value.long xkeptCode, Value.long xkeptRange, Value.int xkeptAsked, Value.int (caI (shC L ca)), Value.int 0, Value.long (lN L), Value.long xrange, Value.long xcode, Value.long xreadLow, Value.long xreadRange, Value.ref ri, Value.ref ro, Value.ref rw, Value.int xasked])), (rw, Sum.inr (0, [Value.int (nI (bs ++ caB ca (L / 4294967296) ++ List.replicate Pn ((255 + (L / 4294967296)) % 256)).length), Value.ref rwaq_31])), (rwaq_31, Sum.inl (cI, rwkq_31, Sum.inl rwfq_31))] := hD
    refine lv_goto (tgt := 63) hx hb d_Carries_shiftLow_50 (by decide) ?_
    have hsu : (nI (bs ++ caB ca (L / 4294967296) ++ List.replicate Pn ((255 + (L / 4294967296)) % 256)).length : Int32) = nI (shB L ca Pn bs).length := by unfold shB; rw [if_pos hO]
    rw [hsu] at hP hD
    have hP : va_P (dC, dI) vwCl [(co, Sum.inr (3, [Value.int xshift, Value.long xkeptCode, Value.long xkeptRange, Value.int xkeptAsked, Value.int (caI (shC L ca)), Value.int 0, Value.long (lN L), Value.long xrange, Value.long xcode, Value.long xreadLow, Value.long xreadRange, Value.ref ri, Value.ref ro, Value.ref rw, Value.int xasked])), (rw, Sum.inr (0, [Value.int (nI (shB L ca Pn bs).length), Value.ref rwaq_31])), (rwaq_31, Sum.inl (cI, rwkq_31, Sum.inl rwfq_31))] H := hP
    have hD : va_D A [(co, Sum.inr (3, [Value.int xshift, Value.long xkeptCode, Value.long xkeptRange, Value.int xkeptAsked, Value.int (caI (shC L ca)), Value.int 0, Value.long (lN L), Value.long xrange, Value.long xcode, Value.long xreadLow, Value.long xreadRange, Value.ref ri, Value.ref ro, Value.ref rw, Value.int xasked])), (rw, Sum.inr (0, [Value.int (nI (shB L ca Pn bs).length), Value.ref rwaq_31])), (rwaq_31, Sum.inl (cI, rwkq_31, Sum.inl rwfq_31))] := hD
    have hsu : (0 : Int32) = nI (shP L Pn) := by unfold shP; rw [if_pos hO]; rfl
    rw [hsu] at hP hD
    have hP : va_P (dC, dI) vwCl [(co, Sum.inr (3, [Value.int xshift, Value.long xkeptCode, Value.long xkeptRange, Value.int xkeptAsked, Value.int (caI (shC L ca)), Value.int (nI (shP L Pn)), Value.long (lN L), Value.long xrange, Value.long xcode, Value.long xreadLow, Value.long xreadRange, Value.ref ri, Value.ref ro, Value.ref rw, Value.int xasked])), (rw, Sum.inr (0, [Value.int (nI (shB L ca Pn bs).length), Value.ref rwaq_31])), (rwaq_31, Sum.inl (cI, rwkq_31, Sum.inl rwfq_31))] H := hP
    have hD : va_D A [(co, Sum.inr (3, [Value.int xshift, Value.long xkeptCode, Value.long xkeptRange, Value.int xkeptAsked, Value.int (caI (shC L ca)), Value.int (nI (shP L Pn)), Value.long (lN L), Value.long xrange, Value.long xcode, Value.long xreadLow, Value.long xreadRange, Value.ref ri, Value.ref ro, Value.ref rw, Value.int xasked])), (rw, Sum.inr (0, [Value.int (nI (shB L ca Pn bs).length), Value.ref rwaq_31])), (rwaq_31, Sum.inl (cI, rwkq_31, Sum.inl rwfq_31))] := hD
    refine lv_aload_n hx hb d_Carries_shiftLow_63 rfl (lv_at hl 0 rfl) ?_
    refine lv_aload_n hx hb d_Carries_shiftLow_64 rfl (lv_at hl 0 rfl) ?_
    refine va_get (D := (dC, dI)) (ci := 3) (v := .long (lN L)) (C := "RangeCoders$Bits") (T := T_Bits) (N := 15) hx hb hg in_Bits hown hK hP 0 rfl rfl 6 (by decide) (hg _ k72) (fun x9 h9 => u_same (hg _ k73) x9 h9) rfl d_Carries_shiftLow_65 ?_
    refine lv_bipush (v := 8) hx hb d_Carries_shiftLow_68 (by decide) ?_
    refine lv_lshl hx hb d_Carries_shiftLow_70 rfl ?_
    refine lv_topl (fun v_7 ev_7 => ?_)
    refine lv_ldc2 (v := 4294967295) hx hb hown (hg _ k462) d_Carries_shiftLow_71 ?_
    refine lv_land hx hb d_Carries_shiftLow_74 ?_
    refine lv_topl (fun v_8 ev_8 => ?_)
    have z9 : v_8 = lN (shL L) := by subst_vars; rw [L_shl8, L_and32 (by omega)]; unfold shL; congr 1; omega
    subst z9
    refine va_put (D := (dC, dI)) (ci := 3) (v := .long (lN (shL L))) (ty := .long) (C := "RangeCoders$Bits") (T := T_Bits) (N := 15) hx hb hg in_Bits t_Bits o_Bits n_Bits hown hK hP hD hS 0 rfl rfl 6 (by decide) (hg _ k72) (fun x9 h9 => u_same (hg _ k73) x9 h9) rfl (by decide +kernel) rfl rfl (Nat.le_of_ble_eq_true rfl) d_Carries_shiftLow_75 (fun H locs hP hD hS => ?_)
    have hP : va_P (dC, dI) vwCl [(co, Sum.inr (3, [Value.int xshift, Value.long xkeptCode, Value.long xkeptRange, Value.int xkeptAsked, Value.int (caI (shC L ca)), Value.int (nI (shP L Pn)), Value.long (lN (shL L)), Value.long xrange, Value.long xcode, Value.long xreadLow, Value.long xreadRange, Value.ref ri, Value.ref ro, Value.ref rw, Value.int xasked])), (rw, Sum.inr (0, [Value.int (nI (shB L ca Pn bs).length), Value.ref rwaq_31])), (rwaq_31, Sum.inl (cI, rwkq_31, Sum.inl rwfq_31))] H := hP
    have hD : va_D A [(co, Sum.inr (3, [Value.int xshift, Value.long xkeptCode, Value.long xkeptRange, Value.int xkeptAsked, Value.int (caI (shC L ca)), Value.int (nI (shP L Pn)), Value.long (lN (shL L)), Value.long xrange, Value.long xcode, Value.long xreadLow, Value.long xreadRange, Value.ref ri, Value.ref ro, Value.ref rw, Value.int xasked])), (rw, Sum.inr (0, [Value.int (nI (shB L ca Pn bs).length), Value.ref rwaq_31])), (rwaq_31, Sum.inl (cI, rwkq_31, Sum.inl rwfq_31))] := hD
    exact my_vretg hx hb hr hlocks hQ hK hS (rwaq_31, rwkq_31, rwfq_31) (show (0 + d_31) + (rPh rwkq_31) ≤ (rPh rwk) by omega) (show (0 + d_31) + (rPh rwkq_31) ≤ (rPh rwk) by omega) (⟨by unfold shB; rw [if_pos hO]; exact hrw_31, by unfold shB; rw [if_pos hO]; exact hGrw_31⟩) (hP.sub [0, 1, 2] rfl) (hD.sub [0, 1, 2] (by decide +kernel) rfl) d_Carries_shiftLow_78
  · rw [lg_cmp_lt] at c_1
    refine lv_aload_n hx hb d_Carries_shiftLow_11 rfl (lv_at hl 0 rfl) ?_
    refine va_get (D := (dC, dI)) (ci := 3) (v := .long (lN L)) (C := "RangeCoders$Bits") (T := T_Bits) (N := 15) hx hb hg in_Bits hown hK hP 0 rfl rfl 6 (by decide) (hg _ k72) (fun x9 h9 => u_same (hg _ k73) x9 h9) rfl d_Carries_shiftLow_12 ?_
    refine lv_ldc2 (v := 4294967295) hx hb hown (hg _ k462) d_Carries_shiftLow_15 ?_
    refine W.lcmp hx hb d_Carries_shiftLow_18 ?_
    refine lv_if_le (tgt := 53) hx hb d_Carries_shiftLow_19 (by decide) (fun c_9 => ?_) (fun c_9 => ?_)
    · rw [lg_cmp_le] at c_9
      have hO : ¬ shO L := fun q => q.elim (fun q => absurd ((L_lt (b := 4278190080) (by omega) (by decide)).mpr q) c_1) (fun q => absurd ((L_le (b := 4294967295) (by omega) (by decide)).mp c_9) (by omega))
      refine lv_aload_n hx hb d_Carries_shiftLow_53 rfl (lv_at hl 0 rfl) ?_
      refine lv_dup hx hb d_Carries_shiftLow_54 rfl ?_
      refine va_get (D := (dC, dI)) (ci := 3) (v := .int (nI Pn)) (C := "RangeCoders$Bits") (T := T_Bits) (N := 15) hx hb hg in_Bits hown hK hP 0 rfl rfl 5 (by decide) (hg _ k69) (fun _ h9 => h9) rfl d_Carries_shiftLow_55 ?_
      refine lv_iconst (v := 1) hx hb d_Carries_shiftLow_58 (by decide) ?_
      refine lv_iadd hx hb d_Carries_shiftLow_59 ?_
      refine lv_topi (fun v_10 ev_10 => ?_)
      have z9 : v_10 = nI (shP L Pn) := by subst_vars; unfold shP; rw [if_neg hO]; exact nI_1 _
      subst z9
      refine va_put (D := (dC, dI)) (ci := 3) (v := .int (nI (shP L Pn))) (ty := .int) (C := "RangeCoders$Bits") (T := T_Bits) (N := 15) hx hb hg in_Bits t_Bits o_Bits n_Bits hown hK hP hD hS 0 rfl rfl 5 (by decide) (hg _ k69) (fun _ h9 => h9) rfl (by decide +kernel) rfl rfl (Nat.le_of_ble_eq_true rfl) d_Carries_shiftLow_60 (fun H locs hP hD hS => ?_)
      have hP : va_P (dC, dI) vwCl [(co, Sum.inr (3, [Value.int xshift, Value.long xkeptCode, Value.long xkeptRange, Value.int xkeptAsked, Value.int (caI ca), Value.int (nI (shP L Pn)), Value.long (lN L), Value.long xrange, Value.long xcode, Value.long xreadLow, Value.long xreadRange, Value.ref ri, Value.ref ro, Value.ref rw, Value.int xasked])), (rw, Sum.inr (0, [Value.int (nI bs.length), Value.ref rwa])), (rwa, Sum.inl (cI, rwk, Sum.inl rwf))] H := hP
      have hD : va_D A [(co, Sum.inr (3, [Value.int xshift, Value.long xkeptCode, Value.long xkeptRange, Value.int xkeptAsked, Value.int (caI ca), Value.int (nI (shP L Pn)), Value.long (lN L), Value.long xrange, Value.long xcode, Value.long xreadLow, Value.long xreadRange, Value.ref ri, Value.ref ro, Value.ref rw, Value.int xasked])), (rw, Sum.inr (0, [Value.int (nI bs.length), Value.ref rwa])), (rwa, Sum.inl (cI, rwk, Sum.inl rwf))] := hD
      have hsu : (nI bs.length : Int32) = nI (shB L ca Pn bs).length := by unfold shB; rw [if_neg hO]
      rw [hsu] at hP hD
      have hP : va_P (dC, dI) vwCl [(co, Sum.inr (3, [Value.int xshift, Value.long xkeptCode, Value.long xkeptRange, Value.int xkeptAsked, Value.int (caI ca), Value.int (nI (shP L Pn)), Value.long (lN L), Value.long xrange, Value.long xcode, Value.long xreadLow, Value.long xreadRange, Value.ref ri, Value.ref ro, Value.ref rw, Value.int xasked])), (rw, Sum.inr (0, [Value.int (nI (shB L ca Pn bs).length), Value.ref rwa])), (rwa, Sum.inl (cI, rwk, Sum.inl rwf))] H := hP
      have hD : va_D A [(co, Sum.inr (3, [Value.int xshift, Value.long xkeptCode, Value.long xkeptRange, Value.int xkeptAsked, Value.int (caI ca), Value.int (nI (shP L Pn)), Value.long (lN L), Value.long xrange, Value.long xcode, Value.long xreadLow, Value.long xreadRange, Value.ref ri, Value.ref ro, Value.ref rw, Value.int xasked])), (rw, Sum.inr (0, [Value.int (nI (shB L ca Pn bs).length), Value.ref rwa])), (rwa, Sum.inl (cI, rwk, Sum.inl rwf))] := hD
      have hsu : (caI ca : Int32) = caI (shC L ca) := by unfold shC; rw [if_neg hO]
      rw [hsu] at hP hD
      have hP : va_P (dC, dI) vwCl [(co, Sum.inr (3, [Value.int xshift, Value.long xkeptCode, Value.long xkeptRange, Value.int xkeptAsked, Value.int (caI (shC L ca)), Value.int (nI (shP L Pn)), Value.long (lN L), Value.long xrange, Value.long xcode, Value.long xreadLow, Value.long xreadRange, Value.ref ri, Value.ref ro, Value.ref rw, Value.int xasked])), (rw, Sum.inr (0, [Value.int (nI (shB L ca Pn bs).length), Value.ref rwa])), (rwa, Sum.inl (cI, rwk, Sum.inl rwf))] H := hP
      have hD : va_D A [(co, Sum.inr (3, [Value.int xshift, Value.long xkeptCode, Value.long xkeptRange, Value.int xkeptAsked, Value.int (caI (shC L ca)), Value.int (nI (shP L Pn)), Value.long (lN L), Value.long xrange, Value.long xcode, Value.long xreadLow, Value.long xreadRange, Value.ref ri, Value.ref ro, Value.ref rw, Value.int xasked])), (rw, Sum.inr (0, [Value.int (nI (shB L ca Pn bs).length), Value.ref rwa])), (rwa, Sum.inl (cI, rwk, Sum.inl rwf))] := hD
      refine lv_aload_n hx hb d_Carries_shiftLow_63 rfl (lv_at hl 0 rfl) ?_
      refine lv_aload_n hx hb d_Carries_shiftLow_64 rfl (lv_at hl 0 rfl) ?_
      refine va_get (D := (dC, dI)) (ci := 3) (v := .long (lN L)) (C := "RangeCoders$Bits") (T := T_Bits) (N := 15) hx hb hg in_Bits hown hK hP 0 rfl rfl 6 (by decide) (hg _ k72) (fun x9 h9 => u_same (hg _ k73) x9 h9) rfl d_Carries_shiftLow_65 ?_
      refine lv_bipush (v := 8) hx hb d_Carries_shiftLow_68 (by decide) ?_
      refine lv_lshl hx hb d_Carries_shiftLow_70 rfl ?_
      refine lv_topl (fun v_11 ev_11 => ?_)
      refine lv_ldc2 (v := 4294967295) hx hb hown (hg _ k462) d_Carries_shiftLow_71 ?_
      refine lv_land hx hb d_Carries_shiftLow_74 ?_
      refine lv_topl (fun v_12 ev_12 => ?_)
      have z9 : v_12 = lN (shL L) := by subst_vars; rw [L_shl8, L_and32 (by omega)]; unfold shL; congr 1; omega
      subst z9
      refine va_put (D := (dC, dI)) (ci := 3) (v := .long (lN (shL L))) (ty := .long) (C := "RangeCoders$Bits") (T := T_Bits) (N := 15) hx hb hg in_Bits t_Bits o_Bits n_Bits hown hK hP hD hS 0 rfl rfl 6 (by decide) (hg _ k72) (fun x9 h9 => u_same (hg _ k73) x9 h9) rfl (by decide +kernel) rfl rfl (Nat.le_of_ble_eq_true rfl) d_Carries_shiftLow_75 (fun H locs hP hD hS => ?_)
      have hP : va_P (dC, dI) vwCl [(co, Sum.inr (3, [Value.int xshift, Value.long xkeptCode, Value.long xkeptRange, Value.int xkeptAsked, Value.int (caI (shC L ca)), Value.int (nI (shP L Pn)), Value.long (lN (shL L)), Value.long xrange, Value.long xcode, Value.long xreadLow, Value.long xreadRange, Value.ref ri, Value.ref ro, Value.ref rw, Value.int xasked])), (rw, Sum.inr (0, [Value.int (nI (shB L ca Pn bs).length), Value.ref rwa])), (rwa, Sum.inl (cI, rwk, Sum.inl rwf))] H := hP
      have hD : va_D A [(co, Sum.inr (3, [Value.int xshift, Value.long xkeptCode, Value.long xkeptRange, Value.int xkeptAsked, Value.int (caI (shC L ca)), Value.int (nI (shP L Pn)), Value.long (lN (shL L)), Value.long xrange, Value.long xcode, Value.long xreadLow, Value.long xreadRange, Value.ref ri, Value.ref ro, Value.ref rw, Value.int xasked])), (rw, Sum.inr (0, [Value.int (nI (shB L ca Pn bs).length), Value.ref rwa])), (rwa, Sum.inl (cI, rwk, Sum.inl rwf))] := hD
      exact my_vretg hx hb hr hlocks hQ hK hS (rwa, rwk, rwf) (show 0 + (rPh rwk) ≤ (rPh rwk) by omega) (show 0 + (rPh rwk) ≤ (rPh rwk) by omega) (⟨by unfold shB; rw [if_neg hO]; exact hrw, by unfold shB; rw [if_neg hO]; exact hGrw⟩) (hP.sub [0, 1, 2] rfl) (hD.sub [0, 1, 2] (by decide +kernel) rfl) d_Carries_shiftLow_78
    · rw [lg_cmp_le] at c_9
      have hO : shO L := Or.inr ((Nat.lt_or_ge L 4294967296).elim (fun q => absurd ((L_le (b := 4294967295) (by omega) (by decide)).mpr (by omega)) c_9) id)
      refine lv_aload_n hx hb d_Carries_shiftLow_22 rfl (lv_at hl 0 rfl) ?_
      refine lv_aload_n hx hb d_Carries_shiftLow_23 rfl (lv_at hl 0 rfl) ?_
      refine va_get (D := (dC, dI)) (ci := 3) (v := .long (lN L)) (C := "RangeCoders$Bits") (T := T_Bits) (N := 15) hx hb hg in_Bits hown hK hP 0 rfl rfl 6 (by decide) (hg _ k72) (fun x9 h9 => u_same (hg _ k73) x9 h9) rfl d_Carries_shiftLow_24 ?_
      refine lv_bipush (v := 32) hx hb d_Carries_shiftLow_27 (by decide) ?_
      refine lv_lushr hx hb d_Carries_shiftLow_29 rfl ?_
      refine lv_topl (fun v_13 ev_13 => ?_)
      refine lv_l2i hx hb d_Carries_shiftLow_30 rfl ?_
      refine lv_topi (fun v_14 ev_14 => ?_)
      have z9 : v_14 = nI (L / 4294967296) := by subst_vars; rw [U_shr32 (by omega)]; exact lN_i _
      subst z9
      refine my_cvg (wr := []) (va_runU (As := [Value.int (nI (L / 4294967296))]) (rest := []) ⟨hx, hb, hml, hown, hts⟩ (f_Bits_writeWaiting l dC dI cI cM cO H.size (hSl H) co xshift xkeptCode xkeptRange xkeptAsked (lN L) xrange xcode xreadLow xreadRange ri ro rw xasked ca Pn (L / 4294967296) rwa rwk rwf bs (by first | assumption | omega) (by omega) (by first | assumption | omega) (by first | assumption | omega) (by first | assumption | omega)) (va_cwU 1 hts (my_gU k468 k1282 kx1 k470 k5 k471) rfl rfl rfl rfl (by decide +kernel) ⟨by rw [hR]; exact Nat.le_of_ble_eq_true rfl, by rw [hR]; exact Nat.le_of_ble_eq_true rfl⟩) (my_preVg hK hN (hP.sub [0, 1, 2] rfl) (hD.sub [0, 1, 2] (by decide +kernel) rfl) 0 rfl rfl) rfl rfl hl.1 rfl (lv_room (Nat.le_of_ble_eq_true rfl)) d_Carries_shiftLow_31 ⟨by rw [hR]; exact (show 0 + (rPh rwk) ≤ (rPh rwk) by omega), by rw [hR]; exact (show 0 + (rPh rwk) ≤ (rPh rwk) by omega)⟩) hP hD hS hA [0, 1, 2] [] rfl rfl (by decide +kernel) (by decide +kernel) (fun u9 d_31 H locs hd_31 hw_31 hP hD hS => ?_)
      obtain ⟨rwaq_31, rwkq_31, rwfq_31⟩ := u9
      obtain ⟨hrw_31, hGrw_31⟩ : rOk (nI (bs ++ caB ca (L / 4294967296) ++ List.replicate Pn ((255 + (L / 4294967296)) % 256)).length) rwkq_31 ∧ gIs rwfq_31 (bs ++ caB ca (L / 4294967296) ++ List.replicate Pn ((255 + (L / 4294967296)) % 256)) := hw_31
      have hd_31 : d_31 + (rPh rwkq_31) ≤ (rPh rwk) := hd_31
      have hP : va_P (dC, dI) vwCl [(co, Sum.inr (3, [Value.int xshift, Value.long xkeptCode, Value.long xkeptRange, Value.int xkeptAsked, Value.int (caI ca), Value.int 0, Value.long (lN L), Value.long xrange, Value.long xcode, Value.long xreadLow, Value.long xreadRange, Value.ref ri, Value.ref ro, Value.ref rw, Value.int xasked])), (rw, Sum.inr (0, [Value.int (nI (bs ++ caB ca (L / 4294967296) ++ List.replicate Pn ((255 + (L / 4294967296)) % 256)).length), Value.ref rwaq_31])), (rwaq_31, Sum.inl (cI, rwkq_31, Sum.inl rwfq_31))] H := hP
      have hD : va_D A [(co, Sum.inr (3, [Value.int xshift, Value.long xkeptCode, Value.long xkeptRange, Value.int xkeptAsked, Value.int (caI ca), Value.int 0, Value.long (lN L), Value.long xrange, Value.long xcode, Value.long xreadLow, Value.long xreadRange, Value.ref ri, Value.ref ro, Value.ref rw, Value.int xasked])), (rw, Sum.inr (0, [Value.int (nI (bs ++ caB ca (L / 4294967296) ++ List.replicate Pn ((255 + (L / 4294967296)) % 256)).length), Value.ref rwaq_31])), (rwaq_31, Sum.inl (cI, rwkq_31, Sum.inl rwfq_31))] := hD
      refine lv_aload_n hx hb d_Carries_shiftLow_34 rfl (lv_at hl 0 rfl) ?_
      refine lv_aload_n hx hb d_Carries_shiftLow_35 rfl (lv_at hl 0 rfl) ?_
      refine va_get (D := (dC, dI)) (ci := 3) (v := .long (lN L)) (C := "RangeCoders$Bits") (T := T_Bits) (N := 15) hx hb hg in_Bits hown hK hP 0 rfl rfl 6 (by decide) (hg _ k72) (fun x9 h9 => u_same (hg _ k73) x9 h9) rfl d_Carries_shiftLow_36 ?_
      refine lv_bipush (v := 24) hx hb d_Carries_shiftLow_39 (by decide) ?_
      refine lv_lushr hx hb d_Carries_shiftLow_41 rfl ?_
      refine lv_topl (fun v_15 ev_15 => ?_)
      refine lv_l2i hx hb d_Carries_shiftLow_42 rfl ?_
      refine lv_topi (fun v_16 ev_16 => ?_)
      refine lv_sipush (v := 255) hx hb d_Carries_shiftLow_43 (by decide) ?_
      refine lv_iand hx hb d_Carries_shiftLow_46 ?_
      refine lv_topi (fun v_17 ev_17 => ?_)
      have z9 : v_17 = caI (shC L ca) := by subst_vars; rw [U_shr24 (by omega), lN_i]; unfold shC; rw [if_pos hO]; exact pk_andN (by omega) 8 (by decide +kernel)
      subst z9
      refine va_put (D := (dC, dI)) (ci := 3) (v := .int (caI (shC L ca))) (ty := .int) (C := "RangeCoders$Bits") (T := T_Bits) (N := 15) hx hb hg in_Bits t_Bits o_Bits n_Bits hown hK hP hD hS 0 rfl rfl 4 (by decide) (hg _ k68) (fun _ h9 => h9) rfl (by decide +kernel) rfl rfl (Nat.le_of_ble_eq_true rfl) d_Carries_shiftLow_47 (fun H locs hP hD hS => ?_)
      have hP : va_P (dC, dI) vwCl [(co, Sum.inr (3, [Value.int xshift, Value.long xkeptCode, Value.long xkeptRange, Value.int xkeptAsked, Value.int (caI (shC L ca)), Value.int 0, Value.long (lN L), Value.long xrange, Value.long xcode, Value.long xreadLow, Value.long xreadRange, Value.ref ri, Value.ref ro, Value.ref rw, Value.int xasked])), (rw, Sum.inr (0, [Value.int (nI (bs ++ caB ca (L / 4294967296) ++ List.replicate Pn ((255 + (L / 4294967296)) % 256)).length), Value.ref rwaq_31])), (rwaq_31, Sum.inl (cI, rwkq_31, Sum.inl rwfq_31))] H := hP
      have hD : va_D A [(co, Sum.inr (3, [Value.int xshift, Value.long xkeptCode, Value.long xkeptRange, Value.int xkeptAsked, Value.int (caI (shC L ca)), Value.int 0, Value.long (lN L), Value.long xrange, Value.long xcode, Value.long xreadLow, Value.long xreadRange, Value.ref ri, Value.ref ro, Value.ref rw, Value.int xasked])), (rw, Sum.inr (0, [Value.int (nI (bs ++ caB ca (L / 4294967296) ++ List.replicate Pn ((255 + (L / 4294967296)) % 256)).length), Value.ref rwaq_31])), (rwaq_31, Sum.inl (cI, rwkq_31, Sum.inl rwfq_31))] := hD
      refine lv_goto (tgt := 63) hx hb d_Carries_shiftLow_50 (by decide) ?_
      have hsu : (nI (bs ++ caB ca (L / 4294967296) ++ List.replicate Pn ((255 + (L / 4294967296)) % 256)).length : Int32) = nI (shB L ca Pn bs).length := by unfold shB; rw [if_pos hO]
      rw [hsu] at hP hD
      have hP : va_P (dC, dI) vwCl [(co, Sum.inr (3, [Value.int xshift, Value.long xkeptCode, Value.long xkeptRange, Value.int xkeptAsked, Value.int (caI (shC L ca)), Value.int 0, Value.long (lN L), Value.long xrange, Value.long xcode, Value.long xreadLow, Value.long xreadRange, Value.ref ri, Value.ref ro, Value.ref rw, Value.int xasked])), (rw, Sum.inr (0, [Value.int (nI (shB L ca Pn bs).length), Value.ref rwaq_31])), (rwaq_31, Sum.inl (cI, rwkq_31, Sum.inl rwfq_31))] H := hP
      have hD : va_D A [(co, Sum.inr (3, [Value.int xshift, Value.long xkeptCode, Value.long xkeptRange, Value.int xkeptAsked, Value.int (caI (shC L ca)), Value.int 0, Value.long (lN L), Value.long xrange, Value.long xcode, Value.long xreadLow, Value.long xreadRange, Value.ref ri, Value.ref ro, Value.ref rw, Value.int xasked])), (rw, Sum.inr (0, [Value.int (nI (shB L ca Pn bs).length), Value.ref rwaq_31])), (rwaq_31, Sum.inl (cI, rwkq_31, Sum.inl rwfq_31))] := hD
      have hsu : (0 : Int32) = nI (shP L Pn) := by unfold shP; rw [if_pos hO]; rfl
      rw [hsu] at hP hD
      have hP : va_P (dC, dI) vwCl [(co, Sum.inr (3, [Value.int xshift, Value.long xkeptCode, Value.long xkeptRange, Value.int xkeptAsked, Value.int (caI (shC L ca)), Value.int (nI (shP L Pn)), Value.long (lN L), Value.long xrange, Value.long xcode, Value.long xreadLow, Value.long xreadRange, Value.ref ri, Value.ref ro, Value.ref rw, Value.int xasked])), (rw, Sum.inr (0, [Value.int (nI (shB L ca Pn bs).length), Value.ref rwaq_31])), (rwaq_31, Sum.inl (cI, rwkq_31, Sum.inl rwfq_31))] H := hP
      have hD : va_D A [(co, Sum.inr (3, [Value.int xshift, Value.long xkeptCode, Value.long xkeptRange, Value.int xkeptAsked, Value.int (caI (shC L ca)), Value.int (nI (shP L Pn)), Value.long (lN L), Value.long xrange, Value.long xcode, Value.long xreadLow, Value.long xreadRange, Value.ref ri, Value.ref ro, Value.ref rw, Value.int xasked])), (rw, Sum.inr (0, [Value.int (nI (shB L ca Pn bs).length), Value.ref rwaq_31])), (rwaq_31, Sum.inl (cI, rwkq_31, Sum.inl rwfq_31))] := hD
      refine lv_aload_n hx hb d_Carries_shiftLow_63 rfl (lv_at hl 0 rfl) ?_
      refine lv_aload_n hx hb d_Carries_shiftLow_64 rfl (lv_at hl 0 rfl) ?_
      refine va_get (D := (dC, dI)) (ci := 3) (v := .long (lN L)) (C := "RangeCoders$Bits") (T := T_Bits) (N := 15) hx hb hg in_Bits hown hK hP 0 rfl rfl 6 (by decide) (hg _ k72) (fun x9 h9 => u_same (hg _ k73) x9 h9) rfl d_Carries_shiftLow_65 ?_
      refine lv_bipush (v := 8) hx hb d_Carries_shiftLow_68 (by decide) ?_
      refine lv_lshl hx hb d_Carries_shiftLow_70 rfl ?_
      refine lv_topl (fun v_18 ev_18 => ?_)
      refine lv_ldc2 (v := 4294967295) hx hb hown (hg _ k462) d_Carries_shiftLow_71 ?_
      refine lv_land hx hb d_Carries_shiftLow_74 ?_
      refine lv_topl (fun v_19 ev_19 => ?_)
      have z9 : v_19 = lN (shL L) := by subst_vars; rw [L_shl8, L_and32 (by omega)]; unfold shL; congr 1; omega
      subst z9
      refine va_put (D := (dC, dI)) (ci := 3) (v := .long (lN (shL L))) (ty := .long) (C := "RangeCoders$Bits") (T := T_Bits) (N := 15) hx hb hg in_Bits t_Bits o_Bits n_Bits hown hK hP hD hS 0 rfl rfl 6 (by decide) (hg _ k72) (fun x9 h9 => u_same (hg _ k73) x9 h9) rfl (by decide +kernel) rfl rfl (Nat.le_of_ble_eq_true rfl) d_Carries_shiftLow_75 (fun H locs hP hD hS => ?_)
      have hP : va_P (dC, dI) vwCl [(co, Sum.inr (3, [Value.int xshift, Value.long xkeptCode, Value.long xkeptRange, Value.int xkeptAsked, Value.int (caI (shC L ca)), Value.int (nI (shP L Pn)), Value.long (lN (shL L)), Value.long xrange, Value.long xcode, Value.long xreadLow, Value.long xreadRange, Value.ref ri, Value.ref ro, Value.ref rw, Value.int xasked])), (rw, Sum.inr (0, [Value.int (nI (shB L ca Pn bs).length), Value.ref rwaq_31])), (rwaq_31, Sum.inl (cI, rwkq_31, Sum.inl rwfq_31))] H := hP
      have hD : va_D A [(co, Sum.inr (3, [Value.int xshift, Value.long xkeptCode, Value.long xkeptRange, Value.int xkeptAsked, Value.int (caI (shC L ca)), Value.int (nI (shP L Pn)), Value.long (lN (shL L)), Value.long xrange, Value.long xcode, Value.long xreadLow, Value.long xreadRange, Value.ref ri, Value.ref ro, Value.ref rw, Value.int xasked])), (rw, Sum.inr (0, [Value.int (nI (shB L ca Pn bs).length), Value.ref rwaq_31])), (rwaq_31, Sum.inl (cI, rwkq_31, Sum.inl rwfq_31))] := hD
      exact my_vretg hx hb hr hlocks hQ hK hS (rwaq_31, rwkq_31, rwfq_31) (show (0 + d_31) + (rPh rwkq_31) ≤ (rPh rwk) by omega) (show (0 + d_31) + (rPh rwkq_31) ≤ (rPh rwk) by omega) (⟨by unfold shB; rw [if_pos hO]; exact hrw_31, by unfold shB; rw [if_pos hO]; exact hGrw_31⟩) (hP.sub [0, 1, 2] rfl) (hD.sub [0, 1, 2] (by decide +kernel) rfl) d_Carries_shiftLow_78
set_option maxHeartbeats 2000000 in
set_option maxRecDepth 100000 in
theorem f_Bits_widen (l : Launch) (dC : Nat → ClassId) (dI : Nat → Nat → Nat) (cI cM cO : ClassId) (sz : Nat) (sl : Nat) (co : Nat) (xshift : Int32) (xkeptCode : Int64) (xkeptRange : Int64) (xkeptAsked : Int32) (xcode : Int64) (xreadLow : Int64) (xreadRange : Int64) (ri : Nat) (ro : Nat) (rw : Nat) (xasked : Int32) (Rg : Nat) (L : Nat) (ca : Option Nat) (Pn : Nat) (rwa : Nat) (rwk : Nat) (rwf : Nat → Int32) (bs : List Nat) (hR0 : 0 < Rg) (hR1 : Rg < 4294967296) (hL : L < 8589934592) (hc : ∀ x, ca = some x → x < 256) (hrw : rOk (nI bs.length) rwk) (hGrw : gIs rwf bs) (hN9 : bs.length + Pn + 4 ≤ 7900) : MetVg l y_Carries_widen (Cond.code y_Carries_widen prog_3_method_6_code 2 none :: gw) ({ frames := 5, cells := rPh rwk, slots := rPh rwk, locals := 125 } : Room) (dC, dI) vwCl (kT cI cM cO) [Value.ref co] [(co, Sum.inr (3, [Value.int xshift, Value.long xkeptCode, Value.long xkeptRange, Value.int xkeptAsked, Value.int (caI ca), Value.int (nI Pn), Value.long (lN L), Value.long (lN Rg), Value.long xcode, Value.long xreadLow, Value.long xreadRange, Value.ref ri, Value.ref ro, Value.ref rw, Value.int xasked])), (rw, Sum.inr (0, [Value.int (nI bs.length), Value.ref rwa])), (rwa, Sum.inl (cI, rwk, Sum.inl rwf))] sz sl (fun (u : Nat × Nat × (Nat → Int32)) => rOk (nI (eB (wdS (Rg, L, ca, Pn, bs))).length) u.2.1 ∧ gIs u.2.2 (eB (wdS (Rg, L, ca, Pn, bs)))) (fun (u : Nat × Nat × (Nat → Int32)) => [(co, Sum.inr (3, [Value.int xshift, Value.long xkeptCode, Value.long xkeptRange, Value.int xkeptAsked, Value.int (caI (eC (wdS (Rg, L, ca, Pn, bs)))), Value.int (nI (eP (wdS (Rg, L, ca, Pn, bs)))), Value.long (lN (eL (wdS (Rg, L, ca, Pn, bs)))), Value.long (lN (eR (wdS (Rg, L, ca, Pn, bs)))), Value.long xcode, Value.long xreadLow, Value.long xreadRange, Value.ref ri, Value.ref ro, Value.ref rw, Value.int xasked])), (rw, Sum.inr (0, [Value.int (nI (eB (wdS (Rg, L, ca, Pn, bs))).length), Value.ref u.1])), (u.1, Sum.inl (cI, u.2.1, Sum.inl u.2.2))]) (rPh rwk) (fun (u : Nat × Nat × (Nat → Int32)) => rPh u.2.1) := by
  refine my_ofVg (cc := prog_3_method_6_code) (n := 2) (ret := none) (by decide) rfl (Nat.le_of_ble_eq_true rfl) ?_
  intro p e s m args below meth c R Q A ls H locs hx hb hr hts hown hlocks hml hnm hR hQ hA hl hP hK hN hD hS
  have hg : ∀ w ∈ gw, w.before args s = true := fun w h => hts w (List.mem_cons_of_mem _ h)
  have hown : s.vm.findClass "RangeCoders$Carries" = some m.cls := hown
  have hl : lv_has ls 2 [(0, Value.ref co)] := hl
  have hltw := rOk_lt hrw
  refine lv_iconst (v := 0) hx hb d_Carries_widen_0 (by decide) ?_
  refine lv_istore_n (lv' := [(1, Value.int 0), (0, Value.ref co)]) hx hb d_Carries_widen_1 rfl hl (by decide) rfl (fun ls hl => ?_)
  have J_2 : ∀ (n9_2 : Nat) (e9 : ES) (k9 : Nat) (rwa9 : Nat) (rwk9 : Nat) (rwf9 : Nat → Int32) (d9 : Nat) (hn9_2 : k9 = n9_2) (hE9 : wdS (Rg, L, ca, Pn, bs) = wdN k9 e9) (hk5 : 5 ≤ k9) (hk8 : k9 ≤ 8) (hR9 : wb8 k9 ≤ eR e9) (hR32 : eR e9 < 4294967296) (hO9 : eOk e9) (hM9 : (eB e9).length + eP e9 + k9 ≤ 7904) (hr9 : rOk (nI (eB e9).length) rwk9) (hg9 : gIs rwf9 (eB e9)) (hd9 : d9 + rPh rwk9 ≤ rPh rwk) (H : Heap) (locs : List Loc) (ls : Array Slot), va_P (dC, dI) vwCl [(co, Sum.inr (3, [Value.int xshift, Value.long xkeptCode, Value.long xkeptRange, Value.int xkeptAsked, Value.int (caI (eC e9)), Value.int (nI (eP e9)), Value.long (lN (eL e9)), Value.long (lN (eR e9)), Value.long xcode, Value.long xreadLow, Value.long xreadRange, Value.ref ri, Value.ref ro, Value.ref rw, Value.int xasked])), (rw, Sum.inr (0, [Value.int (nI (eB e9).length), Value.ref rwa9])), (rwa9, Sum.inl (cI, rwk9, Sum.inl rwf9))] H → va_D A [(co, Sum.inr (3, [Value.int xshift, Value.long xkeptCode, Value.long xkeptRange, Value.int xkeptAsked, Value.int (caI (eC e9)), Value.int (nI (eP e9)), Value.long (lN (eL e9)), Value.long (lN (eR e9)), Value.long xcode, Value.long xreadLow, Value.long xreadRange, Value.ref ri, Value.ref ro, Value.ref rw, Value.int xasked])), (rw, Sum.inr (0, [Value.int (nI (eB e9).length), Value.ref rwa9])), (rwa9, Sum.inl (cI, rwk9, Sum.inl rwf9))] → va_S A s.heap H locs → lv_has ls 2 [(1, Value.int (nI (8 - k9))), (0, Value.ref co)] → W p l e R s m args below meth c H locs d9 d9 Q (F0 m 2 ls []) := by
    intro n9_2
    induction n9_2 using Nat.strongRecOn with
    | ind n9_2 ih9_2 =>
      intro e9 k9 rwa9 rwk9 rwf9 d9 hn9_2 hE9 hk5 hk8 hR9 hR32 hO9 hM9 hr9 hg9 hd9 H locs ls hP hD hS hl
      refine lv_iload_n hx hb d_Carries_widen_2 rfl (lv_at hl 0 rfl) ?_
      refine lv_bipush (v := 8) hx hb d_Carries_widen_3 (by decide) ?_
      refine lv_icmp_ge (tgt := 44) hx hb d_Carries_widen_5 (by decide) (fun c_1 => ?_) (fun c_1 => ?_)
      · exact absurd (nI_ge' (n := 8) (by omega) (by decide) c_1) (by omega)
      · refine lv_aload_n hx hb d_Carries_widen_8 rfl (lv_at hl 1 rfl) ?_
        refine va_get (D := (dC, dI)) (ci := 3) (v := .long (lN (eR e9))) (C := "RangeCoders$Bits") (T := T_Bits) (N := 15) hx hb hg in_Bits hown hK hP 0 rfl rfl 7 (by decide) (hg _ k80) (fun x9 h9 => u_same (hg _ k81) x9 h9) rfl d_Carries_widen_9 ?_
        refine lv_ldc2 (v := 16777216) hx hb hown (hg _ k461) d_Carries_widen_12 ?_
        refine W.lcmp hx hb d_Carries_widen_15 ?_
        refine lv_if_ge (tgt := 44) hx hb d_Carries_widen_16 (by decide) (fun c_2 => ?_) (fun c_2 => ?_)
        · rw [lg_cmp_ge] at c_2
          have hge : ¬ eR e9 < 16777216 := by have q := (L_le (a := 16777216) (by decide) (by omega)).mp c_2; omega
          have z9 : e9 = wdS (Rg, L, ca, Pn, bs) := by rw [hE9, wdN_e hge]
          subst z9
          exact my_vretg hx hb hr hlocks hQ hK hS (rwa9, rwk9, rwf9) (show d9 + (rPh rwk9) ≤ (rPh rwk) by omega) (show d9 + (rPh rwk9) ≤ (rPh rwk) by omega) (⟨hr9, hg9⟩) (hP.sub [0, 1, 2] rfl) (hD.sub [0, 1, 2] (by decide +kernel) rfl) d_Carries_widen_44
        · rw [lg_cmp_ge] at c_2
          have hlt : eR e9 < 16777216 := by
            rcases Nat.lt_or_ge (eR e9) 16777216 with q | q
            · exact q
            · exact absurd ((L_le (a := 16777216) (by decide) (by omega)).mpr q) c_2
          have hk6 := wb8_k hk5 hR9 hlt
          refine lv_aload_n hx hb d_Carries_widen_19 rfl (lv_at hl 1 rfl) ?_
          refine lv_aload_n hx hb d_Carries_widen_20 rfl (lv_at hl 1 rfl) ?_
          refine va_get (D := (dC, dI)) (ci := 3) (v := .long (lN (eR e9))) (C := "RangeCoders$Bits") (T := T_Bits) (N := 15) hx hb hg in_Bits hown hK hP 0 rfl rfl 7 (by decide) (hg _ k80) (fun x9 h9 => u_same (hg _ k81) x9 h9) rfl d_Carries_widen_21 ?_
          refine lv_bipush (v := 8) hx hb d_Carries_widen_24 (by decide) ?_
          refine lv_lshl hx hb d_Carries_widen_26 rfl ?_
          refine lv_topl (fun v_3 ev_3 => ?_)
          refine lv_ldc2 (v := 4294967295) hx hb hown (hg _ k462) d_Carries_widen_27 ?_
          refine lv_land hx hb d_Carries_widen_30 ?_
          refine lv_topl (fun v_4 ev_4 => ?_)
          have z9 : v_4 = lN (eR e9 * 256) := by subst_vars; rw [L_shl8, L_and32 (by omega), Nat.mod_eq_of_lt (by omega)]
          subst z9
          refine va_put (D := (dC, dI)) (ci := 3) (v := .long (lN (eR e9 * 256))) (ty := .long) (C := "RangeCoders$Bits") (T := T_Bits) (N := 15) hx hb hg in_Bits t_Bits o_Bits n_Bits hown hK hP hD hS 0 rfl rfl 7 (by decide) (hg _ k80) (fun x9 h9 => u_same (hg _ k81) x9 h9) rfl (by decide +kernel) rfl rfl (Nat.le_of_ble_eq_true rfl) d_Carries_widen_31 (fun H locs hP hD hS => ?_)
          have hP : va_P (dC, dI) vwCl [(co, Sum.inr (3, [Value.int xshift, Value.long xkeptCode, Value.long xkeptRange, Value.int xkeptAsked, Value.int (caI (eC e9)), Value.int (nI (eP e9)), Value.long (lN (eL e9)), Value.long (lN (eR e9 * 256)), Value.long xcode, Value.long xreadLow, Value.long xreadRange, Value.ref ri, Value.ref ro, Value.ref rw, Value.int xasked])), (rw, Sum.inr (0, [Value.int (nI (eB e9).length), Value.ref rwa9])), (rwa9, Sum.inl (cI, rwk9, Sum.inl rwf9))] H := hP
          have hD : va_D A [(co, Sum.inr (3, [Value.int xshift, Value.long xkeptCode, Value.long xkeptRange, Value.int xkeptAsked, Value.int (caI (eC e9)), Value.int (nI (eP e9)), Value.long (lN (eL e9)), Value.long (lN (eR e9 * 256)), Value.long xcode, Value.long xreadLow, Value.long xreadRange, Value.ref ri, Value.ref ro, Value.ref rw, Value.int xasked])), (rw, Sum.inr (0, [Value.int (nI (eB e9).length), Value.ref rwa9])), (rwa9, Sum.inl (cI, rwk9, Sum.inl rwf9))] := hD
          refine lv_aload_n hx hb d_Carries_widen_34 rfl (lv_at hl 1 rfl) ?_
          refine my_cvg (wr := []) (va_runU (As := []) (rest := []) ⟨hx, hb, hml, hown, hts⟩ (f_Bits_shiftLow l dC dI cI cM cO H.size (hSl H) co xshift xkeptCode xkeptRange xkeptAsked (lN (eR e9 * 256)) xcode xreadLow xreadRange ri ro rw xasked (eL e9) (eC e9) (eP e9) rwa9 rwk9 rwf9 (eB e9) (hO9.1) (hO9.2) (hr9) (hg9) (by omega)) (va_cwU 0 hts (my_gU k463 k1281 kx0 k465 k5 k466) rfl rfl rfl rfl (by decide +kernel) ⟨by rw [hR]; exact Nat.le_of_ble_eq_true rfl, by rw [hR]; exact Nat.le_of_ble_eq_true rfl⟩) (my_preVg hK hN (hP.sub [0, 1, 2] rfl) (hD.sub [0, 1, 2] (by decide +kernel) rfl) 0 rfl rfl) rfl rfl hl.1 rfl (lv_room (Nat.le_of_ble_eq_true rfl)) d_Carries_widen_35 ⟨by rw [hR]; exact (show d9 + (rPh rwk9) ≤ (rPh rwk) by omega), by rw [hR]; exact (show d9 + (rPh rwk9) ≤ (rPh rwk) by omega)⟩) hP hD hS hA [0, 1, 2] [] rfl rfl (by decide +kernel) (by decide +kernel) (fun u9 d_35 H locs hd_35 hw_35 hP hD hS => ?_)
          obtain ⟨rwaq_35, rwkq_35, rwfq_35⟩ := u9
          obtain ⟨hrw_35, hGrw_35⟩ : rOk (nI (shB (eL e9) (eC e9) (eP e9) (eB e9)).length) rwkq_35 ∧ gIs rwfq_35 (shB (eL e9) (eC e9) (eP e9) (eB e9)) := hw_35
          have hd_35 : d_35 + (rPh rwkq_35) ≤ (rPh rwk9) := hd_35
          have hP : va_P (dC, dI) vwCl [(co, Sum.inr (3, [Value.int xshift, Value.long xkeptCode, Value.long xkeptRange, Value.int xkeptAsked, Value.int (caI (shC (eL e9) (eC e9))), Value.int (nI (shP (eL e9) (eP e9))), Value.long (lN (shL (eL e9))), Value.long (lN (eR e9 * 256)), Value.long xcode, Value.long xreadLow, Value.long xreadRange, Value.ref ri, Value.ref ro, Value.ref rw, Value.int xasked])), (rw, Sum.inr (0, [Value.int (nI (shB (eL e9) (eC e9) (eP e9) (eB e9)).length), Value.ref rwaq_35])), (rwaq_35, Sum.inl (cI, rwkq_35, Sum.inl rwfq_35))] H := hP
          have hD : va_D A [(co, Sum.inr (3, [Value.int xshift, Value.long xkeptCode, Value.long xkeptRange, Value.int xkeptAsked, Value.int (caI (shC (eL e9) (eC e9))), Value.int (nI (shP (eL e9) (eP e9))), Value.long (lN (shL (eL e9))), Value.long (lN (eR e9 * 256)), Value.long xcode, Value.long xreadLow, Value.long xreadRange, Value.ref ri, Value.ref ro, Value.ref rw, Value.int xasked])), (rw, Sum.inr (0, [Value.int (nI (shB (eL e9) (eC e9) (eP e9) (eB e9)).length), Value.ref rwaq_35])), (rwaq_35, Sum.inl (cI, rwkq_35, Sum.inl rwfq_35))] := hD
          obtain ⟨v_5, ev_5⟩ : ∃ y : Int32, y = (nI (8 - k9)) + (1) := ⟨_, rfl⟩
          refine lv_iinc (v := v_5) (lv' := [(1, Value.int v_5), (0, Value.ref co)]) hx hb d_Carries_widen_38 hl (k := 0) rfl (by rw [ev_5]; rfl) (by decide) rfl (fun ls hl => ?_)
          have z9 : v_5 = nI (8 - (k9 - 1)) := by rw [ev_5, show 8 - (k9 - 1) = 8 - k9 + 1 by omega]; exact nI_1 _
          subst z9
          refine lv_goto (tgt := 2) hx hb d_Carries_widen_41 (by decide) ?_
          exact ih9_2 _ (by first | omega | (omega)) (shS (eR e9 * 256, e9.2)) (k9 - 1) rwaq_35 rwkq_35 rwfq_35 (d9 + d_35) rfl (by rw [hE9, wdN_s (by omega) hlt]) (by omega) (by omega) (wb8_s hk6 hk8 hR9) (by show eR e9 * 256 < _; omega) (eOk_sh (e := (eR e9 * 256, e9.2)) hO9) (by have q := eN_sh (eR e9 * 256, e9.2); simp only [eN, eB, eP] at q hM9 ⊢; omega) (hrw_35) (hGrw_35) (by omega) H locs ls (hP.sub [0, 1, 2] rfl) (hD.sub [0, 1, 2] (by decide +kernel) rfl) hS (lv_sub hl [0, 1] rfl)
  exact J_2 _ (Rg, L, ca, Pn, bs) (8 : Nat) rwa rwk rwf (0 : Nat) rfl (rfl) (by decide) (by decide) (hR0) (hR1) (⟨hL, hc⟩) (by show bs.length + Pn + 8 ≤ _; omega) (hrw) (hGrw) (by omega) H locs ls (hP.sub [0, 1, 2] rfl) (hD.sub [0, 1, 2] (by decide +kernel) rfl) hS (lv_sub hl [0, 1] rfl)
set_option maxHeartbeats 2000000 in
set_option maxRecDepth 100000 in
theorem f_Bits_flush (l : Launch) (dC : Nat → ClassId) (dI : Nat → Nat → Nat) (cI cM cO : ClassId) (sz : Nat) (sl : Nat) (co : Nat) (xshift : Int32) (xkeptCode : Int64) (xkeptRange : Int64) (xkeptAsked : Int32) (xcode : Int64) (xreadLow : Int64) (xreadRange : Int64) (ri : Nat) (ro : Nat) (rw : Nat) (xasked : Int32) (Rg : Nat) (L : Nat) (ca : Option Nat) (Pn : Nat) (rwa : Nat) (rwk : Nat) (rwf : Nat → Int32) (bs : List Nat) (hE : eOk (Rg, L, ca, Pn, bs)) (hrw : rOk (nI bs.length) rwk) (hGrw : gIs rwf bs) (hN9 : bs.length + Pn + 20 ≤ 7900) : MetVg l y_Carries_flush (Cond.code y_Carries_flush prog_3_method_5_code 2 none :: gw) ({ frames := 5, cells := rPh rwk, slots := rPh rwk, locals := 125 } : Room) (dC, dI) vwCl (kT cI cM cO) [Value.ref co] [(co, Sum.inr (3, [Value.int xshift, Value.long xkeptCode, Value.long xkeptRange, Value.int xkeptAsked, Value.int (caI ca), Value.int (nI Pn), Value.long (lN L), Value.long (lN Rg), Value.long xcode, Value.long xreadLow, Value.long xreadRange, Value.ref ri, Value.ref ro, Value.ref rw, Value.int xasked])), (rw, Sum.inr (0, [Value.int (nI bs.length), Value.ref rwa])), (rwa, Sum.inl (cI, rwk, Sum.inl rwf))] sz sl (fun (u : Nat × Nat × (Nat → Int32)) => rOk (nI (eB (shK 5 (Rg, L, ca, Pn, bs))).length) u.2.1 ∧ gIs u.2.2 (eB (shK 5 (Rg, L, ca, Pn, bs)))) (fun (u : Nat × Nat × (Nat → Int32)) => [(co, Sum.inr (3, [Value.int xshift, Value.long xkeptCode, Value.long xkeptRange, Value.int xkeptAsked, Value.int (caI (eC (shK 5 (Rg, L, ca, Pn, bs)))), Value.int (nI (eP (shK 5 (Rg, L, ca, Pn, bs)))), Value.long (lN (eL (shK 5 (Rg, L, ca, Pn, bs)))), Value.long (lN (eR (shK 5 (Rg, L, ca, Pn, bs)))), Value.long xcode, Value.long xreadLow, Value.long xreadRange, Value.ref ri, Value.ref ro, Value.ref rw, Value.int xasked])), (rw, Sum.inr (0, [Value.int (nI (eB (shK 5 (Rg, L, ca, Pn, bs))).length), Value.ref u.1])), (u.1, Sum.inl (cI, u.2.1, Sum.inl u.2.2))]) (rPh rwk) (fun (u : Nat × Nat × (Nat → Int32)) => rPh u.2.1) := by
  refine my_ofVg (cc := prog_3_method_5_code) (n := 2) (ret := none) (by decide) rfl (Nat.le_of_ble_eq_true rfl) ?_
  intro p e s m args below meth c R Q A ls H locs hx hb hr hts hown hlocks hml hnm hR hQ hA hl hP hK hN hD hS
  have hg : ∀ w ∈ gw, w.before args s = true := fun w h => hts w (List.mem_cons_of_mem _ h)
  have hown : s.vm.findClass "RangeCoders$Carries" = some m.cls := hown
  have hl : lv_has ls 2 [(0, Value.ref co)] := hl
  have hltw := rOk_lt hrw
  refine lv_iconst (v := 0) hx hb d_Carries_flush_0 (by decide) ?_
  refine lv_istore_n (lv' := [(1, Value.int 0), (0, Value.ref co)]) hx hb d_Carries_flush_1 rfl hl (by decide) rfl (fun ls hl => ?_)
  have J_2 : ∀ (n9_2 : Nat) (j : Nat) (e9 : ES) (rwa9 : Nat) (rwk9 : Nat) (rwf9 : Nat → Int32) (d9 : Nat) (hn9_2 : 5 - j = n9_2) (hj : j ≤ 5) (hE9 : shK 5 (Rg, L, ca, Pn, bs) = shK (5 - j) e9) (hO9 : eOk e9) (hM9 : eN e9 ≤ 7900 + j) (hr9 : rOk (nI (eB e9).length) rwk9) (hg9 : gIs rwf9 (eB e9)) (hd9 : d9 + rPh rwk9 ≤ rPh rwk) (H : Heap) (locs : List Loc) (ls : Array Slot), va_P (dC, dI) vwCl [(co, Sum.inr (3, [Value.int xshift, Value.long xkeptCode, Value.long xkeptRange, Value.int xkeptAsked, Value.int (caI (eC e9)), Value.int (nI (eP e9)), Value.long (lN (eL e9)), Value.long (lN (eR e9)), Value.long xcode, Value.long xreadLow, Value.long xreadRange, Value.ref ri, Value.ref ro, Value.ref rw, Value.int xasked])), (rw, Sum.inr (0, [Value.int (nI (eB e9).length), Value.ref rwa9])), (rwa9, Sum.inl (cI, rwk9, Sum.inl rwf9))] H → va_D A [(co, Sum.inr (3, [Value.int xshift, Value.long xkeptCode, Value.long xkeptRange, Value.int xkeptAsked, Value.int (caI (eC e9)), Value.int (nI (eP e9)), Value.long (lN (eL e9)), Value.long (lN (eR e9)), Value.long xcode, Value.long xreadLow, Value.long xreadRange, Value.ref ri, Value.ref ro, Value.ref rw, Value.int xasked])), (rw, Sum.inr (0, [Value.int (nI (eB e9).length), Value.ref rwa9])), (rwa9, Sum.inl (cI, rwk9, Sum.inl rwf9))] → va_S A s.heap H locs → lv_has ls 2 [(1, Value.int (nI j)), (0, Value.ref co)] → W p l e R s m args below meth c H locs d9 d9 Q (F0 m 2 ls []) := by
    intro n9_2
    induction n9_2 using Nat.strongRecOn with
    | ind n9_2 ih9_2 =>
      intro j e9 rwa9 rwk9 rwf9 d9 hn9_2 hj hE9 hO9 hM9 hr9 hg9 hd9 H locs ls hP hD hS hl
      refine lv_iload_n hx hb d_Carries_flush_2 rfl (lv_at hl 0 rfl) ?_
      refine lv_iconst (v := 5) hx hb d_Carries_flush_3 (by decide) ?_
      refine lv_icmp_ge (tgt := 17) hx hb d_Carries_flush_4 (by decide) (fun c_1 => ?_) (fun c_1 => ?_)
      · have hj3 : j = 5 := by have := nI_ge' (n := 5) (by omega) (by decide) c_1; omega
        have z9 : e9 = shK 5 (Rg, L, ca, Pn, bs) := by rw [hE9, hj3]; rfl
        subst z9
        exact my_vretg hx hb hr hlocks hQ hK hS (rwa9, rwk9, rwf9) (show d9 + (rPh rwk9) ≤ (rPh rwk) by omega) (show d9 + (rPh rwk9) ≤ (rPh rwk) by omega) (⟨hr9, hg9⟩) (hP.sub [0, 1, 2] rfl) (hD.sub [0, 1, 2] (by decide +kernel) rfl) d_Carries_flush_17
      · have hj2 : j < 5 := nI_lt' (by omega) c_1
        refine lv_aload_n hx hb d_Carries_flush_7 rfl (lv_at hl 1 rfl) ?_
        refine my_cvg (wr := []) (va_runU (As := []) (rest := []) ⟨hx, hb, hml, hown, hts⟩ (f_Bits_shiftLow l dC dI cI cM cO H.size (hSl H) co xshift xkeptCode xkeptRange xkeptAsked (lN (eR e9)) xcode xreadLow xreadRange ri ro rw xasked (eL e9) (eC e9) (eP e9) rwa9 rwk9 rwf9 (eB e9) (hO9.1) (hO9.2) (hr9) (hg9) (by have z : eN e9 = (eB e9).length + eP e9 + 1 := rfl; omega)) (va_cwU 0 hts (my_gU k463 k1281 kx0 k465 k5 k466) rfl rfl rfl rfl (by decide +kernel) ⟨by rw [hR]; exact Nat.le_of_ble_eq_true rfl, by rw [hR]; exact Nat.le_of_ble_eq_true rfl⟩) (my_preVg hK hN (hP.sub [0, 1, 2] rfl) (hD.sub [0, 1, 2] (by decide +kernel) rfl) 0 rfl rfl) rfl rfl hl.1 rfl (lv_room (Nat.le_of_ble_eq_true rfl)) d_Carries_flush_8 ⟨by rw [hR]; exact (show d9 + (rPh rwk9) ≤ (rPh rwk) by omega), by rw [hR]; exact (show d9 + (rPh rwk9) ≤ (rPh rwk) by omega)⟩) hP hD hS hA [0, 1, 2] [] rfl rfl (by decide +kernel) (by decide +kernel) (fun u9 d_8 H locs hd_8 hw_8 hP hD hS => ?_)
        obtain ⟨rwaq_8, rwkq_8, rwfq_8⟩ := u9
        obtain ⟨hrw_8, hGrw_8⟩ : rOk (nI (shB (eL e9) (eC e9) (eP e9) (eB e9)).length) rwkq_8 ∧ gIs rwfq_8 (shB (eL e9) (eC e9) (eP e9) (eB e9)) := hw_8
        have hd_8 : d_8 + (rPh rwkq_8) ≤ (rPh rwk9) := hd_8
        have hP : va_P (dC, dI) vwCl [(co, Sum.inr (3, [Value.int xshift, Value.long xkeptCode, Value.long xkeptRange, Value.int xkeptAsked, Value.int (caI (shC (eL e9) (eC e9))), Value.int (nI (shP (eL e9) (eP e9))), Value.long (lN (shL (eL e9))), Value.long (lN (eR e9)), Value.long xcode, Value.long xreadLow, Value.long xreadRange, Value.ref ri, Value.ref ro, Value.ref rw, Value.int xasked])), (rw, Sum.inr (0, [Value.int (nI (shB (eL e9) (eC e9) (eP e9) (eB e9)).length), Value.ref rwaq_8])), (rwaq_8, Sum.inl (cI, rwkq_8, Sum.inl rwfq_8))] H := hP
        have hD : va_D A [(co, Sum.inr (3, [Value.int xshift, Value.long xkeptCode, Value.long xkeptRange, Value.int xkeptAsked, Value.int (caI (shC (eL e9) (eC e9))), Value.int (nI (shP (eL e9) (eP e9))), Value.long (lN (shL (eL e9))), Value.long (lN (eR e9)), Value.long xcode, Value.long xreadLow, Value.long xreadRange, Value.ref ri, Value.ref ro, Value.ref rw, Value.int xasked])), (rw, Sum.inr (0, [Value.int (nI (shB (eL e9) (eC e9) (eP e9) (eB e9)).length), Value.ref rwaq_8])), (rwaq_8, Sum.inl (cI, rwkq_8, Sum.inl rwfq_8))] := hD
        obtain ⟨v_2, ev_2⟩ : ∃ y : Int32, y = (nI j) + (1) := ⟨_, rfl⟩
        refine lv_iinc (v := v_2) (lv' := [(1, Value.int v_2), (0, Value.ref co)]) hx hb d_Carries_flush_11 hl (k := 0) rfl (by rw [ev_2]; rfl) (by decide) rfl (fun ls hl => ?_)
        have z9 : v_2 = nI (j + 1) := by rw [ev_2]; exact nI_1 _
        subst z9
        refine lv_goto (tgt := 2) hx hb d_Carries_flush_14 (by decide) ?_
        exact ih9_2 _ (by first | omega | (omega)) (j + 1) (shS e9) rwaq_8 rwkq_8 rwfq_8 (d9 + d_8) rfl (by omega) (by rw [hE9, show 5 - j = (5 - (j + 1)) + 1 by omega]; rfl) (eOk_sh hO9) (by have q := eN_sh e9; omega) (hrw_8) (hGrw_8) (by omega) H locs ls (hP.sub [0, 1, 2] rfl) (hD.sub [0, 1, 2] (by decide +kernel) rfl) hS (lv_sub hl [0, 1] rfl)
  exact J_2 _ (0 : Nat) (Rg, L, ca, Pn, bs) rwa rwk rwf (0 : Nat) rfl (by decide) (rfl) (hE) (by show bs.length + Pn + 1 ≤ _; omega) (hrw) (hGrw) (by omega) H locs ls (hP.sub [0, 1, 2] rfl) (hD.sub [0, 1, 2] (by decide +kernel) rfl) hS (lv_sub hl [0, 1] rfl)

