set_option maxHeartbeats 2000000 in
set_option maxRecDepth 100000 in
theorem f_NoCarries_sameTop (l : Launch) (dC : Nat → ClassId) (dI : Nat → Nat → Nat) (cI cM cO : ClassId) (sz : Nat) (L : Nat) (Rg : Nat) (hL : L < 4294967296) (hRg : Rg ≤ 4294967296) : MetI l y_NoCarries_sameTop (Cond.code y_NoCarries_sameTop prog_6_method_6_code 4 (some .boolean) :: gw) ({ frames := 0, cells := 0, slots := 0, locals := 0 } : Room) (dC, dI) vwCl (kT cI cM cO) [Value.long (lN L), Value.long (lN Rg)] [] sz (fun (r : Int32) (u : Unit) => r = if smT L Rg then 1 else 0) (fun (u : Unit) => []) 0 0 := by
  refine my_ofI (cc := prog_6_method_6_code) (n := 4) (ret := (some .boolean)) (by decide) rfl (Nat.le_of_ble_eq_true rfl) ?_
  intro p e s m args below meth c R Q A ls H locs hx hb hr hts hown hlocks hml hnm hR hQ hA hl hP hK hN hD hS
  have hg : ∀ w ∈ gw, w.before args s = true := fun w h => hts w (List.mem_cons_of_mem _ h)
  have hown : s.vm.findClass "RangeCoders$NoCarries" = some m.cls := hown
  have hl : lv_has ls 4 [(0, Value.long (lN L)), (2, Value.long (lN Rg))] := hl
  refine lv_lload_n hx hb d_NoCarries_sameTop_0 rfl (lv_at hl 0 rfl) ?_
  refine lv_bipush (v := 24) hx hb d_NoCarries_sameTop_1 (by decide) ?_
  refine lv_lushr hx hb d_NoCarries_sameTop_3 rfl ?_
  refine lv_topl (fun v_1 ev_1 => ?_)
  have z9 : v_1 = lN (L / 16777216) := by rw [ev_1]; exact U_shr24 (by omega)
  subst z9
  refine lv_lload_n hx hb d_NoCarries_sameTop_4 rfl (lv_at hl 0 rfl) ?_
  refine lv_lload_n hx hb d_NoCarries_sameTop_5 rfl (lv_at hl 1 rfl) ?_
  refine lv_ladd hx hb d_NoCarries_sameTop_6 ?_
  refine lv_topl (fun v_2 ev_2 => ?_)
  refine lv_ldc2 (v := 4294967295) hx hb hown (hg _ k509) d_NoCarries_sameTop_7 ?_
  refine lv_land hx hb d_NoCarries_sameTop_10 ?_
  refine lv_topl (fun v_3 ev_3 => ?_)
  have z9 : v_3 = lN ((L + Rg) % 4294967296) := by subst_vars; rw [lN_add, L_and32 (by omega)]
  subst z9
  refine lv_bipush (v := 24) hx hb d_NoCarries_sameTop_11 (by decide) ?_
  refine lv_lushr hx hb d_NoCarries_sameTop_13 rfl ?_
  refine lv_topl (fun v_4 ev_4 => ?_)
  have z9 : v_4 = lN ((L + Rg) % 4294967296 / 16777216) := by rw [ev_4]; exact U_shr24 (by omega)
  subst z9
  refine W.lcmp hx hb d_NoCarries_sameTop_14 ?_
  refine lv_if_ne (tgt := 22) hx hb d_NoCarries_sameTop_15 (by decide) (fun c_5 => ?_) (fun c_5 => ?_)
  · rw [lg_cmp_eq] at c_5
    refine lv_iconst (v := 0) hx hb d_NoCarries_sameTop_22 (by decide) ?_
    exact my_iret (v := 0) hx hb hr (rfl) hlocks hQ hK hS (Nat.le_refl _) (Nat.le_refl _) () (by rw [if_neg (fun q => c_5 (by rw [show L / 16777216 = (L + Rg) % 4294967296 / 16777216 from q]))]) (hP.sub [] rfl) (hD.sub [] (by decide +kernel) rfl) d_NoCarries_sameTop_23
  · rw [lg_cmp_eq] at c_5
    refine lv_iconst (v := 1) hx hb d_NoCarries_sameTop_18 (by decide) ?_
    refine lv_goto (tgt := 23) hx hb d_NoCarries_sameTop_19 (by decide) ?_
    exact my_iret (v := 1) hx hb hr (rfl) hlocks hQ hK hS (Nat.le_refl _) (Nat.le_refl _) () (by rw [if_pos (show L / 16777216 = (L + Rg) % 4294967296 / 16777216 from (pk_lEQ (by omega) (by omega)).mp c_5)]) (hP.sub [] rfl) (hD.sub [] (by decide +kernel) rfl) d_NoCarries_sameTop_23
set_option maxHeartbeats 2000000 in
set_option maxRecDepth 100000 in
theorem f_NoCarries_mustMove (l : Launch) (dC : Nat → ClassId) (dI : Nat → Nat → Nat) (cI cM cO : ClassId) (sz : Nat) (L : Nat) (Rg : Nat) (hL : L < 4294967296) (hRg : Rg ≤ 4294967296) : MetI l y_NoCarries_mustMove (Cond.code y_NoCarries_mustMove prog_6_method_7_code 4 (some .boolean) :: gw) ({ frames := 1, cells := 0, slots := 0, locals := 23 } : Room) (dC, dI) vwCl (kT cI cM cO) [Value.long (lN L), Value.long (lN Rg)] [] sz (fun (r : Int32) (u : Unit) => r = if mvP L Rg then 1 else 0) (fun (u : Unit) => []) 0 0 := by
  refine my_ofI (cc := prog_6_method_7_code) (n := 4) (ret := (some .boolean)) (by decide) rfl (Nat.le_of_ble_eq_true rfl) ?_
  intro p e s m args below meth c R Q A ls H locs hx hb hr hts hown hlocks hml hnm hR hQ hA hl hP hK hN hD hS
  have hg : ∀ w ∈ gw, w.before args s = true := fun w h => hts w (List.mem_cons_of_mem _ h)
  have hown : s.vm.findClass "RangeCoders$NoCarries" = some m.cls := hown
  have hl : lv_has ls 4 [(0, Value.long (lN L)), (2, Value.long (lN Rg))] := hl
  refine lv_lload_n hx hb d_NoCarries_mustMove_0 rfl (lv_at hl 0 rfl) ?_
  refine lv_lload_n hx hb d_NoCarries_mustMove_1 rfl (lv_at hl 1 rfl) ?_
  refine my_ci (wr := []) (va_runS (As := [Value.long (lN L), Value.long (lN Rg)]) (rest := []) ⟨hx, hb, hml, hown, hts⟩ (f_NoCarries_sameTop l dC dI cI cM cO H.size L Rg (by first | assumption | omega) (by first | assumption | omega)) (cwS 2 hts (my_gS k513 k514 k7 k515) rfl rfl rfl (by decide +kernel) ⟨by rw [hR]; exact Nat.le_of_ble_eq_true rfl, by rw [hR]; exact Nat.le_of_ble_eq_true rfl⟩) (my_pre hK hN (hP.sub [] rfl) (hD.sub [] (by decide +kernel) rfl)) rfl rfl hl.1 rfl (lv_room (Nat.le_of_ble_eq_true rfl)) d_NoCarries_mustMove_2 ⟨by rw [hR]; exact Nat.le_of_ble_eq_true rfl, by rw [hR]; exact Nat.le_of_ble_eq_true rfl⟩) hP hD hS hA [] [] rfl rfl (by decide +kernel) (by decide +kernel) (fun r_2 u9 H locs hw_2 hP hD hS => ?_)
  have hr_2 : r_2 = if smT L Rg then 1 else 0 := hw_2
  have hP : va_P (dC, dI) vwCl [] H := hP
  have hD : va_D A [] := hD
  refine lv_if_ne (tgt := 16) hx hb d_NoCarries_mustMove_5 (by decide) (fun c_1 => ?_) (fun c_1 => ?_)
  · refine lv_iconst (v := 1) hx hb d_NoCarries_mustMove_16 (by decide) ?_
    refine lv_goto (tgt := 21) hx hb d_NoCarries_mustMove_17 (by decide) ?_
    exact my_iret (v := 1) hx hb hr (rfl) hlocks hQ hK hS (Nat.le_refl _) (Nat.le_refl _) () (by rw [if_pos (Or.inl (one_ne hr_2 c_1))]) (hP.sub [] rfl) (hD.sub [] (by decide +kernel) rfl) d_NoCarries_mustMove_21
  · refine lv_lload_n hx hb d_NoCarries_mustMove_8 rfl (lv_at hl 1 rfl) ?_
    refine lv_ldc2 (v := 65536) hx hb hown (hg _ k516) d_NoCarries_mustMove_9 ?_
    refine W.lcmp hx hb d_NoCarries_mustMove_12 ?_
    refine lv_if_ge (tgt := 20) hx hb d_NoCarries_mustMove_13 (by decide) (fun c_2 => ?_) (fun c_2 => ?_)
    · rw [lg_cmp_ge] at c_2
      refine lv_iconst (v := 0) hx hb d_NoCarries_mustMove_20 (by decide) ?_
      exact my_iret (v := 0) hx hb hr (rfl) hlocks hQ hK hS (Nat.le_refl _) (Nat.le_refl _) () (by rw [if_neg (fun q => q.elim (one_eq hr_2 c_1) (fun q => absurd ((L_le (a := 65536) (by decide) (by omega)).mp c_2) (by omega)))]) (hP.sub [] rfl) (hD.sub [] (by decide +kernel) rfl) d_NoCarries_mustMove_21
    · rw [lg_cmp_ge] at c_2
      refine lv_iconst (v := 1) hx hb d_NoCarries_mustMove_16 (by decide) ?_
      refine lv_goto (tgt := 21) hx hb d_NoCarries_mustMove_17 (by decide) ?_
      exact my_iret (v := 1) hx hb hr (rfl) hlocks hQ hK hS (Nat.le_refl _) (Nat.le_refl _) () (by rw [if_pos (Or.inr (by rcases Nat.lt_or_ge Rg 65536 with q | q; exact q; exact absurd ((L_le (a := 65536) (by decide) (by omega)).mpr q) c_2))]) (hP.sub [] rfl) (hD.sub [] (by decide +kernel) rfl) d_NoCarries_mustMove_21
set_option maxHeartbeats 2000000 in
set_option maxRecDepth 100000 in
theorem f_NoCarries_moved (l : Launch) (dC : Nat → ClassId) (dI : Nat → Nat → Nat) (cI cM cO : ClassId) (sz : Nat) (L : Nat) (Rg : Nat) (hL : L < 4294967296) (hRg : Rg ≤ 4294967296) : MetL l y_NoCarries_moved (Cond.code y_NoCarries_moved prog_6_method_8_code 6 (some .long) :: gw) ({ frames := 1, cells := 0, slots := 0, locals := 23 } : Room) (dC, dI) vwCl (kT cI cM cO) [Value.long (lN L), Value.long (lN Rg)] [] sz (fun (r : Int64) (u : Unit) => r = lN (mvR L Rg)) (fun (u : Unit) => []) 0 0 := by
  refine my_ofL (cc := prog_6_method_8_code) (n := 6) (ret := (some .long)) (by decide) rfl (Nat.le_of_ble_eq_true rfl) ?_
  intro p e s m args below meth c R Q A ls H locs hx hb hr hts hown hlocks hml hnm hR hQ hA hl hP hK hN hD hS
  have hg : ∀ w ∈ gw, w.before args s = true := fun w h => hts w (List.mem_cons_of_mem _ h)
  have hown : s.vm.findClass "RangeCoders$NoCarries" = some m.cls := hown
  have hl : lv_has ls 6 [(0, Value.long (lN L)), (2, Value.long (lN Rg))] := hl
  refine lv_lload_n hx hb d_NoCarries_moved_0 rfl (lv_at hl 0 rfl) ?_
  refine lv_lload_n hx hb d_NoCarries_moved_1 rfl (lv_at hl 1 rfl) ?_
  refine my_ci (wr := []) (va_runS (As := [Value.long (lN L), Value.long (lN Rg)]) (rest := []) ⟨hx, hb, hml, hown, hts⟩ (f_NoCarries_sameTop l dC dI cI cM cO H.size L Rg (by first | assumption | omega) (by first | assumption | omega)) (cwS 2 hts (my_gS k513 k514 k7 k515) rfl rfl rfl (by decide +kernel) ⟨by rw [hR]; exact Nat.le_of_ble_eq_true rfl, by rw [hR]; exact Nat.le_of_ble_eq_true rfl⟩) (my_pre hK hN (hP.sub [] rfl) (hD.sub [] (by decide +kernel) rfl)) rfl rfl hl.1 rfl (lv_room (Nat.le_of_ble_eq_true rfl)) d_NoCarries_moved_2 ⟨by rw [hR]; exact Nat.le_of_ble_eq_true rfl, by rw [hR]; exact Nat.le_of_ble_eq_true rfl⟩) hP hD hS hA [] [] rfl rfl (by decide +kernel) (by decide +kernel) (fun r_2 u9 H locs hw_2 hP hD hS => ?_)
  have hr_2 : r_2 = if smT L Rg then 1 else 0 := hw_2
  have hP : va_P (dC, dI) vwCl [] H := hP
  have hD : va_D A [] := hD
  refine lv_if_eq (tgt := 12) hx hb d_NoCarries_moved_5 (by decide) (fun c_1 => ?_) (fun c_1 => ?_)
  · refine lv_lload_n hx hb d_NoCarries_moved_12 rfl (lv_at hl 0 rfl) ?_
    refine lv_lneg hx hb d_NoCarries_moved_13 ?_
    refine lv_topl (fun v_2 ev_2 => ?_)
    refine lv_ldc2 (v := 65535) hx hb hown (hg _ k520) d_NoCarries_moved_14 ?_
    refine lv_land hx hb d_NoCarries_moved_17 ?_
    refine lv_topl (fun v_3 ev_3 => ?_)
    have hk9 : v_3 = lN (if smT L Rg then Rg else ngL L) := by rw [if_neg (one_eq hr_2 c_1)]; subst_vars; exact L_ngA (by omega)
    refine lv_lstore (lv' := [(4, Value.long v_3), (0, Value.long (lN L)), (2, Value.long (lN Rg))]) hx hb d_NoCarries_moved_18 hl (by decide) rfl (fun ls hl => ?_)
    refine lv_lload hx hb d_NoCarries_moved_20 (lv_at hl 0 rfl) ?_
    refine lv_bipush (v := 8) hx hb d_NoCarries_moved_22 (by decide) ?_
    refine lv_lshl hx hb d_NoCarries_moved_24 rfl ?_
    refine lv_topl (fun v_4 ev_4 => ?_)
    refine lv_ldc2 (v := 4294967295) hx hb hown (hg _ k509) d_NoCarries_moved_25 ?_
    refine lv_land hx hb d_NoCarries_moved_28 ?_
    refine lv_topl (fun v_5 ev_5 => ?_)
    exact my_lret (v := v_5) hx hb hr hlocks hQ hK hS (Nat.le_refl _) (Nat.le_refl _) () (by have hng : ngL L < 65536 := Nat.mod_lt _ (by decide); have hif : (if smT L Rg then Rg else ngL L) ≤ 4294967296 := (by split <;> omega); unfold mvR; generalize (if smT L Rg then Rg else ngL L) = y9 at hk9 hif ⊢; subst_vars; first | rw [hk9, L_shl8, L_and32 (by omega)] | rw [L_shl8, L_and32 (by omega)]) (hP.sub [] rfl) (hD.sub [] (by decide +kernel) rfl) d_NoCarries_moved_29
  · refine lv_lload_n hx hb d_NoCarries_moved_8 rfl (lv_at hl 1 rfl) ?_
    refine lv_goto (tgt := 18) hx hb d_NoCarries_moved_9 (by decide) ?_
    have hk9 : (lN Rg) = lN (if smT L Rg then Rg else ngL L) := by rw [if_pos (one_ne hr_2 c_1)]
    refine lv_lstore (lv' := [(4, Value.long (lN Rg)), (0, Value.long (lN L)), (2, Value.long (lN Rg))]) hx hb d_NoCarries_moved_18 hl (by decide) rfl (fun ls hl => ?_)
    refine lv_lload hx hb d_NoCarries_moved_20 (lv_at hl 0 rfl) ?_
    refine lv_bipush (v := 8) hx hb d_NoCarries_moved_22 (by decide) ?_
    refine lv_lshl hx hb d_NoCarries_moved_24 rfl ?_
    refine lv_topl (fun v_6 ev_6 => ?_)
    refine lv_ldc2 (v := 4294967295) hx hb hown (hg _ k509) d_NoCarries_moved_25 ?_
    refine lv_land hx hb d_NoCarries_moved_28 ?_
    refine lv_topl (fun v_7 ev_7 => ?_)
    exact my_lret (v := v_7) hx hb hr hlocks hQ hK hS (Nat.le_refl _) (Nat.le_refl _) () (by have hng : ngL L < 65536 := Nat.mod_lt _ (by decide); have hif : (if smT L Rg then Rg else ngL L) ≤ 4294967296 := (by split <;> omega); unfold mvR; generalize (if smT L Rg then Rg else ngL L) = y9 at hk9 hif ⊢; subst_vars; first | rw [hk9, L_shl8, L_and32 (by omega)] | rw [L_shl8, L_and32 (by omega)]) (hP.sub [] rfl) (hD.sub [] (by decide +kernel) rfl) d_NoCarries_moved_29
set_option maxHeartbeats 2000000 in
set_option maxRecDepth 100000 in
theorem f_NoCarries_writeTop (l : Launch) (dC : Nat → ClassId) (dI : Nat → Nat → Nat) (cI cM cO : ClassId) (sz : Nat) (sl : Nat) (co : Nat) (xrange : Int64) (xcode : Int64) (xreadLow : Int64) (xreadRange : Int64) (ri : Nat) (ro : Nat) (rw : Nat) (xasked : Int32) (L : Nat) (rwa : Nat) (rwk : Nat) (rwf : Nat → Int32) (bs : List Nat) (hL : L < 4294967296) (hrw : rOk (nI bs.length) rwk) (hGrw : gIs rwf bs) (hN9 : bs.length ≤ 8000) : MetVg l y_NoCarries_writeTop (Cond.code y_NoCarries_writeTop prog_6_method_5_code 1 none :: gw) ({ frames := 3, cells := rPh rwk, slots := rPh rwk, locals := 83 } : Room) (dC, dI) vwCl (kT cI cM cO) [Value.ref co] [(co, Sum.inr (2, [Value.long (lN L), Value.long xrange, Value.long xcode, Value.long xreadLow, Value.long xreadRange, Value.ref ri, Value.ref ro, Value.ref rw, Value.int xasked])), (rw, Sum.inr (0, [Value.int (nI bs.length), Value.ref rwa])), (rwa, Sum.inl (cI, rwk, Sum.inl rwf))] sz sl (fun (u : Nat × Nat × (Nat → Int32)) => rOk (nI (bs ++ [L / 16777216 % 256]).length) u.2.1 ∧ gIs u.2.2 (bs ++ [L / 16777216 % 256])) (fun (u : Nat × Nat × (Nat → Int32)) => [(co, Sum.inr (2, [Value.long (lN (mvL L)), Value.long xrange, Value.long xcode, Value.long xreadLow, Value.long xreadRange, Value.ref ri, Value.ref ro, Value.ref rw, Value.int xasked])), (rw, Sum.inr (0, [Value.int (nI (bs ++ [L / 16777216 % 256]).length), Value.ref u.1])), (u.1, Sum.inl (cI, u.2.1, Sum.inl u.2.2))]) (rPh rwk) (fun (u : Nat × Nat × (Nat → Int32)) => rPh u.2.1) := by
  refine my_ofVg (cc := prog_6_method_5_code) (n := 1) (ret := none) (by decide) rfl (Nat.le_of_ble_eq_true rfl) ?_
  intro p e s m args below meth c R Q A ls H locs hx hb hr hts hown hlocks hml hnm hR hQ hA hl hP hK hN hD hS
  have hg : ∀ w ∈ gw, w.before args s = true := fun w h => hts w (List.mem_cons_of_mem _ h)
  have hown : s.vm.findClass "RangeCoders$NoCarries" = some m.cls := hown
  have hl : lv_has ls 1 [(0, Value.ref co)] := hl
  have hltw := rOk_lt hrw
  refine lv_aload_n hx hb d_NoCarries_writeTop_0 rfl (lv_at hl 0 rfl) ?_
  refine va_get (D := (dC, dI)) (ci := 2) (v := .ref rw) (C := "RangeCoders$NoCarries") (T := T_NoCarries) (N := 9) hx hb hg in_NoCarries hown hK hP 0 rfl rfl 7 (by decide) (hg _ k114) (fun x9 h9 => u_same (hg _ k115) x9 h9) rfl d_NoCarries_writeTop_1 ?_
  refine lv_aload_n hx hb d_NoCarries_writeTop_4 rfl (lv_at hl 0 rfl) ?_
  refine va_get (D := (dC, dI)) (ci := 2) (v := .long (lN L)) (C := "RangeCoders$NoCarries") (T := T_NoCarries) (N := 9) hx hb hg in_NoCarries hown hK hP 0 rfl rfl 0 (by decide) (hg _ k70) (fun x9 h9 => u_same (hg _ k71) x9 h9) rfl d_NoCarries_writeTop_5 ?_
  refine lv_bipush (v := 24) hx hb d_NoCarries_writeTop_8 (by decide) ?_
  refine lv_lushr hx hb d_NoCarries_writeTop_10 rfl ?_
  refine lv_topl (fun v_1 ev_1 => ?_)
  refine lv_l2i hx hb d_NoCarries_writeTop_11 rfl ?_
  refine lv_topi (fun v_2 ev_2 => ?_)
  have z9 : v_2 = nI (L / 16777216 % 256) := by subst_vars; rw [U_shr24 (by omega), lN_i, Nat.mod_eq_of_lt (by omega)]
  subst z9
  refine my_cvg (wr := [(co, Sum.inr (2, [Value.long (lN L), Value.long xrange, Value.long xcode, Value.long xreadLow, Value.long xreadRange, Value.ref ri, Value.ref ro, Value.ref rw, Value.int xasked]))]) (va_runV (As := [Value.int (nI (L / 16777216 % 256))]) (rest := []) ⟨hx, hb, hml, hown, hts⟩ (f_Row_add l dC dI cI cM cO H.size (hSl H) rw rwa rwk rwf bs (L / 16777216 % 256) (hrw) (hGrw) (by omega)) (cwV 1 hts (my_gV k525 k473 k474 k6 k475) rfl rfl rfl (by decide +kernel) ⟨by rw [hR]; exact Nat.le_of_ble_eq_true rfl, by rw [hR]; exact Nat.le_of_ble_eq_true rfl⟩) (my_preVg hK hN (hP.sub [1, 2] rfl) (hD.sub [1, 2] (by decide +kernel) rfl) 0 rfl rfl) rfl rfl hl.1 rfl (lv_room (Nat.le_of_ble_eq_true rfl)) d_NoCarries_writeTop_12 ⟨by rw [hR]; exact (show 0 + (rPh rwk) ≤ (rPh rwk) by omega), by rw [hR]; exact (show 0 + (rPh rwk) ≤ (rPh rwk) by omega)⟩) hP hD hS hA [1, 2] [0] rfl rfl (by decide +kernel) (by decide +kernel) (fun u9 d_12 H locs hd_12 hw_12 hP hD hS => ?_)
  obtain ⟨rraq_12, rrkq_12, rrfq_12⟩ := u9
  obtain ⟨hrr_12, hGrr_12⟩ : rOk (nI (bs ++ [(L / 16777216 % 256)]).length) rrkq_12 ∧ gIs rrfq_12 (bs ++ [(L / 16777216 % 256)]) := hw_12
  have hd_12 : d_12 + (rPh rrkq_12) ≤ (rPh rwk) := hd_12
  have hP : va_P (dC, dI) vwCl [(co, Sum.inr (2, [Value.long (lN L), Value.long xrange, Value.long xcode, Value.long xreadLow, Value.long xreadRange, Value.ref ri, Value.ref ro, Value.ref rw, Value.int xasked])), (rw, Sum.inr (0, [Value.int (nI (bs ++ [(L / 16777216 % 256)]).length), Value.ref rraq_12])), (rraq_12, Sum.inl (cI, rrkq_12, Sum.inl rrfq_12))] H := hP
  have hD : va_D A [(co, Sum.inr (2, [Value.long (lN L), Value.long xrange, Value.long xcode, Value.long xreadLow, Value.long xreadRange, Value.ref ri, Value.ref ro, Value.ref rw, Value.int xasked])), (rw, Sum.inr (0, [Value.int (nI (bs ++ [(L / 16777216 % 256)]).length), Value.ref rraq_12])), (rraq_12, Sum.inl (cI, rrkq_12, Sum.inl rrfq_12))] := hD
  refine lv_aload_n hx hb d_NoCarries_writeTop_15 rfl (lv_at hl 0 rfl) ?_
  refine lv_aload_n hx hb d_NoCarries_writeTop_16 rfl (lv_at hl 0 rfl) ?_
  refine va_get (D := (dC, dI)) (ci := 2) (v := .long (lN L)) (C := "RangeCoders$NoCarries") (T := T_NoCarries) (N := 9) hx hb hg in_NoCarries hown hK hP 0 rfl rfl 0 (by decide) (hg _ k70) (fun x9 h9 => u_same (hg _ k71) x9 h9) rfl d_NoCarries_writeTop_17 ?_
  refine lv_bipush (v := 8) hx hb d_NoCarries_writeTop_20 (by decide) ?_
  refine lv_lshl hx hb d_NoCarries_writeTop_22 rfl ?_
  refine lv_topl (fun v_3 ev_3 => ?_)
  refine lv_ldc2 (v := 4294967295) hx hb hown (hg _ k509) d_NoCarries_writeTop_23 ?_
  refine lv_land hx hb d_NoCarries_writeTop_26 ?_
  refine lv_topl (fun v_4 ev_4 => ?_)
  have z9 : v_4 = lN (mvL L) := by subst_vars; rw [L_shl8, L_and32 (by omega)]; rfl
  subst z9
  refine va_put (D := (dC, dI)) (ci := 2) (v := .long (lN (mvL L))) (ty := .long) (C := "RangeCoders$NoCarries") (T := T_NoCarries) (N := 9) hx hb hg in_NoCarries t_NoCarries o_NoCarries n_NoCarries hown hK hP hD hS 0 rfl rfl 0 (by decide) (hg _ k70) (fun x9 h9 => u_same (hg _ k71) x9 h9) rfl (by decide +kernel) rfl rfl (Nat.le_of_ble_eq_true rfl) d_NoCarries_writeTop_27 (fun H locs hP hD hS => ?_)
  have hP : va_P (dC, dI) vwCl [(co, Sum.inr (2, [Value.long (lN (mvL L)), Value.long xrange, Value.long xcode, Value.long xreadLow, Value.long xreadRange, Value.ref ri, Value.ref ro, Value.ref rw, Value.int xasked])), (rw, Sum.inr (0, [Value.int (nI (bs ++ [(L / 16777216 % 256)]).length), Value.ref rraq_12])), (rraq_12, Sum.inl (cI, rrkq_12, Sum.inl rrfq_12))] H := hP
  have hD : va_D A [(co, Sum.inr (2, [Value.long (lN (mvL L)), Value.long xrange, Value.long xcode, Value.long xreadLow, Value.long xreadRange, Value.ref ri, Value.ref ro, Value.ref rw, Value.int xasked])), (rw, Sum.inr (0, [Value.int (nI (bs ++ [(L / 16777216 % 256)]).length), Value.ref rraq_12])), (rraq_12, Sum.inl (cI, rrkq_12, Sum.inl rrfq_12))] := hD
  exact my_vretg hx hb hr hlocks hQ hK hS (rraq_12, rrkq_12, rrfq_12) (show (0 + d_12) + (rPh rrkq_12) ≤ (rPh rwk) by omega) (show (0 + d_12) + (rPh rrkq_12) ≤ (rPh rwk) by omega) (⟨hrr_12, hGrr_12⟩) (hP.sub [0, 1, 2] rfl) (hD.sub [0, 1, 2] (by decide +kernel) rfl) d_NoCarries_writeTop_30
set_option maxHeartbeats 2000000 in
set_option maxRecDepth 100000 in
theorem f_NoCarries_writePart (l : Launch) (dC : Nat → ClassId) (dI : Nat → Nat → Nat) (cI cM cO : ClassId) (sz : Nat) (sl : Nat) (co : Nat) (xcode : Int64) (xreadLow : Int64) (xreadRange : Int64) (ri : Nat) (ro : Nat) (rw : Nat) (xasked : Int32) (Rg : Nat) (L : Nat) (rwa : Nat) (rwk : Nat) (rwf : Nat → Int32) (bs : List Nat) (cc : Nat) (ff : Nat) (tt : Nat) (ht0 : 0 < tt) (ht1 : tt < 2 ^ 31) (hcf : cc + ff ≤ tt) (hff : 0 < ff) (hRt : tt ≤ Rg) (hp : pOk Rg L) (hrw : rOk (nI bs.length) rwk) (hGrw : gIs rwf bs) (hN9 : bs.length + 5 ≤ 7900) : MetVg l y_NoCarries_writePart (Cond.code y_NoCarries_writePart prog_6_method_2_code 7 none :: gw) ({ frames := 4, cells := rPh rwk, slots := rPh rwk, locals := 103 } : Room) (dC, dI) vwCl (kT cI cM cO) [Value.ref co, Value.int (nI ff), Value.int (nI cc), Value.int (nI tt)] [(co, Sum.inr (2, [Value.long (lN L), Value.long (lN Rg), Value.long xcode, Value.long xreadLow, Value.long xreadRange, Value.ref ri, Value.ref ro, Value.ref rw, Value.int xasked])), (rw, Sum.inr (0, [Value.int (nI bs.length), Value.ref rwa])), (rwa, Sum.inl (cI, rwk, Sum.inl rwf))] sz sl (fun (u : Nat × Nat × (Nat → Int32)) => rOk (nI ((plS (Rg / tt * ff, L + Rg / tt * cc, bs)).2.2).length) u.2.1 ∧ gIs u.2.2 ((plS (Rg / tt * ff, L + Rg / tt * cc, bs)).2.2)) (fun (u : Nat × Nat × (Nat → Int32)) => [(co, Sum.inr (2, [Value.long (lN (plS (Rg / tt * ff, L + Rg / tt * cc, bs)).2.1), Value.long (lN (plS (Rg / tt * ff, L + Rg / tt * cc, bs)).1), Value.long xcode, Value.long xreadLow, Value.long xreadRange, Value.ref ri, Value.ref ro, Value.ref rw, Value.int xasked])), (rw, Sum.inr (0, [Value.int (nI (plS (Rg / tt * ff, L + Rg / tt * cc, bs)).2.2.length), Value.ref u.1])), (u.1, Sum.inl (cI, u.2.1, Sum.inl u.2.2))]) (rPh rwk) (fun (u : Nat × Nat × (Nat → Int32)) => rPh u.2.1) := by
  refine my_ofVg (cc := prog_6_method_2_code) (n := 7) (ret := none) (by decide) rfl (Nat.le_of_ble_eq_true rfl) ?_
  intro p e s m args below meth c R Q A ls H locs hx hb hr hts hown hlocks hml hnm hR hQ hA hl hP hK hN hD hS
  have hg : ∀ w ∈ gw, w.before args s = true := fun w h => hts w (List.mem_cons_of_mem _ h)
  have hown : s.vm.findClass "RangeCoders$NoCarries" = some m.cls := hown
  have hl : lv_has ls 7 [(0, Value.ref co), (1, Value.int (nI ff)), (2, Value.int (nI cc)), (3, Value.int (nI tt))] := hl
  have hltw := rOk_lt hrw
  obtain ⟨hp1, hp2, hp3, hp4⟩ := id hp
  have hd1 : Rg / tt * tt ≤ Rg := Nat.div_mul_le_self _ _
  have hd2 : Rg / tt * cc + Rg / tt * ff ≤ Rg / tt * tt := by rw [← Nat.mul_add]; exact Nat.mul_le_mul_left _ hcf
  have hd3 : 0 < Rg / tt := Nat.div_pos hRt ht0
  have hd4 : 0 < Rg / tt * ff := Nat.mul_pos hd3 hff
  have hd5 : Rg / tt ≤ Rg := Nat.div_le_self _ _
  generalize hrc : Rg / tt * cc = rc at hd2
  generalize hrf : Rg / tt * ff = rf at hd2 hd4
  refine lv_iload_n hx hb d_NoCarries_writePart_0 rfl (lv_at hl 3 rfl) ?_
  refine lv_if_le (tgt := 14) hx hb d_NoCarries_writePart_1 (by decide) (fun c_1 => ?_) (fun c_1 => ?_)
  · exact absurd c_1 (nI_nle ht0 (by omega))
  · refine lv_aload_n hx hb d_NoCarries_writePart_4 rfl (lv_at hl 0 rfl) ?_
    refine va_get (D := (dC, dI)) (ci := 2) (v := .long (lN Rg)) (C := "RangeCoders$NoCarries") (T := T_NoCarries) (N := 9) hx hb hg in_NoCarries hown hK hP 0 rfl rfl 1 (by decide) (hg _ k78) (fun x9 h9 => u_same (hg _ k79) x9 h9) rfl d_NoCarries_writePart_5 ?_
    refine lv_iload_n hx hb d_NoCarries_writePart_8 rfl (lv_at hl 3 rfl) ?_
    refine lv_i2l hx hb d_NoCarries_writePart_9 rfl ?_
    refine lv_topl (fun v_2 ev_2 => ?_)
    refine lv_ldiv hx hb d_NoCarries_writePart_10 (by rw [ev_2]; rw [nI_l (by omega)]; intro z; have := (pk_lEQ (b := 0) (by omega) (by decide)).mp z; omega) ?_
    refine lv_topl (fun v_3 ev_3 => ?_)
    refine lv_goto (tgt := 15) hx hb d_NoCarries_writePart_11 (by decide) ?_
    have z9 : v_3 = lN (Rg / tt) := by subst_vars; rw [nI_l (by omega)]; exact pk_lDiv (by omega) ht0 (by omega)
    subst z9
    refine lv_lstore (lv' := [(4, Value.long (lN (Rg / tt))), (0, Value.ref co), (1, Value.int (nI ff)), (2, Value.int (nI cc)), (3, Value.int (nI tt))]) hx hb d_NoCarries_writePart_15 hl (by decide) rfl (fun ls hl => ?_)
    refine lv_aload_n hx hb d_NoCarries_writePart_17 rfl (lv_at hl 1 rfl) ?_
    refine lv_aload_n hx hb d_NoCarries_writePart_18 rfl (lv_at hl 1 rfl) ?_
    refine va_get (D := (dC, dI)) (ci := 2) (v := .long (lN L)) (C := "RangeCoders$NoCarries") (T := T_NoCarries) (N := 9) hx hb hg in_NoCarries hown hK hP 0 rfl rfl 0 (by decide) (hg _ k70) (fun x9 h9 => u_same (hg _ k71) x9 h9) rfl d_NoCarries_writePart_19 ?_
    refine lv_lload hx hb d_NoCarries_writePart_22 (lv_at hl 0 rfl) ?_
    refine lv_iload_n hx hb d_NoCarries_writePart_24 rfl (lv_at hl 3 rfl) ?_
    refine lv_i2l hx hb d_NoCarries_writePart_25 rfl ?_
    refine lv_topl (fun v_4 ev_4 => ?_)
    refine lv_lmul hx hb d_NoCarries_writePart_26 ?_
    refine lv_topl (fun v_5 ev_5 => ?_)
    refine lv_ladd hx hb d_NoCarries_writePart_27 ?_
    refine lv_topl (fun v_6 ev_6 => ?_)
    refine lv_ldc2 (v := 4294967295) hx hb hown (hg _ k509) d_NoCarries_writePart_28 ?_
    refine lv_land hx hb d_NoCarries_writePart_31 ?_
    refine lv_topl (fun v_7 ev_7 => ?_)
    have z9 : v_7 = lN (L + rc) := by subst_vars; rw [nI_l (by omega), lN_mul, lN_add, L_and32 (by omega), Nat.mod_eq_of_lt (by omega)]
    subst z9
    refine va_put (D := (dC, dI)) (ci := 2) (v := .long (lN (L + rc))) (ty := .long) (C := "RangeCoders$NoCarries") (T := T_NoCarries) (N := 9) hx hb hg in_NoCarries t_NoCarries o_NoCarries n_NoCarries hown hK hP hD hS 0 rfl rfl 0 (by decide) (hg _ k70) (fun x9 h9 => u_same (hg _ k71) x9 h9) rfl (by decide +kernel) rfl rfl (Nat.le_of_ble_eq_true rfl) d_NoCarries_writePart_32 (fun H locs hP hD hS => ?_)
    have hP : va_P (dC, dI) vwCl [(co, Sum.inr (2, [Value.long (lN (L + rc)), Value.long (lN Rg), Value.long xcode, Value.long xreadLow, Value.long xreadRange, Value.ref ri, Value.ref ro, Value.ref rw, Value.int xasked])), (rw, Sum.inr (0, [Value.int (nI bs.length), Value.ref rwa])), (rwa, Sum.inl (cI, rwk, Sum.inl rwf))] H := hP
    have hD : va_D A [(co, Sum.inr (2, [Value.long (lN (L + rc)), Value.long (lN Rg), Value.long xcode, Value.long xreadLow, Value.long xreadRange, Value.ref ri, Value.ref ro, Value.ref rw, Value.int xasked])), (rw, Sum.inr (0, [Value.int (nI bs.length), Value.ref rwa])), (rwa, Sum.inl (cI, rwk, Sum.inl rwf))] := hD
    refine lv_aload_n hx hb d_NoCarries_writePart_35 rfl (lv_at hl 1 rfl) ?_
    refine lv_lload hx hb d_NoCarries_writePart_36 (lv_at hl 0 rfl) ?_
    refine lv_iload_n hx hb d_NoCarries_writePart_38 rfl (lv_at hl 2 rfl) ?_
    refine lv_i2l hx hb d_NoCarries_writePart_39 rfl ?_
    refine lv_topl (fun v_8 ev_8 => ?_)
    refine lv_lmul hx hb d_NoCarries_writePart_40 ?_
    refine lv_topl (fun v_9 ev_9 => ?_)
    refine lv_ldc2 (v := 4294967295) hx hb hown (hg _ k509) d_NoCarries_writePart_41 ?_
    refine lv_land hx hb d_NoCarries_writePart_44 ?_
    refine lv_topl (fun v_10 ev_10 => ?_)
    have z9 : v_10 = lN rf := by subst_vars; rw [nI_l (by omega), lN_mul, L_and32 (by omega), Nat.mod_eq_of_lt (by omega)]
    subst z9
    refine va_put (D := (dC, dI)) (ci := 2) (v := .long (lN rf)) (ty := .long) (C := "RangeCoders$NoCarries") (T := T_NoCarries) (N := 9) hx hb hg in_NoCarries t_NoCarries o_NoCarries n_NoCarries hown hK hP hD hS 0 rfl rfl 1 (by decide) (hg _ k78) (fun x9 h9 => u_same (hg _ k79) x9 h9) rfl (by decide +kernel) rfl rfl (Nat.le_of_ble_eq_true rfl) d_NoCarries_writePart_45 (fun H locs hP hD hS => ?_)
    have hP : va_P (dC, dI) vwCl [(co, Sum.inr (2, [Value.long (lN (L + rc)), Value.long (lN rf), Value.long xcode, Value.long xreadLow, Value.long xreadRange, Value.ref ri, Value.ref ro, Value.ref rw, Value.int xasked])), (rw, Sum.inr (0, [Value.int (nI bs.length), Value.ref rwa])), (rwa, Sum.inl (cI, rwk, Sum.inl rwf))] H := hP
    have hD : va_D A [(co, Sum.inr (2, [Value.long (lN (L + rc)), Value.long (lN rf), Value.long xcode, Value.long xreadLow, Value.long xreadRange, Value.ref ri, Value.ref ro, Value.ref rw, Value.int xasked])), (rw, Sum.inr (0, [Value.int (nI bs.length), Value.ref rwa])), (rwa, Sum.inl (cI, rwk, Sum.inl rwf))] := hD
    refine lv_iconst (v := 0) hx hb d_NoCarries_writePart_48 (by decide) ?_
    refine lv_istore (lv' := [(6, Value.int 0), (4, Value.long (lN (Rg / tt))), (0, Value.ref co), (1, Value.int (nI ff)), (2, Value.int (nI cc)), (3, Value.int (nI tt))]) hx hb d_NoCarries_writePart_49 hl (by decide) rfl (fun ls hl => ?_)
    have J_51 : ∀ (n9_51 : Nat) (e9 : PS) (k9 : Nat) (rwa9 : Nat) (rwk9 : Nat) (rwf9 : Nat → Int32) (d9 : Nat) (hn9_51 : k9 = n9_51) (hE9 : plS (rf, L + rc, bs) = plN k9 e9) (hI9 : plI k9 e9.1 e9.2.1) (hM9 : e9.2.2.length + k9 ≤ 7904) (hr9 : rOk (nI e9.2.2.length) rwk9) (hg9 : gIs rwf9 e9.2.2) (hd9 : d9 + rPh rwk9 ≤ rPh rwk) (H : Heap) (locs : List Loc) (ls : Array Slot), va_P (dC, dI) vwCl [(co, Sum.inr (2, [Value.long (lN e9.2.1), Value.long (lN e9.1), Value.long xcode, Value.long xreadLow, Value.long xreadRange, Value.ref ri, Value.ref ro, Value.ref rw, Value.int xasked])), (rw, Sum.inr (0, [Value.int (nI e9.2.2.length), Value.ref rwa9])), (rwa9, Sum.inl (cI, rwk9, Sum.inl rwf9))] H → va_D A [(co, Sum.inr (2, [Value.long (lN e9.2.1), Value.long (lN e9.1), Value.long xcode, Value.long xreadLow, Value.long xreadRange, Value.ref ri, Value.ref ro, Value.ref rw, Value.int xasked])), (rw, Sum.inr (0, [Value.int (nI e9.2.2.length), Value.ref rwa9])), (rwa9, Sum.inl (cI, rwk9, Sum.inl rwf9))] → va_S A s.heap H locs → lv_has ls 7 [(6, Value.int (nI (8 - k9))), (4, Value.long (lN (Rg / tt))), (0, Value.ref co), (1, Value.int (nI ff)), (2, Value.int (nI cc)), (3, Value.int (nI tt))] → W p l e R s m args below meth c H locs d9 d9 Q (F0 m 51 ls []) := by
      intro n9_51
      induction n9_51 using Nat.strongRecOn with
      | ind n9_51 ih9_51 =>
        intro e9 k9 rwa9 rwk9 rwf9 d9 hn9_51 hE9 hI9 hM9 hr9 hg9 hd9 H locs ls hP hD hS hl
        have hk48 := hI9.2.1
        have hk88 := hI9.2.2.1
        obtain ⟨hq1, hq2, hq3, hq4⟩ := hI9.1
        refine lv_iload hx hb d_NoCarries_writePart_51 (lv_at hl 0 rfl) ?_
        refine lv_bipush (v := 8) hx hb d_NoCarries_writePart_53 (by decide) ?_
        refine lv_icmp_ge (tgt := 97) hx hb d_NoCarries_writePart_55 (by decide) (fun c_11 => ?_) (fun c_11 => ?_)
        · exact absurd (nI_ge' (n := 8) (by omega) (by decide) c_11) (by omega)
        · refine lv_aload_n hx hb d_NoCarries_writePart_58 rfl (lv_at hl 2 rfl) ?_
          refine va_get (D := (dC, dI)) (ci := 2) (v := .long (lN e9.2.1)) (C := "RangeCoders$NoCarries") (T := T_NoCarries) (N := 9) hx hb hg in_NoCarries hown hK hP 0 rfl rfl 0 (by decide) (hg _ k70) (fun x9 h9 => u_same (hg _ k71) x9 h9) rfl d_NoCarries_writePart_59 ?_
          refine lv_aload_n hx hb d_NoCarries_writePart_62 rfl (lv_at hl 2 rfl) ?_
          refine va_get (D := (dC, dI)) (ci := 2) (v := .long (lN e9.1)) (C := "RangeCoders$NoCarries") (T := T_NoCarries) (N := 9) hx hb hg in_NoCarries hown hK hP 0 rfl rfl 1 (by decide) (hg _ k78) (fun x9 h9 => u_same (hg _ k79) x9 h9) rfl d_NoCarries_writePart_63 ?_
          refine my_ci (wr := [(co, Sum.inr (2, [Value.long (lN e9.2.1), Value.long (lN e9.1), Value.long xcode, Value.long xreadLow, Value.long xreadRange, Value.ref ri, Value.ref ro, Value.ref rw, Value.int xasked])), (rw, Sum.inr (0, [Value.int (nI e9.2.2.length), Value.ref rwa9])), (rwa9, Sum.inl (cI, rwk9, Sum.inl rwf9))]) (va_runS (As := [Value.long (lN e9.2.1), Value.long (lN e9.1)]) (rest := []) ⟨hx, hb, hml, hown, hts⟩ (f_NoCarries_mustMove l dC dI cI cM cO H.size e9.2.1 e9.1 (hq1) (by omega)) (cwS 2 hts (my_gS k510 k511 k7 k512) rfl rfl rfl (by decide +kernel) ⟨by rw [hR]; exact Nat.le_of_ble_eq_true rfl, by rw [hR]; exact Nat.le_of_ble_eq_true rfl⟩) (my_pre hK hN (hP.sub [] rfl) (hD.sub [] (by decide +kernel) rfl)) rfl rfl hl.1 rfl (lv_room (Nat.le_of_ble_eq_true rfl)) d_NoCarries_writePart_66 ⟨by rw [hR]; exact (show d9 + 0 ≤ (rPh rwk) by omega), by rw [hR]; exact (show d9 + 0 ≤ (rPh rwk) by omega)⟩) hP hD hS hA [] [0, 1, 2] rfl rfl (by decide +kernel) (by decide +kernel) (fun r_66 u9 H locs hw_66 hP hD hS => ?_)
          have hr_66 : r_66 = if mvP e9.2.1 e9.1 then 1 else 0 := hw_66
          have hP : va_P (dC, dI) vwCl [(co, Sum.inr (2, [Value.long (lN e9.2.1), Value.long (lN e9.1), Value.long xcode, Value.long xreadLow, Value.long xreadRange, Value.ref ri, Value.ref ro, Value.ref rw, Value.int xasked])), (rw, Sum.inr (0, [Value.int (nI e9.2.2.length), Value.ref rwa9])), (rwa9, Sum.inl (cI, rwk9, Sum.inl rwf9))] H := hP
          have hD : va_D A [(co, Sum.inr (2, [Value.long (lN e9.2.1), Value.long (lN e9.1), Value.long xcode, Value.long xreadLow, Value.long xreadRange, Value.ref ri, Value.ref ro, Value.ref rw, Value.int xasked])), (rw, Sum.inr (0, [Value.int (nI e9.2.2.length), Value.ref rwa9])), (rwa9, Sum.inl (cI, rwk9, Sum.inl rwf9))] := hD
          refine lv_if_eq (tgt := 97) hx hb d_NoCarries_writePart_69 (by decide) (fun c_12 => ?_) (fun c_12 => ?_)
          · have z9 : e9 = plS (rf, L + rc, bs) := by rw [hE9, plN_e (one_eq hr_66 c_12)]
            subst z9
            subst hrc
            subst hrf
            have hP : va_P (dC, dI) vwCl [(co, Sum.inr (2, [Value.long (lN (plS ((Rg / tt * ff), L + (Rg / tt * cc), bs)).2.1), Value.long (lN (plS ((Rg / tt * ff), L + (Rg / tt * cc), bs)).1), Value.long xcode, Value.long xreadLow, Value.long xreadRange, Value.ref ri, Value.ref ro, Value.ref rw, Value.int xasked])), (rw, Sum.inr (0, [Value.int (nI (plS ((Rg / tt * ff), L + (Rg / tt * cc), bs)).2.2.length), Value.ref rwa9])), (rwa9, Sum.inl (cI, rwk9, Sum.inl rwf9))] H := hP
            have hD : va_D A [(co, Sum.inr (2, [Value.long (lN (plS ((Rg / tt * ff), L + (Rg / tt * cc), bs)).2.1), Value.long (lN (plS ((Rg / tt * ff), L + (Rg / tt * cc), bs)).1), Value.long xcode, Value.long xreadLow, Value.long xreadRange, Value.ref ri, Value.ref ro, Value.ref rw, Value.int xasked])), (rw, Sum.inr (0, [Value.int (nI (plS ((Rg / tt * ff), L + (Rg / tt * cc), bs)).2.2.length), Value.ref rwa9])), (rwa9, Sum.inl (cI, rwk9, Sum.inl rwf9))] := hD
            exact my_vretg hx hb hr hlocks hQ hK hS (rwa9, rwk9, rwf9) (show d9 + (rPh rwk9) ≤ (rPh rwk) by omega) (show d9 + (rPh rwk9) ≤ (rPh rwk) by omega) (⟨hr9, hg9⟩) (hP.sub [0, 1, 2] rfl) (hD.sub [0, 1, 2] (by decide +kernel) rfl) d_NoCarries_writePart_97
          · have hmv : mvP e9.2.1 e9.1 := one_ne hr_66 c_12
            refine lv_aload_n hx hb d_NoCarries_writePart_72 rfl (lv_at hl 2 rfl) ?_
            refine lv_aload_n hx hb d_NoCarries_writePart_73 rfl (lv_at hl 2 rfl) ?_
            refine va_get (D := (dC, dI)) (ci := 2) (v := .long (lN e9.2.1)) (C := "RangeCoders$NoCarries") (T := T_NoCarries) (N := 9) hx hb hg in_NoCarries hown hK hP 0 rfl rfl 0 (by decide) (hg _ k70) (fun x9 h9 => u_same (hg _ k71) x9 h9) rfl d_NoCarries_writePart_74 ?_
            refine lv_aload_n hx hb d_NoCarries_writePart_77 rfl (lv_at hl 2 rfl) ?_
            refine va_get (D := (dC, dI)) (ci := 2) (v := .long (lN e9.1)) (C := "RangeCoders$NoCarries") (T := T_NoCarries) (N := 9) hx hb hg in_NoCarries hown hK hP 0 rfl rfl 1 (by decide) (hg _ k78) (fun x9 h9 => u_same (hg _ k79) x9 h9) rfl d_NoCarries_writePart_78 ?_
            refine my_cl (wr := [(co, Sum.inr (2, [Value.long (lN e9.2.1), Value.long (lN e9.1), Value.long xcode, Value.long xreadLow, Value.long xreadRange, Value.ref ri, Value.ref ro, Value.ref rw, Value.int xasked])), (rw, Sum.inr (0, [Value.int (nI e9.2.2.length), Value.ref rwa9])), (rwa9, Sum.inl (cI, rwk9, Sum.inl rwf9))]) (va_runS (As := [Value.long (lN e9.2.1), Value.long (lN e9.1)]) (rest := [Value.ref co]) ⟨hx, hb, hml, hown, hts⟩ (f_NoCarries_moved l dC dI cI cM cO H.size e9.2.1 e9.1 (hq1) (by omega)) (cwS 2 hts (my_gS k517 k518 k7 k519) rfl rfl rfl (by decide +kernel) ⟨by rw [hR]; exact Nat.le_of_ble_eq_true rfl, by rw [hR]; exact Nat.le_of_ble_eq_true rfl⟩) (my_pre hK hN (hP.sub [] rfl) (hD.sub [] (by decide +kernel) rfl)) rfl rfl hl.1 rfl (lv_room (Nat.le_of_ble_eq_true rfl)) d_NoCarries_writePart_81 ⟨by rw [hR]; exact (show d9 + 0 ≤ (rPh rwk) by omega), by rw [hR]; exact (show d9 + 0 ≤ (rPh rwk) by omega)⟩) hP hD hS hA [] [0, 1, 2] rfl rfl (by decide +kernel) (by decide +kernel) (fun r_81 u9 H locs hw_81 hP hD hS => ?_)
            have hr_81 : r_81 = lN (mvR e9.2.1 e9.1) := hw_81
            have hP : va_P (dC, dI) vwCl [(co, Sum.inr (2, [Value.long (lN e9.2.1), Value.long (lN e9.1), Value.long xcode, Value.long xreadLow, Value.long xreadRange, Value.ref ri, Value.ref ro, Value.ref rw, Value.int xasked])), (rw, Sum.inr (0, [Value.int (nI e9.2.2.length), Value.ref rwa9])), (rwa9, Sum.inl (cI, rwk9, Sum.inl rwf9))] H := hP
            have hD : va_D A [(co, Sum.inr (2, [Value.long (lN e9.2.1), Value.long (lN e9.1), Value.long xcode, Value.long xreadLow, Value.long xreadRange, Value.ref ri, Value.ref ro, Value.ref rw, Value.int xasked])), (rw, Sum.inr (0, [Value.int (nI e9.2.2.length), Value.ref rwa9])), (rwa9, Sum.inl (cI, rwk9, Sum.inl rwf9))] := hD
            have z9 : r_81 = lN (mvR e9.2.1 e9.1) := hr_81
            subst z9
            refine va_put (D := (dC, dI)) (ci := 2) (v := .long (lN (mvR e9.2.1 e9.1))) (ty := .long) (C := "RangeCoders$NoCarries") (T := T_NoCarries) (N := 9) hx hb hg in_NoCarries t_NoCarries o_NoCarries n_NoCarries hown hK hP hD hS 0 rfl rfl 1 (by decide) (hg _ k78) (fun x9 h9 => u_same (hg _ k79) x9 h9) rfl (by decide +kernel) rfl rfl (Nat.le_of_ble_eq_true rfl) d_NoCarries_writePart_84 (fun H locs hP hD hS => ?_)
            have hP : va_P (dC, dI) vwCl [(co, Sum.inr (2, [Value.long (lN e9.2.1), Value.long (lN (mvR e9.2.1 e9.1)), Value.long xcode, Value.long xreadLow, Value.long xreadRange, Value.ref ri, Value.ref ro, Value.ref rw, Value.int xasked])), (rw, Sum.inr (0, [Value.int (nI e9.2.2.length), Value.ref rwa9])), (rwa9, Sum.inl (cI, rwk9, Sum.inl rwf9))] H := hP
            have hD : va_D A [(co, Sum.inr (2, [Value.long (lN e9.2.1), Value.long (lN (mvR e9.2.1 e9.1)), Value.long xcode, Value.long xreadLow, Value.long xreadRange, Value.ref ri, Value.ref ro, Value.ref rw, Value.int xasked])), (rw, Sum.inr (0, [Value.int (nI e9.2.2.length), Value.ref rwa9])), (rwa9, Sum.inl (cI, rwk9, Sum.inl rwf9))] := hD
            refine lv_aload_n hx hb d_NoCarries_writePart_87 rfl (lv_at hl 2 rfl) ?_
            refine my_cvg (wr := []) (va_runV (As := []) (rest := []) ⟨hx, hb, hml, hown, hts⟩ (f_NoCarries_writeTop l dC dI cI cM cO H.size (hSl H) co (lN (mvR e9.2.1 e9.1)) xcode xreadLow xreadRange ri ro rw xasked e9.2.1 rwa9 rwk9 rwf9 e9.2.2 (hq1) (hr9) (hg9) (by omega)) (cwV 0 hts (my_gV k521 k523 ks8 k7 k524) rfl rfl rfl (by decide +kernel) ⟨by rw [hR]; exact Nat.le_of_ble_eq_true rfl, by rw [hR]; exact Nat.le_of_ble_eq_true rfl⟩) (my_preVg hK hN (hP.sub [0, 1, 2] rfl) (hD.sub [0, 1, 2] (by decide +kernel) rfl) 0 rfl rfl) rfl rfl hl.1 rfl (lv_room (Nat.le_of_ble_eq_true rfl)) d_NoCarries_writePart_88 ⟨by rw [hR]; exact (show d9 + (rPh rwk9) ≤ (rPh rwk) by omega), by rw [hR]; exact (show d9 + (rPh rwk9) ≤ (rPh rwk) by omega)⟩) hP hD hS hA [0, 1, 2] [] rfl rfl (by decide +kernel) (by decide +kernel) (fun u9 d_88 H locs hd_88 hw_88 hP hD hS => ?_)
            obtain ⟨rwaq_88, rwkq_88, rwfq_88⟩ := u9
            obtain ⟨hrw_88, hGrw_88⟩ : rOk (nI (e9.2.2 ++ [e9.2.1 / 16777216 % 256]).length) rwkq_88 ∧ gIs rwfq_88 (e9.2.2 ++ [e9.2.1 / 16777216 % 256]) := hw_88
            have hd_88 : d_88 + (rPh rwkq_88) ≤ (rPh rwk9) := hd_88
            have hP : va_P (dC, dI) vwCl [(co, Sum.inr (2, [Value.long (lN (mvL e9.2.1)), Value.long (lN (mvR e9.2.1 e9.1)), Value.long xcode, Value.long xreadLow, Value.long xreadRange, Value.ref ri, Value.ref ro, Value.ref rw, Value.int xasked])), (rw, Sum.inr (0, [Value.int (nI (e9.2.2 ++ [e9.2.1 / 16777216 % 256]).length), Value.ref rwaq_88])), (rwaq_88, Sum.inl (cI, rwkq_88, Sum.inl rwfq_88))] H := hP
            have hD : va_D A [(co, Sum.inr (2, [Value.long (lN (mvL e9.2.1)), Value.long (lN (mvR e9.2.1 e9.1)), Value.long xcode, Value.long xreadLow, Value.long xreadRange, Value.ref ri, Value.ref ro, Value.ref rw, Value.int xasked])), (rw, Sum.inr (0, [Value.int (nI (e9.2.2 ++ [e9.2.1 / 16777216 % 256]).length), Value.ref rwaq_88])), (rwaq_88, Sum.inl (cI, rwkq_88, Sum.inl rwfq_88))] := hD
            obtain ⟨v_13, ev_13⟩ : ∃ y : Int32, y = (nI (8 - k9)) + (1) := ⟨_, rfl⟩
            refine lv_iinc (v := v_13) (lv' := [(6, Value.int v_13), (4, Value.long (lN (Rg / tt))), (0, Value.ref co), (1, Value.int (nI ff)), (2, Value.int (nI cc)), (3, Value.int (nI tt))]) hx hb d_NoCarries_writePart_91 hl (k := 0) rfl (by rw [ev_13]; rfl) (by decide) rfl (fun ls hl => ?_)
            have z9 : v_13 = nI (8 - (k9 - 1)) := by rw [ev_13, show 8 - (k9 - 1) = 8 - k9 + 1 by omega]; exact nI_1 _
            subst z9
            refine lv_goto (tgt := 51) hx hb d_NoCarries_writePart_94 (by decide) ?_
            exact ih9_51 _ (by first | omega | (omega)) (mvR e9.2.1 e9.1, mvL e9.2.1, e9.2.2 ++ [e9.2.1 / 16777216 % 256]) (k9 - 1) rwaq_88 rwkq_88 rwfq_88 (d9 + d_88) rfl (by rw [hE9, plN_s (by omega) hmv]) ((plI_st hI9 hmv).2) (by have z9 := (plI_st hI9 hmv).1; show (e9.2.2 ++ [_]).length + (k9 - 1) ≤ _; rw [List.length_append, List.length_singleton]; omega) (hrw_88) (hGrw_88) (by omega) H locs ls (hP.sub [0, 1, 2] rfl) (hD.sub [0, 1, 2] (by decide +kernel) rfl) hS (lv_sub hl [0, 1, 2, 3, 4, 5] rfl)
    exact J_51 _ (rf, L + rc, bs) (8 : Nat) rwa rwk rwf (0 : Nat) rfl (rfl) (plI_0 (R := rf) (L := L + rc) ⟨by omega, by omega, by omega, fun z => by have := hp4 (by omega); omega⟩) (by show bs.length + 8 ≤ _; omega) (hrw) (hGrw) (by omega) H locs ls (hP.sub [0, 1, 2] rfl) (hD.sub [0, 1, 2] (by decide +kernel) rfl) hS (lv_sub hl [0, 1, 2, 3, 4, 5] rfl)
set_option maxHeartbeats 2000000 in
set_option maxRecDepth 100000 in
theorem f_NoCarries_writeValue (l : Launch) (dC : Nat → ClassId) (dI : Nat → Nat → Nat) (cI cM cO : ClassId) (sz : Nat) (sl : Nat) (co : Nat) (xcode : Int64) (xreadLow : Int64) (xreadRange : Int64) (ri : Nat) (ro : Nat) (rw : Nat) (xasked : Int32) (Rg : Nat) (L : Nat) (rwa : Nat) (rwk : Nat) (rwf : Nat → Int32) (bs : List Nat) (v : Nat) (b : Nat) (hb1 : 1 ≤ b) (hb2 : b ≤ 12) (hv : v < 2 ^ b) (hp : pOk Rg L) (hR6 : 65536 ≤ Rg) (hrw : rOk (nI bs.length) rwk) (hGrw : gIs rwf bs) (hN9 : bs.length + 5 ≤ 7900) : MetVg l y_Ranged_writeValue (Cond.code y_Ranged_writeValue prog_8_method_8_code 3 none :: gw) ({ frames := 5, cells := rPh rwk, slots := rPh rwk, locals := 129 } : Room) (dC, dI) vwCl (kT cI cM cO) [Value.ref co, Value.int (nI v), Value.int (nI b)] [(co, Sum.inr (2, [Value.long (lN L), Value.long (lN Rg), Value.long xcode, Value.long xreadLow, Value.long xreadRange, Value.ref ri, Value.ref ro, Value.ref rw, Value.int xasked])), (rw, Sum.inr (0, [Value.int (nI bs.length), Value.ref rwa])), (rwa, Sum.inl (cI, rwk, Sum.inl rwf))] sz sl (fun (u : Nat × Nat × (Nat → Int32)) => rOk (nI ((plS (Rg / 2 ^ b * 1, L + Rg / 2 ^ b * v, bs)).2.2).length) u.2.1 ∧ gIs u.2.2 ((plS (Rg / 2 ^ b * 1, L + Rg / 2 ^ b * v, bs)).2.2)) (fun (u : Nat × Nat × (Nat → Int32)) => [(co, Sum.inr (2, [Value.long (lN (plS (Rg / 2 ^ b * 1, L + Rg / 2 ^ b * v, bs)).2.1), Value.long (lN (plS (Rg / 2 ^ b * 1, L + Rg / 2 ^ b * v, bs)).1), Value.long xcode, Value.long xreadLow, Value.long xreadRange, Value.ref ri, Value.ref ro, Value.ref rw, Value.int xasked])), (rw, Sum.inr (0, [Value.int (nI (plS (Rg / 2 ^ b * 1, L + Rg / 2 ^ b * v, bs)).2.2.length), Value.ref u.1])), (u.1, Sum.inl (cI, u.2.1, Sum.inl u.2.2))]) (rPh rwk) (fun (u : Nat × Nat × (Nat → Int32)) => rPh u.2.1) := by
  refine my_ofVg (cc := prog_8_method_8_code) (n := 3) (ret := none) (by decide) rfl (Nat.le_of_ble_eq_true rfl) ?_
  intro p e s m args below meth c R Q A ls H locs hx hb hr hts hown hlocks hml hnm hR hQ hA hl hP hK hN hD hS
  have hg : ∀ w ∈ gw, w.before args s = true := fun w h => hts w (List.mem_cons_of_mem _ h)
  have hown : s.vm.findClass "RangeCoders$Ranged" = some m.cls := hown
  have hl : lv_has ls 3 [(0, Value.ref co), (1, Value.int (nI v)), (2, Value.int (nI b))] := hl
  have hltw := rOk_lt hrw
  have hpw : 2 ^ b ≤ 2 ^ 12 := Nat.pow_le_pow_right (by decide) hb2
  have hpw0 : 0 < 2 ^ b := Nat.pow_pos (by decide)
  refine lv_aload_n hx hb d_Ranged_writeValue_0 rfl (lv_at hl 0 rfl) ?_
  refine lv_iconst (v := 1) hx hb d_Ranged_writeValue_1 (by decide) ?_
  refine lv_iload_n hx hb d_Ranged_writeValue_2 rfl (lv_at hl 1 rfl) ?_
  refine lv_iconst (v := 1) hx hb d_Ranged_writeValue_3 (by decide) ?_
  refine lv_iload_n hx hb d_Ranged_writeValue_4 rfl (lv_at hl 2 rfl) ?_
  refine lv_ishl hx hb d_Ranged_writeValue_5 ?_
  refine lv_topi (fun v_1 ev_1 => ?_)
  have z9 : v_1 = nI (2 ^ b) := by rw [ev_1]; exact shl1 b (by omega)
  subst z9
  refine W.eq (g2 := F0 m 6 ls [Value.int (nI (2 ^ b)), Value.int (nI v), Value.int (nI 1), Value.ref co]) rfl ?_
  refine my_cvg (wr := []) (va_runU (As := [Value.int (nI 1), Value.int (nI v), Value.int (nI (2 ^ b))]) (rest := []) ⟨hx, hb, hml, hown, hts⟩ (f_NoCarries_writePart l dC dI cI cM cO H.size (hSl H) co xcode xreadLow xreadRange ri ro rw xasked Rg L rwa rwk rwf bs v 1 (2 ^ b) (hpw0) (by omega) (hv) (by decide) (by omega) (by first | assumption | omega) (by first | assumption | omega) (by first | assumption | omega) (by omega)) (va_cwA 3 hts (my_gU k498 k500 k506 k507 k7 k508) rfl rfl rfl (hN.1 _ j499 rfl) (by decide +kernel) ⟨by rw [hR]; exact Nat.le_of_ble_eq_true rfl, by rw [hR]; exact Nat.le_of_ble_eq_true rfl⟩) (my_preVg hK hN (hP.sub [0, 1, 2] rfl) (hD.sub [0, 1, 2] (by decide +kernel) rfl) 0 rfl rfl) rfl rfl hl.1 rfl (lv_room (Nat.le_of_ble_eq_true rfl)) d_Ranged_writeValue_6 ⟨by rw [hR]; exact (show 0 + (rPh rwk) ≤ (rPh rwk) by omega), by rw [hR]; exact (show 0 + (rPh rwk) ≤ (rPh rwk) by omega)⟩) hP hD hS hA [0, 1, 2] [] rfl rfl (by decide +kernel) (by decide +kernel) (fun u9 d_6 H locs hd_6 hw_6 hP hD hS => ?_)
  obtain ⟨rwaq_6, rwkq_6, rwfq_6⟩ := u9
  obtain ⟨hrw_6, hGrw_6⟩ : rOk (nI ((plS (Rg / (2 ^ b) * 1, L + Rg / (2 ^ b) * v, bs)).2.2).length) rwkq_6 ∧ gIs rwfq_6 ((plS (Rg / (2 ^ b) * 1, L + Rg / (2 ^ b) * v, bs)).2.2) := hw_6
  have hd_6 : d_6 + (rPh rwkq_6) ≤ (rPh rwk) := hd_6
  have hP : va_P (dC, dI) vwCl [(co, Sum.inr (2, [Value.long (lN (plS (Rg / (2 ^ b) * 1, L + Rg / (2 ^ b) * v, bs)).2.1), Value.long (lN (plS (Rg / (2 ^ b) * 1, L + Rg / (2 ^ b) * v, bs)).1), Value.long xcode, Value.long xreadLow, Value.long xreadRange, Value.ref ri, Value.ref ro, Value.ref rw, Value.int xasked])), (rw, Sum.inr (0, [Value.int (nI (plS (Rg / (2 ^ b) * 1, L + Rg / (2 ^ b) * v, bs)).2.2.length), Value.ref rwaq_6])), (rwaq_6, Sum.inl (cI, rwkq_6, Sum.inl rwfq_6))] H := hP
  have hD : va_D A [(co, Sum.inr (2, [Value.long (lN (plS (Rg / (2 ^ b) * 1, L + Rg / (2 ^ b) * v, bs)).2.1), Value.long (lN (plS (Rg / (2 ^ b) * 1, L + Rg / (2 ^ b) * v, bs)).1), Value.long xcode, Value.long xreadLow, Value.long xreadRange, Value.ref ri, Value.ref ro, Value.ref rw, Value.int xasked])), (rw, Sum.inr (0, [Value.int (nI (plS (Rg / (2 ^ b) * 1, L + Rg / (2 ^ b) * v, bs)).2.2.length), Value.ref rwaq_6])), (rwaq_6, Sum.inl (cI, rwkq_6, Sum.inl rwfq_6))] := hD
  exact my_vretg hx hb hr hlocks hQ hK hS (rwaq_6, rwkq_6, rwfq_6) (show (0 + d_6) + (rPh rwkq_6) ≤ (rPh rwk) by omega) (show (0 + d_6) + (rPh rwkq_6) ≤ (rPh rwk) by omega) (⟨hrw_6, hGrw_6⟩) (hP.sub [0, 1, 2] rfl) (hD.sub [0, 1, 2] (by decide +kernel) rfl) d_Ranged_writeValue_9
set_option maxHeartbeats 2000000 in
set_option maxRecDepth 100000 in
theorem f_NoCarries_writeSign (l : Launch) (dC : Nat → ClassId) (dI : Nat → Nat → Nat) (cI cM cO : ClassId) (sz : Nat) (sl : Nat) (co : Nat) (xcode : Int64) (xreadLow : Int64) (xreadRange : Int64) (ri : Nat) (ro : Nat) (rw : Nat) (xasked : Int32) (Rg : Nat) (L : Nat) (rwa : Nat) (rwk : Nat) (rwf : Nat → Int32) (bs : List Nat) (oo : Nat) (osg : Int32) (ofc : Int32) (oca : Nat) (opa : Nat) (n : Nat) (ocf : Nat → Int32) (opl : Nat) (opf : Nat → Int32) (F : Nat → Nat) (t : Nat) (hn : n ≤ 64) (hpl : opl ≤ 512) (hf : tbI ocf n F) (ht : t < n) (hfc : ofc ≤ nI t) (hFt : 0 < F t) (hsum : ns F n ≤ 8192) (hp : pOk Rg L) (hR6 : 65536 ≤ Rg) (hrw : rOk (nI bs.length) rwk) (hGrw : gIs rwf bs) (hN9 : bs.length + 5 ≤ 7900) : MetVg l y_Ranged_writeSign (Cond.code y_Ranged_writeSign prog_8_method_7_code 3 none :: gw) ({ frames := 5, cells := rPh rwk, slots := rPh rwk, locals := 129 } : Room) (dC, dI) vwCl (kT cI cM cO) [Value.ref co, Value.ref oo, Value.int (nI t)] [(co, Sum.inr (2, [Value.long (lN L), Value.long (lN Rg), Value.long xcode, Value.long xreadLow, Value.long xreadRange, Value.ref ri, Value.ref ro, Value.ref rw, Value.int xasked])), (rw, Sum.inr (0, [Value.int (nI bs.length), Value.ref rwa])), (rwa, Sum.inl (cI, rwk, Sum.inl rwf)), (oo, Sum.inr (7, [Value.int osg, Value.int (nI (ns F n)), Value.int ofc, Value.ref oca, Value.ref opa])), (oca, Sum.inl (cI, n, Sum.inl ocf)), (opa, Sum.inl (cI, opl, Sum.inl opf))] sz sl (fun (u : Nat × Nat × (Nat → Int32) × (Nat → Int32)) => rOk (nI ((plS (Rg / ns F n * F t, L + Rg / ns F n * ns F t, bs)).2.2).length) u.2.1 ∧ gIs u.2.2.1 ((plS (Rg / ns F n * F t, L + Rg / ns F n * ns F t, bs)).2.2) ∧ tbI u.2.2.2 n (lrn n t F)) (fun (u : Nat × Nat × (Nat → Int32) × (Nat → Int32)) => [(co, Sum.inr (2, [Value.long (lN (plS (Rg / ns F n * F t, L + Rg / ns F n * ns F t, bs)).2.1), Value.long (lN (plS (Rg / ns F n * F t, L + Rg / ns F n * ns F t, bs)).1), Value.long xcode, Value.long xreadLow, Value.long xreadRange, Value.ref ri, Value.ref ro, Value.ref rw, Value.int xasked])), (rw, Sum.inr (0, [Value.int (nI (plS (Rg / ns F n * F t, L + Rg / ns F n * ns F t, bs)).2.2.length), Value.ref u.1])), (u.1, Sum.inl (cI, u.2.1, Sum.inl u.2.2.1)), (oo, Sum.inr (7, [Value.int osg, Value.int (nI (ns (lrn n t F) n)), Value.int ofc, Value.ref oca, Value.ref opa])), (oca, Sum.inl (cI, n, Sum.inl u.2.2.2)), (opa, Sum.inl (cI, opl, Sum.inl opf))]) (rPh rwk) (fun (u : Nat × Nat × (Nat → Int32) × (Nat → Int32)) => rPh u.2.1) := by
  refine my_ofVg (cc := prog_8_method_7_code) (n := 3) (ret := none) (by decide) rfl (Nat.le_of_ble_eq_true rfl) ?_
  intro p e s m args below meth c R Q A ls H locs hx hb hr hts hown hlocks hml hnm hR hQ hA hl hP hK hN hD hS
  have hg : ∀ w ∈ gw, w.before args s = true := fun w h => hts w (List.mem_cons_of_mem _ h)
  have hown : s.vm.findClass "RangeCoders$Ranged" = some m.cls := hown
  have hl : lv_has ls 3 [(0, Value.ref co), (1, Value.ref oo), (2, Value.int (nI t))] := hl
  have hltw := rOk_lt hrw
  have hm1 := ns_m1 F ht
  have hbd : bd F n 100000 := fun k hk => by have := ns_ge (F := F) hk; omega
  refine lv_aload_n hx hb d_Ranged_writeSign_0 rfl (lv_at hl 0 rfl) ?_
  refine lv_aload_n hx hb d_Ranged_writeSign_1 rfl (lv_at hl 1 rfl) ?_
  refine lv_iload_n hx hb d_Ranged_writeSign_2 rfl (lv_at hl 2 rfl) ?_
  refine my_ci (wr := [(co, Sum.inr (2, [Value.long (lN L), Value.long (lN Rg), Value.long xcode, Value.long xreadLow, Value.long xreadRange, Value.ref ri, Value.ref ro, Value.ref rw, Value.int xasked])), (rw, Sum.inr (0, [Value.int (nI bs.length), Value.ref rwa])), (rwa, Sum.inl (cI, rwk, Sum.inl rwf))]) (va_runV (As := [Value.int (nI t)]) (rest := [Value.ref co]) ⟨hx, hb, hml, hown, hts⟩ (f_Odds_at l dC dI cI cM cO H.size oo osg ofc oca opa n ocf opl opf (nI (ns F n)) t (by first | assumption | omega) (by first | assumption | omega) (by first | assumption | omega) (by first | assumption | omega)) (cwV 1 hts (my_gV k493 k436 k437 k14 k438) rfl rfl rfl (by decide +kernel) ⟨by rw [hR]; exact Nat.le_of_ble_eq_true rfl, by rw [hR]; exact Nat.le_of_ble_eq_true rfl⟩) (my_preV hK hN (hP.sub [3, 4, 5] rfl) (hD.sub [3, 4, 5] (by decide +kernel) rfl) 0 rfl rfl) rfl rfl hl.1 rfl (lv_room (Nat.le_of_ble_eq_true rfl)) d_Ranged_writeSign_3 ⟨by rw [hR]; exact (show 0 + 0 ≤ (rPh rwk) by omega), by rw [hR]; exact (show 0 + 0 ≤ (rPh rwk) by omega)⟩) hP hD hS hA [3, 4, 5] [0, 1, 2] rfl rfl (by decide +kernel) (by decide +kernel) (fun r_3 u9 H locs hw_3 hP hD hS => ?_)
  have hr_3 : r_3 = ocf t := hw_3
  have hP : va_P (dC, dI) vwCl [(co, Sum.inr (2, [Value.long (lN L), Value.long (lN Rg), Value.long xcode, Value.long xreadLow, Value.long xreadRange, Value.ref ri, Value.ref ro, Value.ref rw, Value.int xasked])), (rw, Sum.inr (0, [Value.int (nI bs.length), Value.ref rwa])), (rwa, Sum.inl (cI, rwk, Sum.inl rwf)), (oo, Sum.inr (7, [Value.int osg, Value.int (nI (ns F n)), Value.int ofc, Value.ref oca, Value.ref opa])), (oca, Sum.inl (cI, n, Sum.inl ocf)), (opa, Sum.inl (cI, opl, Sum.inl opf))] H := hP
  have hD : va_D A [(co, Sum.inr (2, [Value.long (lN L), Value.long (lN Rg), Value.long xcode, Value.long xreadLow, Value.long xreadRange, Value.ref ri, Value.ref ro, Value.ref rw, Value.int xasked])), (rw, Sum.inr (0, [Value.int (nI bs.length), Value.ref rwa])), (rwa, Sum.inl (cI, rwk, Sum.inl rwf)), (oo, Sum.inr (7, [Value.int osg, Value.int (nI (ns F n)), Value.int ofc, Value.ref oca, Value.ref opa])), (oca, Sum.inl (cI, n, Sum.inl ocf)), (opa, Sum.inl (cI, opl, Sum.inl opf))] := hD
  rw [hf t ht] at hr_3
  have z9 : r_3 = nI (F t) := hr_3
  subst z9
  refine lv_aload_n hx hb d_Ranged_writeSign_6 rfl (lv_at hl 1 rfl) ?_
  refine lv_iload_n hx hb d_Ranged_writeSign_7 rfl (lv_at hl 2 rfl) ?_
  refine my_ci (wr := [(co, Sum.inr (2, [Value.long (lN L), Value.long (lN Rg), Value.long xcode, Value.long xreadLow, Value.long xreadRange, Value.ref ri, Value.ref ro, Value.ref rw, Value.int xasked])), (rw, Sum.inr (0, [Value.int (nI bs.length), Value.ref rwa])), (rwa, Sum.inl (cI, rwk, Sum.inl rwf))]) (va_runV (As := [Value.int (nI t)]) (rest := [Value.int (nI (F t)), Value.ref co]) ⟨hx, hb, hml, hown, hts⟩ (f_Odds_below l dC dI cI cM cO H.size oo osg ofc oca opa n ocf opl opf F (nI (ns F n)) t (by first | assumption | omega) (by first | assumption | omega) (by first | assumption | omega) (by omega)) (cwV 1 hts (my_gV k494 k495 k496 k14 k497) rfl rfl rfl (by decide +kernel) ⟨by rw [hR]; exact Nat.le_of_ble_eq_true rfl, by rw [hR]; exact Nat.le_of_ble_eq_true rfl⟩) (my_preV hK hN (hP.sub [3, 4, 5] rfl) (hD.sub [3, 4, 5] (by decide +kernel) rfl) 0 rfl rfl) rfl rfl hl.1 rfl (lv_room (Nat.le_of_ble_eq_true rfl)) d_Ranged_writeSign_8 ⟨by rw [hR]; exact (show 0 + 0 ≤ (rPh rwk) by omega), by rw [hR]; exact (show 0 + 0 ≤ (rPh rwk) by omega)⟩) hP hD hS hA [3, 4, 5] [0, 1, 2] rfl rfl (by decide +kernel) (by decide +kernel) (fun r_8 u9 H locs hw_8 hP hD hS => ?_)
  have hr_8 : r_8 = nI (ns F t) := hw_8
  have hP : va_P (dC, dI) vwCl [(co, Sum.inr (2, [Value.long (lN L), Value.long (lN Rg), Value.long xcode, Value.long xreadLow, Value.long xreadRange, Value.ref ri, Value.ref ro, Value.ref rw, Value.int xasked])), (rw, Sum.inr (0, [Value.int (nI bs.length), Value.ref rwa])), (rwa, Sum.inl (cI, rwk, Sum.inl rwf)), (oo, Sum.inr (7, [Value.int osg, Value.int (nI (ns F n)), Value.int ofc, Value.ref oca, Value.ref opa])), (oca, Sum.inl (cI, n, Sum.inl ocf)), (opa, Sum.inl (cI, opl, Sum.inl opf))] H := hP
  have hD : va_D A [(co, Sum.inr (2, [Value.long (lN L), Value.long (lN Rg), Value.long xcode, Value.long xreadLow, Value.long xreadRange, Value.ref ri, Value.ref ro, Value.ref rw, Value.int xasked])), (rw, Sum.inr (0, [Value.int (nI bs.length), Value.ref rwa])), (rwa, Sum.inl (cI, rwk, Sum.inl rwf)), (oo, Sum.inr (7, [Value.int osg, Value.int (nI (ns F n)), Value.int ofc, Value.ref oca, Value.ref opa])), (oca, Sum.inl (cI, n, Sum.inl ocf)), (opa, Sum.inl (cI, opl, Sum.inl opf))] := hD
  have z9 : r_8 = nI (ns F t) := hr_8
  subst z9
  refine lv_aload_n hx hb d_Ranged_writeSign_11 rfl (lv_at hl 1 rfl) ?_
  refine va_get (D := (dC, dI)) (ci := 7) (v := .int (nI (ns F n))) (C := "RangeCoders$Odds") (T := T_Odds) (N := 5) hx hb hg in_Odds hown hK hP 3 rfl rfl 1 (by decide) (hg _ k306) (fun _ h9 => h9) rfl d_Ranged_writeSign_12 ?_
  refine my_cvg (wr := [(oo, Sum.inr (7, [Value.int osg, Value.int (nI (ns F n)), Value.int ofc, Value.ref oca, Value.ref opa])), (oca, Sum.inl (cI, n, Sum.inl ocf)), (opa, Sum.inl (cI, opl, Sum.inl opf))]) (va_runU (As := [Value.int (nI (F t)), Value.int (nI (ns F t)), Value.int (nI (ns F n))]) (rest := []) ⟨hx, hb, hml, hown, hts⟩ (f_NoCarries_writePart l dC dI cI cM cO H.size (hSl H) co xcode xreadLow xreadRange ri ro rw xasked Rg L rwa rwk rwf bs (ns F t) (F t) (ns F n) (by omega) (by omega) (hm1) (hFt) (by omega) (by first | assumption | omega) (by first | assumption | omega) (by first | assumption | omega) (by first | assumption | omega)) (va_cwA 3 hts (my_gU k498 k500 k506 k507 k7 k508) rfl rfl rfl (hN.1 _ j499 rfl) (by decide +kernel) ⟨by rw [hR]; exact Nat.le_of_ble_eq_true rfl, by rw [hR]; exact Nat.le_of_ble_eq_true rfl⟩) (my_preVg hK hN (hP.sub [0, 1, 2] rfl) (hD.sub [0, 1, 2] (by decide +kernel) rfl) 0 rfl rfl) rfl rfl hl.1 rfl (lv_room (Nat.le_of_ble_eq_true rfl)) d_Ranged_writeSign_15 ⟨by rw [hR]; exact (show 0 + (rPh rwk) ≤ (rPh rwk) by omega), by rw [hR]; exact (show 0 + (rPh rwk) ≤ (rPh rwk) by omega)⟩) hP hD hS hA [0, 1, 2] [3, 4, 5] rfl rfl (by decide +kernel) (by decide +kernel) (fun u9 d_15 H locs hd_15 hw_15 hP hD hS => ?_)
  obtain ⟨rwaq_15, rwkq_15, rwfq_15⟩ := u9
  obtain ⟨hrw_15, hGrw_15⟩ : rOk (nI ((plS (Rg / (ns F n) * (F t), L + Rg / (ns F n) * (ns F t), bs)).2.2).length) rwkq_15 ∧ gIs rwfq_15 ((plS (Rg / (ns F n) * (F t), L + Rg / (ns F n) * (ns F t), bs)).2.2) := hw_15
  have hd_15 : d_15 + (rPh rwkq_15) ≤ (rPh rwk) := hd_15
  have hP : va_P (dC, dI) vwCl [(oo, Sum.inr (7, [Value.int osg, Value.int (nI (ns F n)), Value.int ofc, Value.ref oca, Value.ref opa])), (oca, Sum.inl (cI, n, Sum.inl ocf)), (opa, Sum.inl (cI, opl, Sum.inl opf)), (co, Sum.inr (2, [Value.long (lN (plS (Rg / (ns F n) * (F t), L + Rg / (ns F n) * (ns F t), bs)).2.1), Value.long (lN (plS (Rg / (ns F n) * (F t), L + Rg / (ns F n) * (ns F t), bs)).1), Value.long xcode, Value.long xreadLow, Value.long xreadRange, Value.ref ri, Value.ref ro, Value.ref rw, Value.int xasked])), (rw, Sum.inr (0, [Value.int (nI (plS (Rg / (ns F n) * (F t), L + Rg / (ns F n) * (ns F t), bs)).2.2.length), Value.ref rwaq_15])), (rwaq_15, Sum.inl (cI, rwkq_15, Sum.inl rwfq_15))] H := hP
  have hD : va_D A [(oo, Sum.inr (7, [Value.int osg, Value.int (nI (ns F n)), Value.int ofc, Value.ref oca, Value.ref opa])), (oca, Sum.inl (cI, n, Sum.inl ocf)), (opa, Sum.inl (cI, opl, Sum.inl opf)), (co, Sum.inr (2, [Value.long (lN (plS (Rg / (ns F n) * (F t), L + Rg / (ns F n) * (ns F t), bs)).2.1), Value.long (lN (plS (Rg / (ns F n) * (F t), L + Rg / (ns F n) * (ns F t), bs)).1), Value.long xcode, Value.long xreadLow, Value.long xreadRange, Value.ref ri, Value.ref ro, Value.ref rw, Value.int xasked])), (rw, Sum.inr (0, [Value.int (nI (plS (Rg / (ns F n) * (F t), L + Rg / (ns F n) * (ns F t), bs)).2.2.length), Value.ref rwaq_15])), (rwaq_15, Sum.inl (cI, rwkq_15, Sum.inl rwfq_15))] := hD
  refine lv_aload_n hx hb d_Ranged_writeSign_18 rfl (lv_at hl 1 rfl) ?_
  refine lv_iload_n hx hb d_Ranged_writeSign_19 rfl (lv_at hl 2 rfl) ?_
  refine my_cv (wr := [(co, Sum.inr (2, [Value.long (lN (plS (Rg / (ns F n) * (F t), L + Rg / (ns F n) * (ns F t), bs)).2.1), Value.long (lN (plS (Rg / (ns F n) * (F t), L + Rg / (ns F n) * (ns F t), bs)).1), Value.long xcode, Value.long xreadLow, Value.long xreadRange, Value.ref ri, Value.ref ro, Value.ref rw, Value.int xasked])), (rw, Sum.inr (0, [Value.int (nI (plS (Rg / (ns F n) * (F t), L + Rg / (ns F n) * (ns F t), bs)).2.2.length), Value.ref rwaq_15])), (rwaq_15, Sum.inl (cI, rwkq_15, Sum.inl rwfq_15))]) (va_runV (As := [Value.int (nI t)]) (rest := []) ⟨hx, hb, hml, hown, hts⟩ (f_Odds_learn l dC dI cI cM cO H.size oo osg ofc oca opa n ocf opl opf F t (by first | assumption | omega) (by first | assumption | omega) (by first | assumption | omega) (by first | assumption | omega) (by first | assumption | omega) (hbd)) (cwV 1 hts (my_gV k526 k527 k528 k14 k529) rfl rfl rfl (by decide +kernel) ⟨by rw [hR]; exact Nat.le_of_ble_eq_true rfl, by rw [hR]; exact Nat.le_of_ble_eq_true rfl⟩) (my_preV hK hN (hP.sub [0, 1, 2] rfl) (hD.sub [0, 1, 2] (by decide +kernel) rfl) 0 rfl rfl) rfl rfl hl.1 rfl (lv_room (Nat.le_of_ble_eq_true rfl)) d_Ranged_writeSign_20 ⟨by rw [hR]; exact (show (0 + d_15) + 0 ≤ (rPh rwk) by omega), by rw [hR]; exact (show (0 + d_15) + 0 ≤ (rPh rwk) by omega)⟩) hP hD hS hA [0, 1, 2] [3, 4, 5] rfl rfl (by decide +kernel) (by decide +kernel) (fun u9 H locs hw_20 hP hD hS => ?_)
  obtain ⟨ocfq_20, rfl⟩ : ∃ z, z = u9 := ⟨_, rfl⟩
  have hf_20 : tbI ocfq_20 n (lrn n t F) := hw_20
  have hP : va_P (dC, dI) vwCl [(co, Sum.inr (2, [Value.long (lN (plS (Rg / (ns F n) * (F t), L + Rg / (ns F n) * (ns F t), bs)).2.1), Value.long (lN (plS (Rg / (ns F n) * (F t), L + Rg / (ns F n) * (ns F t), bs)).1), Value.long xcode, Value.long xreadLow, Value.long xreadRange, Value.ref ri, Value.ref ro, Value.ref rw, Value.int xasked])), (rw, Sum.inr (0, [Value.int (nI (plS (Rg / (ns F n) * (F t), L + Rg / (ns F n) * (ns F t), bs)).2.2.length), Value.ref rwaq_15])), (rwaq_15, Sum.inl (cI, rwkq_15, Sum.inl rwfq_15)), (oo, Sum.inr (7, [Value.int osg, Value.int (nI (ns (lrn n t F) n)), Value.int ofc, Value.ref oca, Value.ref opa])), (oca, Sum.inl (cI, n, Sum.inl ocfq_20)), (opa, Sum.inl (cI, opl, Sum.inl opf))] H := hP
  have hD : va_D A [(co, Sum.inr (2, [Value.long (lN (plS (Rg / (ns F n) * (F t), L + Rg / (ns F n) * (ns F t), bs)).2.1), Value.long (lN (plS (Rg / (ns F n) * (F t), L + Rg / (ns F n) * (ns F t), bs)).1), Value.long xcode, Value.long xreadLow, Value.long xreadRange, Value.ref ri, Value.ref ro, Value.ref rw, Value.int xasked])), (rw, Sum.inr (0, [Value.int (nI (plS (Rg / (ns F n) * (F t), L + Rg / (ns F n) * (ns F t), bs)).2.2.length), Value.ref rwaq_15])), (rwaq_15, Sum.inl (cI, rwkq_15, Sum.inl rwfq_15)), (oo, Sum.inr (7, [Value.int osg, Value.int (nI (ns (lrn n t F) n)), Value.int ofc, Value.ref oca, Value.ref opa])), (oca, Sum.inl (cI, n, Sum.inl ocfq_20)), (opa, Sum.inl (cI, opl, Sum.inl opf))] := hD
  exact my_vretg hx hb hr hlocks hQ hK hS (rwaq_15, rwkq_15, rwfq_15, ocfq_20) (show (0 + d_15) + (rPh rwkq_15) ≤ (rPh rwk) by omega) (show (0 + d_15) + (rPh rwkq_15) ≤ (rPh rwk) by omega) (⟨hrw_15, hGrw_15, hf_20⟩) (hP.sub [0, 1, 2, 3, 4, 5] rfl) (hD.sub [0, 1, 2, 3, 4, 5] (by decide +kernel) rfl) d_Ranged_writeSign_23
set_option maxHeartbeats 2000000 in
set_option maxRecDepth 100000 in
theorem f_NoCarries_flush (l : Launch) (dC : Nat → ClassId) (dI : Nat → Nat → Nat) (cI cM cO : ClassId) (sz : Nat) (sl : Nat) (co : Nat) (xrange : Int64) (xcode : Int64) (xreadLow : Int64) (xreadRange : Int64) (ri : Nat) (ro : Nat) (rw : Nat) (xasked : Int32) (L : Nat) (rwa : Nat) (rwk : Nat) (rwf : Nat → Int32) (bs : List Nat) (hL : L < 4294967296) (hrw : rOk (nI bs.length) rwk) (hGrw : gIs rwf bs) (hN9 : bs.length + 5 ≤ 7900) : MetVg l y_NoCarries_flush (Cond.code y_NoCarries_flush prog_6_method_4_code 2 none :: gw) ({ frames := 4, cells := rPh rwk, slots := rPh rwk, locals := 103 } : Room) (dC, dI) vwCl (kT cI cM cO) [Value.ref co] [(co, Sum.inr (2, [Value.long (lN L), Value.long xrange, Value.long xcode, Value.long xreadLow, Value.long xreadRange, Value.ref ri, Value.ref ro, Value.ref rw, Value.int xasked])), (rw, Sum.inr (0, [Value.int (nI bs.length), Value.ref rwa])), (rwa, Sum.inl (cI, rwk, Sum.inl rwf))] sz sl (fun (u : Nat × Nat × (Nat → Int32)) => rOk (nI ((tpK 4 (L, bs)).2).length) u.2.1 ∧ gIs u.2.2 ((tpK 4 (L, bs)).2)) (fun (u : Nat × Nat × (Nat → Int32)) => [(co, Sum.inr (2, [Value.long (lN (tpK 4 (L, bs)).1), Value.long xrange, Value.long xcode, Value.long xreadLow, Value.long xreadRange, Value.ref ri, Value.ref ro, Value.ref rw, Value.int xasked])), (rw, Sum.inr (0, [Value.int (nI (tpK 4 (L, bs)).2.length), Value.ref u.1])), (u.1, Sum.inl (cI, u.2.1, Sum.inl u.2.2))]) (rPh rwk) (fun (u : Nat × Nat × (Nat → Int32)) => rPh u.2.1) := by
  refine my_ofVg (cc := prog_6_method_4_code) (n := 2) (ret := none) (by decide) rfl (Nat.le_of_ble_eq_true rfl) ?_
  intro p e s m args below meth c R Q A ls H locs hx hb hr hts hown hlocks hml hnm hR hQ hA hl hP hK hN hD hS
  have hg : ∀ w ∈ gw, w.before args s = true := fun w h => hts w (List.mem_cons_of_mem _ h)
  have hown : s.vm.findClass "RangeCoders$NoCarries" = some m.cls := hown
  have hl : lv_has ls 2 [(0, Value.ref co)] := hl
  have hltw := rOk_lt hrw
  refine lv_iconst (v := 0) hx hb d_NoCarries_flush_0 (by decide) ?_
  refine lv_istore_n (lv' := [(1, Value.int 0), (0, Value.ref co)]) hx hb d_NoCarries_flush_1 rfl hl (by decide) rfl (fun ls hl => ?_)
  have J_2 : ∀ (n9_2 : Nat) (j : Nat) (e9 : Nat × List Nat) (rwa9 : Nat) (rwk9 : Nat) (rwf9 : Nat → Int32) (d9 : Nat) (hn9_2 : 4 - j = n9_2) (hj : j ≤ 4) (hE9 : tpK 4 (L, bs) = tpK (4 - j) e9) (hL9 : e9.1 < 4294967296) (hM9 : e9.2.length ≤ 7895 + j) (hr9 : rOk (nI e9.2.length) rwk9) (hg9 : gIs rwf9 e9.2) (hd9 : d9 + rPh rwk9 ≤ rPh rwk) (H : Heap) (locs : List Loc) (ls : Array Slot), va_P (dC, dI) vwCl [(co, Sum.inr (2, [Value.long (lN e9.1), Value.long xrange, Value.long xcode, Value.long xreadLow, Value.long xreadRange, Value.ref ri, Value.ref ro, Value.ref rw, Value.int xasked])), (rw, Sum.inr (0, [Value.int (nI e9.2.length), Value.ref rwa9])), (rwa9, Sum.inl (cI, rwk9, Sum.inl rwf9))] H → va_D A [(co, Sum.inr (2, [Value.long (lN e9.1), Value.long xrange, Value.long xcode, Value.long xreadLow, Value.long xreadRange, Value.ref ri, Value.ref ro, Value.ref rw, Value.int xasked])), (rw, Sum.inr (0, [Value.int (nI e9.2.length), Value.ref rwa9])), (rwa9, Sum.inl (cI, rwk9, Sum.inl rwf9))] → va_S A s.heap H locs → lv_has ls 2 [(1, Value.int (nI j)), (0, Value.ref co)] → W p l e R s m args below meth c H locs d9 d9 Q (F0 m 2 ls []) := by
    intro n9_2
    induction n9_2 using Nat.strongRecOn with
    | ind n9_2 ih9_2 =>
      intro j e9 rwa9 rwk9 rwf9 d9 hn9_2 hj hE9 hL9 hM9 hr9 hg9 hd9 H locs ls hP hD hS hl
      refine lv_iload_n hx hb d_NoCarries_flush_2 rfl (lv_at hl 0 rfl) ?_
      refine lv_iconst (v := 4) hx hb d_NoCarries_flush_3 (by decide) ?_
      refine lv_icmp_ge (tgt := 17) hx hb d_NoCarries_flush_4 (by decide) (fun c_1 => ?_) (fun c_1 => ?_)
      · have hj3 : j = 4 := by have := nI_ge' (n := 4) (by omega) (by decide) c_1; omega
        have z9 : e9 = tpK 4 (L, bs) := by rw [hE9, hj3]; rfl
        subst z9
        exact my_vretg hx hb hr hlocks hQ hK hS (rwa9, rwk9, rwf9) (show d9 + (rPh rwk9) ≤ (rPh rwk) by omega) (show d9 + (rPh rwk9) ≤ (rPh rwk) by omega) (⟨hr9, hg9⟩) (hP.sub [0, 1, 2] rfl) (hD.sub [0, 1, 2] (by decide +kernel) rfl) d_NoCarries_flush_17
      · have hj2 : j < 4 := nI_lt' (by omega) c_1
        refine lv_aload_n hx hb d_NoCarries_flush_7 rfl (lv_at hl 1 rfl) ?_
        refine my_cvg (wr := []) (va_runV (As := []) (rest := []) ⟨hx, hb, hml, hown, hts⟩ (f_NoCarries_writeTop l dC dI cI cM cO H.size (hSl H) co xrange xcode xreadLow xreadRange ri ro rw xasked e9.1 rwa9 rwk9 rwf9 e9.2 (hL9) (hr9) (hg9) (by omega)) (cwV 0 hts (my_gV k521 k523 ks8 k7 k524) rfl rfl rfl (by decide +kernel) ⟨by rw [hR]; exact Nat.le_of_ble_eq_true rfl, by rw [hR]; exact Nat.le_of_ble_eq_true rfl⟩) (my_preVg hK hN (hP.sub [0, 1, 2] rfl) (hD.sub [0, 1, 2] (by decide +kernel) rfl) 0 rfl rfl) rfl rfl hl.1 rfl (lv_room (Nat.le_of_ble_eq_true rfl)) d_NoCarries_flush_8 ⟨by rw [hR]; exact (show d9 + (rPh rwk9) ≤ (rPh rwk) by omega), by rw [hR]; exact (show d9 + (rPh rwk9) ≤ (rPh rwk) by omega)⟩) hP hD hS hA [0, 1, 2] [] rfl rfl (by decide +kernel) (by decide +kernel) (fun u9 d_8 H locs hd_8 hw_8 hP hD hS => ?_)
        obtain ⟨rwaq_8, rwkq_8, rwfq_8⟩ := u9
        obtain ⟨hrw_8, hGrw_8⟩ : rOk (nI (e9.2 ++ [e9.1 / 16777216 % 256]).length) rwkq_8 ∧ gIs rwfq_8 (e9.2 ++ [e9.1 / 16777216 % 256]) := hw_8
        have hd_8 : d_8 + (rPh rwkq_8) ≤ (rPh rwk9) := hd_8
        have hP : va_P (dC, dI) vwCl [(co, Sum.inr (2, [Value.long (lN (mvL e9.1)), Value.long xrange, Value.long xcode, Value.long xreadLow, Value.long xreadRange, Value.ref ri, Value.ref ro, Value.ref rw, Value.int xasked])), (rw, Sum.inr (0, [Value.int (nI (e9.2 ++ [e9.1 / 16777216 % 256]).length), Value.ref rwaq_8])), (rwaq_8, Sum.inl (cI, rwkq_8, Sum.inl rwfq_8))] H := hP
        have hD : va_D A [(co, Sum.inr (2, [Value.long (lN (mvL e9.1)), Value.long xrange, Value.long xcode, Value.long xreadLow, Value.long xreadRange, Value.ref ri, Value.ref ro, Value.ref rw, Value.int xasked])), (rw, Sum.inr (0, [Value.int (nI (e9.2 ++ [e9.1 / 16777216 % 256]).length), Value.ref rwaq_8])), (rwaq_8, Sum.inl (cI, rwkq_8, Sum.inl rwfq_8))] := hD
        obtain ⟨v_2, ev_2⟩ : ∃ y : Int32, y = (nI j) + (1) := ⟨_, rfl⟩
        refine lv_iinc (v := v_2) (lv' := [(1, Value.int v_2), (0, Value.ref co)]) hx hb d_NoCarries_flush_11 hl (k := 0) rfl (by rw [ev_2]; rfl) (by decide) rfl (fun ls hl => ?_)
        have z9 : v_2 = nI (j + 1) := by rw [ev_2]; exact nI_1 _
        subst z9
        refine lv_goto (tgt := 2) hx hb d_NoCarries_flush_14 (by decide) ?_
        exact ih9_2 _ (by first | omega | (omega)) (j + 1) (mvL e9.1, e9.2 ++ [e9.1 / 16777216 % 256]) rwaq_8 rwkq_8 rwfq_8 (d9 + d_8) rfl (by omega) (by rw [hE9, show 4 - j = (4 - (j + 1)) + 1 by omega]; rfl) (Nat.mod_lt _ (by decide)) (by show (e9.2 ++ [_]).length ≤ _; rw [List.length_append, List.length_singleton]; omega) (hrw_8) (hGrw_8) (by omega) H locs ls (hP.sub [0, 1, 2] rfl) (hD.sub [0, 1, 2] (by decide +kernel) rfl) hS (lv_sub hl [0, 1] rfl)
  exact J_2 _ (0 : Nat) (L, bs) rwa rwk rwf (0 : Nat) rfl (by decide) (rfl) (hL) (by show bs.length ≤ _; omega) (hrw) (hGrw) (by omega) H locs ls (hP.sub [0, 1, 2] rfl) (hD.sub [0, 1, 2] (by decide +kernel) rfl) hS (lv_sub hl [0, 1] rfl)

