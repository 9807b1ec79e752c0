set_option maxHeartbeats 2000000 in
set_option maxRecDepth 100000 in
theorem f_Model_hasSign (l : Launch) (dC : Nat → ClassId) (dI : Nat → Nat → Nat) (cI cM cO : ClassId) (sz : Nat) (mo : Nat) (ka : Nat) (oo : Nat) (o2 : Nat) (kl : Nat) (kf : Nat → Int32) (ii : Int32) (hkl : kl ≤ 64) : MetI l y_Model_hasSign (Cond.code y_Model_hasSign prog_5_method_2_code 2 (some .boolean) :: gw) ({ frames := 0, cells := 0, slots := 0, locals := 0 } : Room) (dC, dI) vwCl (kT cI cM cO) [Value.ref mo, Value.int ii] [(mo, Sum.inr (8, [Value.ref ka, Value.ref oo, Value.ref o2])), (ka, Sum.inl (cI, kl, Sum.inl kf))] sz (fun (r : Int32) (u : Unit) => r = if 0 ≤ ii ∧ ii < nI kl then 1 else 0) (fun (u : Unit) => [(mo, Sum.inr (8, [Value.ref ka, Value.ref oo, Value.ref o2])), (ka, Sum.inl (cI, kl, Sum.inl kf))]) 0 0 := by
  refine my_ofI (cc := prog_5_method_2_code) (n := 2) (ret := (some .boolean)) (by decide) rfl (Nat.le_of_ble_eq_true rfl) ?_
  intro p e s m args below meth c R Q A ls H locs hx hb hr hts hown hlocks hml hnm hR hQ hA hl hP hK hN hD hS
  have hg : ∀ w ∈ gw, w.before args s = true := fun w h => hts w (List.mem_cons_of_mem _ h)
  have hown : s.vm.findClass "RangeCoders$Model" = some m.cls := hown
  have hl : lv_has ls 2 [(0, Value.ref mo), (1, Value.int ii)] := hl
  refine lv_iload_n hx hb d_Model_hasSign_0 rfl (lv_at hl 1 rfl) ?_
  refine lv_if_lt (tgt := 17) hx hb d_Model_hasSign_1 (by decide) (fun c_1 => ?_) (fun c_1 => ?_)
  · refine lv_iconst (v := 0) hx hb d_Model_hasSign_17 (by decide) ?_
    exact my_iret (v := 0) hx hb hr (rfl) hlocks hQ hK hS (Nat.le_refl _) (Nat.le_refl _) () (has_0a c_1) (hP.sub [0, 1] rfl) (hD.sub [0, 1] (by decide +kernel) rfl) d_Model_hasSign_18
  · refine lv_iload_n hx hb d_Model_hasSign_4 rfl (lv_at hl 1 rfl) ?_
    refine lv_aload_n hx hb d_Model_hasSign_5 rfl (lv_at hl 0 rfl) ?_
    refine va_get (D := (dC, dI)) (ci := 8) (v := .ref ka) (C := "RangeCoders$Model") (T := T_Model) (N := 3) hx hb hg in_Model hown hK hP 0 rfl rfl 0 (by decide) (hg _ k340) (fun _ h9 => h9) rfl d_Model_hasSign_6 ?_
    refine va_alen hx hb hK hP 1 0 rfl rfl (v := nI kl) rfl d_Model_hasSign_9 ?_
    refine lv_icmp_ge (tgt := 17) hx hb d_Model_hasSign_10 (by decide) (fun c_2 => ?_) (fun c_2 => ?_)
    · refine lv_iconst (v := 0) hx hb d_Model_hasSign_17 (by decide) ?_
      exact my_iret (v := 0) hx hb hr (rfl) hlocks hQ hK hS (Nat.le_refl _) (Nat.le_refl _) () (has_0b c_2) (hP.sub [0, 1] rfl) (hD.sub [0, 1] (by decide +kernel) rfl) d_Model_hasSign_18
    · refine lv_iconst (v := 1) hx hb d_Model_hasSign_13 (by decide) ?_
      refine lv_goto (tgt := 18) hx hb d_Model_hasSign_14 (by decide) ?_
      exact my_iret (v := 1) hx hb hr (rfl) hlocks hQ hK hS (Nat.le_refl _) (Nat.le_refl _) () (has_1 c_1 c_2) (hP.sub [0, 1] rfl) (hD.sub [0, 1] (by decide +kernel) rfl) d_Model_hasSign_18
set_option maxHeartbeats 2000000 in
set_option maxRecDepth 100000 in
theorem f_RC_countA (l : Launch) (dC : Nat → ClassId) (dI : Nat → Nat → Nat) (cI cM cO : ClassId) (sz : Nat) (rc : Nat) (ma : Nat) (k : Nat) (fit : Int32) (fen : Int32) (frd : Int32) (fbd : Int32) (fir : Int32) (mf : Nat → Option Nat) (co : Nat) (mm : Int32) (ss : Int32) (vv : Int32) (hbad : mm < 0 ∨ nI k ≤ mm) : MetI l y_RC_count (Cond.code y_RC_count prog_1_method_3_code 6 (some .int) :: gw) ({ frames := 1, cells := 0, slots := 0, locals := 21 } : Room) (dC, dI) vwCl (kT cI cM cO) [Value.ref rc, Value.int mm, Value.int ss, Value.int vv] [(rc, Sum.inr (6, [Value.ref co, Value.ref ma, Value.int (nI k), Value.int fit, Value.int fen, Value.int frd, Value.int fbd, Value.int fir])), (ma, Sum.inl (cM, 8, Sum.inr (Sum.inr (Sum.inr (Sum.inr mf)))))] sz (fun (r : Int32) (u : Unit) => r = -1) (fun (u : Unit) => [(rc, Sum.inr (6, [Value.ref co, Value.ref ma, Value.int (nI k), Value.int fit, Value.int fen, Value.int frd, Value.int fbd, Value.int fir])), (ma, Sum.inl (cM, 8, Sum.inr (Sum.inr (Sum.inr (Sum.inr mf)))))]) 0 0 := by
  refine my_ofI (cc := prog_1_method_3_code) (n := 6) (ret := (some .int)) (by decide) rfl (Nat.le_of_ble_eq_true rfl) ?_
  intro p e s m args below meth c R Q A ls H locs hx hb hr hts hown hlocks hml hnm hR hQ hA hl hP hK hN hD hS
  have hg : ∀ w ∈ gw, w.before args s = true := fun w h => hts w (List.mem_cons_of_mem _ h)
  have hown : s.vm.findClass "RangeCoders" = some m.cls := hown
  have hl : lv_has ls 6 [(0, Value.ref rc), (1, Value.int mm), (2, Value.int ss), (3, Value.int vv)] := hl
  refine lv_aload_n hx hb d_RC_count_0 rfl (lv_at hl 0 rfl) ?_
  refine lv_iload_n hx hb d_RC_count_1 rfl (lv_at hl 1 rfl) ?_
  refine my_cq (wr := []) (va_runV (As := [Value.int mm]) (rest := []) ⟨hx, hb, hml, hown, hts⟩ (c_RC_modelAtA l dC dI cI cM cO H.size rc ma k fit fen frd fbd fir mf co mm (by first | assumption | omega)) (cwV 1 hts (my_gV k412 k414 ks3 k1 k415) rfl rfl rfl (by decide +kernel) ⟨by rw [hR]; exact Nat.le_of_ble_eq_true rfl, by rw [hR]; exact Nat.le_of_ble_eq_true rfl⟩) (my_preV hK hN (hP.sub [0, 1] rfl) (hD.sub [0, 1] (by decide +kernel) rfl) 0 rfl rfl) rfl rfl hl.1 rfl (lv_room (Nat.le_of_ble_eq_true rfl)) d_RC_count_2 ⟨by rw [hR]; exact Nat.le_of_ble_eq_true rfl, by rw [hR]; exact Nat.le_of_ble_eq_true rfl⟩) hP hD hS hA [0, 1] [] rfl rfl (by decide +kernel) (by decide +kernel) (fun r_2 u9 H locs hw_2 hP hD hS => ?_)
  have hr_2 : r_2 = none := hw_2
  have hP : va_P (dC, dI) vwCl [(rc, Sum.inr (6, [Value.ref co, Value.ref ma, Value.int (nI k), Value.int fit, Value.int fen, Value.int frd, Value.int fbd, Value.int fir])), (ma, Sum.inl (cM, 8, Sum.inr (Sum.inr (Sum.inr (Sum.inr mf)))))] H := hP
  have hD : va_D A [(rc, Sum.inr (6, [Value.ref co, Value.ref ma, Value.int (nI k), Value.int fit, Value.int fen, Value.int frd, Value.int fbd, Value.int fir])), (ma, Sum.inl (cM, 8, Sum.inr (Sum.inr (Sum.inr (Sum.inr mf)))))] := hD
  subst hr_2
  refine W.eq (g2 := F0 m 5 ls [Value.null]) rfl ?_
  refine lv_astoreN (lv' := [(4, Value.null), (0, Value.ref rc), (1, Value.int mm), (2, Value.int ss), (3, Value.int vv)]) hx hb d_RC_count_5 hl (by decide) rfl (fun ls hl => ?_)
  refine lv_aloadN hx hb d_RC_count_7 (lv_at hl 0 rfl) ?_
  refine lv_ifnullN (tgt := 21) hx hb d_RC_count_9 (by decide) ?_
  refine lv_iconst (v := (-1)) hx hb d_RC_count_21 (by decide) ?_
  exact my_iret (v := (-1)) hx hb hr (rfl) hlocks hQ hK hS (Nat.le_refl _) (Nat.le_refl _) () (rfl) (hP.sub [0, 1] rfl) (hD.sub [0, 1] (by decide +kernel) rfl) d_RC_count_22
set_option maxHeartbeats 2000000 in
set_option maxRecDepth 100000 in
theorem f_RC_putA (l : Launch) (dC : Nat → ClassId) (dI : Nat → Nat → Nat) (cI cM cO : ClassId) (sz : Nat) (rc : Nat) (ma : Nat) (k : Nat) (fit : Int32) (fen : Int32) (frd : Int32) (fbd : Int32) (fir : Int32) (mf : Nat → Option Nat) (co : Nat) (mm : Int32) (ss : Int32) (hbad : mm < 0 ∨ nI k ≤ mm) : MetI l y_RC_put (Cond.code y_RC_put prog_1_method_4_code 4 (some .int) :: gw) ({ frames := 1, cells := 0, slots := 0, locals := 21 } : Room) (dC, dI) vwCl (kT cI cM cO) [Value.ref rc, Value.int mm, Value.int ss] [(rc, Sum.inr (6, [Value.ref co, Value.ref ma, Value.int (nI k), Value.int fit, Value.int fen, Value.int frd, Value.int fbd, Value.int fir])), (ma, Sum.inl (cM, 8, Sum.inr (Sum.inr (Sum.inr (Sum.inr mf)))))] sz (fun (r : Int32) (u : Unit) => r = -1) (fun (u : Unit) => [(rc, Sum.inr (6, [Value.ref co, Value.ref ma, Value.int (nI k), Value.int fit, Value.int fen, Value.int frd, Value.int fbd, Value.int fir])), (ma, Sum.inl (cM, 8, Sum.inr (Sum.inr (Sum.inr (Sum.inr mf)))))]) 0 0 := by
  refine my_ofI (cc := prog_1_method_4_code) (n := 4) (ret := (some .int)) (by decide) rfl (Nat.le_of_ble_eq_true rfl) ?_
  intro p e s m args below meth c R Q A ls H locs hx hb hr hts hown hlocks hml hnm hR hQ hA hl hP hK hN hD hS
  have hg : ∀ w ∈ gw, w.before args s = true := fun w h => hts w (List.mem_cons_of_mem _ h)
  have hown : s.vm.findClass "RangeCoders" = some m.cls := hown
  have hl : lv_has ls 4 [(0, Value.ref rc), (1, Value.int mm), (2, Value.int ss)] := hl
  refine lv_aload_n hx hb d_RC_put_0 rfl (lv_at hl 0 rfl) ?_
  refine lv_iload_n hx hb d_RC_put_1 rfl (lv_at hl 1 rfl) ?_
  refine my_cq (wr := []) (va_runV (As := [Value.int mm]) (rest := []) ⟨hx, hb, hml, hown, hts⟩ (c_RC_modelAtA l dC dI cI cM cO H.size rc ma k fit fen frd fbd fir mf co mm (by first | assumption | omega)) (cwV 1 hts (my_gV k412 k414 ks3 k1 k415) rfl rfl rfl (by decide +kernel) ⟨by rw [hR]; exact Nat.le_of_ble_eq_true rfl, by rw [hR]; exact Nat.le_of_ble_eq_true rfl⟩) (my_preV hK hN (hP.sub [0, 1] rfl) (hD.sub [0, 1] (by decide +kernel) rfl) 0 rfl rfl) rfl rfl hl.1 rfl (lv_room (Nat.le_of_ble_eq_true rfl)) d_RC_put_2 ⟨by rw [hR]; exact Nat.le_of_ble_eq_true rfl, by rw [hR]; exact Nat.le_of_ble_eq_true rfl⟩) hP hD hS hA [0, 1] [] rfl rfl (by decide +kernel) (by decide +kernel) (fun r_2 u9 H locs hw_2 hP hD hS => ?_)
  have hr_2 : r_2 = none := hw_2
  have hP : va_P (dC, dI) vwCl [(rc, Sum.inr (6, [Value.ref co, Value.ref ma, Value.int (nI k), Value.int fit, Value.int fen, Value.int frd, Value.int fbd, Value.int fir])), (ma, Sum.inl (cM, 8, Sum.inr (Sum.inr (Sum.inr (Sum.inr mf)))))] H := hP
  have hD : va_D A [(rc, Sum.inr (6, [Value.ref co, Value.ref ma, Value.int (nI k), Value.int fit, Value.int fen, Value.int frd, Value.int fbd, Value.int fir])), (ma, Sum.inl (cM, 8, Sum.inr (Sum.inr (Sum.inr (Sum.inr mf)))))] := hD
  subst hr_2
  refine W.eq (g2 := F0 m 5 ls [Value.null]) rfl ?_
  refine lv_astore_nN (lv' := [(3, Value.null), (0, Value.ref rc), (1, Value.int mm), (2, Value.int ss)]) hx hb d_RC_put_5 rfl hl (by decide) rfl (fun ls hl => ?_)
  refine lv_aload_nN hx hb d_RC_put_6 rfl (lv_at hl 0 rfl) ?_
  refine lv_ifnullN (tgt := 18) hx hb d_RC_put_7 (by decide) ?_
  refine lv_iconst (v := (-1)) hx hb d_RC_put_18 (by decide) ?_
  exact my_iret (v := (-1)) hx hb hr (rfl) hlocks hQ hK hS (Nat.le_refl _) (Nat.le_refl _) () (rfl) (hP.sub [0, 1] rfl) (hD.sub [0, 1] (by decide +kernel) rfl) d_RC_put_19
set_option maxHeartbeats 2000000 in
set_option maxRecDepth 100000 in
theorem f_RC_chanceA (l : Launch) (dC : Nat → ClassId) (dI : Nat → Nat → Nat) (cI cM cO : ClassId) (sz : Nat) (rc : Nat) (ma : Nat) (k : Nat) (fit : Int32) (fen : Int32) (frd : Int32) (fbd : Int32) (fir : Int32) (mf : Nat → Option Nat) (co : Nat) (mm : Int32) (ss : Int32) (hbad : mm < 0 ∨ nI k ≤ mm) : MetI l y_RC_chance (Cond.code y_RC_chance prog_1_method_17_code 4 (some .int) :: gw) ({ frames := 1, cells := 0, slots := 0, locals := 21 } : Room) (dC, dI) vwCl (kT cI cM cO) [Value.ref rc, Value.int mm, Value.int ss] [(rc, Sum.inr (6, [Value.ref co, Value.ref ma, Value.int (nI k), Value.int fit, Value.int fen, Value.int frd, Value.int fbd, Value.int fir])), (ma, Sum.inl (cM, 8, Sum.inr (Sum.inr (Sum.inr (Sum.inr mf)))))] sz (fun (r : Int32) (u : Unit) => r = -1) (fun (u : Unit) => [(rc, Sum.inr (6, [Value.ref co, Value.ref ma, Value.int (nI k), Value.int fit, Value.int fen, Value.int frd, Value.int fbd, Value.int fir])), (ma, Sum.inl (cM, 8, Sum.inr (Sum.inr (Sum.inr (Sum.inr mf)))))]) 0 0 := by
  refine my_ofI (cc := prog_1_method_17_code) (n := 4) (ret := (some .int)) (by decide) rfl (Nat.le_of_ble_eq_true rfl) ?_
  intro p e s m args below meth c R Q A ls H locs hx hb hr hts hown hlocks hml hnm hR hQ hA hl hP hK hN hD hS
  have hg : ∀ w ∈ gw, w.before args s = true := fun w h => hts w (List.mem_cons_of_mem _ h)
  have hown : s.vm.findClass "RangeCoders" = some m.cls := hown
  have hl : lv_has ls 4 [(0, Value.ref rc), (1, Value.int mm), (2, Value.int ss)] := hl
  refine lv_aload_n hx hb d_RC_chance_0 rfl (lv_at hl 0 rfl) ?_
  refine lv_iload_n hx hb d_RC_chance_1 rfl (lv_at hl 1 rfl) ?_
  refine my_cq (wr := []) (va_runV (As := [Value.int mm]) (rest := []) ⟨hx, hb, hml, hown, hts⟩ (c_RC_modelAtA l dC dI cI cM cO H.size rc ma k fit fen frd fbd fir mf co mm (by first | assumption | omega)) (cwV 1 hts (my_gV k412 k414 ks3 k1 k415) rfl rfl rfl (by decide +kernel) ⟨by rw [hR]; exact Nat.le_of_ble_eq_true rfl, by rw [hR]; exact Nat.le_of_ble_eq_true rfl⟩) (my_preV hK hN (hP.sub [0, 1] rfl) (hD.sub [0, 1] (by decide +kernel) rfl) 0 rfl rfl) rfl rfl hl.1 rfl (lv_room (Nat.le_of_ble_eq_true rfl)) d_RC_chance_2 ⟨by rw [hR]; exact Nat.le_of_ble_eq_true rfl, by rw [hR]; exact Nat.le_of_ble_eq_true rfl⟩) hP hD hS hA [0, 1] [] rfl rfl (by decide +kernel) (by decide +kernel) (fun r_2 u9 H locs hw_2 hP hD hS => ?_)
  have hr_2 : r_2 = none := hw_2
  have hP : va_P (dC, dI) vwCl [(rc, Sum.inr (6, [Value.ref co, Value.ref ma, Value.int (nI k), Value.int fit, Value.int fen, Value.int frd, Value.int fbd, Value.int fir])), (ma, Sum.inl (cM, 8, Sum.inr (Sum.inr (Sum.inr (Sum.inr mf)))))] H := hP
  have hD : va_D A [(rc, Sum.inr (6, [Value.ref co, Value.ref ma, Value.int (nI k), Value.int fit, Value.int fen, Value.int frd, Value.int fbd, Value.int fir])), (ma, Sum.inl (cM, 8, Sum.inr (Sum.inr (Sum.inr (Sum.inr mf)))))] := hD
  subst hr_2
  refine W.eq (g2 := F0 m 5 ls [Value.null]) rfl ?_
  refine lv_astore_nN (lv' := [(3, Value.null), (0, Value.ref rc), (1, Value.int mm), (2, Value.int ss)]) hx hb d_RC_chance_5 rfl hl (by decide) rfl (fun ls hl => ?_)
  refine lv_aload_nN hx hb d_RC_chance_6 rfl (lv_at hl 0 rfl) ?_
  refine lv_ifnullN (tgt := 21) hx hb d_RC_chance_7 (by decide) ?_
  refine lv_iconst (v := (-1)) hx hb d_RC_chance_21 (by decide) ?_
  exact my_iret (v := (-1)) hx hb hr (rfl) hlocks hQ hK hS (Nat.le_refl _) (Nat.le_refl _) () (rfl) (hP.sub [0, 1] rfl) (hD.sub [0, 1] (by decide +kernel) rfl) d_RC_chance_22
set_option maxHeartbeats 2000000 in
set_option maxRecDepth 100000 in
theorem f_RC_countS (l : Launch) (dC : Nat → ClassId) (dI : Nat → Nat → Nat) (cI cM cO : ClassId) (sz : Nat) (rc : Nat) (ma : Nat) (k : Nat) (fit : Int32) (fen : Int32) (frd : Int32) (fbd : Int32) (fir : Int32) (mf : Nat → Option Nat) (co : Nat) (j : Nat) (mo : Nat) (o2 : Nat) (oo : Nat) (ka : Nat) (kl : Nat) (kf : Nat → Int32) (ss : Int32) (vv : Int32) (hk8 : k ≤ 8) (hj : j < k) (hmf : mf j = some mo) (hkl : kl ≤ 64) (hno : ss < 0 ∨ nI kl ≤ ss) : MetI l y_RC_count (Cond.code y_RC_count prog_1_method_3_code 6 (some .int) :: gw) ({ frames := 1, cells := 0, slots := 0, locals := 21 } : Room) (dC, dI) vwCl (kT cI cM cO) [Value.ref rc, Value.int (nI j), Value.int ss, Value.int vv] [(rc, Sum.inr (6, [Value.ref co, Value.ref ma, Value.int (nI k), Value.int fit, Value.int fen, Value.int frd, Value.int fbd, Value.int fir])), (ma, Sum.inl (cM, 8, Sum.inr (Sum.inr (Sum.inr (Sum.inr mf))))), (mo, Sum.inr (8, [Value.ref ka, Value.ref oo, Value.ref o2])), (ka, Sum.inl (cI, kl, Sum.inl kf))] sz (fun (r : Int32) (u : Unit) => r = -1) (fun (u : Unit) => [(rc, Sum.inr (6, [Value.ref co, Value.ref ma, Value.int (nI k), Value.int fit, Value.int fen, Value.int frd, Value.int fbd, Value.int fir])), (ma, Sum.inl (cM, 8, Sum.inr (Sum.inr (Sum.inr (Sum.inr mf))))), (mo, Sum.inr (8, [Value.ref ka, Value.ref oo, Value.ref o2])), (ka, Sum.inl (cI, kl, Sum.inl kf))]) 0 0 := by
  refine my_ofI (cc := prog_1_method_3_code) (n := 6) (ret := (some .int)) (by decide) rfl (Nat.le_of_ble_eq_true rfl) ?_
  intro p e s m args below meth c R Q A ls H locs hx hb hr hts hown hlocks hml hnm hR hQ hA hl hP hK hN hD hS
  have hg : ∀ w ∈ gw, w.before args s = true := fun w h => hts w (List.mem_cons_of_mem _ h)
  have hown : s.vm.findClass "RangeCoders" = some m.cls := hown
  have hl : lv_has ls 6 [(0, Value.ref rc), (1, Value.int (nI j)), (2, Value.int ss), (3, Value.int vv)] := hl
  refine lv_aload_n hx hb d_RC_count_0 rfl (lv_at hl 0 rfl) ?_
  refine lv_iload_n hx hb d_RC_count_1 rfl (lv_at hl 1 rfl) ?_
  refine my_cq (wr := [(mo, Sum.inr (8, [Value.ref ka, Value.ref oo, Value.ref o2])), (ka, Sum.inl (cI, kl, Sum.inl kf))]) (va_runV (As := [Value.int (nI j)]) (rest := []) ⟨hx, hb, hml, hown, hts⟩ (c_RC_modelAtB l dC dI cI cM cO H.size rc ma k fit fen frd fbd fir mf co j mo (by first | assumption | omega) (by first | assumption | omega) (by first | assumption | omega)) (cwV 1 hts (my_gV k412 k414 ks3 k1 k415) rfl rfl rfl (by decide +kernel) ⟨by rw [hR]; exact Nat.le_of_ble_eq_true rfl, by rw [hR]; exact Nat.le_of_ble_eq_true rfl⟩) (my_preV hK hN (hP.sub [0, 1] rfl) (hD.sub [0, 1] (by decide +kernel) rfl) 0 rfl rfl) rfl rfl hl.1 rfl (lv_room (Nat.le_of_ble_eq_true rfl)) d_RC_count_2 ⟨by rw [hR]; exact Nat.le_of_ble_eq_true rfl, by rw [hR]; exact Nat.le_of_ble_eq_true rfl⟩) hP hD hS hA [0, 1] [2, 3] rfl rfl (by decide +kernel) (by decide +kernel) (fun r_2 u9 H locs hw_2 hP hD hS => ?_)
  have hr_2 : r_2 = some mo := hw_2
  have hP : va_P (dC, dI) vwCl [(mo, Sum.inr (8, [Value.ref ka, Value.ref oo, Value.ref o2])), (ka, Sum.inl (cI, kl, Sum.inl kf)), (rc, Sum.inr (6, [Value.ref co, Value.ref ma, Value.int (nI k), Value.int fit, Value.int fen, Value.int frd, Value.int fbd, Value.int fir])), (ma, Sum.inl (cM, 8, Sum.inr (Sum.inr (Sum.inr (Sum.inr mf)))))] H := hP
  have hD : va_D A [(mo, Sum.inr (8, [Value.ref ka, Value.ref oo, Value.ref o2])), (ka, Sum.inl (cI, kl, Sum.inl kf)), (rc, Sum.inr (6, [Value.ref co, Value.ref ma, Value.int (nI k), Value.int fit, Value.int fen, Value.int frd, Value.int fbd, Value.int fir])), (ma, Sum.inl (cM, 8, Sum.inr (Sum.inr (Sum.inr (Sum.inr mf)))))] := hD
  subst hr_2
  refine W.eq (g2 := F0 m 5 ls [Value.ref mo]) rfl ?_
  refine lv_astore (lv' := [(4, Value.ref mo), (0, Value.ref rc), (1, Value.int (nI j)), (2, Value.int ss), (3, Value.int vv)]) hx hb d_RC_count_5 hl (by decide) rfl (fun ls hl => ?_)
  refine lv_aload hx hb d_RC_count_7 (lv_at hl 0 rfl) ?_
  refine lv_ifnull hx hb d_RC_count_9 ?_
  refine lv_aload hx hb d_RC_count_12 (lv_at hl 0 rfl) ?_
  refine lv_iload_n hx hb d_RC_count_14 rfl (lv_at hl 3 rfl) ?_
  refine my_ci (wr := [(rc, Sum.inr (6, [Value.ref co, Value.ref ma, Value.int (nI k), Value.int fit, Value.int fen, Value.int frd, Value.int fbd, Value.int fir])), (ma, Sum.inl (cM, 8, Sum.inr (Sum.inr (Sum.inr (Sum.inr mf)))))]) (va_runV (As := [Value.int ss]) (rest := []) ⟨hx, hb, hml, hown, hts⟩ (f_Model_hasSign l dC dI cI cM cO H.size mo ka oo o2 kl kf ss (by first | assumption | omega)) (cwV 1 hts (my_gV k416 k417 k418 k13 k419) rfl rfl rfl (by decide +kernel) ⟨by rw [hR]; exact Nat.le_of_ble_eq_true rfl, by rw [hR]; exact Nat.le_of_ble_eq_true rfl⟩) (my_preV hK hN (hP.sub [0, 1] rfl) (hD.sub [0, 1] (by decide +kernel) rfl) 0 rfl rfl) rfl rfl hl.1 rfl (lv_room (Nat.le_of_ble_eq_true rfl)) d_RC_count_15 ⟨by rw [hR]; exact Nat.le_of_ble_eq_true rfl, by rw [hR]; exact Nat.le_of_ble_eq_true rfl⟩) hP hD hS hA [0, 1] [2, 3] rfl rfl (by decide +kernel) (by decide +kernel) (fun r_15 u9 H locs hw_15 hP hD hS => ?_)
  have hr_15 : r_15 = if 0 ≤ ss ∧ ss < nI kl then 1 else 0 := hw_15
  have hP : va_P (dC, dI) vwCl [(rc, Sum.inr (6, [Value.ref co, Value.ref ma, Value.int (nI k), Value.int fit, Value.int fen, Value.int frd, Value.int fbd, Value.int fir])), (ma, Sum.inl (cM, 8, Sum.inr (Sum.inr (Sum.inr (Sum.inr mf))))), (mo, Sum.inr (8, [Value.ref ka, Value.ref oo, Value.ref o2])), (ka, Sum.inl (cI, kl, Sum.inl kf))] H := hP
  have hD : va_D A [(rc, Sum.inr (6, [Value.ref co, Value.ref ma, Value.int (nI k), Value.int fit, Value.int fen, Value.int frd, Value.int fbd, Value.int fir])), (ma, Sum.inl (cM, 8, Sum.inr (Sum.inr (Sum.inr (Sum.inr mf))))), (mo, Sum.inr (8, [Value.ref ka, Value.ref oo, Value.ref o2])), (ka, Sum.inl (cI, kl, Sum.inl kf))] := hD
  refine lv_if_ne (tgt := 23) hx hb d_RC_count_18 (by decide) (fun c_1 => ?_) (fun c_1 => ?_)
  · exact absurd (one_ne hr_15 c_1) (has_no hno)
  · refine lv_iconst (v := (-1)) hx hb d_RC_count_21 (by decide) ?_
    exact my_iret (v := (-1)) hx hb hr (rfl) hlocks hQ hK hS (Nat.le_refl _) (Nat.le_refl _) () (rfl) (hP.sub [0, 1, 2, 3] rfl) (hD.sub [0, 1, 2, 3] (by decide +kernel) rfl) d_RC_count_22
set_option maxHeartbeats 2000000 in
set_option maxRecDepth 100000 in
theorem f_RC_putS (l : Launch) (dC : Nat → ClassId) (dI : Nat → Nat → Nat) (cI cM cO : ClassId) (sz : Nat) (rc : Nat) (ma : Nat) (k : Nat) (fit : Int32) (fen : Int32) (frd : Int32) (fbd : Int32) (fir : Int32) (mf : Nat → Option Nat) (co : Nat) (j : Nat) (mo : Nat) (o2 : Nat) (oo : Nat) (ka : Nat) (kl : Nat) (kf : Nat → Int32) (ss : Int32) (hk8 : k ≤ 8) (hj : j < k) (hmf : mf j = some mo) (hkl : kl ≤ 64) (hno : ss < 0 ∨ nI kl ≤ ss) : MetI l y_RC_put (Cond.code y_RC_put prog_1_method_4_code 4 (some .int) :: gw) ({ frames := 1, cells := 0, slots := 0, locals := 21 } : Room) (dC, dI) vwCl (kT cI cM cO) [Value.ref rc, Value.int (nI j), Value.int ss] [(rc, Sum.inr (6, [Value.ref co, Value.ref ma, Value.int (nI k), Value.int fit, Value.int fen, Value.int frd, Value.int fbd, Value.int fir])), (ma, Sum.inl (cM, 8, Sum.inr (Sum.inr (Sum.inr (Sum.inr mf))))), (mo, Sum.inr (8, [Value.ref ka, Value.ref oo, Value.ref o2])), (ka, Sum.inl (cI, kl, Sum.inl kf))] sz (fun (r : Int32) (u : Unit) => r = -1) (fun (u : Unit) => [(rc, Sum.inr (6, [Value.ref co, Value.ref ma, Value.int (nI k), Value.int fit, Value.int fen, Value.int frd, Value.int fbd, Value.int fir])), (ma, Sum.inl (cM, 8, Sum.inr (Sum.inr (Sum.inr (Sum.inr mf))))), (mo, Sum.inr (8, [Value.ref ka, Value.ref oo, Value.ref o2])), (ka, Sum.inl (cI, kl, Sum.inl kf))]) 0 0 := by
  refine my_ofI (cc := prog_1_method_4_code) (n := 4) (ret := (some .int)) (by decide) rfl (Nat.le_of_ble_eq_true rfl) ?_
  intro p e s m args below meth c R Q A ls H locs hx hb hr hts hown hlocks hml hnm hR hQ hA hl hP hK hN hD hS
  have hg : ∀ w ∈ gw, w.before args s = true := fun w h => hts w (List.mem_cons_of_mem _ h)
  have hown : s.vm.findClass "RangeCoders" = some m.cls := hown
  have hl : lv_has ls 4 [(0, Value.ref rc), (1, Value.int (nI j)), (2, Value.int ss)] := hl
  refine lv_aload_n hx hb d_RC_put_0 rfl (lv_at hl 0 rfl) ?_
  refine lv_iload_n hx hb d_RC_put_1 rfl (lv_at hl 1 rfl) ?_
  refine my_cq (wr := [(mo, Sum.inr (8, [Value.ref ka, Value.ref oo, Value.ref o2])), (ka, Sum.inl (cI, kl, Sum.inl kf))]) (va_runV (As := [Value.int (nI j)]) (rest := []) ⟨hx, hb, hml, hown, hts⟩ (c_RC_modelAtB l dC dI cI cM cO H.size rc ma k fit fen frd fbd fir mf co j mo (by first | assumption | omega) (by first | assumption | omega) (by first | assumption | omega)) (cwV 1 hts (my_gV k412 k414 ks3 k1 k415) rfl rfl rfl (by decide +kernel) ⟨by rw [hR]; exact Nat.le_of_ble_eq_true rfl, by rw [hR]; exact Nat.le_of_ble_eq_true rfl⟩) (my_preV hK hN (hP.sub [0, 1] rfl) (hD.sub [0, 1] (by decide +kernel) rfl) 0 rfl rfl) rfl rfl hl.1 rfl (lv_room (Nat.le_of_ble_eq_true rfl)) d_RC_put_2 ⟨by rw [hR]; exact Nat.le_of_ble_eq_true rfl, by rw [hR]; exact Nat.le_of_ble_eq_true rfl⟩) hP hD hS hA [0, 1] [2, 3] rfl rfl (by decide +kernel) (by decide +kernel) (fun r_2 u9 H locs hw_2 hP hD hS => ?_)
  have hr_2 : r_2 = some mo := hw_2
  have hP : va_P (dC, dI) vwCl [(mo, Sum.inr (8, [Value.ref ka, Value.ref oo, Value.ref o2])), (ka, Sum.inl (cI, kl, Sum.inl kf)), (rc, Sum.inr (6, [Value.ref co, Value.ref ma, Value.int (nI k), Value.int fit, Value.int fen, Value.int frd, Value.int fbd, Value.int fir])), (ma, Sum.inl (cM, 8, Sum.inr (Sum.inr (Sum.inr (Sum.inr mf)))))] H := hP
  have hD : va_D A [(mo, Sum.inr (8, [Value.ref ka, Value.ref oo, Value.ref o2])), (ka, Sum.inl (cI, kl, Sum.inl kf)), (rc, Sum.inr (6, [Value.ref co, Value.ref ma, Value.int (nI k), Value.int fit, Value.int fen, Value.int frd, Value.int fbd, Value.int fir])), (ma, Sum.inl (cM, 8, Sum.inr (Sum.inr (Sum.inr (Sum.inr mf)))))] := hD
  subst hr_2
  refine W.eq (g2 := F0 m 5 ls [Value.ref mo]) rfl ?_
  refine lv_astore_n (lv' := [(3, Value.ref mo), (0, Value.ref rc), (1, Value.int (nI j)), (2, Value.int ss)]) hx hb d_RC_put_5 rfl hl (by decide) rfl (fun ls hl => ?_)
  refine lv_aload_n hx hb d_RC_put_6 rfl (lv_at hl 0 rfl) ?_
  refine lv_ifnull hx hb d_RC_put_7 ?_
  refine lv_aload_n hx hb d_RC_put_10 rfl (lv_at hl 0 rfl) ?_
  refine lv_iload_n hx hb d_RC_put_11 rfl (lv_at hl 3 rfl) ?_
  refine my_ci (wr := [(rc, Sum.inr (6, [Value.ref co, Value.ref ma, Value.int (nI k), Value.int fit, Value.int fen, Value.int frd, Value.int fbd, Value.int fir])), (ma, Sum.inl (cM, 8, Sum.inr (Sum.inr (Sum.inr (Sum.inr mf)))))]) (va_runV (As := [Value.int ss]) (rest := []) ⟨hx, hb, hml, hown, hts⟩ (f_Model_hasSign l dC dI cI cM cO H.size mo ka oo o2 kl kf ss (by first | assumption | omega)) (cwV 1 hts (my_gV k416 k417 k418 k13 k419) rfl rfl rfl (by decide +kernel) ⟨by rw [hR]; exact Nat.le_of_ble_eq_true rfl, by rw [hR]; exact Nat.le_of_ble_eq_true rfl⟩) (my_preV hK hN (hP.sub [0, 1] rfl) (hD.sub [0, 1] (by decide +kernel) rfl) 0 rfl rfl) rfl rfl hl.1 rfl (lv_room (Nat.le_of_ble_eq_true rfl)) d_RC_put_12 ⟨by rw [hR]; exact Nat.le_of_ble_eq_true rfl, by rw [hR]; exact Nat.le_of_ble_eq_true rfl⟩) hP hD hS hA [0, 1] [2, 3] rfl rfl (by decide +kernel) (by decide +kernel) (fun r_12 u9 H locs hw_12 hP hD hS => ?_)
  have hr_12 : r_12 = if 0 ≤ ss ∧ ss < nI kl then 1 else 0 := hw_12
  have hP : va_P (dC, dI) vwCl [(rc, Sum.inr (6, [Value.ref co, Value.ref ma, Value.int (nI k), Value.int fit, Value.int fen, Value.int frd, Value.int fbd, Value.int fir])), (ma, Sum.inl (cM, 8, Sum.inr (Sum.inr (Sum.inr (Sum.inr mf))))), (mo, Sum.inr (8, [Value.ref ka, Value.ref oo, Value.ref o2])), (ka, Sum.inl (cI, kl, Sum.inl kf))] H := hP
  have hD : va_D A [(rc, Sum.inr (6, [Value.ref co, Value.ref ma, Value.int (nI k), Value.int fit, Value.int fen, Value.int frd, Value.int fbd, Value.int fir])), (ma, Sum.inl (cM, 8, Sum.inr (Sum.inr (Sum.inr (Sum.inr mf))))), (mo, Sum.inr (8, [Value.ref ka, Value.ref oo, Value.ref o2])), (ka, Sum.inl (cI, kl, Sum.inl kf))] := hD
  refine lv_if_ne (tgt := 20) hx hb d_RC_put_15 (by decide) (fun c_1 => ?_) (fun c_1 => ?_)
  · exact absurd (one_ne hr_12 c_1) (has_no hno)
  · refine lv_iconst (v := (-1)) hx hb d_RC_put_18 (by decide) ?_
    exact my_iret (v := (-1)) hx hb hr (rfl) hlocks hQ hK hS (Nat.le_refl _) (Nat.le_refl _) () (rfl) (hP.sub [0, 1, 2, 3] rfl) (hD.sub [0, 1, 2, 3] (by decide +kernel) rfl) d_RC_put_19
set_option maxHeartbeats 2000000 in
set_option maxRecDepth 100000 in
theorem f_RC_countV (l : Launch) (dC : Nat → ClassId) (dI : Nat → Nat → Nat) (cI cM cO : ClassId) (sz : Nat) (rc : Nat) (ma : Nat) (k : Nat) (fit : Int32) (fen : Int32) (frd : Int32) (fbd : Int32) (fir : Int32) (mf : Nat → Option Nat) (co : Nat) (j : Nat) (mo : Nat) (o2 : Nat) (oo : Nat) (ka : Nat) (kl : Nat) (kf : Nat → Int32) (t : Nat) (vv : Int32) (hk8 : k ≤ 8) (hj : j < k) (hmf : mf j = some mo) (hkl : kl ≤ 64) (ht : t < kl) (hvv : vv < 0 ∨ 4095 < vv) : MetI l y_RC_count (Cond.code y_RC_count prog_1_method_3_code 6 (some .int) :: gw) ({ frames := 1, cells := 0, slots := 0, locals := 21 } : Room) (dC, dI) vwCl (kT cI cM cO) [Value.ref rc, Value.int (nI j), Value.int (nI t), Value.int vv] [(rc, Sum.inr (6, [Value.ref co, Value.ref ma, Value.int (nI k), Value.int fit, Value.int fen, Value.int frd, Value.int fbd, Value.int fir])), (ma, Sum.inl (cM, 8, Sum.inr (Sum.inr (Sum.inr (Sum.inr mf))))), (mo, Sum.inr (8, [Value.ref ka, Value.ref oo, Value.ref o2])), (ka, Sum.inl (cI, kl, Sum.inl kf))] sz (fun (r : Int32) (u : Unit) => r = -2) (fun (u : Unit) => [(rc, Sum.inr (6, [Value.ref co, Value.ref ma, Value.int (nI k), Value.int fit, Value.int fen, Value.int frd, Value.int fbd, Value.int fir])), (ma, Sum.inl (cM, 8, Sum.inr (Sum.inr (Sum.inr (Sum.inr mf))))), (mo, Sum.inr (8, [Value.ref ka, Value.ref oo, Value.ref o2])), (ka, Sum.inl (cI, kl, Sum.inl kf))]) 0 0 := by
  refine my_ofI (cc := prog_1_method_3_code) (n := 6) (ret := (some .int)) (by decide) rfl (Nat.le_of_ble_eq_true rfl) ?_
  intro p e s m args below meth c R Q A ls H locs hx hb hr hts hown hlocks hml hnm hR hQ hA hl hP hK hN hD hS
  have hg : ∀ w ∈ gw, w.before args s = true := fun w h => hts w (List.mem_cons_of_mem _ h)
  have hown : s.vm.findClass "RangeCoders" = some m.cls := hown
  have hl : lv_has ls 6 [(0, Value.ref rc), (1, Value.int (nI j)), (2, Value.int (nI t)), (3, Value.int vv)] := hl
  refine lv_aload_n hx hb d_RC_count_0 rfl (lv_at hl 0 rfl) ?_
  refine lv_iload_n hx hb d_RC_count_1 rfl (lv_at hl 1 rfl) ?_
  refine my_cq (wr := [(mo, Sum.inr (8, [Value.ref ka, Value.ref oo, Value.ref o2])), (ka, Sum.inl (cI, kl, Sum.inl kf))]) (va_runV (As := [Value.int (nI j)]) (rest := []) ⟨hx, hb, hml, hown, hts⟩ (c_RC_modelAtB l dC dI cI cM cO H.size rc ma k fit fen frd fbd fir mf co j mo (by first | assumption | omega) (by first | assumption | omega) (by first | assumption | omega)) (cwV 1 hts (my_gV k412 k414 ks3 k1 k415) rfl rfl rfl (by decide +kernel) ⟨by rw [hR]; exact Nat.le_of_ble_eq_true rfl, by rw [hR]; exact Nat.le_of_ble_eq_true rfl⟩) (my_preV hK hN (hP.sub [0, 1] rfl) (hD.sub [0, 1] (by decide +kernel) rfl) 0 rfl rfl) rfl rfl hl.1 rfl (lv_room (Nat.le_of_ble_eq_true rfl)) d_RC_count_2 ⟨by rw [hR]; exact Nat.le_of_ble_eq_true rfl, by rw [hR]; exact Nat.le_of_ble_eq_true rfl⟩) hP hD hS hA [0, 1] [2, 3] rfl rfl (by decide +kernel) (by decide +kernel) (fun r_2 u9 H locs hw_2 hP hD hS => ?_)
  have hr_2 : r_2 = some mo := hw_2
  have hP : va_P (dC, dI) vwCl [(mo, Sum.inr (8, [Value.ref ka, Value.ref oo, Value.ref o2])), (ka, Sum.inl (cI, kl, Sum.inl kf)), (rc, Sum.inr (6, [Value.ref co, Value.ref ma, Value.int (nI k), Value.int fit, Value.int fen, Value.int frd, Value.int fbd, Value.int fir])), (ma, Sum.inl (cM, 8, Sum.inr (Sum.inr (Sum.inr (Sum.inr mf)))))] H := hP
  have hD : va_D A [(mo, Sum.inr (8, [Value.ref ka, Value.ref oo, Value.ref o2])), (ka, Sum.inl (cI, kl, Sum.inl kf)), (rc, Sum.inr (6, [Value.ref co, Value.ref ma, Value.int (nI k), Value.int fit, Value.int fen, Value.int frd, Value.int fbd, Value.int fir])), (ma, Sum.inl (cM, 8, Sum.inr (Sum.inr (Sum.inr (Sum.inr mf)))))] := hD
  subst hr_2
  refine W.eq (g2 := F0 m 5 ls [Value.ref mo]) rfl ?_
  refine lv_astore (lv' := [(4, Value.ref mo), (0, Value.ref rc), (1, Value.int (nI j)), (2, Value.int (nI t)), (3, Value.int vv)]) hx hb d_RC_count_5 hl (by decide) rfl (fun ls hl => ?_)
  refine lv_aload hx hb d_RC_count_7 (lv_at hl 0 rfl) ?_
  refine lv_ifnull hx hb d_RC_count_9 ?_
  refine lv_aload hx hb d_RC_count_12 (lv_at hl 0 rfl) ?_
  refine lv_iload_n hx hb d_RC_count_14 rfl (lv_at hl 3 rfl) ?_
  refine my_ci (wr := [(rc, Sum.inr (6, [Value.ref co, Value.ref ma, Value.int (nI k), Value.int fit, Value.int fen, Value.int frd, Value.int fbd, Value.int fir])), (ma, Sum.inl (cM, 8, Sum.inr (Sum.inr (Sum.inr (Sum.inr mf)))))]) (va_runV (As := [Value.int (nI t)]) (rest := []) ⟨hx, hb, hml, hown, hts⟩ (f_Model_hasSign l dC dI cI cM cO H.size mo ka oo o2 kl kf (nI t) (by first | assumption | omega)) (cwV 1 hts (my_gV k416 k417 k418 k13 k419) rfl rfl rfl (by decide +kernel) ⟨by rw [hR]; exact Nat.le_of_ble_eq_true rfl, by rw [hR]; exact Nat.le_of_ble_eq_true rfl⟩) (my_preV hK hN (hP.sub [0, 1] rfl) (hD.sub [0, 1] (by decide +kernel) rfl) 0 rfl rfl) rfl rfl hl.1 rfl (lv_room (Nat.le_of_ble_eq_true rfl)) d_RC_count_15 ⟨by rw [hR]; exact Nat.le_of_ble_eq_true rfl, by rw [hR]; exact Nat.le_of_ble_eq_true rfl⟩) hP hD hS hA [0, 1] [2, 3] rfl rfl (by decide +kernel) (by decide +kernel) (fun r_15 u9 H locs hw_15 hP hD hS => ?_)
  have hr_15 : r_15 = if 0 ≤ (nI t) ∧ (nI t) < nI kl then 1 else 0 := hw_15
  have hP : va_P (dC, dI) vwCl [(rc, Sum.inr (6, [Value.ref co, Value.ref ma, Value.int (nI k), Value.int fit, Value.int fen, Value.int frd, Value.int fbd, Value.int fir])), (ma, Sum.inl (cM, 8, Sum.inr (Sum.inr (Sum.inr (Sum.inr mf))))), (mo, Sum.inr (8, [Value.ref ka, Value.ref oo, Value.ref o2])), (ka, Sum.inl (cI, kl, Sum.inl kf))] H := hP
  have hD : va_D A [(rc, Sum.inr (6, [Value.ref co, Value.ref ma, Value.int (nI k), Value.int fit, Value.int fen, Value.int frd, Value.int fbd, Value.int fir])), (ma, Sum.inl (cM, 8, Sum.inr (Sum.inr (Sum.inr (Sum.inr mf))))), (mo, Sum.inr (8, [Value.ref ka, Value.ref oo, Value.ref o2])), (ka, Sum.inl (cI, kl, Sum.inl kf))] := hD
  refine lv_if_ne (tgt := 23) hx hb d_RC_count_18 (by decide) (fun c_1 => ?_) (fun c_1 => ?_)
  · refine lv_iload_n hx hb d_RC_count_23 rfl (lv_at hl 4 rfl) ?_
    refine lv_if_lt (tgt := 34) hx hb d_RC_count_24 (by decide) (fun c_2 => ?_) (fun c_2 => ?_)
    · refine lv_bipush (v := (-2)) hx hb d_RC_count_34 (by decide) ?_
      exact my_iret (v := (-2)) hx hb hr (rfl) hlocks hQ hK hS (Nat.le_refl _) (Nat.le_refl _) () (rfl) (hP.sub [0, 1, 2, 3] rfl) (hD.sub [0, 1, 2, 3] (by decide +kernel) rfl) d_RC_count_36
    · refine lv_iload_n hx hb d_RC_count_27 rfl (lv_at hl 4 rfl) ?_
      refine lv_sipush (v := 4095) hx hb d_RC_count_28 (by decide) ?_
      refine lv_icmp_le (tgt := 37) hx hb d_RC_count_31 (by decide) (fun c_3 => ?_) (fun c_3 => ?_)
      · exact absurd hvv (fun h9 => h9.elim c_2 (fun q9 => absurd c_3 (Int32.not_le.mpr q9)))
      · refine lv_bipush (v := (-2)) hx hb d_RC_count_34 (by decide) ?_
        exact my_iret (v := (-2)) hx hb hr (rfl) hlocks hQ hK hS (Nat.le_refl _) (Nat.le_refl _) () (rfl) (hP.sub [0, 1, 2, 3] rfl) (hD.sub [0, 1, 2, 3] (by decide +kernel) rfl) d_RC_count_36
  · exact absurd (has_in ht (by omega)) (one_eq hr_15 c_1)
set_option maxHeartbeats 2000000 in
set_option maxRecDepth 100000 in
theorem f_RC_countN (l : Launch) (dC : Nat → ClassId) (dI : Nat → Nat → Nat) (cI cM cO : ClassId) (sz : Nat) (rc : Nat) (ma : Nat) (k : Nat) (fit : Int32) (fen : Int32) (frd : Int32) (fbd : Int32) (fir : Int32) (mf : Nat → Option Nat) (co : Nat) (j : Nat) (mo : Nat) (o2 : Nat) (oo : Nat) (ka : Nat) (kl : Nat) (kf : Nat → Int32) (t : Nat) (c9 : Nat) (hk8 : k ≤ 8) (hj : j < k) (hmf : mf j = some mo) (hkl : kl ≤ 64) (ht : t < kl) (hc : c9 ≤ 4095) (hnn : (0 < fit ∧ fen = 0) ∨ ¬ frd = 0) : MetI l y_RC_count (Cond.code y_RC_count prog_1_method_3_code 6 (some .int) :: gw) ({ frames := 1, cells := 0, slots := 0, locals := 21 } : Room) (dC, dI) vwCl (kT cI cM cO) [Value.ref rc, Value.int (nI j), Value.int (nI t), Value.int (nI c9)] [(rc, Sum.inr (6, [Value.ref co, Value.ref ma, Value.int (nI k), Value.int fit, Value.int fen, Value.int frd, Value.int fbd, Value.int fir])), (ma, Sum.inl (cM, 8, Sum.inr (Sum.inr (Sum.inr (Sum.inr mf))))), (mo, Sum.inr (8, [Value.ref ka, Value.ref oo, Value.ref o2])), (ka, Sum.inl (cI, kl, Sum.inl kf))] sz (fun (r : Int32) (u : Unit) => r = -3) (fun (u : Unit) => [(rc, Sum.inr (6, [Value.ref co, Value.ref ma, Value.int (nI k), Value.int fit, Value.int fen, Value.int frd, Value.int fbd, Value.int fir])), (ma, Sum.inl (cM, 8, Sum.inr (Sum.inr (Sum.inr (Sum.inr mf))))), (mo, Sum.inr (8, [Value.ref ka, Value.ref oo, Value.ref o2])), (ka, Sum.inl (cI, kl, Sum.inl kf))]) 0 0 := by
  refine my_ofI (cc := prog_1_method_3_code) (n := 6) (ret := (some .int)) (by decide) rfl (Nat.le_of_ble_eq_true rfl) ?_
  intro p e s m args below meth c R Q A ls H locs hx hb hr hts hown hlocks hml hnm hR hQ hA hl hP hK hN hD hS
  have hg : ∀ w ∈ gw, w.before args s = true := fun w h => hts w (List.mem_cons_of_mem _ h)
  have hown : s.vm.findClass "RangeCoders" = some m.cls := hown
  have hl : lv_has ls 6 [(0, Value.ref rc), (1, Value.int (nI j)), (2, Value.int (nI t)), (3, Value.int (nI c9))] := hl
  refine lv_aload_n hx hb d_RC_count_0 rfl (lv_at hl 0 rfl) ?_
  refine lv_iload_n hx hb d_RC_count_1 rfl (lv_at hl 1 rfl) ?_
  refine my_cq (wr := [(mo, Sum.inr (8, [Value.ref ka, Value.ref oo, Value.ref o2])), (ka, Sum.inl (cI, kl, Sum.inl kf))]) (va_runV (As := [Value.int (nI j)]) (rest := []) ⟨hx, hb, hml, hown, hts⟩ (c_RC_modelAtB l dC dI cI cM cO H.size rc ma k fit fen frd fbd fir mf co j mo (by first | assumption | omega) (by first | assumption | omega) (by first | assumption | omega)) (cwV 1 hts (my_gV k412 k414 ks3 k1 k415) rfl rfl rfl (by decide +kernel) ⟨by rw [hR]; exact Nat.le_of_ble_eq_true rfl, by rw [hR]; exact Nat.le_of_ble_eq_true rfl⟩) (my_preV hK hN (hP.sub [0, 1] rfl) (hD.sub [0, 1] (by decide +kernel) rfl) 0 rfl rfl) rfl rfl hl.1 rfl (lv_room (Nat.le_of_ble_eq_true rfl)) d_RC_count_2 ⟨by rw [hR]; exact Nat.le_of_ble_eq_true rfl, by rw [hR]; exact Nat.le_of_ble_eq_true rfl⟩) hP hD hS hA [0, 1] [2, 3] rfl rfl (by decide +kernel) (by decide +kernel) (fun r_2 u9 H locs hw_2 hP hD hS => ?_)
  have hr_2 : r_2 = some mo := hw_2
  have hP : va_P (dC, dI) vwCl [(mo, Sum.inr (8, [Value.ref ka, Value.ref oo, Value.ref o2])), (ka, Sum.inl (cI, kl, Sum.inl kf)), (rc, Sum.inr (6, [Value.ref co, Value.ref ma, Value.int (nI k), Value.int fit, Value.int fen, Value.int frd, Value.int fbd, Value.int fir])), (ma, Sum.inl (cM, 8, Sum.inr (Sum.inr (Sum.inr (Sum.inr mf)))))] H := hP
  have hD : va_D A [(mo, Sum.inr (8, [Value.ref ka, Value.ref oo, Value.ref o2])), (ka, Sum.inl (cI, kl, Sum.inl kf)), (rc, Sum.inr (6, [Value.ref co, Value.ref ma, Value.int (nI k), Value.int fit, Value.int fen, Value.int frd, Value.int fbd, Value.int fir])), (ma, Sum.inl (cM, 8, Sum.inr (Sum.inr (Sum.inr (Sum.inr mf)))))] := hD
  subst hr_2
  refine W.eq (g2 := F0 m 5 ls [Value.ref mo]) rfl ?_
  refine lv_astore (lv' := [(4, Value.ref mo), (0, Value.ref rc), (1, Value.int (nI j)), (2, Value.int (nI t)), (3, Value.int (nI c9))]) hx hb d_RC_count_5 hl (by decide) rfl (fun ls hl => ?_)
  refine lv_aload hx hb d_RC_count_7 (lv_at hl 0 rfl) ?_
  refine lv_ifnull hx hb d_RC_count_9 ?_
  refine lv_aload hx hb d_RC_count_12 (lv_at hl 0 rfl) ?_
  refine lv_iload_n hx hb d_RC_count_14 rfl (lv_at hl 3 rfl) ?_
  refine my_ci (wr := [(rc, Sum.inr (6, [Value.ref co, Value.ref ma, Value.int (nI k), Value.int fit, Value.int fen, Value.int frd, Value.int fbd, Value.int fir])), (ma, Sum.inl (cM, 8, Sum.inr (Sum.inr (Sum.inr (Sum.inr mf)))))]) (va_runV (As := [Value.int (nI t)]) (rest := []) ⟨hx, hb, hml, hown, hts⟩ (f_Model_hasSign l dC dI cI cM cO H.size mo ka oo o2 kl kf (nI t) (by first | assumption | omega)) (cwV 1 hts (my_gV k416 k417 k418 k13 k419) rfl rfl rfl (by decide +kernel) ⟨by rw [hR]; exact Nat.le_of_ble_eq_true rfl, by rw [hR]; exact Nat.le_of_ble_eq_true rfl⟩) (my_preV hK hN (hP.sub [0, 1] rfl) (hD.sub [0, 1] (by decide +kernel) rfl) 0 rfl rfl) rfl rfl hl.1 rfl (lv_room (Nat.le_of_ble_eq_true rfl)) d_RC_count_15 ⟨by rw [hR]; exact Nat.le_of_ble_eq_true rfl, by rw [hR]; exact Nat.le_of_ble_eq_true rfl⟩) hP hD hS hA [0, 1] [2, 3] rfl rfl (by decide +kernel) (by decide +kernel) (fun r_15 u9 H locs hw_15 hP hD hS => ?_)
  have hr_15 : r_15 = if 0 ≤ (nI t) ∧ (nI t) < nI kl then 1 else 0 := hw_15
  have hP : va_P (dC, dI) vwCl [(rc, Sum.inr (6, [Value.ref co, Value.ref ma, Value.int (nI k), Value.int fit, Value.int fen, Value.int frd, Value.int fbd, Value.int fir])), (ma, Sum.inl (cM, 8, Sum.inr (Sum.inr (Sum.inr (Sum.inr mf))))), (mo, Sum.inr (8, [Value.ref ka, Value.ref oo, Value.ref o2])), (ka, Sum.inl (cI, kl, Sum.inl kf))] H := hP
  have hD : va_D A [(rc, Sum.inr (6, [Value.ref co, Value.ref ma, Value.int (nI k), Value.int fit, Value.int fen, Value.int frd, Value.int fbd, Value.int fir])), (ma, Sum.inl (cM, 8, Sum.inr (Sum.inr (Sum.inr (Sum.inr mf))))), (mo, Sum.inr (8, [Value.ref ka, Value.ref oo, Value.ref o2])), (ka, Sum.inl (cI, kl, Sum.inl kf))] := hD
  refine lv_if_ne (tgt := 23) hx hb d_RC_count_18 (by decide) (fun c_1 => ?_) (fun c_1 => ?_)
  · refine lv_iload_n hx hb d_RC_count_23 rfl (lv_at hl 4 rfl) ?_
    refine lv_if_lt (tgt := 34) hx hb d_RC_count_24 (by decide) (fun c_2 => ?_) (fun c_2 => ?_)
    · exact absurd c_2 (nI_pos (by omega))
    · refine lv_iload_n hx hb d_RC_count_27 rfl (lv_at hl 4 rfl) ?_
      refine lv_sipush (v := 4095) hx hb d_RC_count_28 (by decide) ?_
      refine lv_icmp_le (tgt := 37) hx hb d_RC_count_31 (by decide) (fun c_3 => ?_) (fun c_3 => ?_)
      · refine lv_aload_n hx hb d_RC_count_37 rfl (lv_at hl 1 rfl) ?_
        refine va_get (D := (dC, dI)) (ci := 6) (v := .int fit) (C := "RangeCoders") (T := T_RC) (N := 8) hx hb hg in_RC hown hK hP 0 rfl rfl 3 (by decide) (hg _ k261) (fun _ h9 => h9) rfl d_RC_count_38 ?_
        refine lv_if_le (tgt := 51) hx hb d_RC_count_41 (by decide) (fun c_4 => ?_) (fun c_4 => ?_)
        · refine lv_aload_n hx hb d_RC_count_51 rfl (lv_at hl 1 rfl) ?_
          refine va_get (D := (dC, dI)) (ci := 6) (v := .int frd) (C := "RangeCoders") (T := T_RC) (N := 8) hx hb hg in_RC hown hK hP 0 rfl rfl 5 (by decide) (hg _ k263) (fun _ h9 => h9) rfl d_RC_count_52 ?_
          refine lv_if_eq (tgt := 61) hx hb d_RC_count_55 (by decide) (fun c_5 => ?_) (fun c_5 => ?_)
          · exact absurd hnn (fun h9 => h9.elim (fun q9 => absurd q9.1 (Int32.not_lt.mpr c_4)) (fun q9 => q9 c_5))
          · refine lv_bipush (v := (-3)) hx hb d_RC_count_58 (by decide) ?_
            exact my_iret (v := (-3)) hx hb hr (rfl) hlocks hQ hK hS (Nat.le_refl _) (Nat.le_refl _) () (rfl) (hP.sub [0, 1, 2, 3] rfl) (hD.sub [0, 1, 2, 3] (by decide +kernel) rfl) d_RC_count_60
        · refine lv_aload_n hx hb d_RC_count_44 rfl (lv_at hl 1 rfl) ?_
          refine va_get (D := (dC, dI)) (ci := 6) (v := .int fen) (C := "RangeCoders") (T := T_RC) (N := 8) hx hb hg in_RC hown hK hP 0 rfl rfl 4 (by decide) (hg _ k262) (fun _ h9 => h9) rfl d_RC_count_45 ?_
          refine lv_if_eq (tgt := 58) hx hb d_RC_count_48 (by decide) (fun c_6 => ?_) (fun c_6 => ?_)
          · refine lv_bipush (v := (-3)) hx hb d_RC_count_58 (by decide) ?_
            exact my_iret (v := (-3)) hx hb hr (rfl) hlocks hQ hK hS (Nat.le_refl _) (Nat.le_refl _) () (rfl) (hP.sub [0, 1, 2, 3] rfl) (hD.sub [0, 1, 2, 3] (by decide +kernel) rfl) d_RC_count_60
          · refine lv_aload_n hx hb d_RC_count_51 rfl (lv_at hl 1 rfl) ?_
            refine va_get (D := (dC, dI)) (ci := 6) (v := .int frd) (C := "RangeCoders") (T := T_RC) (N := 8) hx hb hg in_RC hown hK hP 0 rfl rfl 5 (by decide) (hg _ k263) (fun _ h9 => h9) rfl d_RC_count_52 ?_
            refine lv_if_eq (tgt := 61) hx hb d_RC_count_55 (by decide) (fun c_7 => ?_) (fun c_7 => ?_)
            · exact absurd hnn (fun h9 => h9.elim (fun q9 => c_6 q9.2) (fun q9 => q9 c_7))
            · refine lv_bipush (v := (-3)) hx hb d_RC_count_58 (by decide) ?_
              exact my_iret (v := (-3)) hx hb hr (rfl) hlocks hQ hK hS (Nat.le_refl _) (Nat.le_refl _) () (rfl) (hP.sub [0, 1, 2, 3] rfl) (hD.sub [0, 1, 2, 3] (by decide +kernel) rfl) d_RC_count_60
      · exact absurd (nI_le (b := 4095) hc (by decide)) c_3
  · exact absurd (has_in ht (by omega)) (one_eq hr_15 c_1)
set_option maxHeartbeats 2000000 in
set_option maxRecDepth 100000 in
theorem f_RC_countE (l : Launch) (dC : Nat → ClassId) (dI : Nat → Nat → Nat) (cI cM cO : ClassId) (sz : Nat) (rc : Nat) (ma : Nat) (k : Nat) (fit : Int32) (fen : Int32) (frd : Int32) (fbd : Int32) (fir : Int32) (mf : Nat → Option Nat) (co : Nat) (j : Nat) (mo : Nat) (o2 : Nat) (oo : Nat) (ka : Nat) (kl : Nat) (kf : Nat → Int32) (t : Nat) (c9 : Nat) (hk8 : k ≤ 8) (hj : j < k) (hmf : mf j = some mo) (hkl : kl ≤ 64) (ht : t < kl) (hc : c9 ≤ 4095) (hen : ¬ fen = 0) (hrd : frd = 0) : MetI l y_RC_count (Cond.code y_RC_count prog_1_method_3_code 6 (some .int) :: gw) ({ frames := 1, cells := 0, slots := 0, locals := 21 } : Room) (dC, dI) vwCl (kT cI cM cO) [Value.ref rc, Value.int (nI j), Value.int (nI t), Value.int (nI c9)] [(rc, Sum.inr (6, [Value.ref co, Value.ref ma, Value.int (nI k), Value.int fit, Value.int fen, Value.int frd, Value.int fbd, Value.int fir])), (ma, Sum.inl (cM, 8, Sum.inr (Sum.inr (Sum.inr (Sum.inr mf))))), (mo, Sum.inr (8, [Value.ref ka, Value.ref oo, Value.ref o2])), (ka, Sum.inl (cI, kl, Sum.inl kf))] sz (fun (r : Int32) (u : (Nat → Int32)) => r = kf t ∧ u = upd kf t (nI c9)) (fun (u : (Nat → Int32)) => [(rc, Sum.inr (6, [Value.ref co, Value.ref ma, Value.int (nI k), Value.int fit, Value.int fen, Value.int frd, Value.int fbd, Value.int fir])), (ma, Sum.inl (cM, 8, Sum.inr (Sum.inr (Sum.inr (Sum.inr mf))))), (mo, Sum.inr (8, [Value.ref ka, Value.ref oo, Value.ref o2])), (ka, Sum.inl (cI, kl, Sum.inl u))]) 0 0 := by
  refine my_ofI (cc := prog_1_method_3_code) (n := 6) (ret := (some .int)) (by decide) rfl (Nat.le_of_ble_eq_true rfl) ?_
  intro p e s m args below meth c R Q A ls H locs hx hb hr hts hown hlocks hml hnm hR hQ hA hl hP hK hN hD hS
  have hg : ∀ w ∈ gw, w.before args s = true := fun w h => hts w (List.mem_cons_of_mem _ h)
  have hown : s.vm.findClass "RangeCoders" = some m.cls := hown
  have hl : lv_has ls 6 [(0, Value.ref rc), (1, Value.int (nI j)), (2, Value.int (nI t)), (3, Value.int (nI c9))] := hl
  refine lv_aload_n hx hb d_RC_count_0 rfl (lv_at hl 0 rfl) ?_
  refine lv_iload_n hx hb d_RC_count_1 rfl (lv_at hl 1 rfl) ?_
  refine my_cq (wr := [(mo, Sum.inr (8, [Value.ref ka, Value.ref oo, Value.ref o2])), (ka, Sum.inl (cI, kl, Sum.inl kf))]) (va_runV (As := [Value.int (nI j)]) (rest := []) ⟨hx, hb, hml, hown, hts⟩ (c_RC_modelAtB l dC dI cI cM cO H.size rc ma k fit fen frd fbd fir mf co j mo (by first | assumption | omega) (by first | assumption | omega) (by first | assumption | omega)) (cwV 1 hts (my_gV k412 k414 ks3 k1 k415) rfl rfl rfl (by decide +kernel) ⟨by rw [hR]; exact Nat.le_of_ble_eq_true rfl, by rw [hR]; exact Nat.le_of_ble_eq_true rfl⟩) (my_preV hK hN (hP.sub [0, 1] rfl) (hD.sub [0, 1] (by decide +kernel) rfl) 0 rfl rfl) rfl rfl hl.1 rfl (lv_room (Nat.le_of_ble_eq_true rfl)) d_RC_count_2 ⟨by rw [hR]; exact Nat.le_of_ble_eq_true rfl, by rw [hR]; exact Nat.le_of_ble_eq_true rfl⟩) hP hD hS hA [0, 1] [2, 3] rfl rfl (by decide +kernel) (by decide +kernel) (fun r_2 u9 H locs hw_2 hP hD hS => ?_)
  have hr_2 : r_2 = some mo := hw_2
  have hP : va_P (dC, dI) vwCl [(mo, Sum.inr (8, [Value.ref ka, Value.ref oo, Value.ref o2])), (ka, Sum.inl (cI, kl, Sum.inl kf)), (rc, Sum.inr (6, [Value.ref co, Value.ref ma, Value.int (nI k), Value.int fit, Value.int fen, Value.int frd, Value.int fbd, Value.int fir])), (ma, Sum.inl (cM, 8, Sum.inr (Sum.inr (Sum.inr (Sum.inr mf)))))] H := hP
  have hD : va_D A [(mo, Sum.inr (8, [Value.ref ka, Value.ref oo, Value.ref o2])), (ka, Sum.inl (cI, kl, Sum.inl kf)), (rc, Sum.inr (6, [Value.ref co, Value.ref ma, Value.int (nI k), Value.int fit, Value.int fen, Value.int frd, Value.int fbd, Value.int fir])), (ma, Sum.inl (cM, 8, Sum.inr (Sum.inr (Sum.inr (Sum.inr mf)))))] := hD
  subst hr_2
  refine W.eq (g2 := F0 m 5 ls [Value.ref mo]) rfl ?_
  refine lv_astore (lv' := [(4, Value.ref mo), (0, Value.ref rc), (1, Value.int (nI j)), (2, Value.int (nI t)), (3, Value.int (nI c9))]) hx hb d_RC_count_5 hl (by decide) rfl (fun ls hl => ?_)
  refine lv_aload hx hb d_RC_count_7 (lv_at hl 0 rfl) ?_
  refine lv_ifnull hx hb d_RC_count_9 ?_
  refine lv_aload hx hb d_RC_count_12 (lv_at hl 0 rfl) ?_
  refine lv_iload_n hx hb d_RC_count_14 rfl (lv_at hl 3 rfl) ?_
  refine my_ci (wr := [(rc, Sum.inr (6, [Value.ref co, Value.ref ma, Value.int (nI k), Value.int fit, Value.int fen, Value.int frd, Value.int fbd, Value.int fir])), (ma, Sum.inl (cM, 8, Sum.inr (Sum.inr (Sum.inr (Sum.inr mf)))))]) (va_runV (As := [Value.int (nI t)]) (rest := []) ⟨hx, hb, hml, hown, hts⟩ (f_Model_hasSign l dC dI cI cM cO H.size mo ka oo o2 kl kf (nI t) (by first | assumption | omega)) (cwV 1 hts (my_gV k416 k417 k418 k13 k419) rfl rfl rfl (by decide +kernel) ⟨by rw [hR]; exact Nat.le_of_ble_eq_true rfl, by rw [hR]; exact Nat.le_of_ble_eq_true rfl⟩) (my_preV hK hN (hP.sub [0, 1] rfl) (hD.sub [0, 1] (by decide +kernel) rfl) 0 rfl rfl) rfl rfl hl.1 rfl (lv_room (Nat.le_of_ble_eq_true rfl)) d_RC_count_15 ⟨by rw [hR]; exact Nat.le_of_ble_eq_true rfl, by rw [hR]; exact Nat.le_of_ble_eq_true rfl⟩) hP hD hS hA [0, 1] [2, 3] rfl rfl (by decide +kernel) (by decide +kernel) (fun r_15 u9 H locs hw_15 hP hD hS => ?_)
  have hr_15 : r_15 = if 0 ≤ (nI t) ∧ (nI t) < nI kl then 1 else 0 := hw_15
  have hP : va_P (dC, dI) vwCl [(rc, Sum.inr (6, [Value.ref co, Value.ref ma, Value.int (nI k), Value.int fit, Value.int fen, Value.int frd, Value.int fbd, Value.int fir])), (ma, Sum.inl (cM, 8, Sum.inr (Sum.inr (Sum.inr (Sum.inr mf))))), (mo, Sum.inr (8, [Value.ref ka, Value.ref oo, Value.ref o2])), (ka, Sum.inl (cI, kl, Sum.inl kf))] H := hP
  have hD : va_D A [(rc, Sum.inr (6, [Value.ref co, Value.ref ma, Value.int (nI k), Value.int fit, Value.int fen, Value.int frd, Value.int fbd, Value.int fir])), (ma, Sum.inl (cM, 8, Sum.inr (Sum.inr (Sum.inr (Sum.inr mf))))), (mo, Sum.inr (8, [Value.ref ka, Value.ref oo, Value.ref o2])), (ka, Sum.inl (cI, kl, Sum.inl kf))] := hD
  refine lv_if_ne (tgt := 23) hx hb d_RC_count_18 (by decide) (fun c_1 => ?_) (fun c_1 => ?_)
  · refine lv_iload_n hx hb d_RC_count_23 rfl (lv_at hl 4 rfl) ?_
    refine lv_if_lt (tgt := 34) hx hb d_RC_count_24 (by decide) (fun c_2 => ?_) (fun c_2 => ?_)
    · exact absurd c_2 (nI_pos (by omega))
    · refine lv_iload_n hx hb d_RC_count_27 rfl (lv_at hl 4 rfl) ?_
      refine lv_sipush (v := 4095) hx hb d_RC_count_28 (by decide) ?_
      refine lv_icmp_le (tgt := 37) hx hb d_RC_count_31 (by decide) (fun c_3 => ?_) (fun c_3 => ?_)
      · refine lv_aload_n hx hb d_RC_count_37 rfl (lv_at hl 1 rfl) ?_
        refine va_get (D := (dC, dI)) (ci := 6) (v := .int fit) (C := "RangeCoders") (T := T_RC) (N := 8) hx hb hg in_RC hown hK hP 0 rfl rfl 3 (by decide) (hg _ k261) (fun _ h9 => h9) rfl d_RC_count_38 ?_
        refine lv_if_le (tgt := 51) hx hb d_RC_count_41 (by decide) (fun c_4 => ?_) (fun c_4 => ?_)
        · refine lv_aload_n hx hb d_RC_count_51 rfl (lv_at hl 1 rfl) ?_
          refine va_get (D := (dC, dI)) (ci := 6) (v := .int frd) (C := "RangeCoders") (T := T_RC) (N := 8) hx hb hg in_RC hown hK hP 0 rfl rfl 5 (by decide) (hg _ k263) (fun _ h9 => h9) rfl d_RC_count_52 ?_
          refine lv_if_eq (tgt := 61) hx hb d_RC_count_55 (by decide) (fun c_5 => ?_) (fun c_5 => ?_)
          · refine lv_aload hx hb d_RC_count_61 (lv_at hl 0 rfl) ?_
            refine va_get (D := (dC, dI)) (ci := 8) (v := .ref ka) (C := "RangeCoders$Model") (T := T_Model) (N := 3) hx hb hg in_Model hown hK hP 2 rfl rfl 0 (by decide) (hg _ k341) (fun _ h9 => h9) rfl d_RC_count_63 ?_
            refine lv_iload_n hx hb d_RC_count_66 rfl (lv_at hl 3 rfl) ?_
            refine va_iald hx hb hK hP 3 0 rfl rfl (vp_in_nI ht (by omega)) d_RC_count_67 ?_
            refine lv_topi (fun v_6 ev_6 => ?_)
            refine lv_istore (lv' := [(5, Value.int v_6), (4, Value.ref mo), (0, Value.ref rc), (1, Value.int (nI j)), (2, Value.int (nI t)), (3, Value.int (nI c9))]) hx hb d_RC_count_68 hl (by decide) rfl (fun ls hl => ?_)
            refine lv_aload hx hb d_RC_count_70 (lv_at hl 1 rfl) ?_
            refine va_get (D := (dC, dI)) (ci := 8) (v := .ref ka) (C := "RangeCoders$Model") (T := T_Model) (N := 3) hx hb hg in_Model hown hK hP 2 rfl rfl 0 (by decide) (hg _ k341) (fun _ h9 => h9) rfl d_RC_count_72 ?_
            refine lv_iload_n hx hb d_RC_count_75 rfl (lv_at hl 4 rfl) ?_
            refine lv_iload_n hx hb d_RC_count_76 rfl (lv_at hl 5 rfl) ?_
            refine va_iast hx hb hK hP hD hS 3 0 rfl rfl (vp_in_nI ht (by omega)) d_RC_count_77 (fun H locs hP hD hS => ?_)
            have hP : va_P (dC, dI) vwCl [(rc, Sum.inr (6, [Value.ref co, Value.ref ma, Value.int (nI k), Value.int fit, Value.int fen, Value.int frd, Value.int fbd, Value.int fir])), (ma, Sum.inl (cM, 8, Sum.inr (Sum.inr (Sum.inr (Sum.inr mf))))), (mo, Sum.inr (8, [Value.ref ka, Value.ref oo, Value.ref o2])), (ka, Sum.inl (cI, kl, Sum.inl (upd kf (nI t).toNatClampNeg (nI c9))))] H := hP
            have hD : va_D A [(rc, Sum.inr (6, [Value.ref co, Value.ref ma, Value.int (nI k), Value.int fit, Value.int fen, Value.int frd, Value.int fbd, Value.int fir])), (ma, Sum.inl (cM, 8, Sum.inr (Sum.inr (Sum.inr (Sum.inr mf))))), (mo, Sum.inr (8, [Value.ref ka, Value.ref oo, Value.ref o2])), (ka, Sum.inl (cI, kl, Sum.inl (upd kf (nI t).toNatClampNeg (nI c9))))] := hD
            refine lv_aload_n hx hb d_RC_count_78 rfl (lv_at hl 2 rfl) ?_
            refine va_get (D := (dC, dI)) (ci := 6) (v := .int fen) (C := "RangeCoders") (T := T_RC) (N := 8) hx hb hg in_RC hown hK hP 0 rfl rfl 4 (by decide) (hg _ k262) (fun _ h9 => h9) rfl d_RC_count_79 ?_
            refine lv_if_ne (tgt := 102) hx hb d_RC_count_82 (by decide) (fun c_7 => ?_) (fun c_7 => ?_)
            · refine lv_iload hx hb d_RC_count_102 (lv_at hl 0 rfl) ?_
              exact my_iret (v := v_6) hx hb hr (rfl) hlocks hQ hK hS (Nat.le_refl _) (Nat.le_refl _) (upd kf (nI t).toNatClampNeg (nI c9)) (⟨by rw [ev_6, nI_clamp (by omega)], by rw [nI_clamp (by omega)]⟩) (hP.sub [0, 1, 2, 3] rfl) (hD.sub [0, 1, 2, 3] (by decide +kernel) rfl) d_RC_count_104
            · exact absurd c_7 hen
          · exact absurd hrd c_5
        · refine lv_aload_n hx hb d_RC_count_44 rfl (lv_at hl 1 rfl) ?_
          refine va_get (D := (dC, dI)) (ci := 6) (v := .int fen) (C := "RangeCoders") (T := T_RC) (N := 8) hx hb hg in_RC hown hK hP 0 rfl rfl 4 (by decide) (hg _ k262) (fun _ h9 => h9) rfl d_RC_count_45 ?_
          refine lv_if_eq (tgt := 58) hx hb d_RC_count_48 (by decide) (fun c_8 => ?_) (fun c_8 => ?_)
          · exact absurd c_8 hen
          · refine lv_aload_n hx hb d_RC_count_51 rfl (lv_at hl 1 rfl) ?_
            refine va_get (D := (dC, dI)) (ci := 6) (v := .int frd) (C := "RangeCoders") (T := T_RC) (N := 8) hx hb hg in_RC hown hK hP 0 rfl rfl 5 (by decide) (hg _ k263) (fun _ h9 => h9) rfl d_RC_count_52 ?_
            refine lv_if_eq (tgt := 61) hx hb d_RC_count_55 (by decide) (fun c_9 => ?_) (fun c_9 => ?_)
            · refine lv_aload hx hb d_RC_count_61 (lv_at hl 0 rfl) ?_
              refine va_get (D := (dC, dI)) (ci := 8) (v := .ref ka) (C := "RangeCoders$Model") (T := T_Model) (N := 3) hx hb hg in_Model hown hK hP 2 rfl rfl 0 (by decide) (hg _ k341) (fun _ h9 => h9) rfl d_RC_count_63 ?_
              refine lv_iload_n hx hb d_RC_count_66 rfl (lv_at hl 3 rfl) ?_
              refine va_iald hx hb hK hP 3 0 rfl rfl (vp_in_nI ht (by omega)) d_RC_count_67 ?_
              refine lv_topi (fun v_10 ev_10 => ?_)
              refine lv_istore (lv' := [(5, Value.int v_10), (4, Value.ref mo), (0, Value.ref rc), (1, Value.int (nI j)), (2, Value.int (nI t)), (3, Value.int (nI c9))]) hx hb d_RC_count_68 hl (by decide) rfl (fun ls hl => ?_)
              refine lv_aload hx hb d_RC_count_70 (lv_at hl 1 rfl) ?_
              refine va_get (D := (dC, dI)) (ci := 8) (v := .ref ka) (C := "RangeCoders$Model") (T := T_Model) (N := 3) hx hb hg in_Model hown hK hP 2 rfl rfl 0 (by decide) (hg _ k341) (fun _ h9 => h9) rfl d_RC_count_72 ?_
              refine lv_iload_n hx hb d_RC_count_75 rfl (lv_at hl 4 rfl) ?_
              refine lv_iload_n hx hb d_RC_count_76 rfl (lv_at hl 5 rfl) ?_
              refine va_iast hx hb hK hP hD hS 3 0 rfl rfl (vp_in_nI ht (by omega)) d_RC_count_77 (fun H locs hP hD hS => ?_)
              have hP : va_P (dC, dI) vwCl [(rc, Sum.inr (6, [Value.ref co, Value.ref ma, Value.int (nI k), Value.int fit, Value.int fen, Value.int frd, Value.int fbd, Value.int fir])), (ma, Sum.inl (cM, 8, Sum.inr (Sum.inr (Sum.inr (Sum.inr mf))))), (mo, Sum.inr (8, [Value.ref ka, Value.ref oo, Value.ref o2])), (ka, Sum.inl (cI, kl, Sum.inl (upd kf (nI t).toNatClampNeg (nI c9))))] H := hP
              have hD : va_D A [(rc, Sum.inr (6, [Value.ref co, Value.ref ma, Value.int (nI k), Value.int fit, Value.int fen, Value.int frd, Value.int fbd, Value.int fir])), (ma, Sum.inl (cM, 8, Sum.inr (Sum.inr (Sum.inr (Sum.inr mf))))), (mo, Sum.inr (8, [Value.ref ka, Value.ref oo, Value.ref o2])), (ka, Sum.inl (cI, kl, Sum.inl (upd kf (nI t).toNatClampNeg (nI c9))))] := hD
              refine lv_aload_n hx hb d_RC_count_78 rfl (lv_at hl 2 rfl) ?_
              refine va_get (D := (dC, dI)) (ci := 6) (v := .int fen) (C := "RangeCoders") (T := T_RC) (N := 8) hx hb hg in_RC hown hK hP 0 rfl rfl 4 (by decide) (hg _ k262) (fun _ h9 => h9) rfl d_RC_count_79 ?_
              refine lv_if_ne (tgt := 102) hx hb d_RC_count_82 (by decide) (fun c_11 => ?_) (fun c_11 => ?_)
              · refine lv_iload hx hb d_RC_count_102 (lv_at hl 0 rfl) ?_
                exact my_iret (v := v_10) hx hb hr (rfl) hlocks hQ hK hS (Nat.le_refl _) (Nat.le_refl _) (upd kf (nI t).toNatClampNeg (nI c9)) (⟨by rw [ev_10, nI_clamp (by omega)], by rw [nI_clamp (by omega)]⟩) (hP.sub [0, 1, 2, 3] rfl) (hD.sub [0, 1, 2, 3] (by decide +kernel) rfl) d_RC_count_104
              · exact absurd c_11 hen
            · exact absurd hrd c_9
      · exact absurd (nI_le (b := 4095) hc (by decide)) c_3
  · exact absurd (has_in ht (by omega)) (one_eq hr_15 c_1)
set_option maxHeartbeats 2000000 in
set_option maxRecDepth 100000 in
theorem f_RC_putE (l : Launch) (dC : Nat → ClassId) (dI : Nat → Nat → Nat) (cI cM cO : ClassId) (sz : Nat) (rc : Nat) (ma : Nat) (k : Nat) (fit : Int32) (fen : Int32) (frd : Int32) (fbd : Int32) (fir : Int32) (mf : Nat → Option Nat) (co : Nat) (j : Nat) (mo : Nat) (o2 : Nat) (oo : Nat) (ka : Nat) (kl : Nat) (kf : Nat → Int32) (t : Nat) (hk8 : k ≤ 8) (hj : j < k) (hmf : mf j = some mo) (hkl : kl ≤ 64) (ht : t < kl) (hen : ¬ fen = 0) : MetI l y_RC_put (Cond.code y_RC_put prog_1_method_4_code 4 (some .int) :: gw) ({ frames := 1, cells := 0, slots := 0, locals := 21 } : Room) (dC, dI) vwCl (kT cI cM cO) [Value.ref rc, Value.int (nI j), Value.int (nI t)] [(rc, Sum.inr (6, [Value.ref co, Value.ref ma, Value.int (nI k), Value.int fit, Value.int fen, Value.int frd, Value.int fbd, Value.int fir])), (ma, Sum.inl (cM, 8, Sum.inr (Sum.inr (Sum.inr (Sum.inr mf))))), (mo, Sum.inr (8, [Value.ref ka, Value.ref oo, Value.ref o2])), (ka, Sum.inl (cI, kl, Sum.inl kf))] sz (fun (r : Int32) (u : Unit) => r = -3) (fun (u : Unit) => [(rc, Sum.inr (6, [Value.ref co, Value.ref ma, Value.int (nI k), Value.int fit, Value.int fen, Value.int frd, Value.int fbd, Value.int fir])), (ma, Sum.inl (cM, 8, Sum.inr (Sum.inr (Sum.inr (Sum.inr mf))))), (mo, Sum.inr (8, [Value.ref ka, Value.ref oo, Value.ref o2])), (ka, Sum.inl (cI, kl, Sum.inl kf))]) 0 0 := by
  refine my_ofI (cc := prog_1_method_4_code) (n := 4) (ret := (some .int)) (by decide) rfl (Nat.le_of_ble_eq_true rfl) ?_
  intro p e s m args below meth c R Q A ls H locs hx hb hr hts hown hlocks hml hnm hR hQ hA hl hP hK hN hD hS
  have hg : ∀ w ∈ gw, w.before args s = true := fun w h => hts w (List.mem_cons_of_mem _ h)
  have hown : s.vm.findClass "RangeCoders" = some m.cls := hown
  have hl : lv_has ls 4 [(0, Value.ref rc), (1, Value.int (nI j)), (2, Value.int (nI t))] := hl
  refine lv_aload_n hx hb d_RC_put_0 rfl (lv_at hl 0 rfl) ?_
  refine lv_iload_n hx hb d_RC_put_1 rfl (lv_at hl 1 rfl) ?_
  refine my_cq (wr := [(mo, Sum.inr (8, [Value.ref ka, Value.ref oo, Value.ref o2])), (ka, Sum.inl (cI, kl, Sum.inl kf))]) (va_runV (As := [Value.int (nI j)]) (rest := []) ⟨hx, hb, hml, hown, hts⟩ (c_RC_modelAtB l dC dI cI cM cO H.size rc ma k fit fen frd fbd fir mf co j mo (by first | assumption | omega) (by first | assumption | omega) (by first | assumption | omega)) (cwV 1 hts (my_gV k412 k414 ks3 k1 k415) rfl rfl rfl (by decide +kernel) ⟨by rw [hR]; exact Nat.le_of_ble_eq_true rfl, by rw [hR]; exact Nat.le_of_ble_eq_true rfl⟩) (my_preV hK hN (hP.sub [0, 1] rfl) (hD.sub [0, 1] (by decide +kernel) rfl) 0 rfl rfl) rfl rfl hl.1 rfl (lv_room (Nat.le_of_ble_eq_true rfl)) d_RC_put_2 ⟨by rw [hR]; exact Nat.le_of_ble_eq_true rfl, by rw [hR]; exact Nat.le_of_ble_eq_true rfl⟩) hP hD hS hA [0, 1] [2, 3] rfl rfl (by decide +kernel) (by decide +kernel) (fun r_2 u9 H locs hw_2 hP hD hS => ?_)
  have hr_2 : r_2 = some mo := hw_2
  have hP : va_P (dC, dI) vwCl [(mo, Sum.inr (8, [Value.ref ka, Value.ref oo, Value.ref o2])), (ka, Sum.inl (cI, kl, Sum.inl kf)), (rc, Sum.inr (6, [Value.ref co, Value.ref ma, Value.int (nI k), Value.int fit, Value.int fen, Value.int frd, Value.int fbd, Value.int fir])), (ma, Sum.inl (cM, 8, Sum.inr (Sum.inr (Sum.inr (Sum.inr mf)))))] H := hP
  have hD : va_D A [(mo, Sum.inr (8, [Value.ref ka, Value.ref oo, Value.ref o2])), (ka, Sum.inl (cI, kl, Sum.inl kf)), (rc, Sum.inr (6, [Value.ref co, Value.ref ma, Value.int (nI k), Value.int fit, Value.int fen, Value.int frd, Value.int fbd, Value.int fir])), (ma, Sum.inl (cM, 8, Sum.inr (Sum.inr (Sum.inr (Sum.inr mf)))))] := hD
  subst hr_2
  refine W.eq (g2 := F0 m 5 ls [Value.ref mo]) rfl ?_
  refine lv_astore_n (lv' := [(3, Value.ref mo), (0, Value.ref rc), (1, Value.int (nI j)), (2, Value.int (nI t))]) hx hb d_RC_put_5 rfl hl (by decide) rfl (fun ls hl => ?_)
  refine lv_aload_n hx hb d_RC_put_6 rfl (lv_at hl 0 rfl) ?_
  refine lv_ifnull hx hb d_RC_put_7 ?_
  refine lv_aload_n hx hb d_RC_put_10 rfl (lv_at hl 0 rfl) ?_
  refine lv_iload_n hx hb d_RC_put_11 rfl (lv_at hl 3 rfl) ?_
  refine my_ci (wr := [(rc, Sum.inr (6, [Value.ref co, Value.ref ma, Value.int (nI k), Value.int fit, Value.int fen, Value.int frd, Value.int fbd, Value.int fir])), (ma, Sum.inl (cM, 8, Sum.inr (Sum.inr (Sum.inr (Sum.inr mf)))))]) (va_runV (As := [Value.int (nI t)]) (rest := []) ⟨hx, hb, hml, hown, hts⟩ (f_Model_hasSign l dC dI cI cM cO H.size mo ka oo o2 kl kf (nI t) (by first | assumption | omega)) (cwV 1 hts (my_gV k416 k417 k418 k13 k419) rfl rfl rfl (by decide +kernel) ⟨by rw [hR]; exact Nat.le_of_ble_eq_true rfl, by rw [hR]; exact Nat.le_of_ble_eq_true rfl⟩) (my_preV hK hN (hP.sub [0, 1] rfl) (hD.sub [0, 1] (by decide +kernel) rfl) 0 rfl rfl) rfl rfl hl.1 rfl (lv_room (Nat.le_of_ble_eq_true rfl)) d_RC_put_12 ⟨by rw [hR]; exact Nat.le_of_ble_eq_true rfl, by rw [hR]; exact Nat.le_of_ble_eq_true rfl⟩) hP hD hS hA [0, 1] [2, 3] rfl rfl (by decide +kernel) (by decide +kernel) (fun r_12 u9 H locs hw_12 hP hD hS => ?_)
  have hr_12 : r_12 = if 0 ≤ (nI t) ∧ (nI t) < nI kl then 1 else 0 := hw_12
  have hP : va_P (dC, dI) vwCl [(rc, Sum.inr (6, [Value.ref co, Value.ref ma, Value.int (nI k), Value.int fit, Value.int fen, Value.int frd, Value.int fbd, Value.int fir])), (ma, Sum.inl (cM, 8, Sum.inr (Sum.inr (Sum.inr (Sum.inr mf))))), (mo, Sum.inr (8, [Value.ref ka, Value.ref oo, Value.ref o2])), (ka, Sum.inl (cI, kl, Sum.inl kf))] H := hP
  have hD : va_D A [(rc, Sum.inr (6, [Value.ref co, Value.ref ma, Value.int (nI k), Value.int fit, Value.int fen, Value.int frd, Value.int fbd, Value.int fir])), (ma, Sum.inl (cM, 8, Sum.inr (Sum.inr (Sum.inr (Sum.inr mf))))), (mo, Sum.inr (8, [Value.ref ka, Value.ref oo, Value.ref o2])), (ka, Sum.inl (cI, kl, Sum.inl kf))] := hD
  refine lv_if_ne (tgt := 20) hx hb d_RC_put_15 (by decide) (fun c_1 => ?_) (fun c_1 => ?_)
  · refine lv_aload_n hx hb d_RC_put_20 rfl (lv_at hl 1 rfl) ?_
    refine va_get (D := (dC, dI)) (ci := 6) (v := .int fen) (C := "RangeCoders") (T := T_RC) (N := 8) hx hb hg in_RC hown hK hP 0 rfl rfl 4 (by decide) (hg _ k262) (fun _ h9 => h9) rfl d_RC_put_21 ?_
    refine lv_if_ne (tgt := 42) hx hb d_RC_put_24 (by decide) (fun c_2 => ?_) (fun c_2 => ?_)
    · refine lv_bipush (v := (-3)) hx hb d_RC_put_42 (by decide) ?_
      exact my_iret (v := (-3)) hx hb hr (rfl) hlocks hQ hK hS (Nat.le_refl _) (Nat.le_refl _) () (rfl) (hP.sub [0, 1, 2, 3] rfl) (hD.sub [0, 1, 2, 3] (by decide +kernel) rfl) d_RC_put_44
    · exact absurd c_2 hen
  · exact absurd (has_in ht (by omega)) (one_eq hr_12 c_1)
set_option maxHeartbeats 2000000 in
set_option maxRecDepth 100000 in
theorem f_RC_endA (l : Launch) (dC : Nat → ClassId) (dI : Nat → Nat → Nat) (cI cM cO : ClassId) (sz : Nat) (rc : Nat) (ma : Nat) (k : Nat) (fit : Int32) (fen : Int32) (frd : Int32) (fbd : Int32) (fir : Int32) (mf : Nat → Option Nat) (co : Nat) (hen : ¬ fen = 0) : MetI l y_RC_end (Cond.code y_RC_end prog_1_method_6_code 1 (some .int) :: gw) ({ frames := 0, cells := 0, slots := 0, locals := 0 } : Room) (dC, dI) vwCl (kT cI cM cO) [Value.ref rc] [(rc, Sum.inr (6, [Value.ref co, Value.ref ma, Value.int (nI k), Value.int fit, Value.int fen, Value.int frd, Value.int fbd, Value.int fir]))] sz (fun (r : Int32) (u : Unit) => r = -3) (fun (u : Unit) => [(rc, Sum.inr (6, [Value.ref co, Value.ref ma, Value.int (nI k), Value.int fit, Value.int fen, Value.int frd, Value.int fbd, Value.int fir]))]) 0 0 := by
  refine my_ofI (cc := prog_1_method_6_code) (n := 1) (ret := (some .int)) (by decide) rfl (Nat.le_of_ble_eq_true rfl) ?_
  intro p e s m args below meth c R Q A ls H locs hx hb hr hts hown hlocks hml hnm hR hQ hA hl hP hK hN hD hS
  have hg : ∀ w ∈ gw, w.before args s = true := fun w h => hts w (List.mem_cons_of_mem _ h)
  have hown : s.vm.findClass "RangeCoders" = some m.cls := hown
  have hl : lv_has ls 1 [(0, Value.ref rc)] := hl
  refine lv_aload_n hx hb d_RC_end_0 rfl (lv_at hl 0 rfl) ?_
  refine va_get (D := (dC, dI)) (ci := 6) (v := .int fen) (C := "RangeCoders") (T := T_RC) (N := 8) hx hb hg in_RC hown hK hP 0 rfl rfl 4 (by decide) (hg _ k262) (fun _ h9 => h9) rfl d_RC_end_1 ?_
  refine lv_if_eq (tgt := 10) hx hb d_RC_end_4 (by decide) (fun c_1 => ?_) (fun c_1 => ?_)
  · exact absurd c_1 hen
  · refine lv_bipush (v := (-3)) hx hb d_RC_end_7 (by decide) ?_
    exact my_iret (v := (-3)) hx hb hr (rfl) hlocks hQ hK hS (Nat.le_refl _) (Nat.le_refl _) () (rfl) (hP.sub [0] rfl) (hD.sub [0] (by decide +kernel) rfl) d_RC_end_9
set_option maxHeartbeats 2000000 in
set_option maxRecDepth 100000 in
theorem f_Odds_hasNo (l : Launch) (dC : Nat → ClassId) (dI : Nat → Nat → Nat) (cI cM cO : ClassId) (sz : Nat) (oo : Nat) (osg : Int32) (ofc : Int32) (oca : Nat) (opa : Nat) (n : Nat) (ocf : Nat → Int32) (opl : Nat) (opf : Nat → Int32) (osm : Int32) (ii : Int32) (hn : n ≤ 64) (hpl : opl ≤ 512) (hno : ii < ofc ∨ ii < 0 ∨ nI n ≤ ii) : MetI l y_Odds_hasCell (Cond.code y_Odds_hasCell prog_7_method_2_code 2 (some .boolean) :: gw) ({ frames := 0, cells := 0, slots := 0, locals := 0 } : Room) (dC, dI) vwCl (kT cI cM cO) [Value.ref oo, Value.int ii] [(oo, Sum.inr (7, [Value.int osg, Value.int osm, Value.int ofc, Value.ref oca, Value.ref opa])), (oca, Sum.inl (cI, n, Sum.inl ocf)), (opa, Sum.inl (cI, opl, Sum.inl opf))] sz (fun (r : Int32) (u : Unit) => r = 0) (fun (u : Unit) => [(oo, Sum.inr (7, [Value.int osg, Value.int osm, Value.int ofc, Value.ref oca, Value.ref opa])), (oca, Sum.inl (cI, n, Sum.inl ocf)), (opa, Sum.inl (cI, opl, Sum.inl opf))]) 0 0 := by
  refine my_ofI (cc := prog_7_method_2_code) (n := 2) (ret := (some .boolean)) (by decide) rfl (Nat.le_of_ble_eq_true rfl) ?_
  intro p e s m args below meth c R Q A ls H locs hx hb hr hts hown hlocks hml hnm hR hQ hA hl hP hK hN hD hS
  have hg : ∀ w ∈ gw, w.before args s = true := fun w h => hts w (List.mem_cons_of_mem _ h)
  have hown : s.vm.findClass "RangeCoders$Odds" = some m.cls := hown
  have hl : lv_has ls 2 [(0, Value.ref oo), (1, Value.int ii)] := hl
  refine lv_iload_n hx hb d_Odds_hasCell_0 rfl (lv_at hl 1 rfl) ?_
  refine lv_aload_n hx hb d_Odds_hasCell_1 rfl (lv_at hl 0 rfl) ?_
  refine va_get (D := (dC, dI)) (ci := 7) (v := .int ofc) (C := "RangeCoders$Odds") (T := T_Odds) (N := 5) hx hb hg in_Odds hown hK hP 0 rfl rfl 2 (by decide) (hg _ k308) (fun _ h9 => h9) rfl d_Odds_hasCell_2 ?_
  refine lv_icmp_lt (tgt := 25) hx hb d_Odds_hasCell_5 (by decide) (fun c_1 => ?_) (fun c_1 => ?_)
  · refine lv_iconst (v := 0) hx hb d_Odds_hasCell_25 (by decide) ?_
    exact my_iret (v := 0) hx hb hr (rfl) hlocks hQ hK hS (Nat.le_refl _) (Nat.le_refl _) () (rfl) (hP.sub [0, 1, 2] rfl) (hD.sub [0, 1, 2] (by decide +kernel) rfl) d_Odds_hasCell_26
  · refine lv_iload_n hx hb d_Odds_hasCell_8 rfl (lv_at hl 1 rfl) ?_
    refine lv_if_lt (tgt := 25) hx hb d_Odds_hasCell_9 (by decide) (fun c_2 => ?_) (fun c_2 => ?_)
    · refine lv_iconst (v := 0) hx hb d_Odds_hasCell_25 (by decide) ?_
      exact my_iret (v := 0) hx hb hr (rfl) hlocks hQ hK hS (Nat.le_refl _) (Nat.le_refl _) () (rfl) (hP.sub [0, 1, 2] rfl) (hD.sub [0, 1, 2] (by decide +kernel) rfl) d_Odds_hasCell_26
    · refine lv_iload_n hx hb d_Odds_hasCell_12 rfl (lv_at hl 1 rfl) ?_
      refine lv_aload_n hx hb d_Odds_hasCell_13 rfl (lv_at hl 0 rfl) ?_
      refine va_get (D := (dC, dI)) (ci := 7) (v := .ref oca) (C := "RangeCoders$Odds") (T := T_Odds) (N := 5) hx hb hg in_Odds hown hK hP 0 rfl rfl 3 (by decide) (hg _ k309) (fun _ h9 => h9) rfl d_Odds_hasCell_14 ?_
      refine va_alen hx hb hK hP 1 0 rfl rfl (v := nI n) rfl d_Odds_hasCell_17 ?_
      refine lv_icmp_ge (tgt := 25) hx hb d_Odds_hasCell_18 (by decide) (fun c_3 => ?_) (fun c_3 => ?_)
      · refine lv_iconst (v := 0) hx hb d_Odds_hasCell_25 (by decide) ?_
        exact my_iret (v := 0) hx hb hr (rfl) hlocks hQ hK hS (Nat.le_refl _) (Nat.le_refl _) () (rfl) (hP.sub [0, 1, 2] rfl) (hD.sub [0, 1, 2] (by decide +kernel) rfl) d_Odds_hasCell_26
      · exact absurd hno (fun h9 => h9.elim c_1 (fun h8 => h8.elim c_2 c_3))
set_option maxHeartbeats 2000000 in
set_option maxRecDepth 100000 in
theorem f_RC_chanceS (l : Launch) (dC : Nat → ClassId) (dI : Nat → Nat → Nat) (cI cM cO : ClassId) (sz : Nat) (rc : Nat) (ma : Nat) (k : Nat) (fit : Int32) (fen : Int32) (frd : Int32) (fbd : Int32) (fir : Int32) (mf : Nat → Option Nat) (co : Nat) (j : Nat) (mo : Nat) (o2 : Nat) (ka : Nat) (kl : Nat) (kf : Nat → Int32) (oo : Nat) (osg : Int32) (ofc : Int32) (oca : Nat) (opa : Nat) (n : Nat) (ocf : Nat → Int32) (opl : Nat) (opf : Nat → Int32) (osm : Int32) (ss : Int32) (hk8 : k ≤ 8) (hj : j < k) (hmf : mf j = some mo) (hkl : kl ≤ 64) (hn : n ≤ 64) (hpl : opl ≤ 512) (hno : ss < ofc ∨ ss < 0 ∨ nI n ≤ ss) : MetI l y_RC_chance (Cond.code y_RC_chance prog_1_method_17_code 4 (some .int) :: gw) ({ frames := 1, cells := 0, slots := 0, locals := 21 } : Room) (dC, dI) vwCl (kT cI cM cO) [Value.ref rc, Value.int (nI j), Value.int ss] [(rc, Sum.inr (6, [Value.ref co, Value.ref ma, Value.int (nI k), Value.int fit, Value.int fen, Value.int frd, Value.int fbd, Value.int fir])), (ma, Sum.inl (cM, 8, Sum.inr (Sum.inr (Sum.inr (Sum.inr mf))))), (mo, Sum.inr (8, [Value.ref ka, Value.ref oo, Value.ref o2])), (ka, Sum.inl (cI, kl, Sum.inl kf)), (oo, Sum.inr (7, [Value.int osg, Value.int osm, Value.int ofc, Value.ref oca, Value.ref opa])), (oca, Sum.inl (cI, n, Sum.inl ocf)), (opa, Sum.inl (cI, opl, Sum.inl opf))] sz (fun (r : Int32) (u : Unit) => r = -1) (fun (u : Unit) => [(rc, Sum.inr (6, [Value.ref co, Value.ref ma, Value.int (nI k), Value.int fit, Value.int fen, Value.int frd, Value.int fbd, Value.int fir])), (ma, Sum.inl (cM, 8, Sum.inr (Sum.inr (Sum.inr (Sum.inr mf))))), (mo, Sum.inr (8, [Value.ref ka, Value.ref oo, Value.ref o2])), (ka, Sum.inl (cI, kl, Sum.inl kf)), (oo, Sum.inr (7, [Value.int osg, Value.int osm, Value.int ofc, Value.ref oca, Value.ref opa])), (oca, Sum.inl (cI, n, Sum.inl ocf)), (opa, Sum.inl (cI, opl, Sum.inl opf))]) 0 0 := by
  refine my_ofI (cc := prog_1_method_17_code) (n := 4) (ret := (some .int)) (by decide) rfl (Nat.le_of_ble_eq_true rfl) ?_
  intro p e s m args below meth c R Q A ls H locs hx hb hr hts hown hlocks hml hnm hR hQ hA hl hP hK hN hD hS
  have hg : ∀ w ∈ gw, w.before args s = true := fun w h => hts w (List.mem_cons_of_mem _ h)
  have hown : s.vm.findClass "RangeCoders" = some m.cls := hown
  have hl : lv_has ls 4 [(0, Value.ref rc), (1, Value.int (nI j)), (2, Value.int ss)] := hl
  refine lv_aload_n hx hb d_RC_chance_0 rfl (lv_at hl 0 rfl) ?_
  refine lv_iload_n hx hb d_RC_chance_1 rfl (lv_at hl 1 rfl) ?_
  refine my_cq (wr := [(mo, Sum.inr (8, [Value.ref ka, Value.ref oo, Value.ref o2])), (ka, Sum.inl (cI, kl, Sum.inl kf)), (oo, Sum.inr (7, [Value.int osg, Value.int osm, Value.int ofc, Value.ref oca, Value.ref opa])), (oca, Sum.inl (cI, n, Sum.inl ocf)), (opa, Sum.inl (cI, opl, Sum.inl opf))]) (va_runV (As := [Value.int (nI j)]) (rest := []) ⟨hx, hb, hml, hown, hts⟩ (c_RC_modelAtB l dC dI cI cM cO H.size rc ma k fit fen frd fbd fir mf co j mo (by first | assumption | omega) (by first | assumption | omega) (by first | assumption | omega)) (cwV 1 hts (my_gV k412 k414 ks3 k1 k415) rfl rfl rfl (by decide +kernel) ⟨by rw [hR]; exact Nat.le_of_ble_eq_true rfl, by rw [hR]; exact Nat.le_of_ble_eq_true rfl⟩) (my_preV hK hN (hP.sub [0, 1] rfl) (hD.sub [0, 1] (by decide +kernel) rfl) 0 rfl rfl) rfl rfl hl.1 rfl (lv_room (Nat.le_of_ble_eq_true rfl)) d_RC_chance_2 ⟨by rw [hR]; exact Nat.le_of_ble_eq_true rfl, by rw [hR]; exact Nat.le_of_ble_eq_true rfl⟩) hP hD hS hA [0, 1] [2, 3, 4, 5, 6] rfl rfl (by decide +kernel) (by decide +kernel) (fun r_2 u9 H locs hw_2 hP hD hS => ?_)
  have hr_2 : r_2 = some mo := hw_2
  have hP : va_P (dC, dI) vwCl [(mo, Sum.inr (8, [Value.ref ka, Value.ref oo, Value.ref o2])), (ka, Sum.inl (cI, kl, Sum.inl kf)), (oo, Sum.inr (7, [Value.int osg, Value.int osm, Value.int ofc, Value.ref oca, Value.ref opa])), (oca, Sum.inl (cI, n, Sum.inl ocf)), (opa, Sum.inl (cI, opl, Sum.inl opf)), (rc, Sum.inr (6, [Value.ref co, Value.ref ma, Value.int (nI k), Value.int fit, Value.int fen, Value.int frd, Value.int fbd, Value.int fir])), (ma, Sum.inl (cM, 8, Sum.inr (Sum.inr (Sum.inr (Sum.inr mf)))))] H := hP
  have hD : va_D A [(mo, Sum.inr (8, [Value.ref ka, Value.ref oo, Value.ref o2])), (ka, Sum.inl (cI, kl, Sum.inl kf)), (oo, Sum.inr (7, [Value.int osg, Value.int osm, Value.int ofc, Value.ref oca, Value.ref opa])), (oca, Sum.inl (cI, n, Sum.inl ocf)), (opa, Sum.inl (cI, opl, Sum.inl opf)), (rc, Sum.inr (6, [Value.ref co, Value.ref ma, Value.int (nI k), Value.int fit, Value.int fen, Value.int frd, Value.int fbd, Value.int fir])), (ma, Sum.inl (cM, 8, Sum.inr (Sum.inr (Sum.inr (Sum.inr mf)))))] := hD
  subst hr_2
  refine W.eq (g2 := F0 m 5 ls [Value.ref mo]) rfl ?_
  refine lv_astore_n (lv' := [(3, Value.ref mo), (0, Value.ref rc), (1, Value.int (nI j)), (2, Value.int ss)]) hx hb d_RC_chance_5 rfl hl (by decide) rfl (fun ls hl => ?_)
  refine lv_aload_n hx hb d_RC_chance_6 rfl (lv_at hl 0 rfl) ?_
  refine lv_ifnull hx hb d_RC_chance_7 ?_
  refine lv_aload_n hx hb d_RC_chance_10 rfl (lv_at hl 0 rfl) ?_
  refine va_get (D := (dC, dI)) (ci := 8) (v := .ref oo) (C := "RangeCoders$Model") (T := T_Model) (N := 3) hx hb hg in_Model hown hK hP 0 rfl rfl 1 (by decide) (hg _ k343) (fun _ h9 => h9) rfl d_RC_chance_11 ?_
  refine lv_iload_n hx hb d_RC_chance_14 rfl (lv_at hl 3 rfl) ?_
  refine my_ci (wr := [(mo, Sum.inr (8, [Value.ref ka, Value.ref oo, Value.ref o2])), (ka, Sum.inl (cI, kl, Sum.inl kf)), (rc, Sum.inr (6, [Value.ref co, Value.ref ma, Value.int (nI k), Value.int fit, Value.int fen, Value.int frd, Value.int fbd, Value.int fir])), (ma, Sum.inl (cM, 8, Sum.inr (Sum.inr (Sum.inr (Sum.inr mf)))))]) (va_runV (As := [Value.int ss]) (rest := []) ⟨hx, hb, hml, hown, hts⟩ (f_Odds_hasNo l dC dI cI cM cO H.size oo osg ofc oca opa n ocf opl opf osm ss (by first | assumption | omega) (by first | assumption | omega) (by first | assumption | omega)) (cwV 1 hts (my_gV k912 k397 k398 k14 k399) rfl rfl rfl (by decide +kernel) ⟨by rw [hR]; exact Nat.le_of_ble_eq_true rfl, by rw [hR]; exact Nat.le_of_ble_eq_true rfl⟩) (my_preV hK hN (hP.sub [2, 3, 4] rfl) (hD.sub [2, 3, 4] (by decide +kernel) rfl) 0 rfl rfl) rfl rfl hl.1 rfl (lv_room (Nat.le_of_ble_eq_true rfl)) d_RC_chance_15 ⟨by rw [hR]; exact Nat.le_of_ble_eq_true rfl, by rw [hR]; exact Nat.le_of_ble_eq_true rfl⟩) hP hD hS hA [2, 3, 4] [0, 1, 5, 6] rfl rfl (by decide +kernel) (by decide +kernel) (fun r_15 u9 H locs hw_15 hP hD hS => ?_)
  have hr_15 : r_15 = 0 := hw_15
  have hP : va_P (dC, dI) vwCl [(mo, Sum.inr (8, [Value.ref ka, Value.ref oo, Value.ref o2])), (ka, Sum.inl (cI, kl, Sum.inl kf)), (rc, Sum.inr (6, [Value.ref co, Value.ref ma, Value.int (nI k), Value.int fit, Value.int fen, Value.int frd, Value.int fbd, Value.int fir])), (ma, Sum.inl (cM, 8, Sum.inr (Sum.inr (Sum.inr (Sum.inr mf))))), (oo, Sum.inr (7, [Value.int osg, Value.int osm, Value.int ofc, Value.ref oca, Value.ref opa])), (oca, Sum.inl (cI, n, Sum.inl ocf)), (opa, Sum.inl (cI, opl, Sum.inl opf))] H := hP
  have hD : va_D A [(mo, Sum.inr (8, [Value.ref ka, Value.ref oo, Value.ref o2])), (ka, Sum.inl (cI, kl, Sum.inl kf)), (rc, Sum.inr (6, [Value.ref co, Value.ref ma, Value.int (nI k), Value.int fit, Value.int fen, Value.int frd, Value.int fbd, Value.int fir])), (ma, Sum.inl (cM, 8, Sum.inr (Sum.inr (Sum.inr (Sum.inr mf))))), (oo, Sum.inr (7, [Value.int osg, Value.int osm, Value.int ofc, Value.ref oca, Value.ref opa])), (oca, Sum.inl (cI, n, Sum.inl ocf)), (opa, Sum.inl (cI, opl, Sum.inl opf))] := hD
  refine lv_if_ne (tgt := 23) hx hb d_RC_chance_18 (by decide) (fun c_1 => ?_) (fun c_1 => ?_)
  · exact absurd hr_15 c_1
  · refine lv_iconst (v := (-1)) hx hb d_RC_chance_21 (by decide) ?_
    exact my_iret (v := (-1)) hx hb hr (rfl) hlocks hQ hK hS (Nat.le_refl _) (Nat.le_refl _) () (rfl) (hP.sub [2, 3, 0, 1, 4, 5, 6] rfl) (hD.sub [2, 3, 0, 1, 4, 5, 6] (by decide +kernel) rfl) d_RC_chance_22
set_option maxHeartbeats 2000000 in
set_option maxRecDepth 100000 in
theorem f_RC_chanceL (l : Launch) (dC : Nat → ClassId) (dI : Nat → Nat → Nat) (cI cM cO : ClassId) (sz : Nat) (rc : Nat) (ma : Nat) (k : Nat) (fit : Int32) (fen : Int32) (frd : Int32) (fbd : Int32) (fir : Int32) (mf : Nat → Option Nat) (co : Nat) (j : Nat) (mo : Nat) (o2 : Nat) (ka : Nat) (kl : Nat) (kf : Nat → Int32) (oo : Nat) (osg : Int32) (ofc : Int32) (oca : Nat) (opa : Nat) (n : Nat) (ocf : Nat → Int32) (opl : Nat) (opf : Nat → Int32) (osm : Int32) (t : Nat) (hk8 : k ≤ 8) (hj : j < k) (hmf : mf j = some mo) (hkl : kl ≤ 64) (hn : n ≤ 64) (hpl : opl ≤ 512) (ht : t < n) (hfc : ofc ≤ nI t) : MetI l y_RC_chance (Cond.code y_RC_chance prog_1_method_17_code 4 (some .int) :: gw) ({ frames := 2, cells := 0, slots := 0, locals := 42 } : Room) (dC, dI) vwCl (kT cI cM cO) [Value.ref rc, Value.int (nI j), Value.int (nI t)] [(rc, Sum.inr (6, [Value.ref co, Value.ref ma, Value.int (nI k), Value.int fit, Value.int fen, Value.int frd, Value.int fbd, Value.int fir])), (ma, Sum.inl (cM, 8, Sum.inr (Sum.inr (Sum.inr (Sum.inr mf))))), (mo, Sum.inr (8, [Value.ref ka, Value.ref oo, Value.ref o2])), (ka, Sum.inl (cI, kl, Sum.inl kf)), (oo, Sum.inr (7, [Value.int osg, Value.int osm, Value.int ofc, Value.ref oca, Value.ref opa])), (oca, Sum.inl (cI, n, Sum.inl ocf)), (opa, Sum.inl (cI, opl, Sum.inl opf))] sz (fun (r : Int32) (u : Unit) => r = ocf t) (fun (u : Unit) => [(rc, Sum.inr (6, [Value.ref co, Value.ref ma, Value.int (nI k), Value.int fit, Value.int fen, Value.int frd, Value.int fbd, Value.int fir])), (ma, Sum.inl (cM, 8, Sum.inr (Sum.inr (Sum.inr (Sum.inr mf))))), (mo, Sum.inr (8, [Value.ref ka, Value.ref oo, Value.ref o2])), (ka, Sum.inl (cI, kl, Sum.inl kf)), (oo, Sum.inr (7, [Value.int osg, Value.int osm, Value.int ofc, Value.ref oca, Value.ref opa])), (oca, Sum.inl (cI, n, Sum.inl ocf)), (opa, Sum.inl (cI, opl, Sum.inl opf))]) 0 0 := by
  refine my_ofI (cc := prog_1_method_17_code) (n := 4) (ret := (some .int)) (by decide) rfl (Nat.le_of_ble_eq_true rfl) ?_
  intro p e s m args below meth c R Q A ls H locs hx hb hr hts hown hlocks hml hnm hR hQ hA hl hP hK hN hD hS
  have hg : ∀ w ∈ gw, w.before args s = true := fun w h => hts w (List.mem_cons_of_mem _ h)
  have hown : s.vm.findClass "RangeCoders" = some m.cls := hown
  have hl : lv_has ls 4 [(0, Value.ref rc), (1, Value.int (nI j)), (2, Value.int (nI t))] := hl
  refine lv_aload_n hx hb d_RC_chance_0 rfl (lv_at hl 0 rfl) ?_
  refine lv_iload_n hx hb d_RC_chance_1 rfl (lv_at hl 1 rfl) ?_
  refine my_cq (wr := [(mo, Sum.inr (8, [Value.ref ka, Value.ref oo, Value.ref o2])), (ka, Sum.inl (cI, kl, Sum.inl kf)), (oo, Sum.inr (7, [Value.int osg, Value.int osm, Value.int ofc, Value.ref oca, Value.ref opa])), (oca, Sum.inl (cI, n, Sum.inl ocf)), (opa, Sum.inl (cI, opl, Sum.inl opf))]) (va_runV (As := [Value.int (nI j)]) (rest := []) ⟨hx, hb, hml, hown, hts⟩ (c_RC_modelAtB l dC dI cI cM cO H.size rc ma k fit fen frd fbd fir mf co j mo (by first | assumption | omega) (by first | assumption | omega) (by first | assumption | omega)) (cwV 1 hts (my_gV k412 k414 ks3 k1 k415) rfl rfl rfl (by decide +kernel) ⟨by rw [hR]; exact Nat.le_of_ble_eq_true rfl, by rw [hR]; exact Nat.le_of_ble_eq_true rfl⟩) (my_preV hK hN (hP.sub [0, 1] rfl) (hD.sub [0, 1] (by decide +kernel) rfl) 0 rfl rfl) rfl rfl hl.1 rfl (lv_room (Nat.le_of_ble_eq_true rfl)) d_RC_chance_2 ⟨by rw [hR]; exact Nat.le_of_ble_eq_true rfl, by rw [hR]; exact Nat.le_of_ble_eq_true rfl⟩) hP hD hS hA [0, 1] [2, 3, 4, 5, 6] rfl rfl (by decide +kernel) (by decide +kernel) (fun r_2 u9 H locs hw_2 hP hD hS => ?_)
  have hr_2 : r_2 = some mo := hw_2
  have hP : va_P (dC, dI) vwCl [(mo, Sum.inr (8, [Value.ref ka, Value.ref oo, Value.ref o2])), (ka, Sum.inl (cI, kl, Sum.inl kf)), (oo, Sum.inr (7, [Value.int osg, Value.int osm, Value.int ofc, Value.ref oca, Value.ref opa])), (oca, Sum.inl (cI, n, Sum.inl ocf)), (opa, Sum.inl (cI, opl, Sum.inl opf)), (rc, Sum.inr (6, [Value.ref co, Value.ref ma, Value.int (nI k), Value.int fit, Value.int fen, Value.int frd, Value.int fbd, Value.int fir])), (ma, Sum.inl (cM, 8, Sum.inr (Sum.inr (Sum.inr (Sum.inr mf)))))] H := hP
  have hD : va_D A [(mo, Sum.inr (8, [Value.ref ka, Value.ref oo, Value.ref o2])), (ka, Sum.inl (cI, kl, Sum.inl kf)), (oo, Sum.inr (7, [Value.int osg, Value.int osm, Value.int ofc, Value.ref oca, Value.ref opa])), (oca, Sum.inl (cI, n, Sum.inl ocf)), (opa, Sum.inl (cI, opl, Sum.inl opf)), (rc, Sum.inr (6, [Value.ref co, Value.ref ma, Value.int (nI k), Value.int fit, Value.int fen, Value.int frd, Value.int fbd, Value.int fir])), (ma, Sum.inl (cM, 8, Sum.inr (Sum.inr (Sum.inr (Sum.inr mf)))))] := hD
  subst hr_2
  refine W.eq (g2 := F0 m 5 ls [Value.ref mo]) rfl ?_
  refine lv_astore_n (lv' := [(3, Value.ref mo), (0, Value.ref rc), (1, Value.int (nI j)), (2, Value.int (nI t))]) hx hb d_RC_chance_5 rfl hl (by decide) rfl (fun ls hl => ?_)
  refine lv_aload_n hx hb d_RC_chance_6 rfl (lv_at hl 0 rfl) ?_
  refine lv_ifnull hx hb d_RC_chance_7 ?_
  refine lv_aload_n hx hb d_RC_chance_10 rfl (lv_at hl 0 rfl) ?_
  refine va_get (D := (dC, dI)) (ci := 8) (v := .ref oo) (C := "RangeCoders$Model") (T := T_Model) (N := 3) hx hb hg in_Model hown hK hP 0 rfl rfl 1 (by decide) (hg _ k343) (fun _ h9 => h9) rfl d_RC_chance_11 ?_
  refine lv_iload_n hx hb d_RC_chance_14 rfl (lv_at hl 3 rfl) ?_
  refine my_ci (wr := [(mo, Sum.inr (8, [Value.ref ka, Value.ref oo, Value.ref o2])), (ka, Sum.inl (cI, kl, Sum.inl kf)), (rc, Sum.inr (6, [Value.ref co, Value.ref ma, Value.int (nI k), Value.int fit, Value.int fen, Value.int frd, Value.int fbd, Value.int fir])), (ma, Sum.inl (cM, 8, Sum.inr (Sum.inr (Sum.inr (Sum.inr mf)))))]) (va_runV (As := [Value.int (nI t)]) (rest := []) ⟨hx, hb, hml, hown, hts⟩ (f_Odds_hasCell l dC dI cI cM cO H.size oo osg ofc oca opa n ocf opl opf osm t (by first | assumption | omega) (by first | assumption | omega) (by first | assumption | omega) (by first | assumption | omega)) (cwV 1 hts (my_gV k912 k397 k398 k14 k399) rfl rfl rfl (by decide +kernel) ⟨by rw [hR]; exact Nat.le_of_ble_eq_true rfl, by rw [hR]; exact Nat.le_of_ble_eq_true rfl⟩) (my_preV hK hN (hP.sub [2, 3, 4] rfl) (hD.sub [2, 3, 4] (by decide +kernel) rfl) 0 rfl rfl) rfl rfl hl.1 rfl (lv_room (Nat.le_of_ble_eq_true rfl)) d_RC_chance_15 ⟨by rw [hR]; exact Nat.le_of_ble_eq_true rfl, by rw [hR]; exact Nat.le_of_ble_eq_true rfl⟩) hP hD hS hA [2, 3, 4] [0, 1, 5, 6] rfl rfl (by decide +kernel) (by decide +kernel) (fun r_15 u9 H locs hw_15 hP hD hS => ?_)
  have hr_15 : r_15 = 1 := hw_15
  have hP : va_P (dC, dI) vwCl [(mo, Sum.inr (8, [Value.ref ka, Value.ref oo, Value.ref o2])), (ka, Sum.inl (cI, kl, Sum.inl kf)), (rc, Sum.inr (6, [Value.ref co, Value.ref ma, Value.int (nI k), Value.int fit, Value.int fen, Value.int frd, Value.int fbd, Value.int fir])), (ma, Sum.inl (cM, 8, Sum.inr (Sum.inr (Sum.inr (Sum.inr mf))))), (oo, Sum.inr (7, [Value.int osg, Value.int osm, Value.int ofc, Value.ref oca, Value.ref opa])), (oca, Sum.inl (cI, n, Sum.inl ocf)), (opa, Sum.inl (cI, opl, Sum.inl opf))] H := hP
  have hD : va_D A [(mo, Sum.inr (8, [Value.ref ka, Value.ref oo, Value.ref o2])), (ka, Sum.inl (cI, kl, Sum.inl kf)), (rc, Sum.inr (6, [Value.ref co, Value.ref ma, Value.int (nI k), Value.int fit, Value.int fen, Value.int frd, Value.int fbd, Value.int fir])), (ma, Sum.inl (cM, 8, Sum.inr (Sum.inr (Sum.inr (Sum.inr mf))))), (oo, Sum.inr (7, [Value.int osg, Value.int osm, Value.int ofc, Value.ref oca, Value.ref opa])), (oca, Sum.inl (cI, n, Sum.inl ocf)), (opa, Sum.inl (cI, opl, Sum.inl opf))] := hD
  refine lv_if_ne (tgt := 23) hx hb d_RC_chance_18 (by decide) (fun c_1 => ?_) (fun c_1 => ?_)
  · refine lv_aload_n hx hb d_RC_chance_23 rfl (lv_at hl 0 rfl) ?_
    refine va_get (D := (dC, dI)) (ci := 8) (v := .ref oo) (C := "RangeCoders$Model") (T := T_Model) (N := 3) hx hb hg in_Model hown hK hP 0 rfl rfl 1 (by decide) (hg _ k343) (fun _ h9 => h9) rfl d_RC_chance_24 ?_
    refine lv_iload_n hx hb d_RC_chance_27 rfl (lv_at hl 3 rfl) ?_
    refine my_ci (wr := [(mo, Sum.inr (8, [Value.ref ka, Value.ref oo, Value.ref o2])), (ka, Sum.inl (cI, kl, Sum.inl kf)), (rc, Sum.inr (6, [Value.ref co, Value.ref ma, Value.int (nI k), Value.int fit, Value.int fen, Value.int frd, Value.int fbd, Value.int fir])), (ma, Sum.inl (cM, 8, Sum.inr (Sum.inr (Sum.inr (Sum.inr mf)))))]) (va_runV (As := [Value.int (nI t)]) (rest := []) ⟨hx, hb, hml, hown, hts⟩ (f_Odds_at l dC dI cI cM cO H.size oo osg ofc oca opa n ocf opl opf osm t (by first | assumption | omega) (by first | assumption | omega) (by first | assumption | omega) (by first | assumption | omega)) (cwV 1 hts (my_gV k913 k436 k437 k14 k438) rfl rfl rfl (by decide +kernel) ⟨by rw [hR]; exact Nat.le_of_ble_eq_true rfl, by rw [hR]; exact Nat.le_of_ble_eq_true rfl⟩) (my_preV hK hN (hP.sub [4, 5, 6] rfl) (hD.sub [4, 5, 6] (by decide +kernel) rfl) 0 rfl rfl) rfl rfl hl.1 rfl (lv_room (Nat.le_of_ble_eq_true rfl)) d_RC_chance_28 ⟨by rw [hR]; exact Nat.le_of_ble_eq_true rfl, by rw [hR]; exact Nat.le_of_ble_eq_true rfl⟩) hP hD hS hA [4, 5, 6] [0, 1, 2, 3] rfl rfl (by decide +kernel) (by decide +kernel) (fun r_28 u9 H locs hw_28 hP hD hS => ?_)
    have hr_28 : r_28 = ocf t := hw_28
    have hP : va_P (dC, dI) vwCl [(mo, Sum.inr (8, [Value.ref ka, Value.ref oo, Value.ref o2])), (ka, Sum.inl (cI, kl, Sum.inl kf)), (rc, Sum.inr (6, [Value.ref co, Value.ref ma, Value.int (nI k), Value.int fit, Value.int fen, Value.int frd, Value.int fbd, Value.int fir])), (ma, Sum.inl (cM, 8, Sum.inr (Sum.inr (Sum.inr (Sum.inr mf))))), (oo, Sum.inr (7, [Value.int osg, Value.int osm, Value.int ofc, Value.ref oca, Value.ref opa])), (oca, Sum.inl (cI, n, Sum.inl ocf)), (opa, Sum.inl (cI, opl, Sum.inl opf))] H := hP
    have hD : va_D A [(mo, Sum.inr (8, [Value.ref ka, Value.ref oo, Value.ref o2])), (ka, Sum.inl (cI, kl, Sum.inl kf)), (rc, Sum.inr (6, [Value.ref co, Value.ref ma, Value.int (nI k), Value.int fit, Value.int fen, Value.int frd, Value.int fbd, Value.int fir])), (ma, Sum.inl (cM, 8, Sum.inr (Sum.inr (Sum.inr (Sum.inr mf))))), (oo, Sum.inr (7, [Value.int osg, Value.int osm, Value.int ofc, Value.ref oca, Value.ref opa])), (oca, Sum.inl (cI, n, Sum.inl ocf)), (opa, Sum.inl (cI, opl, Sum.inl opf))] := hD
    exact my_iret (v := r_28) hx hb hr (rfl) hlocks hQ hK hS (Nat.le_refl _) (Nat.le_refl _) () (hr_28) (hP.sub [2, 3, 0, 1, 4, 5, 6] rfl) (hD.sub [2, 3, 0, 1, 4, 5, 6] (by decide +kernel) rfl) d_RC_chance_31
  · exact absurd (hr_15.symm.trans c_1) (by decide)

