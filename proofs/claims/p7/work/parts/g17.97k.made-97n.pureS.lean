section
set_option maxHeartbeats 2000000 in
set_option maxRecDepth 100000 in
theorem f_Carries_newOdds (l : Launch) (dC : Nat → ClassId) (dI : Nat → Nat → Nat) (cI cM cO : ClassId) (sz : Nat) (sl : Nat) (co : Nat) (xcache : Int32) (xpending : Int32) (xlow : Int64) (xrange : Int64) (xcode : Int64) (xreadLow : Int64) (xreadRange : Int64) (ri : Nat) (ro : Nat) (rw : Nat) (xasked : Int32) (nS : Nat) (hns2 : 2 ≤ nS) (hns : nS ≤ 64) : MetQg l y_Coder_newOdds (Cond.code y_Coder_newOdds prog_4_method_11_code 2 (some (.object "RangeCoders$Odds")) :: gw) ({ frames := 2, cells := 700, slots := 700, locals := 36 } : Room) (dC, dI) vwCl (kT cI cM cO) [Value.ref co, Value.int (nI nS)] [(co, Sum.inr (1, [Value.int xcache, Value.int xpending, Value.long xlow, Value.long xrange, Value.long xcode, Value.long xreadLow, Value.long xreadRange, Value.ref ri, Value.ref ro, Value.ref rw, Value.int xasked]))] sz sl (fun (r : Option Nat) (u : Nat × Nat × Nat) => r = some u.1) (fun (u : Nat × Nat × Nat) => [(co, Sum.inr (1, [Value.int xcache, Value.int xpending, Value.long xlow, Value.long xrange, Value.long xcode, Value.long xreadLow, Value.long xreadRange, Value.ref ri, Value.ref ro, Value.ref rw, Value.int xasked])), (u.1, Sum.inr (7, [Value.int (nI nS), Value.int 0, Value.int 0, Value.ref u.2.1, Value.ref u.2.2])), (u.2.1, Sum.inl (cI, nS, Sum.inl (fun _ => 0))), (u.2.2, Sum.inl (cI, 0, Sum.inl (fun _ => 0)))]) 700 (fun (u : Nat × Nat × Nat) => 0) := by
  refine my_ofQg (cc := prog_4_method_11_code) (n := 2) (ret := (some (.object "RangeCoders$Odds"))) (by decide) rfl (Nat.le_of_ble_eq_true rfl) ?_
  intro p e s m args below meth c R Q A ls H locs hx hb hr hts hown hlocks hml hnm hR hQ hA hl hP hK hN hD hS
  have hg : ∀ w ∈ gw, w.before args s = true := fun w h => hts w (List.mem_cons_of_mem _ h)
  have hown : s.vm.findClass "RangeCoders$Coder" = some m.cls := hown
  have hl : lv_has ls 2 [(0, Value.ref co), (1, Value.int (nI nS))] := hl
  refine va_new (ci := 7) (fs := [Value.int 0, Value.int 0, Value.int 0, Value.null, Value.null]) (C := "RangeCoders$Odds") (T := T_Odds) (N := 5) hx hb hg in_Odds t_Odds o_Odds hown (hg _ k331) (hg _ k295) (hg _ k14) hK hP hD hS hA rfl (fun j hj => by rcases (show j = 0 ∨ j = 1 ∨ j = 2 ∨ j = 3 ∨ j = 4 by omega) with rfl | rfl | rfl | rfl | rfl <;> rfl) (by rw [hR]; exact (show 0 + 1 ≤ 700 by omega)) (by rw [hR]; exact (show 0 + 5 ≤ 700 by omega)) d_Coder_newOdds_0 (fun q_1 H hP hD hS => ?_)
  have hPD : my_PD (dC, dI) vwCl A [(co, Sum.inr (1, [Value.int xcache, Value.int xpending, Value.long xlow, Value.long xrange, Value.long xcode, Value.long xreadLow, Value.long xreadRange, Value.ref ri, Value.ref ro, Value.ref rw, Value.int xasked])), (q_1, Sum.inr (7, [Value.int 0, Value.int 0, Value.int 0, Value.null, Value.null]))] H := ⟨hP, hD⟩
  have hP := hPD.1
  have hD := hPD.2
  refine lv_dup hx hb d_Coder_newOdds_3 rfl ?_
  refine lv_iload_n hx hb d_Coder_newOdds_4 rfl (lv_at hl 1 rfl) ?_
  refine lv_iconst (v := 0) hx hb d_Coder_newOdds_5 (by decide) ?_
  refine lv_iload_n hx hb d_Coder_newOdds_6 rfl (lv_at hl 1 rfl) ?_
  refine lv_iconst (v := 0) hx hb d_Coder_newOdds_7 (by decide) ?_
  refine W.eq (g2 := F0 m 8 ls [Value.int (nI 0), Value.int (nI nS), Value.int 0, Value.int (nI nS), Value.ref q_1, Value.ref q_1]) rfl ?_
  refine my_cvg (wr := [(co, Sum.inr (1, [Value.int xcache, Value.int xpending, Value.long xlow, Value.long xrange, Value.long xcode, Value.long xreadLow, Value.long xreadRange, Value.ref ri, Value.ref ro, Value.ref rw, Value.int xasked]))]) (va_runI (As := [Value.int (nI nS), Value.int 0, Value.int (nI nS), Value.int (nI 0)]) (rest := [Value.ref q_1]) ⟨hx, hb, hml, hown, hts⟩ (c_Odds_init l dC dI cI cM cO H.size (hSl H) q_1 (nI nS) 0 nS 0 (by first | assumption | omega) (by first | assumption | omega)) (cwI 4 hts (my_gC k301) rfl rfl rfl (hg _ k14) (hg _ k332) (hg _ k300) rfl (by decide +kernel) ⟨by rw [hR]; exact Nat.le_of_ble_eq_true rfl, by rw [hR]; exact Nat.le_of_ble_eq_true rfl⟩) (my_preg (As := [Value.ref q_1, Value.int (nI nS), Value.int 0, Value.int (nI nS), Value.int (nI 0)]) hK hN (hP.sub [1] rfl) (hD.sub [1] (by decide +kernel) rfl)) rfl rfl hl.1 rfl (lv_room (Nat.le_of_ble_eq_true rfl)) d_Coder_newOdds_8 ⟨by rw [hR]; exact (show (0 + 1) + 600 ≤ 700 by omega), by rw [hR]; exact (show (0 + 5) + 600 ≤ 700 by omega)⟩) hP hD hS hA [1] [0] rfl rfl (by decide +kernel) (by decide +kernel) (fun u9 d_8 H locs hd_8 hw_8 hP hD hS => ?_)
  obtain ⟨zca_8, zpa_8⟩ := u9
  have hd_8 : d_8 + 0 ≤ 600 := hd_8
  have hPD : my_PD (dC, dI) vwCl A [(co, Sum.inr (1, [Value.int xcache, Value.int xpending, Value.long xlow, Value.long xrange, Value.long xcode, Value.long xreadLow, Value.long xreadRange, Value.ref ri, Value.ref ro, Value.ref rw, Value.int xasked])), (q_1, Sum.inr (7, [Value.int (nI nS), Value.int 0, Value.int 0, Value.ref zca_8, Value.ref zpa_8])), (zca_8, Sum.inl (cI, nS, Sum.inl (fun _ => 0))), (zpa_8, Sum.inl (cI, 0, Sum.inl (fun _ => 0)))] H := ⟨hP, hD⟩
  have hP := hPD.1
  have hD := hPD.2
  exact my_qretg (v := some q_1) hx hb hr (Or.inl ⟨_, rfl⟩) hlocks hQ hK hS (q_1, zca_8, zpa_8) (show (0 + 1 + d_8) + 0 ≤ 700 by omega) (show (0 + 5 + d_8) + 0 ≤ 700 by omega) (rfl) (hP.sub [0, 1, 2, 3] rfl) (hD.sub [0, 1, 2, 3] (by decide +kernel) rfl) d_Coder_newOdds_11
set_option maxHeartbeats 2000000 in
set_option maxRecDepth 100000 in
theorem f_NoCarries_newOdds (l : Launch) (dC : Nat → ClassId) (dI : Nat → Nat → Nat) (cI cM cO : ClassId) (sz : Nat) (sl : Nat) (co : Nat) (xlow : Int64) (xrange : Int64) (xcode : Int64) (xreadLow : Int64) (xreadRange : Int64) (ri : Nat) (ro : Nat) (rw : Nat) (xasked : Int32) (nS : Nat) (hns2 : 2 ≤ nS) (hns : nS ≤ 64) : MetQg l y_Coder_newOdds (Cond.code y_Coder_newOdds prog_4_method_11_code 2 (some (.object "RangeCoders$Odds")) :: gw) ({ frames := 2, cells := 700, slots := 700, locals := 36 } : Room) (dC, dI) vwCl (kT cI cM cO) [Value.ref co, Value.int (nI nS)] [(co, Sum.inr (2, [Value.long xlow, Value.long xrange, Value.long xcode, Value.long xreadLow, Value.long xreadRange, Value.ref ri, Value.ref ro, Value.ref rw, Value.int xasked]))] sz sl (fun (r : Option Nat) (u : Nat × Nat × Nat) => r = some u.1) (fun (u : Nat × Nat × Nat) => [(co, Sum.inr (2, [Value.long xlow, Value.long xrange, Value.long xcode, Value.long xreadLow, Value.long xreadRange, Value.ref ri, Value.ref ro, Value.ref rw, Value.int xasked])), (u.1, Sum.inr (7, [Value.int (nI nS), Value.int 0, Value.int 0, Value.ref u.2.1, Value.ref u.2.2])), (u.2.1, Sum.inl (cI, nS, Sum.inl (fun _ => 0))), (u.2.2, Sum.inl (cI, 0, Sum.inl (fun _ => 0)))]) 700 (fun (u : Nat × Nat × Nat) => 0) := by
  refine my_ofQg (cc := prog_4_method_11_code) (n := 2) (ret := (some (.object "RangeCoders$Odds"))) (by decide) rfl (Nat.le_of_ble_eq_true rfl) ?_
  intro p e s m args below meth c R Q A ls H locs hx hb hr hts hown hlocks hml hnm hR hQ hA hl hP hK hN hD hS
  have hg : ∀ w ∈ gw, w.before args s = true := fun w h => hts w (List.mem_cons_of_mem _ h)
  have hown : s.vm.findClass "RangeCoders$Coder" = some m.cls := hown
  have hl : lv_has ls 2 [(0, Value.ref co), (1, Value.int (nI nS))] := hl
  refine va_new (ci := 7) (fs := [Value.int 0, Value.int 0, Value.int 0, Value.null, Value.null]) (C := "RangeCoders$Odds") (T := T_Odds) (N := 5) hx hb hg in_Odds t_Odds o_Odds hown (hg _ k331) (hg _ k295) (hg _ k14) hK hP hD hS hA rfl (fun j hj => by rcases (show j = 0 ∨ j = 1 ∨ j = 2 ∨ j = 3 ∨ j = 4 by omega) with rfl | rfl | rfl | rfl | rfl <;> rfl) (by rw [hR]; exact (show 0 + 1 ≤ 700 by omega)) (by rw [hR]; exact (show 0 + 5 ≤ 700 by omega)) d_Coder_newOdds_0 (fun q_1 H hP hD hS => ?_)
  have hPD : my_PD (dC, dI) vwCl A [(co, Sum.inr (2, [Value.long xlow, Value.long xrange, Value.long xcode, Value.long xreadLow, Value.long xreadRange, Value.ref ri, Value.ref ro, Value.ref rw, Value.int xasked])), (q_1, Sum.inr (7, [Value.int 0, Value.int 0, Value.int 0, Value.null, Value.null]))] H := ⟨hP, hD⟩
  have hP := hPD.1
  have hD := hPD.2
  refine lv_dup hx hb d_Coder_newOdds_3 rfl ?_
  refine lv_iload_n hx hb d_Coder_newOdds_4 rfl (lv_at hl 1 rfl) ?_
  refine lv_iconst (v := 0) hx hb d_Coder_newOdds_5 (by decide) ?_
  refine lv_iload_n hx hb d_Coder_newOdds_6 rfl (lv_at hl 1 rfl) ?_
  refine lv_iconst (v := 0) hx hb d_Coder_newOdds_7 (by decide) ?_
  refine W.eq (g2 := F0 m 8 ls [Value.int (nI 0), Value.int (nI nS), Value.int 0, Value.int (nI nS), Value.ref q_1, Value.ref q_1]) rfl ?_
  refine my_cvg (wr := [(co, Sum.inr (2, [Value.long xlow, Value.long xrange, Value.long xcode, Value.long xreadLow, Value.long xreadRange, Value.ref ri, Value.ref ro, Value.ref rw, Value.int xasked]))]) (va_runI (As := [Value.int (nI nS), Value.int 0, Value.int (nI nS), Value.int (nI 0)]) (rest := [Value.ref q_1]) ⟨hx, hb, hml, hown, hts⟩ (c_Odds_init l dC dI cI cM cO H.size (hSl H) q_1 (nI nS) 0 nS 0 (by first | assumption | omega) (by first | assumption | omega)) (cwI 4 hts (my_gC k301) rfl rfl rfl (hg _ k14) (hg _ k332) (hg _ k300) rfl (by decide +kernel) ⟨by rw [hR]; exact Nat.le_of_ble_eq_true rfl, by rw [hR]; exact Nat.le_of_ble_eq_true rfl⟩) (my_preg (As := [Value.ref q_1, Value.int (nI nS), Value.int 0, Value.int (nI nS), Value.int (nI 0)]) hK hN (hP.sub [1] rfl) (hD.sub [1] (by decide +kernel) rfl)) rfl rfl hl.1 rfl (lv_room (Nat.le_of_ble_eq_true rfl)) d_Coder_newOdds_8 ⟨by rw [hR]; exact (show (0 + 1) + 600 ≤ 700 by omega), by rw [hR]; exact (show (0 + 5) + 600 ≤ 700 by omega)⟩) hP hD hS hA [1] [0] rfl rfl (by decide +kernel) (by decide +kernel) (fun u9 d_8 H locs hd_8 hw_8 hP hD hS => ?_)
  obtain ⟨zca_8, zpa_8⟩ := u9
  have hd_8 : d_8 + 0 ≤ 600 := hd_8
  have hPD : my_PD (dC, dI) vwCl A [(co, Sum.inr (2, [Value.long xlow, Value.long xrange, Value.long xcode, Value.long xreadLow, Value.long xreadRange, Value.ref ri, Value.ref ro, Value.ref rw, Value.int xasked])), (q_1, Sum.inr (7, [Value.int (nI nS), Value.int 0, Value.int 0, Value.ref zca_8, Value.ref zpa_8])), (zca_8, Sum.inl (cI, nS, Sum.inl (fun _ => 0))), (zpa_8, Sum.inl (cI, 0, Sum.inl (fun _ => 0)))] H := ⟨hP, hD⟩
  have hP := hPD.1
  have hD := hPD.2
  exact my_qretg (v := some q_1) hx hb hr (Or.inl ⟨_, rfl⟩) hlocks hQ hK hS (q_1, zca_8, zpa_8) (show (0 + 1 + d_8) + 0 ≤ 700 by omega) (show (0 + 5 + d_8) + 0 ≤ 700 by omega) (rfl) (hP.sub [0, 1, 2, 3] rfl) (hD.sub [0, 1, 2, 3] (by decide +kernel) rfl) d_Coder_newOdds_11
set_option maxHeartbeats 2000000 in
set_option maxRecDepth 100000 in
theorem f_Stack_newOdds (l : Launch) (dC : Nat → ClassId) (dI : Nat → Nat → Nat) (cI cM cO : ClassId) (sz : Nat) (sl : Nat) (co : Nat) (xx : Int64) (xreadX : Int64) (soa : Nat) (sna : Nat) (swa : Nat) (xkept : Int32) (ri : Nat) (ro : Nat) (rw : Nat) (xasked : Int32) (nS : Nat) (hns2 : 2 ≤ nS) (hns : nS ≤ 64) : MetQg l y_Coder_newOdds (Cond.code y_Coder_newOdds prog_4_method_11_code 2 (some (.object "RangeCoders$Odds")) :: gw) ({ frames := 2, cells := 700, slots := 700, locals := 36 } : Room) (dC, dI) vwCl (kT cI cM cO) [Value.ref co, Value.int (nI nS)] [(co, Sum.inr (4, [Value.long xx, Value.long xreadX, Value.ref soa, Value.ref sna, Value.ref swa, Value.int xkept, Value.ref ri, Value.ref ro, Value.ref rw, Value.int xasked]))] sz sl (fun (r : Option Nat) (u : Nat × Nat × Nat) => r = some u.1) (fun (u : Nat × Nat × Nat) => [(co, Sum.inr (4, [Value.long xx, Value.long xreadX, Value.ref soa, Value.ref sna, Value.ref swa, Value.int xkept, Value.ref ri, Value.ref ro, Value.ref rw, Value.int xasked])), (u.1, Sum.inr (7, [Value.int (nI nS), Value.int 0, Value.int 0, Value.ref u.2.1, Value.ref u.2.2])), (u.2.1, Sum.inl (cI, nS, Sum.inl (fun _ => 0))), (u.2.2, Sum.inl (cI, 0, Sum.inl (fun _ => 0)))]) 700 (fun (u : Nat × Nat × Nat) => 0) := by
  refine my_ofQg (cc := prog_4_method_11_code) (n := 2) (ret := (some (.object "RangeCoders$Odds"))) (by decide) rfl (Nat.le_of_ble_eq_true rfl) ?_
  intro p e s m args below meth c R Q A ls H locs hx hb hr hts hown hlocks hml hnm hR hQ hA hl hP hK hN hD hS
  have hg : ∀ w ∈ gw, w.before args s = true := fun w h => hts w (List.mem_cons_of_mem _ h)
  have hown : s.vm.findClass "RangeCoders$Coder" = some m.cls := hown
  have hl : lv_has ls 2 [(0, Value.ref co), (1, Value.int (nI nS))] := hl
  refine va_new (ci := 7) (fs := [Value.int 0, Value.int 0, Value.int 0, Value.null, Value.null]) (C := "RangeCoders$Odds") (T := T_Odds) (N := 5) hx hb hg in_Odds t_Odds o_Odds hown (hg _ k331) (hg _ k295) (hg _ k14) hK hP hD hS hA rfl (fun j hj => by rcases (show j = 0 ∨ j = 1 ∨ j = 2 ∨ j = 3 ∨ j = 4 by omega) with rfl | rfl | rfl | rfl | rfl <;> rfl) (by rw [hR]; exact (show 0 + 1 ≤ 700 by omega)) (by rw [hR]; exact (show 0 + 5 ≤ 700 by omega)) d_Coder_newOdds_0 (fun q_1 H hP hD hS => ?_)
  have hPD : my_PD (dC, dI) vwCl A [(co, Sum.inr (4, [Value.long xx, Value.long xreadX, Value.ref soa, Value.ref sna, Value.ref swa, Value.int xkept, Value.ref ri, Value.ref ro, Value.ref rw, Value.int xasked])), (q_1, Sum.inr (7, [Value.int 0, Value.int 0, Value.int 0, Value.null, Value.null]))] H := ⟨hP, hD⟩
  have hP := hPD.1
  have hD := hPD.2
  refine lv_dup hx hb d_Coder_newOdds_3 rfl ?_
  refine lv_iload_n hx hb d_Coder_newOdds_4 rfl (lv_at hl 1 rfl) ?_
  refine lv_iconst (v := 0) hx hb d_Coder_newOdds_5 (by decide) ?_
  refine lv_iload_n hx hb d_Coder_newOdds_6 rfl (lv_at hl 1 rfl) ?_
  refine lv_iconst (v := 0) hx hb d_Coder_newOdds_7 (by decide) ?_
  refine W.eq (g2 := F0 m 8 ls [Value.int (nI 0), Value.int (nI nS), Value.int 0, Value.int (nI nS), Value.ref q_1, Value.ref q_1]) rfl ?_
  refine my_cvg (wr := [(co, Sum.inr (4, [Value.long xx, Value.long xreadX, Value.ref soa, Value.ref sna, Value.ref swa, Value.int xkept, Value.ref ri, Value.ref ro, Value.ref rw, Value.int xasked]))]) (va_runI (As := [Value.int (nI nS), Value.int 0, Value.int (nI nS), Value.int (nI 0)]) (rest := [Value.ref q_1]) ⟨hx, hb, hml, hown, hts⟩ (c_Odds_init l dC dI cI cM cO H.size (hSl H) q_1 (nI nS) 0 nS 0 (by first | assumption | omega) (by first | assumption | omega)) (cwI 4 hts (my_gC k301) rfl rfl rfl (hg _ k14) (hg _ k332) (hg _ k300) rfl (by decide +kernel) ⟨by rw [hR]; exact Nat.le_of_ble_eq_true rfl, by rw [hR]; exact Nat.le_of_ble_eq_true rfl⟩) (my_preg (As := [Value.ref q_1, Value.int (nI nS), Value.int 0, Value.int (nI nS), Value.int (nI 0)]) hK hN (hP.sub [1] rfl) (hD.sub [1] (by decide +kernel) rfl)) rfl rfl hl.1 rfl (lv_room (Nat.le_of_ble_eq_true rfl)) d_Coder_newOdds_8 ⟨by rw [hR]; exact (show (0 + 1) + 600 ≤ 700 by omega), by rw [hR]; exact (show (0 + 5) + 600 ≤ 700 by omega)⟩) hP hD hS hA [1] [0] rfl rfl (by decide +kernel) (by decide +kernel) (fun u9 d_8 H locs hd_8 hw_8 hP hD hS => ?_)
  obtain ⟨zca_8, zpa_8⟩ := u9
  have hd_8 : d_8 + 0 ≤ 600 := hd_8
  have hPD : my_PD (dC, dI) vwCl A [(co, Sum.inr (4, [Value.long xx, Value.long xreadX, Value.ref soa, Value.ref sna, Value.ref swa, Value.int xkept, Value.ref ri, Value.ref ro, Value.ref rw, Value.int xasked])), (q_1, Sum.inr (7, [Value.int (nI nS), Value.int 0, Value.int 0, Value.ref zca_8, Value.ref zpa_8])), (zca_8, Sum.inl (cI, nS, Sum.inl (fun _ => 0))), (zpa_8, Sum.inl (cI, 0, Sum.inl (fun _ => 0)))] H := ⟨hP, hD⟩
  have hP := hPD.1
  have hD := hPD.2
  exact my_qretg (v := some q_1) hx hb hr (Or.inl ⟨_, rfl⟩) hlocks hQ hK hS (q_1, zca_8, zpa_8) (show (0 + 1 + d_8) + 0 ≤ 700 by omega) (show (0 + 5 + d_8) + 0 ≤ 700 by omega) (rfl) (hP.sub [0, 1, 2, 3] rfl) (hD.sub [0, 1, 2, 3] (by decide +kernel) rfl) d_Coder_newOdds_11
set_option maxHeartbeats 2000000 in
set_option maxRecDepth 100000 in
theorem f_Table_newOdds (l : Launch) (dC : Nat → ClassId) (dI : Nat → Nat → Nat) (cI cM cO : ClassId) (sz : Nat) (sl : Nat) (co : Nat) (xx : Int64) (xreadX : Int64) (soa : Nat) (sna : Nat) (swa : Nat) (xkept : Int32) (ri : Nat) (ro : Nat) (rw : Nat) (xasked : Int32) (nS : Nat) (hns2 : 2 ≤ nS) (hns : nS ≤ 64) : MetQg l y_Table_newOdds (Cond.code y_Table_newOdds prog_12_method_2_code 2 (some (.object "RangeCoders$Odds")) :: gw) ({ frames := 2, cells := 700, slots := 700, locals := 36 } : Room) (dC, dI) vwCl (kT cI cM cO) [Value.ref co, Value.int (nI nS)] [(co, Sum.inr (5, [Value.long xx, Value.long xreadX, Value.ref soa, Value.ref sna, Value.ref swa, Value.int xkept, Value.ref ri, Value.ref ro, Value.ref rw, Value.int xasked]))] sz sl (fun (r : Option Nat) (u : Nat × Nat × Nat) => r = some u.1) (fun (u : Nat × Nat × Nat) => [(co, Sum.inr (5, [Value.long xx, Value.long xreadX, Value.ref soa, Value.ref sna, Value.ref swa, Value.int xkept, Value.ref ri, Value.ref ro, Value.ref rw, Value.int xasked])), (u.1, Sum.inr (7, [Value.int (nI nS), Value.int 0, Value.int 0, Value.ref u.2.1, Value.ref u.2.2])), (u.2.1, Sum.inl (cI, nS, Sum.inl (fun _ => 0))), (u.2.2, Sum.inl (cI, 512, Sum.inl (fun _ => 0)))]) 700 (fun (u : Nat × Nat × Nat) => 0) := by
  refine my_ofQg (cc := prog_12_method_2_code) (n := 2) (ret := (some (.object "RangeCoders$Odds"))) (by decide) rfl (Nat.le_of_ble_eq_true rfl) ?_
  intro p e s m args below meth c R Q A ls H locs hx hb hr hts hown hlocks hml hnm hR hQ hA hl hP hK hN hD hS
  have hg : ∀ w ∈ gw, w.before args s = true := fun w h => hts w (List.mem_cons_of_mem _ h)
  have hown : s.vm.findClass "RangeCoders$Table" = some m.cls := hown
  have hl : lv_has ls 2 [(0, Value.ref co), (1, Value.int (nI nS))] := hl
  refine va_new (ci := 7) (fs := [Value.int 0, Value.int 0, Value.int 0, Value.null, Value.null]) (C := "RangeCoders$Odds") (T := T_Odds) (N := 5) hx hb hg in_Odds t_Odds o_Odds hown (hg _ k328) (hg _ k295) (hg _ k14) hK hP hD hS hA rfl (fun j hj => by rcases (show j = 0 ∨ j = 1 ∨ j = 2 ∨ j = 3 ∨ j = 4 by omega) with rfl | rfl | rfl | rfl | rfl <;> rfl) (by rw [hR]; exact (show 0 + 1 ≤ 700 by omega)) (by rw [hR]; exact (show 0 + 5 ≤ 700 by omega)) d_Table_newOdds_0 (fun q_1 H hP hD hS => ?_)
  have hPD : my_PD (dC, dI) vwCl A [(co, Sum.inr (5, [Value.long xx, Value.long xreadX, Value.ref soa, Value.ref sna, Value.ref swa, Value.int xkept, Value.ref ri, Value.ref ro, Value.ref rw, Value.int xasked])), (q_1, Sum.inr (7, [Value.int 0, Value.int 0, Value.int 0, Value.null, Value.null]))] H := ⟨hP, hD⟩
  have hP := hPD.1
  have hD := hPD.2
  refine lv_dup hx hb d_Table_newOdds_3 rfl ?_
  refine lv_iload_n hx hb d_Table_newOdds_4 rfl (lv_at hl 1 rfl) ?_
  refine lv_iconst (v := 0) hx hb d_Table_newOdds_5 (by decide) ?_
  refine lv_iload_n hx hb d_Table_newOdds_6 rfl (lv_at hl 1 rfl) ?_
  refine lv_sipush (v := 512) hx hb d_Table_newOdds_7 (by decide) ?_
  refine W.eq (g2 := F0 m 10 ls [Value.int (nI 512), Value.int (nI nS), Value.int 0, Value.int (nI nS), Value.ref q_1, Value.ref q_1]) rfl ?_
  refine my_cvg (wr := [(co, Sum.inr (5, [Value.long xx, Value.long xreadX, Value.ref soa, Value.ref sna, Value.ref swa, Value.int xkept, Value.ref ri, Value.ref ro, Value.ref rw, Value.int xasked]))]) (va_runI (As := [Value.int (nI nS), Value.int 0, Value.int (nI nS), Value.int (nI 512)]) (rest := [Value.ref q_1]) ⟨hx, hb, hml, hown, hts⟩ (c_Odds_init l dC dI cI cM cO H.size (hSl H) q_1 (nI nS) 0 nS 512 (by first | assumption | omega) (by first | assumption | omega)) (cwI 4 hts (my_gC k301) rfl rfl rfl (hg _ k14) (hg _ k329) (hg _ k300) rfl (by decide +kernel) ⟨by rw [hR]; exact Nat.le_of_ble_eq_true rfl, by rw [hR]; exact Nat.le_of_ble_eq_true rfl⟩) (my_preg (As := [Value.ref q_1, Value.int (nI nS), Value.int 0, Value.int (nI nS), Value.int (nI 512)]) hK hN (hP.sub [1] rfl) (hD.sub [1] (by decide +kernel) rfl)) rfl rfl hl.1 rfl (lv_room (Nat.le_of_ble_eq_true rfl)) d_Table_newOdds_10 ⟨by rw [hR]; exact (show (0 + 1) + 600 ≤ 700 by omega), by rw [hR]; exact (show (0 + 5) + 600 ≤ 700 by omega)⟩) hP hD hS hA [1] [0] rfl rfl (by decide +kernel) (by decide +kernel) (fun u9 d_10 H locs hd_10 hw_10 hP hD hS => ?_)
  obtain ⟨zca_10, zpa_10⟩ := u9
  have hd_10 : d_10 + 0 ≤ 600 := hd_10
  have hPD : my_PD (dC, dI) vwCl A [(co, Sum.inr (5, [Value.long xx, Value.long xreadX, Value.ref soa, Value.ref sna, Value.ref swa, Value.int xkept, Value.ref ri, Value.ref ro, Value.ref rw, Value.int xasked])), (q_1, Sum.inr (7, [Value.int (nI nS), Value.int 0, Value.int 0, Value.ref zca_10, Value.ref zpa_10])), (zca_10, Sum.inl (cI, nS, Sum.inl (fun _ => 0))), (zpa_10, Sum.inl (cI, 512, Sum.inl (fun _ => 0)))] H := ⟨hP, hD⟩
  have hP := hPD.1
  have hD := hPD.2
  exact my_qretg (v := some q_1) hx hb hr (Or.inl ⟨_, rfl⟩) hlocks hQ hK hS (q_1, zca_10, zpa_10) (show (0 + 1 + d_10) + 0 ≤ 700 by omega) (show (0 + 5 + d_10) + 0 ≤ 700 by omega) (rfl) (hP.sub [0, 1, 2, 3] rfl) (hD.sub [0, 1, 2, 3] (by decide +kernel) rfl) d_Table_newOdds_13
set_option maxHeartbeats 2000000 in
set_option maxRecDepth 100000 in
theorem f_Bits_newOdds (l : Launch) (dC : Nat → ClassId) (dI : Nat → Nat → Nat) (cI cM cO : ClassId) (sz : Nat) (sl : Nat) (co : Nat) (xshift : Int32) (xkeptCode : Int64) (xkeptRange : Int64) (xkeptAsked : Int32) (xcache : Int32) (xpending : Int32) (xlow : Int64) (xrange : Int64) (xcode : Int64) (xreadLow : Int64) (xreadRange : Int64) (ri : Nat) (ro : Nat) (rw : Nat) (xasked : Int32) (nS : Nat) (hns2 : 2 ≤ nS) (hns : nS ≤ 64) : MetQg l y_Bits_newOdds (Cond.code y_Bits_newOdds prog_2_method_2_code 2 (some (.object "RangeCoders$Odds")) :: gw) ({ frames := 2, cells := 700, slots := 700, locals := 36 } : Room) (dC, dI) vwCl (kT cI cM cO) [Value.ref co, Value.int (nI nS)] [(co, Sum.inr (3, [Value.int xshift, Value.long xkeptCode, Value.long xkeptRange, Value.int xkeptAsked, Value.int xcache, Value.int xpending, Value.long xlow, Value.long xrange, Value.long xcode, Value.long xreadLow, Value.long xreadRange, Value.ref ri, Value.ref ro, Value.ref rw, Value.int xasked]))] sz sl (fun (r : Option Nat) (u : Nat × Nat × Nat) => r = some u.1) (fun (u : Nat × Nat × Nat) => [(co, Sum.inr (3, [Value.int xshift, Value.long xkeptCode, Value.long xkeptRange, Value.int xkeptAsked, Value.int xcache, Value.int xpending, Value.long xlow, Value.long xrange, Value.long xcode, Value.long xreadLow, Value.long xreadRange, Value.ref ri, Value.ref ro, Value.ref rw, Value.int xasked])), (u.1, Sum.inr (7, [Value.int (nI nS), Value.int 0, Value.int 1, Value.ref u.2.1, Value.ref u.2.2])), (u.2.1, Sum.inl (cI, (2 ^ lev nS), Sum.inl (fun _ => 0))), (u.2.2, Sum.inl (cI, 0, Sum.inl (fun _ => 0)))]) 700 (fun (u : Nat × Nat × Nat) => 0) := by
  refine my_ofQg (cc := prog_2_method_2_code) (n := 2) (ret := (some (.object "RangeCoders$Odds"))) (by decide) rfl (Nat.le_of_ble_eq_true rfl) ?_
  intro p e s m args below meth c R Q A ls H locs hx hb hr hts hown hlocks hml hnm hR hQ hA hl hP hK hN hD hS
  have hg : ∀ w ∈ gw, w.before args s = true := fun w h => hts w (List.mem_cons_of_mem _ h)
  have hown : s.vm.findClass "RangeCoders$Bits" = some m.cls := hown
  have hl : lv_has ls 2 [(0, Value.ref co), (1, Value.int (nI nS))] := hl
  refine va_new (ci := 7) (fs := [Value.int 0, Value.int 0, Value.int 0, Value.null, Value.null]) (C := "RangeCoders$Odds") (T := T_Odds) (N := 5) hx hb hg in_Odds t_Odds o_Odds hown (hg _ k294) (hg _ k295) (hg _ k14) hK hP hD hS hA rfl (fun j hj => by rcases (show j = 0 ∨ j = 1 ∨ j = 2 ∨ j = 3 ∨ j = 4 by omega) with rfl | rfl | rfl | rfl | rfl <;> rfl) (by rw [hR]; exact (show 0 + 1 ≤ 700 by omega)) (by rw [hR]; exact (show 0 + 5 ≤ 700 by omega)) d_Bits_newOdds_0 (fun q_1 H hP hD hS => ?_)
  have hPD : my_PD (dC, dI) vwCl A [(co, Sum.inr (3, [Value.int xshift, Value.long xkeptCode, Value.long xkeptRange, Value.int xkeptAsked, Value.int xcache, Value.int xpending, Value.long xlow, Value.long xrange, Value.long xcode, Value.long xreadLow, Value.long xreadRange, Value.ref ri, Value.ref ro, Value.ref rw, Value.int xasked])), (q_1, Sum.inr (7, [Value.int 0, Value.int 0, Value.int 0, Value.null, Value.null]))] H := ⟨hP, hD⟩
  have hP := hPD.1
  have hD := hPD.2
  refine lv_dup hx hb d_Bits_newOdds_3 rfl ?_
  refine lv_iload_n hx hb d_Bits_newOdds_4 rfl (lv_at hl 1 rfl) ?_
  refine lv_iconst (v := 1) hx hb d_Bits_newOdds_5 (by decide) ?_
  refine lv_iconst (v := 1) hx hb d_Bits_newOdds_6 (by decide) ?_
  refine lv_iload_n hx hb d_Bits_newOdds_7 rfl (lv_at hl 1 rfl) ?_
  refine my_ci (wr := [(co, Sum.inr (3, [Value.int xshift, Value.long xkeptCode, Value.long xkeptRange, Value.int xkeptAsked, Value.int xcache, Value.int xpending, Value.long xlow, Value.long xrange, Value.long xcode, Value.long xreadLow, Value.long xreadRange, Value.ref ri, Value.ref ro, Value.ref rw, Value.int xasked])), (q_1, Sum.inr (7, [Value.int 0, Value.int 0, Value.int 0, Value.null, Value.null]))]) (va_runS (As := [Value.int (nI nS)]) (rest := [Value.int 1, Value.int 1, Value.int (nI nS), Value.ref q_1, Value.ref q_1]) ⟨hx, hb, hml, hown, hts⟩ (f_Bits_levelsOf l dC dI cI cM cO H.size nS (by first | assumption | omega) (by first | assumption | omega)) (cwS 1 hts (my_gS k296 k297 k8 k298) rfl rfl rfl (by decide +kernel) ⟨by rw [hR]; exact Nat.le_of_ble_eq_true rfl, by rw [hR]; exact Nat.le_of_ble_eq_true rfl⟩) (my_pre hK hN (hP.sub [] rfl) (hD.sub [] (by decide +kernel) rfl)) rfl rfl hl.1 rfl (lv_room (Nat.le_of_ble_eq_true rfl)) d_Bits_newOdds_8 ⟨by rw [hR]; exact (show (0 + 1) + 0 ≤ 700 by omega), by rw [hR]; exact (show (0 + 5) + 0 ≤ 700 by omega)⟩) hP hD hS hA [] [0, 1] rfl rfl (by decide +kernel) (by decide +kernel) (fun r_8 u9 H locs hw_8 hP hD hS => ?_)
  have hr_8 : r_8 = nI (lev nS) := hw_8
  have hPD : my_PD (dC, dI) vwCl A [(co, Sum.inr (3, [Value.int xshift, Value.long xkeptCode, Value.long xkeptRange, Value.int xkeptAsked, Value.int xcache, Value.int xpending, Value.long xlow, Value.long xrange, Value.long xcode, Value.long xreadLow, Value.long xreadRange, Value.ref ri, Value.ref ro, Value.ref rw, Value.int xasked])), (q_1, Sum.inr (7, [Value.int 0, Value.int 0, Value.int 0, Value.null, Value.null]))] H := ⟨hP, hD⟩
  have hP := hPD.1
  have hD := hPD.2
  refine lv_ishl hx hb d_Bits_newOdds_11 ?_
  refine lv_topi (fun v_2 ev_2 => ?_)
  refine lv_iconst (v := 0) hx hb d_Bits_newOdds_12 (by decide) ?_
  have hlv6 := lev_63 nS
  have z9 : v_2 = nI (2 ^ lev nS) := by rw [ev_2, hr_8]; exact shl1 _ (lev_30 _)
  subst z9
  refine W.eq (g2 := F0 m 13 ls [Value.int (nI 0), Value.int (nI (2 ^ lev nS)), Value.int 1, Value.int (nI nS), Value.ref q_1, Value.ref q_1]) rfl ?_
  refine my_cvg (wr := [(co, Sum.inr (3, [Value.int xshift, Value.long xkeptCode, Value.long xkeptRange, Value.int xkeptAsked, Value.int xcache, Value.int xpending, Value.long xlow, Value.long xrange, Value.long xcode, Value.long xreadLow, Value.long xreadRange, Value.ref ri, Value.ref ro, Value.ref rw, Value.int xasked]))]) (va_runI (As := [Value.int (nI nS), Value.int 1, Value.int (nI (2 ^ lev nS)), Value.int (nI 0)]) (rest := [Value.ref q_1]) ⟨hx, hb, hml, hown, hts⟩ (c_Odds_init l dC dI cI cM cO H.size (hSl H) q_1 (nI nS) 1 (2 ^ lev nS) 0 (by first | assumption | omega) (by first | assumption | omega)) (cwI 4 hts (my_gC k301) rfl rfl rfl (hg _ k14) (hg _ k299) (hg _ k300) rfl (by decide +kernel) ⟨by rw [hR]; exact Nat.le_of_ble_eq_true rfl, by rw [hR]; exact Nat.le_of_ble_eq_true rfl⟩) (my_preg (As := [Value.ref q_1, Value.int (nI nS), Value.int 1, Value.int (nI (2 ^ lev nS)), Value.int (nI 0)]) hK hN (hP.sub [1] rfl) (hD.sub [1] (by decide +kernel) rfl)) rfl rfl hl.1 rfl (lv_room (Nat.le_of_ble_eq_true rfl)) d_Bits_newOdds_13 ⟨by rw [hR]; exact (show (0 + 1) + 600 ≤ 700 by omega), by rw [hR]; exact (show (0 + 5) + 600 ≤ 700 by omega)⟩) hP hD hS hA [1] [0] rfl rfl (by decide +kernel) (by decide +kernel) (fun u9 d_13 H locs hd_13 hw_13 hP hD hS => ?_)
  obtain ⟨zca_13, zpa_13⟩ := u9
  have hd_13 : d_13 + 0 ≤ 600 := hd_13
  have hPD : my_PD (dC, dI) vwCl A [(co, Sum.inr (3, [Value.int xshift, Value.long xkeptCode, Value.long xkeptRange, Value.int xkeptAsked, Value.int xcache, Value.int xpending, Value.long xlow, Value.long xrange, Value.long xcode, Value.long xreadLow, Value.long xreadRange, Value.ref ri, Value.ref ro, Value.ref rw, Value.int xasked])), (q_1, Sum.inr (7, [Value.int (nI nS), Value.int 0, Value.int 1, Value.ref zca_13, Value.ref zpa_13])), (zca_13, Sum.inl (cI, (2 ^ lev nS), Sum.inl (fun _ => 0))), (zpa_13, Sum.inl (cI, 0, Sum.inl (fun _ => 0)))] H := ⟨hP, hD⟩
  have hP := hPD.1
  have hD := hPD.2
  exact my_qretg (v := some q_1) hx hb hr (Or.inl ⟨_, rfl⟩) hlocks hQ hK hS (q_1, zca_13, zpa_13) (show (0 + 1 + d_13) + 0 ≤ 700 by omega) (show (0 + 5 + d_13) + 0 ≤ 700 by omega) (rfl) (hP.sub [0, 1, 2, 3] rfl) (hD.sub [0, 1, 2, 3] (by decide +kernel) rfl) d_Bits_newOdds_16
set_option maxHeartbeats 2000000 in
set_option maxRecDepth 100000 in
theorem f_Model_init (l : Launch) (dC : Nat → ClassId) (dI : Nat → Nat → Nat) (cI cM cO : ClassId) (sz : Nat) (sl : Nat) (mo : Nat) (nS : Nat) (o1 : Nat) (o2 : Nat) (hns : nS ≤ 64) : MetVg l y_Model_init (Cond.code y_Model_init prog_5_method_1_code 4 none :: gw) ({ frames := 1, cells := 100, slots := 100, locals := 23 } : Room) (dC, dI) vwCl (kT cI cM cO) [Value.ref mo, Value.int (nI nS), Value.ref o1, Value.ref o2] [(mo, Sum.inr (8, [Value.null, Value.null, Value.null]))] sz sl (fun (u : Nat × (Nat → Int32)) => tbI u.2 nS (fun _ => 1)) (fun (u : Nat × (Nat → Int32)) => [(mo, Sum.inr (8, [Value.ref u.1, Value.ref o1, Value.ref o2])), (u.1, Sum.inl (cI, nS, Sum.inl u.2))]) 100 (fun (u : Nat × (Nat → Int32)) => 0) := by
  refine my_ofVg (cc := prog_5_method_1_code) (n := 4) (ret := none) (by decide) rfl (Nat.le_of_ble_eq_true rfl) ?_
  intro p e s m args below meth c R Q A ls H locs hx hb hr hts hown hlocks hml hnm hR hQ hA hl hP hK hN hD hS
  have hg : ∀ w ∈ gw, w.before args s = true := fun w h => hts w (List.mem_cons_of_mem _ h)
  have hown : s.vm.findClass "RangeCoders$Model" = some m.cls := hown
  have hl : lv_has ls 4 [(0, Value.ref mo), (1, Value.int (nI nS)), (2, Value.ref o1), (3, Value.ref o2)] := hl
  refine lv_aload_n hx hb d_Model_init_0 rfl (lv_at hl 0 rfl) ?_
  refine W.objInit hx hb hown (hg _ k336) (hg _ k23) (hg _ k24) rfl (by rw [hml]; exact hl.1) rfl d_Model_init_1 (by rw [hR]; exact Nat.le_of_ble_eq_true rfl) (by rw [hR]; exact Nat.le_of_ble_eq_true rfl) ?_
  refine W.eq (g2 := F0 m 4 ls []) rfl ?_
  refine lv_aload_n hx hb d_Model_init_4 rfl (lv_at hl 0 rfl) ?_
  refine lv_iload_n hx hb d_Model_init_5 rfl (lv_at hl 1 rfl) ?_
  refine lv_if_lt (tgt := 13) hx hb d_Model_init_6 (by decide) (fun c_1 => ?_) (fun c_1 => ?_)
  · exact absurd c_1 (nI_pos (by omega))
  · refine lv_iload_n hx hb d_Model_init_9 rfl (lv_at hl 1 rfl) ?_
    refine lv_goto (tgt := 14) hx hb d_Model_init_10 (by decide) ?_
    refine my_newi hx hb (hg _ k66) hK 0 rfl hP hD hS hA (N' := nS) (nI_pos (by omega)) (nI_clamp (by omega)) (by omega) (by rw [hR]; exact (show 0 + 1 ≤ 100 by omega)) (by rw [hR]; exact (show 0 + nS ≤ 100 by omega)) d_Model_init_14 (fun q_2 H hP hD hS => ?_)
    have hPD : my_PD (dC, dI) vwCl A [(mo, Sum.inr (8, [Value.null, Value.null, Value.null])), (q_2, Sum.inl (cI, nS, Sum.inl (fun _ => 0)))] H := ⟨hP, hD⟩
    have hP := hPD.1
    have hD := hPD.2
    refine va_putF (D := (dC, dI)) (ci := 8) (v := .ref q_2) (ty := (.array .int)) (C := "RangeCoders$Model") (T := T_Model) (N := 3) hx hb hg in_Model t_Model o_Model n_Model hown hK hP hD hS 0 rfl rfl 0 (by decide) (hg _ k340) (fun _ h9 => h9) rfl (by rw [hnm]; rfl) rfl (by decide +kernel) rfl rfl (Nat.le_of_ble_eq_true rfl) d_Model_init_16 (fun H locs hP hD hS => ?_)
    have hPD : my_PD (dC, dI) vwCl A [(mo, Sum.inr (8, [Value.ref q_2, Value.null, Value.null])), (q_2, Sum.inl (cI, nS, Sum.inl (fun _ => 0)))] H := ⟨hP, hD⟩
    have hP := hPD.1
    have hD := hPD.2
    refine lv_aload_n hx hb d_Model_init_19 rfl (lv_at hl 0 rfl) ?_
    refine va_get (D := (dC, dI)) (ci := 8) (v := .ref q_2) (C := "RangeCoders$Model") (T := T_Model) (N := 3) hx hb hg in_Model hown hK hP 0 rfl rfl 0 (by decide) (hg _ k340) (fun _ h9 => h9) rfl d_Model_init_20 ?_
    refine lv_iconst (v := 1) hx hb d_Model_init_23 (by decide) ?_
    refine W.eq (g2 := F0 m 24 ls [Value.int (nI 1), Value.ref q_2]) rfl ?_
    refine my_cv (wr := [(mo, Sum.inr (8, [Value.ref q_2, Value.null, Value.null]))]) (va_runS (As := [Value.ref q_2, Value.int (nI 1)]) (rest := []) ⟨hx, hb, hml, hown, hts⟩ (f_Arrays_fill l dC dI cI cM cO H.size q_2 nS (fun _ => 0) 1 (by omega)) (my_cwS2 2 hts (my_gC k339) rfl rfl rfl (hg _ k15) (hg _ k337) (hg _ k338) (by decide +kernel) ⟨by rw [hR]; exact Nat.le_of_ble_eq_true rfl, by rw [hR]; exact Nat.le_of_ble_eq_true rfl⟩) (my_pre hK hN (hP.sub [1] rfl) (hD.sub [1] (by decide +kernel) rfl)) rfl rfl hl.1 rfl (lv_room (Nat.le_of_ble_eq_true rfl)) d_Model_init_24 ⟨by rw [hR]; exact (show (0 + 1) + 0 ≤ 100 by omega), by rw [hR]; exact (show (0 + nS) + 0 ≤ 100 by omega)⟩) hP hD hS hA [1] [0] rfl rfl (by decide +kernel) (by decide +kernel) (fun u9 H locs hw_24 hP hD hS => ?_)
    obtain ⟨afq_24, rfl⟩ : ∃ z, z = u9 := ⟨_, rfl⟩
    have hf_24 : tbI afq_24 nS (fun _ => 1) := hw_24
    have hPD : my_PD (dC, dI) vwCl A [(mo, Sum.inr (8, [Value.ref q_2, Value.null, Value.null])), (q_2, Sum.inl (cI, nS, Sum.inl afq_24))] H := ⟨hP, hD⟩
    have hP := hPD.1
    have hD := hPD.2
    refine lv_aload_n hx hb d_Model_init_27 rfl (lv_at hl 0 rfl) ?_
    refine lv_aload_n hx hb d_Model_init_28 rfl (lv_at hl 2 rfl) ?_
    refine va_putF (D := (dC, dI)) (ci := 8) (v := .ref o1) (ty := (.object "RangeCoders$Odds")) (C := "RangeCoders$Model") (T := T_Model) (N := 3) hx hb hg in_Model t_Model o_Model n_Model hown hK hP hD hS 0 rfl rfl 1 (by decide) (hg _ k342) (fun _ h9 => h9) rfl (by rw [hnm]; rfl) rfl (by decide +kernel) rfl rfl (Nat.le_of_ble_eq_true rfl) d_Model_init_29 (fun H locs hP hD hS => ?_)
    have hPD : my_PD (dC, dI) vwCl A [(mo, Sum.inr (8, [Value.ref q_2, Value.ref o1, Value.null])), (q_2, Sum.inl (cI, nS, Sum.inl afq_24))] H := ⟨hP, hD⟩
    have hP := hPD.1
    have hD := hPD.2
    refine lv_aload_n hx hb d_Model_init_32 rfl (lv_at hl 0 rfl) ?_
    refine lv_aload_n hx hb d_Model_init_33 rfl (lv_at hl 3 rfl) ?_
    refine va_putF (D := (dC, dI)) (ci := 8) (v := .ref o2) (ty := (.object "RangeCoders$Odds")) (C := "RangeCoders$Model") (T := T_Model) (N := 3) hx hb hg in_Model t_Model o_Model n_Model hown hK hP hD hS 0 rfl rfl 2 (by decide) (hg _ k344) (fun _ h9 => h9) rfl (by rw [hnm]; rfl) rfl (by decide +kernel) rfl rfl (Nat.le_of_ble_eq_true rfl) d_Model_init_34 (fun H locs hP hD hS => ?_)
    have hPD : my_PD (dC, dI) vwCl A [(mo, Sum.inr (8, [Value.ref q_2, Value.ref o1, Value.ref o2])), (q_2, Sum.inl (cI, nS, Sum.inl afq_24))] H := ⟨hP, hD⟩
    have hP := hPD.1
    have hD := hPD.2
    exact my_vretg hx hb hr hlocks hQ hK hS (q_2, afq_24) (show (0 + 1) + 0 ≤ 100 by omega) (show (0 + nS) + 0 ≤ 100 by omega) (hf_24) (hP.sub [0, 1] rfl) (hD.sub [0, 1] (by decide +kernel) rfl) d_Model_init_37
set_option maxHeartbeats 2000000 in
set_option maxRecDepth 100000 in
theorem f_RC_modelB_Carries (l : Launch) (dC : Nat → ClassId) (dI : Nat → Nat → Nat) (cI cM cO : ClassId) (sz : Nat) (sl : Nat) (rc : Nat) (ma : Nat) (k : Nat) (fit : Int32) (fen : Int32) (frd : Int32) (fbd : Int32) (fir : Int32) (mf : Nat → Option Nat) (co : Nat) (xcache : Int32) (xpending : Int32) (xlow : Int64) (xrange : Int64) (xcode : Int64) (xreadLow : Int64) (xreadRange : Int64) (ri : Nat) (ro : Nat) (rw : Nat) (xasked : Int32) (nS : Nat) (hns2 : 2 ≤ nS) (hns : nS ≤ 64) (hk : k < 8) : MetIg l y_RC_model (Cond.code y_RC_model prog_1_method_2_code 3 (some .int) :: gw) ({ frames := 3, cells := 1600, slots := 1600, locals := 66 } : Room) (dC, dI) vwCl (kT cI cM cO) [Value.ref rc, Value.int (nI nS)] [(rc, Sum.inr (6, [Value.ref co, Value.ref ma, Value.int (nI k), Value.int fit, Value.int fen, Value.int frd, Value.int fbd, Value.int fir])), (ma, Sum.inl (cM, 8, Sum.inr (Sum.inr (Sum.inr (Sum.inr mf))))), (co, Sum.inr (1, [Value.int xcache, Value.int xpending, Value.long xlow, Value.long xrange, Value.long xcode, Value.long xreadLow, Value.long xreadRange, Value.ref ri, Value.ref ro, Value.ref rw, Value.int xasked]))] sz sl (fun (r : Int32) (u : Nat × Nat × (Nat → Int32) × Nat × Nat × Nat × (Nat → Int32) × Nat × Nat × Nat × (Nat → Int32)) => r = nI k ∧ tbI u.2.2.1 nS (fun _ => 1) ∧ tbI u.2.2.2.2.2.2.1 nS (les nS (fun _ => 1)) ∧ tbI u.2.2.2.2.2.2.2.2.2.2 nS (les nS (fun _ => 1))) (fun (u : Nat × Nat × (Nat → Int32) × Nat × Nat × Nat × (Nat → Int32) × Nat × Nat × Nat × (Nat → Int32)) => [(rc, Sum.inr (6, [Value.ref co, Value.ref ma, Value.int (nI (k + 1)), Value.int fit, Value.int fen, Value.int frd, Value.int fbd, Value.int fir])), (ma, Sum.inl (cM, 8, Sum.inr (Sum.inr (Sum.inr (Sum.inr (va_up mf k (some u.1))))))), (co, Sum.inr (1, [Value.int xcache, Value.int xpending, Value.long xlow, Value.long xrange, Value.long xcode, Value.long xreadLow, Value.long xreadRange, Value.ref ri, Value.ref ro, Value.ref rw, Value.int xasked])), (u.1, Sum.inr (8, [Value.ref u.2.1, Value.ref u.2.2.2.1, Value.ref u.2.2.2.2.2.2.2.1])), (u.2.1, Sum.inl (cI, nS, Sum.inl u.2.2.1)), (u.2.2.2.1, Sum.inr (7, [Value.int (nI nS), Value.int (nI (ns (les nS (fun _ => 1)) nS)), Value.int 0, Value.ref u.2.2.2.2.1, Value.ref u.2.2.2.2.2.1])), (u.2.2.2.2.1, Sum.inl (cI, nS, Sum.inl u.2.2.2.2.2.2.1)), (u.2.2.2.2.2.1, Sum.inl (cI, 0, Sum.inl (fun _ => 0))), (u.2.2.2.2.2.2.2.1, Sum.inr (7, [Value.int (nI nS), Value.int (nI (ns (les nS (fun _ => 1)) nS)), Value.int 0, Value.ref u.2.2.2.2.2.2.2.2.1, Value.ref u.2.2.2.2.2.2.2.2.2.1])), (u.2.2.2.2.2.2.2.2.1, Sum.inl (cI, nS, Sum.inl u.2.2.2.2.2.2.2.2.2.2)), (u.2.2.2.2.2.2.2.2.2.1, Sum.inl (cI, 0, Sum.inl (fun _ => 0)))]) 1600 (fun (u : Nat × Nat × (Nat → Int32) × Nat × Nat × Nat × (Nat → Int32) × Nat × Nat × Nat × (Nat → Int32)) => 0) := by
  refine my_ofIg (cc := prog_1_method_2_code) (n := 3) (ret := (some .int)) (by decide) rfl (Nat.le_of_ble_eq_true rfl) ?_
  intro p e s m args below meth c R Q A ls H locs hx hb hr hts hown hlocks hml hnm hR hQ hA hl hP hK hN hD hS
  have hg : ∀ w ∈ gw, w.before args s = true := fun w h => hts w (List.mem_cons_of_mem _ h)
  have hown : s.vm.findClass "RangeCoders" = some m.cls := hown
  have hl : lv_has ls 3 [(0, Value.ref rc), (1, Value.int (nI nS))] := hl
  have hb1 : bd (fun _ => 1) nS 4095 := fun _ _ => (by decide : 1 ≤ 4095)
  have hlv6 := lev_63 nS
  refine lv_iload_n hx hb d_RC_model_0 rfl (lv_at hl 1 rfl) ?_
  refine lv_iconst (v := 2) hx hb d_RC_model_1 (by decide) ?_
  refine lv_icmp_lt (tgt := 11) hx hb d_RC_model_2 (by decide) (fun c_1 => ?_) (fun c_1 => ?_)
  · exact absurd c_1 (show ¬ nI nS < nI 2 from nI_nlt hns2 (by omega))
  · refine lv_iload_n hx hb d_RC_model_5 rfl (lv_at hl 1 rfl) ?_
    refine lv_bipush (v := 64) hx hb d_RC_model_6 (by decide) ?_
    refine lv_icmp_le (tgt := 14) hx hb d_RC_model_8 (by decide) (fun c_2 => ?_) (fun c_2 => ?_)
    · refine lv_aload_n hx hb d_RC_model_14 rfl (lv_at hl 0 rfl) ?_
      refine va_get (D := (dC, dI)) (ci := 6) (v := .int (nI k)) (C := "RangeCoders") (T := T_RC) (N := 8) hx hb hg in_RC hown hK hP 0 rfl rfl 2 (by decide) (hg _ k260) (fun _ h9 => h9) rfl d_RC_model_15 ?_
      refine lv_bipush (v := 8) hx hb d_RC_model_18 (by decide) ?_
      refine lv_icmp_lt (tgt := 26) hx hb d_RC_model_20 (by decide) (fun c_3 => ?_) (fun c_3 => ?_)
      · refine va_new (ci := 8) (fs := [Value.null, Value.null, Value.null]) (C := "RangeCoders$Model") (T := T_Model) (N := 3) hx hb hg in_Model t_Model o_Model hown (hg _ k25) (hg _ k287) (hg _ k13) hK hP hD hS hA rfl (fun j hj => by rcases (show j = 0 ∨ j = 1 ∨ j = 2 by omega) with rfl | rfl | rfl <;> rfl) (by rw [hR]; exact (show 0 + 1 ≤ 1600 by omega)) (by rw [hR]; exact (show 0 + 3 ≤ 1600 by omega)) d_RC_model_26 (fun q_4 H hP hD hS => ?_)
        have hPD : my_PD (dC, dI) vwCl A [(rc, Sum.inr (6, [Value.ref co, Value.ref ma, Value.int (nI k), Value.int fit, Value.int fen, Value.int frd, Value.int fbd, Value.int fir])), (ma, Sum.inl (cM, 8, Sum.inr (Sum.inr (Sum.inr (Sum.inr mf))))), (co, Sum.inr (1, [Value.int xcache, Value.int xpending, Value.long xlow, Value.long xrange, Value.long xcode, Value.long xreadLow, Value.long xreadRange, Value.ref ri, Value.ref ro, Value.ref rw, Value.int xasked])), (q_4, Sum.inr (8, [Value.null, Value.null, Value.null]))] H := ⟨hP, hD⟩
        have hP := hPD.1
        have hD := hPD.2
        refine lv_dup hx hb d_RC_model_29 rfl ?_
        refine lv_iload_n hx hb d_RC_model_30 rfl (lv_at hl 1 rfl) ?_
        refine lv_aload_n hx hb d_RC_model_31 rfl (lv_at hl 0 rfl) ?_
        refine va_get (D := (dC, dI)) (ci := 6) (v := .ref co) (C := "RangeCoders") (T := T_RC) (N := 8) hx hb hg in_RC hown hK hP 0 rfl rfl 0 (by decide) (hg _ k258) (fun _ h9 => h9) rfl d_RC_model_32 ?_
        refine lv_iload_n hx hb d_RC_model_35 rfl (lv_at hl 1 rfl) ?_
        refine my_cqg (wr := [(rc, Sum.inr (6, [Value.ref co, Value.ref ma, Value.int (nI k), Value.int fit, Value.int fen, Value.int frd, Value.int fbd, Value.int fir])), (ma, Sum.inl (cM, 8, Sum.inr (Sum.inr (Sum.inr (Sum.inr mf))))), (q_4, Sum.inr (8, [Value.null, Value.null, Value.null]))]) (va_runU (As := [Value.int (nI nS)]) (rest := [Value.int (nI nS), Value.ref q_4, Value.ref q_4]) ⟨hx, hb, hml, hown, hts⟩ (f_Carries_newOdds l dC dI cI cM cO H.size (hSl H) co xcache xpending xlow xrange xcode xreadLow xreadRange ri ro rw xasked nS (by first | assumption | omega) (by first | assumption | omega)) (va_cwU 1 hts (my_gU k288 k290 k322 k289 k3 k330) rfl rfl rfl rfl (by decide +kernel) ⟨by rw [hR]; exact Nat.le_of_ble_eq_true rfl, by rw [hR]; exact Nat.le_of_ble_eq_true rfl⟩) (my_preVg hK hN (hP.sub [2] rfl) (hD.sub [2] (by decide +kernel) rfl) 0 rfl rfl) rfl rfl hl.1 rfl (lv_room (Nat.le_of_ble_eq_true rfl)) d_RC_model_36 ⟨by rw [hR]; exact (show (0 + 1) + 700 ≤ 1600 by omega), by rw [hR]; exact (show (0 + 3) + 700 ≤ 1600 by omega)⟩) hP hD hS hA [2] [0, 1, 3] rfl rfl (by decide +kernel) (by decide +kernel) (fun r_36 u9 d_36 H locs hd_36 hw_36 hP hD hS => ?_)
        obtain ⟨zo_36, zca_36, zpa_36⟩ := u9
        have hr_36 : r_36 = some zo_36 := hw_36
        have hd_36 : d_36 + 0 ≤ 700 := hd_36
        have hPD : my_PD (dC, dI) vwCl A [(rc, Sum.inr (6, [Value.ref co, Value.ref ma, Value.int (nI k), Value.int fit, Value.int fen, Value.int frd, Value.int fbd, Value.int fir])), (ma, Sum.inl (cM, 8, Sum.inr (Sum.inr (Sum.inr (Sum.inr mf))))), (q_4, Sum.inr (8, [Value.null, Value.null, Value.null])), (co, Sum.inr (1, [Value.int xcache, Value.int xpending, Value.long xlow, Value.long xrange, Value.long xcode, Value.long xreadLow, Value.long xreadRange, Value.ref ri, Value.ref ro, Value.ref rw, Value.int xasked])), (zo_36, Sum.inr (7, [Value.int (nI nS), Value.int 0, Value.int 0, Value.ref zca_36, Value.ref zpa_36])), (zca_36, Sum.inl (cI, nS, Sum.inl (fun _ => 0))), (zpa_36, Sum.inl (cI, 0, Sum.inl (fun _ => 0)))] H := ⟨hP, hD⟩
        have hP := hPD.1
        have hD := hPD.2
        subst hr_36
        refine W.eq (g2 := F0 m 39 ls [Value.ref zo_36, Value.int (nI nS), Value.ref q_4, Value.ref q_4]) rfl ?_
        refine lv_aload_n hx hb d_RC_model_39 rfl (lv_at hl 0 rfl) ?_
        refine va_get (D := (dC, dI)) (ci := 6) (v := .ref co) (C := "RangeCoders") (T := T_RC) (N := 8) hx hb hg in_RC hown hK hP 0 rfl rfl 0 (by decide) (hg _ k258) (fun _ h9 => h9) rfl d_RC_model_40 ?_
        refine lv_iload_n hx hb d_RC_model_43 rfl (lv_at hl 1 rfl) ?_
        refine my_cqg (wr := [(rc, Sum.inr (6, [Value.ref co, Value.ref ma, Value.int (nI k), Value.int fit, Value.int fen, Value.int frd, Value.int fbd, Value.int fir])), (ma, Sum.inl (cM, 8, Sum.inr (Sum.inr (Sum.inr (Sum.inr mf))))), (q_4, Sum.inr (8, [Value.null, Value.null, Value.null])), (zo_36, Sum.inr (7, [Value.int (nI nS), Value.int 0, Value.int 0, Value.ref zca_36, Value.ref zpa_36])), (zca_36, Sum.inl (cI, nS, Sum.inl (fun _ => 0))), (zpa_36, Sum.inl (cI, 0, Sum.inl (fun _ => 0)))]) (va_runU (As := [Value.int (nI nS)]) (rest := [Value.ref zo_36, Value.int (nI nS), Value.ref q_4, Value.ref q_4]) ⟨hx, hb, hml, hown, hts⟩ (f_Carries_newOdds l dC dI cI cM cO H.size (hSl H) co xcache xpending xlow xrange xcode xreadLow xreadRange ri ro rw xasked nS (by first | assumption | omega) (by first | assumption | omega)) (va_cwU 1 hts (my_gU k288 k290 k322 k289 k3 k330) rfl rfl rfl rfl (by decide +kernel) ⟨by rw [hR]; exact Nat.le_of_ble_eq_true rfl, by rw [hR]; exact Nat.le_of_ble_eq_true rfl⟩) (my_preVg hK hN (hP.sub [3] rfl) (hD.sub [3] (by decide +kernel) rfl) 0 rfl rfl) rfl rfl hl.1 rfl (lv_room (Nat.le_of_ble_eq_true rfl)) d_RC_model_44 ⟨by rw [hR]; exact (show (0 + 1 + d_36) + 700 ≤ 1600 by omega), by rw [hR]; exact (show (0 + 3 + d_36) + 700 ≤ 1600 by omega)⟩) hP hD hS hA [3] [0, 1, 2, 4, 5, 6] rfl rfl (by decide +kernel) (by decide +kernel) (fun r_44 u9 d_44 H locs hd_44 hw_44 hP hD hS => ?_)
        obtain ⟨zo_44, zca_44, zpa_44⟩ := u9
        have hr_44 : r_44 = some zo_44 := hw_44
        have hd_44 : d_44 + 0 ≤ 700 := hd_44
        have hPD : my_PD (dC, dI) vwCl A [(rc, Sum.inr (6, [Value.ref co, Value.ref ma, Value.int (nI k), Value.int fit, Value.int fen, Value.int frd, Value.int fbd, Value.int fir])), (ma, Sum.inl (cM, 8, Sum.inr (Sum.inr (Sum.inr (Sum.inr mf))))), (q_4, Sum.inr (8, [Value.null, Value.null, Value.null])), (zo_36, Sum.inr (7, [Value.int (nI nS), Value.int 0, Value.int 0, Value.ref zca_36, Value.ref zpa_36])), (zca_36, Sum.inl (cI, nS, Sum.inl (fun _ => 0))), (zpa_36, Sum.inl (cI, 0, Sum.inl (fun _ => 0))), (co, Sum.inr (1, [Value.int xcache, Value.int xpending, Value.long xlow, Value.long xrange, Value.long xcode, Value.long xreadLow, Value.long xreadRange, Value.ref ri, Value.ref ro, Value.ref rw, Value.int xasked])), (zo_44, Sum.inr (7, [Value.int (nI nS), Value.int 0, Value.int 0, Value.ref zca_44, Value.ref zpa_44])), (zca_44, Sum.inl (cI, nS, Sum.inl (fun _ => 0))), (zpa_44, Sum.inl (cI, 0, Sum.inl (fun _ => 0)))] H := ⟨hP, hD⟩
        have hP := hPD.1
        have hD := hPD.2
        subst hr_44
        refine W.eq (g2 := F0 m 47 ls [Value.ref zo_44, Value.ref zo_36, Value.int (nI nS), Value.ref q_4, Value.ref q_4]) rfl ?_
        refine my_cvg (wr := [(rc, Sum.inr (6, [Value.ref co, Value.ref ma, Value.int (nI k), Value.int fit, Value.int fen, Value.int frd, Value.int fbd, Value.int fir])), (ma, Sum.inl (cM, 8, Sum.inr (Sum.inr (Sum.inr (Sum.inr mf))))), (zo_36, Sum.inr (7, [Value.int (nI nS), Value.int 0, Value.int 0, Value.ref zca_36, Value.ref zpa_36])), (zca_36, Sum.inl (cI, nS, Sum.inl (fun _ => 0))), (zpa_36, Sum.inl (cI, 0, Sum.inl (fun _ => 0))), (co, Sum.inr (1, [Value.int xcache, Value.int xpending, Value.long xlow, Value.long xrange, Value.long xcode, Value.long xreadLow, Value.long xreadRange, Value.ref ri, Value.ref ro, Value.ref rw, Value.int xasked])), (zo_44, Sum.inr (7, [Value.int (nI nS), Value.int 0, Value.int 0, Value.ref zca_44, Value.ref zpa_44])), (zca_44, Sum.inl (cI, nS, Sum.inl (fun _ => 0))), (zpa_44, Sum.inl (cI, 0, Sum.inl (fun _ => 0)))]) (va_runI (As := [Value.int (nI nS), Value.ref zo_36, Value.ref zo_44]) (rest := [Value.ref q_4]) ⟨hx, hb, hml, hown, hts⟩ (f_Model_init l dC dI cI cM cO H.size (hSl H) q_4 nS zo_36 zo_44 (by first | assumption | omega)) (cwI 3 hts (my_gC k335) rfl rfl rfl (hg _ k13) (hg _ k333) (hg _ k334) rfl (by decide +kernel) ⟨by rw [hR]; exact Nat.le_of_ble_eq_true rfl, by rw [hR]; exact Nat.le_of_ble_eq_true rfl⟩) (my_preg (As := [Value.ref q_4, Value.int (nI nS), Value.ref zo_36, Value.ref zo_44]) hK hN (hP.sub [2] rfl) (hD.sub [2] (by decide +kernel) rfl)) rfl rfl hl.1 rfl (lv_room (Nat.le_of_ble_eq_true rfl)) d_RC_model_47 ⟨by rw [hR]; exact (show (0 + 1 + d_36 + d_44) + 100 ≤ 1600 by omega), by rw [hR]; exact (show (0 + 3 + d_36 + d_44) + 100 ≤ 1600 by omega)⟩) hP hD hS hA [2] [0, 1, 3, 4, 5, 6, 7, 8, 9] rfl rfl (by decide +kernel) (by decide +kernel) (fun u9 d_47 H locs hd_47 hw_47 hP hD hS => ?_)
        obtain ⟨zk_47, zkf_47⟩ := u9
        have hf_47 : tbI zkf_47 nS (fun _ => 1) := hw_47
        have hd_47 : d_47 + 0 ≤ 100 := hd_47
        have hPD : my_PD (dC, dI) vwCl A [(rc, Sum.inr (6, [Value.ref co, Value.ref ma, Value.int (nI k), Value.int fit, Value.int fen, Value.int frd, Value.int fbd, Value.int fir])), (ma, Sum.inl (cM, 8, Sum.inr (Sum.inr (Sum.inr (Sum.inr mf))))), (zo_36, Sum.inr (7, [Value.int (nI nS), Value.int 0, Value.int 0, Value.ref zca_36, Value.ref zpa_36])), (zca_36, Sum.inl (cI, nS, Sum.inl (fun _ => 0))), (zpa_36, Sum.inl (cI, 0, Sum.inl (fun _ => 0))), (co, Sum.inr (1, [Value.int xcache, Value.int xpending, Value.long xlow, Value.long xrange, Value.long xcode, Value.long xreadLow, Value.long xreadRange, Value.ref ri, Value.ref ro, Value.ref rw, Value.int xasked])), (zo_44, Sum.inr (7, [Value.int (nI nS), Value.int 0, Value.int 0, Value.ref zca_44, Value.ref zpa_44])), (zca_44, Sum.inl (cI, nS, Sum.inl (fun _ => 0))), (zpa_44, Sum.inl (cI, 0, Sum.inl (fun _ => 0))), (q_4, Sum.inr (8, [Value.ref zk_47, Value.ref zo_36, Value.ref zo_44])), (zk_47, Sum.inl (cI, nS, Sum.inl zkf_47))] H := ⟨hP, hD⟩
        have hP := hPD.1
        have hD := hPD.2
        refine lv_astore_n (lv' := [(2, Value.ref q_4), (0, Value.ref rc), (1, Value.int (nI nS))]) hx hb d_RC_model_50 rfl hl (by decide) rfl (fun ls hl => ?_)
        refine lv_aload_n hx hb d_RC_model_51 rfl (lv_at hl 1 rfl) ?_
        refine va_get (D := (dC, dI)) (ci := 6) (v := .ref co) (C := "RangeCoders") (T := T_RC) (N := 8) hx hb hg in_RC hown hK hP 0 rfl rfl 0 (by decide) (hg _ k258) (fun _ h9 => h9) rfl d_RC_model_52 ?_
        refine lv_aload_n hx hb d_RC_model_55 rfl (lv_at hl 0 rfl) ?_
        refine va_get (D := (dC, dI)) (ci := 8) (v := .ref zo_36) (C := "RangeCoders$Model") (T := T_Model) (N := 3) hx hb hg in_Model hown hK hP 9 rfl rfl 1 (by decide) (hg _ k343) (fun _ h9 => h9) rfl d_RC_model_56 ?_
        refine lv_aload_n hx hb d_RC_model_59 rfl (lv_at hl 0 rfl) ?_
        refine va_get (D := (dC, dI)) (ci := 8) (v := .ref zk_47) (C := "RangeCoders$Model") (T := T_Model) (N := 3) hx hb hg in_Model hown hK hP 9 rfl rfl 0 (by decide) (hg _ k341) (fun _ h9 => h9) rfl d_RC_model_60 ?_
        refine my_cv (wr := [(rc, Sum.inr (6, [Value.ref co, Value.ref ma, Value.int (nI k), Value.int fit, Value.int fen, Value.int frd, Value.int fbd, Value.int fir])), (ma, Sum.inl (cM, 8, Sum.inr (Sum.inr (Sum.inr (Sum.inr mf))))), (zo_44, Sum.inr (7, [Value.int (nI nS), Value.int 0, Value.int 0, Value.ref zca_44, Value.ref zpa_44])), (zca_44, Sum.inl (cI, nS, Sum.inl (fun _ => 0))), (zpa_44, Sum.inl (cI, 0, Sum.inl (fun _ => 0))), (q_4, Sum.inr (8, [Value.ref zk_47, Value.ref zo_36, Value.ref zo_44]))]) (va_runU (As := [Value.ref zo_36, Value.ref zk_47]) (rest := []) ⟨hx, hb, hml, hown, hts⟩ (f_Carries_prepare l dC dI cI cM cO H.size co xcache xpending xlow xrange xcode xreadLow xreadRange ri ro rw xasked zo_36 (nI nS) 0 zca_36 zpa_36 nS (fun _ => 0) 0 (fun _ => 0) 0 zk_47 zkf_47 (fun _ => 1) (hns) (by decide) (hf_47) (hb1)) (va_cwA 2 hts (my_gU k353 k355 k364 k365 k4 k366) rfl rfl rfl (hN.1 _ j354 rfl) (by decide +kernel) ⟨by rw [hR]; exact Nat.le_of_ble_eq_true rfl, by rw [hR]; exact Nat.le_of_ble_eq_true rfl⟩) (my_preV hK hN (hP.sub [5, 2, 3, 4, 10] rfl) (hD.sub [5, 2, 3, 4, 10] (by decide +kernel) rfl) 0 rfl rfl) rfl rfl hl.1 rfl (lv_room (Nat.le_of_ble_eq_true rfl)) d_RC_model_63 ⟨by rw [hR]; exact (show (0 + 1 + d_36 + d_44 + d_47) + 0 ≤ 1600 by omega), by rw [hR]; exact (show (0 + 3 + d_36 + d_44 + d_47) + 0 ≤ 1600 by omega)⟩) hP hD hS hA [5, 2, 3, 4, 10] [0, 1, 6, 7, 8, 9] rfl rfl (by decide +kernel) (by decide +kernel) (fun u9 H locs hw_63 hP hD hS => ?_)
        obtain ⟨ocfq_63, rfl⟩ : ∃ z, z = u9 := ⟨_, rfl⟩
        have hf_63 : tbI ocfq_63 nS (les nS (fun _ => 1)) := hw_63
        have hPD : my_PD (dC, dI) vwCl A [(rc, Sum.inr (6, [Value.ref co, Value.ref ma, Value.int (nI k), Value.int fit, Value.int fen, Value.int frd, Value.int fbd, Value.int fir])), (ma, Sum.inl (cM, 8, Sum.inr (Sum.inr (Sum.inr (Sum.inr mf))))), (zo_44, Sum.inr (7, [Value.int (nI nS), Value.int 0, Value.int 0, Value.ref zca_44, Value.ref zpa_44])), (zca_44, Sum.inl (cI, nS, Sum.inl (fun _ => 0))), (zpa_44, Sum.inl (cI, 0, Sum.inl (fun _ => 0))), (q_4, Sum.inr (8, [Value.ref zk_47, Value.ref zo_36, Value.ref zo_44])), (co, Sum.inr (1, [Value.int xcache, Value.int xpending, Value.long xlow, Value.long xrange, Value.long xcode, Value.long xreadLow, Value.long xreadRange, Value.ref ri, Value.ref ro, Value.ref rw, Value.int xasked])), (zo_36, Sum.inr (7, [Value.int (nI nS), Value.int (nI (ns (les nS (fun _ => 1)) nS)), Value.int 0, Value.ref zca_36, Value.ref zpa_36])), (zca_36, Sum.inl (cI, nS, Sum.inl ocfq_63)), (zpa_36, Sum.inl (cI, 0, Sum.inl (fun _ => 0))), (zk_47, Sum.inl (cI, nS, Sum.inl zkf_47))] H := ⟨hP, hD⟩
        have hP := hPD.1
        have hD := hPD.2
        refine lv_aload_n hx hb d_RC_model_66 rfl (lv_at hl 1 rfl) ?_
        refine va_get (D := (dC, dI)) (ci := 6) (v := .ref co) (C := "RangeCoders") (T := T_RC) (N := 8) hx hb hg in_RC hown hK hP 0 rfl rfl 0 (by decide) (hg _ k258) (fun _ h9 => h9) rfl d_RC_model_67 ?_
        refine lv_aload_n hx hb d_RC_model_70 rfl (lv_at hl 0 rfl) ?_
        refine va_get (D := (dC, dI)) (ci := 8) (v := .ref zo_44) (C := "RangeCoders$Model") (T := T_Model) (N := 3) hx hb hg in_Model hown hK hP 5 rfl rfl 2 (by decide) (hg _ k345) (fun _ h9 => h9) rfl d_RC_model_71 ?_
        refine lv_aload_n hx hb d_RC_model_74 rfl (lv_at hl 0 rfl) ?_
        refine va_get (D := (dC, dI)) (ci := 8) (v := .ref zk_47) (C := "RangeCoders$Model") (T := T_Model) (N := 3) hx hb hg in_Model hown hK hP 5 rfl rfl 0 (by decide) (hg _ k341) (fun _ h9 => h9) rfl d_RC_model_75 ?_
        refine my_cv (wr := [(rc, Sum.inr (6, [Value.ref co, Value.ref ma, Value.int (nI k), Value.int fit, Value.int fen, Value.int frd, Value.int fbd, Value.int fir])), (ma, Sum.inl (cM, 8, Sum.inr (Sum.inr (Sum.inr (Sum.inr mf))))), (q_4, Sum.inr (8, [Value.ref zk_47, Value.ref zo_36, Value.ref zo_44])), (zo_36, Sum.inr (7, [Value.int (nI nS), Value.int (nI (ns (les nS (fun _ => 1)) nS)), Value.int 0, Value.ref zca_36, Value.ref zpa_36])), (zca_36, Sum.inl (cI, nS, Sum.inl ocfq_63)), (zpa_36, Sum.inl (cI, 0, Sum.inl (fun _ => 0)))]) (va_runU (As := [Value.ref zo_44, Value.ref zk_47]) (rest := []) ⟨hx, hb, hml, hown, hts⟩ (f_Carries_prepare l dC dI cI cM cO H.size co xcache xpending xlow xrange xcode xreadLow xreadRange ri ro rw xasked zo_44 (nI nS) 0 zca_44 zpa_44 nS (fun _ => 0) 0 (fun _ => 0) 0 zk_47 zkf_47 (fun _ => 1) (hns) (by decide) (hf_47) (hb1)) (va_cwA 2 hts (my_gU k353 k355 k364 k365 k4 k366) rfl rfl rfl (hN.1 _ j354 rfl) (by decide +kernel) ⟨by rw [hR]; exact Nat.le_of_ble_eq_true rfl, by rw [hR]; exact Nat.le_of_ble_eq_true rfl⟩) (my_preV hK hN (hP.sub [6, 2, 3, 4, 10] rfl) (hD.sub [6, 2, 3, 4, 10] (by decide +kernel) rfl) 0 rfl rfl) rfl rfl hl.1 rfl (lv_room (Nat.le_of_ble_eq_true rfl)) d_RC_model_78 ⟨by rw [hR]; exact (show (0 + 1 + d_36 + d_44 + d_47) + 0 ≤ 1600 by omega), by rw [hR]; exact (show (0 + 3 + d_36 + d_44 + d_47) + 0 ≤ 1600 by omega)⟩) hP hD hS hA [6, 2, 3, 4, 10] [0, 1, 5, 7, 8, 9] rfl rfl (by decide +kernel) (by decide +kernel) (fun u9 H locs hw_78 hP hD hS => ?_)
        obtain ⟨ocfq_78, rfl⟩ : ∃ z, z = u9 := ⟨_, rfl⟩
        have hf_78 : tbI ocfq_78 nS (les nS (fun _ => 1)) := hw_78
        have hPD : my_PD (dC, dI) vwCl A [(rc, Sum.inr (6, [Value.ref co, Value.ref ma, Value.int (nI k), Value.int fit, Value.int fen, Value.int frd, Value.int fbd, Value.int fir])), (ma, Sum.inl (cM, 8, Sum.inr (Sum.inr (Sum.inr (Sum.inr mf))))), (q_4, Sum.inr (8, [Value.ref zk_47, Value.ref zo_36, Value.ref zo_44])), (zo_36, Sum.inr (7, [Value.int (nI nS), Value.int (nI (ns (les nS (fun _ => 1)) nS)), Value.int 0, Value.ref zca_36, Value.ref zpa_36])), (zca_36, Sum.inl (cI, nS, Sum.inl ocfq_63)), (zpa_36, Sum.inl (cI, 0, Sum.inl (fun _ => 0))), (co, Sum.inr (1, [Value.int xcache, Value.int xpending, Value.long xlow, Value.long xrange, Value.long xcode, Value.long xreadLow, Value.long xreadRange, Value.ref ri, Value.ref ro, Value.ref rw, Value.int xasked])), (zo_44, Sum.inr (7, [Value.int (nI nS), Value.int (nI (ns (les nS (fun _ => 1)) nS)), Value.int 0, Value.ref zca_44, Value.ref zpa_44])), (zca_44, Sum.inl (cI, nS, Sum.inl ocfq_78)), (zpa_44, Sum.inl (cI, 0, Sum.inl (fun _ => 0))), (zk_47, Sum.inl (cI, nS, Sum.inl zkf_47))] H := ⟨hP, hD⟩
        have hP := hPD.1
        have hD := hPD.2
        refine lv_aload_n hx hb d_RC_model_81 rfl (lv_at hl 1 rfl) ?_
        refine va_get (D := (dC, dI)) (ci := 6) (v := .ref ma) (C := "RangeCoders") (T := T_RC) (N := 8) hx hb hg in_RC hown hK hP 0 rfl rfl 1 (by decide) (hg _ k259) (fun _ h9 => h9) rfl d_RC_model_82 ?_
        refine lv_aload_n hx hb d_RC_model_85 rfl (lv_at hl 1 rfl) ?_
        refine va_get (D := (dC, dI)) (ci := 6) (v := .int (nI k)) (C := "RangeCoders") (T := T_RC) (N := 8) hx hb hg in_RC hown hK hP 0 rfl rfl 2 (by decide) (hg _ k260) (fun _ h9 => h9) rfl d_RC_model_86 ?_
        refine lv_aload_n hx hb d_RC_model_89 rfl (lv_at hl 0 rfl) ?_
        refine va_astq hx hb hK hP hD hS 1 1 2 8 rfl rfl rfl rfl (vp_in_nI hk (by decide)) d_RC_model_90 (fun H locs hP hD hS => ?_)
        have hPD : my_PD (dC, dI) vwCl A [(rc, Sum.inr (6, [Value.ref co, Value.ref ma, Value.int (nI k), Value.int fit, Value.int fen, Value.int frd, Value.int fbd, Value.int fir])), (ma, Sum.inl (cM, 8, Sum.inr (Sum.inr (Sum.inr (Sum.inr (va_up mf (nI k).toNatClampNeg (some q_4))))))), (q_4, Sum.inr (8, [Value.ref zk_47, Value.ref zo_36, Value.ref zo_44])), (zo_36, Sum.inr (7, [Value.int (nI nS), Value.int (nI (ns (les nS (fun _ => 1)) nS)), Value.int 0, Value.ref zca_36, Value.ref zpa_36])), (zca_36, Sum.inl (cI, nS, Sum.inl ocfq_63)), (zpa_36, Sum.inl (cI, 0, Sum.inl (fun _ => 0))), (co, Sum.inr (1, [Value.int xcache, Value.int xpending, Value.long xlow, Value.long xrange, Value.long xcode, Value.long xreadLow, Value.long xreadRange, Value.ref ri, Value.ref ro, Value.ref rw, Value.int xasked])), (zo_44, Sum.inr (7, [Value.int (nI nS), Value.int (nI (ns (les nS (fun _ => 1)) nS)), Value.int 0, Value.ref zca_44, Value.ref zpa_44])), (zca_44, Sum.inl (cI, nS, Sum.inl ocfq_78)), (zpa_44, Sum.inl (cI, 0, Sum.inl (fun _ => 0))), (zk_47, Sum.inl (cI, nS, Sum.inl zkf_47))] H := ⟨hP, hD⟩
        have hP := hPD.1
        have hD := hPD.2
        rw [nI_clamp (show k < 2 ^ 31 by omega)] at hP hD
        refine lv_aload_n hx hb d_RC_model_91 rfl (lv_at hl 1 rfl) ?_
        refine lv_dup hx hb d_RC_model_92 rfl ?_
        refine va_get (D := (dC, dI)) (ci := 6) (v := .int (nI k)) (C := "RangeCoders") (T := T_RC) (N := 8) hx hb hg in_RC hown hK hP 0 rfl rfl 2 (by decide) (hg _ k260) (fun _ h9 => h9) rfl d_RC_model_93 ?_
        refine lv_iconst (v := 1) hx hb d_RC_model_96 (by decide) ?_
        refine lv_iadd hx hb d_RC_model_97 ?_
        refine lv_topi (fun v_5 ev_5 => ?_)
        have z9 : v_5 = nI (k + 1) := by subst_vars; exact nI_1 _
        subst z9
        refine va_put (D := (dC, dI)) (ci := 6) (v := .int (nI (k + 1))) (ty := .int) (C := "RangeCoders") (T := T_RC) (N := 8) hx hb hg in_RC t_RC o_RC n_RC hown hK hP hD hS 0 rfl rfl 2 (by decide) (hg _ k260) (fun _ h9 => h9) rfl (by decide +kernel) rfl rfl (Nat.le_of_ble_eq_true rfl) d_RC_model_98 (fun H locs hP hD hS => ?_)
        have hPD : my_PD (dC, dI) vwCl A [(rc, Sum.inr (6, [Value.ref co, Value.ref ma, Value.int (nI (k + 1)), Value.int fit, Value.int fen, Value.int frd, Value.int fbd, Value.int fir])), (ma, Sum.inl (cM, 8, Sum.inr (Sum.inr (Sum.inr (Sum.inr (va_up mf k (some q_4))))))), (q_4, Sum.inr (8, [Value.ref zk_47, Value.ref zo_36, Value.ref zo_44])), (zo_36, Sum.inr (7, [Value.int (nI nS), Value.int (nI (ns (les nS (fun _ => 1)) nS)), Value.int 0, Value.ref zca_36, Value.ref zpa_36])), (zca_36, Sum.inl (cI, nS, Sum.inl ocfq_63)), (zpa_36, Sum.inl (cI, 0, Sum.inl (fun _ => 0))), (co, Sum.inr (1, [Value.int xcache, Value.int xpending, Value.long xlow, Value.long xrange, Value.long xcode, Value.long xreadLow, Value.long xreadRange, Value.ref ri, Value.ref ro, Value.ref rw, Value.int xasked])), (zo_44, Sum.inr (7, [Value.int (nI nS), Value.int (nI (ns (les nS (fun _ => 1)) nS)), Value.int 0, Value.ref zca_44, Value.ref zpa_44])), (zca_44, Sum.inl (cI, nS, Sum.inl ocfq_78)), (zpa_44, Sum.inl (cI, 0, Sum.inl (fun _ => 0))), (zk_47, Sum.inl (cI, nS, Sum.inl zkf_47))] H := ⟨hP, hD⟩
        have hP := hPD.1
        have hD := hPD.2
        refine lv_aload_n hx hb d_RC_model_101 rfl (lv_at hl 1 rfl) ?_
        refine va_get (D := (dC, dI)) (ci := 6) (v := .int (nI (k + 1))) (C := "RangeCoders") (T := T_RC) (N := 8) hx hb hg in_RC hown hK hP 0 rfl rfl 2 (by decide) (hg _ k260) (fun _ h9 => h9) rfl d_RC_model_102 ?_
        refine lv_iconst (v := 1) hx hb d_RC_model_105 (by decide) ?_
        refine lv_isub hx hb d_RC_model_106 ?_
        refine lv_topi (fun v_6 ev_6 => ?_)
        exact my_iretg (v := v_6) hx hb hr (rfl) hlocks hQ hK hS (q_4, zk_47, zkf_47, zo_36, zca_36, zpa_36, ocfq_63, zo_44, zca_44, zpa_44, ocfq_78) (show (0 + 1 + d_36 + d_44 + d_47) + 0 ≤ 1600 by omega) (show (0 + 3 + d_36 + d_44 + d_47) + 0 ≤ 1600 by omega) (⟨by subst_vars; exact nI_pred k, hf_47, hf_63, hf_78⟩) (hP.sub [0, 1, 6, 2, 10, 3, 4, 5, 7, 8, 9] rfl) (hD.sub [0, 1, 6, 2, 10, 3, 4, 5, 7, 8, 9] (by decide +kernel) rfl) d_RC_model_107
      · exact absurd (show nI k < nI 8 from nI_lt hk (by omega)) c_3
    · exact absurd (show nI nS ≤ nI 64 from nI_le hns (by omega)) c_2
set_option maxHeartbeats 2000000 in
set_option maxRecDepth 100000 in
theorem f_RC_modelB_NoCarries (l : Launch) (dC : Nat → ClassId) (dI : Nat → Nat → Nat) (cI cM cO : ClassId) (sz : Nat) (sl : Nat) (rc : Nat) (ma : Nat) (k : Nat) (fit : Int32) (fen : Int32) (frd : Int32) (fbd : Int32) (fir : Int32) (mf : Nat → Option Nat) (co : Nat) (xlow : Int64) (xrange : Int64) (xcode : Int64) (xreadLow : Int64) (xreadRange : Int64) (ri : Nat) (ro : Nat) (rw : Nat) (xasked : Int32) (nS : Nat) (hns2 : 2 ≤ nS) (hns : nS ≤ 64) (hk : k < 8) : MetIg l y_RC_model (Cond.code y_RC_model prog_1_method_2_code 3 (some .int) :: gw) ({ frames := 3, cells := 1600, slots := 1600, locals := 66 } : Room) (dC, dI) vwCl (kT cI cM cO) [Value.ref rc, Value.int (nI nS)] [(rc, Sum.inr (6, [Value.ref co, Value.ref ma, Value.int (nI k), Value.int fit, Value.int fen, Value.int frd, Value.int fbd, Value.int fir])), (ma, Sum.inl (cM, 8, Sum.inr (Sum.inr (Sum.inr (Sum.inr mf))))), (co, Sum.inr (2, [Value.long xlow, Value.long xrange, Value.long xcode, Value.long xreadLow, Value.long xreadRange, Value.ref ri, Value.ref ro, Value.ref rw, Value.int xasked]))] sz sl (fun (r : Int32) (u : Nat × Nat × (Nat → Int32) × Nat × Nat × Nat × (Nat → Int32) × Nat × Nat × Nat × (Nat → Int32)) => r = nI k ∧ tbI u.2.2.1 nS (fun _ => 1) ∧ tbI u.2.2.2.2.2.2.1 nS (les nS (fun _ => 1)) ∧ tbI u.2.2.2.2.2.2.2.2.2.2 nS (les nS (fun _ => 1))) (fun (u : Nat × Nat × (Nat → Int32) × Nat × Nat × Nat × (Nat → Int32) × Nat × Nat × Nat × (Nat → Int32)) => [(rc, Sum.inr (6, [Value.ref co, Value.ref ma, Value.int (nI (k + 1)), Value.int fit, Value.int fen, Value.int frd, Value.int fbd, Value.int fir])), (ma, Sum.inl (cM, 8, Sum.inr (Sum.inr (Sum.inr (Sum.inr (va_up mf k (some u.1))))))), (co, Sum.inr (2, [Value.long xlow, Value.long xrange, Value.long xcode, Value.long xreadLow, Value.long xreadRange, Value.ref ri, Value.ref ro, Value.ref rw, Value.int xasked])), (u.1, Sum.inr (8, [Value.ref u.2.1, Value.ref u.2.2.2.1, Value.ref u.2.2.2.2.2.2.2.1])), (u.2.1, Sum.inl (cI, nS, Sum.inl u.2.2.1)), (u.2.2.2.1, Sum.inr (7, [Value.int (nI nS), Value.int (nI (ns (les nS (fun _ => 1)) nS)), Value.int 0, Value.ref u.2.2.2.2.1, Value.ref u.2.2.2.2.2.1])), (u.2.2.2.2.1, Sum.inl (cI, nS, Sum.inl u.2.2.2.2.2.2.1)), (u.2.2.2.2.2.1, Sum.inl (cI, 0, Sum.inl (fun _ => 0))), (u.2.2.2.2.2.2.2.1, Sum.inr (7, [Value.int (nI nS), Value.int (nI (ns (les nS (fun _ => 1)) nS)), Value.int 0, Value.ref u.2.2.2.2.2.2.2.2.1, Value.ref u.2.2.2.2.2.2.2.2.2.1])), (u.2.2.2.2.2.2.2.2.1, Sum.inl (cI, nS, Sum.inl u.2.2.2.2.2.2.2.2.2.2)), (u.2.2.2.2.2.2.2.2.2.1, Sum.inl (cI, 0, Sum.inl (fun _ => 0)))]) 1600 (fun (u : Nat × Nat × (Nat → Int32) × Nat × Nat × Nat × (Nat → Int32) × Nat × Nat × Nat × (Nat → Int32)) => 0) := by
  refine my_ofIg (cc := prog_1_method_2_code) (n := 3) (ret := (some .int)) (by decide) rfl (Nat.le_of_ble_eq_true rfl) ?_
  intro p e s m args below meth c R Q A ls H locs hx hb hr hts hown hlocks hml hnm hR hQ hA hl hP hK hN hD hS
  have hg : ∀ w ∈ gw, w.before args s = true := fun w h => hts w (List.mem_cons_of_mem _ h)
  have hown : s.vm.findClass "RangeCoders" = some m.cls := hown
  have hl : lv_has ls 3 [(0, Value.ref rc), (1, Value.int (nI nS))] := hl
  have hb1 : bd (fun _ => 1) nS 4095 := fun _ _ => (by decide : 1 ≤ 4095)
  have hlv6 := lev_63 nS
  refine lv_iload_n hx hb d_RC_model_0 rfl (lv_at hl 1 rfl) ?_
  refine lv_iconst (v := 2) hx hb d_RC_model_1 (by decide) ?_
  refine lv_icmp_lt (tgt := 11) hx hb d_RC_model_2 (by decide) (fun c_1 => ?_) (fun c_1 => ?_)
  · exact absurd c_1 (show ¬ nI nS < nI 2 from nI_nlt hns2 (by omega))
  · refine lv_iload_n hx hb d_RC_model_5 rfl (lv_at hl 1 rfl) ?_
    refine lv_bipush (v := 64) hx hb d_RC_model_6 (by decide) ?_
    refine lv_icmp_le (tgt := 14) hx hb d_RC_model_8 (by decide) (fun c_2 => ?_) (fun c_2 => ?_)
    · refine lv_aload_n hx hb d_RC_model_14 rfl (lv_at hl 0 rfl) ?_
      refine va_get (D := (dC, dI)) (ci := 6) (v := .int (nI k)) (C := "RangeCoders") (T := T_RC) (N := 8) hx hb hg in_RC hown hK hP 0 rfl rfl 2 (by decide) (hg _ k260) (fun _ h9 => h9) rfl d_RC_model_15 ?_
      refine lv_bipush (v := 8) hx hb d_RC_model_18 (by decide) ?_
      refine lv_icmp_lt (tgt := 26) hx hb d_RC_model_20 (by decide) (fun c_3 => ?_) (fun c_3 => ?_)
      · refine va_new (ci := 8) (fs := [Value.null, Value.null, Value.null]) (C := "RangeCoders$Model") (T := T_Model) (N := 3) hx hb hg in_Model t_Model o_Model hown (hg _ k25) (hg _ k287) (hg _ k13) hK hP hD hS hA rfl (fun j hj => by rcases (show j = 0 ∨ j = 1 ∨ j = 2 by omega) with rfl | rfl | rfl <;> rfl) (by rw [hR]; exact (show 0 + 1 ≤ 1600 by omega)) (by rw [hR]; exact (show 0 + 3 ≤ 1600 by omega)) d_RC_model_26 (fun q_4 H hP hD hS => ?_)
        have hPD : my_PD (dC, dI) vwCl A [(rc, Sum.inr (6, [Value.ref co, Value.ref ma, Value.int (nI k), Value.int fit, Value.int fen, Value.int frd, Value.int fbd, Value.int fir])), (ma, Sum.inl (cM, 8, Sum.inr (Sum.inr (Sum.inr (Sum.inr mf))))), (co, Sum.inr (2, [Value.long xlow, Value.long xrange, Value.long xcode, Value.long xreadLow, Value.long xreadRange, Value.ref ri, Value.ref ro, Value.ref rw, Value.int xasked])), (q_4, Sum.inr (8, [Value.null, Value.null, Value.null]))] H := ⟨hP, hD⟩
        have hP := hPD.1
        have hD := hPD.2
        refine lv_dup hx hb d_RC_model_29 rfl ?_
        refine lv_iload_n hx hb d_RC_model_30 rfl (lv_at hl 1 rfl) ?_
        refine lv_aload_n hx hb d_RC_model_31 rfl (lv_at hl 0 rfl) ?_
        refine va_get (D := (dC, dI)) (ci := 6) (v := .ref co) (C := "RangeCoders") (T := T_RC) (N := 8) hx hb hg in_RC hown hK hP 0 rfl rfl 0 (by decide) (hg _ k258) (fun _ h9 => h9) rfl d_RC_model_32 ?_
        refine lv_iload_n hx hb d_RC_model_35 rfl (lv_at hl 1 rfl) ?_
        refine my_cqg (wr := [(rc, Sum.inr (6, [Value.ref co, Value.ref ma, Value.int (nI k), Value.int fit, Value.int fen, Value.int frd, Value.int fbd, Value.int fir])), (ma, Sum.inl (cM, 8, Sum.inr (Sum.inr (Sum.inr (Sum.inr mf))))), (q_4, Sum.inr (8, [Value.null, Value.null, Value.null]))]) (va_runU (As := [Value.int (nI nS)]) (rest := [Value.int (nI nS), Value.ref q_4, Value.ref q_4]) ⟨hx, hb, hml, hown, hts⟩ (f_NoCarries_newOdds l dC dI cI cM cO H.size (hSl H) co xlow xrange xcode xreadLow xreadRange ri ro rw xasked nS (by first | assumption | omega) (by first | assumption | omega)) (va_cwU 1 hts (my_gU k288 k290 k323 k289 k3 k330) rfl rfl rfl rfl (by decide +kernel) ⟨by rw [hR]; exact Nat.le_of_ble_eq_true rfl, by rw [hR]; exact Nat.le_of_ble_eq_true rfl⟩) (my_preVg hK hN (hP.sub [2] rfl) (hD.sub [2] (by decide +kernel) rfl) 0 rfl rfl) rfl rfl hl.1 rfl (lv_room (Nat.le_of_ble_eq_true rfl)) d_RC_model_36 ⟨by rw [hR]; exact (show (0 + 1) + 700 ≤ 1600 by omega), by rw [hR]; exact (show (0 + 3) + 700 ≤ 1600 by omega)⟩) hP hD hS hA [2] [0, 1, 3] rfl rfl (by decide +kernel) (by decide +kernel) (fun r_36 u9 d_36 H locs hd_36 hw_36 hP hD hS => ?_)
        obtain ⟨zo_36, zca_36, zpa_36⟩ := u9
        have hr_36 : r_36 = some zo_36 := hw_36
        have hd_36 : d_36 + 0 ≤ 700 := hd_36
        have hPD : my_PD (dC, dI) vwCl A [(rc, Sum.inr (6, [Value.ref co, Value.ref ma, Value.int (nI k), Value.int fit, Value.int fen, Value.int frd, Value.int fbd, Value.int fir])), (ma, Sum.inl (cM, 8, Sum.inr (Sum.inr (Sum.inr (Sum.inr mf))))), (q_4, Sum.inr (8, [Value.null, Value.null, Value.null])), (co, Sum.inr (2, [Value.long xlow, Value.long xrange, Value.long xcode, Value.long xreadLow, Value.long xreadRange, Value.ref ri, Value.ref ro, Value.ref rw, Value.int xasked])), (zo_36, Sum.inr (7, [Value.int (nI nS), Value.int 0, Value.int 0, Value.ref zca_36, Value.ref zpa_36])), (zca_36, Sum.inl (cI, nS, Sum.inl (fun _ => 0))), (zpa_36, Sum.inl (cI, 0, Sum.inl (fun _ => 0)))] H := ⟨hP, hD⟩
        have hP := hPD.1
        have hD := hPD.2
        subst hr_36
        refine W.eq (g2 := F0 m 39 ls [Value.ref zo_36, Value.int (nI nS), Value.ref q_4, Value.ref q_4]) rfl ?_
        refine lv_aload_n hx hb d_RC_model_39 rfl (lv_at hl 0 rfl) ?_
        refine va_get (D := (dC, dI)) (ci := 6) (v := .ref co) (C := "RangeCoders") (T := T_RC) (N := 8) hx hb hg in_RC hown hK hP 0 rfl rfl 0 (by decide) (hg _ k258) (fun _ h9 => h9) rfl d_RC_model_40 ?_
        refine lv_iload_n hx hb d_RC_model_43 rfl (lv_at hl 1 rfl) ?_
        refine my_cqg (wr := [(rc, Sum.inr (6, [Value.ref co, Value.ref ma, Value.int (nI k), Value.int fit, Value.int fen, Value.int frd, Value.int fbd, Value.int fir])), (ma, Sum.inl (cM, 8, Sum.inr (Sum.inr (Sum.inr (Sum.inr mf))))), (q_4, Sum.inr (8, [Value.null, Value.null, Value.null])), (zo_36, Sum.inr (7, [Value.int (nI nS), Value.int 0, Value.int 0, Value.ref zca_36, Value.ref zpa_36])), (zca_36, Sum.inl (cI, nS, Sum.inl (fun _ => 0))), (zpa_36, Sum.inl (cI, 0, Sum.inl (fun _ => 0)))]) (va_runU (As := [Value.int (nI nS)]) (rest := [Value.ref zo_36, Value.int (nI nS), Value.ref q_4, Value.ref q_4]) ⟨hx, hb, hml, hown, hts⟩ (f_NoCarries_newOdds l dC dI cI cM cO H.size (hSl H) co xlow xrange xcode xreadLow xreadRange ri ro rw xasked nS (by first | assumption | omega) (by first | assumption | omega)) (va_cwU 1 hts (my_gU k288 k290 k323 k289 k3 k330) rfl rfl rfl rfl (by decide +kernel) ⟨by rw [hR]; exact Nat.le_of_ble_eq_true rfl, by rw [hR]; exact Nat.le_of_ble_eq_true rfl⟩) (my_preVg hK hN (hP.sub [3] rfl) (hD.sub [3] (by decide +kernel) rfl) 0 rfl rfl) rfl rfl hl.1 rfl (lv_room (Nat.le_of_ble_eq_true rfl)) d_RC_model_44 ⟨by rw [hR]; exact (show (0 + 1 + d_36) + 700 ≤ 1600 by omega), by rw [hR]; exact (show (0 + 3 + d_36) + 700 ≤ 1600 by omega)⟩) hP hD hS hA [3] [0, 1, 2, 4, 5, 6] rfl rfl (by decide +kernel) (by decide +kernel) (fun r_44 u9 d_44 H locs hd_44 hw_44 hP hD hS => ?_)
        obtain ⟨zo_44, zca_44, zpa_44⟩ := u9
        have hr_44 : r_44 = some zo_44 := hw_44
        have hd_44 : d_44 + 0 ≤ 700 := hd_44
        have hPD : my_PD (dC, dI) vwCl A [(rc, Sum.inr (6, [Value.ref co, Value.ref ma, Value.int (nI k), Value.int fit, Value.int fen, Value.int frd, Value.int fbd, Value.int fir])), (ma, Sum.inl (cM, 8, Sum.inr (Sum.inr (Sum.inr (Sum.inr mf))))), (q_4, Sum.inr (8, [Value.null, Value.null, Value.null])), (zo_36, Sum.inr (7, [Value.int (nI nS), Value.int 0, Value.int 0, Value.ref zca_36, Value.ref zpa_36])), (zca_36, Sum.inl (cI, nS, Sum.inl (fun _ => 0))), (zpa_36, Sum.inl (cI, 0, Sum.inl (fun _ => 0))), (co, Sum.inr (2, [Value.long xlow, Value.long xrange, Value.long xcode, Value.long xreadLow, Value.long xreadRange, Value.ref ri, Value.ref ro, Value.ref rw, Value.int xasked])), (zo_44, Sum.inr (7, [Value.int (nI nS), Value.int 0, Value.int 0, Value.ref zca_44, Value.ref zpa_44])), (zca_44, Sum.inl (cI, nS, Sum.inl (fun _ => 0))), (zpa_44, Sum.inl (cI, 0, Sum.inl (fun _ => 0)))] H := ⟨hP, hD⟩
        have hP := hPD.1
        have hD := hPD.2
        subst hr_44
        refine W.eq (g2 := F0 m 47 ls [Value.ref zo_44, Value.ref zo_36, Value.int (nI nS), Value.ref q_4, Value.ref q_4]) rfl ?_
        refine my_cvg (wr := [(rc, Sum.inr (6, [Value.ref co, Value.ref ma, Value.int (nI k), Value.int fit, Value.int fen, Value.int frd, Value.int fbd, Value.int fir])), (ma, Sum.inl (cM, 8, Sum.inr (Sum.inr (Sum.inr (Sum.inr mf))))), (zo_36, Sum.inr (7, [Value.int (nI nS), Value.int 0, Value.int 0, Value.ref zca_36, Value.ref zpa_36])), (zca_36, Sum.inl (cI, nS, Sum.inl (fun _ => 0))), (zpa_36, Sum.inl (cI, 0, Sum.inl (fun _ => 0))), (co, Sum.inr (2, [Value.long xlow, Value.long xrange, Value.long xcode, Value.long xreadLow, Value.long xreadRange, Value.ref ri, Value.ref ro, Value.ref rw, Value.int xasked])), (zo_44, Sum.inr (7, [Value.int (nI nS), Value.int 0, Value.int 0, Value.ref zca_44, Value.ref zpa_44])), (zca_44, Sum.inl (cI, nS, Sum.inl (fun _ => 0))), (zpa_44, Sum.inl (cI, 0, Sum.inl (fun _ => 0)))]) (va_runI (As := [Value.int (nI nS), Value.ref zo_36, Value.ref zo_44]) (rest := [Value.ref q_4]) ⟨hx, hb, hml, hown, hts⟩ (f_Model_init l dC dI cI cM cO H.size (hSl H) q_4 nS zo_36 zo_44 (by first | assumption | omega)) (cwI 3 hts (my_gC k335) rfl rfl rfl (hg _ k13) (hg _ k333) (hg _ k334) rfl (by decide +kernel) ⟨by rw [hR]; exact Nat.le_of_ble_eq_true rfl, by rw [hR]; exact Nat.le_of_ble_eq_true rfl⟩) (my_preg (As := [Value.ref q_4, Value.int (nI nS), Value.ref zo_36, Value.ref zo_44]) hK hN (hP.sub [2] rfl) (hD.sub [2] (by decide +kernel) rfl)) rfl rfl hl.1 rfl (lv_room (Nat.le_of_ble_eq_true rfl)) d_RC_model_47 ⟨by rw [hR]; exact (show (0 + 1 + d_36 + d_44) + 100 ≤ 1600 by omega), by rw [hR]; exact (show (0 + 3 + d_36 + d_44) + 100 ≤ 1600 by omega)⟩) hP hD hS hA [2] [0, 1, 3, 4, 5, 6, 7, 8, 9] rfl rfl (by decide +kernel) (by decide +kernel) (fun u9 d_47 H locs hd_47 hw_47 hP hD hS => ?_)
        obtain ⟨zk_47, zkf_47⟩ := u9
        have hf_47 : tbI zkf_47 nS (fun _ => 1) := hw_47
        have hd_47 : d_47 + 0 ≤ 100 := hd_47
        have hPD : my_PD (dC, dI) vwCl A [(rc, Sum.inr (6, [Value.ref co, Value.ref ma, Value.int (nI k), Value.int fit, Value.int fen, Value.int frd, Value.int fbd, Value.int fir])), (ma, Sum.inl (cM, 8, Sum.inr (Sum.inr (Sum.inr (Sum.inr mf))))), (zo_36, Sum.inr (7, [Value.int (nI nS), Value.int 0, Value.int 0, Value.ref zca_36, Value.ref zpa_36])), (zca_36, Sum.inl (cI, nS, Sum.inl (fun _ => 0))), (zpa_36, Sum.inl (cI, 0, Sum.inl (fun _ => 0))), (co, Sum.inr (2, [Value.long xlow, Value.long xrange, Value.long xcode, Value.long xreadLow, Value.long xreadRange, Value.ref ri, Value.ref ro, Value.ref rw, Value.int xasked])), (zo_44, Sum.inr (7, [Value.int (nI nS), Value.int 0, Value.int 0, Value.ref zca_44, Value.ref zpa_44])), (zca_44, Sum.inl (cI, nS, Sum.inl (fun _ => 0))), (zpa_44, Sum.inl (cI, 0, Sum.inl (fun _ => 0))), (q_4, Sum.inr (8, [Value.ref zk_47, Value.ref zo_36, Value.ref zo_44])), (zk_47, Sum.inl (cI, nS, Sum.inl zkf_47))] H := ⟨hP, hD⟩
        have hP := hPD.1
        have hD := hPD.2
        refine lv_astore_n (lv' := [(2, Value.ref q_4), (0, Value.ref rc), (1, Value.int (nI nS))]) hx hb d_RC_model_50 rfl hl (by decide) rfl (fun ls hl => ?_)
        refine lv_aload_n hx hb d_RC_model_51 rfl (lv_at hl 1 rfl) ?_
        refine va_get (D := (dC, dI)) (ci := 6) (v := .ref co) (C := "RangeCoders") (T := T_RC) (N := 8) hx hb hg in_RC hown hK hP 0 rfl rfl 0 (by decide) (hg _ k258) (fun _ h9 => h9) rfl d_RC_model_52 ?_
        refine lv_aload_n hx hb d_RC_model_55 rfl (lv_at hl 0 rfl) ?_
        refine va_get (D := (dC, dI)) (ci := 8) (v := .ref zo_36) (C := "RangeCoders$Model") (T := T_Model) (N := 3) hx hb hg in_Model hown hK hP 9 rfl rfl 1 (by decide) (hg _ k343) (fun _ h9 => h9) rfl d_RC_model_56 ?_
        refine lv_aload_n hx hb d_RC_model_59 rfl (lv_at hl 0 rfl) ?_
        refine va_get (D := (dC, dI)) (ci := 8) (v := .ref zk_47) (C := "RangeCoders$Model") (T := T_Model) (N := 3) hx hb hg in_Model hown hK hP 9 rfl rfl 0 (by decide) (hg _ k341) (fun _ h9 => h9) rfl d_RC_model_60 ?_
        refine my_cv (wr := [(rc, Sum.inr (6, [Value.ref co, Value.ref ma, Value.int (nI k), Value.int fit, Value.int fen, Value.int frd, Value.int fbd, Value.int fir])), (ma, Sum.inl (cM, 8, Sum.inr (Sum.inr (Sum.inr (Sum.inr mf))))), (zo_44, Sum.inr (7, [Value.int (nI nS), Value.int 0, Value.int 0, Value.ref zca_44, Value.ref zpa_44])), (zca_44, Sum.inl (cI, nS, Sum.inl (fun _ => 0))), (zpa_44, Sum.inl (cI, 0, Sum.inl (fun _ => 0))), (q_4, Sum.inr (8, [Value.ref zk_47, Value.ref zo_36, Value.ref zo_44]))]) (va_runU (As := [Value.ref zo_36, Value.ref zk_47]) (rest := []) ⟨hx, hb, hml, hown, hts⟩ (f_NoCarries_prepare l dC dI cI cM cO H.size co xlow xrange xcode xreadLow xreadRange ri ro rw xasked zo_36 (nI nS) 0 zca_36 zpa_36 nS (fun _ => 0) 0 (fun _ => 0) 0 zk_47 zkf_47 (fun _ => 1) (hns) (by decide) (hf_47) (hb1)) (va_cwA 2 hts (my_gU k353 k355 k379 k365 k4 k366) rfl rfl rfl (hN.1 _ j354 rfl) (by decide +kernel) ⟨by rw [hR]; exact Nat.le_of_ble_eq_true rfl, by rw [hR]; exact Nat.le_of_ble_eq_true rfl⟩) (my_preV hK hN (hP.sub [5, 2, 3, 4, 10] rfl) (hD.sub [5, 2, 3, 4, 10] (by decide +kernel) rfl) 0 rfl rfl) rfl rfl hl.1 rfl (lv_room (Nat.le_of_ble_eq_true rfl)) d_RC_model_63 ⟨by rw [hR]; exact (show (0 + 1 + d_36 + d_44 + d_47) + 0 ≤ 1600 by omega), by rw [hR]; exact (show (0 + 3 + d_36 + d_44 + d_47) + 0 ≤ 1600 by omega)⟩) hP hD hS hA [5, 2, 3, 4, 10] [0, 1, 6, 7, 8, 9] rfl rfl (by decide +kernel) (by decide +kernel) (fun u9 H locs hw_63 hP hD hS => ?_)
        obtain ⟨ocfq_63, rfl⟩ : ∃ z, z = u9 := ⟨_, rfl⟩
        have hf_63 : tbI ocfq_63 nS (les nS (fun _ => 1)) := hw_63
        have hPD : my_PD (dC, dI) vwCl A [(rc, Sum.inr (6, [Value.ref co, Value.ref ma, Value.int (nI k), Value.int fit, Value.int fen, Value.int frd, Value.int fbd, Value.int fir])), (ma, Sum.inl (cM, 8, Sum.inr (Sum.inr (Sum.inr (Sum.inr mf))))), (zo_44, Sum.inr (7, [Value.int (nI nS), Value.int 0, Value.int 0, Value.ref zca_44, Value.ref zpa_44])), (zca_44, Sum.inl (cI, nS, Sum.inl (fun _ => 0))), (zpa_44, Sum.inl (cI, 0, Sum.inl (fun _ => 0))), (q_4, Sum.inr (8, [Value.ref zk_47, Value.ref zo_36, Value.ref zo_44])), (co, Sum.inr (2, [Value.long xlow, Value.long xrange, Value.long xcode, Value.long xreadLow, Value.long xreadRange, Value.ref ri, Value.ref ro, Value.ref rw, Value.int xasked])), (zo_36, Sum.inr (7, [Value.int (nI nS), Value.int (nI (ns (les nS (fun _ => 1)) nS)), Value.int 0, Value.ref zca_36, Value.ref zpa_36])), (zca_36, Sum.inl (cI, nS, Sum.inl ocfq_63)), (zpa_36, Sum.inl (cI, 0, Sum.inl (fun _ => 0))), (zk_47, Sum.inl (cI, nS, Sum.inl zkf_47))] H := ⟨hP, hD⟩
        have hP := hPD.1
        have hD := hPD.2
        refine lv_aload_n hx hb d_RC_model_66 rfl (lv_at hl 1 rfl) ?_
        refine va_get (D := (dC, dI)) (ci := 6) (v := .ref co) (C := "RangeCoders") (T := T_RC) (N := 8) hx hb hg in_RC hown hK hP 0 rfl rfl 0 (by decide) (hg _ k258) (fun _ h9 => h9) rfl d_RC_model_67 ?_
        refine lv_aload_n hx hb d_RC_model_70 rfl (lv_at hl 0 rfl) ?_
        refine va_get (D := (dC, dI)) (ci := 8) (v := .ref zo_44) (C := "RangeCoders$Model") (T := T_Model) (N := 3) hx hb hg in_Model hown hK hP 5 rfl rfl 2 (by decide) (hg _ k345) (fun _ h9 => h9) rfl d_RC_model_71 ?_
        refine lv_aload_n hx hb d_RC_model_74 rfl (lv_at hl 0 rfl) ?_
        refine va_get (D := (dC, dI)) (ci := 8) (v := .ref zk_47) (C := "RangeCoders$Model") (T := T_Model) (N := 3) hx hb hg in_Model hown hK hP 5 rfl rfl 0 (by decide) (hg _ k341) (fun _ h9 => h9) rfl d_RC_model_75 ?_
        refine my_cv (wr := [(rc, Sum.inr (6, [Value.ref co, Value.ref ma, Value.int (nI k), Value.int fit, Value.int fen, Value.int frd, Value.int fbd, Value.int fir])), (ma, Sum.inl (cM, 8, Sum.inr (Sum.inr (Sum.inr (Sum.inr mf))))), (q_4, Sum.inr (8, [Value.ref zk_47, Value.ref zo_36, Value.ref zo_44])), (zo_36, Sum.inr (7, [Value.int (nI nS), Value.int (nI (ns (les nS (fun _ => 1)) nS)), Value.int 0, Value.ref zca_36, Value.ref zpa_36])), (zca_36, Sum.inl (cI, nS, Sum.inl ocfq_63)), (zpa_36, Sum.inl (cI, 0, Sum.inl (fun _ => 0)))]) (va_runU (As := [Value.ref zo_44, Value.ref zk_47]) (rest := []) ⟨hx, hb, hml, hown, hts⟩ (f_NoCarries_prepare l dC dI cI cM cO H.size co xlow xrange xcode xreadLow xreadRange ri ro rw xasked zo_44 (nI nS) 0 zca_44 zpa_44 nS (fun _ => 0) 0 (fun _ => 0) 0 zk_47 zkf_47 (fun _ => 1) (hns) (by decide) (hf_47) (hb1)) (va_cwA 2 hts (my_gU k353 k355 k379 k365 k4 k366) rfl rfl rfl (hN.1 _ j354 rfl) (by decide +kernel) ⟨by rw [hR]; exact Nat.le_of_ble_eq_true rfl, by rw [hR]; exact Nat.le_of_ble_eq_true rfl⟩) (my_preV hK hN (hP.sub [6, 2, 3, 4, 10] rfl) (hD.sub [6, 2, 3, 4, 10] (by decide +kernel) rfl) 0 rfl rfl) rfl rfl hl.1 rfl (lv_room (Nat.le_of_ble_eq_true rfl)) d_RC_model_78 ⟨by rw [hR]; exact (show (0 + 1 + d_36 + d_44 + d_47) + 0 ≤ 1600 by omega), by rw [hR]; exact (show (0 + 3 + d_36 + d_44 + d_47) + 0 ≤ 1600 by omega)⟩) hP hD hS hA [6, 2, 3, 4, 10] [0, 1, 5, 7, 8, 9] rfl rfl (by decide +kernel) (by decide +kernel) (fun u9 H locs hw_78 hP hD hS => ?_)
        obtain ⟨ocfq_78, rfl⟩ : ∃ z, z = u9 := ⟨_, rfl⟩
        have hf_78 : tbI ocfq_78 nS (les nS (fun _ => 1)) := hw_78
        have hPD : my_PD (dC, dI) vwCl A [(rc, Sum.inr (6, [Value.ref co, Value.ref ma, Value.int (nI k), Value.int fit, Value.int fen, Value.int frd, Value.int fbd, Value.int fir])), (ma, Sum.inl (cM, 8, Sum.inr (Sum.inr (Sum.inr (Sum.inr mf))))), (q_4, Sum.inr (8, [Value.ref zk_47, Value.ref zo_36, Value.ref zo_44])), (zo_36, Sum.inr (7, [Value.int (nI nS), Value.int (nI (ns (les nS (fun _ => 1)) nS)), Value.int 0, Value.ref zca_36, Value.ref zpa_36])), (zca_36, Sum.inl (cI, nS, Sum.inl ocfq_63)), (zpa_36, Sum.inl (cI, 0, Sum.inl (fun _ => 0))), (co, Sum.inr (2, [Value.long xlow, Value.long xrange, Value.long xcode, Value.long xreadLow, Value.long xreadRange, Value.ref ri, Value.ref ro, Value.ref rw, Value.int xasked])), (zo_44, Sum.inr (7, [Value.int (nI nS), Value.int (nI (ns (les nS (fun _ => 1)) nS)), Value.int 0, Value.ref zca_44, Value.ref zpa_44])), (zca_44, Sum.inl (cI, nS, Sum.inl ocfq_78)), (zpa_44, Sum.inl (cI, 0, Sum.inl (fun _ => 0))), (zk_47, Sum.inl (cI, nS, Sum.inl zkf_47))] H := ⟨hP, hD⟩
        have hP := hPD.1
        have hD := hPD.2
        refine lv_aload_n hx hb d_RC_model_81 rfl (lv_at hl 1 rfl) ?_
        refine va_get (D := (dC, dI)) (ci := 6) (v := .ref ma) (C := "RangeCoders") (T := T_RC) (N := 8) hx hb hg in_RC hown hK hP 0 rfl rfl 1 (by decide) (hg _ k259) (fun _ h9 => h9) rfl d_RC_model_82 ?_
        refine lv_aload_n hx hb d_RC_model_85 rfl (lv_at hl 1 rfl) ?_
        refine va_get (D := (dC, dI)) (ci := 6) (v := .int (nI k)) (C := "RangeCoders") (T := T_RC) (N := 8) hx hb hg in_RC hown hK hP 0 rfl rfl 2 (by decide) (hg _ k260) (fun _ h9 => h9) rfl d_RC_model_86 ?_
        refine lv_aload_n hx hb d_RC_model_89 rfl (lv_at hl 0 rfl) ?_
        refine va_astq hx hb hK hP hD hS 1 1 2 8 rfl rfl rfl rfl (vp_in_nI hk (by decide)) d_RC_model_90 (fun H locs hP hD hS => ?_)
        have hPD : my_PD (dC, dI) vwCl A [(rc, Sum.inr (6, [Value.ref co, Value.ref ma, Value.int (nI k), Value.int fit, Value.int fen, Value.int frd, Value.int fbd, Value.int fir])), (ma, Sum.inl (cM, 8, Sum.inr (Sum.inr (Sum.inr (Sum.inr (va_up mf (nI k).toNatClampNeg (some q_4))))))), (q_4, Sum.inr (8, [Value.ref zk_47, Value.ref zo_36, Value.ref zo_44])), (zo_36, Sum.inr (7, [Value.int (nI nS), Value.int (nI (ns (les nS (fun _ => 1)) nS)), Value.int 0, Value.ref zca_36, Value.ref zpa_36])), (zca_36, Sum.inl (cI, nS, Sum.inl ocfq_63)), (zpa_36, Sum.inl (cI, 0, Sum.inl (fun _ => 0))), (co, Sum.inr (2, [Value.long xlow, Value.long xrange, Value.long xcode, Value.long xreadLow, Value.long xreadRange, Value.ref ri, Value.ref ro, Value.ref rw, Value.int xasked])), (zo_44, Sum.inr (7, [Value.int (nI nS), Value.int (nI (ns (les nS (fun _ => 1)) nS)), Value.int 0, Value.ref zca_44, Value.ref zpa_44])), (zca_44, Sum.inl (cI, nS, Sum.inl ocfq_78)), (zpa_44, Sum.inl (cI, 0, Sum.inl (fun _ => 0))), (zk_47, Sum.inl (cI, nS, Sum.inl zkf_47))] H := ⟨hP, hD⟩
        have hP := hPD.1
        have hD := hPD.2
        rw [nI_clamp (show k < 2 ^ 31 by omega)] at hP hD
        refine lv_aload_n hx hb d_RC_model_91 rfl (lv_at hl 1 rfl) ?_
        refine lv_dup hx hb d_RC_model_92 rfl ?_
        refine va_get (D := (dC, dI)) (ci := 6) (v := .int (nI k)) (C := "RangeCoders") (T := T_RC) (N := 8) hx hb hg in_RC hown hK hP 0 rfl rfl 2 (by decide) (hg _ k260) (fun _ h9 => h9) rfl d_RC_model_93 ?_
        refine lv_iconst (v := 1) hx hb d_RC_model_96 (by decide) ?_
        refine lv_iadd hx hb d_RC_model_97 ?_
        refine lv_topi (fun v_5 ev_5 => ?_)
        have z9 : v_5 = nI (k + 1) := by subst_vars; exact nI_1 _
        subst z9
        refine va_put (D := (dC, dI)) (ci := 6) (v := .int (nI (k + 1))) (ty := .int) (C := "RangeCoders") (T := T_RC) (N := 8) hx hb hg in_RC t_RC o_RC n_RC hown hK hP hD hS 0 rfl rfl 2 (by decide) (hg _ k260) (fun _ h9 => h9) rfl (by decide +kernel) rfl rfl (Nat.le_of_ble_eq_true rfl) d_RC_model_98 (fun H locs hP hD hS => ?_)
        have hPD : my_PD (dC, dI) vwCl A [(rc, Sum.inr (6, [Value.ref co, Value.ref ma, Value.int (nI (k + 1)), Value.int fit, Value.int fen, Value.int frd, Value.int fbd, Value.int fir])), (ma, Sum.inl (cM, 8, Sum.inr (Sum.inr (Sum.inr (Sum.inr (va_up mf k (some q_4))))))), (q_4, Sum.inr (8, [Value.ref zk_47, Value.ref zo_36, Value.ref zo_44])), (zo_36, Sum.inr (7, [Value.int (nI nS), Value.int (nI (ns (les nS (fun _ => 1)) nS)), Value.int 0, Value.ref zca_36, Value.ref zpa_36])), (zca_36, Sum.inl (cI, nS, Sum.inl ocfq_63)), (zpa_36, Sum.inl (cI, 0, Sum.inl (fun _ => 0))), (co, Sum.inr (2, [Value.long xlow, Value.long xrange, Value.long xcode, Value.long xreadLow, Value.long xreadRange, Value.ref ri, Value.ref ro, Value.ref rw, Value.int xasked])), (zo_44, Sum.inr (7, [Value.int (nI nS), Value.int (nI (ns (les nS (fun _ => 1)) nS)), Value.int 0, Value.ref zca_44, Value.ref zpa_44])), (zca_44, Sum.inl (cI, nS, Sum.inl ocfq_78)), (zpa_44, Sum.inl (cI, 0, Sum.inl (fun _ => 0))), (zk_47, Sum.inl (cI, nS, Sum.inl zkf_47))] H := ⟨hP, hD⟩
        have hP := hPD.1
        have hD := hPD.2
        refine lv_aload_n hx hb d_RC_model_101 rfl (lv_at hl 1 rfl) ?_
        refine va_get (D := (dC, dI)) (ci := 6) (v := .int (nI (k + 1))) (C := "RangeCoders") (T := T_RC) (N := 8) hx hb hg in_RC hown hK hP 0 rfl rfl 2 (by decide) (hg _ k260) (fun _ h9 => h9) rfl d_RC_model_102 ?_
        refine lv_iconst (v := 1) hx hb d_RC_model_105 (by decide) ?_
        refine lv_isub hx hb d_RC_model_106 ?_
        refine lv_topi (fun v_6 ev_6 => ?_)
        exact my_iretg (v := v_6) hx hb hr (rfl) hlocks hQ hK hS (q_4, zk_47, zkf_47, zo_36, zca_36, zpa_36, ocfq_63, zo_44, zca_44, zpa_44, ocfq_78) (show (0 + 1 + d_36 + d_44 + d_47) + 0 ≤ 1600 by omega) (show (0 + 3 + d_36 + d_44 + d_47) + 0 ≤ 1600 by omega) (⟨by subst_vars; exact nI_pred k, hf_47, hf_63, hf_78⟩) (hP.sub [0, 1, 6, 2, 10, 3, 4, 5, 7, 8, 9] rfl) (hD.sub [0, 1, 6, 2, 10, 3, 4, 5, 7, 8, 9] (by decide +kernel) rfl) d_RC_model_107
      · exact absurd (show nI k < nI 8 from nI_lt hk (by omega)) c_3
    · exact absurd (show nI nS ≤ nI 64 from nI_le hns (by omega)) c_2
set_option maxHeartbeats 2000000 in
set_option maxRecDepth 100000 in
theorem f_RC_modelB_Bits (l : Launch) (dC : Nat → ClassId) (dI : Nat → Nat → Nat) (cI cM cO : ClassId) (sz : Nat) (sl : Nat) (rc : Nat) (ma : Nat) (k : Nat) (fit : Int32) (fen : Int32) (frd : Int32) (fbd : Int32) (fir : Int32) (mf : Nat → Option Nat) (co : Nat) (xshift : Int32) (xkeptCode : Int64) (xkeptRange : Int64) (xkeptAsked : Int32) (xcache : Int32) (xpending : Int32) (xlow : Int64) (xrange : Int64) (xcode : Int64) (xreadLow : Int64) (xreadRange : Int64) (ri : Nat) (ro : Nat) (rw : Nat) (xasked : Int32) (nS : Nat) (hns2 : 2 ≤ nS) (hns : nS ≤ 64) (hk : k < 8) : MetIg l y_RC_model (Cond.code y_RC_model prog_1_method_2_code 3 (some .int) :: gw) ({ frames := 3, cells := 1600, slots := 1600, locals := 66 } : Room) (dC, dI) vwCl (kT cI cM cO) [Value.ref rc, Value.int (nI nS)] [(rc, Sum.inr (6, [Value.ref co, Value.ref ma, Value.int (nI k), Value.int fit, Value.int fen, Value.int frd, Value.int fbd, Value.int fir])), (ma, Sum.inl (cM, 8, Sum.inr (Sum.inr (Sum.inr (Sum.inr mf))))), (co, Sum.inr (3, [Value.int xshift, Value.long xkeptCode, Value.long xkeptRange, Value.int xkeptAsked, Value.int xcache, Value.int xpending, Value.long xlow, Value.long xrange, Value.long xcode, Value.long xreadLow, Value.long xreadRange, Value.ref ri, Value.ref ro, Value.ref rw, Value.int xasked]))] sz sl (fun (r : Int32) (u : Nat × Nat × (Nat → Int32) × Nat × Nat × Nat × (Nat → Int32) × Nat × Nat × Nat × (Nat → Int32)) => r = nI k ∧ tbI u.2.2.1 nS (fun _ => 1) ∧ tbI u.2.2.2.2.2.2.1 (2 ^ lev nS) (fun _ => 1024) ∧ tbI u.2.2.2.2.2.2.2.2.2.2 (2 ^ lev nS) (fun _ => 1024)) (fun (u : Nat × Nat × (Nat → Int32) × Nat × Nat × Nat × (Nat → Int32) × Nat × Nat × Nat × (Nat → Int32)) => [(rc, Sum.inr (6, [Value.ref co, Value.ref ma, Value.int (nI (k + 1)), Value.int fit, Value.int fen, Value.int frd, Value.int fbd, Value.int fir])), (ma, Sum.inl (cM, 8, Sum.inr (Sum.inr (Sum.inr (Sum.inr (va_up mf k (some u.1))))))), (co, Sum.inr (3, [Value.int xshift, Value.long xkeptCode, Value.long xkeptRange, Value.int xkeptAsked, Value.int xcache, Value.int xpending, Value.long xlow, Value.long xrange, Value.long xcode, Value.long xreadLow, Value.long xreadRange, Value.ref ri, Value.ref ro, Value.ref rw, Value.int xasked])), (u.1, Sum.inr (8, [Value.ref u.2.1, Value.ref u.2.2.2.1, Value.ref u.2.2.2.2.2.2.2.1])), (u.2.1, Sum.inl (cI, nS, Sum.inl u.2.2.1)), (u.2.2.2.1, Sum.inr (7, [Value.int (nI nS), Value.int (nI (1024 * (2 ^ lev nS))), Value.int 1, Value.ref u.2.2.2.2.1, Value.ref u.2.2.2.2.2.1])), (u.2.2.2.2.1, Sum.inl (cI, (2 ^ lev nS), Sum.inl u.2.2.2.2.2.2.1)), (u.2.2.2.2.2.1, Sum.inl (cI, 0, Sum.inl (fun _ => 0))), (u.2.2.2.2.2.2.2.1, Sum.inr (7, [Value.int (nI nS), Value.int (nI (1024 * (2 ^ lev nS))), Value.int 1, Value.ref u.2.2.2.2.2.2.2.2.1, Value.ref u.2.2.2.2.2.2.2.2.2.1])), (u.2.2.2.2.2.2.2.2.1, Sum.inl (cI, (2 ^ lev nS), Sum.inl u.2.2.2.2.2.2.2.2.2.2)), (u.2.2.2.2.2.2.2.2.2.1, Sum.inl (cI, 0, Sum.inl (fun _ => 0)))]) 1600 (fun (u : Nat × Nat × (Nat → Int32) × Nat × Nat × Nat × (Nat → Int32) × Nat × Nat × Nat × (Nat → Int32)) => 0) := by
  refine my_ofIg (cc := prog_1_method_2_code) (n := 3) (ret := (some .int)) (by decide) rfl (Nat.le_of_ble_eq_true rfl) ?_
  intro p e s m args below meth c R Q A ls H locs hx hb hr hts hown hlocks hml hnm hR hQ hA hl hP hK hN hD hS
  have hg : ∀ w ∈ gw, w.before args s = true := fun w h => hts w (List.mem_cons_of_mem _ h)
  have hown : s.vm.findClass "RangeCoders" = some m.cls := hown
  have hl : lv_has ls 3 [(0, Value.ref rc), (1, Value.int (nI nS))] := hl
  have hb1 : bd (fun _ => 1) nS 4095 := fun _ _ => (by decide : 1 ≤ 4095)
  have hlv6 := lev_63 nS
  refine lv_iload_n hx hb d_RC_model_0 rfl (lv_at hl 1 rfl) ?_
  refine lv_iconst (v := 2) hx hb d_RC_model_1 (by decide) ?_
  refine lv_icmp_lt (tgt := 11) hx hb d_RC_model_2 (by decide) (fun c_1 => ?_) (fun c_1 => ?_)
  · exact absurd c_1 (show ¬ nI nS < nI 2 from nI_nlt hns2 (by omega))
  · refine lv_iload_n hx hb d_RC_model_5 rfl (lv_at hl 1 rfl) ?_
    refine lv_bipush (v := 64) hx hb d_RC_model_6 (by decide) ?_
    refine lv_icmp_le (tgt := 14) hx hb d_RC_model_8 (by decide) (fun c_2 => ?_) (fun c_2 => ?_)
    · refine lv_aload_n hx hb d_RC_model_14 rfl (lv_at hl 0 rfl) ?_
      refine va_get (D := (dC, dI)) (ci := 6) (v := .int (nI k)) (C := "RangeCoders") (T := T_RC) (N := 8) hx hb hg in_RC hown hK hP 0 rfl rfl 2 (by decide) (hg _ k260) (fun _ h9 => h9) rfl d_RC_model_15 ?_
      refine lv_bipush (v := 8) hx hb d_RC_model_18 (by decide) ?_
      refine lv_icmp_lt (tgt := 26) hx hb d_RC_model_20 (by decide) (fun c_3 => ?_) (fun c_3 => ?_)
      · refine va_new (ci := 8) (fs := [Value.null, Value.null, Value.null]) (C := "RangeCoders$Model") (T := T_Model) (N := 3) hx hb hg in_Model t_Model o_Model hown (hg _ k25) (hg _ k287) (hg _ k13) hK hP hD hS hA rfl (fun j hj => by rcases (show j = 0 ∨ j = 1 ∨ j = 2 by omega) with rfl | rfl | rfl <;> rfl) (by rw [hR]; exact (show 0 + 1 ≤ 1600 by omega)) (by rw [hR]; exact (show 0 + 3 ≤ 1600 by omega)) d_RC_model_26 (fun q_4 H hP hD hS => ?_)
        have hPD : my_PD (dC, dI) vwCl A [(rc, Sum.inr (6, [Value.ref co, Value.ref ma, Value.int (nI k), Value.int fit, Value.int fen, Value.int frd, Value.int fbd, Value.int fir])), (ma, Sum.inl (cM, 8, Sum.inr (Sum.inr (Sum.inr (Sum.inr mf))))), (co, Sum.inr (3, [Value.int xshift, Value.long xkeptCode, Value.long xkeptRange, Value.int xkeptAsked, Value.int xcache, Value.int xpending, Value.long xlow, Value.long xrange, Value.long xcode, Value.long xreadLow, Value.long xreadRange, Value.ref ri, Value.ref ro, Value.ref rw, Value.int xasked])), (q_4, Sum.inr (8, [Value.null, Value.null, Value.null]))] H := ⟨hP, hD⟩
        have hP := hPD.1
        have hD := hPD.2
        refine lv_dup hx hb d_RC_model_29 rfl ?_
        refine lv_iload_n hx hb d_RC_model_30 rfl (lv_at hl 1 rfl) ?_
        refine lv_aload_n hx hb d_RC_model_31 rfl (lv_at hl 0 rfl) ?_
        refine va_get (D := (dC, dI)) (ci := 6) (v := .ref co) (C := "RangeCoders") (T := T_RC) (N := 8) hx hb hg in_RC hown hK hP 0 rfl rfl 0 (by decide) (hg _ k258) (fun _ h9 => h9) rfl d_RC_model_32 ?_
        refine lv_iload_n hx hb d_RC_model_35 rfl (lv_at hl 1 rfl) ?_
        refine my_cqg (wr := [(rc, Sum.inr (6, [Value.ref co, Value.ref ma, Value.int (nI k), Value.int fit, Value.int fen, Value.int frd, Value.int fbd, Value.int fir])), (ma, Sum.inl (cM, 8, Sum.inr (Sum.inr (Sum.inr (Sum.inr mf))))), (q_4, Sum.inr (8, [Value.null, Value.null, Value.null]))]) (va_runU (As := [Value.int (nI nS)]) (rest := [Value.int (nI nS), Value.ref q_4, Value.ref q_4]) ⟨hx, hb, hml, hown, hts⟩ (f_Bits_newOdds l dC dI cI cM cO H.size (hSl H) co xshift xkeptCode xkeptRange xkeptAsked xcache xpending xlow xrange xcode xreadLow xreadRange ri ro rw xasked nS (by first | assumption | omega) (by first | assumption | omega)) (va_cwO 1 hts (my_gO k288 k290 k289 k291 k292 k8 k293) rfl rfl rfl (List.mem_cons_of_mem _ k330) (by decide +kernel) ⟨by rw [hR]; exact Nat.le_of_ble_eq_true rfl, by rw [hR]; exact Nat.le_of_ble_eq_true rfl⟩) (my_preVg hK hN (hP.sub [2] rfl) (hD.sub [2] (by decide +kernel) rfl) 0 rfl rfl) rfl rfl hl.1 rfl (lv_room (Nat.le_of_ble_eq_true rfl)) d_RC_model_36 ⟨by rw [hR]; exact (show (0 + 1) + 700 ≤ 1600 by omega), by rw [hR]; exact (show (0 + 3) + 700 ≤ 1600 by omega)⟩) hP hD hS hA [2] [0, 1, 3] rfl rfl (by decide +kernel) (by decide +kernel) (fun r_36 u9 d_36 H locs hd_36 hw_36 hP hD hS => ?_)
        obtain ⟨zo_36, zca_36, zpa_36⟩ := u9
        have hr_36 : r_36 = some zo_36 := hw_36
        have hd_36 : d_36 + 0 ≤ 700 := hd_36
        have hPD : my_PD (dC, dI) vwCl A [(rc, Sum.inr (6, [Value.ref co, Value.ref ma, Value.int (nI k), Value.int fit, Value.int fen, Value.int frd, Value.int fbd, Value.int fir])), (ma, Sum.inl (cM, 8, Sum.inr (Sum.inr (Sum.inr (Sum.inr mf))))), (q_4, Sum.inr (8, [Value.null, Value.null, Value.null])), (co, Sum.inr (3, [Value.int xshift, Value.long xkeptCode, Value.long xkeptRange, Value.int xkeptAsked, Value.int xcache, Value.int xpending, Value.long xlow, Value.long xrange, Value.long xcode, Value.long xreadLow, Value.long xreadRange, Value.ref ri, Value.ref ro, Value.ref rw, Value.int xasked])), (zo_36, Sum.inr (7, [Value.int (nI nS), Value.int 0, Value.int 1, Value.ref zca_36, Value.ref zpa_36])), (zca_36, Sum.inl (cI, (2 ^ lev nS), Sum.inl (fun _ => 0))), (zpa_36, Sum.inl (cI, 0, Sum.inl (fun _ => 0)))] H := ⟨hP, hD⟩
        have hP := hPD.1
        have hD := hPD.2
        subst hr_36
        refine W.eq (g2 := F0 m 39 ls [Value.ref zo_36, Value.int (nI nS), Value.ref q_4, Value.ref q_4]) rfl ?_
        refine lv_aload_n hx hb d_RC_model_39 rfl (lv_at hl 0 rfl) ?_
        refine va_get (D := (dC, dI)) (ci := 6) (v := .ref co) (C := "RangeCoders") (T := T_RC) (N := 8) hx hb hg in_RC hown hK hP 0 rfl rfl 0 (by decide) (hg _ k258) (fun _ h9 => h9) rfl d_RC_model_40 ?_
        refine lv_iload_n hx hb d_RC_model_43 rfl (lv_at hl 1 rfl) ?_
        refine my_cqg (wr := [(rc, Sum.inr (6, [Value.ref co, Value.ref ma, Value.int (nI k), Value.int fit, Value.int fen, Value.int frd, Value.int fbd, Value.int fir])), (ma, Sum.inl (cM, 8, Sum.inr (Sum.inr (Sum.inr (Sum.inr mf))))), (q_4, Sum.inr (8, [Value.null, Value.null, Value.null])), (zo_36, Sum.inr (7, [Value.int (nI nS), Value.int 0, Value.int 1, Value.ref zca_36, Value.ref zpa_36])), (zca_36, Sum.inl (cI, (2 ^ lev nS), Sum.inl (fun _ => 0))), (zpa_36, Sum.inl (cI, 0, Sum.inl (fun _ => 0)))]) (va_runU (As := [Value.int (nI nS)]) (rest := [Value.ref zo_36, Value.int (nI nS), Value.ref q_4, Value.ref q_4]) ⟨hx, hb, hml, hown, hts⟩ (f_Bits_newOdds l dC dI cI cM cO H.size (hSl H) co xshift xkeptCode xkeptRange xkeptAsked xcache xpending xlow xrange xcode xreadLow xreadRange ri ro rw xasked nS (by first | assumption | omega) (by first | assumption | omega)) (va_cwO 1 hts (my_gO k288 k290 k289 k291 k292 k8 k293) rfl rfl rfl (List.mem_cons_of_mem _ k330) (by decide +kernel) ⟨by rw [hR]; exact Nat.le_of_ble_eq_true rfl, by rw [hR]; exact Nat.le_of_ble_eq_true rfl⟩) (my_preVg hK hN (hP.sub [3] rfl) (hD.sub [3] (by decide +kernel) rfl) 0 rfl rfl) rfl rfl hl.1 rfl (lv_room (Nat.le_of_ble_eq_true rfl)) d_RC_model_44 ⟨by rw [hR]; exact (show (0 + 1 + d_36) + 700 ≤ 1600 by omega), by rw [hR]; exact (show (0 + 3 + d_36) + 700 ≤ 1600 by omega)⟩) hP hD hS hA [3] [0, 1, 2, 4, 5, 6] rfl rfl (by decide +kernel) (by decide +kernel) (fun r_44 u9 d_44 H locs hd_44 hw_44 hP hD hS => ?_)
        obtain ⟨zo_44, zca_44, zpa_44⟩ := u9
        have hr_44 : r_44 = some zo_44 := hw_44
        have hd_44 : d_44 + 0 ≤ 700 := hd_44
        have hPD : my_PD (dC, dI) vwCl A [(rc, Sum.inr (6, [Value.ref co, Value.ref ma, Value.int (nI k), Value.int fit, Value.int fen, Value.int frd, Value.int fbd, Value.int fir])), (ma, Sum.inl (cM, 8, Sum.inr (Sum.inr (Sum.inr (Sum.inr mf))))), (q_4, Sum.inr (8, [Value.null, Value.null, Value.null])), (zo_36, Sum.inr (7, [Value.int (nI nS), Value.int 0, Value.int 1, Value.ref zca_36, Value.ref zpa_36])), (zca_36, Sum.inl (cI, (2 ^ lev nS), Sum.inl (fun _ => 0))), (zpa_36, Sum.inl (cI, 0, Sum.inl (fun _ => 0))), (co, Sum.inr (3, [Value.int xshift, Value.long xkeptCode, Value.long xkeptRange, Value.int xkeptAsked, Value.int xcache, Value.int xpending, Value.long xlow, Value.long xrange, Value.long xcode, Value.long xreadLow, Value.long xreadRange, Value.ref ri, Value.ref ro, Value.ref rw, Value.int xasked])), (zo_44, Sum.inr (7, [Value.int (nI nS), Value.int 0, Value.int 1, Value.ref zca_44, Value.ref zpa_44])), (zca_44, Sum.inl (cI, (2 ^ lev nS), Sum.inl (fun _ => 0))), (zpa_44, Sum.inl (cI, 0, Sum.inl (fun _ => 0)))] H := ⟨hP, hD⟩
        have hP := hPD.1
        have hD := hPD.2
        subst hr_44
        refine W.eq (g2 := F0 m 47 ls [Value.ref zo_44, Value.ref zo_36, Value.int (nI nS), Value.ref q_4, Value.ref q_4]) rfl ?_
        refine my_cvg (wr := [(rc, Sum.inr (6, [Value.ref co, Value.ref ma, Value.int (nI k), Value.int fit, Value.int fen, Value.int frd, Value.int fbd, Value.int fir])), (ma, Sum.inl (cM, 8, Sum.inr (Sum.inr (Sum.inr (Sum.inr mf))))), (zo_36, Sum.inr (7, [Value.int (nI nS), Value.int 0, Value.int 1, Value.ref zca_36, Value.ref zpa_36])), (zca_36, Sum.inl (cI, (2 ^ lev nS), Sum.inl (fun _ => 0))), (zpa_36, Sum.inl (cI, 0, Sum.inl (fun _ => 0))), (co, Sum.inr (3, [Value.int xshift, Value.long xkeptCode, Value.long xkeptRange, Value.int xkeptAsked, Value.int xcache, Value.int xpending, Value.long xlow, Value.long xrange, Value.long xcode, Value.long xreadLow, Value.long xreadRange, Value.ref ri, Value.ref ro, Value.ref rw, Value.int xasked])), (zo_44, Sum.inr (7, [Value.int (nI nS), Value.int 0, Value.int 1, Value.ref zca_44, Value.ref zpa_44])), (zca_44, Sum.inl (cI, (2 ^ lev nS), Sum.inl (fun _ => 0))), (zpa_44, Sum.inl (cI, 0, Sum.inl (fun _ => 0)))]) (va_runI (As := [Value.int (nI nS), Value.ref zo_36, Value.ref zo_44]) (rest := [Value.ref q_4]) ⟨hx, hb, hml, hown, hts⟩ (f_Model_init l dC dI cI cM cO H.size (hSl H) q_4 nS zo_36 zo_44 (by first | assumption | omega)) (cwI 3 hts (my_gC k335) rfl rfl rfl (hg _ k13) (hg _ k333) (hg _ k334) rfl (by decide +kernel) ⟨by rw [hR]; exact Nat.le_of_ble_eq_true rfl, by rw [hR]; exact Nat.le_of_ble_eq_true rfl⟩) (my_preg (As := [Value.ref q_4, Value.int (nI nS), Value.ref zo_36, Value.ref zo_44]) hK hN (hP.sub [2] rfl) (hD.sub [2] (by decide +kernel) rfl)) rfl rfl hl.1 rfl (lv_room (Nat.le_of_ble_eq_true rfl)) d_RC_model_47 ⟨by rw [hR]; exact (show (0 + 1 + d_36 + d_44) + 100 ≤ 1600 by omega), by rw [hR]; exact (show (0 + 3 + d_36 + d_44) + 100 ≤ 1600 by omega)⟩) hP hD hS hA [2] [0, 1, 3, 4, 5, 6, 7, 8, 9] rfl rfl (by decide +kernel) (by decide +kernel) (fun u9 d_47 H locs hd_47 hw_47 hP hD hS => ?_)
        obtain ⟨zk_47, zkf_47⟩ := u9
        have hf_47 : tbI zkf_47 nS (fun _ => 1) := hw_47
        have hd_47 : d_47 + 0 ≤ 100 := hd_47
        have hPD : my_PD (dC, dI) vwCl A [(rc, Sum.inr (6, [Value.ref co, Value.ref ma, Value.int (nI k), Value.int fit, Value.int fen, Value.int frd, Value.int fbd, Value.int fir])), (ma, Sum.inl (cM, 8, Sum.inr (Sum.inr (Sum.inr (Sum.inr mf))))), (zo_36, Sum.inr (7, [Value.int (nI nS), Value.int 0, Value.int 1, Value.ref zca_36, Value.ref zpa_36])), (zca_36, Sum.inl (cI, (2 ^ lev nS), Sum.inl (fun _ => 0))), (zpa_36, Sum.inl (cI, 0, Sum.inl (fun _ => 0))), (co, Sum.inr (3, [Value.int xshift, Value.long xkeptCode, Value.long xkeptRange, Value.int xkeptAsked, Value.int xcache, Value.int xpending, Value.long xlow, Value.long xrange, Value.long xcode, Value.long xreadLow, Value.long xreadRange, Value.ref ri, Value.ref ro, Value.ref rw, Value.int xasked])), (zo_44, Sum.inr (7, [Value.int (nI nS), Value.int 0, Value.int 1, Value.ref zca_44, Value.ref zpa_44])), (zca_44, Sum.inl (cI, (2 ^ lev nS), Sum.inl (fun _ => 0))), (zpa_44, Sum.inl (cI, 0, Sum.inl (fun _ => 0))), (q_4, Sum.inr (8, [Value.ref zk_47, Value.ref zo_36, Value.ref zo_44])), (zk_47, Sum.inl (cI, nS, Sum.inl zkf_47))] H := ⟨hP, hD⟩
        have hP := hPD.1
        have hD := hPD.2
        refine lv_astore_n (lv' := [(2, Value.ref q_4), (0, Value.ref rc), (1, Value.int (nI nS))]) hx hb d_RC_model_50 rfl hl (by decide) rfl (fun ls hl => ?_)
        refine lv_aload_n hx hb d_RC_model_51 rfl (lv_at hl 1 rfl) ?_
        refine va_get (D := (dC, dI)) (ci := 6) (v := .ref co) (C := "RangeCoders") (T := T_RC) (N := 8) hx hb hg in_RC hown hK hP 0 rfl rfl 0 (by decide) (hg _ k258) (fun _ h9 => h9) rfl d_RC_model_52 ?_
        refine lv_aload_n hx hb d_RC_model_55 rfl (lv_at hl 0 rfl) ?_
        refine va_get (D := (dC, dI)) (ci := 8) (v := .ref zo_36) (C := "RangeCoders$Model") (T := T_Model) (N := 3) hx hb hg in_Model hown hK hP 9 rfl rfl 1 (by decide) (hg _ k343) (fun _ h9 => h9) rfl d_RC_model_56 ?_
        refine lv_aload_n hx hb d_RC_model_59 rfl (lv_at hl 0 rfl) ?_
        refine va_get (D := (dC, dI)) (ci := 8) (v := .ref zk_47) (C := "RangeCoders$Model") (T := T_Model) (N := 3) hx hb hg in_Model hown hK hP 9 rfl rfl 0 (by decide) (hg _ k341) (fun _ h9 => h9) rfl d_RC_model_60 ?_
        refine my_cv (wr := [(rc, Sum.inr (6, [Value.ref co, Value.ref ma, Value.int (nI k), Value.int fit, Value.int fen, Value.int frd, Value.int fbd, Value.int fir])), (ma, Sum.inl (cM, 8, Sum.inr (Sum.inr (Sum.inr (Sum.inr mf))))), (zo_44, Sum.inr (7, [Value.int (nI nS), Value.int 0, Value.int 1, Value.ref zca_44, Value.ref zpa_44])), (zca_44, Sum.inl (cI, (2 ^ lev nS), Sum.inl (fun _ => 0))), (zpa_44, Sum.inl (cI, 0, Sum.inl (fun _ => 0))), (q_4, Sum.inr (8, [Value.ref zk_47, Value.ref zo_36, Value.ref zo_44]))]) (va_runU (As := [Value.ref zo_36, Value.ref zk_47]) (rest := []) ⟨hx, hb, hml, hown, hts⟩ (f_Bits_prepare l dC dI cI cM cO H.size co xshift xkeptCode xkeptRange xkeptAsked xcache xpending xlow xrange xcode xreadLow xreadRange ri ro rw xasked zo_36 (nI nS) 1 zca_36 zpa_36 (2 ^ lev nS) (fun _ => 0) 0 (fun _ => 0) 0 zk_47 nS zkf_47 (hlv6) (by decide)) (va_cwA 2 hts (my_gU k353 k355 k356 k357 k8 k358) rfl rfl rfl (hN.1 _ j354 rfl) (by decide +kernel) ⟨by rw [hR]; exact Nat.le_of_ble_eq_true rfl, by rw [hR]; exact Nat.le_of_ble_eq_true rfl⟩) (my_preV hK hN (hP.sub [5, 2, 3, 4, 10] rfl) (hD.sub [5, 2, 3, 4, 10] (by decide +kernel) rfl) 0 rfl rfl) rfl rfl hl.1 rfl (lv_room (Nat.le_of_ble_eq_true rfl)) d_RC_model_63 ⟨by rw [hR]; exact (show (0 + 1 + d_36 + d_44 + d_47) + 0 ≤ 1600 by omega), by rw [hR]; exact (show (0 + 3 + d_36 + d_44 + d_47) + 0 ≤ 1600 by omega)⟩) hP hD hS hA [5, 2, 3, 4, 10] [0, 1, 6, 7, 8, 9] rfl rfl (by decide +kernel) (by decide +kernel) (fun u9 H locs hw_63 hP hD hS => ?_)
        obtain ⟨ocfq_63, rfl⟩ : ∃ z, z = u9 := ⟨_, rfl⟩
        have hf_63 : tbI ocfq_63 (2 ^ lev nS) (fun _ => 1024) := hw_63
        have hPD : my_PD (dC, dI) vwCl A [(rc, Sum.inr (6, [Value.ref co, Value.ref ma, Value.int (nI k), Value.int fit, Value.int fen, Value.int frd, Value.int fbd, Value.int fir])), (ma, Sum.inl (cM, 8, Sum.inr (Sum.inr (Sum.inr (Sum.inr mf))))), (zo_44, Sum.inr (7, [Value.int (nI nS), Value.int 0, Value.int 1, Value.ref zca_44, Value.ref zpa_44])), (zca_44, Sum.inl (cI, (2 ^ lev nS), Sum.inl (fun _ => 0))), (zpa_44, Sum.inl (cI, 0, Sum.inl (fun _ => 0))), (q_4, Sum.inr (8, [Value.ref zk_47, Value.ref zo_36, Value.ref zo_44])), (co, Sum.inr (3, [Value.int xshift, Value.long xkeptCode, Value.long xkeptRange, Value.int xkeptAsked, Value.int xcache, Value.int xpending, Value.long xlow, Value.long xrange, Value.long xcode, Value.long xreadLow, Value.long xreadRange, Value.ref ri, Value.ref ro, Value.ref rw, Value.int xasked])), (zo_36, Sum.inr (7, [Value.int (nI nS), Value.int (nI (1024 * (2 ^ lev nS))), Value.int 1, Value.ref zca_36, Value.ref zpa_36])), (zca_36, Sum.inl (cI, (2 ^ lev nS), Sum.inl ocfq_63)), (zpa_36, Sum.inl (cI, 0, Sum.inl (fun _ => 0))), (zk_47, Sum.inl (cI, nS, Sum.inl zkf_47))] H := ⟨hP, hD⟩
        have hP := hPD.1
        have hD := hPD.2
        refine lv_aload_n hx hb d_RC_model_66 rfl (lv_at hl 1 rfl) ?_
        refine va_get (D := (dC, dI)) (ci := 6) (v := .ref co) (C := "RangeCoders") (T := T_RC) (N := 8) hx hb hg in_RC hown hK hP 0 rfl rfl 0 (by decide) (hg _ k258) (fun _ h9 => h9) rfl d_RC_model_67 ?_
        refine lv_aload_n hx hb d_RC_model_70 rfl (lv_at hl 0 rfl) ?_
        refine va_get (D := (dC, dI)) (ci := 8) (v := .ref zo_44) (C := "RangeCoders$Model") (T := T_Model) (N := 3) hx hb hg in_Model hown hK hP 5 rfl rfl 2 (by decide) (hg _ k345) (fun _ h9 => h9) rfl d_RC_model_71 ?_
        refine lv_aload_n hx hb d_RC_model_74 rfl (lv_at hl 0 rfl) ?_
        refine va_get (D := (dC, dI)) (ci := 8) (v := .ref zk_47) (C := "RangeCoders$Model") (T := T_Model) (N := 3) hx hb hg in_Model hown hK hP 5 rfl rfl 0 (by decide) (hg _ k341) (fun _ h9 => h9) rfl d_RC_model_75 ?_
        refine my_cv (wr := [(rc, Sum.inr (6, [Value.ref co, Value.ref ma, Value.int (nI k), Value.int fit, Value.int fen, Value.int frd, Value.int fbd, Value.int fir])), (ma, Sum.inl (cM, 8, Sum.inr (Sum.inr (Sum.inr (Sum.inr mf))))), (q_4, Sum.inr (8, [Value.ref zk_47, Value.ref zo_36, Value.ref zo_44])), (zo_36, Sum.inr (7, [Value.int (nI nS), Value.int (nI (1024 * (2 ^ lev nS))), Value.int 1, Value.ref zca_36, Value.ref zpa_36])), (zca_36, Sum.inl (cI, (2 ^ lev nS), Sum.inl ocfq_63)), (zpa_36, Sum.inl (cI, 0, Sum.inl (fun _ => 0)))]) (va_runU (As := [Value.ref zo_44, Value.ref zk_47]) (rest := []) ⟨hx, hb, hml, hown, hts⟩ (f_Bits_prepare l dC dI cI cM cO H.size co xshift xkeptCode xkeptRange xkeptAsked xcache xpending xlow xrange xcode xreadLow xreadRange ri ro rw xasked zo_44 (nI nS) 1 zca_44 zpa_44 (2 ^ lev nS) (fun _ => 0) 0 (fun _ => 0) 0 zk_47 nS zkf_47 (hlv6) (by decide)) (va_cwA 2 hts (my_gU k353 k355 k356 k357 k8 k358) rfl rfl rfl (hN.1 _ j354 rfl) (by decide +kernel) ⟨by rw [hR]; exact Nat.le_of_ble_eq_true rfl, by rw [hR]; exact Nat.le_of_ble_eq_true rfl⟩) (my_preV hK hN (hP.sub [6, 2, 3, 4, 10] rfl) (hD.sub [6, 2, 3, 4, 10] (by decide +kernel) rfl) 0 rfl rfl) rfl rfl hl.1 rfl (lv_room (Nat.le_of_ble_eq_true rfl)) d_RC_model_78 ⟨by rw [hR]; exact (show (0 + 1 + d_36 + d_44 + d_47) + 0 ≤ 1600 by omega), by rw [hR]; exact (show (0 + 3 + d_36 + d_44 + d_47) + 0 ≤ 1600 by omega)⟩) hP hD hS hA [6, 2, 3, 4, 10] [0, 1, 5, 7, 8, 9] rfl rfl (by decide +kernel) (by decide +kernel) (fun u9 H locs hw_78 hP hD hS => ?_)
        obtain ⟨ocfq_78, rfl⟩ : ∃ z, z = u9 := ⟨_, rfl⟩
        have hf_78 : tbI ocfq_78 (2 ^ lev nS) (fun _ => 1024) := hw_78
        have hPD : my_PD (dC, dI) vwCl A [(rc, Sum.inr (6, [Value.ref co, Value.ref ma, Value.int (nI k), Value.int fit, Value.int fen, Value.int frd, Value.int fbd, Value.int fir])), (ma, Sum.inl (cM, 8, Sum.inr (Sum.inr (Sum.inr (Sum.inr mf))))), (q_4, Sum.inr (8, [Value.ref zk_47, Value.ref zo_36, Value.ref zo_44])), (zo_36, Sum.inr (7, [Value.int (nI nS), Value.int (nI (1024 * (2 ^ lev nS))), Value.int 1, Value.ref zca_36, Value.ref zpa_36])), (zca_36, Sum.inl (cI, (2 ^ lev nS), Sum.inl ocfq_63)), (zpa_36, Sum.inl (cI, 0, Sum.inl (fun _ => 0))), (co, Sum.inr (3, [Value.int xshift, Value.long xkeptCode, Value.long xkeptRange, Value.int xkeptAsked, Value.int xcache, Value.int xpending, Value.long xlow, Value.long xrange, Value.long xcode, Value.long xreadLow, Value.long xreadRange, Value.ref ri, Value.ref ro, Value.ref rw, Value.int xasked])), (zo_44, Sum.inr (7, [Value.int (nI nS), Value.int (nI (1024 * (2 ^ lev nS))), Value.int 1, Value.ref zca_44, Value.ref zpa_44])), (zca_44, Sum.inl (cI, (2 ^ lev nS), Sum.inl ocfq_78)), (zpa_44, Sum.inl (cI, 0, Sum.inl (fun _ => 0))), (zk_47, Sum.inl (cI, nS, Sum.inl zkf_47))] H := ⟨hP, hD⟩
        have hP := hPD.1
        have hD := hPD.2
        refine lv_aload_n hx hb d_RC_model_81 rfl (lv_at hl 1 rfl) ?_
        refine va_get (D := (dC, dI)) (ci := 6) (v := .ref ma) (C := "RangeCoders") (T := T_RC) (N := 8) hx hb hg in_RC hown hK hP 0 rfl rfl 1 (by decide) (hg _ k259) (fun _ h9 => h9) rfl d_RC_model_82 ?_
        refine lv_aload_n hx hb d_RC_model_85 rfl (lv_at hl 1 rfl) ?_
        refine va_get (D := (dC, dI)) (ci := 6) (v := .int (nI k)) (C := "RangeCoders") (T := T_RC) (N := 8) hx hb hg in_RC hown hK hP 0 rfl rfl 2 (by decide) (hg _ k260) (fun _ h9 => h9) rfl d_RC_model_86 ?_
        refine lv_aload_n hx hb d_RC_model_89 rfl (lv_at hl 0 rfl) ?_
        refine va_astq hx hb hK hP hD hS 1 1 2 8 rfl rfl rfl rfl (vp_in_nI hk (by decide)) d_RC_model_90 (fun H locs hP hD hS => ?_)
        have hPD : my_PD (dC, dI) vwCl A [(rc, Sum.inr (6, [Value.ref co, Value.ref ma, Value.int (nI k), Value.int fit, Value.int fen, Value.int frd, Value.int fbd, Value.int fir])), (ma, Sum.inl (cM, 8, Sum.inr (Sum.inr (Sum.inr (Sum.inr (va_up mf (nI k).toNatClampNeg (some q_4))))))), (q_4, Sum.inr (8, [Value.ref zk_47, Value.ref zo_36, Value.ref zo_44])), (zo_36, Sum.inr (7, [Value.int (nI nS), Value.int (nI (1024 * (2 ^ lev nS))), Value.int 1, Value.ref zca_36, Value.ref zpa_36])), (zca_36, Sum.inl (cI, (2 ^ lev nS), Sum.inl ocfq_63)), (zpa_36, Sum.inl (cI, 0, Sum.inl (fun _ => 0))), (co, Sum.inr (3, [Value.int xshift, Value.long xkeptCode, Value.long xkeptRange, Value.int xkeptAsked, Value.int xcache, Value.int xpending, Value.long xlow, Value.long xrange, Value.long xcode, Value.long xreadLow, Value.long xreadRange, Value.ref ri, Value.ref ro, Value.ref rw, Value.int xasked])), (zo_44, Sum.inr (7, [Value.int (nI nS), Value.int (nI (1024 * (2 ^ lev nS))), Value.int 1, Value.ref zca_44, Value.ref zpa_44])), (zca_44, Sum.inl (cI, (2 ^ lev nS), Sum.inl ocfq_78)), (zpa_44, Sum.inl (cI, 0, Sum.inl (fun _ => 0))), (zk_47, Sum.inl (cI, nS, Sum.inl zkf_47))] H := ⟨hP, hD⟩
        have hP := hPD.1
        have hD := hPD.2
        rw [nI_clamp (show k < 2 ^ 31 by omega)] at hP hD
        refine lv_aload_n hx hb d_RC_model_91 rfl (lv_at hl 1 rfl) ?_
        refine lv_dup hx hb d_RC_model_92 rfl ?_
        refine va_get (D := (dC, dI)) (ci := 6) (v := .int (nI k)) (C := "RangeCoders") (T := T_RC) (N := 8) hx hb hg in_RC hown hK hP 0 rfl rfl 2 (by decide) (hg _ k260) (fun _ h9 => h9) rfl d_RC_model_93 ?_
        refine lv_iconst (v := 1) hx hb d_RC_model_96 (by decide) ?_
        refine lv_iadd hx hb d_RC_model_97 ?_
        refine lv_topi (fun v_5 ev_5 => ?_)
        have z9 : v_5 = nI (k + 1) := by subst_vars; exact nI_1 _
        subst z9
        refine va_put (D := (dC, dI)) (ci := 6) (v := .int (nI (k + 1))) (ty := .int) (C := "RangeCoders") (T := T_RC) (N := 8) hx hb hg in_RC t_RC o_RC n_RC hown hK hP hD hS 0 rfl rfl 2 (by decide) (hg _ k260) (fun _ h9 => h9) rfl (by decide +kernel) rfl rfl (Nat.le_of_ble_eq_true rfl) d_RC_model_98 (fun H locs hP hD hS => ?_)
        have hPD : my_PD (dC, dI) vwCl A [(rc, Sum.inr (6, [Value.ref co, Value.ref ma, Value.int (nI (k + 1)), Value.int fit, Value.int fen, Value.int frd, Value.int fbd, Value.int fir])), (ma, Sum.inl (cM, 8, Sum.inr (Sum.inr (Sum.inr (Sum.inr (va_up mf k (some q_4))))))), (q_4, Sum.inr (8, [Value.ref zk_47, Value.ref zo_36, Value.ref zo_44])), (zo_36, Sum.inr (7, [Value.int (nI nS), Value.int (nI (1024 * (2 ^ lev nS))), Value.int 1, Value.ref zca_36, Value.ref zpa_36])), (zca_36, Sum.inl (cI, (2 ^ lev nS), Sum.inl ocfq_63)), (zpa_36, Sum.inl (cI, 0, Sum.inl (fun _ => 0))), (co, Sum.inr (3, [Value.int xshift, Value.long xkeptCode, Value.long xkeptRange, Value.int xkeptAsked, Value.int xcache, Value.int xpending, Value.long xlow, Value.long xrange, Value.long xcode, Value.long xreadLow, Value.long xreadRange, Value.ref ri, Value.ref ro, Value.ref rw, Value.int xasked])), (zo_44, Sum.inr (7, [Value.int (nI nS), Value.int (nI (1024 * (2 ^ lev nS))), Value.int 1, Value.ref zca_44, Value.ref zpa_44])), (zca_44, Sum.inl (cI, (2 ^ lev nS), Sum.inl ocfq_78)), (zpa_44, Sum.inl (cI, 0, Sum.inl (fun _ => 0))), (zk_47, Sum.inl (cI, nS, Sum.inl zkf_47))] H := ⟨hP, hD⟩
        have hP := hPD.1
        have hD := hPD.2
        refine lv_aload_n hx hb d_RC_model_101 rfl (lv_at hl 1 rfl) ?_
        refine va_get (D := (dC, dI)) (ci := 6) (v := .int (nI (k + 1))) (C := "RangeCoders") (T := T_RC) (N := 8) hx hb hg in_RC hown hK hP 0 rfl rfl 2 (by decide) (hg _ k260) (fun _ h9 => h9) rfl d_RC_model_102 ?_
        refine lv_iconst (v := 1) hx hb d_RC_model_105 (by decide) ?_
        refine lv_isub hx hb d_RC_model_106 ?_
        refine lv_topi (fun v_6 ev_6 => ?_)
        exact my_iretg (v := v_6) hx hb hr (rfl) hlocks hQ hK hS (q_4, zk_47, zkf_47, zo_36, zca_36, zpa_36, ocfq_63, zo_44, zca_44, zpa_44, ocfq_78) (show (0 + 1 + d_36 + d_44 + d_47) + 0 ≤ 1600 by omega) (show (0 + 3 + d_36 + d_44 + d_47) + 0 ≤ 1600 by omega) (⟨by subst_vars; exact nI_pred k, hf_47, hf_63, hf_78⟩) (hP.sub [0, 1, 6, 2, 10, 3, 4, 5, 7, 8, 9] rfl) (hD.sub [0, 1, 6, 2, 10, 3, 4, 5, 7, 8, 9] (by decide +kernel) rfl) d_RC_model_107
      · exact absurd (show nI k < nI 8 from nI_lt hk (by omega)) c_3
    · exact absurd (show nI nS ≤ nI 64 from nI_le hns (by omega)) c_2
set_option maxHeartbeats 2000000 in
set_option maxRecDepth 100000 in
theorem f_RC_modelB_Stack (l : Launch) (dC : Nat → ClassId) (dI : Nat → Nat → Nat) (cI cM cO : ClassId) (sz : Nat) (sl : Nat) (rc : Nat) (ma : Nat) (k : Nat) (fit : Int32) (fen : Int32) (frd : Int32) (fbd : Int32) (fir : Int32) (mf : Nat → Option Nat) (co : Nat) (xx : Int64) (xreadX : Int64) (soa : Nat) (sna : Nat) (swa : Nat) (xkept : Int32) (ri : Nat) (ro : Nat) (rw : Nat) (xasked : Int32) (nS : Nat) (hns2 : 2 ≤ nS) (hns : nS ≤ 64) (hk : k < 8) : MetIg l y_RC_model (Cond.code y_RC_model prog_1_method_2_code 3 (some .int) :: gw) ({ frames := 4, cells := 1600, slots := 1600, locals := 89 } : Room) (dC, dI) vwCl (kT cI cM cO) [Value.ref rc, Value.int (nI nS)] [(rc, Sum.inr (6, [Value.ref co, Value.ref ma, Value.int (nI k), Value.int fit, Value.int fen, Value.int frd, Value.int fbd, Value.int fir])), (ma, Sum.inl (cM, 8, Sum.inr (Sum.inr (Sum.inr (Sum.inr mf))))), (co, Sum.inr (4, [Value.long xx, Value.long xreadX, Value.ref soa, Value.ref sna, Value.ref swa, Value.int xkept, Value.ref ri, Value.ref ro, Value.ref rw, Value.int xasked]))] sz sl (fun (r : Int32) (u : Nat × Nat × (Nat → Int32) × Nat × Nat × Nat × (Nat → Int32) × Nat × Nat × Nat × (Nat → Int32)) => r = nI k ∧ tbI u.2.2.1 nS (fun _ => 1) ∧ tbI u.2.2.2.2.2.2.1 nS (sc nS 4096 (fun _ => 1)) ∧ tbI u.2.2.2.2.2.2.2.2.2.2 nS (sc nS 4096 (fun _ => 1))) (fun (u : Nat × Nat × (Nat → Int32) × Nat × Nat × Nat × (Nat → Int32) × Nat × Nat × Nat × (Nat → Int32)) => [(rc, Sum.inr (6, [Value.ref co, Value.ref ma, Value.int (nI (k + 1)), Value.int fit, Value.int fen, Value.int frd, Value.int fbd, Value.int fir])), (ma, Sum.inl (cM, 8, Sum.inr (Sum.inr (Sum.inr (Sum.inr (va_up mf k (some u.1))))))), (co, Sum.inr (4, [Value.long xx, Value.long xreadX, Value.ref soa, Value.ref sna, Value.ref swa, Value.int xkept, Value.ref ri, Value.ref ro, Value.ref rw, Value.int xasked])), (u.1, Sum.inr (8, [Value.ref u.2.1, Value.ref u.2.2.2.1, Value.ref u.2.2.2.2.2.2.2.1])), (u.2.1, Sum.inl (cI, nS, Sum.inl u.2.2.1)), (u.2.2.2.1, Sum.inr (7, [Value.int (nI nS), Value.int (nI (ns (sc nS 4096 (fun _ => 1)) nS)), Value.int 0, Value.ref u.2.2.2.2.1, Value.ref u.2.2.2.2.2.1])), (u.2.2.2.2.1, Sum.inl (cI, nS, Sum.inl u.2.2.2.2.2.2.1)), (u.2.2.2.2.2.1, Sum.inl (cI, 0, Sum.inl (fun _ => 0))), (u.2.2.2.2.2.2.2.1, Sum.inr (7, [Value.int (nI nS), Value.int (nI (ns (sc nS 4096 (fun _ => 1)) nS)), Value.int 0, Value.ref u.2.2.2.2.2.2.2.2.1, Value.ref u.2.2.2.2.2.2.2.2.2.1])), (u.2.2.2.2.2.2.2.2.1, Sum.inl (cI, nS, Sum.inl u.2.2.2.2.2.2.2.2.2.2)), (u.2.2.2.2.2.2.2.2.2.1, Sum.inl (cI, 0, Sum.inl (fun _ => 0)))]) 1600 (fun (u : Nat × Nat × (Nat → Int32) × Nat × Nat × Nat × (Nat → Int32) × Nat × Nat × Nat × (Nat → Int32)) => 0) := by
  refine my_ofIg (cc := prog_1_method_2_code) (n := 3) (ret := (some .int)) (by decide) rfl (Nat.le_of_ble_eq_true rfl) ?_
  intro p e s m args below meth c R Q A ls H locs hx hb hr hts hown hlocks hml hnm hR hQ hA hl hP hK hN hD hS
  have hg : ∀ w ∈ gw, w.before args s = true := fun w h => hts w (List.mem_cons_of_mem _ h)
  have hown : s.vm.findClass "RangeCoders" = some m.cls := hown
  have hl : lv_has ls 3 [(0, Value.ref rc), (1, Value.int (nI nS))] := hl
  have hb1 : bd (fun _ => 1) nS 4095 := fun _ _ => (by decide : 1 ≤ 4095)
  have hlv6 := lev_63 nS
  refine lv_iload_n hx hb d_RC_model_0 rfl (lv_at hl 1 rfl) ?_
  refine lv_iconst (v := 2) hx hb d_RC_model_1 (by decide) ?_
  refine lv_icmp_lt (tgt := 11) hx hb d_RC_model_2 (by decide) (fun c_1 => ?_) (fun c_1 => ?_)
  · exact absurd c_1 (show ¬ nI nS < nI 2 from nI_nlt hns2 (by omega))
  · refine lv_iload_n hx hb d_RC_model_5 rfl (lv_at hl 1 rfl) ?_
    refine lv_bipush (v := 64) hx hb d_RC_model_6 (by decide) ?_
    refine lv_icmp_le (tgt := 14) hx hb d_RC_model_8 (by decide) (fun c_2 => ?_) (fun c_2 => ?_)
    · refine lv_aload_n hx hb d_RC_model_14 rfl (lv_at hl 0 rfl) ?_
      refine va_get (D := (dC, dI)) (ci := 6) (v := .int (nI k)) (C := "RangeCoders") (T := T_RC) (N := 8) hx hb hg in_RC hown hK hP 0 rfl rfl 2 (by decide) (hg _ k260) (fun _ h9 => h9) rfl d_RC_model_15 ?_
      refine lv_bipush (v := 8) hx hb d_RC_model_18 (by decide) ?_
      refine lv_icmp_lt (tgt := 26) hx hb d_RC_model_20 (by decide) (fun c_3 => ?_) (fun c_3 => ?_)
      · refine va_new (ci := 8) (fs := [Value.null, Value.null, Value.null]) (C := "RangeCoders$Model") (T := T_Model) (N := 3) hx hb hg in_Model t_Model o_Model hown (hg _ k25) (hg _ k287) (hg _ k13) hK hP hD hS hA rfl (fun j hj => by rcases (show j = 0 ∨ j = 1 ∨ j = 2 by omega) with rfl | rfl | rfl <;> rfl) (by rw [hR]; exact (show 0 + 1 ≤ 1600 by omega)) (by rw [hR]; exact (show 0 + 3 ≤ 1600 by omega)) d_RC_model_26 (fun q_4 H hP hD hS => ?_)
        have hPD : my_PD (dC, dI) vwCl A [(rc, Sum.inr (6, [Value.ref co, Value.ref ma, Value.int (nI k), Value.int fit, Value.int fen, Value.int frd, Value.int fbd, Value.int fir])), (ma, Sum.inl (cM, 8, Sum.inr (Sum.inr (Sum.inr (Sum.inr mf))))), (co, Sum.inr (4, [Value.long xx, Value.long xreadX, Value.ref soa, Value.ref sna, Value.ref swa, Value.int xkept, Value.ref ri, Value.ref ro, Value.ref rw, Value.int xasked])), (q_4, Sum.inr (8, [Value.null, Value.null, Value.null]))] H := ⟨hP, hD⟩
        have hP := hPD.1
        have hD := hPD.2
        refine lv_dup hx hb d_RC_model_29 rfl ?_
        refine lv_iload_n hx hb d_RC_model_30 rfl (lv_at hl 1 rfl) ?_
        refine lv_aload_n hx hb d_RC_model_31 rfl (lv_at hl 0 rfl) ?_
        refine va_get (D := (dC, dI)) (ci := 6) (v := .ref co) (C := "RangeCoders") (T := T_RC) (N := 8) hx hb hg in_RC hown hK hP 0 rfl rfl 0 (by decide) (hg _ k258) (fun _ h9 => h9) rfl d_RC_model_32 ?_
        refine lv_iload_n hx hb d_RC_model_35 rfl (lv_at hl 1 rfl) ?_
        refine my_cqg (wr := [(rc, Sum.inr (6, [Value.ref co, Value.ref ma, Value.int (nI k), Value.int fit, Value.int fen, Value.int frd, Value.int fbd, Value.int fir])), (ma, Sum.inl (cM, 8, Sum.inr (Sum.inr (Sum.inr (Sum.inr mf))))), (q_4, Sum.inr (8, [Value.null, Value.null, Value.null]))]) (va_runU (As := [Value.int (nI nS)]) (rest := [Value.int (nI nS), Value.ref q_4, Value.ref q_4]) ⟨hx, hb, hml, hown, hts⟩ (f_Stack_newOdds l dC dI cI cM cO H.size (hSl H) co xx xreadX soa sna swa xkept ri ro rw xasked nS (by first | assumption | omega) (by first | assumption | omega)) (va_cwU 1 hts (my_gU k288 k290 k324 k289 k3 k330) rfl rfl rfl rfl (by decide +kernel) ⟨by rw [hR]; exact Nat.le_of_ble_eq_true rfl, by rw [hR]; exact Nat.le_of_ble_eq_true rfl⟩) (my_preVg hK hN (hP.sub [2] rfl) (hD.sub [2] (by decide +kernel) rfl) 0 rfl rfl) rfl rfl hl.1 rfl (lv_room (Nat.le_of_ble_eq_true rfl)) d_RC_model_36 ⟨by rw [hR]; exact (show (0 + 1) + 700 ≤ 1600 by omega), by rw [hR]; exact (show (0 + 3) + 700 ≤ 1600 by omega)⟩) hP hD hS hA [2] [0, 1, 3] rfl rfl (by decide +kernel) (by decide +kernel) (fun r_36 u9 d_36 H locs hd_36 hw_36 hP hD hS => ?_)
        obtain ⟨zo_36, zca_36, zpa_36⟩ := u9
        have hr_36 : r_36 = some zo_36 := hw_36
        have hd_36 : d_36 + 0 ≤ 700 := hd_36
        have hPD : my_PD (dC, dI) vwCl A [(rc, Sum.inr (6, [Value.ref co, Value.ref ma, Value.int (nI k), Value.int fit, Value.int fen, Value.int frd, Value.int fbd, Value.int fir])), (ma, Sum.inl (cM, 8, Sum.inr (Sum.inr (Sum.inr (Sum.inr mf))))), (q_4, Sum.inr (8, [Value.null, Value.null, Value.null])), (co, Sum.inr (4, [Value.long xx, Value.long xreadX, Value.ref soa, Value.ref sna, Value.ref swa, Value.int xkept, Value.ref ri, Value.ref ro, Value.ref rw, Value.int xasked])), (zo_36, Sum.inr (7, [Value.int (nI nS), Value.int 0, Value.int 0, Value.ref zca_36, Value.ref zpa_36])), (zca_36, Sum.inl (cI, nS, Sum.inl (fun _ => 0))), (zpa_36, Sum.inl (cI, 0, Sum.inl (fun _ => 0)))] H := ⟨hP, hD⟩
        have hP := hPD.1
        have hD := hPD.2
        subst hr_36
        refine W.eq (g2 := F0 m 39 ls [Value.ref zo_36, Value.int (nI nS), Value.ref q_4, Value.ref q_4]) rfl ?_
        refine lv_aload_n hx hb d_RC_model_39 rfl (lv_at hl 0 rfl) ?_
        refine va_get (D := (dC, dI)) (ci := 6) (v := .ref co) (C := "RangeCoders") (T := T_RC) (N := 8) hx hb hg in_RC hown hK hP 0 rfl rfl 0 (by decide) (hg _ k258) (fun _ h9 => h9) rfl d_RC_model_40 ?_
        refine lv_iload_n hx hb d_RC_model_43 rfl (lv_at hl 1 rfl) ?_
        refine my_cqg (wr := [(rc, Sum.inr (6, [Value.ref co, Value.ref ma, Value.int (nI k), Value.int fit, Value.int fen, Value.int frd, Value.int fbd, Value.int fir])), (ma, Sum.inl (cM, 8, Sum.inr (Sum.inr (Sum.inr (Sum.inr mf))))), (q_4, Sum.inr (8, [Value.null, Value.null, Value.null])), (zo_36, Sum.inr (7, [Value.int (nI nS), Value.int 0, Value.int 0, Value.ref zca_36, Value.ref zpa_36])), (zca_36, Sum.inl (cI, nS, Sum.inl (fun _ => 0))), (zpa_36, Sum.inl (cI, 0, Sum.inl (fun _ => 0)))]) (va_runU (As := [Value.int (nI nS)]) (rest := [Value.ref zo_36, Value.int (nI nS), Value.ref q_4, Value.ref q_4]) ⟨hx, hb, hml, hown, hts⟩ (f_Stack_newOdds l dC dI cI cM cO H.size (hSl H) co xx xreadX soa sna swa xkept ri ro rw xasked nS (by first | assumption | omega) (by first | assumption | omega)) (va_cwU 1 hts (my_gU k288 k290 k324 k289 k3 k330) rfl rfl rfl rfl (by decide +kernel) ⟨by rw [hR]; exact Nat.le_of_ble_eq_true rfl, by rw [hR]; exact Nat.le_of_ble_eq_true rfl⟩) (my_preVg hK hN (hP.sub [3] rfl) (hD.sub [3] (by decide +kernel) rfl) 0 rfl rfl) rfl rfl hl.1 rfl (lv_room (Nat.le_of_ble_eq_true rfl)) d_RC_model_44 ⟨by rw [hR]; exact (show (0 + 1 + d_36) + 700 ≤ 1600 by omega), by rw [hR]; exact (show (0 + 3 + d_36) + 700 ≤ 1600 by omega)⟩) hP hD hS hA [3] [0, 1, 2, 4, 5, 6] rfl rfl (by decide +kernel) (by decide +kernel) (fun r_44 u9 d_44 H locs hd_44 hw_44 hP hD hS => ?_)
        obtain ⟨zo_44, zca_44, zpa_44⟩ := u9
        have hr_44 : r_44 = some zo_44 := hw_44
        have hd_44 : d_44 + 0 ≤ 700 := hd_44
        have hPD : my_PD (dC, dI) vwCl A [(rc, Sum.inr (6, [Value.ref co, Value.ref ma, Value.int (nI k), Value.int fit, Value.int fen, Value.int frd, Value.int fbd, Value.int fir])), (ma, Sum.inl (cM, 8, Sum.inr (Sum.inr (Sum.inr (Sum.inr mf))))), (q_4, Sum.inr (8, [Value.null, Value.null, Value.null])), (zo_36, Sum.inr (7, [Value.int (nI nS), Value.int 0, Value.int 0, Value.ref zca_36, Value.ref zpa_36])), (zca_36, Sum.inl (cI, nS, Sum.inl (fun _ => 0))), (zpa_36, Sum.inl (cI, 0, Sum.inl (fun _ => 0))), (co, Sum.inr (4, [Value.long xx, Value.long xreadX, Value.ref soa, Value.ref sna, Value.ref swa, Value.int xkept, Value.ref ri, Value.ref ro, Value.ref rw, Value.int xasked])), (zo_44, Sum.inr (7, [Value.int (nI nS), Value.int 0, Value.int 0, Value.ref zca_44, Value.ref zpa_44])), (zca_44, Sum.inl (cI, nS, Sum.inl (fun _ => 0))), (zpa_44, Sum.inl (cI, 0, Sum.inl (fun _ => 0)))] H := ⟨hP, hD⟩
        have hP := hPD.1
        have hD := hPD.2
        subst hr_44
        refine W.eq (g2 := F0 m 47 ls [Value.ref zo_44, Value.ref zo_36, Value.int (nI nS), Value.ref q_4, Value.ref q_4]) rfl ?_
        refine my_cvg (wr := [(rc, Sum.inr (6, [Value.ref co, Value.ref ma, Value.int (nI k), Value.int fit, Value.int fen, Value.int frd, Value.int fbd, Value.int fir])), (ma, Sum.inl (cM, 8, Sum.inr (Sum.inr (Sum.inr (Sum.inr mf))))), (zo_36, Sum.inr (7, [Value.int (nI nS), Value.int 0, Value.int 0, Value.ref zca_36, Value.ref zpa_36])), (zca_36, Sum.inl (cI, nS, Sum.inl (fun _ => 0))), (zpa_36, Sum.inl (cI, 0, Sum.inl (fun _ => 0))), (co, Sum.inr (4, [Value.long xx, Value.long xreadX, Value.ref soa, Value.ref sna, Value.ref swa, Value.int xkept, Value.ref ri, Value.ref ro, Value.ref rw, Value.int xasked])), (zo_44, Sum.inr (7, [Value.int (nI nS), Value.int 0, Value.int 0, Value.ref zca_44, Value.ref zpa_44])), (zca_44, Sum.inl (cI, nS, Sum.inl (fun _ => 0))), (zpa_44, Sum.inl (cI, 0, Sum.inl (fun _ => 0)))]) (va_runI (As := [Value.int (nI nS), Value.ref zo_36, Value.ref zo_44]) (rest := [Value.ref q_4]) ⟨hx, hb, hml, hown, hts⟩ (f_Model_init l dC dI cI cM cO H.size (hSl H) q_4 nS zo_36 zo_44 (by first | assumption | omega)) (cwI 3 hts (my_gC k335) rfl rfl rfl (hg _ k13) (hg _ k333) (hg _ k334) rfl (by decide +kernel) ⟨by rw [hR]; exact Nat.le_of_ble_eq_true rfl, by rw [hR]; exact Nat.le_of_ble_eq_true rfl⟩) (my_preg (As := [Value.ref q_4, Value.int (nI nS), Value.ref zo_36, Value.ref zo_44]) hK hN (hP.sub [2] rfl) (hD.sub [2] (by decide +kernel) rfl)) rfl rfl hl.1 rfl (lv_room (Nat.le_of_ble_eq_true rfl)) d_RC_model_47 ⟨by rw [hR]; exact (show (0 + 1 + d_36 + d_44) + 100 ≤ 1600 by omega), by rw [hR]; exact (show (0 + 3 + d_36 + d_44) + 100 ≤ 1600 by omega)⟩) hP hD hS hA [2] [0, 1, 3, 4, 5, 6, 7, 8, 9] rfl rfl (by decide +kernel) (by decide +kernel) (fun u9 d_47 H locs hd_47 hw_47 hP hD hS => ?_)
        obtain ⟨zk_47, zkf_47⟩ := u9
        have hf_47 : tbI zkf_47 nS (fun _ => 1) := hw_47
        have hd_47 : d_47 + 0 ≤ 100 := hd_47
        have hPD : my_PD (dC, dI) vwCl A [(rc, Sum.inr (6, [Value.ref co, Value.ref ma, Value.int (nI k), Value.int fit, Value.int fen, Value.int frd, Value.int fbd, Value.int fir])), (ma, Sum.inl (cM, 8, Sum.inr (Sum.inr (Sum.inr (Sum.inr mf))))), (zo_36, Sum.inr (7, [Value.int (nI nS), Value.int 0, Value.int 0, Value.ref zca_36, Value.ref zpa_36])), (zca_36, Sum.inl (cI, nS, Sum.inl (fun _ => 0))), (zpa_36, Sum.inl (cI, 0, Sum.inl (fun _ => 0))), (co, Sum.inr (4, [Value.long xx, Value.long xreadX, Value.ref soa, Value.ref sna, Value.ref swa, Value.int xkept, Value.ref ri, Value.ref ro, Value.ref rw, Value.int xasked])), (zo_44, Sum.inr (7, [Value.int (nI nS), Value.int 0, Value.int 0, Value.ref zca_44, Value.ref zpa_44])), (zca_44, Sum.inl (cI, nS, Sum.inl (fun _ => 0))), (zpa_44, Sum.inl (cI, 0, Sum.inl (fun _ => 0))), (q_4, Sum.inr (8, [Value.ref zk_47, Value.ref zo_36, Value.ref zo_44])), (zk_47, Sum.inl (cI, nS, Sum.inl zkf_47))] H := ⟨hP, hD⟩
        have hP := hPD.1
        have hD := hPD.2
        refine lv_astore_n (lv' := [(2, Value.ref q_4), (0, Value.ref rc), (1, Value.int (nI nS))]) hx hb d_RC_model_50 rfl hl (by decide) rfl (fun ls hl => ?_)
        refine lv_aload_n hx hb d_RC_model_51 rfl (lv_at hl 1 rfl) ?_
        refine va_get (D := (dC, dI)) (ci := 6) (v := .ref co) (C := "RangeCoders") (T := T_RC) (N := 8) hx hb hg in_RC hown hK hP 0 rfl rfl 0 (by decide) (hg _ k258) (fun _ h9 => h9) rfl d_RC_model_52 ?_
        refine lv_aload_n hx hb d_RC_model_55 rfl (lv_at hl 0 rfl) ?_
        refine va_get (D := (dC, dI)) (ci := 8) (v := .ref zo_36) (C := "RangeCoders$Model") (T := T_Model) (N := 3) hx hb hg in_Model hown hK hP 9 rfl rfl 1 (by decide) (hg _ k343) (fun _ h9 => h9) rfl d_RC_model_56 ?_
        refine lv_aload_n hx hb d_RC_model_59 rfl (lv_at hl 0 rfl) ?_
        refine va_get (D := (dC, dI)) (ci := 8) (v := .ref zk_47) (C := "RangeCoders$Model") (T := T_Model) (N := 3) hx hb hg in_Model hown hK hP 9 rfl rfl 0 (by decide) (hg _ k341) (fun _ h9 => h9) rfl d_RC_model_60 ?_
        refine my_cv (wr := [(rc, Sum.inr (6, [Value.ref co, Value.ref ma, Value.int (nI k), Value.int fit, Value.int fen, Value.int frd, Value.int fbd, Value.int fir])), (ma, Sum.inl (cM, 8, Sum.inr (Sum.inr (Sum.inr (Sum.inr mf))))), (zo_44, Sum.inr (7, [Value.int (nI nS), Value.int 0, Value.int 0, Value.ref zca_44, Value.ref zpa_44])), (zca_44, Sum.inl (cI, nS, Sum.inl (fun _ => 0))), (zpa_44, Sum.inl (cI, 0, Sum.inl (fun _ => 0))), (q_4, Sum.inr (8, [Value.ref zk_47, Value.ref zo_36, Value.ref zo_44]))]) (va_runU (As := [Value.ref zo_36, Value.ref zk_47]) (rest := []) ⟨hx, hb, hml, hown, hts⟩ (f_Stack_prepare l dC dI cI cM cO H.size co xx xreadX soa sna swa xkept ri ro rw xasked zo_36 (nI nS) 0 zca_36 zpa_36 nS (fun _ => 0) 0 (fun _ => 0) 0 zk_47 zkf_47 (fun _ => 1) (hns) (by decide) (hf_47) (hb1) (by omega) (rfl)) (va_cwA 2 hts (my_gU k353 k355 k380 k381 k10 k382) rfl rfl rfl (hN.1 _ j354 rfl) (by decide +kernel) ⟨by rw [hR]; exact Nat.le_of_ble_eq_true rfl, by rw [hR]; exact Nat.le_of_ble_eq_true rfl⟩) (my_preV hK hN (hP.sub [5, 2, 3, 4, 10] rfl) (hD.sub [5, 2, 3, 4, 10] (by decide +kernel) rfl) 0 rfl rfl) rfl rfl hl.1 rfl (lv_room (Nat.le_of_ble_eq_true rfl)) d_RC_model_63 ⟨by rw [hR]; exact (show (0 + 1 + d_36 + d_44 + d_47) + 0 ≤ 1600 by omega), by rw [hR]; exact (show (0 + 3 + d_36 + d_44 + d_47) + 0 ≤ 1600 by omega)⟩) hP hD hS hA [5, 2, 3, 4, 10] [0, 1, 6, 7, 8, 9] rfl rfl (by decide +kernel) (by decide +kernel) (fun u9 H locs hw_63 hP hD hS => ?_)
        obtain ⟨ocfq_63, rfl⟩ : ∃ z, z = u9 := ⟨_, rfl⟩
        have hf_63 : tbI ocfq_63 nS (sc nS 4096 (fun _ => 1)) := hw_63
        have hPD : my_PD (dC, dI) vwCl A [(rc, Sum.inr (6, [Value.ref co, Value.ref ma, Value.int (nI k), Value.int fit, Value.int fen, Value.int frd, Value.int fbd, Value.int fir])), (ma, Sum.inl (cM, 8, Sum.inr (Sum.inr (Sum.inr (Sum.inr mf))))), (zo_44, Sum.inr (7, [Value.int (nI nS), Value.int 0, Value.int 0, Value.ref zca_44, Value.ref zpa_44])), (zca_44, Sum.inl (cI, nS, Sum.inl (fun _ => 0))), (zpa_44, Sum.inl (cI, 0, Sum.inl (fun _ => 0))), (q_4, Sum.inr (8, [Value.ref zk_47, Value.ref zo_36, Value.ref zo_44])), (co, Sum.inr (4, [Value.long xx, Value.long xreadX, Value.ref soa, Value.ref sna, Value.ref swa, Value.int xkept, Value.ref ri, Value.ref ro, Value.ref rw, Value.int xasked])), (zo_36, Sum.inr (7, [Value.int (nI nS), Value.int (nI (ns (sc nS 4096 (fun _ => 1)) nS)), Value.int 0, Value.ref zca_36, Value.ref zpa_36])), (zca_36, Sum.inl (cI, nS, Sum.inl ocfq_63)), (zpa_36, Sum.inl (cI, 0, Sum.inl (fun _ => 0))), (zk_47, Sum.inl (cI, nS, Sum.inl zkf_47))] H := ⟨hP, hD⟩
        have hP := hPD.1
        have hD := hPD.2
        refine lv_aload_n hx hb d_RC_model_66 rfl (lv_at hl 1 rfl) ?_
        refine va_get (D := (dC, dI)) (ci := 6) (v := .ref co) (C := "RangeCoders") (T := T_RC) (N := 8) hx hb hg in_RC hown hK hP 0 rfl rfl 0 (by decide) (hg _ k258) (fun _ h9 => h9) rfl d_RC_model_67 ?_
        refine lv_aload_n hx hb d_RC_model_70 rfl (lv_at hl 0 rfl) ?_
        refine va_get (D := (dC, dI)) (ci := 8) (v := .ref zo_44) (C := "RangeCoders$Model") (T := T_Model) (N := 3) hx hb hg in_Model hown hK hP 5 rfl rfl 2 (by decide) (hg _ k345) (fun _ h9 => h9) rfl d_RC_model_71 ?_
        refine lv_aload_n hx hb d_RC_model_74 rfl (lv_at hl 0 rfl) ?_
        refine va_get (D := (dC, dI)) (ci := 8) (v := .ref zk_47) (C := "RangeCoders$Model") (T := T_Model) (N := 3) hx hb hg in_Model hown hK hP 5 rfl rfl 0 (by decide) (hg _ k341) (fun _ h9 => h9) rfl d_RC_model_75 ?_
        refine my_cv (wr := [(rc, Sum.inr (6, [Value.ref co, Value.ref ma, Value.int (nI k), Value.int fit, Value.int fen, Value.int frd, Value.int fbd, Value.int fir])), (ma, Sum.inl (cM, 8, Sum.inr (Sum.inr (Sum.inr (Sum.inr mf))))), (q_4, Sum.inr (8, [Value.ref zk_47, Value.ref zo_36, Value.ref zo_44])), (zo_36, Sum.inr (7, [Value.int (nI nS), Value.int (nI (ns (sc nS 4096 (fun _ => 1)) nS)), Value.int 0, Value.ref zca_36, Value.ref zpa_36])), (zca_36, Sum.inl (cI, nS, Sum.inl ocfq_63)), (zpa_36, Sum.inl (cI, 0, Sum.inl (fun _ => 0)))]) (va_runU (As := [Value.ref zo_44, Value.ref zk_47]) (rest := []) ⟨hx, hb, hml, hown, hts⟩ (f_Stack_prepare l dC dI cI cM cO H.size co xx xreadX soa sna swa xkept ri ro rw xasked zo_44 (nI nS) 0 zca_44 zpa_44 nS (fun _ => 0) 0 (fun _ => 0) 0 zk_47 zkf_47 (fun _ => 1) (hns) (by decide) (hf_47) (hb1) (by omega) (rfl)) (va_cwA 2 hts (my_gU k353 k355 k380 k381 k10 k382) rfl rfl rfl (hN.1 _ j354 rfl) (by decide +kernel) ⟨by rw [hR]; exact Nat.le_of_ble_eq_true rfl, by rw [hR]; exact Nat.le_of_ble_eq_true rfl⟩) (my_preV hK hN (hP.sub [6, 2, 3, 4, 10] rfl) (hD.sub [6, 2, 3, 4, 10] (by decide +kernel) rfl) 0 rfl rfl) rfl rfl hl.1 rfl (lv_room (Nat.le_of_ble_eq_true rfl)) d_RC_model_78 ⟨by rw [hR]; exact (show (0 + 1 + d_36 + d_44 + d_47) + 0 ≤ 1600 by omega), by rw [hR]; exact (show (0 + 3 + d_36 + d_44 + d_47) + 0 ≤ 1600 by omega)⟩) hP hD hS hA [6, 2, 3, 4, 10] [0, 1, 5, 7, 8, 9] rfl rfl (by decide +kernel) (by decide +kernel) (fun u9 H locs hw_78 hP hD hS => ?_)
        obtain ⟨ocfq_78, rfl⟩ : ∃ z, z = u9 := ⟨_, rfl⟩
        have hf_78 : tbI ocfq_78 nS (sc nS 4096 (fun _ => 1)) := hw_78
        have hPD : my_PD (dC, dI) vwCl A [(rc, Sum.inr (6, [Value.ref co, Value.ref ma, Value.int (nI k), Value.int fit, Value.int fen, Value.int frd, Value.int fbd, Value.int fir])), (ma, Sum.inl (cM, 8, Sum.inr (Sum.inr (Sum.inr (Sum.inr mf))))), (q_4, Sum.inr (8, [Value.ref zk_47, Value.ref zo_36, Value.ref zo_44])), (zo_36, Sum.inr (7, [Value.int (nI nS), Value.int (nI (ns (sc nS 4096 (fun _ => 1)) nS)), Value.int 0, Value.ref zca_36, Value.ref zpa_36])), (zca_36, Sum.inl (cI, nS, Sum.inl ocfq_63)), (zpa_36, Sum.inl (cI, 0, Sum.inl (fun _ => 0))), (co, Sum.inr (4, [Value.long xx, Value.long xreadX, Value.ref soa, Value.ref sna, Value.ref swa, Value.int xkept, Value.ref ri, Value.ref ro, Value.ref rw, Value.int xasked])), (zo_44, Sum.inr (7, [Value.int (nI nS), Value.int (nI (ns (sc nS 4096 (fun _ => 1)) nS)), Value.int 0, Value.ref zca_44, Value.ref zpa_44])), (zca_44, Sum.inl (cI, nS, Sum.inl ocfq_78)), (zpa_44, Sum.inl (cI, 0, Sum.inl (fun _ => 0))), (zk_47, Sum.inl (cI, nS, Sum.inl zkf_47))] H := ⟨hP, hD⟩
        have hP := hPD.1
        have hD := hPD.2
        refine lv_aload_n hx hb d_RC_model_81 rfl (lv_at hl 1 rfl) ?_
        refine va_get (D := (dC, dI)) (ci := 6) (v := .ref ma) (C := "RangeCoders") (T := T_RC) (N := 8) hx hb hg in_RC hown hK hP 0 rfl rfl 1 (by decide) (hg _ k259) (fun _ h9 => h9) rfl d_RC_model_82 ?_
        refine lv_aload_n hx hb d_RC_model_85 rfl (lv_at hl 1 rfl) ?_
        refine va_get (D := (dC, dI)) (ci := 6) (v := .int (nI k)) (C := "RangeCoders") (T := T_RC) (N := 8) hx hb hg in_RC hown hK hP 0 rfl rfl 2 (by decide) (hg _ k260) (fun _ h9 => h9) rfl d_RC_model_86 ?_
        refine lv_aload_n hx hb d_RC_model_89 rfl (lv_at hl 0 rfl) ?_
        refine va_astq hx hb hK hP hD hS 1 1 2 8 rfl rfl rfl rfl (vp_in_nI hk (by decide)) d_RC_model_90 (fun H locs hP hD hS => ?_)
        have hPD : my_PD (dC, dI) vwCl A [(rc, Sum.inr (6, [Value.ref co, Value.ref ma, Value.int (nI k), Value.int fit, Value.int fen, Value.int frd, Value.int fbd, Value.int fir])), (ma, Sum.inl (cM, 8, Sum.inr (Sum.inr (Sum.inr (Sum.inr (va_up mf (nI k).toNatClampNeg (some q_4))))))), (q_4, Sum.inr (8, [Value.ref zk_47, Value.ref zo_36, Value.ref zo_44])), (zo_36, Sum.inr (7, [Value.int (nI nS), Value.int (nI (ns (sc nS 4096 (fun _ => 1)) nS)), Value.int 0, Value.ref zca_36, Value.ref zpa_36])), (zca_36, Sum.inl (cI, nS, Sum.inl ocfq_63)), (zpa_36, Sum.inl (cI, 0, Sum.inl (fun _ => 0))), (co, Sum.inr (4, [Value.long xx, Value.long xreadX, Value.ref soa, Value.ref sna, Value.ref swa, Value.int xkept, Value.ref ri, Value.ref ro, Value.ref rw, Value.int xasked])), (zo_44, Sum.inr (7, [Value.int (nI nS), Value.int (nI (ns (sc nS 4096 (fun _ => 1)) nS)), Value.int 0, Value.ref zca_44, Value.ref zpa_44])), (zca_44, Sum.inl (cI, nS, Sum.inl ocfq_78)), (zpa_44, Sum.inl (cI, 0, Sum.inl (fun _ => 0))), (zk_47, Sum.inl (cI, nS, Sum.inl zkf_47))] H := ⟨hP, hD⟩
        have hP := hPD.1
        have hD := hPD.2
        rw [nI_clamp (show k < 2 ^ 31 by omega)] at hP hD
        refine lv_aload_n hx hb d_RC_model_91 rfl (lv_at hl 1 rfl) ?_
        refine lv_dup hx hb d_RC_model_92 rfl ?_
        refine va_get (D := (dC, dI)) (ci := 6) (v := .int (nI k)) (C := "RangeCoders") (T := T_RC) (N := 8) hx hb hg in_RC hown hK hP 0 rfl rfl 2 (by decide) (hg _ k260) (fun _ h9 => h9) rfl d_RC_model_93 ?_
        refine lv_iconst (v := 1) hx hb d_RC_model_96 (by decide) ?_
        refine lv_iadd hx hb d_RC_model_97 ?_
        refine lv_topi (fun v_5 ev_5 => ?_)
        have z9 : v_5 = nI (k + 1) := by subst_vars; exact nI_1 _
        subst z9
        refine va_put (D := (dC, dI)) (ci := 6) (v := .int (nI (k + 1))) (ty := .int) (C := "RangeCoders") (T := T_RC) (N := 8) hx hb hg in_RC t_RC o_RC n_RC hown hK hP hD hS 0 rfl rfl 2 (by decide) (hg _ k260) (fun _ h9 => h9) rfl (by decide +kernel) rfl rfl (Nat.le_of_ble_eq_true rfl) d_RC_model_98 (fun H locs hP hD hS => ?_)
        have hPD : my_PD (dC, dI) vwCl A [(rc, Sum.inr (6, [Value.ref co, Value.ref ma, Value.int (nI (k + 1)), Value.int fit, Value.int fen, Value.int frd, Value.int fbd, Value.int fir])), (ma, Sum.inl (cM, 8, Sum.inr (Sum.inr (Sum.inr (Sum.inr (va_up mf k (some q_4))))))), (q_4, Sum.inr (8, [Value.ref zk_47, Value.ref zo_36, Value.ref zo_44])), (zo_36, Sum.inr (7, [Value.int (nI nS), Value.int (nI (ns (sc nS 4096 (fun _ => 1)) nS)), Value.int 0, Value.ref zca_36, Value.ref zpa_36])), (zca_36, Sum.inl (cI, nS, Sum.inl ocfq_63)), (zpa_36, Sum.inl (cI, 0, Sum.inl (fun _ => 0))), (co, Sum.inr (4, [Value.long xx, Value.long xreadX, Value.ref soa, Value.ref sna, Value.ref swa, Value.int xkept, Value.ref ri, Value.ref ro, Value.ref rw, Value.int xasked])), (zo_44, Sum.inr (7, [Value.int (nI nS), Value.int (nI (ns (sc nS 4096 (fun _ => 1)) nS)), Value.int 0, Value.ref zca_44, Value.ref zpa_44])), (zca_44, Sum.inl (cI, nS, Sum.inl ocfq_78)), (zpa_44, Sum.inl (cI, 0, Sum.inl (fun _ => 0))), (zk_47, Sum.inl (cI, nS, Sum.inl zkf_47))] H := ⟨hP, hD⟩
        have hP := hPD.1
        have hD := hPD.2
        refine lv_aload_n hx hb d_RC_model_101 rfl (lv_at hl 1 rfl) ?_
        refine va_get (D := (dC, dI)) (ci := 6) (v := .int (nI (k + 1))) (C := "RangeCoders") (T := T_RC) (N := 8) hx hb hg in_RC hown hK hP 0 rfl rfl 2 (by decide) (hg _ k260) (fun _ h9 => h9) rfl d_RC_model_102 ?_
        refine lv_iconst (v := 1) hx hb d_RC_model_105 (by decide) ?_
        refine lv_isub hx hb d_RC_model_106 ?_
        refine lv_topi (fun v_6 ev_6 => ?_)
        exact my_iretg (v := v_6) hx hb hr (rfl) hlocks hQ hK hS (q_4, zk_47, zkf_47, zo_36, zca_36, zpa_36, ocfq_63, zo_44, zca_44, zpa_44, ocfq_78) (show (0 + 1 + d_36 + d_44 + d_47) + 0 ≤ 1600 by omega) (show (0 + 3 + d_36 + d_44 + d_47) + 0 ≤ 1600 by omega) (⟨by subst_vars; exact nI_pred k, hf_47, hf_63, hf_78⟩) (hP.sub [0, 1, 6, 2, 10, 3, 4, 5, 7, 8, 9] rfl) (hD.sub [0, 1, 6, 2, 10, 3, 4, 5, 7, 8, 9] (by decide +kernel) rfl) d_RC_model_107
      · exact absurd (show nI k < nI 8 from nI_lt hk (by omega)) c_3
    · exact absurd (show nI nS ≤ nI 64 from nI_le hns (by omega)) c_2
set_option maxHeartbeats 2000000 in
set_option maxRecDepth 100000 in
theorem f_RC_modelB_Table (l : Launch) (dC : Nat → ClassId) (dI : Nat → Nat → Nat) (cI cM cO : ClassId) (sz : Nat) (sl : Nat) (rc : Nat) (ma : Nat) (k : Nat) (fit : Int32) (fen : Int32) (frd : Int32) (fbd : Int32) (fir : Int32) (mf : Nat → Option Nat) (co : Nat) (xx : Int64) (xreadX : Int64) (soa : Nat) (sna : Nat) (swa : Nat) (xkept : Int32) (ri : Nat) (ro : Nat) (rw : Nat) (xasked : Int32) (nS : Nat) (hns2 : 2 ≤ nS) (hns : nS ≤ 64) (hk : k < 8) : MetIg l y_RC_model (Cond.code y_RC_model prog_1_method_2_code 3 (some .int) :: gw) ({ frames := 4, cells := 1600, slots := 1600, locals := 89 } : Room) (dC, dI) vwCl (kT cI cM cO) [Value.ref rc, Value.int (nI nS)] [(rc, Sum.inr (6, [Value.ref co, Value.ref ma, Value.int (nI k), Value.int fit, Value.int fen, Value.int frd, Value.int fbd, Value.int fir])), (ma, Sum.inl (cM, 8, Sum.inr (Sum.inr (Sum.inr (Sum.inr mf))))), (co, Sum.inr (5, [Value.long xx, Value.long xreadX, Value.ref soa, Value.ref sna, Value.ref swa, Value.int xkept, Value.ref ri, Value.ref ro, Value.ref rw, Value.int xasked]))] sz sl (fun (r : Int32) (u : Nat × Nat × (Nat → Int32) × Nat × Nat × Nat × (Nat → Int32) × (Nat → Int32) × Nat × Nat × Nat × (Nat → Int32) × (Nat → Int32)) => r = nI k ∧ tbI u.2.2.1 nS (fun _ => 1) ∧ tbI u.2.2.2.2.2.2.1 nS (sc nS 512 (fun _ => 1)) ∧ layt u.2.2.2.2.2.2.2.1 (sc nS 512 (fun _ => 1)) nS (ns (sc nS 512 (fun _ => 1)) nS) ∧ tbI u.2.2.2.2.2.2.2.2.2.2.2.1 nS (sc nS 512 (fun _ => 1)) ∧ layt u.2.2.2.2.2.2.2.2.2.2.2.2 (sc nS 512 (fun _ => 1)) nS (ns (sc nS 512 (fun _ => 1)) nS)) (fun (u : Nat × Nat × (Nat → Int32) × Nat × Nat × Nat × (Nat → Int32) × (Nat → Int32) × Nat × Nat × Nat × (Nat → Int32) × (Nat → Int32)) => [(rc, Sum.inr (6, [Value.ref co, Value.ref ma, Value.int (nI (k + 1)), Value.int fit, Value.int fen, Value.int frd, Value.int fbd, Value.int fir])), (ma, Sum.inl (cM, 8, Sum.inr (Sum.inr (Sum.inr (Sum.inr (va_up mf k (some u.1))))))), (co, Sum.inr (5, [Value.long xx, Value.long xreadX, Value.ref soa, Value.ref sna, Value.ref swa, Value.int xkept, Value.ref ri, Value.ref ro, Value.ref rw, Value.int xasked])), (u.1, Sum.inr (8, [Value.ref u.2.1, Value.ref u.2.2.2.1, Value.ref u.2.2.2.2.2.2.2.2.1])), (u.2.1, Sum.inl (cI, nS, Sum.inl u.2.2.1)), (u.2.2.2.1, Sum.inr (7, [Value.int (nI nS), Value.int (nI (ns (sc nS 512 (fun _ => 1)) nS)), Value.int 0, Value.ref u.2.2.2.2.1, Value.ref u.2.2.2.2.2.1])), (u.2.2.2.2.1, Sum.inl (cI, nS, Sum.inl u.2.2.2.2.2.2.1)), (u.2.2.2.2.2.1, Sum.inl (cI, 512, Sum.inl u.2.2.2.2.2.2.2.1)), (u.2.2.2.2.2.2.2.2.1, Sum.inr (7, [Value.int (nI nS), Value.int (nI (ns (sc nS 512 (fun _ => 1)) nS)), Value.int 0, Value.ref u.2.2.2.2.2.2.2.2.2.1, Value.ref u.2.2.2.2.2.2.2.2.2.2.1])), (u.2.2.2.2.2.2.2.2.2.1, Sum.inl (cI, nS, Sum.inl u.2.2.2.2.2.2.2.2.2.2.2.1)), (u.2.2.2.2.2.2.2.2.2.2.1, Sum.inl (cI, 512, Sum.inl u.2.2.2.2.2.2.2.2.2.2.2.2))]) 1600 (fun (u : Nat × Nat × (Nat → Int32) × Nat × Nat × Nat × (Nat → Int32) × (Nat → Int32) × Nat × Nat × Nat × (Nat → Int32) × (Nat → Int32)) => 0) := by
  refine my_ofIg (cc := prog_1_method_2_code) (n := 3) (ret := (some .int)) (by decide) rfl (Nat.le_of_ble_eq_true rfl) ?_
  intro p e s m args below meth c R Q A ls H locs hx hb hr hts hown hlocks hml hnm hR hQ hA hl hP hK hN hD hS
  have hg : ∀ w ∈ gw, w.before args s = true := fun w h => hts w (List.mem_cons_of_mem _ h)
  have hown : s.vm.findClass "RangeCoders" = some m.cls := hown
  have hl : lv_has ls 3 [(0, Value.ref rc), (1, Value.int (nI nS))] := hl
  have hb1 : bd (fun _ => 1) nS 4095 := fun _ _ => (by decide : 1 ≤ 4095)
  have hlv6 := lev_63 nS
  refine lv_iload_n hx hb d_RC_model_0 rfl (lv_at hl 1 rfl) ?_
  refine lv_iconst (v := 2) hx hb d_RC_model_1 (by decide) ?_
  refine lv_icmp_lt (tgt := 11) hx hb d_RC_model_2 (by decide) (fun c_1 => ?_) (fun c_1 => ?_)
  · exact absurd c_1 (show ¬ nI nS < nI 2 from nI_nlt hns2 (by omega))
  · refine lv_iload_n hx hb d_RC_model_5 rfl (lv_at hl 1 rfl) ?_
    refine lv_bipush (v := 64) hx hb d_RC_model_6 (by decide) ?_
    refine lv_icmp_le (tgt := 14) hx hb d_RC_model_8 (by decide) (fun c_2 => ?_) (fun c_2 => ?_)
    · refine lv_aload_n hx hb d_RC_model_14 rfl (lv_at hl 0 rfl) ?_
      refine va_get (D := (dC, dI)) (ci := 6) (v := .int (nI k)) (C := "RangeCoders") (T := T_RC) (N := 8) hx hb hg in_RC hown hK hP 0 rfl rfl 2 (by decide) (hg _ k260) (fun _ h9 => h9) rfl d_RC_model_15 ?_
      refine lv_bipush (v := 8) hx hb d_RC_model_18 (by decide) ?_
      refine lv_icmp_lt (tgt := 26) hx hb d_RC_model_20 (by decide) (fun c_3 => ?_) (fun c_3 => ?_)
      · refine va_new (ci := 8) (fs := [Value.null, Value.null, Value.null]) (C := "RangeCoders$Model") (T := T_Model) (N := 3) hx hb hg in_Model t_Model o_Model hown (hg _ k25) (hg _ k287) (hg _ k13) hK hP hD hS hA rfl (fun j hj => by rcases (show j = 0 ∨ j = 1 ∨ j = 2 by omega) with rfl | rfl | rfl <;> rfl) (by rw [hR]; exact (show 0 + 1 ≤ 1600 by omega)) (by rw [hR]; exact (show 0 + 3 ≤ 1600 by omega)) d_RC_model_26 (fun q_4 H hP hD hS => ?_)
        have hPD : my_PD (dC, dI) vwCl A [(rc, Sum.inr (6, [Value.ref co, Value.ref ma, Value.int (nI k), Value.int fit, Value.int fen, Value.int frd, Value.int fbd, Value.int fir])), (ma, Sum.inl (cM, 8, Sum.inr (Sum.inr (Sum.inr (Sum.inr mf))))), (co, Sum.inr (5, [Value.long xx, Value.long xreadX, Value.ref soa, Value.ref sna, Value.ref swa, Value.int xkept, Value.ref ri, Value.ref ro, Value.ref rw, Value.int xasked])), (q_4, Sum.inr (8, [Value.null, Value.null, Value.null]))] H := ⟨hP, hD⟩
        have hP := hPD.1
        have hD := hPD.2
        refine lv_dup hx hb d_RC_model_29 rfl ?_
        refine lv_iload_n hx hb d_RC_model_30 rfl (lv_at hl 1 rfl) ?_
        refine lv_aload_n hx hb d_RC_model_31 rfl (lv_at hl 0 rfl) ?_
        refine va_get (D := (dC, dI)) (ci := 6) (v := .ref co) (C := "RangeCoders") (T := T_RC) (N := 8) hx hb hg in_RC hown hK hP 0 rfl rfl 0 (by decide) (hg _ k258) (fun _ h9 => h9) rfl d_RC_model_32 ?_
        refine lv_iload_n hx hb d_RC_model_35 rfl (lv_at hl 1 rfl) ?_
        refine my_cqg (wr := [(rc, Sum.inr (6, [Value.ref co, Value.ref ma, Value.int (nI k), Value.int fit, Value.int fen, Value.int frd, Value.int fbd, Value.int fir])), (ma, Sum.inl (cM, 8, Sum.inr (Sum.inr (Sum.inr (Sum.inr mf))))), (q_4, Sum.inr (8, [Value.null, Value.null, Value.null]))]) (va_runU (As := [Value.int (nI nS)]) (rest := [Value.int (nI nS), Value.ref q_4, Value.ref q_4]) ⟨hx, hb, hml, hown, hts⟩ (f_Table_newOdds l dC dI cI cM cO H.size (hSl H) co xx xreadX soa sna swa xkept ri ro rw xasked nS (by first | assumption | omega) (by first | assumption | omega)) (va_cwO 1 hts (my_gO k288 k290 k289 k325 k326 k11 k327) rfl rfl rfl (List.mem_cons_of_mem _ k330) (by decide +kernel) ⟨by rw [hR]; exact Nat.le_of_ble_eq_true rfl, by rw [hR]; exact Nat.le_of_ble_eq_true rfl⟩) (my_preVg hK hN (hP.sub [2] rfl) (hD.sub [2] (by decide +kernel) rfl) 0 rfl rfl) rfl rfl hl.1 rfl (lv_room (Nat.le_of_ble_eq_true rfl)) d_RC_model_36 ⟨by rw [hR]; exact (show (0 + 1) + 700 ≤ 1600 by omega), by rw [hR]; exact (show (0 + 3) + 700 ≤ 1600 by omega)⟩) hP hD hS hA [2] [0, 1, 3] rfl rfl (by decide +kernel) (by decide +kernel) (fun r_36 u9 d_36 H locs hd_36 hw_36 hP hD hS => ?_)
        obtain ⟨zo_36, zca_36, zpa_36⟩ := u9
        have hr_36 : r_36 = some zo_36 := hw_36
        have hd_36 : d_36 + 0 ≤ 700 := hd_36
        have hPD : my_PD (dC, dI) vwCl A [(rc, Sum.inr (6, [Value.ref co, Value.ref ma, Value.int (nI k), Value.int fit, Value.int fen, Value.int frd, Value.int fbd, Value.int fir])), (ma, Sum.inl (cM, 8, Sum.inr (Sum.inr (Sum.inr (Sum.inr mf))))), (q_4, Sum.inr (8, [Value.null, Value.null, Value.null])), (co, Sum.inr (5, [Value.long xx, Value.long xreadX, Value.ref soa, Value.ref sna, Value.ref swa, Value.int xkept, Value.ref ri, Value.ref ro, Value.ref rw, Value.int xasked])), (zo_36, Sum.inr (7, [Value.int (nI nS), Value.int 0, Value.int 0, Value.ref zca_36, Value.ref zpa_36])), (zca_36, Sum.inl (cI, nS, Sum.inl (fun _ => 0))), (zpa_36, Sum.inl (cI, 512, Sum.inl (fun _ => 0)))] H := ⟨hP, hD⟩
        have hP := hPD.1
        have hD := hPD.2
        subst hr_36
        refine W.eq (g2 := F0 m 39 ls [Value.ref zo_36, Value.int (nI nS), Value.ref q_4, Value.ref q_4]) rfl ?_
        refine lv_aload_n hx hb d_RC_model_39 rfl (lv_at hl 0 rfl) ?_
        refine va_get (D := (dC, dI)) (ci := 6) (v := .ref co) (C := "RangeCoders") (T := T_RC) (N := 8) hx hb hg in_RC hown hK hP 0 rfl rfl 0 (by decide) (hg _ k258) (fun _ h9 => h9) rfl d_RC_model_40 ?_
        refine lv_iload_n hx hb d_RC_model_43 rfl (lv_at hl 1 rfl) ?_
        refine my_cqg (wr := [(rc, Sum.inr (6, [Value.ref co, Value.ref ma, Value.int (nI k), Value.int fit, Value.int fen, Value.int frd, Value.int fbd, Value.int fir])), (ma, Sum.inl (cM, 8, Sum.inr (Sum.inr (Sum.inr (Sum.inr mf))))), (q_4, Sum.inr (8, [Value.null, Value.null, Value.null])), (zo_36, Sum.inr (7, [Value.int (nI nS), Value.int 0, Value.int 0, Value.ref zca_36, Value.ref zpa_36])), (zca_36, Sum.inl (cI, nS, Sum.inl (fun _ => 0))), (zpa_36, Sum.inl (cI, 512, Sum.inl (fun _ => 0)))]) (va_runU (As := [Value.int (nI nS)]) (rest := [Value.ref zo_36, Value.int (nI nS), Value.ref q_4, Value.ref q_4]) ⟨hx, hb, hml, hown, hts⟩ (f_Table_newOdds l dC dI cI cM cO H.size (hSl H) co xx xreadX soa sna swa xkept ri ro rw xasked nS (by first | assumption | omega) (by first | assumption | omega)) (va_cwO 1 hts (my_gO k288 k290 k289 k325 k326 k11 k327) rfl rfl rfl (List.mem_cons_of_mem _ k330) (by decide +kernel) ⟨by rw [hR]; exact Nat.le_of_ble_eq_true rfl, by rw [hR]; exact Nat.le_of_ble_eq_true rfl⟩) (my_preVg hK hN (hP.sub [3] rfl) (hD.sub [3] (by decide +kernel) rfl) 0 rfl rfl) rfl rfl hl.1 rfl (lv_room (Nat.le_of_ble_eq_true rfl)) d_RC_model_44 ⟨by rw [hR]; exact (show (0 + 1 + d_36) + 700 ≤ 1600 by omega), by rw [hR]; exact (show (0 + 3 + d_36) + 700 ≤ 1600 by omega)⟩) hP hD hS hA [3] [0, 1, 2, 4, 5, 6] rfl rfl (by decide +kernel) (by decide +kernel) (fun r_44 u9 d_44 H locs hd_44 hw_44 hP hD hS => ?_)
        obtain ⟨zo_44, zca_44, zpa_44⟩ := u9
        have hr_44 : r_44 = some zo_44 := hw_44
        have hd_44 : d_44 + 0 ≤ 700 := hd_44
        have hPD : my_PD (dC, dI) vwCl A [(rc, Sum.inr (6, [Value.ref co, Value.ref ma, Value.int (nI k), Value.int fit, Value.int fen, Value.int frd, Value.int fbd, Value.int fir])), (ma, Sum.inl (cM, 8, Sum.inr (Sum.inr (Sum.inr (Sum.inr mf))))), (q_4, Sum.inr (8, [Value.null, Value.null, Value.null])), (zo_36, Sum.inr (7, [Value.int (nI nS), Value.int 0, Value.int 0, Value.ref zca_36, Value.ref zpa_36])), (zca_36, Sum.inl (cI, nS, Sum.inl (fun _ => 0))), (zpa_36, Sum.inl (cI, 512, Sum.inl (fun _ => 0))), (co, Sum.inr (5, [Value.long xx, Value.long xreadX, Value.ref soa, Value.ref sna, Value.ref swa, Value.int xkept, Value.ref ri, Value.ref ro, Value.ref rw, Value.int xasked])), (zo_44, Sum.inr (7, [Value.int (nI nS), Value.int 0, Value.int 0, Value.ref zca_44, Value.ref zpa_44])), (zca_44, Sum.inl (cI, nS, Sum.inl (fun _ => 0))), (zpa_44, Sum.inl (cI, 512, Sum.inl (fun _ => 0)))] H := ⟨hP, hD⟩
        have hP := hPD.1
        have hD := hPD.2
        subst hr_44
        refine W.eq (g2 := F0 m 47 ls [Value.ref zo_44, Value.ref zo_36, Value.int (nI nS), Value.ref q_4, Value.ref q_4]) rfl ?_
        refine my_cvg (wr := [(rc, Sum.inr (6, [Value.ref co, Value.ref ma, Value.int (nI k), Value.int fit, Value.int fen, Value.int frd, Value.int fbd, Value.int fir])), (ma, Sum.inl (cM, 8, Sum.inr (Sum.inr (Sum.inr (Sum.inr mf))))), (zo_36, Sum.inr (7, [Value.int (nI nS), Value.int 0, Value.int 0, Value.ref zca_36, Value.ref zpa_36])), (zca_36, Sum.inl (cI, nS, Sum.inl (fun _ => 0))), (zpa_36, Sum.inl (cI, 512, Sum.inl (fun _ => 0))), (co, Sum.inr (5, [Value.long xx, Value.long xreadX, Value.ref soa, Value.ref sna, Value.ref swa, Value.int xkept, Value.ref ri, Value.ref ro, Value.ref rw, Value.int xasked])), (zo_44, Sum.inr (7, [Value.int (nI nS), Value.int 0, Value.int 0, Value.ref zca_44, Value.ref zpa_44])), (zca_44, Sum.inl (cI, nS, Sum.inl (fun _ => 0))), (zpa_44, Sum.inl (cI, 512, Sum.inl (fun _ => 0)))]) (va_runI (As := [Value.int (nI nS), Value.ref zo_36, Value.ref zo_44]) (rest := [Value.ref q_4]) ⟨hx, hb, hml, hown, hts⟩ (f_Model_init l dC dI cI cM cO H.size (hSl H) q_4 nS zo_36 zo_44 (by first | assumption | omega)) (cwI 3 hts (my_gC k335) rfl rfl rfl (hg _ k13) (hg _ k333) (hg _ k334) rfl (by decide +kernel) ⟨by rw [hR]; exact Nat.le_of_ble_eq_true rfl, by rw [hR]; exact Nat.le_of_ble_eq_true rfl⟩) (my_preg (As := [Value.ref q_4, Value.int (nI nS), Value.ref zo_36, Value.ref zo_44]) hK hN (hP.sub [2] rfl) (hD.sub [2] (by decide +kernel) rfl)) rfl rfl hl.1 rfl (lv_room (Nat.le_of_ble_eq_true rfl)) d_RC_model_47 ⟨by rw [hR]; exact (show (0 + 1 + d_36 + d_44) + 100 ≤ 1600 by omega), by rw [hR]; exact (show (0 + 3 + d_36 + d_44) + 100 ≤ 1600 by omega)⟩) hP hD hS hA [2] [0, 1, 3, 4, 5, 6, 7, 8, 9] rfl rfl (by decide +kernel) (by decide +kernel) (fun u9 d_47 H locs hd_47 hw_47 hP hD hS => ?_)
        obtain ⟨zk_47, zkf_47⟩ := u9
        have hf_47 : tbI zkf_47 nS (fun _ => 1) := hw_47
        have hd_47 : d_47 + 0 ≤ 100 := hd_47
        have hPD : my_PD (dC, dI) vwCl A [(rc, Sum.inr (6, [Value.ref co, Value.ref ma, Value.int (nI k), Value.int fit, Value.int fen, Value.int frd, Value.int fbd, Value.int fir])), (ma, Sum.inl (cM, 8, Sum.inr (Sum.inr (Sum.inr (Sum.inr mf))))), (zo_36, Sum.inr (7, [Value.int (nI nS), Value.int 0, Value.int 0, Value.ref zca_36, Value.ref zpa_36])), (zca_36, Sum.inl (cI, nS, Sum.inl (fun _ => 0))), (zpa_36, Sum.inl (cI, 512, Sum.inl (fun _ => 0))), (co, Sum.inr (5, [Value.long xx, Value.long xreadX, Value.ref soa, Value.ref sna, Value.ref swa, Value.int xkept, Value.ref ri, Value.ref ro, Value.ref rw, Value.int xasked])), (zo_44, Sum.inr (7, [Value.int (nI nS), Value.int 0, Value.int 0, Value.ref zca_44, Value.ref zpa_44])), (zca_44, Sum.inl (cI, nS, Sum.inl (fun _ => 0))), (zpa_44, Sum.inl (cI, 512, Sum.inl (fun _ => 0))), (q_4, Sum.inr (8, [Value.ref zk_47, Value.ref zo_36, Value.ref zo_44])), (zk_47, Sum.inl (cI, nS, Sum.inl zkf_47))] H := ⟨hP, hD⟩
        have hP := hPD.1
        have hD := hPD.2
        refine lv_astore_n (lv' := [(2, Value.ref q_4), (0, Value.ref rc), (1, Value.int (nI nS))]) hx hb d_RC_model_50 rfl hl (by decide) rfl (fun ls hl => ?_)
        refine lv_aload_n hx hb d_RC_model_51 rfl (lv_at hl 1 rfl) ?_
        refine va_get (D := (dC, dI)) (ci := 6) (v := .ref co) (C := "RangeCoders") (T := T_RC) (N := 8) hx hb hg in_RC hown hK hP 0 rfl rfl 0 (by decide) (hg _ k258) (fun _ h9 => h9) rfl d_RC_model_52 ?_
        refine lv_aload_n hx hb d_RC_model_55 rfl (lv_at hl 0 rfl) ?_
        refine va_get (D := (dC, dI)) (ci := 8) (v := .ref zo_36) (C := "RangeCoders$Model") (T := T_Model) (N := 3) hx hb hg in_Model hown hK hP 9 rfl rfl 1 (by decide) (hg _ k343) (fun _ h9 => h9) rfl d_RC_model_56 ?_
        refine lv_aload_n hx hb d_RC_model_59 rfl (lv_at hl 0 rfl) ?_
        refine va_get (D := (dC, dI)) (ci := 8) (v := .ref zk_47) (C := "RangeCoders$Model") (T := T_Model) (N := 3) hx hb hg in_Model hown hK hP 9 rfl rfl 0 (by decide) (hg _ k341) (fun _ h9 => h9) rfl d_RC_model_60 ?_
        refine my_cv (wr := [(rc, Sum.inr (6, [Value.ref co, Value.ref ma, Value.int (nI k), Value.int fit, Value.int fen, Value.int frd, Value.int fbd, Value.int fir])), (ma, Sum.inl (cM, 8, Sum.inr (Sum.inr (Sum.inr (Sum.inr mf))))), (zo_44, Sum.inr (7, [Value.int (nI nS), Value.int 0, Value.int 0, Value.ref zca_44, Value.ref zpa_44])), (zca_44, Sum.inl (cI, nS, Sum.inl (fun _ => 0))), (zpa_44, Sum.inl (cI, 512, Sum.inl (fun _ => 0))), (q_4, Sum.inr (8, [Value.ref zk_47, Value.ref zo_36, Value.ref zo_44]))]) (va_runU (As := [Value.ref zo_36, Value.ref zk_47]) (rest := []) ⟨hx, hb, hml, hown, hts⟩ (f_Table_prepare l dC dI cI cM cO H.size co xx xreadX soa sna swa xkept ri ro rw xasked zo_36 (nI nS) 0 zca_36 zpa_36 nS (fun _ => 0) (fun _ => 0) 0 zk_47 zkf_47 (fun _ => 1) (hns) (hf_47) (hb1) (by omega) (rfl)) (va_cwA 2 hts (my_gU k353 k355 k400 k401 k11 k402) rfl rfl rfl (hN.1 _ j354 rfl) (by decide +kernel) ⟨by rw [hR]; exact Nat.le_of_ble_eq_true rfl, by rw [hR]; exact Nat.le_of_ble_eq_true rfl⟩) (my_preV hK hN (hP.sub [5, 2, 3, 4, 10] rfl) (hD.sub [5, 2, 3, 4, 10] (by decide +kernel) rfl) 0 rfl rfl) rfl rfl hl.1 rfl (lv_room (Nat.le_of_ble_eq_true rfl)) d_RC_model_63 ⟨by rw [hR]; exact (show (0 + 1 + d_36 + d_44 + d_47) + 0 ≤ 1600 by omega), by rw [hR]; exact (show (0 + 3 + d_36 + d_44 + d_47) + 0 ≤ 1600 by omega)⟩) hP hD hS hA [5, 2, 3, 4, 10] [0, 1, 6, 7, 8, 9] rfl rfl (by decide +kernel) (by decide +kernel) (fun u9 H locs hw_63 hP hD hS => ?_)
        obtain ⟨ocfq_63, opfq_63⟩ := u9
        obtain ⟨hf_63, hl_63⟩ : tbI ocfq_63 nS (sc nS 512 (fun _ => 1)) ∧ layt opfq_63 (sc nS 512 (fun _ => 1)) nS (ns (sc nS 512 (fun _ => 1)) nS) := hw_63
        have hPD : my_PD (dC, dI) vwCl A [(rc, Sum.inr (6, [Value.ref co, Value.ref ma, Value.int (nI k), Value.int fit, Value.int fen, Value.int frd, Value.int fbd, Value.int fir])), (ma, Sum.inl (cM, 8, Sum.inr (Sum.inr (Sum.inr (Sum.inr mf))))), (zo_44, Sum.inr (7, [Value.int (nI nS), Value.int 0, Value.int 0, Value.ref zca_44, Value.ref zpa_44])), (zca_44, Sum.inl (cI, nS, Sum.inl (fun _ => 0))), (zpa_44, Sum.inl (cI, 512, Sum.inl (fun _ => 0))), (q_4, Sum.inr (8, [Value.ref zk_47, Value.ref zo_36, Value.ref zo_44])), (co, Sum.inr (5, [Value.long xx, Value.long xreadX, Value.ref soa, Value.ref sna, Value.ref swa, Value.int xkept, Value.ref ri, Value.ref ro, Value.ref rw, Value.int xasked])), (zo_36, Sum.inr (7, [Value.int (nI nS), Value.int (nI (ns (sc nS 512 (fun _ => 1)) nS)), Value.int 0, Value.ref zca_36, Value.ref zpa_36])), (zca_36, Sum.inl (cI, nS, Sum.inl ocfq_63)), (zpa_36, Sum.inl (cI, 512, Sum.inl opfq_63)), (zk_47, Sum.inl (cI, nS, Sum.inl zkf_47))] H := ⟨hP, hD⟩
        have hP := hPD.1
        have hD := hPD.2
        refine lv_aload_n hx hb d_RC_model_66 rfl (lv_at hl 1 rfl) ?_
        refine va_get (D := (dC, dI)) (ci := 6) (v := .ref co) (C := "RangeCoders") (T := T_RC) (N := 8) hx hb hg in_RC hown hK hP 0 rfl rfl 0 (by decide) (hg _ k258) (fun _ h9 => h9) rfl d_RC_model_67 ?_
        refine lv_aload_n hx hb d_RC_model_70 rfl (lv_at hl 0 rfl) ?_
        refine va_get (D := (dC, dI)) (ci := 8) (v := .ref zo_44) (C := "RangeCoders$Model") (T := T_Model) (N := 3) hx hb hg in_Model hown hK hP 5 rfl rfl 2 (by decide) (hg _ k345) (fun _ h9 => h9) rfl d_RC_model_71 ?_
        refine lv_aload_n hx hb d_RC_model_74 rfl (lv_at hl 0 rfl) ?_
        refine va_get (D := (dC, dI)) (ci := 8) (v := .ref zk_47) (C := "RangeCoders$Model") (T := T_Model) (N := 3) hx hb hg in_Model hown hK hP 5 rfl rfl 0 (by decide) (hg _ k341) (fun _ h9 => h9) rfl d_RC_model_75 ?_
        refine my_cv (wr := [(rc, Sum.inr (6, [Value.ref co, Value.ref ma, Value.int (nI k), Value.int fit, Value.int fen, Value.int frd, Value.int fbd, Value.int fir])), (ma, Sum.inl (cM, 8, Sum.inr (Sum.inr (Sum.inr (Sum.inr mf))))), (q_4, Sum.inr (8, [Value.ref zk_47, Value.ref zo_36, Value.ref zo_44])), (zo_36, Sum.inr (7, [Value.int (nI nS), Value.int (nI (ns (sc nS 512 (fun _ => 1)) nS)), Value.int 0, Value.ref zca_36, Value.ref zpa_36])), (zca_36, Sum.inl (cI, nS, Sum.inl ocfq_63)), (zpa_36, Sum.inl (cI, 512, Sum.inl opfq_63))]) (va_runU (As := [Value.ref zo_44, Value.ref zk_47]) (rest := []) ⟨hx, hb, hml, hown, hts⟩ (f_Table_prepare l dC dI cI cM cO H.size co xx xreadX soa sna swa xkept ri ro rw xasked zo_44 (nI nS) 0 zca_44 zpa_44 nS (fun _ => 0) (fun _ => 0) 0 zk_47 zkf_47 (fun _ => 1) (hns) (hf_47) (hb1) (by omega) (rfl)) (va_cwA 2 hts (my_gU k353 k355 k400 k401 k11 k402) rfl rfl rfl (hN.1 _ j354 rfl) (by decide +kernel) ⟨by rw [hR]; exact Nat.le_of_ble_eq_true rfl, by rw [hR]; exact Nat.le_of_ble_eq_true rfl⟩) (my_preV hK hN (hP.sub [6, 2, 3, 4, 10] rfl) (hD.sub [6, 2, 3, 4, 10] (by decide +kernel) rfl) 0 rfl rfl) rfl rfl hl.1 rfl (lv_room (Nat.le_of_ble_eq_true rfl)) d_RC_model_78 ⟨by rw [hR]; exact (show (0 + 1 + d_36 + d_44 + d_47) + 0 ≤ 1600 by omega), by rw [hR]; exact (show (0 + 3 + d_36 + d_44 + d_47) + 0 ≤ 1600 by omega)⟩) hP hD hS hA [6, 2, 3, 4, 10] [0, 1, 5, 7, 8, 9] rfl rfl (by decide +kernel) (by decide +kernel) (fun u9 H locs hw_78 hP hD hS => ?_)
        obtain ⟨ocfq_78, opfq_78⟩ := u9
        obtain ⟨hf_78, hl_78⟩ : tbI ocfq_78 nS (sc nS 512 (fun _ => 1)) ∧ layt opfq_78 (sc nS 512 (fun _ => 1)) nS (ns (sc nS 512 (fun _ => 1)) nS) := hw_78
        have hPD : my_PD (dC, dI) vwCl A [(rc, Sum.inr (6, [Value.ref co, Value.ref ma, Value.int (nI k), Value.int fit, Value.int fen, Value.int frd, Value.int fbd, Value.int fir])), (ma, Sum.inl (cM, 8, Sum.inr (Sum.inr (Sum.inr (Sum.inr mf))))), (q_4, Sum.inr (8, [Value.ref zk_47, Value.ref zo_36, Value.ref zo_44])), (zo_36, Sum.inr (7, [Value.int (nI nS), Value.int (nI (ns (sc nS 512 (fun _ => 1)) nS)), Value.int 0, Value.ref zca_36, Value.ref zpa_36])), (zca_36, Sum.inl (cI, nS, Sum.inl ocfq_63)), (zpa_36, Sum.inl (cI, 512, Sum.inl opfq_63)), (co, Sum.inr (5, [Value.long xx, Value.long xreadX, Value.ref soa, Value.ref sna, Value.ref swa, Value.int xkept, Value.ref ri, Value.ref ro, Value.ref rw, Value.int xasked])), (zo_44, Sum.inr (7, [Value.int (nI nS), Value.int (nI (ns (sc nS 512 (fun _ => 1)) nS)), Value.int 0, Value.ref zca_44, Value.ref zpa_44])), (zca_44, Sum.inl (cI, nS, Sum.inl ocfq_78)), (zpa_44, Sum.inl (cI, 512, Sum.inl opfq_78)), (zk_47, Sum.inl (cI, nS, Sum.inl zkf_47))] H := ⟨hP, hD⟩
        have hP := hPD.1
        have hD := hPD.2
        refine lv_aload_n hx hb d_RC_model_81 rfl (lv_at hl 1 rfl) ?_
        refine va_get (D := (dC, dI)) (ci := 6) (v := .ref ma) (C := "RangeCoders") (T := T_RC) (N := 8) hx hb hg in_RC hown hK hP 0 rfl rfl 1 (by decide) (hg _ k259) (fun _ h9 => h9) rfl d_RC_model_82 ?_
        refine lv_aload_n hx hb d_RC_model_85 rfl (lv_at hl 1 rfl) ?_
        refine va_get (D := (dC, dI)) (ci := 6) (v := .int (nI k)) (C := "RangeCoders") (T := T_RC) (N := 8) hx hb hg in_RC hown hK hP 0 rfl rfl 2 (by decide) (hg _ k260) (fun _ h9 => h9) rfl d_RC_model_86 ?_
        refine lv_aload_n hx hb d_RC_model_89 rfl (lv_at hl 0 rfl) ?_
        refine va_astq hx hb hK hP hD hS 1 1 2 8 rfl rfl rfl rfl (vp_in_nI hk (by decide)) d_RC_model_90 (fun H locs hP hD hS => ?_)
        have hPD : my_PD (dC, dI) vwCl A [(rc, Sum.inr (6, [Value.ref co, Value.ref ma, Value.int (nI k), Value.int fit, Value.int fen, Value.int frd, Value.int fbd, Value.int fir])), (ma, Sum.inl (cM, 8, Sum.inr (Sum.inr (Sum.inr (Sum.inr (va_up mf (nI k).toNatClampNeg (some q_4))))))), (q_4, Sum.inr (8, [Value.ref zk_47, Value.ref zo_36, Value.ref zo_44])), (zo_36, Sum.inr (7, [Value.int (nI nS), Value.int (nI (ns (sc nS 512 (fun _ => 1)) nS)), Value.int 0, Value.ref zca_36, Value.ref zpa_36])), (zca_36, Sum.inl (cI, nS, Sum.inl ocfq_63)), (zpa_36, Sum.inl (cI, 512, Sum.inl opfq_63)), (co, Sum.inr (5, [Value.long xx, Value.long xreadX, Value.ref soa, Value.ref sna, Value.ref swa, Value.int xkept, Value.ref ri, Value.ref ro, Value.ref rw, Value.int xasked])), (zo_44, Sum.inr (7, [Value.int (nI nS), Value.int (nI (ns (sc nS 512 (fun _ => 1)) nS)), Value.int 0, Value.ref zca_44, Value.ref zpa_44])), (zca_44, Sum.inl (cI, nS, Sum.inl ocfq_78)), (zpa_44, Sum.inl (cI, 512, Sum.inl opfq_78)), (zk_47, Sum.inl (cI, nS, Sum.inl zkf_47))] H := ⟨hP, hD⟩
        have hP := hPD.1
        have hD := hPD.2
        rw [nI_clamp (show k < 2 ^ 31 by omega)] at hP hD
        refine lv_aload_n hx hb d_RC_model_91 rfl (lv_at hl 1 rfl) ?_
        refine lv_dup hx hb d_RC_model_92 rfl ?_
        refine va_get (D := (dC, dI)) (ci := 6) (v := .int (nI k)) (C := "RangeCoders") (T := T_RC) (N := 8) hx hb hg in_RC hown hK hP 0 rfl rfl 2 (by decide) (hg _ k260) (fun _ h9 => h9) rfl d_RC_model_93 ?_
        refine lv_iconst (v := 1) hx hb d_RC_model_96 (by decide) ?_
        refine lv_iadd hx hb d_RC_model_97 ?_
        refine lv_topi (fun v_5 ev_5 => ?_)
        have z9 : v_5 = nI (k + 1) := by subst_vars; exact nI_1 _
        subst z9
        refine va_put (D := (dC, dI)) (ci := 6) (v := .int (nI (k + 1))) (ty := .int) (C := "RangeCoders") (T := T_RC) (N := 8) hx hb hg in_RC t_RC o_RC n_RC hown hK hP hD hS 0 rfl rfl 2 (by decide) (hg _ k260) (fun _ h9 => h9) rfl (by decide +kernel) rfl rfl (Nat.le_of_ble_eq_true rfl) d_RC_model_98 (fun H locs hP hD hS => ?_)
        have hPD : my_PD (dC, dI) vwCl A [(rc, Sum.inr (6, [Value.ref co, Value.ref ma, Value.int (nI (k + 1)), Value.int fit, Value.int fen, Value.int frd, Value.int fbd, Value.int fir])), (ma, Sum.inl (cM, 8, Sum.inr (Sum.inr (Sum.inr (Sum.inr (va_up mf k (some q_4))))))), (q_4, Sum.inr (8, [Value.ref zk_47, Value.ref zo_36, Value.ref zo_44])), (zo_36, Sum.inr (7, [Value.int (nI nS), Value.int (nI (ns (sc nS 512 (fun _ => 1)) nS)), Value.int 0, Value.ref zca_36, Value.ref zpa_36])), (zca_36, Sum.inl (cI, nS, Sum.inl ocfq_63)), (zpa_36, Sum.inl (cI, 512, Sum.inl opfq_63)), (co, Sum.inr (5, [Value.long xx, Value.long xreadX, Value.ref soa, Value.ref sna, Value.ref swa, Value.int xkept, Value.ref ri, Value.ref ro, Value.ref rw, Value.int xasked])), (zo_44, Sum.inr (7, [Value.int (nI nS), Value.int (nI (ns (sc nS 512 (fun _ => 1)) nS)), Value.int 0, Value.ref zca_44, Value.ref zpa_44])), (zca_44, Sum.inl (cI, nS, Sum.inl ocfq_78)), (zpa_44, Sum.inl (cI, 512, Sum.inl opfq_78)), (zk_47, Sum.inl (cI, nS, Sum.inl zkf_47))] H := ⟨hP, hD⟩
        have hP := hPD.1
        have hD := hPD.2
        refine lv_aload_n hx hb d_RC_model_101 rfl (lv_at hl 1 rfl) ?_
        refine va_get (D := (dC, dI)) (ci := 6) (v := .int (nI (k + 1))) (C := "RangeCoders") (T := T_RC) (N := 8) hx hb hg in_RC hown hK hP 0 rfl rfl 2 (by decide) (hg _ k260) (fun _ h9 => h9) rfl d_RC_model_102 ?_
        refine lv_iconst (v := 1) hx hb d_RC_model_105 (by decide) ?_
        refine lv_isub hx hb d_RC_model_106 ?_
        refine lv_topi (fun v_6 ev_6 => ?_)
        exact my_iretg (v := v_6) hx hb hr (rfl) hlocks hQ hK hS (q_4, zk_47, zkf_47, zo_36, zca_36, zpa_36, ocfq_63, opfq_63, zo_44, zca_44, zpa_44, ocfq_78, opfq_78) (show (0 + 1 + d_36 + d_44 + d_47) + 0 ≤ 1600 by omega) (show (0 + 3 + d_36 + d_44 + d_47) + 0 ≤ 1600 by omega) (⟨by subst_vars; exact nI_pred k, hf_47, hf_63, hl_63, hf_78, hl_78⟩) (hP.sub [0, 1, 6, 2, 10, 3, 4, 5, 7, 8, 9] rfl) (hD.sub [0, 1, 6, 2, 10, 3, 4, 5, 7, 8, 9] (by decide +kernel) rfl) d_RC_model_107
      · exact absurd (show nI k < nI 8 from nI_lt hk (by omega)) c_3
    · exact absurd (show nI nS ≤ nI 64 from nI_le hns (by omega)) c_2
end
section
/-! FORM 4: bits that are WRITTEN, and the bytes that they become -/
def bvL (v : Nat) : Nat → List Nat
  | 0 => []
  | k + 1 => bvL v k ++ [v / 2 ^ k % 2]
theorem bvL_len (v : Nat) : ∀ k, (bvL v k).length = k
  | 0 => rfl
  | k + 1 => by rw [bvL, List.length_append, List.length_singleton, bvL_len v k]
def t4N (f : Nat) : Nat → Nat × List Nat → Nat × List Nat
  | 0, r => r
  | k + 1, r => if 2 * f ≤ r.1 then t4N f k (r.1 / 2, r.2 ++ [r.1 % 2]) else r
theorem t4N_e {f k : Nat} {r : Nat × List Nat} (h : ¬ 2 * f ≤ r.1) : t4N f k r = r := by
  cases k with
  | zero => rfl
  | succ k => rw [t4N, if_neg h]
theorem t4N_s {f k : Nat} {r : Nat × List Nat} (h0 : 0 < k) (h : 2 * f ≤ r.1) : t4N f k r = t4N f (k - 1) (r.1 / 2, r.2 ++ [r.1 % 2]) := by
  cases k with
  | zero => omega
  | succ k => rw [t4N, if_pos h]; rfl
/-- the d-th PLACE of sign x -/
def plO (F : Nat → Nat) (n x d : Nat) : Nat := ((List.range 512).find? (fun p => decide (plc F n p = x ∧ num F n p = d))).getD 0
theorem plO_ok {F : Nat → Nat} {n x d : Nat} (hs : ns F n = 512) (hx : x < n) (hd : d < F x) : plO F n x d < 512 ∧ plc F n (plO F n x d) = x ∧ num F n (plO F n x d) = d := by
  obtain ⟨p, h1, h2, h3⟩ := pl_find hs hx hd
  unfold plO
  cases hf : (List.range 512).find? (fun p => decide (plc F n p = x ∧ num F n p = d)) with
  | none =>
    have := List.find?_eq_none.mp hf p (List.mem_range.mpr h1)
    exact absurd (decide_eq_true ⟨h2, h3⟩) this
  | some q =>
    have a := List.find?_some hf
    have b := List.mem_of_find?_eq_some hf
    have c := of_decide_eq_true a
    exact ⟨List.mem_range.mp b, c.1, c.2⟩
theorem plO_eq {F : Nat → Nat} {n x d p : Nat} (hs : ns F n = 512) (hp : p < 512) (h1 : plc F n p = x) (h2 : num F n p = d) (hx : x < n) : p = plO F n x d := by
  have hd : d < F x := by rw [← h2, ← h1]; exact num_lt hs hp
  obtain ⟨a, b, c⟩ := plO_ok hs hx hd
  generalize plO F n x d = q at a b c ⊢
  unfold num at h2 c
  rw [h1] at h2
  rw [b] at c
  rcases Nat.lt_trichotomy p q with z | z | z
  · have m := cn_mono (plc F n) x (show p + 1 ≤ q from z)
    rw [cn, if_pos h1] at m
    omega
  · exact z
  · have m := cn_mono (plc F n) x (show q + 1 ≤ p from z)
    rw [cn, if_pos b] at m
    omega
def t4I (F : Nat → Nat) (n t : Nat) (r : Nat × List Nat) : Nat × List Nat := (512 + plO F n t ((t4N (F t) 10 r).1 - F t), (t4N (F t) 10 r).2)
def e4I (Fn : Nat → Nat → Nat) (N : Nat → Nat) (it : It) (r : Nat × List Nat) : Nat × List Nat := if it.1 = 0 then (r.1, r.2 ++ bvL it.2.2 it.2.1) else t4I (Fn it.2.1) (N it.2.1) it.2.2 r
def e4N (Fn : Nat → Nat → Nat) (N : Nat → Nat) (its : List It) : Nat → Nat × List Nat → Nat × List Nat
  | 0, r => r
  | k + 1, r => e4N Fn N its k (e4I Fn N (itA its k) r)
/-- all bits that FORM 4 has WRITTEN at its end -/
def e4W (Fn : Nat → Nat → Nat) (N : Nat → Nat) (its : List It) : List Nat := (e4N Fn N its its.length (512, [])).2 ++ bvL ((e4N Fn N its its.length (512, [])).1 - 512) 9
/-- the bit that was WRITTEN i-th from the last -/
def rvB (ws : List Nat) (i : Nat) : Nat := if i < ws.length then ws.getD (ws.length - 1 - i) 0 else 0
def byW (ws : List Nat) (fm : Nat) : Nat → Nat
  | 0 => 0
  | k + 1 => 2 * byW ws fm k + rvB ws (fm + k)
def pkB (ws : List Nat) : Nat → List Nat
  | 0 => []
  | k + 1 => pkB ws k ++ [byW ws (8 * k) 8]
theorem pkB_len (ws : List Nat) : ∀ k, (pkB ws k).length = k
  | 0 => rfl
  | k + 1 => by rw [pkB, List.length_append, List.length_singleton, pkB_len ws k]
theorem rvB_lt {ws : List Nat} (h : bt2 ws) (i : Nat) : rvB ws i < 2 := by
  unfold rvB
  split
  · show byA ws _ < 2; exact bt2_at h
  · decide
theorem byW_lt {ws : List Nat} (h : bt2 ws) (fm : Nat) : ∀ k, byW ws fm k < 2 ^ k
  | 0 => Nat.lt_succ_self 0
  | k + 1 => by
    have a := byW_lt h fm k
    have b := rvB_lt h (fm + k)
    rw [byW, Nat.pow_succ]
    omega
/-- behind the last bit there are noughts -/
theorem byW_0 {ws : List Nat} {fm k : Nat} (h : ws.length ≤ fm + k) : ∀ d, byW ws fm (k + d) = byW ws fm k * 2 ^ d
  | 0 => by rw [Nat.pow_zero, Nat.mul_one]; rfl
  | d + 1 => by
    have e : byW ws fm (k + (d + 1)) = 2 * byW ws fm (k + d) + rvB ws (fm + (k + d)) := rfl
    rw [e, byW_0 h d]
    unfold rvB
    rw [if_neg (by omega), Nat.pow_succ, Nat.add_zero, Nat.mul_comm 2, Nat.mul_assoc]
theorem bt2_app {a b : List Nat} (ha : bt2 a) (hb : bt2 b) : bt2 (a ++ b) := by
  intro x hx
  rcases List.mem_append.mp hx with q | q
  · exact ha x q
  · exact hb x q
theorem bt2_bv (v : Nat) : ∀ k, bt2 (bvL v k)
  | 0 => fun x hx => absurd hx List.not_mem_nil
  | k + 1 => bt2_add (bt2_bv v k) (Nat.mod_lt _ (by decide))
theorem last_i {len i : Nat} (hl : len < 2 ^ 20) (hi : i < 2 ^ 20) : ((nI len - 1) - nI i).toInt = (len : Int) - 1 - i := by
  have e1 : (1 : Int32).toInt = 1 := rfl
  have a : (nI len - 1).toInt = (len : Int) - 1 := by
    rw [Int32.toInt_sub, nI_toInt (by omega), e1]
    apply Int.bmod_eq_of_le <;> omega
  rw [Int32.toInt_sub, a, nI_toInt (by omega)]
  apply Int.bmod_eq_of_le <;> omega
theorem rv_1 {ws : List Nat} {i : Nat} {v : Int32} (hl : ws.length < 2 ^ 20) (hi : i < 2 ^ 20) (ev : v = (nI ws.length - 1) - nI i) (h : 0 ≤ v ∧ v < nI ws.length) : rAt ws v = nI (rvB ws i) := by
  have a := last_i hl hi
  rw [← ev] at a
  have h0 := h.1
  rw [Int32.le_iff_toInt_le, a] at h0
  have e0 : (0 : Int32).toInt = 0 := rfl
  rw [e0] at h0
  have e : v = nI (ws.length - 1 - i) := Int32.toInt_inj.mp (by rw [a, nI_toInt (by omega)]; omega)
  rw [e, rAt_nI (by omega) (by omega)]
  unfold rvB
  rw [if_pos (by omega)]
theorem rv_0 {ws : List Nat} {i : Nat} {v : Int32} (hl : ws.length < 2 ^ 20) (hi : i < 2 ^ 20) (ev : v = (nI ws.length - 1) - nI i) (h : ¬ (0 ≤ v ∧ v < nI ws.length)) : rvB ws i = 0 := by
  have a := last_i hl hi
  rw [← ev] at a
  unfold rvB
  split
  · exfalso
    apply h
    have e0 : (0 : Int32).toInt = 0 := rfl
    rw [Int32.le_iff_toInt_le, Int32.lt_iff_toInt_lt, a, e0, nI_toInt (by omega)]
    omega
  · rfl
theorem pw_k {x k : Nat} (h : x < 2 ^ k) (h2 : 2 ≤ x) : 2 ≤ k := by
  rcases Nat.lt_or_ge k 2 with q | q
  · have : k = 0 ∨ k = 1 := by omega
    rcases this with e | e <;> subst e <;> omega
  · exact q
theorem pw_h {x k : Nat} (h : x < 2 ^ k) (hk : 1 ≤ k) : x / 2 < 2 ^ (k - 1) := by
  obtain ⟨q, rfl⟩ : ∃ q, k = q + 1 := ⟨k - 1, by omega⟩
  rw [Nat.add_sub_cancel]
  rw [Nat.pow_succ] at h
  omega
end
section
set_option maxHeartbeats 2000000 in
set_option maxRecDepth 100000 in
theorem f_Table_stackValue (l : Launch) (dC : Nat → ClassId) (dI : Nat → Nat → Nat) (cI cM cO : ClassId) (sz : Nat) (sl : Nat) (co : Nat) (xx : Int64) (xreadX : Int64) (soa : Nat) (sna : Nat) (swa : Nat) (xkept : Int32) (ri : Nat) (ro : Nat) (rw : Nat) (xasked : Int32) (rwa : Nat) (rwk : Nat) (rwf : Nat → Int32) (ws : List Nat) (v : Nat) (b : Nat) (hbw : b ≤ 12) (hv : v < 65536) (hrw : rOk (nI ws.length) rwk) (hGrw : gIs rwf ws) (hN9 : ws.length + 12 ≤ 8000) : MetVg l y_Table_stackValue (Cond.code y_Table_stackValue prog_12_method_8_code 4 none :: gw) ({ frames := 3, cells := rPh rwk, slots := rPh rwk, locals := 83 } : Room) (dC, dI) vwCl (kT cI cM cO) [Value.ref co, Value.int (nI v), Value.int (nI b)] [(co, Sum.inr (5, [Value.long xx, Value.long xreadX, Value.ref soa, Value.ref sna, Value.ref swa, Value.int xkept, Value.ref ri, Value.ref ro, Value.ref rw, Value.int xasked])), (rw, Sum.inr (0, [Value.int (nI ws.length), Value.ref rwa])), (rwa, Sum.inl (cI, rwk, Sum.inl rwf))] sz sl (fun (u : Nat × Nat × (Nat → Int32)) => rOk (nI (ws ++ bvL v b).length) u.2.1 ∧ gIs u.2.2 (ws ++ bvL v b)) (fun (u : Nat × Nat × (Nat → Int32)) => [(co, Sum.inr (5, [Value.long xx, Value.long xreadX, Value.ref soa, Value.ref sna, Value.ref swa, Value.int xkept, Value.ref ri, Value.ref ro, Value.ref rw, Value.int xasked])), (rw, Sum.inr (0, [Value.int (nI (ws ++ bvL v b).length), Value.ref u.1])), (u.1, Sum.inl (cI, u.2.1, Sum.inl u.2.2))]) (rPh rwk) (fun (u : Nat × Nat × (Nat → Int32)) => rPh u.2.1) := by
  refine my_ofVg (cc := prog_12_method_8_code) (n := 4) (ret := none) (by decide) rfl (Nat.le_of_ble_eq_true rfl) ?_
  intro p e s m args below meth c R Q A ls H locs hx hb hr hts hown hlocks hml hnm hR hQ hA hl hP hK hN hD hS
  have hg : ∀ w ∈ gw, w.before args s = true := fun w h => hts w (List.mem_cons_of_mem _ h)
  have hown : s.vm.findClass "RangeCoders$Table" = some m.cls := hown
  have hl : lv_has ls 4 [(0, Value.ref co), (1, Value.int (nI v)), (2, Value.int (nI b))] := hl
  have hltw := rOk_lt hrw
  refine lv_iconst (v := 0) hx hb d_Table_stackValue_0 (by decide) ?_
  refine lv_istore_n (lv' := [(3, Value.int 0), (0, Value.ref co), (1, Value.int (nI v)), (2, Value.int (nI b))]) hx hb d_Table_stackValue_1 rfl hl (by decide) rfl (fun ls hl => ?_)
  have J_2 : ∀ (n9_2 : Nat) (j : Nat) (b9 : List Nat) (rwa9 : Nat) (rwk9 : Nat) (rwf9 : Nat → Int32) (d9 : Nat) (hn9_2 : b - j = n9_2) (hj : j ≤ b) (hb9 : b9 = ws ++ bvL v j) (hr9 : rOk (nI b9.length) rwk9) (hg9 : gIs rwf9 b9) (hd9 : d9 + rPh rwk9 ≤ rPh rwk) (H : Heap) (locs : List Loc) (ls : Array Slot), va_P (dC, dI) vwCl [(co, Sum.inr (5, [Value.long xx, Value.long xreadX, Value.ref soa, Value.ref sna, Value.ref swa, Value.int xkept, Value.ref ri, Value.ref ro, Value.ref rw, Value.int xasked])), (rw, Sum.inr (0, [Value.int (nI b9.length), Value.ref rwa9])), (rwa9, Sum.inl (cI, rwk9, Sum.inl rwf9))] H → va_D A [(co, Sum.inr (5, [Value.long xx, Value.long xreadX, Value.ref soa, Value.ref sna, Value.ref swa, Value.int xkept, Value.ref ri, Value.ref ro, Value.ref rw, Value.int xasked])), (rw, Sum.inr (0, [Value.int (nI b9.length), Value.ref rwa9])), (rwa9, Sum.inl (cI, rwk9, Sum.inl rwf9))] → va_S A s.heap H locs → lv_has ls 4 [(3, Value.int (nI j)), (0, Value.ref co), (1, Value.int (nI v)), (2, Value.int (nI b))] → W p l e R s m args below meth c H locs d9 d9 Q (F0 m 2 ls []) := by
    intro n9_2
    induction n9_2 using Nat.strongRecOn with
    | ind n9_2 ih9_2 =>
      intro j b9 rwa9 rwk9 rwf9 d9 hn9_2 hj hb9 hr9 hg9 hd9 H locs ls hP hD hS hl
      have hbl : b9.length = ws.length + j := by rw [hb9, List.length_append, bvL_len]
      refine lv_iload_n hx hb d_Table_stackValue_2 rfl (lv_at hl 0 rfl) ?_
      refine lv_iload_n hx hb d_Table_stackValue_3 rfl (lv_at hl 3 rfl) ?_
      refine lv_icmp_ge (tgt := 25) hx hb d_Table_stackValue_4 (by decide) (fun c_1 => ?_) (fun c_1 => ?_)
      · have hj3 : b = j := by have := nI_ge' (by omega) (by omega) c_1; omega
        subst hj3
        have hPD : my_PD (dC, dI) vwCl A [(co, Sum.inr (5, [Value.long xx, Value.long xreadX, Value.ref soa, Value.ref sna, Value.ref swa, Value.int xkept, Value.ref ri, Value.ref ro, Value.ref rw, Value.int xasked])), (rw, Sum.inr (0, [Value.int (nI b9.length), Value.ref rwa9])), (rwa9, Sum.inl (cI, rwk9, Sum.inl rwf9))] H := ⟨hP, hD⟩
        have hP := hPD.1
        have hD := hPD.2
        have z9 : b9 = ws ++ bvL v b := hb9
        subst z9
        exact my_vretg hx hb hr hlocks hQ hK hS (rwa9, rwk9, rwf9) (show d9 + (rPh rwk9) ≤ (rPh rwk) by omega) (show d9 + (rPh rwk9) ≤ (rPh rwk) by omega) (⟨hr9, hg9⟩) (hP.sub [0, 1, 2] rfl) (hD.sub [0, 1, 2] (by decide +kernel) rfl) d_Table_stackValue_25
      · have hj2 : j < b := nI_lt' (by omega) c_1
        have hvl : v / 2 ^ j ≤ v := Nat.div_le_self _ _
        refine lv_aload_n hx hb d_Table_stackValue_7 rfl (lv_at hl 1 rfl) ?_
        refine va_get (D := (dC, dI)) (ci := 5) (v := .ref rw) (C := "RangeCoders$Table") (T := T_Table) (N := 10) hx hb hg in_Table hown hK hP 0 rfl rfl 8 (by decide) (hg _ k120) (fun x9 h9 => u_same (hg _ k121) x9 h9) rfl d_Table_stackValue_8 ?_
        refine lv_iload_n hx hb d_Table_stackValue_11 rfl (lv_at hl 2 rfl) ?_
        refine lv_iload_n hx hb d_Table_stackValue_12 rfl (lv_at hl 0 rfl) ?_
        refine lv_iushr hx hb d_Table_stackValue_13 rfl ?_
        refine lv_topi (fun v_2 ev_2 => ?_)
        refine lv_iconst (v := 1) hx hb d_Table_stackValue_14 (by decide) ?_
        refine lv_iand hx hb d_Table_stackValue_15 ?_
        refine lv_topi (fun v_3 ev_3 => ?_)
        have z9 : v_3 = nI (v / 2 ^ j % 2) := by subst_vars; rw [I_ushr (by omega) (by omega)]; exact I_and1 (by omega)
        subst z9
        refine my_cvg (wr := [(co, Sum.inr (5, [Value.long xx, Value.long xreadX, Value.ref soa, Value.ref sna, Value.ref swa, Value.int xkept, Value.ref ri, Value.ref ro, Value.ref rw, Value.int xasked]))]) (va_runV (As := [Value.int (nI (v / 2 ^ j % 2))]) (rest := []) ⟨hx, hb, hml, hown, hts⟩ (f_Row_add l dC dI cI cM cO H.size (hSl H) rw rwa9 rwk9 rwf9 b9 (v / 2 ^ j % 2) (hr9) (hg9) (by omega)) (cwV 1 hts (my_gV k629 k473 k474 k6 k475) rfl rfl rfl (by decide +kernel) ⟨by rw [hR]; exact Nat.le_of_ble_eq_true rfl, by rw [hR]; exact Nat.le_of_ble_eq_true rfl⟩) (my_preVg hK hN (hP.sub [1, 2] rfl) (hD.sub [1, 2] (by decide +kernel) rfl) 0 rfl rfl) rfl rfl hl.1 rfl (lv_room (Nat.le_of_ble_eq_true rfl)) d_Table_stackValue_16 ⟨by rw [hR]; exact (show d9 + (rPh rwk9) ≤ (rPh rwk) by omega), by rw [hR]; exact (show d9 + (rPh rwk9) ≤ (rPh rwk) by omega)⟩) hP hD hS hA [1, 2] [0] rfl rfl (by decide +kernel) (by decide +kernel) (fun u9 d_16 H locs hd_16 hw_16 hP hD hS => ?_)
        obtain ⟨rraq_16, rrkq_16, rrfq_16⟩ := u9
        obtain ⟨hrr_16, hGrr_16⟩ : rOk (nI (b9 ++ [(v / 2 ^ j % 2)]).length) rrkq_16 ∧ gIs rrfq_16 (b9 ++ [(v / 2 ^ j % 2)]) := hw_16
        have hd_16 : d_16 + (rPh rrkq_16) ≤ (rPh rwk9) := hd_16
        have hPD : my_PD (dC, dI) vwCl A [(co, Sum.inr (5, [Value.long xx, Value.long xreadX, Value.ref soa, Value.ref sna, Value.ref swa, Value.int xkept, Value.ref ri, Value.ref ro, Value.ref rw, Value.int xasked])), (rw, Sum.inr (0, [Value.int (nI (b9 ++ [(v / 2 ^ j % 2)]).length), Value.ref rraq_16])), (rraq_16, Sum.inl (cI, rrkq_16, Sum.inl rrfq_16))] H := ⟨hP, hD⟩
        have hP := hPD.1
        have hD := hPD.2
        obtain ⟨v_4, ev_4⟩ : ∃ y : Int32, y = (nI j) + (1) := ⟨_, rfl⟩
        refine lv_iinc (v := v_4) (lv' := [(3, Value.int v_4), (0, Value.ref co), (1, Value.int (nI v)), (2, Value.int (nI b))]) hx hb d_Table_stackValue_19 hl (k := 0) rfl (by rw [ev_4]; rfl) (by decide) rfl (fun ls hl => ?_)
        have z9 : v_4 = nI (j + 1) := by rw [ev_4]; exact nI_1 _
        subst z9
        refine lv_goto (tgt := 2) hx hb d_Table_stackValue_22 (by decide) ?_
        exact ih9_2 _ (by first | omega | (omega)) (j + 1) (b9 ++ [v / 2 ^ j % 2]) rraq_16 rrkq_16 rrfq_16 (d9 + d_16) rfl (by omega) (by rw [hb9, bvL, List.append_assoc]) (hrr_16) (hGrr_16) (by omega) H locs ls (hP.sub [0, 1, 2] rfl) (hD.sub [0, 1, 2] (by decide +kernel) rfl) hS (lv_sub hl [0, 1, 2, 3] rfl)
  exact J_2 _ (0 : Nat) ws rwa rwk rwf (0 : Nat) rfl (Nat.zero_le _) (by rw [bvL, List.append_nil]) (hrw) (hGrw) (by omega) H locs ls (hP.sub [0, 1, 2] rfl) (hD.sub [0, 1, 2] (by decide +kernel) rfl) hS (lv_sub hl [0, 1, 2, 3] rfl)
set_option maxHeartbeats 2000000 in
set_option maxRecDepth 100000 in
theorem f_Table_stackSign (l : Launch) (dC : Nat → ClassId) (dI : Nat → Nat → Nat) (cI cM cO : ClassId) (sz : Nat) (sl : Nat) (co : Nat) (xreadX : Int64) (soa : Nat) (sna : Nat) (swa : Nat) (xkept : Int32) (ri : Nat) (ro : Nat) (rw : Nat) (xasked : Int32) (rwa : Nat) (rwk : Nat) (rwf : Nat → Int32) (ws : List Nat) (oo : Nat) (osg : Int32) (ofc : Int32) (oca : Nat) (opa : Nat) (n : Nat) (ocf : Nat → Int32) (opf : Nat → Int32) (F : Nat → Nat) (osm : Int32) (t : Nat) (V : Nat) (hn : n ≤ 64) (hf : tbI ocf n F) (ht : t < n) (hfc : ofc ≤ nI t) (hFt : 0 < F t) (hsum : ns F n = 512) (hop : tbI opf 512 (plc F n)) (hV0 : 512 ≤ V) (hV1 : V < 1024) (hrw : rOk (nI ws.length) rwk) (hGrw : gIs rwf ws) (hN9 : ws.length + 12 ≤ 8000) : MetVg l y_Table_stackSign (Cond.code y_Table_stackSign prog_12_method_7_code 5 none :: gw) ({ frames := 3, cells := rPh rwk, slots := rPh rwk, locals := 83 } : Room) (dC, dI) vwCl (kT cI cM cO) [Value.ref co, Value.ref oo, Value.int (nI t)] [(co, Sum.inr (5, [Value.long (lN V), Value.long xreadX, Value.ref soa, Value.ref sna, Value.ref swa, Value.int xkept, Value.ref ri, Value.ref ro, Value.ref rw, Value.int xasked])), (rw, Sum.inr (0, [Value.int (nI ws.length), Value.ref rwa])), (rwa, Sum.inl (cI, rwk, Sum.inl rwf)), (oo, Sum.inr (7, [Value.int osg, Value.int osm, Value.int ofc, Value.ref oca, Value.ref opa])), (oca, Sum.inl (cI, n, Sum.inl ocf)), (opa, Sum.inl (cI, 512, Sum.inl opf))] sz sl (fun (u : Nat × Nat × (Nat → Int32)) => rOk (nI ((t4I F n t (V, ws)).2).length) u.2.1 ∧ gIs u.2.2 ((t4I F n t (V, ws)).2)) (fun (u : Nat × Nat × (Nat → Int32)) => [(co, Sum.inr (5, [Value.long (lN (t4I F n t (V, ws)).1), Value.long xreadX, Value.ref soa, Value.ref sna, Value.ref swa, Value.int xkept, Value.ref ri, Value.ref ro, Value.ref rw, Value.int xasked])), (rw, Sum.inr (0, [Value.int (nI (t4I F n t (V, ws)).2.length), Value.ref u.1])), (u.1, Sum.inl (cI, u.2.1, Sum.inl u.2.2)), (oo, Sum.inr (7, [Value.int osg, Value.int osm, Value.int ofc, Value.ref oca, Value.ref opa])), (oca, Sum.inl (cI, n, Sum.inl ocf)), (opa, Sum.inl (cI, 512, Sum.inl opf))]) (rPh rwk) (fun (u : Nat × Nat × (Nat → Int32)) => rPh u.2.1) := by
  refine my_ofVg (cc := prog_12_method_7_code) (n := 5) (ret := none) (by decide) rfl (Nat.le_of_ble_eq_true rfl) ?_
  intro p e s m args below meth c R Q A ls H locs hx hb hr hts hown hlocks hml hnm hR hQ hA hl hP hK hN hD hS
  have hg : ∀ w ∈ gw, w.before args s = true := fun w h => hts w (List.mem_cons_of_mem _ h)
  have hown : s.vm.findClass "RangeCoders$Table" = some m.cls := hown
  have hl : lv_has ls 5 [(0, Value.ref co), (1, Value.ref oo), (2, Value.int (nI t))] := hl
  have hltw := rOk_lt hrw
  have hng := ns_ge (F := F) ht
  refine lv_aload_n hx hb d_Table_stackSign_0 rfl (lv_at hl 1 rfl) ?_
  refine lv_iload_n hx hb d_Table_stackSign_1 rfl (lv_at hl 2 rfl) ?_
  refine my_ci (wr := [(co, Sum.inr (5, [Value.long (lN V), Value.long xreadX, Value.ref soa, Value.ref sna, Value.ref swa, Value.int xkept, Value.ref ri, Value.ref ro, Value.ref rw, Value.int xasked])), (rw, Sum.inr (0, [Value.int (nI ws.length), Value.ref rwa])), (rwa, Sum.inl (cI, rwk, Sum.inl rwf))]) (va_runV (As := [Value.int (nI t)]) (rest := []) ⟨hx, hb, hml, hown, hts⟩ (f_Odds_at l dC dI cI cM cO H.size oo osg ofc oca opa n ocf 512 opf osm t (by first | assumption | omega) (by decide) (by first | assumption | omega) (by first | assumption | omega)) (cwV 1 hts (my_gV k641 k436 k437 k14 k438) rfl rfl rfl (by decide +kernel) ⟨by rw [hR]; exact Nat.le_of_ble_eq_true rfl, by rw [hR]; exact Nat.le_of_ble_eq_true rfl⟩) (my_preV hK hN (hP.sub [3, 4, 5] rfl) (hD.sub [3, 4, 5] (by decide +kernel) rfl) 0 rfl rfl) rfl rfl hl.1 rfl (lv_room (Nat.le_of_ble_eq_true rfl)) d_Table_stackSign_2 ⟨by rw [hR]; exact (show 0 + 0 ≤ (rPh rwk) by omega), by rw [hR]; exact (show 0 + 0 ≤ (rPh rwk) by omega)⟩) hP hD hS hA [3, 4, 5] [0, 1, 2] rfl rfl (by decide +kernel) (by decide +kernel) (fun r_2 u9 H locs hw_2 hP hD hS => ?_)
  have hr_2 : r_2 = ocf t := hw_2
  have hPD : my_PD (dC, dI) vwCl A [(co, Sum.inr (5, [Value.long (lN V), Value.long xreadX, Value.ref soa, Value.ref sna, Value.ref swa, Value.int xkept, Value.ref ri, Value.ref ro, Value.ref rw, Value.int xasked])), (rw, Sum.inr (0, [Value.int (nI ws.length), Value.ref rwa])), (rwa, Sum.inl (cI, rwk, Sum.inl rwf)), (oo, Sum.inr (7, [Value.int osg, Value.int osm, Value.int ofc, Value.ref oca, Value.ref opa])), (oca, Sum.inl (cI, n, Sum.inl ocf)), (opa, Sum.inl (cI, 512, Sum.inl opf))] H := ⟨hP, hD⟩
  have hP := hPD.1
  have hD := hPD.2
  rw [hf t ht] at hr_2
  have z9 : r_2 = nI (F t) := hr_2
  subst z9
  refine lv_istore_n (lv' := [(3, Value.int (nI (F t))), (0, Value.ref co), (1, Value.ref oo), (2, Value.int (nI t))]) hx hb d_Table_stackSign_5 rfl hl (by decide) rfl (fun ls hl => ?_)
  refine lv_iconst (v := 0) hx hb d_Table_stackSign_6 (by decide) ?_
  refine lv_istore (lv' := [(4, Value.int 0), (3, Value.int (nI (F t))), (0, Value.ref co), (1, Value.ref oo), (2, Value.int (nI t))]) hx hb d_Table_stackSign_7 hl (by decide) rfl (fun ls hl => ?_)
  have J_9 : ∀ (n9_9 : Nat) (e9 : Nat × List Nat) (k9 : Nat) (rwa9 : Nat) (rwk9 : Nat) (rwf9 : Nat → Int32) (d9 : Nat) (hn9_9 : k9 = n9_9) (hE9 : t4N (F t) 10 (V, ws) = t4N (F t) k9 e9) (hk1 : k9 ≤ 10) (hf9 : F t ≤ e9.1) (hx9 : e9.1 < 2 ^ k9) (hx8 : e9.1 < 1024) (hM9 : e9.2.length + k9 ≤ ws.length + 10) (hr9 : rOk (nI e9.2.length) rwk9) (hg9 : gIs rwf9 e9.2) (hd9 : d9 + rPh rwk9 ≤ rPh rwk) (H : Heap) (locs : List Loc) (ls : Array Slot), va_P (dC, dI) vwCl [(co, Sum.inr (5, [Value.long (lN e9.1), Value.long xreadX, Value.ref soa, Value.ref sna, Value.ref swa, Value.int xkept, Value.ref ri, Value.ref ro, Value.ref rw, Value.int xasked])), (rw, Sum.inr (0, [Value.int (nI e9.2.length), Value.ref rwa9])), (rwa9, Sum.inl (cI, rwk9, Sum.inl rwf9)), (oo, Sum.inr (7, [Value.int osg, Value.int osm, Value.int ofc, Value.ref oca, Value.ref opa])), (oca, Sum.inl (cI, n, Sum.inl ocf)), (opa, Sum.inl (cI, 512, Sum.inl opf))] H → va_D A [(co, Sum.inr (5, [Value.long (lN e9.1), Value.long xreadX, Value.ref soa, Value.ref sna, Value.ref swa, Value.int xkept, Value.ref ri, Value.ref ro, Value.ref rw, Value.int xasked])), (rw, Sum.inr (0, [Value.int (nI e9.2.length), Value.ref rwa9])), (rwa9, Sum.inl (cI, rwk9, Sum.inl rwf9)), (oo, Sum.inr (7, [Value.int osg, Value.int osm, Value.int ofc, Value.ref oca, Value.ref opa])), (oca, Sum.inl (cI, n, Sum.inl ocf)), (opa, Sum.inl (cI, 512, Sum.inl opf))] → va_S A s.heap H locs → lv_has ls 5 [(4, Value.int (nI (10 - k9))), (3, Value.int (nI (F t))), (0, Value.ref co), (1, Value.ref oo), (2, Value.int (nI t))] → W p l e R s m args below meth c H locs d9 d9 Q (F0 m 9 ls []) := by
    intro n9_9
    induction n9_9 using Nat.strongRecOn with
    | ind n9_9 ih9_9 =>
      intro e9 k9 rwa9 rwk9 rwf9 d9 hn9_9 hE9 hk1 hf9 hx9 hx8 hM9 hr9 hg9 hd9 H locs ls hP hD hS hl
      have hk0 : 1 ≤ k9 := by
        rcases Nat.eq_zero_or_pos k9 with z | z
        · subst z; have : e9.1 < 1 := hx9; omega
        · exact z
      refine lv_iload hx hb d_Table_stackSign_9 (lv_at hl 0 rfl) ?_
      refine lv_bipush (v := 9) hx hb d_Table_stackSign_11 (by decide) ?_
      refine lv_icmp_gt (tgt := 60) hx hb d_Table_stackSign_13 (by decide) (fun c_1 => ?_) (fun c_1 => ?_)
      · exact absurd c_1 (Int32.not_lt.mpr (nI_le (b := 9) (show 10 - k9 ≤ 9 by omega) (by decide)))
      · refine lv_aload_n hx hb d_Table_stackSign_16 rfl (lv_at hl 2 rfl) ?_
        refine va_get (D := (dC, dI)) (ci := 5) (v := .long (lN e9.1)) (C := "RangeCoders$Table") (T := T_Table) (N := 10) hx hb hg in_Table hown hK hP 0 rfl rfl 0 (by decide) (hg _ k213) (fun x9 h9 => u_same (hg _ k214) x9 h9) rfl d_Table_stackSign_17 ?_
        refine lv_ldc2 (v := 2) hx hb hown (hg _ k642) d_Table_stackSign_20 ?_
        refine lv_iload_n hx hb d_Table_stackSign_23 rfl (lv_at hl 1 rfl) ?_
        refine lv_i2l hx hb d_Table_stackSign_24 rfl ?_
        refine lv_topl (fun v_2 ev_2 => ?_)
        refine lv_lmul hx hb d_Table_stackSign_25 ?_
        refine lv_topl (fun v_3 ev_3 => ?_)
        have z9 : v_3 = lN (2 * F t) := by subst_vars; rw [nI_l (by omega)]; exact lN_mul 2 (F t)
        subst z9
        refine W.lcmp hx hb d_Table_stackSign_26 ?_
        refine lv_if_lt (tgt := 60) hx hb d_Table_stackSign_27 (by decide) (fun c_4 => ?_) (fun c_4 => ?_)
        · rw [lg_cmp_lt] at c_4
          have hlt : ¬ 2 * F t ≤ e9.1 := by have q := (L_lt (by omega) (by omega)).mp c_4; omega
          have hx7 : t4N (F t) 10 (V, ws) = e9 := by rw [hE9, t4N_e hlt]
          obtain ⟨hq1, hq2, hq3⟩ := plO_ok (d := e9.1 - F t) hsum ht (by omega)
          have hq4 : cn (plc F n) t (plO F n t (e9.1 - F t)) = e9.1 - F t := by have z9 := hq3; unfold num at z9; rw [hq2] at z9; exact z9
          have hq5 : ∀ p, p < 512 → plc F n p < 64 := fun p _ => Nat.lt_of_lt_of_le (plc_lt hsum) hn
          refine lv_aload_n hx hb d_Table_stackSign_60 rfl (lv_at hl 2 rfl) ?_
          refine lv_sipush (v := 512) hx hb d_Table_stackSign_61 (by decide) ?_
          refine lv_aload_n hx hb d_Table_stackSign_64 rfl (lv_at hl 3 rfl) ?_
          refine lv_iload_n hx hb d_Table_stackSign_65 rfl (lv_at hl 4 rfl) ?_
          refine lv_aload_n hx hb d_Table_stackSign_66 rfl (lv_at hl 2 rfl) ?_
          refine va_get (D := (dC, dI)) (ci := 5) (v := .long (lN e9.1)) (C := "RangeCoders$Table") (T := T_Table) (N := 10) hx hb hg in_Table hown hK hP 0 rfl rfl 0 (by decide) (hg _ k213) (fun x9 h9 => u_same (hg _ k214) x9 h9) rfl d_Table_stackSign_67 ?_
          refine lv_l2i hx hb d_Table_stackSign_70 rfl ?_
          refine lv_topi (fun v_5 ev_5 => ?_)
          refine lv_iload_n hx hb d_Table_stackSign_71 rfl (lv_at hl 1 rfl) ?_
          refine lv_isub hx hb d_Table_stackSign_72 ?_
          refine lv_topi (fun v_6 ev_6 => ?_)
          have z9 : v_6 = nI (e9.1 - F t) := by subst_vars; rw [lN_i]; exact pk_sub hf9
          subst z9
          refine my_ci (wr := [(co, Sum.inr (5, [Value.long (lN e9.1), Value.long xreadX, Value.ref soa, Value.ref sna, Value.ref swa, Value.int xkept, Value.ref ri, Value.ref ro, Value.ref rw, Value.int xasked])), (rw, Sum.inr (0, [Value.int (nI e9.2.length), Value.ref rwa9])), (rwa9, Sum.inl (cI, rwk9, Sum.inl rwf9))]) (va_runV (As := [Value.int (nI t), Value.int (nI (e9.1 - F t))]) (rest := [Value.int 512, Value.ref co]) ⟨hx, hb, hml, hown, hts⟩ (f_Odds_placeOf l dC dI cI cM cO H.size oo osg ofc oca opa n ocf 512 opf osm (plc F n) t (e9.1 - F t) (plO F n t (e9.1 - F t)) (by first | assumption | omega) (by decide) (by first | assumption | omega) (hq5) (by omega) (hq1) (hq2) (hq4)) (cwV 2 hts (my_gV k643 k644 k645 k14 k646) rfl rfl rfl (by decide +kernel) ⟨by rw [hR]; exact Nat.le_of_ble_eq_true rfl, by rw [hR]; exact Nat.le_of_ble_eq_true rfl⟩) (my_preV hK hN (hP.sub [3, 4, 5] rfl) (hD.sub [3, 4, 5] (by decide +kernel) rfl) 0 rfl rfl) rfl rfl hl.1 rfl (lv_room (Nat.le_of_ble_eq_true rfl)) d_Table_stackSign_73 ⟨by rw [hR]; exact (show d9 + 0 ≤ (rPh rwk) by omega), by rw [hR]; exact (show d9 + 0 ≤ (rPh rwk) by omega)⟩) hP hD hS hA [3, 4, 5] [0, 1, 2] rfl rfl (by decide +kernel) (by decide +kernel) (fun r_73 u9 H locs hw_73 hP hD hS => ?_)
          have hr_73 : r_73 = nI (plO F n t (e9.1 - F t)) := hw_73
          have hPD : my_PD (dC, dI) vwCl A [(co, Sum.inr (5, [Value.long (lN e9.1), Value.long xreadX, Value.ref soa, Value.ref sna, Value.ref swa, Value.int xkept, Value.ref ri, Value.ref ro, Value.ref rw, Value.int xasked])), (rw, Sum.inr (0, [Value.int (nI e9.2.length), Value.ref rwa9])), (rwa9, Sum.inl (cI, rwk9, Sum.inl rwf9)), (oo, Sum.inr (7, [Value.int osg, Value.int osm, Value.int ofc, Value.ref oca, Value.ref opa])), (oca, Sum.inl (cI, n, Sum.inl ocf)), (opa, Sum.inl (cI, 512, Sum.inl opf))] H := ⟨hP, hD⟩
          have hP := hPD.1
          have hD := hPD.2
          have z9 : r_73 = nI (plO F n t (e9.1 - F t)) := hr_73
          subst z9
          refine lv_iadd hx hb d_Table_stackSign_76 ?_
          refine lv_topi (fun v_7 ev_7 => ?_)
          refine lv_i2l hx hb d_Table_stackSign_77 rfl ?_
          refine lv_topl (fun v_8 ev_8 => ?_)
          have z9 : v_8 = lN (t4I F n t (V, ws)).1 := by unfold t4I; rw [hx7, ev_8, ev_7, show (512 : Int32) + nI (plO F n t (e9.1 - F t)) = nI (512 + plO F n t (e9.1 - F t)) from nI_add 512 _]; exact nI_l (by omega)
          subst z9
          have hsu : (nI e9.2.length : Int32) = nI (t4I F n t (V, ws)).2.length := by unfold t4I; rw [hx7]
          rw [hsu] at hP hD
          have hPD : my_PD (dC, dI) vwCl A [(co, Sum.inr (5, [Value.long (lN e9.1), Value.long xreadX, Value.ref soa, Value.ref sna, Value.ref swa, Value.int xkept, Value.ref ri, Value.ref ro, Value.ref rw, Value.int xasked])), (rw, Sum.inr (0, [Value.int (nI (t4I F n t (V, ws)).2.length), Value.ref rwa9])), (rwa9, Sum.inl (cI, rwk9, Sum.inl rwf9)), (oo, Sum.inr (7, [Value.int osg, Value.int osm, Value.int ofc, Value.ref oca, Value.ref opa])), (oca, Sum.inl (cI, n, Sum.inl ocf)), (opa, Sum.inl (cI, 512, Sum.inl opf))] H := ⟨hP, hD⟩
          have hP := hPD.1
          have hD := hPD.2
          refine va_put (D := (dC, dI)) (ci := 5) (v := .long (lN (t4I F n t (V, ws)).1)) (ty := .long) (C := "RangeCoders$Table") (T := T_Table) (N := 10) hx hb hg in_Table t_Table o_Table n_Table hown hK hP hD hS 0 rfl rfl 0 (by decide) (hg _ k213) (fun x9 h9 => u_same (hg _ k214) x9 h9) rfl (by decide +kernel) rfl rfl (Nat.le_of_ble_eq_true rfl) d_Table_stackSign_78 (fun H locs hP hD hS => ?_)
          have hPD : my_PD (dC, dI) vwCl A [(co, Sum.inr (5, [Value.long (lN (t4I F n t (V, ws)).1), Value.long xreadX, Value.ref soa, Value.ref sna, Value.ref swa, Value.int xkept, Value.ref ri, Value.ref ro, Value.ref rw, Value.int xasked])), (rw, Sum.inr (0, [Value.int (nI (t4I F n t (V, ws)).2.length), Value.ref rwa9])), (rwa9, Sum.inl (cI, rwk9, Sum.inl rwf9)), (oo, Sum.inr (7, [Value.int osg, Value.int osm, Value.int ofc, Value.ref oca, Value.ref opa])), (oca, Sum.inl (cI, n, Sum.inl ocf)), (opa, Sum.inl (cI, 512, Sum.inl opf))] H := ⟨hP, hD⟩
          have hP := hPD.1
          have hD := hPD.2
          exact my_vretg hx hb hr hlocks hQ hK hS (rwa9, rwk9, rwf9) (show d9 + (rPh rwk9) ≤ (rPh rwk) by omega) (show d9 + (rPh rwk9) ≤ (rPh rwk) by omega) (⟨by unfold t4I; rw [hx7]; exact hr9, by unfold t4I; rw [hx7]; exact hg9⟩) (hP.sub [0, 1, 2, 3, 4, 5] rfl) (hD.sub [0, 1, 2, 3, 4, 5] (by decide +kernel) rfl) d_Table_stackSign_81
        · rw [lg_cmp_lt] at c_4
          have hge : 2 * F t ≤ e9.1 := by
            rcases Nat.lt_or_ge e9.1 (2 * F t) with q | q
            · exact absurd ((L_lt (by omega) (by omega)).mpr q) c_4
            · exact q
          have hk7 := pw_k hx9 (by omega)
          refine lv_aload_n hx hb d_Table_stackSign_30 rfl (lv_at hl 2 rfl) ?_
          refine va_get (D := (dC, dI)) (ci := 5) (v := .ref rw) (C := "RangeCoders$Table") (T := T_Table) (N := 10) hx hb hg in_Table hown hK hP 0 rfl rfl 8 (by decide) (hg _ k120) (fun x9 h9 => u_same (hg _ k121) x9 h9) rfl d_Table_stackSign_31 ?_
          refine lv_aload_n hx hb d_Table_stackSign_34 rfl (lv_at hl 2 rfl) ?_
          refine va_get (D := (dC, dI)) (ci := 5) (v := .long (lN e9.1)) (C := "RangeCoders$Table") (T := T_Table) (N := 10) hx hb hg in_Table hown hK hP 0 rfl rfl 0 (by decide) (hg _ k213) (fun x9 h9 => u_same (hg _ k214) x9 h9) rfl d_Table_stackSign_35 ?_
          refine lv_lconst (v := 1) hx hb d_Table_stackSign_38 (by decide) ?_
          refine lv_land hx hb d_Table_stackSign_39 ?_
          refine lv_topl (fun v_9 ev_9 => ?_)
          refine lv_l2i hx hb d_Table_stackSign_40 rfl ?_
          refine lv_topi (fun v_10 ev_10 => ?_)
          have z9 : v_10 = nI (e9.1 % 2) := by subst_vars; rw [wb_a1 (by omega)]; exact lN_i _
          subst z9
          refine my_cvg (wr := [(co, Sum.inr (5, [Value.long (lN e9.1), Value.long xreadX, Value.ref soa, Value.ref sna, Value.ref swa, Value.int xkept, Value.ref ri, Value.ref ro, Value.ref rw, Value.int xasked])), (oo, Sum.inr (7, [Value.int osg, Value.int osm, Value.int ofc, Value.ref oca, Value.ref opa])), (oca, Sum.inl (cI, n, Sum.inl ocf)), (opa, Sum.inl (cI, 512, Sum.inl opf))]) (va_runV (As := [Value.int (nI (e9.1 % 2))]) (rest := []) ⟨hx, hb, hml, hown, hts⟩ (f_Row_add l dC dI cI cM cO H.size (hSl H) rw rwa9 rwk9 rwf9 e9.2 (e9.1 % 2) (hr9) (hg9) (by omega)) (cwV 1 hts (my_gV k629 k473 k474 k6 k475) rfl rfl rfl (by decide +kernel) ⟨by rw [hR]; exact Nat.le_of_ble_eq_true rfl, by rw [hR]; exact Nat.le_of_ble_eq_true rfl⟩) (my_preVg hK hN (hP.sub [1, 2] rfl) (hD.sub [1, 2] (by decide +kernel) rfl) 0 rfl rfl) rfl rfl hl.1 rfl (lv_room (Nat.le_of_ble_eq_true rfl)) d_Table_stackSign_41 ⟨by rw [hR]; exact (show d9 + (rPh rwk9) ≤ (rPh rwk) by omega), by rw [hR]; exact (show d9 + (rPh rwk9) ≤ (rPh rwk) by omega)⟩) hP hD hS hA [1, 2] [0, 3, 4, 5] rfl rfl (by decide +kernel) (by decide +kernel) (fun u9 d_41 H locs hd_41 hw_41 hP hD hS => ?_)
          obtain ⟨rraq_41, rrkq_41, rrfq_41⟩ := u9
          obtain ⟨hrr_41, hGrr_41⟩ : rOk (nI (e9.2 ++ [(e9.1 % 2)]).length) rrkq_41 ∧ gIs rrfq_41 (e9.2 ++ [(e9.1 % 2)]) := hw_41
          have hd_41 : d_41 + (rPh rrkq_41) ≤ (rPh rwk9) := hd_41
          have hPD : my_PD (dC, dI) vwCl A [(co, Sum.inr (5, [Value.long (lN e9.1), Value.long xreadX, Value.ref soa, Value.ref sna, Value.ref swa, Value.int xkept, Value.ref ri, Value.ref ro, Value.ref rw, Value.int xasked])), (oo, Sum.inr (7, [Value.int osg, Value.int osm, Value.int ofc, Value.ref oca, Value.ref opa])), (oca, Sum.inl (cI, n, Sum.inl ocf)), (opa, Sum.inl (cI, 512, Sum.inl opf)), (rw, Sum.inr (0, [Value.int (nI (e9.2 ++ [(e9.1 % 2)]).length), Value.ref rraq_41])), (rraq_41, Sum.inl (cI, rrkq_41, Sum.inl rrfq_41))] H := ⟨hP, hD⟩
          have hP := hPD.1
          have hD := hPD.2
          refine lv_aload_n hx hb d_Table_stackSign_44 rfl (lv_at hl 2 rfl) ?_
          refine lv_dup hx hb d_Table_stackSign_45 rfl ?_
          refine va_get (D := (dC, dI)) (ci := 5) (v := .long (lN e9.1)) (C := "RangeCoders$Table") (T := T_Table) (N := 10) hx hb hg in_Table hown hK hP 0 rfl rfl 0 (by decide) (hg _ k213) (fun x9 h9 => u_same (hg _ k214) x9 h9) rfl d_Table_stackSign_46 ?_
          refine lv_iconst (v := 1) hx hb d_Table_stackSign_49 (by decide) ?_
          refine lv_lushr hx hb d_Table_stackSign_50 rfl ?_
          refine lv_topl (fun v_11 ev_11 => ?_)
          have z9 : v_11 = lN (e9.1 / 2) := by rw [ev_11]; exact U_shr1 (by omega)
          subst z9
          refine va_put (D := (dC, dI)) (ci := 5) (v := .long (lN (e9.1 / 2))) (ty := .long) (C := "RangeCoders$Table") (T := T_Table) (N := 10) hx hb hg in_Table t_Table o_Table n_Table hown hK hP hD hS 0 rfl rfl 0 (by decide) (hg _ k213) (fun x9 h9 => u_same (hg _ k214) x9 h9) rfl (by decide +kernel) rfl rfl (Nat.le_of_ble_eq_true rfl) d_Table_stackSign_51 (fun H locs hP hD hS => ?_)
          have hPD : my_PD (dC, dI) vwCl A [(co, Sum.inr (5, [Value.long (lN (e9.1 / 2)), Value.long xreadX, Value.ref soa, Value.ref sna, Value.ref swa, Value.int xkept, Value.ref ri, Value.ref ro, Value.ref rw, Value.int xasked])), (oo, Sum.inr (7, [Value.int osg, Value.int osm, Value.int ofc, Value.ref oca, Value.ref opa])), (oca, Sum.inl (cI, n, Sum.inl ocf)), (opa, Sum.inl (cI, 512, Sum.inl opf)), (rw, Sum.inr (0, [Value.int (nI (e9.2 ++ [(e9.1 % 2)]).length), Value.ref rraq_41])), (rraq_41, Sum.inl (cI, rrkq_41, Sum.inl rrfq_41))] H := ⟨hP, hD⟩
          have hP := hPD.1
          have hD := hPD.2
          obtain ⟨v_12, ev_12⟩ : ∃ y : Int32, y = (nI (10 - k9)) + (1) := ⟨_, rfl⟩
          refine lv_iinc (v := v_12) (lv' := [(4, Value.int v_12), (3, Value.int (nI (F t))), (0, Value.ref co), (1, Value.ref oo), (2, Value.int (nI t))]) hx hb d_Table_stackSign_54 hl (k := 0) rfl (by rw [ev_12]; rfl) (by decide) rfl (fun ls hl => ?_)
          have z9 : v_12 = nI (10 - (k9 - 1)) := by rw [ev_12, show 10 - (k9 - 1) = 10 - k9 + 1 by omega]; exact nI_1 _
          subst z9
          refine lv_goto (tgt := 9) hx hb d_Table_stackSign_57 (by decide) ?_
          exact ih9_9 _ (by first | omega | (omega)) (e9.1 / 2, e9.2 ++ [e9.1 % 2]) (k9 - 1) rraq_41 rrkq_41 rrfq_41 (d9 + d_41) rfl (by rw [hE9, t4N_s (by omega) hge]) (by omega) (by show F t ≤ e9.1 / 2; omega) (pw_h hx9 (by omega)) (by show e9.1 / 2 < 1024; omega) (by show (e9.2 ++ [_]).length + (k9 - 1) ≤ _; rw [List.length_append, List.length_singleton]; omega) (hrr_41) (hGrr_41) (by omega) H locs ls (hP.sub [0, 4, 5, 1, 2, 3] rfl) (hD.sub [0, 4, 5, 1, 2, 3] (by decide +kernel) rfl) hS (lv_sub hl [0, 1, 2, 3, 4] rfl)
  exact J_9 _ (V, ws) (10 : Nat) rwa rwk rwf (0 : Nat) rfl (rfl) (by decide) (by show F t ≤ V; omega) (hV1) (hV1) (Nat.le_refl _) (hrw) (hGrw) (by omega) H locs ls (hP.sub [0, 1, 2, 3, 4, 5] rfl) (hD.sub [0, 1, 2, 3, 4, 5] (by decide +kernel) rfl) hS (lv_sub hl [0, 1, 2, 3, 4] rfl)
set_option maxHeartbeats 2000000 in
set_option maxRecDepth 100000 in
theorem f_Table_byteOfWritten (l : Launch) (dC : Nat → ClassId) (dI : Nat → Nat → Nat) (cI cM cO : ClassId) (sz : Nat) (co : Nat) (xx : Int64) (xreadX : Int64) (soa : Nat) (sna : Nat) (swa : Nat) (xkept : Int32) (ri : Nat) (ro : Nat) (rw : Nat) (xasked : Int32) (rwa : Nat) (rwk : Nat) (rwf : Nat → Int32) (ws : List Nat) (fm : Nat) (hrw : rOk (nI ws.length) rwk) (hGrw : gIs rwf ws) (hN9 : ws.length ≤ 8000) (hfm : fm ≤ 8000) (hb2 : bt2 ws) : MetI l y_Table_byteOfWritten (Cond.code y_Table_byteOfWritten prog_12_method_13_code 5 (some .int) :: gw) ({ frames := 2, cells := 0, slots := 0, locals := 42 } : Room) (dC, dI) vwCl (kT cI cM cO) [Value.ref co, Value.int (nI fm)] [(co, Sum.inr (5, [Value.long xx, Value.long xreadX, Value.ref soa, Value.ref sna, Value.ref swa, Value.int xkept, Value.ref ri, Value.ref ro, Value.ref rw, Value.int xasked])), (rw, Sum.inr (0, [Value.int (nI ws.length), Value.ref rwa])), (rwa, Sum.inl (cI, rwk, Sum.inl rwf))] sz (fun (r : Int32) (u : Unit) => r = nI (byW ws fm 8)) (fun (u : Unit) => [(co, Sum.inr (5, [Value.long xx, Value.long xreadX, Value.ref soa, Value.ref sna, Value.ref swa, Value.int xkept, Value.ref ri, Value.ref ro, Value.ref rw, Value.int xasked])), (rw, Sum.inr (0, [Value.int (nI ws.length), Value.ref rwa])), (rwa, Sum.inl (cI, rwk, Sum.inl rwf))]) 0 0 := by
  refine my_ofI (cc := prog_12_method_13_code) (n := 5) (ret := (some .int)) (by decide) rfl (Nat.le_of_ble_eq_true rfl) ?_
  intro p e s m args below meth c R Q A ls H locs hx hb hr hts hown hlocks hml hnm hR hQ hA hl hP hK hN hD hS
  have hg : ∀ w ∈ gw, w.before args s = true := fun w h => hts w (List.mem_cons_of_mem _ h)
  have hown : s.vm.findClass "RangeCoders$Table" = some m.cls := hown
  have hl : lv_has ls 5 [(0, Value.ref co), (1, Value.int (nI fm))] := hl
  have hltw := rOk_lt hrw
  refine lv_iconst (v := 0) hx hb d_Table_byteOfWritten_0 (by decide) ?_
  refine lv_istore_n (lv' := [(2, Value.int 0), (0, Value.ref co), (1, Value.int (nI fm))]) hx hb d_Table_byteOfWritten_1 rfl hl (by decide) rfl (fun ls hl => ?_)
  refine lv_iload_n hx hb d_Table_byteOfWritten_2 rfl (lv_at hl 2 rfl) ?_
  refine lv_istore_n (lv' := [(3, Value.int (nI fm)), (2, Value.int 0), (0, Value.ref co), (1, Value.int (nI fm))]) hx hb d_Table_byteOfWritten_3 rfl hl (by decide) rfl (fun ls hl => ?_)
  have J_4 : ∀ (n9_4 : Nat) (j : Nat) (hn9_4 : 8 - j = n9_4) (hj : j ≤ 8) (H : Heap) (locs : List Loc) (ls : Array Slot), va_P (dC, dI) vwCl [(co, Sum.inr (5, [Value.long xx, Value.long xreadX, Value.ref soa, Value.ref sna, Value.ref swa, Value.int xkept, Value.ref ri, Value.ref ro, Value.ref rw, Value.int xasked])), (rw, Sum.inr (0, [Value.int (nI ws.length), Value.ref rwa])), (rwa, Sum.inl (cI, rwk, Sum.inl rwf))] H → va_D A [(co, Sum.inr (5, [Value.long xx, Value.long xreadX, Value.ref soa, Value.ref sna, Value.ref swa, Value.int xkept, Value.ref ri, Value.ref ro, Value.ref rw, Value.int xasked])), (rw, Sum.inr (0, [Value.int (nI ws.length), Value.ref rwa])), (rwa, Sum.inl (cI, rwk, Sum.inl rwf))] → va_S A s.heap H locs → lv_has ls 5 [(3, Value.int (nI (fm + j))), (2, Value.int (nI (byW ws fm j))), (0, Value.ref co), (1, Value.int (nI fm))] → W p l e R s m args below meth c H locs 0 0 Q (F0 m 4 ls []) := by
    intro n9_4
    induction n9_4 using Nat.strongRecOn with
    | ind n9_4 ih9_4 =>
      intro j hn9_4 hj H locs ls hP hD hS hl
      have hbw := byW_lt hb2 fm j
      have hbp : 2 ^ j ≤ 256 := Nat.pow_le_pow_right (n := 2) (by decide) hj
      refine lv_iload_n hx hb d_Table_byteOfWritten_4 rfl (lv_at hl 0 rfl) ?_
      refine lv_iload_n hx hb d_Table_byteOfWritten_5 rfl (lv_at hl 3 rfl) ?_
      refine lv_bipush (v := 8) hx hb d_Table_byteOfWritten_6 (by decide) ?_
      refine lv_iadd hx hb d_Table_byteOfWritten_8 ?_
      refine lv_topi (fun v_1 ev_1 => ?_)
      have z9 : v_1 = nI (fm + 8) := by rw [ev_1]; exact nI_add fm 8
      subst z9
      refine lv_icmp_ge (tgt := 61) hx hb d_Table_byteOfWritten_9 (by decide) (fun c_2 => ?_) (fun c_2 => ?_)
      · have hj3 : j = 8 := by have := nI_ge' (by omega) (by omega) c_2; omega
        refine lv_iload_n hx hb d_Table_byteOfWritten_61 rfl (lv_at hl 1 rfl) ?_
        exact my_iret (v := nI (byW ws fm j)) hx hb hr (rfl) hlocks hQ hK hS (Nat.le_refl _) (Nat.le_refl _) () (by rw [hj3]) (hP.sub [0, 1, 2] rfl) (hD.sub [0, 1, 2] (by decide +kernel) rfl) d_Table_byteOfWritten_62
      · have hj2 : j < 8 := by have := nI_lt' (by omega) c_2; omega
        refine lv_aload_n hx hb d_Table_byteOfWritten_12 rfl (lv_at hl 2 rfl) ?_
        refine va_get (D := (dC, dI)) (ci := 5) (v := .ref rw) (C := "RangeCoders$Table") (T := T_Table) (N := 10) hx hb hg in_Table hown hK hP 0 rfl rfl 8 (by decide) (hg _ k120) (fun x9 h9 => u_same (hg _ k121) x9 h9) rfl d_Table_byteOfWritten_13 ?_
        refine va_get (D := (dC, dI)) (ci := 0) (v := .int (nI ws.length)) (C := "RangeCoders$Row") (T := T_Row) (N := 2) hx hb hg in_Row hown hK hP 1 rfl rfl 0 (by decide) (hg _ k59) (fun _ h9 => h9) rfl d_Table_byteOfWritten_16 ?_
        refine lv_iconst (v := 1) hx hb d_Table_byteOfWritten_19 (by decide) ?_
        refine lv_isub hx hb d_Table_byteOfWritten_20 ?_
        refine lv_topi (fun v_3 ev_3 => ?_)
        refine lv_iload_n hx hb d_Table_byteOfWritten_21 rfl (lv_at hl 0 rfl) ?_
        refine lv_isub hx hb d_Table_byteOfWritten_22 ?_
        refine lv_topi (fun v_4 ev_4 => ?_)
        refine lv_istore (lv' := [(4, Value.int v_4), (3, Value.int (nI (fm + j))), (2, Value.int (nI (byW ws fm j))), (0, Value.ref co), (1, Value.int (nI fm))]) hx hb d_Table_byteOfWritten_23 hl (by decide) rfl (fun ls hl => ?_)
        refine lv_iconst (v := 2) hx hb d_Table_byteOfWritten_25 (by decide) ?_
        refine lv_iload_n hx hb d_Table_byteOfWritten_26 rfl (lv_at hl 2 rfl) ?_
        refine lv_imul hx hb d_Table_byteOfWritten_27 ?_
        refine lv_topi (fun v_5 ev_5 => ?_)
        refine lv_aload_n hx hb d_Table_byteOfWritten_28 rfl (lv_at hl 3 rfl) ?_
        refine va_get (D := (dC, dI)) (ci := 5) (v := .ref rw) (C := "RangeCoders$Table") (T := T_Table) (N := 10) hx hb hg in_Table hown hK hP 0 rfl rfl 8 (by decide) (hg _ k120) (fun x9 h9 => u_same (hg _ k121) x9 h9) rfl d_Table_byteOfWritten_29 ?_
        refine lv_iload hx hb d_Table_byteOfWritten_32 (lv_at hl 0 rfl) ?_
        refine my_ci (wr := [(co, Sum.inr (5, [Value.long xx, Value.long xreadX, Value.ref soa, Value.ref sna, Value.ref swa, Value.int xkept, Value.ref ri, Value.ref ro, Value.ref rw, Value.int xasked]))]) (va_runV (As := [Value.int v_4]) (rest := [Value.int v_5]) ⟨hx, hb, hml, hown, hts⟩ (f_Row_has l dC dI cI cM cO H.size rw rwa rwk rwf ws v_4 (hrw) (hGrw) (by omega)) (cwV 1 hts (my_gV k676 k663 k664 k6 k665) rfl rfl rfl (by decide +kernel) ⟨by rw [hR]; exact Nat.le_of_ble_eq_true rfl, by rw [hR]; exact Nat.le_of_ble_eq_true rfl⟩) (my_preV hK hN (hP.sub [1, 2] rfl) (hD.sub [1, 2] (by decide +kernel) rfl) 0 rfl rfl) rfl rfl hl.1 rfl (lv_room (Nat.le_of_ble_eq_true rfl)) d_Table_byteOfWritten_34 ⟨by rw [hR]; exact Nat.le_of_ble_eq_true rfl, by rw [hR]; exact Nat.le_of_ble_eq_true rfl⟩) hP hD hS hA [1, 2] [0] rfl rfl (by decide +kernel) (by decide +kernel) (fun r_34 u9 H locs hw_34 hP hD hS => ?_)
        obtain ⟨hr_34, hv_34⟩ : (r_34 = if 0 ≤ v_4 ∧ v_4 < nI ws.length then 1 else 0) ∧ (r_34 ≠ 0 → vp_in v_4 rwk) := hw_34
        have hPD : my_PD (dC, dI) vwCl A [(co, Sum.inr (5, [Value.long xx, Value.long xreadX, Value.ref soa, Value.ref sna, Value.ref swa, Value.int xkept, Value.ref ri, Value.ref ro, Value.ref rw, Value.int xasked])), (rw, Sum.inr (0, [Value.int (nI ws.length), Value.ref rwa])), (rwa, Sum.inl (cI, rwk, Sum.inl rwf))] H := ⟨hP, hD⟩
        have hP := hPD.1
        have hD := hPD.2
        refine lv_if_eq (tgt := 52) hx hb d_Table_byteOfWritten_37 (by decide) (fun c_6 => ?_) (fun c_6 => ?_)
        · refine lv_iconst (v := 0) hx hb d_Table_byteOfWritten_52 (by decide) ?_
          have hx9 : (0 : Int32) = nI (rvB ws (fm + j)) := by rw [rv_0 (by omega) (by omega) (by subst_vars; rfl) (one_eq hr_34 c_6)]; rfl
          refine lv_iadd hx hb d_Table_byteOfWritten_53 ?_
          refine lv_topi (fun v_7 ev_7 => ?_)
          have z9 : v_7 = nI (byW ws fm (j + 1)) := by rw [ev_7, hx9, ev_5, show (2 : Int32) * nI (byW ws fm j) = nI (2 * byW ws fm j) from pk_mul 2 _]; exact nI_add _ _
          subst z9
          refine lv_istore_n (lv' := [(2, Value.int (nI (byW ws fm (j + 1)))), (4, Value.int v_4), (3, Value.int (nI (fm + j))), (0, Value.ref co), (1, Value.int (nI fm))]) hx hb d_Table_byteOfWritten_54 rfl hl (by decide) rfl (fun ls hl => ?_)
          obtain ⟨v_8, ev_8⟩ : ∃ y : Int32, y = (nI (fm + j)) + (1) := ⟨_, rfl⟩
          refine lv_iinc (v := v_8) (lv' := [(3, Value.int v_8), (2, Value.int (nI (byW ws fm (j + 1)))), (4, Value.int v_4), (0, Value.ref co), (1, Value.int (nI fm))]) hx hb d_Table_byteOfWritten_55 hl (k := 2) rfl (by rw [ev_8]; rfl) (by decide) rfl (fun ls hl => ?_)
          have z9 : v_8 = nI (fm + (j + 1)) := by rw [ev_8]; exact nI_1 _
          subst z9
          refine lv_goto (tgt := 4) hx hb d_Table_byteOfWritten_58 (by decide) ?_
          exact ih9_4 _ (by first | omega | (omega)) (j + 1) rfl (by omega) H locs ls (hP.sub [0, 1, 2] rfl) (hD.sub [0, 1, 2] (by decide +kernel) rfl) hS (lv_sub hl [0, 1, 3, 4] rfl)
        · refine lv_aload_n hx hb d_Table_byteOfWritten_40 rfl (lv_at hl 3 rfl) ?_
          refine va_get (D := (dC, dI)) (ci := 5) (v := .ref rw) (C := "RangeCoders$Table") (T := T_Table) (N := 10) hx hb hg in_Table hown hK hP 0 rfl rfl 8 (by decide) (hg _ k120) (fun x9 h9 => u_same (hg _ k121) x9 h9) rfl d_Table_byteOfWritten_41 ?_
          refine lv_iload hx hb d_Table_byteOfWritten_44 (lv_at hl 0 rfl) ?_
          refine my_ci (wr := [(co, Sum.inr (5, [Value.long xx, Value.long xreadX, Value.ref soa, Value.ref sna, Value.ref swa, Value.int xkept, Value.ref ri, Value.ref ro, Value.ref rw, Value.int xasked]))]) (va_runV (As := [Value.int v_4]) (rest := [Value.int v_5]) ⟨hx, hb, hml, hown, hts⟩ (f_Row_at l dC dI cI cM cO H.size rw rwa rwk rwf ws v_4 (hrw) (hGrw) (by omega)) (cwV 1 hts (my_gV k677 k659 k660 k6 k661) rfl rfl rfl (by decide +kernel) ⟨by rw [hR]; exact Nat.le_of_ble_eq_true rfl, by rw [hR]; exact Nat.le_of_ble_eq_true rfl⟩) (my_preV hK hN (hP.sub [1, 2] rfl) (hD.sub [1, 2] (by decide +kernel) rfl) 0 rfl rfl) rfl rfl hl.1 rfl (lv_room (Nat.le_of_ble_eq_true rfl)) d_Table_byteOfWritten_46 ⟨by rw [hR]; exact Nat.le_of_ble_eq_true rfl, by rw [hR]; exact Nat.le_of_ble_eq_true rfl⟩) hP hD hS hA [1, 2] [0] rfl rfl (by decide +kernel) (by decide +kernel) (fun r_46 u9 H locs hw_46 hP hD hS => ?_)
          have hr_46 : r_46 = rAt ws v_4 := hw_46
          have hPD : my_PD (dC, dI) vwCl A [(co, Sum.inr (5, [Value.long xx, Value.long xreadX, Value.ref soa, Value.ref sna, Value.ref swa, Value.int xkept, Value.ref ri, Value.ref ro, Value.ref rw, Value.int xasked])), (rw, Sum.inr (0, [Value.int (nI ws.length), Value.ref rwa])), (rwa, Sum.inl (cI, rwk, Sum.inl rwf))] H := ⟨hP, hD⟩
          have hP := hPD.1
          have hD := hPD.2
          refine lv_goto (tgt := 53) hx hb d_Table_byteOfWritten_49 (by decide) ?_
          have hx9 : r_46 = nI (rvB ws (fm + j)) := hr_46.trans (rv_1 (by omega) (by omega) (by subst_vars; rfl) (one_ne hr_34 c_6))
          refine lv_iadd hx hb d_Table_byteOfWritten_53 ?_
          refine lv_topi (fun v_9 ev_9 => ?_)
          have z9 : v_9 = nI (byW ws fm (j + 1)) := by rw [ev_9, hx9, ev_5, show (2 : Int32) * nI (byW ws fm j) = nI (2 * byW ws fm j) from pk_mul 2 _]; exact nI_add _ _
          subst z9
          refine lv_istore_n (lv' := [(2, Value.int (nI (byW ws fm (j + 1)))), (4, Value.int v_4), (3, Value.int (nI (fm + j))), (0, Value.ref co), (1, Value.int (nI fm))]) hx hb d_Table_byteOfWritten_54 rfl hl (by decide) rfl (fun ls hl => ?_)
          obtain ⟨v_10, ev_10⟩ : ∃ y : Int32, y = (nI (fm + j)) + (1) := ⟨_, rfl⟩
          refine lv_iinc (v := v_10) (lv' := [(3, Value.int v_10), (2, Value.int (nI (byW ws fm (j + 1)))), (4, Value.int v_4), (0, Value.ref co), (1, Value.int (nI fm))]) hx hb d_Table_byteOfWritten_55 hl (k := 2) rfl (by rw [ev_10]; rfl) (by decide) rfl (fun ls hl => ?_)
          have z9 : v_10 = nI (fm + (j + 1)) := by rw [ev_10]; exact nI_1 _
          subst z9
          refine lv_goto (tgt := 4) hx hb d_Table_byteOfWritten_58 (by decide) ?_
          exact ih9_4 _ (by first | omega | (omega)) (j + 1) rfl (by omega) H locs ls (hP.sub [0, 1, 2] rfl) (hD.sub [0, 1, 2] (by decide +kernel) rfl) hS (lv_sub hl [0, 1, 3, 4] rfl)
  exact J_4 _ (0 : Nat) rfl (by decide) H locs ls (hP.sub [0, 1, 2] rfl) (hD.sub [0, 1, 2] (by decide +kernel) rfl) hS (lv_sub hl [0, 1, 2, 3] rfl)
end
section
/-! FORMS 3 and 4: what a message's items are in the class -/
theorem s3_main {f : Nat} (hf : 0 < f) : ∀ (k : Nat) (r : Nat × List Nat), 6 ≤ k → k ≤ 8 → r.1 < xb k → f * 2048 ≤ r.1 → f * 2048 ≤ (s3N f k r).1 ∧ (s3N f k r).1 < f * 524288 ∧ (s3N f k r).2.length + 6 ≤ r.2.length + k := by
  intro k
  induction k with
  | zero => intro r h; omega
  | succ k ih =>
    intro r h6 h8 hx hl
    by_cases h : f * 524288 ≤ r.1
    · have h7 := xb_k h6 h8 hf hx h
      have hs := xb_s h7 h8 hx
      rw [Nat.add_sub_cancel] at hs
      rw [s3N_s (by omega) h, Nat.add_sub_cancel]
      have q := ih (r.1 / 256, r.2 ++ [r.1 % 256]) (by omega) (by omega) hs (by show f * 2048 ≤ r.1 / 256; exact (Nat.le_div_iff_mul_le (by decide)).mpr (by rw [Nat.mul_assoc]; exact h))
      rw [show ((r.1 / 256, r.2 ++ [r.1 % 256]) : Nat × List Nat).2.length = r.2.length + 1 from by rw [List.length_append, List.length_singleton]] at q
      exact ⟨q.1, q.2.1, by omega⟩
    · rw [s3N_e h]
      exact ⟨hl, by omega, by omega⟩
theorem s3I_ok {f c X : Nat} {bs : List Nat} (hf : 0 < f) (hf2 : f ≤ 4096) (hcf : c + f ≤ 4096) (h1 : 8388608 ≤ X) (h2 : X < 2147483648) : 8388608 ≤ (s3I f c (X, bs)).1 ∧ (s3I f c (X, bs)).1 < 2147483648 ∧ (s3I f c (X, bs)).2.length ≤ bs.length + 2 := by
  have q := s3_main hf 8 (X, bs) (by decide) (by decide) h2 (by show f * 2048 ≤ X; omega)
  have z := s3_fin hf q.1 q.2.1 hcf
  have w : (s3N f 8 (X, bs)).2.length + 6 ≤ bs.length + 8 := q.2.2
  exact ⟨z.1, z.2, by show (s3N f 8 (X, bs)).2.length ≤ _; omega⟩
theorem t4_main {f : Nat} (hf : 0 < f) : ∀ (k : Nat) (r : Nat × List Nat), r.1 < 2 ^ k → f ≤ r.1 → f ≤ (t4N f k r).1 ∧ (t4N f k r).1 < 2 * f ∧ (t4N f k r).2.length + 1 ≤ r.2.length + k := by
  intro k
  induction k with
  | zero => intro r h; have : r.1 < 1 := h; omega
  | succ k ih =>
    intro r h hl
    by_cases h2 : 2 * f ≤ r.1
    · have hk := pw_k h (by omega)
      have q := ih (r.1 / 2, r.2 ++ [r.1 % 2]) (by have z := pw_h h (by omega); rw [Nat.add_sub_cancel] at z; exact z) (by show f ≤ r.1 / 2; omega)
      rw [show ((r.1 / 2, r.2 ++ [r.1 % 2]) : Nat × List Nat).2.length = r.2.length + 1 from by rw [List.length_append, List.length_singleton]] at q
      rw [t4N_s (by omega) h2, Nat.add_sub_cancel]
      exact ⟨q.1, q.2.1, by omega⟩
    · rw [t4N_e h2]
      exact ⟨hl, by omega, by omega⟩
theorem t4_bt {f : Nat} : ∀ (k : Nat) (r : Nat × List Nat), bt2 r.2 → bt2 (t4N f k r).2
  | 0, r, h => h
  | k + 1, r, h => by
    by_cases h2 : 2 * f ≤ r.1
    · rw [t4N_s (by omega) h2, Nat.add_sub_cancel]
      exact t4_bt k _ (bt2_add h (Nat.mod_lt _ (by decide)))
    · rw [t4N_e h2]; exact h
theorem t4I_ok {F : Nat → Nat} {n t V : Nat} {ws : List Nat} (hs : ns F n = 512) (ht : t < n) (hf : 0 < F t) (h1 : 512 ≤ V) (h2 : V < 1024) (hb : bt2 ws) : 512 ≤ (t4I F n t (V, ws)).1 ∧ (t4I F n t (V, ws)).1 < 1024 ∧ (t4I F n t (V, ws)).2.length ≤ ws.length + 9 ∧ bt2 (t4I F n t (V, ws)).2 := by
  have hg := ns_ge (F := F) ht
  have q := t4_main hf 10 (V, ws) h2 (by show F t ≤ V; omega)
  have z := plO_ok (d := (t4N (F t) 10 (V, ws)).1 - F t) hs ht (by omega)
  have w : (t4N (F t) 10 (V, ws)).2.length + 1 ≤ ws.length + 10 := q.2.2
  have e1 : (t4I F n t (V, ws)).1 = 512 + plO F n t ((t4N (F t) 10 (V, ws)).1 - F t) := by simp only [t4I]
  have e2 : (t4I F n t (V, ws)).2 = (t4N (F t) 10 (V, ws)).2 := by simp only [t4I]
  rw [e1, e2]
  exact ⟨by omega, by omega, by omega, t4_bt 10 _ hb⟩
/-- odds that hold F -/
def ob3 (o : OB) (n : Nat) (F : Nat → Nat) : Prop := n ≤ 64 ∧ o.2.2.2.1 = 0 ∧ o.2.2.2.2.2.2.1 = n ∧ tbI o.2.2.2.2.2.2.2.1 n F ∧ o.2.2.2.2.2.2.2.2.1 ≤ 512
def ob4 (o : OB) (n : Nat) (F : Nat → Nat) : Prop := n ≤ 64 ∧ o.2.2.2.1 = 0 ∧ o.2.2.2.2.2.2.1 = n ∧ tbI o.2.2.2.2.2.2.2.1 n F ∧ o.2.2.2.2.2.2.2.2.1 = 512 ∧ tbI o.2.2.2.2.2.2.2.2.2 512 (plc F n)
/-- an item as the class keeps it -/
def kpV (bm : Nat) (sof : Nat → Option Nat) (snf swf : Nat → Int32) (i : Nat) (it : It) : Prop := it.1 = 0 ∧ sof i = none ∧ snf i = nI it.2.2 ∧ swf i = nI it.2.1 ∧ 1 ≤ it.2.1 ∧ it.2.1 ≤ bm ∧ it.2.2 < 2 ^ it.2.1
def kpS (cI : ClassId) (ob : OB → Nat → (Nat → Nat) → Prop) (M : Nat) (N : Nat → Nat) (Fn : Nat → Nat → Nat) (sof : Nat → Option Nat) (snf : Nat → Int32) (pl : va_W) (i : Nat) (it : It) : Prop := ¬ it.1 = 0 ∧ snf i = nI it.2.2 ∧ it.2.2 < N it.2.1 ∧ 0 < Fn it.2.1 it.2.2 ∧ ns (Fn it.2.1) (N it.2.1) = M ∧ ∃ (o : OB) (rest : va_W), sof i = some o.1 ∧ ob o (N it.2.1) (Fn it.2.1) ∧ pl.Perm (obC cI o ++ rest)
def kpt (cI : ClassId) (ob : OB → Nat → (Nat → Nat) → Prop) (M bm : Nat) (N : Nat → Nat) (Fn : Nat → Nat → Nat) (sof : Nat → Option Nat) (snf swf : Nat → Int32) (pl : va_W) (its : List It) : Prop := ∀ i, i < its.length → kpV bm sof snf swf i (itA its i) ∨ kpS cI ob M N Fn sof snf pl i (itA its i)
theorem kp_none {cI : ClassId} {ob : OB → Nat → (Nat → Nat) → Prop} {M bm : Nat} {N : Nat → Nat} {Fn : Nat → Nat → Nat} {sof : Nat → Option Nat} {snf swf : Nat → Int32} {pl : va_W} {its : List It} {i : Nat} (h : kpt cI ob M bm N Fn sof snf swf pl its) (hi : i < its.length) (hq : sof i = none) : kpV bm sof snf swf i (itA its i) := by
  rcases h i hi with q | q
  · exact q
  · obtain ⟨-, -, -, -, -, o, r, e, -⟩ := q
    rw [e] at hq
    cases hq
theorem kp_some {cI : ClassId} {ob : OB → Nat → (Nat → Nat) → Prop} {M bm : Nat} {N : Nat → Nat} {Fn : Nat → Nat → Nat} {sof : Nat → Option Nat} {snf swf : Nat → Int32} {pl : va_W} {its : List It} {i a : Nat} (h : kpt cI ob M bm N Fn sof snf swf pl its) (hi : i < its.length) (hq : sof i = some a) : kpS cI ob M N Fn sof snf pl i (itA its i) := by
  rcases h i hi with q | q
  · rw [q.2.1] at hq
    cases hq
  · exact q
theorem min600 {k v : Int32} {n : Nat} (hk : k = nI n) (hn : n ≤ 600) (e : v = if 600 < k then 600 else k) : v = nI n := by
  rw [e, hk, if_neg (show ¬ (600 : Int32) < nI n from Int32.not_lt.mpr (nI_le (b := 600) hn (by decide)))]
end
