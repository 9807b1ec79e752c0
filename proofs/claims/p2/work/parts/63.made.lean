set_option maxHeartbeats 2000000 in
set_option maxRecDepth 100000 in
theorem c_Odds_init (l : Launch) (dC : Nat → ClassId) (dI : Nat → Nat → Nat) (cI cM cO : ClassId) (sz : Nat) (sl : Nat) (oo : Nat) (isg : Int32) (ifc : Int32) (nc : Nat) (np : Nat) (hnc : nc ≤ 64) (hnp : np ≤ 512) : MetVg l y_Odds_init (Cond.code y_Odds_init prog_7_method_1_code 5 none :: gw) ({ frames := 1, cells := 600, slots := 600, locals := 12 } : Room) (dC, dI) vwCl (kT cI cM cO) [.ref oo, .int isg, .int ifc, .int (nI nc), .int (nI np)] [(oo, .inr (7, [.int 0, .int 0, .int 0, .null, .null]))] sz sl (fun (u : Nat × Nat) => True) (fun (u : Nat × Nat) => [(oo, .inr (7, [.int isg, .int 0, .int ifc, .ref u.1, .ref u.2])), (u.1, .inl (cI, nc, .inl (fun _ => 0))), (u.2, .inl (cI, np, .inl (fun _ => 0)))]) 600 (fun (u : Nat × Nat) => 0) := by
  refine my_ofVg (cc := prog_7_method_1_code) (n := 5) (ret := none) (by decide) rfl (Nat.le_of_ble_eq_true rfl) ?_
  intro p e s m args below meth c R Q A ls H locs hx hb hr hts hown hlocks hml hnm hR hQ hA hl hP hK hN hD hS
  have hg : ∀ w ∈ gw, w.before args s = true := fun w h => hts w (List.mem_cons_of_mem _ h)
  have hown : s.vm.findClass "RangeCoders$Odds" = some m.cls := hown
  have hl : lv_has ls 5 [(0, .ref oo), (1, .int isg), (2, .int ifc), (3, .int (nI nc)), (4, .int (nI np))] := hl
  refine lv_aload_n hx hb d_Odds_init_0 rfl (lv_at hl 0 rfl) ?_
  refine W.objInit hx hb hown (hg _ k302) (hg _ k23) (hg _ k24) rfl (by rw [hml]; exact hl.1) rfl d_Odds_init_1 (by rw [hR]; exact Nat.le_of_ble_eq_true rfl) (by rw [hR]; exact Nat.le_of_ble_eq_true rfl) ?_
  refine W.eq (g2 := F0 m 4 ls []) rfl ?_
  refine lv_aload_n hx hb d_Odds_init_4 rfl (lv_at hl 0 rfl) ?_
  refine lv_iload_n hx hb d_Odds_init_5 rfl (lv_at hl 1 rfl) ?_
  refine va_putF (D := (dC, dI)) (ci := 7) (v := .int isg) (ty := .int) (C := "RangeCoders$Odds") (T := T_Odds) (N := 5) hx hb hg in_Odds t_Odds o_Odds n_Odds hown hK hP hD hS 0 rfl rfl 0 (by decide) (hg _ k303) (fun _ h9 => h9) rfl (by rw [hnm]; rfl) rfl (by decide +kernel) rfl rfl (Nat.le_of_ble_eq_true rfl) d_Odds_init_6 (fun H locs hP hD hS => ?_)
  have hP : va_P (dC, dI) vwCl [(oo, .inr (7, [.int isg, .int 0, .int 0, .null, .null]))] H := hP
  have hD : va_D A [(oo, .inr (7, [.int isg, .int 0, .int 0, .null, .null]))] := hD
  refine lv_aload_n hx hb d_Odds_init_9 rfl (lv_at hl 0 rfl) ?_
  refine lv_iload_n hx hb d_Odds_init_10 rfl (lv_at hl 2 rfl) ?_
  refine va_putF (D := (dC, dI)) (ci := 7) (v := .int ifc) (ty := .int) (C := "RangeCoders$Odds") (T := T_Odds) (N := 5) hx hb hg in_Odds t_Odds o_Odds n_Odds hown hK hP hD hS 0 rfl rfl 2 (by decide) (hg _ k308) (fun _ h9 => h9) rfl (by rw [hnm]; rfl) rfl (by decide +kernel) rfl rfl (Nat.le_of_ble_eq_true rfl) d_Odds_init_11 (fun H locs hP hD hS => ?_)
  have hP : va_P (dC, dI) vwCl [(oo, .inr (7, [.int isg, .int 0, .int ifc, .null, .null]))] H := hP
  have hD : va_D A [(oo, .inr (7, [.int isg, .int 0, .int ifc, .null, .null]))] := hD
  refine lv_aload_n hx hb d_Odds_init_14 rfl (lv_at hl 0 rfl) ?_
  refine lv_iload_n hx hb d_Odds_init_15 rfl (lv_at hl 3 rfl) ?_
  refine lv_if_lt (tgt := 23) hx hb d_Odds_init_16 (by decide) (fun c_1 => ?_) (fun c_1 => ?_)
  · exact absurd c_1 (nI_pos (by omega))
  · refine lv_iload_n hx hb d_Odds_init_19 rfl (lv_at hl 3 rfl) ?_
    refine lv_goto (tgt := 24) hx hb d_Odds_init_20 (by decide) ?_
    refine my_newi hx hb (hg _ k66) hK 0 rfl hP hD hS hA (N' := nc) (nI_pos (by omega)) (nI_clamp (by omega)) (by omega) (by rw [hR]; exact (show 0 + 1 ≤ 600 by omega)) (by rw [hR]; exact (show 0 + nc ≤ 600 by omega)) d_Odds_init_24 (fun q_2 H hP hD hS => ?_)
    have hP : va_P (dC, dI) vwCl [(oo, .inr (7, [.int isg, .int 0, .int ifc, .null, .null])), (q_2, .inl (cI, nc, .inl (fun _ => 0)))] H := hP
    have hD : va_D A [(oo, .inr (7, [.int isg, .int 0, .int ifc, .null, .null])), (q_2, .inl (cI, nc, .inl (fun _ => 0)))] := hD
    refine va_putF (D := (dC, dI)) (ci := 7) (v := .ref q_2) (ty := (.array .int)) (C := "RangeCoders$Odds") (T := T_Odds) (N := 5) hx hb hg in_Odds t_Odds o_Odds n_Odds hown hK hP hD hS 0 rfl rfl 3 (by decide) (hg _ k309) (fun _ h9 => h9) rfl (by rw [hnm]; rfl) rfl (by decide +kernel) rfl rfl (Nat.le_of_ble_eq_true rfl) d_Odds_init_26 (fun H locs hP hD hS => ?_)
    have hP : va_P (dC, dI) vwCl [(oo, .inr (7, [.int isg, .int 0, .int ifc, .ref q_2, .null])), (q_2, .inl (cI, nc, .inl (fun _ => 0)))] H := hP
    have hD : va_D A [(oo, .inr (7, [.int isg, .int 0, .int ifc, .ref q_2, .null])), (q_2, .inl (cI, nc, .inl (fun _ => 0)))] := hD
    refine lv_aload_n hx hb d_Odds_init_29 rfl (lv_at hl 0 rfl) ?_
    refine lv_iload hx hb d_Odds_init_30 (lv_at hl 4 rfl) ?_
    refine lv_if_lt (tgt := 40) hx hb d_Odds_init_32 (by decide) (fun c_3 => ?_) (fun c_3 => ?_)
    · exact absurd c_3 (nI_pos (by omega))
    · refine lv_iload hx hb d_Odds_init_35 (lv_at hl 4 rfl) ?_
      refine lv_goto (tgt := 41) hx hb d_Odds_init_37 (by decide) ?_
      refine my_newi hx hb (hg _ k66) hK 0 rfl hP hD hS hA (N' := np) (nI_pos (by omega)) (nI_clamp (by omega)) (by omega) (by rw [hR]; exact (show 0 + 1 + 1 ≤ 600 by omega)) (by rw [hR]; exact (show 0 + nc + np ≤ 600 by omega)) d_Odds_init_41 (fun q_4 H hP hD hS => ?_)
      have hP : va_P (dC, dI) vwCl [(oo, .inr (7, [.int isg, .int 0, .int ifc, .ref q_2, .null])), (q_2, .inl (cI, nc, .inl (fun _ => 0))), (q_4, .inl (cI, np, .inl (fun _ => 0)))] H := hP
      have hD : va_D A [(oo, .inr (7, [.int isg, .int 0, .int ifc, .ref q_2, .null])), (q_2, .inl (cI, nc, .inl (fun _ => 0))), (q_4, .inl (cI, np, .inl (fun _ => 0)))] := hD
      refine va_putF (D := (dC, dI)) (ci := 7) (v := .ref q_4) (ty := (.array .int)) (C := "RangeCoders$Odds") (T := T_Odds) (N := 5) hx hb hg in_Odds t_Odds o_Odds n_Odds hown hK hP hD hS 0 rfl rfl 4 (by decide) (hg _ k310) (fun _ h9 => h9) rfl (by rw [hnm]; rfl) rfl (by decide +kernel) rfl rfl (Nat.le_of_ble_eq_true rfl) d_Odds_init_43 (fun H locs hP hD hS => ?_)
      have hP : va_P (dC, dI) vwCl [(oo, .inr (7, [.int isg, .int 0, .int ifc, .ref q_2, .ref q_4])), (q_2, .inl (cI, nc, .inl (fun _ => 0))), (q_4, .inl (cI, np, .inl (fun _ => 0)))] H := hP
      have hD : va_D A [(oo, .inr (7, [.int isg, .int 0, .int ifc, .ref q_2, .ref q_4])), (q_2, .inl (cI, nc, .inl (fun _ => 0))), (q_4, .inl (cI, np, .inl (fun _ => 0)))] := hD
      exact my_vretg hx hb hr hlocks hQ hK hS (q_2, q_4) (show (0 + 1 + 1) + 0 ≤ 600 by omega) (show (0 + nc + np) + 0 ≤ 600 by omega) (trivial) (hP.sub [0, 1, 2] rfl) (hD.sub [0, 1, 2] (by decide) rfl) d_Odds_init_46
set_option maxHeartbeats 2000000 in
set_option maxRecDepth 100000 in
theorem c_Carries_newOdds (l : Launch) (dC : Nat → ClassId) (dI : Nat → Nat → Nat) (cI cM cO : ClassId) (sz : Nat) (sl : Nat) (co : Nat) (xcache : Int32) (xpending : Int32) (xlow : Int64) (xrange : Int64) (xcode : Int64) (xreadLow : Int64) (xreadRange : Int64) (ri : Nat) (ro : Nat) (rw : Nat) (xasked : Int32) (ns : Nat) (hns2 : 2 ≤ ns) (hns : ns ≤ 64) : MetQg l y_Coder_newOdds (Cond.code y_Coder_newOdds prog_4_method_11_code 2 (some (.object "RangeCoders$Odds")) :: gw) ({ frames := 2, cells := 700, slots := 700, locals := 36 } : Room) (dC, dI) vwCl (kT cI cM cO) [.ref co, .int (nI ns)] [(co, .inr (1, [.int xcache, .int xpending, .long xlow, .long xrange, .long xcode, .long xreadLow, .long xreadRange, .ref ri, .ref ro, .ref rw, .int xasked]))] sz sl (fun (r : Option Nat) (u : Nat × Int32 × Int32 × Nat × Nat × Nat × Nat × (Nat → Int32) × (Nat → Int32)) => r = some u.1 ∧ 1 ≤ u.2.2.2.2.2.1 ∧ u.2.2.2.2.2.1 ≤ 64 ∧ u.2.2.2.2.2.2.1 ≤ 512) (fun (u : Nat × Int32 × Int32 × Nat × Nat × Nat × Nat × (Nat → Int32) × (Nat → Int32)) => [(co, .inr (1, [.int xcache, .int xpending, .long xlow, .long xrange, .long xcode, .long xreadLow, .long xreadRange, .ref ri, .ref ro, .ref rw, .int xasked])), (u.1, .inr (7, [.int u.2.1, .int 0, .int u.2.2.1, .ref u.2.2.2.1, .ref u.2.2.2.2.1])), (u.2.2.2.1, .inl (cI, u.2.2.2.2.2.1, .inl u.2.2.2.2.2.2.2.1)), (u.2.2.2.2.1, .inl (cI, u.2.2.2.2.2.2.1, .inl u.2.2.2.2.2.2.2.2))]) 700 (fun (u : Nat × Int32 × Int32 × Nat × Nat × Nat × Nat × (Nat → Int32) × (Nat → Int32)) => 0) := by
  refine my_ofQg (cc := prog_4_method_11_code) (n := 2) (ret := (some (.object "RangeCoders$Odds"))) (by decide) rfl (Nat.le_of_ble_eq_true rfl) ?_
  intro p e s m args below meth c R Q A ls H locs hx hb hr hts hown hlocks hml hnm hR hQ hA hl hP hK hN hD hS
  have hg : ∀ w ∈ gw, w.before args s = true := fun w h => hts w (List.mem_cons_of_mem _ h)
  have hown : s.vm.findClass "RangeCoders$Coder" = some m.cls := hown
  have hl : lv_has ls 2 [(0, .ref co), (1, .int (nI ns))] := hl
  refine va_new (ci := 7) (fs := [.int 0, .int 0, .int 0, .null, .null]) (C := "RangeCoders$Odds") (T := T_Odds) (N := 5) hx hb hg in_Odds t_Odds o_Odds hown (hg _ k331) (hg _ k295) (hg _ k14) hK hP hD hS hA rfl (fun j hj => by rcases (show j = 0 ∨ j = 1 ∨ j = 2 ∨ j = 3 ∨ j = 4 by omega) with rfl | rfl | rfl | rfl | rfl <;> rfl) (by rw [hR]; exact (show 0 + 1 ≤ 700 by omega)) (by rw [hR]; exact (show 0 + 5 ≤ 700 by omega)) d_Coder_newOdds_0 (fun q_1 H hP hD hS => ?_)
  have hP : va_P (dC, dI) vwCl [(co, .inr (1, [.int xcache, .int xpending, .long xlow, .long xrange, .long xcode, .long xreadLow, .long xreadRange, .ref ri, .ref ro, .ref rw, .int xasked])), (q_1, .inr (7, [.int 0, .int 0, .int 0, .null, .null]))] H := hP
  have hD : va_D A [(co, .inr (1, [.int xcache, .int xpending, .long xlow, .long xrange, .long xcode, .long xreadLow, .long xreadRange, .ref ri, .ref ro, .ref rw, .int xasked])), (q_1, .inr (7, [.int 0, .int 0, .int 0, .null, .null]))] := hD
  refine lv_dup hx hb d_Coder_newOdds_3 rfl ?_
  refine lv_iload_n hx hb d_Coder_newOdds_4 rfl (lv_at hl 1 rfl) ?_
  refine lv_iconst (v := 0) hx hb d_Coder_newOdds_5 (by decide) ?_
  refine lv_iload_n hx hb d_Coder_newOdds_6 rfl (lv_at hl 1 rfl) ?_
  refine lv_iconst (v := 0) hx hb d_Coder_newOdds_7 (by decide) ?_
  refine W.eq (g2 := F0 m 8 ls [.int (nI 0), .int (nI ns), .int 0, .int (nI ns), .ref q_1, .ref q_1]) rfl ?_
  refine my_cvg (wr := [(co, .inr (1, [.int xcache, .int xpending, .long xlow, .long xrange, .long xcode, .long xreadLow, .long xreadRange, .ref ri, .ref ro, .ref rw, .int xasked]))]) (va_runI (As := [.int (nI ns), .int 0, .int (nI ns), .int (nI 0)]) (rest := [.ref q_1]) ⟨hx, hb, hml, hown, hts⟩ (c_Odds_init l dC dI cI cM cO H.size (hSl H) q_1 (nI ns) 0 ns 0 (by first | assumption | omega) (by first | assumption | omega)) (cwI 4 hts (my_gC k301) rfl rfl rfl (hg _ k14) (hg _ k332) (hg _ k300) rfl (by decide +kernel) ⟨by rw [hR]; exact Nat.le_of_ble_eq_true rfl, by rw [hR]; exact Nat.le_of_ble_eq_true rfl⟩) (my_preg (As := [.ref q_1, .int (nI ns), .int 0, .int (nI ns), .int (nI 0)]) hK hN (hP.sub [1] rfl) (hD.sub [1] (by decide) rfl)) rfl rfl hl.1 rfl (lv_room (Nat.le_of_ble_eq_true rfl)) d_Coder_newOdds_8 ⟨by rw [hR]; exact (show (0 + 1) + 600 ≤ 700 by omega), by rw [hR]; exact (show (0 + 5) + 600 ≤ 700 by omega)⟩) hP hD hS hA [1] [0] rfl rfl (by decide) (by decide) (fun u9 d_8 H locs hd_8 hw_8 hP hD hS => ?_)
  obtain ⟨zca_8, zpa_8⟩ := u9
  have hd_8 : d_8 + 0 ≤ 600 := hd_8
  have hP : va_P (dC, dI) vwCl [(co, .inr (1, [.int xcache, .int xpending, .long xlow, .long xrange, .long xcode, .long xreadLow, .long xreadRange, .ref ri, .ref ro, .ref rw, .int xasked])), (q_1, .inr (7, [.int (nI ns), .int 0, .int 0, .ref zca_8, .ref zpa_8])), (zca_8, .inl (cI, ns, .inl (fun _ => 0))), (zpa_8, .inl (cI, 0, .inl (fun _ => 0)))] H := hP
  have hD : va_D A [(co, .inr (1, [.int xcache, .int xpending, .long xlow, .long xrange, .long xcode, .long xreadLow, .long xreadRange, .ref ri, .ref ro, .ref rw, .int xasked])), (q_1, .inr (7, [.int (nI ns), .int 0, .int 0, .ref zca_8, .ref zpa_8])), (zca_8, .inl (cI, ns, .inl (fun _ => 0))), (zpa_8, .inl (cI, 0, .inl (fun _ => 0)))] := hD
  exact my_qretg (v := some q_1) hx hb hr (Or.inl ⟨_, rfl⟩) hlocks hQ hK hS (q_1, (nI ns), (0 : Int32), zca_8, zpa_8, ns, (0 : Nat), fun _ => 0, fun _ => 0) (show (0 + 1 + d_8) + 0 ≤ 700 by omega) (show (0 + 5 + d_8) + 0 ≤ 700 by omega) (⟨rfl, (show 1 ≤ ns by omega), hns, Nat.zero_le _⟩) (hP.sub [0, 1, 2, 3] rfl) (hD.sub [0, 1, 2, 3] (by decide) rfl) d_Coder_newOdds_11
set_option maxHeartbeats 2000000 in
set_option maxRecDepth 100000 in
theorem c_NoCarries_newOdds (l : Launch) (dC : Nat → ClassId) (dI : Nat → Nat → Nat) (cI cM cO : ClassId) (sz : Nat) (sl : Nat) (co : Nat) (xlow : Int64) (xrange : Int64) (xcode : Int64) (xreadLow : Int64) (xreadRange : Int64) (ri : Nat) (ro : Nat) (rw : Nat) (xasked : Int32) (ns : Nat) (hns2 : 2 ≤ ns) (hns : ns ≤ 64) : MetQg l y_Coder_newOdds (Cond.code y_Coder_newOdds prog_4_method_11_code 2 (some (.object "RangeCoders$Odds")) :: gw) ({ frames := 2, cells := 700, slots := 700, locals := 36 } : Room) (dC, dI) vwCl (kT cI cM cO) [.ref co, .int (nI ns)] [(co, .inr (2, [.long xlow, .long xrange, .long xcode, .long xreadLow, .long xreadRange, .ref ri, .ref ro, .ref rw, .int xasked]))] sz sl (fun (r : Option Nat) (u : Nat × Int32 × Int32 × Nat × Nat × Nat × Nat × (Nat → Int32) × (Nat → Int32)) => r = some u.1 ∧ 1 ≤ u.2.2.2.2.2.1 ∧ u.2.2.2.2.2.1 ≤ 64 ∧ u.2.2.2.2.2.2.1 ≤ 512) (fun (u : Nat × Int32 × Int32 × Nat × Nat × Nat × Nat × (Nat → Int32) × (Nat → Int32)) => [(co, .inr (2, [.long xlow, .long xrange, .long xcode, .long xreadLow, .long xreadRange, .ref ri, .ref ro, .ref rw, .int xasked])), (u.1, .inr (7, [.int u.2.1, .int 0, .int u.2.2.1, .ref u.2.2.2.1, .ref u.2.2.2.2.1])), (u.2.2.2.1, .inl (cI, u.2.2.2.2.2.1, .inl u.2.2.2.2.2.2.2.1)), (u.2.2.2.2.1, .inl (cI, u.2.2.2.2.2.2.1, .inl u.2.2.2.2.2.2.2.2))]) 700 (fun (u : Nat × Int32 × Int32 × Nat × Nat × Nat × Nat × (Nat → Int32) × (Nat → Int32)) => 0) := by
  refine my_ofQg (cc := prog_4_method_11_code) (n := 2) (ret := (some (.object "RangeCoders$Odds"))) (by decide) rfl (Nat.le_of_ble_eq_true rfl) ?_
  intro p e s m args below meth c R Q A ls H locs hx hb hr hts hown hlocks hml hnm hR hQ hA hl hP hK hN hD hS
  have hg : ∀ w ∈ gw, w.before args s = true := fun w h => hts w (List.mem_cons_of_mem _ h)
  have hown : s.vm.findClass "RangeCoders$Coder" = some m.cls := hown
  have hl : lv_has ls 2 [(0, .ref co), (1, .int (nI ns))] := hl
  refine va_new (ci := 7) (fs := [.int 0, .int 0, .int 0, .null, .null]) (C := "RangeCoders$Odds") (T := T_Odds) (N := 5) hx hb hg in_Odds t_Odds o_Odds hown (hg _ k331) (hg _ k295) (hg _ k14) hK hP hD hS hA rfl (fun j hj => by rcases (show j = 0 ∨ j = 1 ∨ j = 2 ∨ j = 3 ∨ j = 4 by omega) with rfl | rfl | rfl | rfl | rfl <;> rfl) (by rw [hR]; exact (show 0 + 1 ≤ 700 by omega)) (by rw [hR]; exact (show 0 + 5 ≤ 700 by omega)) d_Coder_newOdds_0 (fun q_1 H hP hD hS => ?_)
  have hP : va_P (dC, dI) vwCl [(co, .inr (2, [.long xlow, .long xrange, .long xcode, .long xreadLow, .long xreadRange, .ref ri, .ref ro, .ref rw, .int xasked])), (q_1, .inr (7, [.int 0, .int 0, .int 0, .null, .null]))] H := hP
  have hD : va_D A [(co, .inr (2, [.long xlow, .long xrange, .long xcode, .long xreadLow, .long xreadRange, .ref ri, .ref ro, .ref rw, .int xasked])), (q_1, .inr (7, [.int 0, .int 0, .int 0, .null, .null]))] := hD
  refine lv_dup hx hb d_Coder_newOdds_3 rfl ?_
  refine lv_iload_n hx hb d_Coder_newOdds_4 rfl (lv_at hl 1 rfl) ?_
  refine lv_iconst (v := 0) hx hb d_Coder_newOdds_5 (by decide) ?_
  refine lv_iload_n hx hb d_Coder_newOdds_6 rfl (lv_at hl 1 rfl) ?_
  refine lv_iconst (v := 0) hx hb d_Coder_newOdds_7 (by decide) ?_
  refine W.eq (g2 := F0 m 8 ls [.int (nI 0), .int (nI ns), .int 0, .int (nI ns), .ref q_1, .ref q_1]) rfl ?_
  refine my_cvg (wr := [(co, .inr (2, [.long xlow, .long xrange, .long xcode, .long xreadLow, .long xreadRange, .ref ri, .ref ro, .ref rw, .int xasked]))]) (va_runI (As := [.int (nI ns), .int 0, .int (nI ns), .int (nI 0)]) (rest := [.ref q_1]) ⟨hx, hb, hml, hown, hts⟩ (c_Odds_init l dC dI cI cM cO H.size (hSl H) q_1 (nI ns) 0 ns 0 (by first | assumption | omega) (by first | assumption | omega)) (cwI 4 hts (my_gC k301) rfl rfl rfl (hg _ k14) (hg _ k332) (hg _ k300) rfl (by decide +kernel) ⟨by rw [hR]; exact Nat.le_of_ble_eq_true rfl, by rw [hR]; exact Nat.le_of_ble_eq_true rfl⟩) (my_preg (As := [.ref q_1, .int (nI ns), .int 0, .int (nI ns), .int (nI 0)]) hK hN (hP.sub [1] rfl) (hD.sub [1] (by decide) rfl)) rfl rfl hl.1 rfl (lv_room (Nat.le_of_ble_eq_true rfl)) d_Coder_newOdds_8 ⟨by rw [hR]; exact (show (0 + 1) + 600 ≤ 700 by omega), by rw [hR]; exact (show (0 + 5) + 600 ≤ 700 by omega)⟩) hP hD hS hA [1] [0] rfl rfl (by decide) (by decide) (fun u9 d_8 H locs hd_8 hw_8 hP hD hS => ?_)
  obtain ⟨zca_8, zpa_8⟩ := u9
  have hd_8 : d_8 + 0 ≤ 600 := hd_8
  have hP : va_P (dC, dI) vwCl [(co, .inr (2, [.long xlow, .long xrange, .long xcode, .long xreadLow, .long xreadRange, .ref ri, .ref ro, .ref rw, .int xasked])), (q_1, .inr (7, [.int (nI ns), .int 0, .int 0, .ref zca_8, .ref zpa_8])), (zca_8, .inl (cI, ns, .inl (fun _ => 0))), (zpa_8, .inl (cI, 0, .inl (fun _ => 0)))] H := hP
  have hD : va_D A [(co, .inr (2, [.long xlow, .long xrange, .long xcode, .long xreadLow, .long xreadRange, .ref ri, .ref ro, .ref rw, .int xasked])), (q_1, .inr (7, [.int (nI ns), .int 0, .int 0, .ref zca_8, .ref zpa_8])), (zca_8, .inl (cI, ns, .inl (fun _ => 0))), (zpa_8, .inl (cI, 0, .inl (fun _ => 0)))] := hD
  exact my_qretg (v := some q_1) hx hb hr (Or.inl ⟨_, rfl⟩) hlocks hQ hK hS (q_1, (nI ns), (0 : Int32), zca_8, zpa_8, ns, (0 : Nat), fun _ => 0, fun _ => 0) (show (0 + 1 + d_8) + 0 ≤ 700 by omega) (show (0 + 5 + d_8) + 0 ≤ 700 by omega) (⟨rfl, (show 1 ≤ ns by omega), hns, Nat.zero_le _⟩) (hP.sub [0, 1, 2, 3] rfl) (hD.sub [0, 1, 2, 3] (by decide) rfl) d_Coder_newOdds_11
set_option maxHeartbeats 2000000 in
set_option maxRecDepth 100000 in
theorem c_Stack_newOdds (l : Launch) (dC : Nat → ClassId) (dI : Nat → Nat → Nat) (cI cM cO : ClassId) (sz : Nat) (sl : Nat) (co : Nat) (xx : Int64) (xreadX : Int64) (soa : Nat) (sna : Nat) (swa : Nat) (xkept : Int32) (ri : Nat) (ro : Nat) (rw : Nat) (xasked : Int32) (ns : Nat) (hns2 : 2 ≤ ns) (hns : ns ≤ 64) : MetQg l y_Coder_newOdds (Cond.code y_Coder_newOdds prog_4_method_11_code 2 (some (.object "RangeCoders$Odds")) :: gw) ({ frames := 2, cells := 700, slots := 700, locals := 36 } : Room) (dC, dI) vwCl (kT cI cM cO) [.ref co, .int (nI ns)] [(co, .inr (4, [.long xx, .long xreadX, .ref soa, .ref sna, .ref swa, .int xkept, .ref ri, .ref ro, .ref rw, .int xasked]))] sz sl (fun (r : Option Nat) (u : Nat × Int32 × Int32 × Nat × Nat × Nat × Nat × (Nat → Int32) × (Nat → Int32)) => r = some u.1 ∧ 1 ≤ u.2.2.2.2.2.1 ∧ u.2.2.2.2.2.1 ≤ 64 ∧ u.2.2.2.2.2.2.1 ≤ 512) (fun (u : Nat × Int32 × Int32 × Nat × Nat × Nat × Nat × (Nat → Int32) × (Nat → Int32)) => [(co, .inr (4, [.long xx, .long xreadX, .ref soa, .ref sna, .ref swa, .int xkept, .ref ri, .ref ro, .ref rw, .int xasked])), (u.1, .inr (7, [.int u.2.1, .int 0, .int u.2.2.1, .ref u.2.2.2.1, .ref u.2.2.2.2.1])), (u.2.2.2.1, .inl (cI, u.2.2.2.2.2.1, .inl u.2.2.2.2.2.2.2.1)), (u.2.2.2.2.1, .inl (cI, u.2.2.2.2.2.2.1, .inl u.2.2.2.2.2.2.2.2))]) 700 (fun (u : Nat × Int32 × Int32 × Nat × Nat × Nat × Nat × (Nat → Int32) × (Nat → Int32)) => 0) := by
  refine my_ofQg (cc := prog_4_method_11_code) (n := 2) (ret := (some (.object "RangeCoders$Odds"))) (by decide) rfl (Nat.le_of_ble_eq_true rfl) ?_
  intro p e s m args below meth c R Q A ls H locs hx hb hr hts hown hlocks hml hnm hR hQ hA hl hP hK hN hD hS
  have hg : ∀ w ∈ gw, w.before args s = true := fun w h => hts w (List.mem_cons_of_mem _ h)
  have hown : s.vm.findClass "RangeCoders$Coder" = some m.cls := hown
  have hl : lv_has ls 2 [(0, .ref co), (1, .int (nI ns))] := hl
  refine va_new (ci := 7) (fs := [.int 0, .int 0, .int 0, .null, .null]) (C := "RangeCoders$Odds") (T := T_Odds) (N := 5) hx hb hg in_Odds t_Odds o_Odds hown (hg _ k331) (hg _ k295) (hg _ k14) hK hP hD hS hA rfl (fun j hj => by rcases (show j = 0 ∨ j = 1 ∨ j = 2 ∨ j = 3 ∨ j = 4 by omega) with rfl | rfl | rfl | rfl | rfl <;> rfl) (by rw [hR]; exact (show 0 + 1 ≤ 700 by omega)) (by rw [hR]; exact (show 0 + 5 ≤ 700 by omega)) d_Coder_newOdds_0 (fun q_1 H hP hD hS => ?_)
  have hP : va_P (dC, dI) vwCl [(co, .inr (4, [.long xx, .long xreadX, .ref soa, .ref sna, .ref swa, .int xkept, .ref ri, .ref ro, .ref rw, .int xasked])), (q_1, .inr (7, [.int 0, .int 0, .int 0, .null, .null]))] H := hP
  have hD : va_D A [(co, .inr (4, [.long xx, .long xreadX, .ref soa, .ref sna, .ref swa, .int xkept, .ref ri, .ref ro, .ref rw, .int xasked])), (q_1, .inr (7, [.int 0, .int 0, .int 0, .null, .null]))] := hD
  refine lv_dup hx hb d_Coder_newOdds_3 rfl ?_
  refine lv_iload_n hx hb d_Coder_newOdds_4 rfl (lv_at hl 1 rfl) ?_
  refine lv_iconst (v := 0) hx hb d_Coder_newOdds_5 (by decide) ?_
  refine lv_iload_n hx hb d_Coder_newOdds_6 rfl (lv_at hl 1 rfl) ?_
  refine lv_iconst (v := 0) hx hb d_Coder_newOdds_7 (by decide) ?_
  refine W.eq (g2 := F0 m 8 ls [.int (nI 0), .int (nI ns), .int 0, .int (nI ns), .ref q_1, .ref q_1]) rfl ?_
  refine my_cvg (wr := [(co, .inr (4, [.long xx, .long xreadX, .ref soa, .ref sna, .ref swa, .int xkept, .ref ri, .ref ro, .ref rw, .int xasked]))]) (va_runI (As := [.int (nI ns), .int 0, .int (nI ns), .int (nI 0)]) (rest := [.ref q_1]) ⟨hx, hb, hml, hown, hts⟩ (c_Odds_init l dC dI cI cM cO H.size (hSl H) q_1 (nI ns) 0 ns 0 (by first | assumption | omega) (by first | assumption | omega)) (cwI 4 hts (my_gC k301) rfl rfl rfl (hg _ k14) (hg _ k332) (hg _ k300) rfl (by decide +kernel) ⟨by rw [hR]; exact Nat.le_of_ble_eq_true rfl, by rw [hR]; exact Nat.le_of_ble_eq_true rfl⟩) (my_preg (As := [.ref q_1, .int (nI ns), .int 0, .int (nI ns), .int (nI 0)]) hK hN (hP.sub [1] rfl) (hD.sub [1] (by decide) rfl)) rfl rfl hl.1 rfl (lv_room (Nat.le_of_ble_eq_true rfl)) d_Coder_newOdds_8 ⟨by rw [hR]; exact (show (0 + 1) + 600 ≤ 700 by omega), by rw [hR]; exact (show (0 + 5) + 600 ≤ 700 by omega)⟩) hP hD hS hA [1] [0] rfl rfl (by decide) (by decide) (fun u9 d_8 H locs hd_8 hw_8 hP hD hS => ?_)
  obtain ⟨zca_8, zpa_8⟩ := u9
  have hd_8 : d_8 + 0 ≤ 600 := hd_8
  have hP : va_P (dC, dI) vwCl [(co, .inr (4, [.long xx, .long xreadX, .ref soa, .ref sna, .ref swa, .int xkept, .ref ri, .ref ro, .ref rw, .int xasked])), (q_1, .inr (7, [.int (nI ns), .int 0, .int 0, .ref zca_8, .ref zpa_8])), (zca_8, .inl (cI, ns, .inl (fun _ => 0))), (zpa_8, .inl (cI, 0, .inl (fun _ => 0)))] H := hP
  have hD : va_D A [(co, .inr (4, [.long xx, .long xreadX, .ref soa, .ref sna, .ref swa, .int xkept, .ref ri, .ref ro, .ref rw, .int xasked])), (q_1, .inr (7, [.int (nI ns), .int 0, .int 0, .ref zca_8, .ref zpa_8])), (zca_8, .inl (cI, ns, .inl (fun _ => 0))), (zpa_8, .inl (cI, 0, .inl (fun _ => 0)))] := hD
  exact my_qretg (v := some q_1) hx hb hr (Or.inl ⟨_, rfl⟩) hlocks hQ hK hS (q_1, (nI ns), (0 : Int32), zca_8, zpa_8, ns, (0 : Nat), fun _ => 0, fun _ => 0) (show (0 + 1 + d_8) + 0 ≤ 700 by omega) (show (0 + 5 + d_8) + 0 ≤ 700 by omega) (⟨rfl, (show 1 ≤ ns by omega), hns, Nat.zero_le _⟩) (hP.sub [0, 1, 2, 3] rfl) (hD.sub [0, 1, 2, 3] (by decide) rfl) d_Coder_newOdds_11
set_option maxHeartbeats 2000000 in
set_option maxRecDepth 100000 in
theorem c_Table_newOdds (l : Launch) (dC : Nat → ClassId) (dI : Nat → Nat → Nat) (cI cM cO : ClassId) (sz : Nat) (sl : Nat) (co : Nat) (xx : Int64) (xreadX : Int64) (soa : Nat) (sna : Nat) (swa : Nat) (xkept : Int32) (ri : Nat) (ro : Nat) (rw : Nat) (xasked : Int32) (ns : Nat) (hns2 : 2 ≤ ns) (hns : ns ≤ 64) : MetQg l y_Table_newOdds (Cond.code y_Table_newOdds prog_12_method_2_code 2 (some (.object "RangeCoders$Odds")) :: gw) ({ frames := 2, cells := 700, slots := 700, locals := 36 } : Room) (dC, dI) vwCl (kT cI cM cO) [.ref co, .int (nI ns)] [(co, .inr (5, [.long xx, .long xreadX, .ref soa, .ref sna, .ref swa, .int xkept, .ref ri, .ref ro, .ref rw, .int xasked]))] sz sl (fun (r : Option Nat) (u : Nat × Int32 × Int32 × Nat × Nat × Nat × Nat × (Nat → Int32) × (Nat → Int32)) => r = some u.1 ∧ 1 ≤ u.2.2.2.2.2.1 ∧ u.2.2.2.2.2.1 ≤ 64 ∧ u.2.2.2.2.2.2.1 ≤ 512) (fun (u : Nat × Int32 × Int32 × Nat × Nat × Nat × Nat × (Nat → Int32) × (Nat → Int32)) => [(co, .inr (5, [.long xx, .long xreadX, .ref soa, .ref sna, .ref swa, .int xkept, .ref ri, .ref ro, .ref rw, .int xasked])), (u.1, .inr (7, [.int u.2.1, .int 0, .int u.2.2.1, .ref u.2.2.2.1, .ref u.2.2.2.2.1])), (u.2.2.2.1, .inl (cI, u.2.2.2.2.2.1, .inl u.2.2.2.2.2.2.2.1)), (u.2.2.2.2.1, .inl (cI, u.2.2.2.2.2.2.1, .inl u.2.2.2.2.2.2.2.2))]) 700 (fun (u : Nat × Int32 × Int32 × Nat × Nat × Nat × Nat × (Nat → Int32) × (Nat → Int32)) => 0) := by
  refine my_ofQg (cc := prog_12_method_2_code) (n := 2) (ret := (some (.object "RangeCoders$Odds"))) (by decide) rfl (Nat.le_of_ble_eq_true rfl) ?_
  intro p e s m args below meth c R Q A ls H locs hx hb hr hts hown hlocks hml hnm hR hQ hA hl hP hK hN hD hS
  have hg : ∀ w ∈ gw, w.before args s = true := fun w h => hts w (List.mem_cons_of_mem _ h)
  have hown : s.vm.findClass "RangeCoders$Table" = some m.cls := hown
  have hl : lv_has ls 2 [(0, .ref co), (1, .int (nI ns))] := hl
  refine va_new (ci := 7) (fs := [.int 0, .int 0, .int 0, .null, .null]) (C := "RangeCoders$Odds") (T := T_Odds) (N := 5) hx hb hg in_Odds t_Odds o_Odds hown (hg _ k328) (hg _ k295) (hg _ k14) hK hP hD hS hA rfl (fun j hj => by rcases (show j = 0 ∨ j = 1 ∨ j = 2 ∨ j = 3 ∨ j = 4 by omega) with rfl | rfl | rfl | rfl | rfl <;> rfl) (by rw [hR]; exact (show 0 + 1 ≤ 700 by omega)) (by rw [hR]; exact (show 0 + 5 ≤ 700 by omega)) d_Table_newOdds_0 (fun q_1 H hP hD hS => ?_)
  have hP : va_P (dC, dI) vwCl [(co, .inr (5, [.long xx, .long xreadX, .ref soa, .ref sna, .ref swa, .int xkept, .ref ri, .ref ro, .ref rw, .int xasked])), (q_1, .inr (7, [.int 0, .int 0, .int 0, .null, .null]))] H := hP
  have hD : va_D A [(co, .inr (5, [.long xx, .long xreadX, .ref soa, .ref sna, .ref swa, .int xkept, .ref ri, .ref ro, .ref rw, .int xasked])), (q_1, .inr (7, [.int 0, .int 0, .int 0, .null, .null]))] := hD
  refine lv_dup hx hb d_Table_newOdds_3 rfl ?_
  refine lv_iload_n hx hb d_Table_newOdds_4 rfl (lv_at hl 1 rfl) ?_
  refine lv_iconst (v := 0) hx hb d_Table_newOdds_5 (by decide) ?_
  refine lv_iload_n hx hb d_Table_newOdds_6 rfl (lv_at hl 1 rfl) ?_
  refine lv_sipush (v := 512) hx hb d_Table_newOdds_7 (by decide) ?_
  refine W.eq (g2 := F0 m 10 ls [.int (nI 512), .int (nI ns), .int 0, .int (nI ns), .ref q_1, .ref q_1]) rfl ?_
  refine my_cvg (wr := [(co, .inr (5, [.long xx, .long xreadX, .ref soa, .ref sna, .ref swa, .int xkept, .ref ri, .ref ro, .ref rw, .int xasked]))]) (va_runI (As := [.int (nI ns), .int 0, .int (nI ns), .int (nI 512)]) (rest := [.ref q_1]) ⟨hx, hb, hml, hown, hts⟩ (c_Odds_init l dC dI cI cM cO H.size (hSl H) q_1 (nI ns) 0 ns 512 (by first | assumption | omega) (by first | assumption | omega)) (cwI 4 hts (my_gC k301) rfl rfl rfl (hg _ k14) (hg _ k329) (hg _ k300) rfl (by decide +kernel) ⟨by rw [hR]; exact Nat.le_of_ble_eq_true rfl, by rw [hR]; exact Nat.le_of_ble_eq_true rfl⟩) (my_preg (As := [.ref q_1, .int (nI ns), .int 0, .int (nI ns), .int (nI 512)]) hK hN (hP.sub [1] rfl) (hD.sub [1] (by decide) rfl)) rfl rfl hl.1 rfl (lv_room (Nat.le_of_ble_eq_true rfl)) d_Table_newOdds_10 ⟨by rw [hR]; exact (show (0 + 1) + 600 ≤ 700 by omega), by rw [hR]; exact (show (0 + 5) + 600 ≤ 700 by omega)⟩) hP hD hS hA [1] [0] rfl rfl (by decide) (by decide) (fun u9 d_10 H locs hd_10 hw_10 hP hD hS => ?_)
  obtain ⟨zca_10, zpa_10⟩ := u9
  have hd_10 : d_10 + 0 ≤ 600 := hd_10
  have hP : va_P (dC, dI) vwCl [(co, .inr (5, [.long xx, .long xreadX, .ref soa, .ref sna, .ref swa, .int xkept, .ref ri, .ref ro, .ref rw, .int xasked])), (q_1, .inr (7, [.int (nI ns), .int 0, .int 0, .ref zca_10, .ref zpa_10])), (zca_10, .inl (cI, ns, .inl (fun _ => 0))), (zpa_10, .inl (cI, 512, .inl (fun _ => 0)))] H := hP
  have hD : va_D A [(co, .inr (5, [.long xx, .long xreadX, .ref soa, .ref sna, .ref swa, .int xkept, .ref ri, .ref ro, .ref rw, .int xasked])), (q_1, .inr (7, [.int (nI ns), .int 0, .int 0, .ref zca_10, .ref zpa_10])), (zca_10, .inl (cI, ns, .inl (fun _ => 0))), (zpa_10, .inl (cI, 512, .inl (fun _ => 0)))] := hD
  exact my_qretg (v := some q_1) hx hb hr (Or.inl ⟨_, rfl⟩) hlocks hQ hK hS (q_1, (nI ns), (0 : Int32), zca_10, zpa_10, ns, (512 : Nat), fun _ => 0, fun _ => 0) (show (0 + 1 + d_10) + 0 ≤ 700 by omega) (show (0 + 5 + d_10) + 0 ≤ 700 by omega) (⟨rfl, (show 1 ≤ ns by omega), hns, Nat.le_refl 512⟩) (hP.sub [0, 1, 2, 3] rfl) (hD.sub [0, 1, 2, 3] (by decide) rfl) d_Table_newOdds_13
set_option maxHeartbeats 2000000 in
set_option maxRecDepth 100000 in
theorem c_Bits_newOdds (l : Launch) (dC : Nat → ClassId) (dI : Nat → Nat → Nat) (cI cM cO : ClassId) (sz : Nat) (sl : Nat) (co : Nat) (xshift : Int32) (xkeptCode : Int64) (xkeptRange : Int64) (xkeptAsked : Int32) (xcache : Int32) (xpending : Int32) (xlow : Int64) (xrange : Int64) (xcode : Int64) (xreadLow : Int64) (xreadRange : Int64) (ri : Nat) (ro : Nat) (rw : Nat) (xasked : Int32) (ns : Nat) (hns2 : 2 ≤ ns) (hns : ns ≤ 64) : MetQg l y_Bits_newOdds (Cond.code y_Bits_newOdds prog_2_method_2_code 2 (some (.object "RangeCoders$Odds")) :: gw) ({ frames := 2, cells := 700, slots := 700, locals := 36 } : Room) (dC, dI) vwCl (kT cI cM cO) [.ref co, .int (nI ns)] [(co, .inr (3, [.int xshift, .long xkeptCode, .long xkeptRange, .int xkeptAsked, .int xcache, .int xpending, .long xlow, .long xrange, .long xcode, .long xreadLow, .long xreadRange, .ref ri, .ref ro, .ref rw, .int xasked]))] sz sl (fun (r : Option Nat) (u : Nat × Int32 × Int32 × Nat × Nat × Nat × Nat × (Nat → Int32) × (Nat → Int32)) => r = some u.1 ∧ 1 ≤ u.2.2.2.2.2.1 ∧ u.2.2.2.2.2.1 ≤ 64 ∧ u.2.2.2.2.2.2.1 ≤ 512) (fun (u : Nat × Int32 × Int32 × Nat × Nat × Nat × Nat × (Nat → Int32) × (Nat → Int32)) => [(co, .inr (3, [.int xshift, .long xkeptCode, .long xkeptRange, .int xkeptAsked, .int xcache, .int xpending, .long xlow, .long xrange, .long xcode, .long xreadLow, .long xreadRange, .ref ri, .ref ro, .ref rw, .int xasked])), (u.1, .inr (7, [.int u.2.1, .int 0, .int u.2.2.1, .ref u.2.2.2.1, .ref u.2.2.2.2.1])), (u.2.2.2.1, .inl (cI, u.2.2.2.2.2.1, .inl u.2.2.2.2.2.2.2.1)), (u.2.2.2.2.1, .inl (cI, u.2.2.2.2.2.2.1, .inl u.2.2.2.2.2.2.2.2))]) 700 (fun (u : Nat × Int32 × Int32 × Nat × Nat × Nat × Nat × (Nat → Int32) × (Nat → Int32)) => 0) := by
  refine my_ofQg (cc := prog_2_method_2_code) (n := 2) (ret := (some (.object "RangeCoders$Odds"))) (by decide) rfl (Nat.le_of_ble_eq_true rfl) ?_
  intro p e s m args below meth c R Q A ls H locs hx hb hr hts hown hlocks hml hnm hR hQ hA hl hP hK hN hD hS
  have hg : ∀ w ∈ gw, w.before args s = true := fun w h => hts w (List.mem_cons_of_mem _ h)
  have hown : s.vm.findClass "RangeCoders$Bits" = some m.cls := hown
  have hl : lv_has ls 2 [(0, .ref co), (1, .int (nI ns))] := hl
  refine va_new (ci := 7) (fs := [.int 0, .int 0, .int 0, .null, .null]) (C := "RangeCoders$Odds") (T := T_Odds) (N := 5) hx hb hg in_Odds t_Odds o_Odds hown (hg _ k294) (hg _ k295) (hg _ k14) hK hP hD hS hA rfl (fun j hj => by rcases (show j = 0 ∨ j = 1 ∨ j = 2 ∨ j = 3 ∨ j = 4 by omega) with rfl | rfl | rfl | rfl | rfl <;> rfl) (by rw [hR]; exact (show 0 + 1 ≤ 700 by omega)) (by rw [hR]; exact (show 0 + 5 ≤ 700 by omega)) d_Bits_newOdds_0 (fun q_1 H hP hD hS => ?_)
  have hP : va_P (dC, dI) vwCl [(co, .inr (3, [.int xshift, .long xkeptCode, .long xkeptRange, .int xkeptAsked, .int xcache, .int xpending, .long xlow, .long xrange, .long xcode, .long xreadLow, .long xreadRange, .ref ri, .ref ro, .ref rw, .int xasked])), (q_1, .inr (7, [.int 0, .int 0, .int 0, .null, .null]))] H := hP
  have hD : va_D A [(co, .inr (3, [.int xshift, .long xkeptCode, .long xkeptRange, .int xkeptAsked, .int xcache, .int xpending, .long xlow, .long xrange, .long xcode, .long xreadLow, .long xreadRange, .ref ri, .ref ro, .ref rw, .int xasked])), (q_1, .inr (7, [.int 0, .int 0, .int 0, .null, .null]))] := hD
  refine lv_dup hx hb d_Bits_newOdds_3 rfl ?_
  refine lv_iload_n hx hb d_Bits_newOdds_4 rfl (lv_at hl 1 rfl) ?_
  refine lv_iconst (v := 1) hx hb d_Bits_newOdds_5 (by decide) ?_
  refine lv_iconst (v := 1) hx hb d_Bits_newOdds_6 (by decide) ?_
  refine lv_iload_n hx hb d_Bits_newOdds_7 rfl (lv_at hl 1 rfl) ?_
  refine my_ci (wr := [(co, .inr (3, [.int xshift, .long xkeptCode, .long xkeptRange, .int xkeptAsked, .int xcache, .int xpending, .long xlow, .long xrange, .long xcode, .long xreadLow, .long xreadRange, .ref ri, .ref ro, .ref rw, .int xasked])), (q_1, .inr (7, [.int 0, .int 0, .int 0, .null, .null]))]) (va_runS (As := [.int (nI ns)]) (rest := [.int 1, .int 1, .int (nI ns), .ref q_1, .ref q_1]) ⟨hx, hb, hml, hown, hts⟩ (c_Bits_levelsOf l dC dI cI cM cO H.size (nI ns)) (cwS 1 hts (my_gS k296 k297 k8 k298) rfl rfl rfl (by decide +kernel) ⟨by rw [hR]; exact Nat.le_of_ble_eq_true rfl, by rw [hR]; exact Nat.le_of_ble_eq_true rfl⟩) (my_pre hK hN (hP.sub [] rfl) (hD.sub [] (by decide) rfl)) rfl rfl hl.1 rfl (lv_room (Nat.le_of_ble_eq_true rfl)) d_Bits_newOdds_8 ⟨by rw [hR]; exact (show (0 + 1) + 0 ≤ 700 by omega), by rw [hR]; exact (show (0 + 5) + 0 ≤ 700 by omega)⟩) hP hD hS hA [] [0, 1] rfl rfl (by decide) (by decide) (fun r_8 u9 H locs hw_8 hP hD hS => ?_)
  obtain ⟨hl1_8, hl6_8⟩ : 1 ≤ r_8.toInt ∧ r_8.toInt ≤ 6 := hw_8
  have hP : va_P (dC, dI) vwCl [(co, .inr (3, [.int xshift, .long xkeptCode, .long xkeptRange, .int xkeptAsked, .int xcache, .int xpending, .long xlow, .long xrange, .long xcode, .long xreadLow, .long xreadRange, .ref ri, .ref ro, .ref rw, .int xasked])), (q_1, .inr (7, [.int 0, .int 0, .int 0, .null, .null]))] H := hP
  have hD : va_D A [(co, .inr (3, [.int xshift, .long xkeptCode, .long xkeptRange, .int xkeptAsked, .int xcache, .int xpending, .long xlow, .long xrange, .long xcode, .long xreadLow, .long xreadRange, .ref ri, .ref ro, .ref rw, .int xasked])), (q_1, .inr (7, [.int 0, .int 0, .int 0, .null, .null]))] := hD
  refine lv_ishl hx hb d_Bits_newOdds_11 ?_
  refine lv_topi (fun v_2 ev_2 => ?_)
  refine lv_iconst (v := 0) hx hb d_Bits_newOdds_12 (by decide) ?_
  obtain ⟨n26, e26, h26a, h26b⟩ := lv_26 hl1_8 hl6_8
  have z9 : v_2 = nI n26 := by rw [ev_2]; exact e26
  subst z9
  refine W.eq (g2 := F0 m 13 ls [.int (nI 0), .int (nI n26), .int 1, .int (nI ns), .ref q_1, .ref q_1]) rfl ?_
  refine my_cvg (wr := [(co, .inr (3, [.int xshift, .long xkeptCode, .long xkeptRange, .int xkeptAsked, .int xcache, .int xpending, .long xlow, .long xrange, .long xcode, .long xreadLow, .long xreadRange, .ref ri, .ref ro, .ref rw, .int xasked]))]) (va_runI (As := [.int (nI ns), .int 1, .int (nI n26), .int (nI 0)]) (rest := [.ref q_1]) ⟨hx, hb, hml, hown, hts⟩ (c_Odds_init l dC dI cI cM cO H.size (hSl H) q_1 (nI ns) 1 n26 0 (by first | assumption | omega) (by first | assumption | omega)) (cwI 4 hts (my_gC k301) rfl rfl rfl (hg _ k14) (hg _ k299) (hg _ k300) rfl (by decide +kernel) ⟨by rw [hR]; exact Nat.le_of_ble_eq_true rfl, by rw [hR]; exact Nat.le_of_ble_eq_true rfl⟩) (my_preg (As := [.ref q_1, .int (nI ns), .int 1, .int (nI n26), .int (nI 0)]) hK hN (hP.sub [1] rfl) (hD.sub [1] (by decide) rfl)) rfl rfl hl.1 rfl (lv_room (Nat.le_of_ble_eq_true rfl)) d_Bits_newOdds_13 ⟨by rw [hR]; exact (show (0 + 1) + 600 ≤ 700 by omega), by rw [hR]; exact (show (0 + 5) + 600 ≤ 700 by omega)⟩) hP hD hS hA [1] [0] rfl rfl (by decide) (by decide) (fun u9 d_13 H locs hd_13 hw_13 hP hD hS => ?_)
  obtain ⟨zca_13, zpa_13⟩ := u9
  have hd_13 : d_13 + 0 ≤ 600 := hd_13
  have hP : va_P (dC, dI) vwCl [(co, .inr (3, [.int xshift, .long xkeptCode, .long xkeptRange, .int xkeptAsked, .int xcache, .int xpending, .long xlow, .long xrange, .long xcode, .long xreadLow, .long xreadRange, .ref ri, .ref ro, .ref rw, .int xasked])), (q_1, .inr (7, [.int (nI ns), .int 0, .int 1, .ref zca_13, .ref zpa_13])), (zca_13, .inl (cI, n26, .inl (fun _ => 0))), (zpa_13, .inl (cI, 0, .inl (fun _ => 0)))] H := hP
  have hD : va_D A [(co, .inr (3, [.int xshift, .long xkeptCode, .long xkeptRange, .int xkeptAsked, .int xcache, .int xpending, .long xlow, .long xrange, .long xcode, .long xreadLow, .long xreadRange, .ref ri, .ref ro, .ref rw, .int xasked])), (q_1, .inr (7, [.int (nI ns), .int 0, .int 1, .ref zca_13, .ref zpa_13])), (zca_13, .inl (cI, n26, .inl (fun _ => 0))), (zpa_13, .inl (cI, 0, .inl (fun _ => 0)))] := hD
  exact my_qretg (v := some q_1) hx hb hr (Or.inl ⟨_, rfl⟩) hlocks hQ hK hS (q_1, (nI ns), (1 : Int32), zca_13, zpa_13, n26, (0 : Nat), fun _ => 0, fun _ => 0) (show (0 + 1 + d_13) + 0 ≤ 700 by omega) (show (0 + 5 + d_13) + 0 ≤ 700 by omega) (⟨rfl, h26a, h26b, Nat.zero_le _⟩) (hP.sub [0, 1, 2, 3] rfl) (hD.sub [0, 1, 2, 3] (by decide) rfl) d_Bits_newOdds_16
set_option maxHeartbeats 2000000 in
set_option maxRecDepth 100000 in
theorem c_Model_init (l : Launch) (dC : Nat → ClassId) (dI : Nat → Nat → Nat) (cI cM cO : ClassId) (sz : Nat) (sl : Nat) (mo : Nat) (ns : Nat) (o1 : Nat) (o2 : Nat) (hns : ns ≤ 64) : MetVg l y_Model_init (Cond.code y_Model_init prog_5_method_1_code 4 none :: gw) ({ frames := 1, cells := 100, slots := 100, locals := 23 } : Room) (dC, dI) vwCl (kT cI cM cO) [.ref mo, .int (nI ns), .ref o1, .ref o2] [(mo, .inr (8, [.null, .null, .null]))] sz sl (fun (u : Nat × (Nat → Int32)) => True) (fun (u : Nat × (Nat → Int32)) => [(mo, .inr (8, [.ref u.1, .ref o1, .ref o2])), (u.1, .inl (cI, ns, .inl u.2))]) 100 (fun (u : Nat × (Nat → Int32)) => 0) := by
  refine my_ofVg (cc := prog_5_method_1_code) (n := 4) (ret := none) (by decide) rfl (Nat.le_of_ble_eq_true rfl) ?_
  intro p e s m args below meth c R Q A ls H locs hx hb hr hts hown hlocks hml hnm hR hQ hA hl hP hK hN hD hS
  have hg : ∀ w ∈ gw, w.before args s = true := fun w h => hts w (List.mem_cons_of_mem _ h)
  have hown : s.vm.findClass "RangeCoders$Model" = some m.cls := hown
  have hl : lv_has ls 4 [(0, .ref mo), (1, .int (nI ns)), (2, .ref o1), (3, .ref o2)] := hl
  refine lv_aload_n hx hb d_Model_init_0 rfl (lv_at hl 0 rfl) ?_
  refine W.objInit hx hb hown (hg _ k336) (hg _ k23) (hg _ k24) rfl (by rw [hml]; exact hl.1) rfl d_Model_init_1 (by rw [hR]; exact Nat.le_of_ble_eq_true rfl) (by rw [hR]; exact Nat.le_of_ble_eq_true rfl) ?_
  refine W.eq (g2 := F0 m 4 ls []) rfl ?_
  refine lv_aload_n hx hb d_Model_init_4 rfl (lv_at hl 0 rfl) ?_
  refine lv_iload_n hx hb d_Model_init_5 rfl (lv_at hl 1 rfl) ?_
  refine lv_if_lt (tgt := 13) hx hb d_Model_init_6 (by decide) (fun c_1 => ?_) (fun c_1 => ?_)
  · exact absurd c_1 (nI_pos (by omega))
  · refine lv_iload_n hx hb d_Model_init_9 rfl (lv_at hl 1 rfl) ?_
    refine lv_goto (tgt := 14) hx hb d_Model_init_10 (by decide) ?_
    refine my_newi hx hb (hg _ k66) hK 0 rfl hP hD hS hA (N' := ns) (nI_pos (by omega)) (nI_clamp (by omega)) (by omega) (by rw [hR]; exact (show 0 + 1 ≤ 100 by omega)) (by rw [hR]; exact (show 0 + ns ≤ 100 by omega)) d_Model_init_14 (fun q_2 H hP hD hS => ?_)
    have hP : va_P (dC, dI) vwCl [(mo, .inr (8, [.null, .null, .null])), (q_2, .inl (cI, ns, .inl (fun _ => 0)))] H := hP
    have hD : va_D A [(mo, .inr (8, [.null, .null, .null])), (q_2, .inl (cI, ns, .inl (fun _ => 0)))] := hD
    refine va_putF (D := (dC, dI)) (ci := 8) (v := .ref q_2) (ty := (.array .int)) (C := "RangeCoders$Model") (T := T_Model) (N := 3) hx hb hg in_Model t_Model o_Model n_Model hown hK hP hD hS 0 rfl rfl 0 (by decide) (hg _ k340) (fun _ h9 => h9) rfl (by rw [hnm]; rfl) rfl (by decide +kernel) rfl rfl (Nat.le_of_ble_eq_true rfl) d_Model_init_16 (fun H locs hP hD hS => ?_)
    have hP : va_P (dC, dI) vwCl [(mo, .inr (8, [.ref q_2, .null, .null])), (q_2, .inl (cI, ns, .inl (fun _ => 0)))] H := hP
    have hD : va_D A [(mo, .inr (8, [.ref q_2, .null, .null])), (q_2, .inl (cI, ns, .inl (fun _ => 0)))] := hD
    refine lv_aload_n hx hb d_Model_init_19 rfl (lv_at hl 0 rfl) ?_
    refine va_get (D := (dC, dI)) (ci := 8) (v := .ref q_2) (C := "RangeCoders$Model") (T := T_Model) (N := 3) hx hb hg in_Model hown hK hP 0 rfl rfl 0 (by decide) (hg _ k340) (fun _ h9 => h9) rfl d_Model_init_20 ?_
    refine lv_iconst (v := 1) hx hb d_Model_init_23 (by decide) ?_
    refine my_cv (wr := [(mo, .inr (8, [.ref q_2, .null, .null]))]) (va_runS (As := [.ref q_2, .int 1]) (rest := []) ⟨hx, hb, hml, hown, hts⟩ (c_Arrays_fill l dC dI cI cM cO H.size q_2 ns (fun _ => 0) 1 (by first | assumption | omega)) (my_cwS2 2 hts (my_gC k339) rfl rfl rfl (hg _ k15) (hg _ k337) (hg _ k338) (by decide +kernel) ⟨by rw [hR]; exact Nat.le_of_ble_eq_true rfl, by rw [hR]; exact Nat.le_of_ble_eq_true rfl⟩) (my_pre hK hN (hP.sub [1] rfl) (hD.sub [1] (by decide) rfl)) rfl rfl hl.1 rfl (lv_room (Nat.le_of_ble_eq_true rfl)) d_Model_init_24 ⟨by rw [hR]; exact (show (0 + 1) + 0 ≤ 100 by omega), by rw [hR]; exact (show (0 + ns) + 0 ≤ 100 by omega)⟩) hP hD hS hA [1] [0] rfl rfl (by decide) (by decide) (fun u9 H locs hw_24 hP hD hS => ?_)
    obtain ⟨afq_24, rfl⟩ : ∃ z, z = u9 := ⟨_, rfl⟩
    have hP : va_P (dC, dI) vwCl [(mo, .inr (8, [.ref q_2, .null, .null])), (q_2, .inl (cI, ns, .inl afq_24))] H := hP
    have hD : va_D A [(mo, .inr (8, [.ref q_2, .null, .null])), (q_2, .inl (cI, ns, .inl afq_24))] := hD
    refine lv_aload_n hx hb d_Model_init_27 rfl (lv_at hl 0 rfl) ?_
    refine lv_aload_n hx hb d_Model_init_28 rfl (lv_at hl 2 rfl) ?_
    refine va_putF (D := (dC, dI)) (ci := 8) (v := .ref o1) (ty := (.object "RangeCoders$Odds")) (C := "RangeCoders$Model") (T := T_Model) (N := 3) hx hb hg in_Model t_Model o_Model n_Model hown hK hP hD hS 0 rfl rfl 1 (by decide) (hg _ k342) (fun _ h9 => h9) rfl (by rw [hnm]; rfl) rfl (by decide +kernel) rfl rfl (Nat.le_of_ble_eq_true rfl) d_Model_init_29 (fun H locs hP hD hS => ?_)
    have hP : va_P (dC, dI) vwCl [(mo, .inr (8, [.ref q_2, .ref o1, .null])), (q_2, .inl (cI, ns, .inl afq_24))] H := hP
    have hD : va_D A [(mo, .inr (8, [.ref q_2, .ref o1, .null])), (q_2, .inl (cI, ns, .inl afq_24))] := hD
    refine lv_aload_n hx hb d_Model_init_32 rfl (lv_at hl 0 rfl) ?_
    refine lv_aload_n hx hb d_Model_init_33 rfl (lv_at hl 3 rfl) ?_
    refine va_putF (D := (dC, dI)) (ci := 8) (v := .ref o2) (ty := (.object "RangeCoders$Odds")) (C := "RangeCoders$Model") (T := T_Model) (N := 3) hx hb hg in_Model t_Model o_Model n_Model hown hK hP hD hS 0 rfl rfl 2 (by decide) (hg _ k344) (fun _ h9 => h9) rfl (by rw [hnm]; rfl) rfl (by decide +kernel) rfl rfl (Nat.le_of_ble_eq_true rfl) d_Model_init_34 (fun H locs hP hD hS => ?_)
    have hP : va_P (dC, dI) vwCl [(mo, .inr (8, [.ref q_2, .ref o1, .ref o2])), (q_2, .inl (cI, ns, .inl afq_24))] H := hP
    have hD : va_D A [(mo, .inr (8, [.ref q_2, .ref o1, .ref o2])), (q_2, .inl (cI, ns, .inl afq_24))] := hD
    exact my_vretg hx hb hr hlocks hQ hK hS (q_2, afq_24) (show (0 + 1) + 0 ≤ 100 by omega) (show (0 + ns) + 0 ≤ 100 by omega) (trivial) (hP.sub [0, 1] rfl) (hD.sub [0, 1] (by decide) rfl) d_Model_init_37
set_option maxHeartbeats 2000000 in
set_option maxRecDepth 100000 in
theorem c_Model_hasSign (l : Launch) (dC : Nat → ClassId) (dI : Nat → Nat → Nat) (cI cM cO : ClassId) (sz : Nat) (mo : Nat) (ka : Nat) (o1 : Nat) (o2 : Nat) (kl : Nat) (kf : Nat → Int32) (ii : Int32) (hkl : kl ≤ 64) : MetI l y_Model_hasSign (Cond.code y_Model_hasSign prog_5_method_2_code 2 (some .boolean) :: gw) ({ frames := 0, cells := 0, slots := 0, locals := 0 } : Room) (dC, dI) vwCl (kT cI cM cO) [.ref mo, .int ii] [(mo, .inr (8, [.ref ka, .ref o1, .ref o2])), (ka, .inl (cI, kl, .inl kf))] sz (fun (r : Int32) (u : Unit) => r ≠ 0 → vp_in ii kl) (fun (u : Unit) => [(mo, .inr (8, [.ref ka, .ref o1, .ref o2])), (ka, .inl (cI, kl, .inl kf))]) 0 0 := by
  refine my_ofI (cc := prog_5_method_2_code) (n := 2) (ret := (some .boolean)) (by decide) rfl (Nat.le_of_ble_eq_true rfl) ?_
  intro p e s m args below meth c R Q A ls H locs hx hb hr hts hown hlocks hml hnm hR hQ hA hl hP hK hN hD hS
  have hg : ∀ w ∈ gw, w.before args s = true := fun w h => hts w (List.mem_cons_of_mem _ h)
  have hown : s.vm.findClass "RangeCoders$Model" = some m.cls := hown
  have hl : lv_has ls 2 [(0, .ref mo), (1, .int ii)] := hl
  refine lv_iload_n hx hb d_Model_hasSign_0 rfl (lv_at hl 1 rfl) ?_
  refine lv_if_lt (tgt := 17) hx hb d_Model_hasSign_1 (by decide) (fun c_1 => ?_) (fun c_1 => ?_)
  · refine lv_iconst (v := 0) hx hb d_Model_hasSign_17 (by decide) ?_
    exact my_iret (v := 0) hx hb hr (rfl) hlocks hQ hK hS (Nat.le_refl _) (Nat.le_refl _) () (fun h9 => absurd rfl h9) (hP.sub [0, 1] rfl) (hD.sub [0, 1] (by decide) rfl) d_Model_hasSign_18
  · refine lv_iload_n hx hb d_Model_hasSign_4 rfl (lv_at hl 1 rfl) ?_
    refine lv_aload_n hx hb d_Model_hasSign_5 rfl (lv_at hl 0 rfl) ?_
    refine va_get (D := (dC, dI)) (ci := 8) (v := .ref ka) (C := "RangeCoders$Model") (T := T_Model) (N := 3) hx hb hg in_Model hown hK hP 0 rfl rfl 0 (by decide) (hg _ k340) (fun _ h9 => h9) rfl d_Model_hasSign_6 ?_
    refine va_alen hx hb hK hP 1 0 rfl rfl (v := nI kl) rfl d_Model_hasSign_9 ?_
    refine lv_icmp_ge (tgt := 17) hx hb d_Model_hasSign_10 (by decide) (fun c_2 => ?_) (fun c_2 => ?_)
    · refine lv_iconst (v := 0) hx hb d_Model_hasSign_17 (by decide) ?_
      exact my_iret (v := 0) hx hb hr (rfl) hlocks hQ hK hS (Nat.le_refl _) (Nat.le_refl _) () (fun h9 => absurd rfl h9) (hP.sub [0, 1] rfl) (hD.sub [0, 1] (by decide) rfl) d_Model_hasSign_18
    · refine lv_iconst (v := 1) hx hb d_Model_hasSign_13 (by decide) ?_
      refine lv_goto (tgt := 18) hx hb d_Model_hasSign_14 (by decide) ?_
      exact my_iret (v := 1) hx hb hr (rfl) hlocks hQ hK hS (Nat.le_refl _) (Nat.le_refl _) () (fun _ => I_in' (by omega) (by assumption) (by assumption)) (hP.sub [0, 1] rfl) (hD.sub [0, 1] (by decide) rfl) d_Model_hasSign_18
