set_option maxHeartbeats 2000000 in
set_option maxRecDepth 100000 in
theorem f_Odds_scaleTo (l : Launch) (dC : Nat → ClassId) (dI : Nat → Nat → Nat) (cI cM cO : ClassId) (sz : Nat) (oo : Nat) (osg : Int32) (ofc : Int32) (oca : Nat) (opa : Nat) (n : Nat) (ocf : Nat → Int32) (opl : Nat) (opf : Nat → Int32) (osm : Int32) (ka : Nat) (kf : Nat → Int32) (C : Nat → Nat) (M : Nat) (hn : n ≤ 64) (hpl : opl ≤ 512) (hk : tbI kf n C) (hB : bd C n 4095) (hn1 : 1 ≤ n) (hM : 1 ≤ M) (hM2 : M ≤ 4096) (hfc0 : ofc = 0) : MetV l y_Odds_scaleTo (Cond.code y_Odds_scaleTo prog_7_method_10_code 5 none :: gw) ({ frames := 2, cells := 0, slots := 0, locals := 43 } : Room) (dC, dI) vwCl (kT cI cM cO) [Value.ref oo, Value.int (nI M), Value.ref ka] [(oo, Sum.inr (7, [Value.int osg, Value.int osm, Value.int ofc, Value.ref oca, Value.ref opa])), (oca, Sum.inl (cI, n, Sum.inl ocf)), (opa, Sum.inl (cI, opl, Sum.inl opf)), (ka, Sum.inl (cI, n, Sum.inl kf))] sz (fun (u : (Nat → Int32)) => tbI u n (sc n M C)) (fun (u : (Nat → Int32)) => [(oo, Sum.inr (7, [Value.int osg, Value.int (nI (ns (sc n M C) n)), Value.int ofc, Value.ref oca, Value.ref opa])), (oca, Sum.inl (cI, n, Sum.inl u)), (opa, Sum.inl (cI, opl, Sum.inl opf)), (ka, Sum.inl (cI, n, Sum.inl kf))]) 0 0 := by
  refine my_ofV (cc := prog_7_method_10_code) (n := 5) (ret := none) (by decide) rfl (Nat.le_of_ble_eq_true rfl) ?_
  intro p e s m args below meth c R Q A ls H locs hx hb hr hts hown hlocks hml hnm hR hQ hA hl hP hK hN hD hS
  have hg : ∀ w ∈ gw, w.before args s = true := fun w h => hts w (List.mem_cons_of_mem _ h)
  have hown : s.vm.findClass "RangeCoders$Odds" = some m.cls := hown
  have hl : lv_has ls 5 [(0, Value.ref oo), (1, Value.int (nI M)), (2, Value.ref ka)] := hl
  have hs9 := ns_le64 hn hB
  have hsG9 := ns_le64 (F := scG n M C) hn (B := 4096) (fun k hk => Nat.le_trans (scG_le hM k hk) hM2)
  refine lv_aload_n hx hb d_Odds_scaleTo_0 rfl (lv_at hl 0 rfl) ?_
  refine lv_aload_n hx hb d_Odds_scaleTo_1 rfl (lv_at hl 2 rfl) ?_
  refine my_cv (wr := []) (va_runV (As := [Value.ref ka]) (rest := []) ⟨hx, hb, hml, hown, hts⟩ (f_Odds_copyCounts l dC dI cI cM cO H.size oo osg ofc oca opa n ocf opl opf osm ka kf C (by first | assumption | omega) (by first | assumption | omega) (by first | assumption | omega) (by first | assumption | omega)) (cwV 1 hts (my_gV k371 k373 ks0 k14 k374) rfl rfl rfl (by decide +kernel) ⟨by rw [hR]; exact Nat.le_of_ble_eq_true rfl, by rw [hR]; exact Nat.le_of_ble_eq_true rfl⟩) (my_preV hK hN (hP.sub [0, 1, 2, 3] rfl) (hD.sub [0, 1, 2, 3] (by decide +kernel) rfl) 0 rfl rfl) rfl rfl hl.1 rfl (lv_room (Nat.le_of_ble_eq_true rfl)) d_Odds_scaleTo_2 ⟨by rw [hR]; exact Nat.le_of_ble_eq_true rfl, by rw [hR]; exact Nat.le_of_ble_eq_true rfl⟩) hP hD hS hA [0, 1, 2, 3] [] rfl rfl (by decide +kernel) (by decide +kernel) (fun u9 H locs hw_2 hP hD hS => ?_)
  obtain ⟨ocfq_2, rfl⟩ : ∃ z, z = u9 := ⟨_, rfl⟩
  have hf_2 : tbI ocfq_2 n C := hw_2
  have hP : va_P (dC, dI) vwCl [(oo, Sum.inr (7, [Value.int osg, Value.int (nI (ns C n)), Value.int ofc, Value.ref oca, Value.ref opa])), (oca, Sum.inl (cI, n, Sum.inl ocfq_2)), (opa, Sum.inl (cI, opl, Sum.inl opf)), (ka, Sum.inl (cI, n, Sum.inl kf))] H := hP
  have hD : va_D A [(oo, Sum.inr (7, [Value.int osg, Value.int (nI (ns C n)), Value.int ofc, Value.ref oca, Value.ref opa])), (oca, Sum.inl (cI, n, Sum.inl ocfq_2)), (opa, Sum.inl (cI, opl, Sum.inl opf)), (ka, Sum.inl (cI, n, Sum.inl kf))] := hD
  refine lv_aload_n hx hb d_Odds_scaleTo_5 rfl (lv_at hl 0 rfl) ?_
  refine va_get (D := (dC, dI)) (ci := 7) (v := .int (nI (ns C n))) (C := "RangeCoders$Odds") (T := T_Odds) (N := 5) hx hb hg in_Odds hown hK hP 0 rfl rfl 1 (by decide) (hg _ k305) (fun _ h9 => h9) rfl d_Odds_scaleTo_6 ?_
  refine lv_istore_n (lv' := [(3, Value.int (nI (ns C n))), (0, Value.ref oo), (1, Value.int (nI M)), (2, Value.ref ka)]) hx hb d_Odds_scaleTo_9 rfl hl (by decide) rfl (fun ls hl => ?_)
  refine lv_iload_n hx hb d_Odds_scaleTo_10 rfl (lv_at hl 0 rfl) ?_
  refine lv_if_gt (tgt := 15) hx hb d_Odds_scaleTo_11 (by decide) (fun c_1 => ?_) (fun c_1 => ?_)
  · have hpos : 0 < ns C n := by
      rcases Nat.eq_zero_or_pos (ns C n) with q | q
      · exact absurd (show 0 < nI (ns C n) from c_1) (by rw [q]; decide)
      · exact q
    refine lv_aload_n hx hb d_Odds_scaleTo_15 rfl (lv_at hl 1 rfl) ?_
    refine lv_iconst (v := 0) hx hb d_Odds_scaleTo_16 (by decide) ?_
    refine va_put (D := (dC, dI)) (ci := 7) (v := .int 0) (ty := .int) (C := "RangeCoders$Odds") (T := T_Odds) (N := 5) hx hb hg in_Odds t_Odds o_Odds n_Odds hown hK hP hD hS 0 rfl rfl 1 (by decide) (hg _ k305) (fun _ h9 => h9) rfl (by decide +kernel) rfl rfl (Nat.le_of_ble_eq_true rfl) d_Odds_scaleTo_17 (fun H locs hP hD hS => ?_)
    have hP : va_P (dC, dI) vwCl [(oo, Sum.inr (7, [Value.int osg, Value.int 0, Value.int ofc, Value.ref oca, Value.ref opa])), (oca, Sum.inl (cI, n, Sum.inl ocfq_2)), (opa, Sum.inl (cI, opl, Sum.inl opf)), (ka, Sum.inl (cI, n, Sum.inl kf))] H := hP
    have hD : va_D A [(oo, Sum.inr (7, [Value.int osg, Value.int 0, Value.int ofc, Value.ref oca, Value.ref opa])), (oca, Sum.inl (cI, n, Sum.inl ocfq_2)), (opa, Sum.inl (cI, opl, Sum.inl opf)), (ka, Sum.inl (cI, n, Sum.inl kf))] := hD
    refine lv_iconst (v := 0) hx hb d_Odds_scaleTo_20 (by decide) ?_
    refine lv_istore (lv' := [(4, Value.int 0), (3, Value.int (nI (ns C n))), (0, Value.ref oo), (1, Value.int (nI M)), (2, Value.ref ka)]) hx hb d_Odds_scaleTo_21 hl (by decide) rfl (fun ls hl => ?_)
    have J_23 : ∀ (n9_23 : Nat) (j : Nat) (fL : Nat → Int32) (hn9_23 : n - j = n9_23) (hj : j ≤ n) (hL : tbL fL n j (scG n M C) C) (H : Heap) (locs : List Loc) (ls : Array Slot), va_P (dC, dI) vwCl [(oo, Sum.inr (7, [Value.int osg, Value.int (nI (ns (scG n M C) j)), Value.int ofc, Value.ref oca, Value.ref opa])), (oca, Sum.inl (cI, n, Sum.inl fL)), (opa, Sum.inl (cI, opl, Sum.inl opf)), (ka, Sum.inl (cI, n, Sum.inl kf))] H → va_D A [(oo, Sum.inr (7, [Value.int osg, Value.int (nI (ns (scG n M C) j)), Value.int ofc, Value.ref oca, Value.ref opa])), (oca, Sum.inl (cI, n, Sum.inl fL)), (opa, Sum.inl (cI, opl, Sum.inl opf)), (ka, Sum.inl (cI, n, Sum.inl kf))] → va_S A s.heap H locs → lv_has ls 5 [(4, Value.int (nI j)), (3, Value.int (nI (ns C n))), (0, Value.ref oo), (1, Value.int (nI M)), (2, Value.ref ka)] → W p l e R s m args below meth c H locs 0 0 Q (F0 m 23 ls []) := by
      intro n9_23
      induction n9_23 using Nat.strongRecOn with
      | ind n9_23 ih9_23 =>
        intro j fL hn9_23 hj hL H locs ls hP hD hS hl
        refine lv_iload hx hb d_Odds_scaleTo_23 (lv_at hl 0 rfl) ?_
        refine lv_aload_n hx hb d_Odds_scaleTo_25 rfl (lv_at hl 2 rfl) ?_
        refine va_get (D := (dC, dI)) (ci := 7) (v := .ref oca) (C := "RangeCoders$Odds") (T := T_Odds) (N := 5) hx hb hg in_Odds hown hK hP 0 rfl rfl 3 (by decide) (hg _ k309) (fun _ h9 => h9) rfl d_Odds_scaleTo_26 ?_
        refine va_alen hx hb hK hP 1 0 rfl rfl (v := nI n) rfl d_Odds_scaleTo_29 ?_
        refine lv_icmp_ge (tgt := 91) hx hb d_Odds_scaleTo_30 (by decide) (fun c_2 => ?_) (fun c_2 => ?_)
        · have hj3 : n = j := by have := nI_ge' (by omega) (by omega) c_2; omega
          subst hj3
          have hP : va_P (dC, dI) vwCl [(oo, Sum.inr (7, [Value.int osg, Value.int (nI (ns (scG n M C) n)), Value.int ofc, Value.ref oca, Value.ref opa])), (oca, Sum.inl (cI, n, Sum.inl fL)), (opa, Sum.inl (cI, opl, Sum.inl opf)), (ka, Sum.inl (cI, n, Sum.inl kf))] H := hP
          have hD : va_D A [(oo, Sum.inr (7, [Value.int osg, Value.int (nI (ns (scG n M C) n)), Value.int ofc, Value.ref oca, Value.ref opa])), (oca, Sum.inl (cI, n, Sum.inl fL)), (opa, Sum.inl (cI, opl, Sum.inl opf)), (ka, Sum.inl (cI, n, Sum.inl kf))] := hD
          refine lv_aload_n hx hb d_Odds_scaleTo_91 rfl (lv_at hl 2 rfl) ?_
          refine va_get (D := (dC, dI)) (ci := 7) (v := .int (nI (ns (scG n M C) n))) (C := "RangeCoders$Odds") (T := T_Odds) (N := 5) hx hb hg in_Odds hown hK hP 0 rfl rfl 1 (by decide) (hg _ k305) (fun _ h9 => h9) rfl d_Odds_scaleTo_92 ?_
          refine lv_iload_n hx hb d_Odds_scaleTo_95 rfl (lv_at hl 3 rfl) ?_
          refine lv_isub hx hb d_Odds_scaleTo_96 ?_
          refine lv_topi (fun v_3 ev_3 => ?_)
          refine lv_istore (lv' := [(4, Value.int v_3), (3, Value.int (nI (ns C n))), (0, Value.ref oo), (1, Value.int (nI M)), (2, Value.ref ka)]) hx hb d_Odds_scaleTo_97 hl (by decide) rfl (fun ls hl => ?_)
          have J_99 : ∀ (n9_99 : Nat) (x9 : Int32) (G9 : Nat → Nat) (fK : Nat → Int32) (hn9_99 : ns G9 n - M = n9_99) (hx9 : x9.toInt = (ns G9 n : Int) - M) (hI2 : tbI fK n G9) (hE2 : dec n (ns (scG n M C) n - M) (scG n M C) = dec n (ns G9 n - M) G9) (hB2 : bd G9 n 4096) (H : Heap) (locs : List Loc) (ls : Array Slot), va_P (dC, dI) vwCl [(oo, Sum.inr (7, [Value.int osg, Value.int (nI (ns G9 n)), Value.int ofc, Value.ref oca, Value.ref opa])), (oca, Sum.inl (cI, n, Sum.inl fK)), (opa, Sum.inl (cI, opl, Sum.inl opf)), (ka, Sum.inl (cI, n, Sum.inl kf))] H → va_D A [(oo, Sum.inr (7, [Value.int osg, Value.int (nI (ns G9 n)), Value.int ofc, Value.ref oca, Value.ref opa])), (oca, Sum.inl (cI, n, Sum.inl fK)), (opa, Sum.inl (cI, opl, Sum.inl opf)), (ka, Sum.inl (cI, n, Sum.inl kf))] → va_S A s.heap H locs → lv_has ls 5 [(4, Value.int x9), (3, Value.int (nI (ns C n))), (0, Value.ref oo), (1, Value.int (nI M)), (2, Value.ref ka)] → W p l e R s m args below meth c H locs 0 0 Q (F0 m 99 ls []) := by
            intro n9_99
            induction n9_99 using Nat.strongRecOn with
            | ind n9_99 ih9_99 =>
              intro x9 G9 fK hn9_99 hx9 hI2 hE2 hB2 H locs ls hP hD hS hl
              have hs8 := ns_le64 hn hB2
              have hB3 : bd G9 n 1000000 := fun k hk => Nat.le_trans (hB2 k hk) (by decide)
              have hg9 := gr_lt G9 (show 0 < n by omega)
              have hbg := hB2 _ hg9
              refine lv_iload hx hb d_Odds_scaleTo_99 (lv_at hl 0 rfl) ?_
              refine lv_if_le (tgt := 119) hx hb d_Odds_scaleTo_101 (by decide) (fun c_4 => ?_) (fun c_4 => ?_)
              · have hle : ns G9 n ≤ M := by have z9 := le_0 c_4; omega
                refine lv_aload_n hx hb d_Odds_scaleTo_119 rfl (lv_at hl 2 rfl) ?_
                refine lv_aload_n hx hb d_Odds_scaleTo_120 rfl (lv_at hl 2 rfl) ?_
                refine my_ci (wr := [(ka, Sum.inl (cI, n, Sum.inl kf))]) (va_runV (As := []) (rest := [Value.ref oo]) ⟨hx, hb, hml, hown, hts⟩ (f_Odds_greatest l dC dI cI cM cO H.size oo osg ofc oca opa n fK opl opf G9 (nI (ns G9 n)) (by first | assumption | omega) (by first | assumption | omega) (hI2) (hn1) (hB3)) (cwV 0 hts (my_gV k388 k390 ks2 k14 k391) rfl rfl rfl (by decide +kernel) ⟨by rw [hR]; exact Nat.le_of_ble_eq_true rfl, by rw [hR]; exact Nat.le_of_ble_eq_true rfl⟩) (my_preV hK hN (hP.sub [0, 1, 2] rfl) (hD.sub [0, 1, 2] (by decide +kernel) rfl) 0 rfl rfl) rfl rfl hl.1 rfl (lv_room (Nat.le_of_ble_eq_true rfl)) d_Odds_scaleTo_121 ⟨by rw [hR]; exact Nat.le_of_ble_eq_true rfl, by rw [hR]; exact Nat.le_of_ble_eq_true rfl⟩) hP hD hS hA [0, 1, 2] [3] rfl rfl (by decide +kernel) (by decide +kernel) (fun r_121 u9 H locs hw_121 hP hD hS => ?_)
                have hr_121 : r_121 = nI (gr G9 n) := hw_121
                have hP : va_P (dC, dI) vwCl [(ka, Sum.inl (cI, n, Sum.inl kf)), (oo, Sum.inr (7, [Value.int osg, Value.int (nI (ns G9 n)), Value.int ofc, Value.ref oca, Value.ref opa])), (oca, Sum.inl (cI, n, Sum.inl fK)), (opa, Sum.inl (cI, opl, Sum.inl opf))] H := hP
                have hD : va_D A [(ka, Sum.inl (cI, n, Sum.inl kf)), (oo, Sum.inr (7, [Value.int osg, Value.int (nI (ns G9 n)), Value.int ofc, Value.ref oca, Value.ref opa])), (oca, Sum.inl (cI, n, Sum.inl fK)), (opa, Sum.inl (cI, opl, Sum.inl opf))] := hD
                have z9 : r_121 = nI (gr G9 n) := hr_121
                subst z9
                refine lv_iload_n hx hb d_Odds_scaleTo_124 rfl (lv_at hl 3 rfl) ?_
                refine lv_aload_n hx hb d_Odds_scaleTo_125 rfl (lv_at hl 2 rfl) ?_
                refine va_get (D := (dC, dI)) (ci := 7) (v := .int (nI (ns G9 n))) (C := "RangeCoders$Odds") (T := T_Odds) (N := 5) hx hb hg in_Odds hown hK hP 1 rfl rfl 1 (by decide) (hg _ k305) (fun _ h9 => h9) rfl d_Odds_scaleTo_126 ?_
                refine lv_isub hx hb d_Odds_scaleTo_129 ?_
                refine lv_topi (fun v_5 ev_5 => ?_)
                have z9 : v_5 = nI (M - ns G9 n) := by rw [ev_5]; exact pk_sub hle
                subst z9
                refine my_cv (wr := [(ka, Sum.inl (cI, n, Sum.inl kf))]) (va_runV (As := [Value.int (nI (gr G9 n)), Value.int (nI (M - ns G9 n))]) (rest := []) ⟨hx, hb, hml, hown, hts⟩ (f_Odds_grow l dC dI cI cM cO H.size oo osg ofc oca opa n fK opl opf (nI (ns G9 n)) (gr G9 n) (nI (M - ns G9 n)) (by first | assumption | omega) (by first | assumption | omega) (hg9) (by rw [hfc0]; exact nI_pos' (by omega))) (cwV 2 hts (my_gV k392 k393 k394 k14 k395) rfl rfl rfl (by decide +kernel) ⟨by rw [hR]; exact Nat.le_of_ble_eq_true rfl, by rw [hR]; exact Nat.le_of_ble_eq_true rfl⟩) (my_preV hK hN (hP.sub [1, 2, 3] rfl) (hD.sub [1, 2, 3] (by decide +kernel) rfl) 0 rfl rfl) rfl rfl hl.1 rfl (lv_room (Nat.le_of_ble_eq_true rfl)) d_Odds_scaleTo_130 ⟨by rw [hR]; exact Nat.le_of_ble_eq_true rfl, by rw [hR]; exact Nat.le_of_ble_eq_true rfl⟩) hP hD hS hA [1, 2, 3] [0] rfl rfl (by decide +kernel) (by decide +kernel) (fun u9 H locs hw_130 hP hD hS => ?_)
                obtain ⟨ocfq_130, rfl⟩ : ∃ z, z = u9 := ⟨_, rfl⟩
                have hc_130 : ocfq_130 = upd fK (gr G9 n) (fK (gr G9 n) + (nI (M - ns G9 n))) := hw_130
                have hP : va_P (dC, dI) vwCl [(ka, Sum.inl (cI, n, Sum.inl kf)), (oo, Sum.inr (7, [Value.int osg, Value.int ((nI (ns G9 n)) + (nI (M - ns G9 n))), Value.int ofc, Value.ref oca, Value.ref opa])), (oca, Sum.inl (cI, n, Sum.inl ocfq_130)), (opa, Sum.inl (cI, opl, Sum.inl opf))] H := hP
                have hD : va_D A [(ka, Sum.inl (cI, n, Sum.inl kf)), (oo, Sum.inr (7, [Value.int osg, Value.int ((nI (ns G9 n)) + (nI (M - ns G9 n))), Value.int ofc, Value.ref oca, Value.ref opa])), (oca, Sum.inl (cI, n, Sum.inl ocfq_130)), (opa, Sum.inl (cI, opl, Sum.inl opf))] := hD
                have hsc : sc n M C = scE n M G9 := by unfold sc; rw [if_neg (by omega), hE2, dec_0 hle]
                have hS9 := ns_up (F := G9) (v := G9 (gr G9 n) + (M - ns G9 n)) hg9
                have hsu : ((nI (ns G9 n)) + (nI (M - ns G9 n)) : Int32) = nI (ns (sc n M C) n) := by rw [hsc, show ns (scE n M G9) n = ns G9 n + (M - ns G9 n) by unfold scE; omega]; exact nI_add _ _
                rw [hsu] at hP hD
                have hP : va_P (dC, dI) vwCl [(ka, Sum.inl (cI, n, Sum.inl kf)), (oo, Sum.inr (7, [Value.int osg, Value.int (nI (ns (sc n M C) n)), Value.int ofc, Value.ref oca, Value.ref opa])), (oca, Sum.inl (cI, n, Sum.inl ocfq_130)), (opa, Sum.inl (cI, opl, Sum.inl opf))] H := hP
                have hD : va_D A [(ka, Sum.inl (cI, n, Sum.inl kf)), (oo, Sum.inr (7, [Value.int osg, Value.int (nI (ns (sc n M C) n)), Value.int ofc, Value.ref oca, Value.ref opa])), (oca, Sum.inl (cI, n, Sum.inl ocfq_130)), (opa, Sum.inl (cI, opl, Sum.inl opf))] := hD
                exact my_vret hx hb hr hlocks hQ hK hS (Nat.le_refl _) (Nat.le_refl _) (ocfq_130) (by rw [hsc, hc_130]; exact tb_up hI2 rfl (by rw [hI2 _ hg9]; exact nI_add _ _)) (hP.sub [1, 2, 3, 0] rfl) (hD.sub [1, 2, 3, 0] (by decide +kernel) rfl) d_Odds_scaleTo_133
              · have hgt : M < ns G9 n := by have z9 := not_le0 c_4; omega
                have hp9 := gr_pos (F := G9) (n := n) (by omega)
                refine lv_aload_n hx hb d_Odds_scaleTo_104 rfl (lv_at hl 2 rfl) ?_
                refine lv_aload_n hx hb d_Odds_scaleTo_105 rfl (lv_at hl 2 rfl) ?_
                refine my_ci (wr := [(ka, Sum.inl (cI, n, Sum.inl kf))]) (va_runV (As := []) (rest := [Value.ref oo]) ⟨hx, hb, hml, hown, hts⟩ (f_Odds_greatest l dC dI cI cM cO H.size oo osg ofc oca opa n fK opl opf G9 (nI (ns G9 n)) (by first | assumption | omega) (by first | assumption | omega) (hI2) (hn1) (hB3)) (cwV 0 hts (my_gV k388 k390 ks2 k14 k391) rfl rfl rfl (by decide +kernel) ⟨by rw [hR]; exact Nat.le_of_ble_eq_true rfl, by rw [hR]; exact Nat.le_of_ble_eq_true rfl⟩) (my_preV hK hN (hP.sub [0, 1, 2] rfl) (hD.sub [0, 1, 2] (by decide +kernel) rfl) 0 rfl rfl) rfl rfl hl.1 rfl (lv_room (Nat.le_of_ble_eq_true rfl)) d_Odds_scaleTo_106 ⟨by rw [hR]; exact Nat.le_of_ble_eq_true rfl, by rw [hR]; exact Nat.le_of_ble_eq_true rfl⟩) hP hD hS hA [0, 1, 2] [3] rfl rfl (by decide +kernel) (by decide +kernel) (fun r_106 u9 H locs hw_106 hP hD hS => ?_)
                have hr_106 : r_106 = nI (gr G9 n) := hw_106
                have hP : va_P (dC, dI) vwCl [(ka, Sum.inl (cI, n, Sum.inl kf)), (oo, Sum.inr (7, [Value.int osg, Value.int (nI (ns G9 n)), Value.int ofc, Value.ref oca, Value.ref opa])), (oca, Sum.inl (cI, n, Sum.inl fK)), (opa, Sum.inl (cI, opl, Sum.inl opf))] H := hP
                have hD : va_D A [(ka, Sum.inl (cI, n, Sum.inl kf)), (oo, Sum.inr (7, [Value.int osg, Value.int (nI (ns G9 n)), Value.int ofc, Value.ref oca, Value.ref opa])), (oca, Sum.inl (cI, n, Sum.inl fK)), (opa, Sum.inl (cI, opl, Sum.inl opf))] := hD
                have z9 : r_106 = nI (gr G9 n) := hr_106
                subst z9
                refine lv_iconst (v := (-1)) hx hb d_Odds_scaleTo_109 (by decide) ?_
                refine my_cv (wr := [(ka, Sum.inl (cI, n, Sum.inl kf))]) (va_runV (As := [Value.int (nI (gr G9 n)), Value.int (-1)]) (rest := []) ⟨hx, hb, hml, hown, hts⟩ (f_Odds_grow l dC dI cI cM cO H.size oo osg ofc oca opa n fK opl opf (nI (ns G9 n)) (gr G9 n) (-1) (by first | assumption | omega) (by first | assumption | omega) (hg9) (by rw [hfc0]; exact nI_pos' (by omega))) (cwV 2 hts (my_gV k392 k393 k394 k14 k395) rfl rfl rfl (by decide +kernel) ⟨by rw [hR]; exact Nat.le_of_ble_eq_true rfl, by rw [hR]; exact Nat.le_of_ble_eq_true rfl⟩) (my_preV hK hN (hP.sub [1, 2, 3] rfl) (hD.sub [1, 2, 3] (by decide +kernel) rfl) 0 rfl rfl) rfl rfl hl.1 rfl (lv_room (Nat.le_of_ble_eq_true rfl)) d_Odds_scaleTo_110 ⟨by rw [hR]; exact Nat.le_of_ble_eq_true rfl, by rw [hR]; exact Nat.le_of_ble_eq_true rfl⟩) hP hD hS hA [1, 2, 3] [0] rfl rfl (by decide +kernel) (by decide +kernel) (fun u9 H locs hw_110 hP hD hS => ?_)
                obtain ⟨ocfq_110, rfl⟩ : ∃ z, z = u9 := ⟨_, rfl⟩
                have hc_110 : ocfq_110 = upd fK (gr G9 n) (fK (gr G9 n) + (-1)) := hw_110
                have hP : va_P (dC, dI) vwCl [(ka, Sum.inl (cI, n, Sum.inl kf)), (oo, Sum.inr (7, [Value.int osg, Value.int ((nI (ns G9 n)) + (-1)), Value.int ofc, Value.ref oca, Value.ref opa])), (oca, Sum.inl (cI, n, Sum.inl ocfq_110)), (opa, Sum.inl (cI, opl, Sum.inl opf))] H := hP
                have hD : va_D A [(ka, Sum.inl (cI, n, Sum.inl kf)), (oo, Sum.inr (7, [Value.int osg, Value.int ((nI (ns G9 n)) + (-1)), Value.int ofc, Value.ref oca, Value.ref opa])), (oca, Sum.inl (cI, n, Sum.inl ocfq_110)), (opa, Sum.inl (cI, opl, Sum.inl opf))] := hD
                have hU : tbI ocfq_110 n (upN G9 (gr G9 n) (G9 (gr G9 n) - 1)) := by rw [hc_110]; exact tb_up hI2 rfl (by rw [hI2 _ hg9]; exact nI_m1 hp9)
                have hsu : ((nI (ns G9 n)) + (-1) : Int32) = nI (ns (upN G9 (gr G9 n) (G9 (gr G9 n) - 1)) n) := by rw [dec_ns (by omega) (by omega)]; exact nI_m1 (by omega)
                rw [hsu] at hP hD
                have hP : va_P (dC, dI) vwCl [(ka, Sum.inl (cI, n, Sum.inl kf)), (oo, Sum.inr (7, [Value.int osg, Value.int (nI (ns (upN G9 (gr G9 n) (G9 (gr G9 n) - 1)) n)), Value.int ofc, Value.ref oca, Value.ref opa])), (oca, Sum.inl (cI, n, Sum.inl ocfq_110)), (opa, Sum.inl (cI, opl, Sum.inl opf))] H := hP
                have hD : va_D A [(ka, Sum.inl (cI, n, Sum.inl kf)), (oo, Sum.inr (7, [Value.int osg, Value.int (nI (ns (upN G9 (gr G9 n) (G9 (gr G9 n) - 1)) n)), Value.int ofc, Value.ref oca, Value.ref opa])), (oca, Sum.inl (cI, n, Sum.inl ocfq_110)), (opa, Sum.inl (cI, opl, Sum.inl opf))] := hD
                obtain ⟨v_6, ev_6⟩ : ∃ y : Int32, y = x9 + (-1) := ⟨_, rfl⟩
                refine lv_iinc (v := v_6) (lv' := [(4, Value.int v_6), (3, Value.int (nI (ns C n))), (0, Value.ref oo), (1, Value.int (nI M)), (2, Value.ref ka)]) hx hb d_Odds_scaleTo_113 hl (k := 0) rfl (by rw [ev_6]; rfl) (by decide) rfl (fun ls hl => ?_)
                refine lv_goto (tgt := 99) hx hb d_Odds_scaleTo_116 (by decide) ?_
                exact ih9_99 _ (by first | omega | (rw [dec_ns (by omega) (by omega)]; omega)) v_6 (upN G9 (gr G9 n) (G9 (gr G9 n) - 1)) ocfq_110 rfl (by have z9 := I_dnp c_4 ev_6; rw [dec_ns (by omega) (by omega)]; omega) (hU) (by rw [hE2]; exact dec_st (by omega) hgt) (dec_bd hB2) H locs ls (hP.sub [1, 2, 3, 0] rfl) (hD.sub [1, 2, 3, 0] (by decide +kernel) rfl) hS (lv_sub hl [0, 1, 2, 3, 4] rfl)
          exact J_99 _ v_3 (scG n M C) fL rfl (by rw [ev_3]; exact sub_toInt (by omega) (by omega)) (hL.1) (rfl) (fun k hk => Nat.le_trans (scG_le hM k hk) hM2) H locs ls (hP.sub [0, 1, 2, 3] rfl) (hD.sub [0, 1, 2, 3] (by decide +kernel) rfl) hS (lv_sub hl [0, 1, 2, 3, 4] rfl)
        · have hj2 : j < n := nI_lt' (by omega) c_2
          have hb9 := hB j hj2
          have hmul : C j * M ≤ 4095 * 4096 := Nat.mul_le_mul hb9 hM2
          have hdl : C j * M / ns C n ≤ C j * M := Nat.div_le_self _ _
          refine lv_aload_n hx hb d_Odds_scaleTo_33 rfl (lv_at hl 2 rfl) ?_
          refine va_get (D := (dC, dI)) (ci := 7) (v := .ref oca) (C := "RangeCoders$Odds") (T := T_Odds) (N := 5) hx hb hg in_Odds hown hK hP 0 rfl rfl 3 (by decide) (hg _ k309) (fun _ h9 => h9) rfl d_Odds_scaleTo_34 ?_
          refine lv_iload hx hb d_Odds_scaleTo_37 (lv_at hl 0 rfl) ?_
          refine lv_aload_n hx hb d_Odds_scaleTo_39 rfl (lv_at hl 2 rfl) ?_
          refine va_get (D := (dC, dI)) (ci := 7) (v := .ref oca) (C := "RangeCoders$Odds") (T := T_Odds) (N := 5) hx hb hg in_Odds hown hK hP 0 rfl rfl 3 (by decide) (hg _ k309) (fun _ h9 => h9) rfl d_Odds_scaleTo_40 ?_
          refine lv_iload hx hb d_Odds_scaleTo_43 (lv_at hl 0 rfl) ?_
          refine va_iald hx hb hK hP 1 0 rfl rfl (vp_in_nI hj2 (by omega)) d_Odds_scaleTo_45 ?_
          refine lv_topi (fun v_7 ev_7 => ?_)
          have z9 : v_7 = nI (C j) := by rw [ev_7]; exact tb_rd2 hL hj2 (by omega)
          subst z9
          refine lv_if_ne (tgt := 53) hx hb d_Odds_scaleTo_46 (by decide) (fun c_8 => ?_) (fun c_8 => ?_)
          · refine lv_iconst (v := 1) hx hb d_Odds_scaleTo_53 (by decide) ?_
            refine lv_aload_n hx hb d_Odds_scaleTo_54 rfl (lv_at hl 2 rfl) ?_
            refine va_get (D := (dC, dI)) (ci := 7) (v := .ref oca) (C := "RangeCoders$Odds") (T := T_Odds) (N := 5) hx hb hg in_Odds hown hK hP 0 rfl rfl 3 (by decide) (hg _ k309) (fun _ h9 => h9) rfl d_Odds_scaleTo_55 ?_
            refine lv_iload hx hb d_Odds_scaleTo_58 (lv_at hl 0 rfl) ?_
            refine va_iald hx hb hK hP 1 0 rfl rfl (vp_in_nI hj2 (by omega)) d_Odds_scaleTo_60 ?_
            refine lv_topi (fun v_9 ev_9 => ?_)
            refine lv_iload_n hx hb d_Odds_scaleTo_61 rfl (lv_at hl 3 rfl) ?_
            have z9 : v_9 = nI (C j) := by rw [ev_9]; exact tb_rd2 hL hj2 (by omega)
            subst z9
            refine lv_imul hx hb d_Odds_scaleTo_62 ?_
            refine lv_topi (fun v_10 ev_10 => ?_)
            refine lv_iload_n hx hb d_Odds_scaleTo_63 rfl (lv_at hl 1 rfl) ?_
            refine lv_idiv hx hb d_Odds_scaleTo_64 (nI_ne0 hpos (by omega)) ?_
            refine lv_topi (fun v_11 ev_11 => ?_)
            have z9 : v_11 = nI (C j * M / ns C n) := by subst_vars; rw [pk_mul]; exact pk_div (by omega) hpos (by omega)
            subst z9
            refine va_mmax hx hb (by rw [hml]; exact hl.1.symm) hown (hg _ k387) (hg _ k34) (hg _ k2) (hg _ k35) (by rw [hR]; exact Nat.le_of_ble_eq_true rfl) (by rw [hR]; exact Nat.le_of_ble_eq_true rfl) (Nat.zero_le _) (Nat.zero_le _) d_Odds_scaleTo_65 ?_
            refine lv_topi (fun v_12 ev_12 => ?_)
            have hval : v_12 = nI (scG n M C j) := by
              unfold scG
              rw [if_neg (fun q => c_8 (by rw [q]; rfl)), ev_12]
              exact max1 (by omega)
            refine va_iast hx hb hK hP hD hS 1 0 rfl rfl (vp_in_nI hj2 (by omega)) d_Odds_scaleTo_68 (fun H locs hP hD hS => ?_)
            have hP : va_P (dC, dI) vwCl [(oo, Sum.inr (7, [Value.int osg, Value.int (nI (ns (scG n M C) j)), Value.int ofc, Value.ref oca, Value.ref opa])), (oca, Sum.inl (cI, n, Sum.inl (upd fL (nI j).toNatClampNeg v_12))), (opa, Sum.inl (cI, opl, Sum.inl opf)), (ka, Sum.inl (cI, n, Sum.inl kf))] H := hP
            have hD : va_D A [(oo, Sum.inr (7, [Value.int osg, Value.int (nI (ns (scG n M C) j)), Value.int ofc, Value.ref oca, Value.ref opa])), (oca, Sum.inl (cI, n, Sum.inl (upd fL (nI j).toNatClampNeg v_12))), (opa, Sum.inl (cI, opl, Sum.inl opf)), (ka, Sum.inl (cI, n, Sum.inl kf))] := hD
            have hL8 : tbL (upd fL (nI j).toNatClampNeg v_12) n (j + 1) (scG n M C) C := tbL_st hL (nI_clamp (by omega)) hval
            refine lv_aload_n hx hb d_Odds_scaleTo_69 rfl (lv_at hl 2 rfl) ?_
            refine lv_dup hx hb d_Odds_scaleTo_70 rfl ?_
            refine va_get (D := (dC, dI)) (ci := 7) (v := .int (nI (ns (scG n M C) j))) (C := "RangeCoders$Odds") (T := T_Odds) (N := 5) hx hb hg in_Odds hown hK hP 0 rfl rfl 1 (by decide) (hg _ k305) (fun _ h9 => h9) rfl d_Odds_scaleTo_71 ?_
            refine lv_aload_n hx hb d_Odds_scaleTo_74 rfl (lv_at hl 2 rfl) ?_
            refine va_get (D := (dC, dI)) (ci := 7) (v := .ref oca) (C := "RangeCoders$Odds") (T := T_Odds) (N := 5) hx hb hg in_Odds hown hK hP 0 rfl rfl 3 (by decide) (hg _ k309) (fun _ h9 => h9) rfl d_Odds_scaleTo_75 ?_
            refine lv_iload hx hb d_Odds_scaleTo_78 (lv_at hl 0 rfl) ?_
            refine va_iald hx hb hK hP 1 0 rfl rfl (vp_in_nI hj2 (by omega)) d_Odds_scaleTo_80 ?_
            refine lv_topi (fun v_13 ev_13 => ?_)
            have z9 : v_13 = nI (scG n M C j) := by rw [ev_13]; exact tb_rd hL8.1 (Nat.lt_succ_self _) (by omega)
            subst z9
            refine lv_iadd hx hb d_Odds_scaleTo_81 ?_
            refine lv_topi (fun v_14 ev_14 => ?_)
            have z9 : v_14 = nI (ns (scG n M C) (j + 1)) := by rw [ev_14]; exact nI_add _ _
            subst z9
            refine va_put (D := (dC, dI)) (ci := 7) (v := .int (nI (ns (scG n M C) (j + 1)))) (ty := .int) (C := "RangeCoders$Odds") (T := T_Odds) (N := 5) hx hb hg in_Odds t_Odds o_Odds n_Odds hown hK hP hD hS 0 rfl rfl 1 (by decide) (hg _ k305) (fun _ h9 => h9) rfl (by decide +kernel) rfl rfl (Nat.le_of_ble_eq_true rfl) d_Odds_scaleTo_82 (fun H locs hP hD hS => ?_)
            have hP : va_P (dC, dI) vwCl [(oo, Sum.inr (7, [Value.int osg, Value.int (nI (ns (scG n M C) (j + 1))), Value.int ofc, Value.ref oca, Value.ref opa])), (oca, Sum.inl (cI, n, Sum.inl (upd fL (nI j).toNatClampNeg v_12))), (opa, Sum.inl (cI, opl, Sum.inl opf)), (ka, Sum.inl (cI, n, Sum.inl kf))] H := hP
            have hD : va_D A [(oo, Sum.inr (7, [Value.int osg, Value.int (nI (ns (scG n M C) (j + 1))), Value.int ofc, Value.ref oca, Value.ref opa])), (oca, Sum.inl (cI, n, Sum.inl (upd fL (nI j).toNatClampNeg v_12))), (opa, Sum.inl (cI, opl, Sum.inl opf)), (ka, Sum.inl (cI, n, Sum.inl kf))] := hD
            obtain ⟨v_15, ev_15⟩ : ∃ y : Int32, y = (nI j) + (1) := ⟨_, rfl⟩
            refine lv_iinc (v := v_15) (lv' := [(4, Value.int v_15), (3, Value.int (nI (ns C n))), (0, Value.ref oo), (1, Value.int (nI M)), (2, Value.ref ka)]) hx hb d_Odds_scaleTo_85 hl (k := 0) rfl (by rw [ev_15]; rfl) (by decide) rfl (fun ls hl => ?_)
            have z9 : v_15 = nI (j + 1) := by rw [ev_15]; exact nI_1 _
            subst z9
            refine lv_goto (tgt := 23) hx hb d_Odds_scaleTo_88 (by decide) ?_
            exact ih9_23 _ (by first | omega | (omega)) (j + 1) (upd fL (nI j).toNatClampNeg v_12) rfl (by omega) (hL8) H locs ls (hP.sub [0, 1, 2, 3] rfl) (hD.sub [0, 1, 2, 3] (by decide +kernel) rfl) hS (lv_sub hl [0, 1, 2, 3, 4] rfl)
          · refine lv_iconst (v := 0) hx hb d_Odds_scaleTo_49 (by decide) ?_
            refine lv_goto (tgt := 68) hx hb d_Odds_scaleTo_50 (by decide) ?_
            have hval : (0 : Int32) = nI (scG n M C j) := by
              unfold scG
              rw [if_pos ((nI_eq (b := 0) (by omega) (by decide)).mp c_8)]
              rfl
            refine va_iast hx hb hK hP hD hS 1 0 rfl rfl (vp_in_nI hj2 (by omega)) d_Odds_scaleTo_68 (fun H locs hP hD hS => ?_)
            have hP : va_P (dC, dI) vwCl [(oo, Sum.inr (7, [Value.int osg, Value.int (nI (ns (scG n M C) j)), Value.int ofc, Value.ref oca, Value.ref opa])), (oca, Sum.inl (cI, n, Sum.inl (upd fL (nI j).toNatClampNeg 0))), (opa, Sum.inl (cI, opl, Sum.inl opf)), (ka, Sum.inl (cI, n, Sum.inl kf))] H := hP
            have hD : va_D A [(oo, Sum.inr (7, [Value.int osg, Value.int (nI (ns (scG n M C) j)), Value.int ofc, Value.ref oca, Value.ref opa])), (oca, Sum.inl (cI, n, Sum.inl (upd fL (nI j).toNatClampNeg 0))), (opa, Sum.inl (cI, opl, Sum.inl opf)), (ka, Sum.inl (cI, n, Sum.inl kf))] := hD
            have hL8 : tbL (upd fL (nI j).toNatClampNeg 0) n (j + 1) (scG n M C) C := tbL_st hL (nI_clamp (by omega)) hval
            refine lv_aload_n hx hb d_Odds_scaleTo_69 rfl (lv_at hl 2 rfl) ?_
            refine lv_dup hx hb d_Odds_scaleTo_70 rfl ?_
            refine va_get (D := (dC, dI)) (ci := 7) (v := .int (nI (ns (scG n M C) j))) (C := "RangeCoders$Odds") (T := T_Odds) (N := 5) hx hb hg in_Odds hown hK hP 0 rfl rfl 1 (by decide) (hg _ k305) (fun _ h9 => h9) rfl d_Odds_scaleTo_71 ?_
            refine lv_aload_n hx hb d_Odds_scaleTo_74 rfl (lv_at hl 2 rfl) ?_
            refine va_get (D := (dC, dI)) (ci := 7) (v := .ref oca) (C := "RangeCoders$Odds") (T := T_Odds) (N := 5) hx hb hg in_Odds hown hK hP 0 rfl rfl 3 (by decide) (hg _ k309) (fun _ h9 => h9) rfl d_Odds_scaleTo_75 ?_
            refine lv_iload hx hb d_Odds_scaleTo_78 (lv_at hl 0 rfl) ?_
            refine va_iald hx hb hK hP 1 0 rfl rfl (vp_in_nI hj2 (by omega)) d_Odds_scaleTo_80 ?_
            refine lv_topi (fun v_16 ev_16 => ?_)
            have z9 : v_16 = nI (scG n M C j) := by rw [ev_16]; exact tb_rd hL8.1 (Nat.lt_succ_self _) (by omega)
            subst z9
            refine lv_iadd hx hb d_Odds_scaleTo_81 ?_
            refine lv_topi (fun v_17 ev_17 => ?_)
            have z9 : v_17 = nI (ns (scG n M C) (j + 1)) := by rw [ev_17]; exact nI_add _ _
            subst z9
            refine va_put (D := (dC, dI)) (ci := 7) (v := .int (nI (ns (scG n M C) (j + 1)))) (ty := .int) (C := "RangeCoders$Odds") (T := T_Odds) (N := 5) hx hb hg in_Odds t_Odds o_Odds n_Odds hown hK hP hD hS 0 rfl rfl 1 (by decide) (hg _ k305) (fun _ h9 => h9) rfl (by decide +kernel) rfl rfl (Nat.le_of_ble_eq_true rfl) d_Odds_scaleTo_82 (fun H locs hP hD hS => ?_)
            have hP : va_P (dC, dI) vwCl [(oo, Sum.inr (7, [Value.int osg, Value.int (nI (ns (scG n M C) (j + 1))), Value.int ofc, Value.ref oca, Value.ref opa])), (oca, Sum.inl (cI, n, Sum.inl (upd fL (nI j).toNatClampNeg 0))), (opa, Sum.inl (cI, opl, Sum.inl opf)), (ka, Sum.inl (cI, n, Sum.inl kf))] H := hP
            have hD : va_D A [(oo, Sum.inr (7, [Value.int osg, Value.int (nI (ns (scG n M C) (j + 1))), Value.int ofc, Value.ref oca, Value.ref opa])), (oca, Sum.inl (cI, n, Sum.inl (upd fL (nI j).toNatClampNeg 0))), (opa, Sum.inl (cI, opl, Sum.inl opf)), (ka, Sum.inl (cI, n, Sum.inl kf))] := hD
            obtain ⟨v_18, ev_18⟩ : ∃ y : Int32, y = (nI j) + (1) := ⟨_, rfl⟩
            refine lv_iinc (v := v_18) (lv' := [(4, Value.int v_18), (3, Value.int (nI (ns C n))), (0, Value.ref oo), (1, Value.int (nI M)), (2, Value.ref ka)]) hx hb d_Odds_scaleTo_85 hl (k := 0) rfl (by rw [ev_18]; rfl) (by decide) rfl (fun ls hl => ?_)
            have z9 : v_18 = nI (j + 1) := by rw [ev_18]; exact nI_1 _
            subst z9
            refine lv_goto (tgt := 23) hx hb d_Odds_scaleTo_88 (by decide) ?_
            exact ih9_23 _ (by first | omega | (omega)) (j + 1) (upd fL (nI j).toNatClampNeg 0) rfl (by omega) (hL8) H locs ls (hP.sub [0, 1, 2, 3] rfl) (hD.sub [0, 1, 2, 3] (by decide +kernel) rfl) hS (lv_sub hl [0, 1, 2, 3, 4] rfl)
    exact J_23 _ (0 : Nat) ocfq_2 rfl (Nat.zero_le _) (tbL_0 hf_2) H locs ls (hP.sub [0, 1, 2, 3] rfl) (hD.sub [0, 1, 2, 3] (by decide +kernel) rfl) hS (lv_sub hl [0, 1, 2, 3, 4] rfl)
  · have hz : ns C n = 0 := by
      rcases Nat.eq_zero_or_pos (ns C n) with q | q
      · exact q
      · exact absurd (show 0 < nI (ns C n) from nI_pos0 q (by omega)) c_1
    have hsc : sc n M C = C := by unfold sc; rw [if_pos hz]
    have hsu : (nI (ns C n) : Int32) = nI (ns (sc n M C) n) := by rw [hsc]
    rw [hsu] at hP hD
    have hP : va_P (dC, dI) vwCl [(oo, Sum.inr (7, [Value.int osg, Value.int (nI (ns (sc n M C) n)), Value.int ofc, Value.ref oca, Value.ref opa])), (oca, Sum.inl (cI, n, Sum.inl ocfq_2)), (opa, Sum.inl (cI, opl, Sum.inl opf)), (ka, Sum.inl (cI, n, Sum.inl kf))] H := hP
    have hD : va_D A [(oo, Sum.inr (7, [Value.int osg, Value.int (nI (ns (sc n M C) n)), Value.int ofc, Value.ref oca, Value.ref opa])), (oca, Sum.inl (cI, n, Sum.inl ocfq_2)), (opa, Sum.inl (cI, opl, Sum.inl opf)), (ka, Sum.inl (cI, n, Sum.inl kf))] := hD
    exact my_vret hx hb hr hlocks hQ hK hS (Nat.le_refl _) (Nat.le_refl _) (ocfq_2) (by rw [hsc]; exact hf_2) (hP.sub [0, 1, 2, 3] rfl) (hD.sub [0, 1, 2, 3] (by decide +kernel) rfl) d_Odds_scaleTo_14
set_option maxHeartbeats 2000000 in
set_option maxRecDepth 100000 in
theorem f_Odds_spread (l : Launch) (dC : Nat → ClassId) (dI : Nat → Nat → Nat) (cI cM cO : ClassId) (sz : Nat) (oo : Nat) (osg : Int32) (ofc : Int32) (oca : Nat) (opa : Nat) (n : Nat) (ocf : Nat → Int32) (opl : Nat) (opf : Nat → Int32) (F : Nat → Nat) (osm : Int32) (hn : n ≤ 64) (hpl : opl ≤ 512) (hf : tbI ocf n F) (hsum : ns F n ≤ 512) : MetV l y_Odds_spread (Cond.code y_Odds_spread prog_7_method_11_code 4 none :: gw) ({ frames := 0, cells := 0, slots := 0, locals := 0 } : Room) (dC, dI) vwCl (kT cI cM cO) [Value.ref oo] [(oo, Sum.inr (7, [Value.int osg, Value.int osm, Value.int ofc, Value.ref oca, Value.ref opa])), (oca, Sum.inl (cI, n, Sum.inl ocf)), (opa, Sum.inl (cI, 512, Sum.inl opf))] sz (fun (u : (Nat → Int32)) => layt u F n (ns F n)) (fun (u : (Nat → Int32)) => [(oo, Sum.inr (7, [Value.int osg, Value.int osm, Value.int ofc, Value.ref oca, Value.ref opa])), (oca, Sum.inl (cI, n, Sum.inl ocf)), (opa, Sum.inl (cI, 512, Sum.inl u))]) 0 0 := by
  refine my_ofV (cc := prog_7_method_11_code) (n := 4) (ret := none) (by decide) rfl (Nat.le_of_ble_eq_true rfl) ?_
  intro p e s m args below meth c R Q A ls H locs hx hb hr hts hown hlocks hml hnm hR hQ hA hl hP hK hN hD hS
  have hg : ∀ w ∈ gw, w.before args s = true := fun w h => hts w (List.mem_cons_of_mem _ h)
  have hown : s.vm.findClass "RangeCoders$Odds" = some m.cls := hown
  have hl : lv_has ls 4 [(0, Value.ref oo)] := hl
  refine lv_iconst (v := 0) hx hb d_Odds_spread_0 (by decide) ?_
  refine lv_istore_n (lv' := [(1, Value.int 0), (0, Value.ref oo)]) hx hb d_Odds_spread_1 rfl hl (by decide) rfl (fun ls hl => ?_)
  refine lv_iconst (v := 0) hx hb d_Odds_spread_2 (by decide) ?_
  refine lv_istore_n (lv' := [(2, Value.int 0), (1, Value.int 0), (0, Value.ref oo)]) hx hb d_Odds_spread_3 rfl hl (by decide) rfl (fun ls hl => ?_)
  have J_4 : ∀ (n9_4 : Nat) (j : Nat) (soK : Nat → Int32) (hn9_4 : n - j = n9_4) (hj : j ≤ n) (hlt : layt soK F n (ns F j)) (H : Heap) (locs : List Loc) (ls : Array Slot), va_P (dC, dI) vwCl [(oo, Sum.inr (7, [Value.int osg, Value.int osm, Value.int ofc, Value.ref oca, Value.ref opa])), (oca, Sum.inl (cI, n, Sum.inl ocf)), (opa, Sum.inl (cI, 512, Sum.inl soK))] H → va_D A [(oo, Sum.inr (7, [Value.int osg, Value.int osm, Value.int ofc, Value.ref oca, Value.ref opa])), (oca, Sum.inl (cI, n, Sum.inl ocf)), (opa, Sum.inl (cI, 512, Sum.inl soK))] → va_S A s.heap H locs → lv_has ls 4 [(2, Value.int (nI j)), (1, Value.int (nI (323 * ns F j % 512))), (0, Value.ref oo)] → W p l e R s m args below meth c H locs 0 0 Q (F0 m 4 ls []) := by
    intro n9_4
    induction n9_4 using Nat.strongRecOn with
    | ind n9_4 ih9_4 =>
      intro j soK hn9_4 hj hlt H locs ls hP hD hS hl
      refine lv_iload_n hx hb d_Odds_spread_4 rfl (lv_at hl 0 rfl) ?_
      refine lv_aload_n hx hb d_Odds_spread_5 rfl (lv_at hl 2 rfl) ?_
      refine va_get (D := (dC, dI)) (ci := 7) (v := .ref oca) (C := "RangeCoders$Odds") (T := T_Odds) (N := 5) hx hb hg in_Odds hown hK hP 0 rfl rfl 3 (by decide) (hg _ k309) (fun _ h9 => h9) rfl d_Odds_spread_6 ?_
      refine va_alen hx hb hK hP 1 0 rfl rfl (v := nI n) rfl d_Odds_spread_9 ?_
      refine lv_icmp_ge (tgt := 69) hx hb d_Odds_spread_10 (by decide) (fun c_1 => ?_) (fun c_1 => ?_)
      · have hj3 : n = j := by have := nI_ge' (by omega) (by omega) c_1; omega
        subst hj3
        have hP : va_P (dC, dI) vwCl [(oo, Sum.inr (7, [Value.int osg, Value.int osm, Value.int ofc, Value.ref oca, Value.ref opa])), (oca, Sum.inl (cI, n, Sum.inl ocf)), (opa, Sum.inl (cI, 512, Sum.inl soK))] H := hP
        have hD : va_D A [(oo, Sum.inr (7, [Value.int osg, Value.int osm, Value.int ofc, Value.ref oca, Value.ref opa])), (oca, Sum.inl (cI, n, Sum.inl ocf)), (opa, Sum.inl (cI, 512, Sum.inl soK))] := hD
        exact my_vret hx hb hr hlocks hQ hK hS (Nat.le_refl _) (Nat.le_refl _) (soK) (hlt) (hP.sub [0, 1, 2] rfl) (hD.sub [0, 1, 2] (by decide +kernel) rfl) d_Odds_spread_69
      · have hj2 : j < n := nI_lt' (by omega) c_1
        have hm1 := ns_m1 F hj2
        have hm2 := ns_m F (show j + 1 ≤ n from hj2)
        refine lv_iconst (v := 0) hx hb d_Odds_spread_13 (by decide) ?_
        refine lv_istore_n (lv' := [(3, Value.int 0), (2, Value.int (nI j)), (1, Value.int (nI (323 * ns F j % 512))), (0, Value.ref oo)]) hx hb d_Odds_spread_14 rfl hl (by decide) rfl (fun ls hl => ?_)
        have J_15 : ∀ (n9_15 : Nat) (k : Nat) (soJ : Nat → Int32) (hn9_15 : F j - k = n9_15) (hk1 : k ≤ F j) (hl2 : layt soJ F n (ns F j + k)) (H : Heap) (locs : List Loc) (ls : Array Slot), va_P (dC, dI) vwCl [(oo, Sum.inr (7, [Value.int osg, Value.int osm, Value.int ofc, Value.ref oca, Value.ref opa])), (oca, Sum.inl (cI, n, Sum.inl ocf)), (opa, Sum.inl (cI, 512, Sum.inl soJ))] H → va_D A [(oo, Sum.inr (7, [Value.int osg, Value.int osm, Value.int ofc, Value.ref oca, Value.ref opa])), (oca, Sum.inl (cI, n, Sum.inl ocf)), (opa, Sum.inl (cI, 512, Sum.inl soJ))] → va_S A s.heap H locs → lv_has ls 4 [(3, Value.int (nI k)), (1, Value.int (nI (323 * (ns F j + k) % 512))), (2, Value.int (nI j)), (0, Value.ref oo)] → W p l e R s m args below meth c H locs 0 0 Q (F0 m 15 ls []) := by
          intro n9_15
          induction n9_15 using Nat.strongRecOn with
          | ind n9_15 ih9_15 =>
            intro k soJ hn9_15 hk1 hl2 H locs ls hP hD hS hl
            refine lv_iload_n hx hb d_Odds_spread_15 rfl (lv_at hl 0 rfl) ?_
            refine lv_aload_n hx hb d_Odds_spread_16 rfl (lv_at hl 3 rfl) ?_
            refine va_get (D := (dC, dI)) (ci := 7) (v := .ref oca) (C := "RangeCoders$Odds") (T := T_Odds) (N := 5) hx hb hg in_Odds hown hK hP 0 rfl rfl 3 (by decide) (hg _ k309) (fun _ h9 => h9) rfl d_Odds_spread_17 ?_
            refine lv_iload_n hx hb d_Odds_spread_20 rfl (lv_at hl 2 rfl) ?_
            refine va_iald hx hb hK hP 1 0 rfl rfl (vp_in_nI hj2 (by omega)) d_Odds_spread_21 ?_
            refine lv_topi (fun v_2 ev_2 => ?_)
            have z9 : v_2 = nI (F j) := by rw [ev_2]; exact tb_rd hf hj2 (by omega)
            subst z9
            refine lv_icmp_ge (tgt := 63) hx hb d_Odds_spread_22 (by decide) (fun c_3 => ?_) (fun c_3 => ?_)
            · have hk3 : F j = k := by have := nI_ge' (by omega) (by omega) c_3; omega
              subst hk3
              have hP : va_P (dC, dI) vwCl [(oo, Sum.inr (7, [Value.int osg, Value.int osm, Value.int ofc, Value.ref oca, Value.ref opa])), (oca, Sum.inl (cI, n, Sum.inl ocf)), (opa, Sum.inl (cI, 512, Sum.inl soJ))] H := hP
              have hD : va_D A [(oo, Sum.inr (7, [Value.int osg, Value.int osm, Value.int ofc, Value.ref oca, Value.ref opa])), (oca, Sum.inl (cI, n, Sum.inl ocf)), (opa, Sum.inl (cI, 512, Sum.inl soJ))] := hD
              obtain ⟨v_4, ev_4⟩ : ∃ y : Int32, y = (nI j) + (1) := ⟨_, rfl⟩
              refine lv_iinc (v := v_4) (lv' := [(2, Value.int v_4), (3, Value.int (nI (F j))), (1, Value.int (nI (323 * (ns F j + (F j)) % 512))), (0, Value.ref oo)]) hx hb d_Odds_spread_63 hl (k := 2) rfl (by rw [ev_4]; rfl) (by decide) rfl (fun ls hl => ?_)
              have z9 : v_4 = nI (j + 1) := by rw [ev_4]; exact nI_1 _
              subst z9
              refine lv_goto (tgt := 4) hx hb d_Odds_spread_66 (by decide) ?_
              exact ih9_4 _ (by first | omega | (omega)) (j + 1) soJ rfl (by omega) (hl2) H locs ls (hP.sub [0, 1, 2] rfl) (hD.sub [0, 1, 2] (by decide +kernel) rfl) hS (lv_sub hl [0, 2, 3] rfl)
            · have hk2 : k < F j := nI_lt' (by omega) c_3
              have hm5 := Nat.mod_lt (323 * (ns F j + k)) (show 0 < 512 by decide)
              refine lv_iload_n hx hb d_Odds_spread_25 rfl (lv_at hl 1 rfl) ?_
              refine lv_if_lt (tgt := 57) hx hb d_Odds_spread_26 (by decide) (fun c_5 => ?_) (fun c_5 => ?_)
              · exact absurd c_5 (nI_pos (by omega))
              · refine lv_iload_n hx hb d_Odds_spread_29 rfl (lv_at hl 1 rfl) ?_
                refine lv_aload_n hx hb d_Odds_spread_30 rfl (lv_at hl 3 rfl) ?_
                refine va_get (D := (dC, dI)) (ci := 7) (v := .ref opa) (C := "RangeCoders$Odds") (T := T_Odds) (N := 5) hx hb hg in_Odds hown hK hP 0 rfl rfl 4 (by decide) (hg _ k310) (fun _ h9 => h9) rfl d_Odds_spread_31 ?_
                refine va_alen hx hb hK hP 2 0 rfl rfl (v := nI 512) rfl d_Odds_spread_34 ?_
                refine lv_icmp_ge (tgt := 57) hx hb d_Odds_spread_35 (by decide) (fun c_6 => ?_) (fun c_6 => ?_)
                · exact absurd (nI_ge' (n := 512) (by omega) (by decide) c_6) (by omega)
                · refine lv_aload_n hx hb d_Odds_spread_38 rfl (lv_at hl 3 rfl) ?_
                  refine va_get (D := (dC, dI)) (ci := 7) (v := .ref opa) (C := "RangeCoders$Odds") (T := T_Odds) (N := 5) hx hb hg in_Odds hown hK hP 0 rfl rfl 4 (by decide) (hg _ k310) (fun _ h9 => h9) rfl d_Odds_spread_39 ?_
                  refine lv_iload_n hx hb d_Odds_spread_42 rfl (lv_at hl 1 rfl) ?_
                  refine lv_iload_n hx hb d_Odds_spread_43 rfl (lv_at hl 2 rfl) ?_
                  refine va_iast hx hb hK hP hD hS 2 0 rfl rfl (vp_in_nI hm5 (by decide)) d_Odds_spread_44 (fun H locs hP hD hS => ?_)
                  have hP : va_P (dC, dI) vwCl [(oo, Sum.inr (7, [Value.int osg, Value.int osm, Value.int ofc, Value.ref oca, Value.ref opa])), (oca, Sum.inl (cI, n, Sum.inl ocf)), (opa, Sum.inl (cI, 512, Sum.inl (upd soJ (nI (323 * (ns F j + k) % 512)).toNatClampNeg (nI j))))] H := hP
                  have hD : va_D A [(oo, Sum.inr (7, [Value.int osg, Value.int osm, Value.int ofc, Value.ref oca, Value.ref opa])), (oca, Sum.inl (cI, n, Sum.inl ocf)), (opa, Sum.inl (cI, 512, Sum.inl (upd soJ (nI (323 * (ns F j + k) % 512)).toNatClampNeg (nI j))))] := hD
                  have hl8 : layt (upd soJ (nI (323 * (ns F j + k) % 512)).toNatClampNeg (nI j)) F n (ns F j + (k + 1)) := layt_st (t := ns F j + k) hl2 (by omega) (nI_clamp (by omega)) (by rw [sgA_eq (s := j) hj2 (Nat.le_add_right _ _) (by omega)])
                  refine lv_iload_n hx hb d_Odds_spread_45 rfl (lv_at hl 1 rfl) ?_
                  refine lv_sipush (v := 323) hx hb d_Odds_spread_46 (by decide) ?_
                  refine lv_iadd hx hb d_Odds_spread_49 ?_
                  refine lv_topi (fun v_7 ev_7 => ?_)
                  refine lv_aload_n hx hb d_Odds_spread_50 rfl (lv_at hl 3 rfl) ?_
                  refine va_get (D := (dC, dI)) (ci := 7) (v := .ref opa) (C := "RangeCoders$Odds") (T := T_Odds) (N := 5) hx hb hg in_Odds hown hK hP 0 rfl rfl 4 (by decide) (hg _ k310) (fun _ h9 => h9) rfl d_Odds_spread_51 ?_
                  refine va_alen hx hb hK hP 2 0 rfl rfl (v := nI 512) rfl d_Odds_spread_54 ?_
                  refine lv_irem hx hb d_Odds_spread_55 (by decide) ?_
                  refine lv_topi (fun v_8 ev_8 => ?_)
                  have hpn : v_8 = nI (323 * (ns F j + (k + 1)) % 512) := by
                    subst_vars
                    rw [show nI (323 * (ns F j + k) % 512) + 323 = nI (323 * (ns F j + k) % 512 + 323) from nI_add _ 323]
                    refine (pk_rem (d := 512) (by omega) (by decide) (by decide)).trans ?_
                    congr 1
                    omega
                  have z9 : v_8 = nI (323 * (ns F j + (k + 1)) % 512) := hpn
                  subst z9
                  refine lv_istore_n (lv' := [(1, Value.int (nI (323 * (ns F j + (k + 1)) % 512))), (3, Value.int (nI k)), (2, Value.int (nI j)), (0, Value.ref oo)]) hx hb d_Odds_spread_56 rfl hl (by decide) rfl (fun ls hl => ?_)
                  obtain ⟨v_9, ev_9⟩ : ∃ y : Int32, y = (nI k) + (1) := ⟨_, rfl⟩
                  refine lv_iinc (v := v_9) (lv' := [(3, Value.int v_9), (1, Value.int (nI (323 * (ns F j + (k + 1)) % 512))), (2, Value.int (nI j)), (0, Value.ref oo)]) hx hb d_Odds_spread_57 hl (k := 1) rfl (by rw [ev_9]; rfl) (by decide) rfl (fun ls hl => ?_)
                  have z9 : v_9 = nI (k + 1) := by rw [ev_9]; exact nI_1 _
                  subst z9
                  refine lv_goto (tgt := 15) hx hb d_Odds_spread_60 (by decide) ?_
                  exact ih9_15 _ (by first | omega | (omega)) (k + 1) (upd soJ (nI (323 * (ns F j + k) % 512)).toNatClampNeg (nI j)) rfl (by omega) (hl8) H locs ls (hP.sub [0, 1, 2] rfl) (hD.sub [0, 1, 2] (by decide +kernel) rfl) hS (lv_sub hl [0, 1, 2, 3] rfl)
        exact J_15 _ (0 : Nat) soK rfl (Nat.zero_le _) (hlt) H locs ls (hP.sub [0, 1, 2] rfl) (hD.sub [0, 1, 2] (by decide +kernel) rfl) hS (lv_sub hl [0, 2, 1, 3] rfl)
  exact J_4 _ (0 : Nat) opf rfl (Nat.zero_le _) (fun _ z => absurd z (Nat.not_lt_zero _)) H locs ls (hP.sub [0, 1, 2] rfl) (hD.sub [0, 1, 2] (by decide +kernel) rfl) hS (lv_sub hl [0, 1, 2] rfl)
set_option maxHeartbeats 2000000 in
set_option maxRecDepth 100000 in
theorem f_Odds_placeOf (l : Launch) (dC : Nat → ClassId) (dI : Nat → Nat → Nat) (cI cM cO : ClassId) (sz : Nat) (oo : Nat) (osg : Int32) (ofc : Int32) (oca : Nat) (opa : Nat) (n : Nat) (ocf : Nat → Int32) (opl : Nat) (opf : Nat → Int32) (osm : Int32) (P : Nat → Nat) (x : Nat) (d : Nat) (p9 : Nat) (hn : n ≤ 64) (hpl : opl ≤ 512) (hop : tbI opf 512 P) (hPb : ∀ p, p < 512 → P p < 64) (hxs : x < 64) (hp9 : p9 < 512) (hPx : P p9 = x) (hcd : cn P x p9 = d) : MetI l y_Odds_placeOf (Cond.code y_Odds_placeOf prog_7_method_14_code 5 (some .int) :: gw) ({ frames := 0, cells := 0, slots := 0, locals := 0 } : Room) (dC, dI) vwCl (kT cI cM cO) [Value.ref oo, Value.int (nI x), Value.int (nI d)] [(oo, Sum.inr (7, [Value.int osg, Value.int osm, Value.int ofc, Value.ref oca, Value.ref opa])), (oca, Sum.inl (cI, n, Sum.inl ocf)), (opa, Sum.inl (cI, 512, Sum.inl opf))] sz (fun (r : Int32) (u : Unit) => r = nI p9) (fun (u : Unit) => [(oo, Sum.inr (7, [Value.int osg, Value.int osm, Value.int ofc, Value.ref oca, Value.ref opa])), (oca, Sum.inl (cI, n, Sum.inl ocf)), (opa, Sum.inl (cI, 512, Sum.inl opf))]) 0 0 := by
  refine my_ofI (cc := prog_7_method_14_code) (n := 5) (ret := (some .int)) (by decide) rfl (Nat.le_of_ble_eq_true rfl) ?_
  intro p e s m args below meth c R Q A ls H locs hx hb hr hts hown hlocks hml hnm hR hQ hA hl hP hK hN hD hS
  have hg : ∀ w ∈ gw, w.before args s = true := fun w h => hts w (List.mem_cons_of_mem _ h)
  have hown : s.vm.findClass "RangeCoders$Odds" = some m.cls := hown
  have hl : lv_has ls 5 [(0, Value.ref oo), (1, Value.int (nI x)), (2, Value.int (nI d))] := hl
  refine lv_iload_n hx hb d_Odds_placeOf_0 rfl (lv_at hl 2 rfl) ?_
  refine lv_istore_n (lv' := [(3, Value.int (nI d)), (0, Value.ref oo), (1, Value.int (nI x)), (2, Value.int (nI d))]) hx hb d_Odds_placeOf_1 rfl hl (by decide) rfl (fun ls hl => ?_)
  refine lv_iconst (v := 0) hx hb d_Odds_placeOf_2 (by decide) ?_
  refine lv_istore (lv' := [(4, Value.int 0), (3, Value.int (nI d)), (0, Value.ref oo), (1, Value.int (nI x)), (2, Value.int (nI d))]) hx hb d_Odds_placeOf_3 hl (by decide) rfl (fun ls hl => ?_)
  have J_5 : ∀ (n9_5 : Nat) (j : Nat) (hn9_5 : p9 - j = n9_5) (hj : j ≤ p9) (hcj : cn P x j ≤ d) (H : Heap) (locs : List Loc) (ls : Array Slot), va_P (dC, dI) vwCl [(oo, Sum.inr (7, [Value.int osg, Value.int osm, Value.int ofc, Value.ref oca, Value.ref opa])), (oca, Sum.inl (cI, n, Sum.inl ocf)), (opa, Sum.inl (cI, 512, Sum.inl opf))] H → va_D A [(oo, Sum.inr (7, [Value.int osg, Value.int osm, Value.int ofc, Value.ref oca, Value.ref opa])), (oca, Sum.inl (cI, n, Sum.inl ocf)), (opa, Sum.inl (cI, 512, Sum.inl opf))] → va_S A s.heap H locs → lv_has ls 5 [(4, Value.int (nI j)), (3, Value.int (nI (d - cn P x j))), (0, Value.ref oo), (1, Value.int (nI x)), (2, Value.int (nI d))] → W p l e R s m args below meth c H locs 0 0 Q (F0 m 5 ls []) := by
    intro n9_5
    induction n9_5 using Nat.strongRecOn with
    | ind n9_5 ih9_5 =>
      intro j hn9_5 hj hcj H locs ls hP hD hS hl
      have hcl := cn_le P x p9
      have hPj := hPb j (by omega)
      refine lv_iload hx hb d_Odds_placeOf_5 (lv_at hl 0 rfl) ?_
      refine lv_aload_n hx hb d_Odds_placeOf_7 rfl (lv_at hl 2 rfl) ?_
      refine va_get (D := (dC, dI)) (ci := 7) (v := .ref opa) (C := "RangeCoders$Odds") (T := T_Odds) (N := 5) hx hb hg in_Odds hown hK hP 0 rfl rfl 4 (by decide) (hg _ k310) (fun _ h9 => h9) rfl d_Odds_placeOf_8 ?_
      refine va_alen hx hb hK hP 2 0 rfl rfl (v := nI 512) rfl d_Odds_placeOf_11 ?_
      refine lv_icmp_ge (tgt := 42) hx hb d_Odds_placeOf_12 (by decide) (fun c_1 => ?_) (fun c_1 => ?_)
      · exact absurd (nI_ge' (n := 512) (by omega) (by decide) c_1) (by omega)
      · refine lv_aload_n hx hb d_Odds_placeOf_15 rfl (lv_at hl 2 rfl) ?_
        refine va_get (D := (dC, dI)) (ci := 7) (v := .ref opa) (C := "RangeCoders$Odds") (T := T_Odds) (N := 5) hx hb hg in_Odds hown hK hP 0 rfl rfl 4 (by decide) (hg _ k310) (fun _ h9 => h9) rfl d_Odds_placeOf_16 ?_
        refine lv_iload hx hb d_Odds_placeOf_19 (lv_at hl 0 rfl) ?_
        refine va_iald hx hb hK hP 2 0 rfl rfl (vp_in_nI (show j < 512 by omega) (by decide)) d_Odds_placeOf_21 ?_
        refine lv_topi (fun v_2 ev_2 => ?_)
        have z9 : v_2 = nI (P j) := by rw [ev_2]; exact tb_rd hop (show j < 512 by omega) (by omega)
        subst z9
        refine lv_iload_n hx hb d_Odds_placeOf_22 rfl (lv_at hl 3 rfl) ?_
        refine lv_icmp_ne (tgt := 36) hx hb d_Odds_placeOf_23 (by decide) (fun c_3 => ?_) (fun c_3 => ?_)
        · have hc8 : cn P x (j + 1) = cn P x j := by rw [cn, if_neg (fun q => c_3 (by rw [q]))]
          have hj8 : j + 1 ≤ p9 := by
            rcases Nat.lt_or_ge j p9 with z | z
            · exact z
            · have e : j = p9 := by omega
              subst e
              exact absurd (by rw [hPx]) c_3
          have hl : lv_has ls 5 [(4, Value.int (nI j)), (3, Value.int (nI (d - cn P x (j + 1)))), (0, Value.ref oo), (1, Value.int (nI x)), (2, Value.int (nI d))] := by rw [← hc8] at hl; exact hl
          obtain ⟨v_4, ev_4⟩ : ∃ y : Int32, y = (nI j) + (1) := ⟨_, rfl⟩
          refine lv_iinc (v := v_4) (lv' := [(4, Value.int v_4), (3, Value.int (nI (d - cn P x (j + 1)))), (0, Value.ref oo), (1, Value.int (nI x)), (2, Value.int (nI d))]) hx hb d_Odds_placeOf_36 hl (k := 0) rfl (by rw [ev_4]; rfl) (by decide) rfl (fun ls hl => ?_)
          have z9 : v_4 = nI (j + 1) := by rw [ev_4]; exact nI_1 _
          subst z9
          refine lv_goto (tgt := 5) hx hb d_Odds_placeOf_39 (by decide) ?_
          exact ih9_5 _ (by first | omega | (omega)) (j + 1) rfl (hj8) (by rw [hc8]; omega) H locs ls (hP.sub [0, 1, 2] rfl) (hD.sub [0, 1, 2] (by decide +kernel) rfl) hS (lv_sub hl [0, 1, 2, 3, 4] rfl)
        · have hPe : P j = x := (nI_eq (by omega) (by omega)).mp c_3
          refine lv_iload_n hx hb d_Odds_placeOf_26 rfl (lv_at hl 1 rfl) ?_
          refine lv_if_ne (tgt := 33) hx hb d_Odds_placeOf_27 (by decide) (fun c_5 => ?_) (fun c_5 => ?_)
          · have hc1 : ¬ d - cn P x j = 0 := fun q => c_5 (by rw [q]; rfl)
            obtain ⟨v_6, ev_6⟩ : ∃ y : Int32, y = (nI (d - cn P x j)) + (-1) := ⟨_, rfl⟩
            refine lv_iinc (v := v_6) (lv' := [(3, Value.int v_6), (4, Value.int (nI j)), (0, Value.ref oo), (1, Value.int (nI x)), (2, Value.int (nI d))]) hx hb d_Odds_placeOf_33 hl (k := 1) rfl (by rw [ev_6]; rfl) (by decide) rfl (fun ls hl => ?_)
            have hc8 : cn P x (j + 1) = cn P x j + 1 := by rw [cn, if_pos hPe]
            have hj8 : j + 1 ≤ p9 := by
              rcases Nat.lt_or_ge j p9 with z | z
              · exact z
              · have e : j = p9 := by omega
                subst e
                exact absurd (by omega : d - cn P x j = 0) hc1
            have z9 : v_6 = nI (d - cn P x (j + 1)) := by rw [ev_6, hc8, show d - (cn P x j + 1) = d - cn P x j - 1 by omega]; exact nI_m1 (by omega)
            subst z9
            obtain ⟨v_7, ev_7⟩ : ∃ y : Int32, y = (nI j) + (1) := ⟨_, rfl⟩
            refine lv_iinc (v := v_7) (lv' := [(4, Value.int v_7), (3, Value.int (nI (d - cn P x (j + 1)))), (0, Value.ref oo), (1, Value.int (nI x)), (2, Value.int (nI d))]) hx hb d_Odds_placeOf_36 hl (k := 1) rfl (by rw [ev_7]; rfl) (by decide) rfl (fun ls hl => ?_)
            have z9 : v_7 = nI (j + 1) := by rw [ev_7]; exact nI_1 _
            subst z9
            refine lv_goto (tgt := 5) hx hb d_Odds_placeOf_39 (by decide) ?_
            exact ih9_5 _ (by first | omega | (omega)) (j + 1) rfl (hj8) (by rw [hc8]; omega) H locs ls (hP.sub [0, 1, 2] rfl) (hD.sub [0, 1, 2] (by decide +kernel) rfl) hS (lv_sub hl [0, 1, 2, 3, 4] rfl)
          · have hc0 : d - cn P x j = 0 := (nI_eq (b := 0) (by omega) (by decide)).mp c_5
            have hjp : j = p9 := by
              rcases Nat.lt_or_ge j p9 with z | z
              · have h1 := cn_mono P x (show j + 1 ≤ p9 from z)
                rw [cn, if_pos hPe] at h1
                omega
              · omega
            refine lv_iload hx hb d_Odds_placeOf_30 (lv_at hl 0 rfl) ?_
            exact my_iret (v := nI j) hx hb hr (rfl) hlocks hQ hK hS (Nat.le_refl _) (Nat.le_refl _) () (by rw [hjp]) (hP.sub [0, 1, 2] rfl) (hD.sub [0, 1, 2] (by decide +kernel) rfl) d_Odds_placeOf_32
  exact J_5 _ (0 : Nat) rfl (Nat.zero_le _) (Nat.zero_le _) H locs ls (hP.sub [0, 1, 2] rfl) (hD.sub [0, 1, 2] (by decide +kernel) rfl) hS (lv_sub hl [0, 1, 2, 3, 4] rfl)

