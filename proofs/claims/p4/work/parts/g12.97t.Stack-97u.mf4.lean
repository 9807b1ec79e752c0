section
set_option maxHeartbeats 2000000 in
set_option maxRecDepth 100000 in
theorem f_RC_begin_Stack (l : Launch) (dC : Nat → ClassId) (dI : Nat → Nat → Nat) (cI cM cO : ClassId) (sz : Nat) (rc : Nat) (ma : Nat) (fit : Int32) (fen : Int32) (frd : Int32) (fbd : Int32) (fir : Int32) (mf : Nat → Option Nat) (co : Nat) (xx : Int64) (xreadX : Int64) (soa : Nat) (sna : Nat) (swa : Nat) (xkept : Int32) (ri : Nat) (ro : Nat) (rw : Nat) (xasked : Int32) (ms : List MB) (hk8 : ms.length ≤ 8) (hmf : mfOk mf ms) (hmk : ∀ x ∈ ms, mbOk x) (hms : ∀ x ∈ ms, mOk_Stack x) : MetI l y_RC_begin (Cond.code y_RC_begin prog_1_method_7_code 6 (some .int) :: gw) ({ frames := 4, cells := 0, slots := 0, locals := 89 } : Room) (dC, dI) vwCl (kT cI cM cO) [Value.ref rc] ([(rc, Sum.inr (6, [Value.ref co, Value.ref ma, Value.int (nI ms.length), Value.int fit, Value.int fen, Value.int frd, Value.int fbd, Value.int fir])), (ma, Sum.inl (cM, 8, Sum.inr (Sum.inr (Sum.inr (Sum.inr mf))))), (co, Sum.inr (4, [Value.long xx, Value.long xreadX, Value.ref soa, Value.ref sna, Value.ref swa, Value.int xkept, Value.ref ri, Value.ref ro, Value.ref rw, Value.int xasked]))] ++ mbsC cI ms) sz (fun (r : Int32) (u : List MB) => u.map mbA = ms.map mbA ∧ (∀ x ∈ u, mbOk x) ∧ (∀ (i9 : Nat) (x9 y9 : MB), ms[i9]? = some x9 → u[i9]? = some y9 → nw_Stack x9 y9) ∧ ms.length = u.length ∧ r = fit) (fun (u : List MB) => ([(rc, Sum.inr (6, [Value.ref co, Value.ref ma, Value.int (nI ms.length), Value.int 0, Value.int 0, Value.int frd, Value.int fbd, Value.int fir])), (ma, Sum.inl (cM, 8, Sum.inr (Sum.inr (Sum.inr (Sum.inr mf))))), (co, Sum.inr (4, [Value.long xx, Value.long xreadX, Value.ref soa, Value.ref sna, Value.ref swa, Value.int 0, Value.ref ri, Value.ref ro, Value.ref rw, Value.int xasked]))] ++ mbsC cI u)) 0 0 := by
  refine my_ofI (cc := prog_1_method_7_code) (n := 6) (ret := (some .int)) (by decide) rfl (Nat.le_of_ble_eq_true rfl) ?_
  intro p e s m args below meth c R Q A ls H locs hx hb hr hts hown hlocks hml hnm hR hQ hA hl hP hK hN hD hS
  have hg : ∀ w ∈ gw, w.before args s = true := fun w h => hts w (List.mem_cons_of_mem _ h)
  have hown : s.vm.findClass "RangeCoders" = some m.cls := hown
  have hl : lv_has ls 6 [(0, Value.ref rc)] := hl
  refine lv_aload_n hx hb d_RC_begin_0 rfl (lv_at hl 0 rfl) ?_
  refine va_get (D := (dC, dI)) (ci := 6) (v := .int fit) (C := "RangeCoders") (T := T_RC) (N := 8) hx hb hg in_RC hown hK hP 0 rfl rfl 3 (by decide) (hg _ k261) (fun _ h9 => h9) rfl d_RC_begin_1 ?_
  refine lv_istore_n (lv' := [(1, Value.int fit), (0, Value.ref rc)]) hx hb d_RC_begin_4 rfl hl (by decide) rfl (fun ls hl => ?_)
  refine lv_aload_n hx hb d_RC_begin_5 rfl (lv_at hl 1 rfl) ?_
  refine lv_iconst (v := 0) hx hb d_RC_begin_6 (by decide) ?_
  refine va_put (D := (dC, dI)) (ci := 6) (v := .int 0) (ty := .int) (C := "RangeCoders") (T := T_RC) (N := 8) hx hb hg in_RC t_RC o_RC n_RC hown hK hP hD hS 0 rfl rfl 3 (by decide) (hg _ k261) (fun _ h9 => h9) rfl (o_RC 3 (by decide)) rfl rfl (Nat.le_of_ble_eq_true rfl) d_RC_begin_7 (fun H locs hP hD hS => ?_)
  have hPD : my_PD (dC, dI) vwCl A ([(rc, Sum.inr (6, [Value.ref co, Value.ref ma, Value.int (nI ms.length), Value.int 0, Value.int fen, Value.int frd, Value.int fbd, Value.int fir])), (ma, Sum.inl (cM, 8, Sum.inr (Sum.inr (Sum.inr (Sum.inr mf))))), (co, Sum.inr (4, [Value.long xx, Value.long xreadX, Value.ref soa, Value.ref sna, Value.ref swa, Value.int xkept, Value.ref ri, Value.ref ro, Value.ref rw, Value.int xasked]))] ++ mbsC cI ms) H := ⟨hP, hD⟩
  have hP := hPD.1
  have hD := hPD.2
  refine lv_aload_n hx hb d_RC_begin_10 rfl (lv_at hl 1 rfl) ?_
  refine lv_iconst (v := 0) hx hb d_RC_begin_11 (by decide) ?_
  refine va_put (D := (dC, dI)) (ci := 6) (v := .int 0) (ty := .boolean) (C := "RangeCoders") (T := T_RC) (N := 8) hx hb hg in_RC t_RC o_RC n_RC hown hK hP hD hS 0 rfl rfl 4 (by decide) (hg _ k262) (fun _ h9 => h9) rfl (o_RC 4 (by decide)) rfl rfl (Nat.le_of_ble_eq_true rfl) d_RC_begin_12 (fun H locs hP hD hS => ?_)
  have hPD : my_PD (dC, dI) vwCl A ([(rc, Sum.inr (6, [Value.ref co, Value.ref ma, Value.int (nI ms.length), Value.int 0, Value.int 0, Value.int frd, Value.int fbd, Value.int fir])), (ma, Sum.inl (cM, 8, Sum.inr (Sum.inr (Sum.inr (Sum.inr mf))))), (co, Sum.inr (4, [Value.long xx, Value.long xreadX, Value.ref soa, Value.ref sna, Value.ref swa, Value.int xkept, Value.ref ri, Value.ref ro, Value.ref rw, Value.int xasked]))] ++ mbsC cI ms) H := ⟨hP, hD⟩
  have hP := hPD.1
  have hD := hPD.2
  refine lv_aload_n hx hb d_RC_begin_15 rfl (lv_at hl 1 rfl) ?_
  refine va_get (D := (dC, dI)) (ci := 6) (v := .ref co) (C := "RangeCoders") (T := T_RC) (N := 8) hx hb hg in_RC hown hK hP 0 rfl rfl 0 (by decide) (hg _ k258) (fun _ h9 => h9) rfl d_RC_begin_16 ?_
  refine my_cvt (wr := [(rc, Sum.inr (6, [Value.ref co, Value.ref ma, Value.int (nI ms.length), Value.int 0, Value.int 0, Value.int frd, Value.int fbd, Value.int fir])), (ma, Sum.inl (cM, 8, Sum.inr (Sum.inr (Sum.inr (Sum.inr mf)))))]) (va_runU (As := []) (rest := []) ⟨hx, hb, hml, hown, hts⟩ (f_Stack_open l dC dI cI cM cO H.size co xx xreadX soa sna swa xkept ri ro rw xasked) (va_cwA 0 hts (my_gU k683 k685 k695 k696 k9 k697) rfl rfl rfl (hN.1 _ j684 rfl) (by decide +kernel) ⟨by rw [hR]; exact Nat.le_of_ble_eq_true rfl, by rw [hR]; exact Nat.le_of_ble_eq_true rfl⟩) (my_preV hK hN (my_subU hP [2] rfl) (my_dubT hD [2] (by decide +kernel) rfl) 0 rfl rfl) rfl rfl hl.1 rfl (lv_room (Nat.le_of_ble_eq_true rfl)) d_RC_begin_19 ⟨by rw [hR]; exact Nat.le_of_ble_eq_true rfl, by rw [hR]; exact Nat.le_of_ble_eq_true rfl⟩) hP hD hS hA [2] [0, 1] rfl rfl (by decide +kernel) (by decide +kernel) (fun u9 H locs hw_19 hP hD hS => ?_)
  have hPD : my_PD (dC, dI) vwCl A ([(rc, Sum.inr (6, [Value.ref co, Value.ref ma, Value.int (nI ms.length), Value.int 0, Value.int 0, Value.int frd, Value.int fbd, Value.int fir])), (ma, Sum.inl (cM, 8, Sum.inr (Sum.inr (Sum.inr (Sum.inr mf))))), (co, Sum.inr (4, [Value.long xx, Value.long xreadX, Value.ref soa, Value.ref sna, Value.ref swa, Value.int 0, Value.ref ri, Value.ref ro, Value.ref rw, Value.int xasked]))] ++ mbsC cI ms) H := ⟨hP, hD⟩
  have hP := hPD.1
  have hD := hPD.2
  refine lv_aload_n hx hb d_RC_begin_22 rfl (lv_at hl 1 rfl) ?_
  refine va_get (D := (dC, dI)) (ci := 6) (v := .ref ma) (C := "RangeCoders") (T := T_RC) (N := 8) hx hb hg in_RC hown hK hP 0 rfl rfl 1 (by decide) (hg _ k259) (fun _ h9 => h9) rfl d_RC_begin_23 ?_
  refine lv_astore_n (lv' := [(2, Value.ref ma), (1, Value.int fit), (0, Value.ref rc)]) hx hb d_RC_begin_26 rfl hl (by decide) rfl (fun ls hl => ?_)
  refine lv_aload_n hx hb d_RC_begin_27 rfl (lv_at hl 0 rfl) ?_
  refine va_alen hx hb hK hP 1 1 rfl rfl (v := nI 8) rfl d_RC_begin_28 ?_
  refine lv_istore_n (lv' := [(3, Value.int (nI 8)), (2, Value.ref ma), (1, Value.int fit), (0, Value.ref rc)]) hx hb d_RC_begin_29 rfl hl (by decide) rfl (fun ls hl => ?_)
  refine lv_iconst (v := 0) hx hb d_RC_begin_30 (by decide) ?_
  refine lv_istore (lv' := [(4, Value.int 0), (3, Value.int (nI 8)), (2, Value.ref ma), (1, Value.int fit), (0, Value.ref rc)]) hx hb d_RC_begin_31 hl (by decide) rfl (fun ls hl => ?_)
  have J_33 : ∀ (n9_33 : Nat) (i9 : Int32) (ii : Nat) (ms9 : List MB) (hn9_33 : 8 - ii = n9_33) (hi9 : i9 = nI ii) (hii : ii ≤ 8) (hma : ms9.map mbA = ms.map mbA) (hmo : ∀ x ∈ ms9, mbOk x) (hbg : bgI nw_Stack ms ms9 ii) (hlm : ms.length = ms9.length) (H : Heap) (locs : List Loc) (ls : Array Slot), va_P (dC, dI) vwCl ([(rc, Sum.inr (6, [Value.ref co, Value.ref ma, Value.int (nI ms.length), Value.int 0, Value.int 0, Value.int frd, Value.int fbd, Value.int fir])), (ma, Sum.inl (cM, 8, Sum.inr (Sum.inr (Sum.inr (Sum.inr mf))))), (co, Sum.inr (4, [Value.long xx, Value.long xreadX, Value.ref soa, Value.ref sna, Value.ref swa, Value.int 0, Value.ref ri, Value.ref ro, Value.ref rw, Value.int xasked]))] ++ mbsC cI ms9) H → va_D A ([(rc, Sum.inr (6, [Value.ref co, Value.ref ma, Value.int (nI ms.length), Value.int 0, Value.int 0, Value.int frd, Value.int fbd, Value.int fir])), (ma, Sum.inl (cM, 8, Sum.inr (Sum.inr (Sum.inr (Sum.inr mf))))), (co, Sum.inr (4, [Value.long xx, Value.long xreadX, Value.ref soa, Value.ref sna, Value.ref swa, Value.int 0, Value.ref ri, Value.ref ro, Value.ref rw, Value.int xasked]))] ++ mbsC cI ms9) → va_S A s.heap H locs → lv_has ls 6 [(4, Value.int i9), (3, Value.int (nI 8)), (2, Value.ref ma), (1, Value.int fit), (0, Value.ref rc)] → W p l e R s m args below meth c H locs 0 0 Q (F0 m 33 ls []) := by
    intro n9_33
    induction n9_33 using Nat.strongRecOn with
    | ind n9_33 ih9_33 =>
      intro i9 ii ms9 hn9_33 hi9 hii hma hmo hbg hlm H locs ls hP hD hS hl
      refine lv_iload hx hb d_RC_begin_33 (lv_at hl 0 rfl) ?_
      refine lv_iload_n hx hb d_RC_begin_35 rfl (lv_at hl 1 rfl) ?_
      refine lv_icmp_ge (tgt := 73) hx hb d_RC_begin_36 (by decide) (fun c_1 => ?_) (fun c_1 => ?_)
      · refine lv_iload_n hx hb d_RC_begin_73 rfl (lv_at hl 3 rfl) ?_
        exact my_iret (v := fit) hx hb hr (rfl) hlocks hQ hK hS (Nat.le_refl _) (Nat.le_refl _) (ms9) (⟨hma, hmo, bg_e (by rw [show (8 : Nat) = ii by have := nI_ge' (n := 8) (j := ii) (by omega) (by decide) (by rw [← hi9]; assumption); omega]; exact hbg) hk8, hlm, rfl⟩) (hP.part [0, 1, 2] rfl) (hD.part [0, 1, 2] (by decide +kernel) rfl) d_RC_begin_74
      · refine lv_aload_n hx hb d_RC_begin_39 rfl (lv_at hl 2 rfl) ?_
        refine lv_iload hx hb d_RC_begin_40 (lv_at hl 0 rfl) ?_
        have hi8 : ii < 8 := by
          rcases Nat.lt_or_ge ii 8 with z | z
          · exact z
          · exact absurd (by rw [hi9]; exact nI_le (a := 8) z (by omega)) c_1
        refine va_aldq hx hb hK hP 1 1 rfl rfl (by rw [hi9]; exact vp_in_nI hi8 (by decide)) d_RC_begin_42 ?_
        rcases hq_a_2 : mf i9.toNatClampNeg with _ | a_2
        · refine W.eq (g2 := F0 m 43 ls [Value.null]) rfl ?_
          have hmf9 := mf_keep hmf hma
          have hnil : ms.length ≤ ii := by
            rcases Nat.lt_or_ge ii ms9.length with z | z
            · obtain ⟨a9, x9, b9, e9, hla⟩ := mb_at z
              subst e9
              rw [hi9, nI_clamp (by omega), ← hla, mf_some hmf9 (by omega)] at hq_a_2; cases hq_a_2
            · rw [hlm]; exact z
          refine lv_astoreN (lv' := [(5, Value.null), (4, Value.int i9), (3, Value.int (nI 8)), (2, Value.ref ma), (1, Value.int fit), (0, Value.ref rc)]) hx hb d_RC_begin_43 hl (by decide) rfl (fun ls hl => ?_)
          refine lv_aloadN hx hb d_RC_begin_45 (lv_at hl 0 rfl) ?_
          refine lv_ifnullN (tgt := 67) hx hb d_RC_begin_47 (by decide) ?_
          obtain ⟨v_3, ev_3⟩ : ∃ y : Int32, y = i9 + (1) := ⟨_, rfl⟩
          refine lv_iinc (v := v_3) (lv' := [(4, Value.int v_3), (5, Value.null), (3, Value.int (nI 8)), (2, Value.ref ma), (1, Value.int fit), (0, Value.ref rc)]) hx hb d_RC_begin_67 hl (k := 1) rfl (by rw [ev_3]; rfl) (by decide) rfl (fun ls hl => ?_)
          refine lv_goto (tgt := 33) hx hb d_RC_begin_70 (by decide) ?_
          exact ih9_33 _ (by first | omega | (omega)) v_3 (ii + 1) ms9 rfl (by rw [ev_3, hi9]; exact nI_1 _) (by omega) (by assumption) (by assumption) (bg_no hbg (by rw [← hlm]; exact hnil)) (hlm) H locs ls (hP.part [0, 1, 2] rfl) (hD.part [0, 1, 2] (by decide +kernel) rfl) hS (lv_sub hl [0, 2, 3, 4, 5] rfl)
        · refine W.eq (g2 := F0 m 43 ls [Value.ref a_2]) rfl ?_
          have hmf9 := mf_keep hmf hma
          have hil : ii < ms9.length := by
            rcases Nat.lt_or_ge ii ms9.length with z | z
            · exact z
            · rw [hi9, nI_clamp (by omega), mf_none hmf9 hi8 z] at hq_a_2; cases hq_a_2
          obtain ⟨a9, x9, b9, e9, hla⟩ := mb_at hil
          subst e9
          obtain ⟨mo9, ka9, kl9, kf9, ⟨oo9, osg9, osm9, ofc9, oca9, opa9, ol9, ocf9, opl9, opf9⟩, ⟨pp9, psg9, psm9, pfc9, pca9, ppa9, pl9, pcf9, ppl9, ppf9⟩⟩ := x9
          have hax : a_2 = mo9 := by
            rw [hi9, nI_clamp (by omega), ← hla, mf_some hmf9 (by omega)] at hq_a_2
            exact (Option.some.inj hq_a_2).symm
          subst hax
          obtain ⟨hk64, ⟨ho1, ho2, ho3⟩, ⟨hp1, hp2, hp3⟩⟩ := ok_mid hmo
          have hP := pm_P hP (mb_out cI [(rc, Sum.inr (6, [Value.ref co, Value.ref ma, Value.int (nI ms.length), Value.int 0, Value.int 0, Value.int frd, Value.int fbd, Value.int fir])), (ma, Sum.inl (cM, 8, Sum.inr (Sum.inr (Sum.inr (Sum.inr mf))))), (co, Sum.inr (4, [Value.long xx, Value.long xreadX, Value.ref soa, Value.ref sna, Value.ref swa, Value.int 0, Value.ref ri, Value.ref ro, Value.ref rw, Value.int xasked]))] a9 b9 (a_2, ka9, kl9, kf9, (oo9, osg9, osm9, ofc9, oca9, opa9, ol9, ocf9, opl9, opf9), (pp9, psg9, psm9, pfc9, pca9, ppa9, pl9, pcf9, ppl9, ppf9)))
          have hD := pm_D hD (mb_out cI [(rc, Sum.inr (6, [Value.ref co, Value.ref ma, Value.int (nI ms.length), Value.int 0, Value.int 0, Value.int frd, Value.int fbd, Value.int fir])), (ma, Sum.inl (cM, 8, Sum.inr (Sum.inr (Sum.inr (Sum.inr mf))))), (co, Sum.inr (4, [Value.long xx, Value.long xreadX, Value.ref soa, Value.ref sna, Value.ref swa, Value.int 0, Value.ref ri, Value.ref ro, Value.ref rw, Value.int xasked]))] a9 b9 (a_2, ka9, kl9, kf9, (oo9, osg9, osm9, ofc9, oca9, opa9, ol9, ocf9, opl9, opf9), (pp9, psg9, psm9, pfc9, pca9, ppa9, pl9, pcf9, ppl9, ppf9)))
          have hPD : my_PD (dC, dI) vwCl A ([(rc, Sum.inr (6, [Value.ref co, Value.ref ma, Value.int (nI ms.length), Value.int 0, Value.int 0, Value.int frd, Value.int fbd, Value.int fir])), (ma, Sum.inl (cM, 8, Sum.inr (Sum.inr (Sum.inr (Sum.inr mf))))), (co, Sum.inr (4, [Value.long xx, Value.long xreadX, Value.ref soa, Value.ref sna, Value.ref swa, Value.int 0, Value.ref ri, Value.ref ro, Value.ref rw, Value.int xasked])), (a_2, Sum.inr (8, [Value.ref ka9, Value.ref oo9, Value.ref pp9])), (ka9, Sum.inl (cI, kl9, Sum.inl kf9)), (oo9, Sum.inr (7, [Value.int osg9, Value.int osm9, Value.int ofc9, Value.ref oca9, Value.ref opa9])), (oca9, Sum.inl (cI, ol9, Sum.inl ocf9)), (opa9, Sum.inl (cI, opl9, Sum.inl opf9)), (pp9, Sum.inr (7, [Value.int psg9, Value.int psm9, Value.int pfc9, Value.ref pca9, Value.ref ppa9])), (pca9, Sum.inl (cI, pl9, Sum.inl pcf9)), (ppa9, Sum.inl (cI, ppl9, Sum.inl ppf9))] ++ (mbsC cI a9 ++ mbsC cI b9)) H := ⟨hP, hD⟩
          have hP := hPD.1
          have hD := hPD.2
          rw [← hla] at hbg
          obtain ⟨hx1, hx2, ⟨hx3, hx4, hx5, hx6⟩, hx7, hx8⟩ := hms ((a_2, ka9, kl9, kf9, (oo9, osg9, osm9, ofc9, oca9, opa9, ol9, ocf9, opl9, opf9), (pp9, psg9, psm9, pfc9, pca9, ppa9, pl9, pcf9, ppl9, ppf9)) : MB) (List.mem_of_getElem? (bg_x hbg hlm))
          have hx3 : osg9 = nI kl9 := hx3
          skip
          subst hx3
          have hx4 : ofc9 = 0 := hx4
          skip
          subst hx4
          have hx5 : ol9 = kl9 := hx5
          have hx5 := hx5.symm
          subst hx5
          have hx6 : opl9 = 0 := hx6
          skip
          subst hx6
          have hPD : my_PD (dC, dI) vwCl A ([(rc, Sum.inr (6, [Value.ref co, Value.ref ma, Value.int (nI ms.length), Value.int 0, Value.int 0, Value.int frd, Value.int fbd, Value.int fir])), (ma, Sum.inl (cM, 8, Sum.inr (Sum.inr (Sum.inr (Sum.inr mf))))), (co, Sum.inr (4, [Value.long xx, Value.long xreadX, Value.ref soa, Value.ref sna, Value.ref swa, Value.int 0, Value.ref ri, Value.ref ro, Value.ref rw, Value.int xasked])), (a_2, Sum.inr (8, [Value.ref ka9, Value.ref oo9, Value.ref pp9])), (ka9, Sum.inl (cI, kl9, Sum.inl kf9)), (oo9, Sum.inr (7, [Value.int (nI kl9), Value.int osm9, Value.int 0, Value.ref oca9, Value.ref opa9])), (oca9, Sum.inl (cI, kl9, Sum.inl ocf9)), (opa9, Sum.inl (cI, 0, Sum.inl opf9)), (pp9, Sum.inr (7, [Value.int psg9, Value.int psm9, Value.int pfc9, Value.ref pca9, Value.ref ppa9])), (pca9, Sum.inl (cI, pl9, Sum.inl pcf9)), (ppa9, Sum.inl (cI, ppl9, Sum.inl ppf9))] ++ (mbsC cI a9 ++ mbsC cI b9)) H := ⟨hP, hD⟩
          have hP := hPD.1
          have hD := hPD.2
          refine lv_astore (lv' := [(5, Value.ref a_2), (4, Value.int i9), (3, Value.int (nI 8)), (2, Value.ref ma), (1, Value.int fit), (0, Value.ref rc)]) hx hb d_RC_begin_43 hl (by decide) rfl (fun ls hl => ?_)
          refine lv_aload hx hb d_RC_begin_45 (lv_at hl 0 rfl) ?_
          refine lv_ifnull hx hb d_RC_begin_47 ?_
          refine lv_aload_n hx hb d_RC_begin_50 rfl (lv_at hl 5 rfl) ?_
          refine va_get (D := (dC, dI)) (ci := 6) (v := .ref co) (C := "RangeCoders") (T := T_RC) (N := 8) hx hb hg in_RC hown hK hP 0 rfl rfl 0 (by decide) (hg _ k258) (fun _ h9 => h9) rfl d_RC_begin_51 ?_
          refine lv_aload hx hb d_RC_begin_54 (lv_at hl 0 rfl) ?_
          refine va_get (D := (dC, dI)) (ci := 8) (v := .ref oo9) (C := "RangeCoders$Model") (T := T_Model) (N := 3) hx hb hg in_Model hown hK hP 3 rfl rfl 1 (by decide) (hg _ k343) (fun _ h9 => h9) rfl d_RC_begin_56 ?_
          refine lv_aload hx hb d_RC_begin_59 (lv_at hl 0 rfl) ?_
          refine va_get (D := (dC, dI)) (ci := 8) (v := .ref ka9) (C := "RangeCoders$Model") (T := T_Model) (N := 3) hx hb hg in_Model hown hK hP 3 rfl rfl 0 (by decide) (hg _ k341) (fun _ h9 => h9) rfl d_RC_begin_61 ?_
          refine my_cvt (wr := [(rc, Sum.inr (6, [Value.ref co, Value.ref ma, Value.int (nI ms.length), Value.int 0, Value.int 0, Value.int frd, Value.int fbd, Value.int fir])), (ma, Sum.inl (cM, 8, Sum.inr (Sum.inr (Sum.inr (Sum.inr mf))))), (a_2, Sum.inr (8, [Value.ref ka9, Value.ref oo9, Value.ref pp9])), (pp9, Sum.inr (7, [Value.int psg9, Value.int psm9, Value.int pfc9, Value.ref pca9, Value.ref ppa9])), (pca9, Sum.inl (cI, pl9, Sum.inl pcf9)), (ppa9, Sum.inl (cI, ppl9, Sum.inl ppf9))]) (va_runU (As := [Value.ref oo9, Value.ref ka9]) (rest := []) ⟨hx, hb, hml, hown, hts⟩ (f_Stack_prepare l dC dI cI cM cO H.size co xx xreadX soa sna swa 0 ri ro rw xasked oo9 (nI kl9) 0 oca9 opa9 kl9 ocf9 0 opf9 osm9 ka9 kf9 (Cx ((a_2, ka9, kl9, kf9, (oo9, nI kl9, osm9, 0, oca9, opa9, kl9, ocf9, 0, opf9), (pp9, psg9, psm9, pfc9, pca9, ppa9, pl9, pcf9, ppl9, ppf9)) : MB)) (hx2) (by decide) (hx7) (hx8) (Nat.le_of_succ_le hx1) (rfl)) (va_cwA 2 hts (my_gU k353 k355 k380 k381 k10 k382) rfl rfl rfl (hN.1 _ j354 rfl) (by decide +kernel) ⟨by rw [hR]; exact Nat.le_of_ble_eq_true rfl, by rw [hR]; exact Nat.le_of_ble_eq_true rfl⟩) (my_preV hK hN (my_subU hP [2, 5, 6, 7, 4] rfl) (my_dubT hD [2, 5, 6, 7, 4] (by decide +kernel) rfl) 0 rfl rfl) rfl rfl hl.1 rfl (lv_room (Nat.le_of_ble_eq_true rfl)) d_RC_begin_64 ⟨by rw [hR]; exact Nat.le_of_ble_eq_true rfl, by rw [hR]; exact Nat.le_of_ble_eq_true rfl⟩) hP hD hS hA [2, 5, 6, 7, 4] [0, 1, 3, 8, 9, 10] rfl rfl (by decide +kernel) (by decide +kernel) (fun u9 H locs hw_64 hP hD hS => ?_)
          obtain ⟨ocfq_64, rfl⟩ : ∃ z, z = u9 := ⟨_, rfl⟩
          have hf_64 : tbI ocfq_64 kl9 (sc kl9 4096 (Cx ((a_2, ka9, kl9, kf9, (oo9, nI kl9, osm9, 0, oca9, opa9, kl9, ocf9, 0, opf9), (pp9, psg9, psm9, pfc9, pca9, ppa9, pl9, pcf9, ppl9, ppf9)) : MB))) := hw_64
          have hPD : my_PD (dC, dI) vwCl A ([(rc, Sum.inr (6, [Value.ref co, Value.ref ma, Value.int (nI ms.length), Value.int 0, Value.int 0, Value.int frd, Value.int fbd, Value.int fir])), (ma, Sum.inl (cM, 8, Sum.inr (Sum.inr (Sum.inr (Sum.inr mf))))), (a_2, Sum.inr (8, [Value.ref ka9, Value.ref oo9, Value.ref pp9])), (pp9, Sum.inr (7, [Value.int psg9, Value.int psm9, Value.int pfc9, Value.ref pca9, Value.ref ppa9])), (pca9, Sum.inl (cI, pl9, Sum.inl pcf9)), (ppa9, Sum.inl (cI, ppl9, Sum.inl ppf9)), (co, Sum.inr (4, [Value.long xx, Value.long xreadX, Value.ref soa, Value.ref sna, Value.ref swa, Value.int 0, Value.ref ri, Value.ref ro, Value.ref rw, Value.int xasked])), (oo9, Sum.inr (7, [Value.int (nI kl9), Value.int (nI (ns (sc kl9 4096 (Cx ((a_2, ka9, kl9, kf9, (oo9, nI kl9, osm9, 0, oca9, opa9, kl9, ocf9, 0, opf9), (pp9, psg9, psm9, pfc9, pca9, ppa9, pl9, pcf9, ppl9, ppf9)) : MB))) kl9)), Value.int 0, Value.ref oca9, Value.ref opa9])), (oca9, Sum.inl (cI, kl9, Sum.inl ocfq_64)), (opa9, Sum.inl (cI, 0, Sum.inl opf9)), (ka9, Sum.inl (cI, kl9, Sum.inl kf9))] ++ (mbsC cI a9 ++ mbsC cI b9)) H := ⟨hP, hD⟩
          have hP := hPD.1
          have hD := hPD.2
          have hP := pm_P (hP.part [0, 1, 6, 2, 10, 7, 8, 9, 3, 4, 5] rfl : va_P (dC, dI) vwCl ([(rc, Sum.inr (6, [Value.ref co, Value.ref ma, Value.int (nI ms.length), Value.int 0, Value.int 0, Value.int frd, Value.int fbd, Value.int fir])), (ma, Sum.inl (cM, 8, Sum.inr (Sum.inr (Sum.inr (Sum.inr mf))))), (co, Sum.inr (4, [Value.long xx, Value.long xreadX, Value.ref soa, Value.ref sna, Value.ref swa, Value.int 0, Value.ref ri, Value.ref ro, Value.ref rw, Value.int xasked])), (a_2, Sum.inr (8, [Value.ref ka9, Value.ref oo9, Value.ref pp9])), (ka9, Sum.inl (cI, kl9, Sum.inl kf9)), (oo9, Sum.inr (7, [Value.int (nI kl9), Value.int (nI (ns (sc kl9 4096 (Cx ((a_2, ka9, kl9, kf9, (oo9, nI kl9, osm9, 0, oca9, opa9, kl9, ocf9, 0, opf9), (pp9, psg9, psm9, pfc9, pca9, ppa9, pl9, pcf9, ppl9, ppf9)) : MB))) kl9)), Value.int 0, Value.ref oca9, Value.ref opa9])), (oca9, Sum.inl (cI, kl9, Sum.inl ocfq_64)), (opa9, Sum.inl (cI, 0, Sum.inl opf9)), (pp9, Sum.inr (7, [Value.int psg9, Value.int psm9, Value.int pfc9, Value.ref pca9, Value.ref ppa9])), (pca9, Sum.inl (cI, pl9, Sum.inl pcf9)), (ppa9, Sum.inl (cI, ppl9, Sum.inl ppf9))] ++ (mbsC cI a9 ++ mbsC cI b9)) H) (mb_out cI [(rc, Sum.inr (6, [Value.ref co, Value.ref ma, Value.int (nI ms.length), Value.int 0, Value.int 0, Value.int frd, Value.int fbd, Value.int fir])), (ma, Sum.inl (cM, 8, Sum.inr (Sum.inr (Sum.inr (Sum.inr mf))))), (co, Sum.inr (4, [Value.long xx, Value.long xreadX, Value.ref soa, Value.ref sna, Value.ref swa, Value.int 0, Value.ref ri, Value.ref ro, Value.ref rw, Value.int xasked]))] a9 b9 ((a_2, ka9, kl9, kf9, (oo9, (nI kl9), (nI (ns (sc kl9 4096 (Cx ((a_2, ka9, kl9, kf9, (oo9, nI kl9, osm9, 0, oca9, opa9, kl9, ocf9, 0, opf9), (pp9, psg9, psm9, pfc9, pca9, ppa9, pl9, pcf9, ppl9, ppf9)) : MB))) kl9)), 0, oca9, opa9, kl9, ocfq_64, 0, opf9), (pp9, psg9, psm9, pfc9, pca9, ppa9, pl9, pcf9, ppl9, ppf9)) : MB)).symm
          have hD := pm_D (hD.part [0, 1, 6, 2, 10, 7, 8, 9, 3, 4, 5] (by decide +kernel) rfl : va_D A ([(rc, Sum.inr (6, [Value.ref co, Value.ref ma, Value.int (nI ms.length), Value.int 0, Value.int 0, Value.int frd, Value.int fbd, Value.int fir])), (ma, Sum.inl (cM, 8, Sum.inr (Sum.inr (Sum.inr (Sum.inr mf))))), (co, Sum.inr (4, [Value.long xx, Value.long xreadX, Value.ref soa, Value.ref sna, Value.ref swa, Value.int 0, Value.ref ri, Value.ref ro, Value.ref rw, Value.int xasked])), (a_2, Sum.inr (8, [Value.ref ka9, Value.ref oo9, Value.ref pp9])), (ka9, Sum.inl (cI, kl9, Sum.inl kf9)), (oo9, Sum.inr (7, [Value.int (nI kl9), Value.int (nI (ns (sc kl9 4096 (Cx ((a_2, ka9, kl9, kf9, (oo9, nI kl9, osm9, 0, oca9, opa9, kl9, ocf9, 0, opf9), (pp9, psg9, psm9, pfc9, pca9, ppa9, pl9, pcf9, ppl9, ppf9)) : MB))) kl9)), Value.int 0, Value.ref oca9, Value.ref opa9])), (oca9, Sum.inl (cI, kl9, Sum.inl ocfq_64)), (opa9, Sum.inl (cI, 0, Sum.inl opf9)), (pp9, Sum.inr (7, [Value.int psg9, Value.int psm9, Value.int pfc9, Value.ref pca9, Value.ref ppa9])), (pca9, Sum.inl (cI, pl9, Sum.inl pcf9)), (ppa9, Sum.inl (cI, ppl9, Sum.inl ppf9))] ++ (mbsC cI a9 ++ mbsC cI b9))) (mb_out cI [(rc, Sum.inr (6, [Value.ref co, Value.ref ma, Value.int (nI ms.length), Value.int 0, Value.int 0, Value.int frd, Value.int fbd, Value.int fir])), (ma, Sum.inl (cM, 8, Sum.inr (Sum.inr (Sum.inr (Sum.inr mf))))), (co, Sum.inr (4, [Value.long xx, Value.long xreadX, Value.ref soa, Value.ref sna, Value.ref swa, Value.int 0, Value.ref ri, Value.ref ro, Value.ref rw, Value.int xasked]))] a9 b9 ((a_2, ka9, kl9, kf9, (oo9, (nI kl9), (nI (ns (sc kl9 4096 (Cx ((a_2, ka9, kl9, kf9, (oo9, nI kl9, osm9, 0, oca9, opa9, kl9, ocf9, 0, opf9), (pp9, psg9, psm9, pfc9, pca9, ppa9, pl9, pcf9, ppl9, ppf9)) : MB))) kl9)), 0, oca9, opa9, kl9, ocfq_64, 0, opf9), (pp9, psg9, psm9, pfc9, pca9, ppa9, pl9, pcf9, ppl9, ppf9)) : MB)).symm
          have hma2 : (a9 ++ ((a_2, ka9, kl9, kf9, (oo9, (nI kl9), (nI (ns (sc kl9 4096 (Cx ((a_2, ka9, kl9, kf9, (oo9, nI kl9, osm9, 0, oca9, opa9, kl9, ocf9, 0, opf9), (pp9, psg9, psm9, pfc9, pca9, ppa9, pl9, pcf9, ppl9, ppf9)) : MB))) kl9)), 0, oca9, opa9, kl9, ocfq_64, 0, opf9), (pp9, psg9, psm9, pfc9, pca9, ppa9, pl9, pcf9, ppl9, ppf9)) : MB) :: b9).map mbA = ms.map mbA := by refine (mb_set (f := mbA) ?_).trans hma; rfl
          have hmo2 : ∀ x ∈ a9 ++ ((a_2, ka9, kl9, kf9, (oo9, (nI kl9), (nI (ns (sc kl9 4096 (Cx ((a_2, ka9, kl9, kf9, (oo9, nI kl9, osm9, 0, oca9, opa9, kl9, ocf9, 0, opf9), (pp9, psg9, psm9, pfc9, pca9, ppa9, pl9, pcf9, ppl9, ppf9)) : MB))) kl9)), 0, oca9, opa9, kl9, ocfq_64, 0, opf9), (pp9, psg9, psm9, pfc9, pca9, ppa9, pl9, pcf9, ppl9, ppf9)) : MB) :: b9, mbOk x := ok_set hmo ⟨hk64, ⟨ho1, ho2, ho3⟩, ⟨hp1, hp2, hp3⟩⟩
          have hPD : my_PD (dC, dI) vwCl A ([(rc, Sum.inr (6, [Value.ref co, Value.ref ma, Value.int (nI ms.length), Value.int 0, Value.int 0, Value.int frd, Value.int fbd, Value.int fir])), (ma, Sum.inl (cM, 8, Sum.inr (Sum.inr (Sum.inr (Sum.inr mf))))), (co, Sum.inr (4, [Value.long xx, Value.long xreadX, Value.ref soa, Value.ref sna, Value.ref swa, Value.int 0, Value.ref ri, Value.ref ro, Value.ref rw, Value.int xasked]))] ++ mbsC cI (a9 ++ ((a_2, ka9, kl9, kf9, (oo9, (nI kl9), (nI (ns (sc kl9 4096 (Cx ((a_2, ka9, kl9, kf9, (oo9, nI kl9, osm9, 0, oca9, opa9, kl9, ocf9, 0, opf9), (pp9, psg9, psm9, pfc9, pca9, ppa9, pl9, pcf9, ppl9, ppf9)) : MB))) kl9)), 0, oca9, opa9, kl9, ocfq_64, 0, opf9), (pp9, psg9, psm9, pfc9, pca9, ppa9, pl9, pcf9, ppl9, ppf9)) : MB) :: b9)) H := ⟨hP, hD⟩
          have hP := hPD.1
          have hD := hPD.2
          have hbg2 : bgI nw_Stack ms (a9 ++ ((a_2, ka9, kl9, kf9, (oo9, (nI kl9), (nI (ns (sc kl9 4096 (Cx ((a_2, ka9, kl9, kf9, (oo9, nI kl9, osm9, 0, oca9, opa9, kl9, ocf9, 0, opf9), (pp9, psg9, psm9, pfc9, pca9, ppa9, pl9, pcf9, ppl9, ppf9)) : MB))) kl9)), 0, oca9, opa9, kl9, ocfq_64, 0, opf9), (pp9, psg9, psm9, pfc9, pca9, ppa9, pl9, pcf9, ppl9, ppf9)) : MB) :: b9) (a9.length + 1) := bg_st hbg hlm ⟨rfl, rfl, rfl, ⟨rfl, rfl, rfl, rfl⟩, ⟨hf_64, rfl⟩⟩
          rw [hla] at hbg2
          have hlm2 : ms.length = (a9 ++ ((a_2, ka9, kl9, kf9, (oo9, (nI kl9), (nI (ns (sc kl9 4096 (Cx ((a_2, ka9, kl9, kf9, (oo9, nI kl9, osm9, 0, oca9, opa9, kl9, ocf9, 0, opf9), (pp9, psg9, psm9, pfc9, pca9, ppa9, pl9, pcf9, ppl9, ppf9)) : MB))) kl9)), 0, oca9, opa9, kl9, ocfq_64, 0, opf9), (pp9, psg9, psm9, pfc9, pca9, ppa9, pl9, pcf9, ppl9, ppf9)) : MB) :: b9).length := by rw [hlm, List.length_append, List.length_append]; rfl
          obtain ⟨v_4, ev_4⟩ : ∃ y : Int32, y = i9 + (1) := ⟨_, rfl⟩
          refine lv_iinc (v := v_4) (lv' := [(4, Value.int v_4), (5, Value.ref a_2), (3, Value.int (nI 8)), (2, Value.ref ma), (1, Value.int fit), (0, Value.ref rc)]) hx hb d_RC_begin_67 hl (k := 1) rfl (by rw [ev_4]; rfl) (by decide) rfl (fun ls hl => ?_)
          refine lv_goto (tgt := 33) hx hb d_RC_begin_70 (by decide) ?_
          exact ih9_33 _ (by first | omega | (omega)) v_4 (ii + 1) (a9 ++ ((a_2, ka9, kl9, kf9, (oo9, (nI kl9), (nI (ns (sc kl9 4096 (Cx ((a_2, ka9, kl9, kf9, (oo9, nI kl9, osm9, 0, oca9, opa9, kl9, ocf9, 0, opf9), (pp9, psg9, psm9, pfc9, pca9, ppa9, pl9, pcf9, ppl9, ppf9)) : MB))) kl9)), 0, oca9, opa9, kl9, ocfq_64, 0, opf9), (pp9, psg9, psm9, pfc9, pca9, ppa9, pl9, pcf9, ppl9, ppf9)) : MB) :: b9) rfl (by rw [ev_4, hi9]; exact nI_1 _) (by omega) (hma2) (hmo2) (hbg2) (hlm2) H locs ls (hP.part [0, 1, 2] rfl) (hD.part [0, 1, 2] (by decide +kernel) rfl) hS (lv_sub hl [0, 2, 3, 4, 5] rfl)
  exact J_33 _ (0 : Int32) (0 : Nat) ms rfl (rfl) (by omega) (rfl) (hmk) (bg_0 ms) (rfl) H locs ls (hP.part [0, 1, 2] rfl) (hD.part [0, 1, 2] (by decide +kernel) rfl) hS (lv_sub hl [0, 1, 2, 3, 4] rfl)
set_option maxHeartbeats 2000000 in
set_option maxRecDepth 100000 in
theorem f_RC_read_Stack (l : Launch) (dC : Nat → ClassId) (dI : Nat → Nat → Nat) (cI cM cO : ClassId) (sz : Nat) (rc : Nat) (ma : Nat) (fit : Int32) (fen : Int32) (frd : Int32) (fbd : Int32) (fir : Int32) (mf : Nat → Option Nat) (co : Nat) (xx : Int64) (xreadX : Int64) (soa : Nat) (sna : Nat) (swa : Nat) (xkept : Int32) (ri : Nat) (ro : Nat) (rw : Nat) (xasked : Int32) (rin : Int32) (ria : Nat) (rik : Nat) (rif : Nat → Int32) (ms : List MB) (hk8 : ms.length ≤ 8) (hri : rOk rin rik) (hmf : mfOk mf ms) (hmk : ∀ x ∈ ms, mbOk x) : MetI l y_RC_read (Cond.code y_RC_read prog_1_method_12_code 5 (some .int) :: gw) ({ frames := 5, cells := 0, slots := 0, locals := 106 } : Room) (dC, dI) vwCl (kT cI cM cO) [Value.ref rc] ([(rc, Sum.inr (6, [Value.ref co, Value.ref ma, Value.int (nI ms.length), Value.int fit, Value.int fen, Value.int frd, Value.int fbd, Value.int fir])), (ma, Sum.inl (cM, 8, Sum.inr (Sum.inr (Sum.inr (Sum.inr mf))))), (co, Sum.inr (4, [Value.long xx, Value.long xreadX, Value.ref soa, Value.ref sna, Value.ref swa, Value.int xkept, Value.ref ri, Value.ref ro, Value.ref rw, Value.int xasked])), (ri, Sum.inr (0, [Value.int rin, Value.ref ria])), (ria, Sum.inl (cI, rik, Sum.inl rif))] ++ mbsC cI ms) sz (fun (r : Int32) (u : List MB × Int32 × Int32 × Int32 × Int64 × Int32) => u.1.map mbA = ms.map mbA ∧ (∀ x ∈ u.1, mbOk x) ∧ (∀ (i9 : Nat) (x9 y9 : MB), ms[i9]? = some x9 → u.1[i9]? = some y9 → sameS x9 y9) ∧ ms.length = u.1.length ∧ r = rin ∧ u.2.1 = 1) (fun (u : List MB × Int32 × Int32 × Int32 × Int64 × Int32) => ([(rc, Sum.inr (6, [Value.ref co, Value.ref ma, Value.int (nI ms.length), Value.int fit, Value.int fen, Value.int u.2.1, Value.int u.2.2.1, Value.int u.2.2.2.1])), (ma, Sum.inl (cM, 8, Sum.inr (Sum.inr (Sum.inr (Sum.inr mf))))), (co, Sum.inr (4, [Value.long xx, Value.long u.2.2.2.2.1, Value.ref soa, Value.ref sna, Value.ref swa, Value.int xkept, Value.ref ri, Value.ref ro, Value.ref rw, Value.int u.2.2.2.2.2])), (ri, Sum.inr (0, [Value.int rin, Value.ref ria])), (ria, Sum.inl (cI, rik, Sum.inl rif))] ++ mbsC cI u.1)) 0 0 := by
  refine my_ofI (cc := prog_1_method_12_code) (n := 5) (ret := (some .int)) (by decide) rfl (Nat.le_of_ble_eq_true rfl) ?_
  intro p e s m args below meth c R Q A ls H locs hx hb hr hts hown hlocks hml hnm hR hQ hA hl hP hK hN hD hS
  have hg : ∀ w ∈ gw, w.before args s = true := fun w h => hts w (List.mem_cons_of_mem _ h)
  have hown : s.vm.findClass "RangeCoders" = some m.cls := hown
  have hl : lv_has ls 5 [(0, Value.ref rc)] := hl
  have hlt_hri := rOk_lt hri
  refine lv_aload_n hx hb d_RC_read_0 rfl (lv_at hl 0 rfl) ?_
  refine va_get (D := (dC, dI)) (ci := 6) (v := .ref ma) (C := "RangeCoders") (T := T_RC) (N := 8) hx hb hg in_RC hown hK hP 0 rfl rfl 1 (by decide) (hg _ k259) (fun _ h9 => h9) rfl d_RC_read_1 ?_
  refine lv_astore_n (lv' := [(1, Value.ref ma), (0, Value.ref rc)]) hx hb d_RC_read_4 rfl hl (by decide) rfl (fun ls hl => ?_)
  refine lv_aload_n hx hb d_RC_read_5 rfl (lv_at hl 0 rfl) ?_
  refine va_alen hx hb hK hP 1 1 rfl rfl (v := nI 8) rfl d_RC_read_6 ?_
  refine lv_istore_n (lv' := [(2, Value.int (nI 8)), (1, Value.ref ma), (0, Value.ref rc)]) hx hb d_RC_read_7 rfl hl (by decide) rfl (fun ls hl => ?_)
  refine lv_iconst (v := 0) hx hb d_RC_read_8 (by decide) ?_
  refine lv_istore_n (lv' := [(3, Value.int 0), (2, Value.int (nI 8)), (1, Value.ref ma), (0, Value.ref rc)]) hx hb d_RC_read_9 rfl hl (by decide) rfl (fun ls hl => ?_)
  have J_10 : ∀ (n9_10 : Nat) (i9 : Int32) (ii : Nat) (ms9 : List MB) (hn9_10 : 8 - ii = n9_10) (hi9 : i9 = nI ii) (hii : ii ≤ 8) (hma : ms9.map mbA = ms.map mbA) (hmo : ∀ x ∈ ms9, mbOk x) (hbg : bgI sameS ms ms9 ii) (hlm : ms.length = ms9.length) (H : Heap) (locs : List Loc) (ls : Array Slot), va_P (dC, dI) vwCl ([(rc, Sum.inr (6, [Value.ref co, Value.ref ma, Value.int (nI ms.length), Value.int fit, Value.int fen, Value.int frd, Value.int fbd, Value.int fir])), (ma, Sum.inl (cM, 8, Sum.inr (Sum.inr (Sum.inr (Sum.inr mf))))), (co, Sum.inr (4, [Value.long xx, Value.long xreadX, Value.ref soa, Value.ref sna, Value.ref swa, Value.int xkept, Value.ref ri, Value.ref ro, Value.ref rw, Value.int xasked])), (ri, Sum.inr (0, [Value.int rin, Value.ref ria])), (ria, Sum.inl (cI, rik, Sum.inl rif))] ++ mbsC cI ms9) H → va_D A ([(rc, Sum.inr (6, [Value.ref co, Value.ref ma, Value.int (nI ms.length), Value.int fit, Value.int fen, Value.int frd, Value.int fbd, Value.int fir])), (ma, Sum.inl (cM, 8, Sum.inr (Sum.inr (Sum.inr (Sum.inr mf))))), (co, Sum.inr (4, [Value.long xx, Value.long xreadX, Value.ref soa, Value.ref sna, Value.ref swa, Value.int xkept, Value.ref ri, Value.ref ro, Value.ref rw, Value.int xasked])), (ri, Sum.inr (0, [Value.int rin, Value.ref ria])), (ria, Sum.inl (cI, rik, Sum.inl rif))] ++ mbsC cI ms9) → va_S A s.heap H locs → lv_has ls 5 [(3, Value.int i9), (2, Value.int (nI 8)), (1, Value.ref ma), (0, Value.ref rc)] → W p l e R s m args below meth c H locs 0 0 Q (F0 m 10 ls []) := by
    intro n9_10
    induction n9_10 using Nat.strongRecOn with
    | ind n9_10 ih9_10 =>
      intro i9 ii ms9 hn9_10 hi9 hii hma hmo hbg hlm H locs ls hP hD hS hl
      refine lv_iload_n hx hb d_RC_read_10 rfl (lv_at hl 0 rfl) ?_
      refine lv_iload_n hx hb d_RC_read_11 rfl (lv_at hl 1 rfl) ?_
      refine lv_icmp_ge (tgt := 48) hx hb d_RC_read_12 (by decide) (fun c_1 => ?_) (fun c_1 => ?_)
      · refine lv_aload_n hx hb d_RC_read_48 rfl (lv_at hl 3 rfl) ?_
        refine lv_iconst (v := 1) hx hb d_RC_read_49 (by decide) ?_
        refine va_put (D := (dC, dI)) (ci := 6) (v := .int 1) (ty := .boolean) (C := "RangeCoders") (T := T_RC) (N := 8) hx hb hg in_RC t_RC o_RC n_RC hown hK hP hD hS 0 rfl rfl 5 (by decide) (hg _ k263) (fun _ h9 => h9) rfl (o_RC 5 (by decide)) rfl rfl (Nat.le_of_ble_eq_true rfl) d_RC_read_50 (fun H locs hP hD hS => ?_)
        have hPD : my_PD (dC, dI) vwCl A ([(rc, Sum.inr (6, [Value.ref co, Value.ref ma, Value.int (nI ms.length), Value.int fit, Value.int fen, Value.int 1, Value.int fbd, Value.int fir])), (ma, Sum.inl (cM, 8, Sum.inr (Sum.inr (Sum.inr (Sum.inr mf))))), (co, Sum.inr (4, [Value.long xx, Value.long xreadX, Value.ref soa, Value.ref sna, Value.ref swa, Value.int xkept, Value.ref ri, Value.ref ro, Value.ref rw, Value.int xasked])), (ri, Sum.inr (0, [Value.int rin, Value.ref ria])), (ria, Sum.inl (cI, rik, Sum.inl rif))] ++ mbsC cI ms9) H := ⟨hP, hD⟩
        have hP := hPD.1
        have hD := hPD.2
        refine lv_aload_n hx hb d_RC_read_53 rfl (lv_at hl 3 rfl) ?_
        refine lv_iconst (v := 0) hx hb d_RC_read_54 (by decide) ?_
        refine va_put (D := (dC, dI)) (ci := 6) (v := .int 0) (ty := .int) (C := "RangeCoders") (T := T_RC) (N := 8) hx hb hg in_RC t_RC o_RC n_RC hown hK hP hD hS 0 rfl rfl 7 (by decide) (hg _ k265) (fun _ h9 => h9) rfl (o_RC 7 (by decide)) rfl rfl (Nat.le_of_ble_eq_true rfl) d_RC_read_55 (fun H locs hP hD hS => ?_)
        have hPD : my_PD (dC, dI) vwCl A ([(rc, Sum.inr (6, [Value.ref co, Value.ref ma, Value.int (nI ms.length), Value.int fit, Value.int fen, Value.int 1, Value.int fbd, Value.int 0])), (ma, Sum.inl (cM, 8, Sum.inr (Sum.inr (Sum.inr (Sum.inr mf))))), (co, Sum.inr (4, [Value.long xx, Value.long xreadX, Value.ref soa, Value.ref sna, Value.ref swa, Value.int xkept, Value.ref ri, Value.ref ro, Value.ref rw, Value.int xasked])), (ri, Sum.inr (0, [Value.int rin, Value.ref ria])), (ria, Sum.inl (cI, rik, Sum.inl rif))] ++ mbsC cI ms9) H := ⟨hP, hD⟩
        have hP := hPD.1
        have hD := hPD.2
        refine lv_aload_n hx hb d_RC_read_58 rfl (lv_at hl 3 rfl) ?_
        refine lv_aload_n hx hb d_RC_read_59 rfl (lv_at hl 3 rfl) ?_
        refine va_get (D := (dC, dI)) (ci := 6) (v := .ref co) (C := "RangeCoders") (T := T_RC) (N := 8) hx hb hg in_RC hown hK hP 0 rfl rfl 0 (by decide) (hg _ k258) (fun _ h9 => h9) rfl d_RC_read_60 ?_
        refine my_cit (wr := [(rc, Sum.inr (6, [Value.ref co, Value.ref ma, Value.int (nI ms.length), Value.int fit, Value.int fen, Value.int 1, Value.int fbd, Value.int 0])), (ma, Sum.inl (cM, 8, Sum.inr (Sum.inr (Sum.inr (Sum.inr mf)))))]) (va_runU (As := []) (rest := [Value.ref rc]) ⟨hx, hb, hml, hown, hts⟩ (c_Stack_Stack_openReading l dC dI cI cM cO H.size co xx xreadX soa sna swa xkept ri ro rw xasked rin ria rik rif (by first | assumption | omega)) (va_cwA 0 hts (my_gU k727 k729 k754 k755 k10 k756) rfl rfl rfl (hN.1 _ j728 rfl) (by decide +kernel) ⟨by rw [hR]; exact Nat.le_of_ble_eq_true rfl, by rw [hR]; exact Nat.le_of_ble_eq_true rfl⟩) (my_preV hK hN (my_subU hP [2, 3, 4] rfl) (my_dubT hD [2, 3, 4] (by decide +kernel) rfl) 0 rfl rfl) rfl rfl hl.1 rfl (lv_room (Nat.le_of_ble_eq_true rfl)) d_RC_read_63 ⟨by rw [hR]; exact Nat.le_of_ble_eq_true rfl, by rw [hR]; exact Nat.le_of_ble_eq_true rfl⟩) hP hD hS hA [2, 3, 4] [0, 1] rfl rfl (by decide +kernel) (by decide +kernel) (fun r_63 u9 H locs hw_63 hP hD hS => ?_)
        obtain ⟨xreadXq_63, xaskedq_63⟩ := u9
        have hPD : my_PD (dC, dI) vwCl A ([(rc, Sum.inr (6, [Value.ref co, Value.ref ma, Value.int (nI ms.length), Value.int fit, Value.int fen, Value.int 1, Value.int fbd, Value.int 0])), (ma, Sum.inl (cM, 8, Sum.inr (Sum.inr (Sum.inr (Sum.inr mf))))), (co, Sum.inr (4, [Value.long xx, Value.long xreadXq_63, Value.ref soa, Value.ref sna, Value.ref swa, Value.int xkept, Value.ref ri, Value.ref ro, Value.ref rw, Value.int xaskedq_63])), (ri, Sum.inr (0, [Value.int rin, Value.ref ria])), (ria, Sum.inl (cI, rik, Sum.inl rif))] ++ mbsC cI ms9) H := ⟨hP, hD⟩
        have hP := hPD.1
        have hD := hPD.2
        refine lv_if_ne (tgt := 73) hx hb d_RC_read_66 (by decide) (fun c_2 => ?_) (fun c_2 => ?_)
        · refine lv_iconst (v := 0) hx hb d_RC_read_73 (by decide) ?_
          refine va_put (D := (dC, dI)) (ci := 6) (v := .int 0) (ty := .boolean) (C := "RangeCoders") (T := T_RC) (N := 8) hx hb hg in_RC t_RC o_RC n_RC hown hK hP hD hS 0 rfl rfl 6 (by decide) (hg _ k264) (fun _ h9 => h9) rfl (o_RC 6 (by decide)) rfl rfl (Nat.le_of_ble_eq_true rfl) d_RC_read_74 (fun H locs hP hD hS => ?_)
          have hPD : my_PD (dC, dI) vwCl A ([(rc, Sum.inr (6, [Value.ref co, Value.ref ma, Value.int (nI ms.length), Value.int fit, Value.int fen, Value.int 1, Value.int 0, Value.int 0])), (ma, Sum.inl (cM, 8, Sum.inr (Sum.inr (Sum.inr (Sum.inr mf))))), (co, Sum.inr (4, [Value.long xx, Value.long xreadXq_63, Value.ref soa, Value.ref sna, Value.ref swa, Value.int xkept, Value.ref ri, Value.ref ro, Value.ref rw, Value.int xaskedq_63])), (ri, Sum.inr (0, [Value.int rin, Value.ref ria])), (ria, Sum.inl (cI, rik, Sum.inl rif))] ++ mbsC cI ms9) H := ⟨hP, hD⟩
          have hP := hPD.1
          have hD := hPD.2
          refine lv_aload_n hx hb d_RC_read_77 rfl (lv_at hl 3 rfl) ?_
          refine va_get (D := (dC, dI)) (ci := 6) (v := .ref co) (C := "RangeCoders") (T := T_RC) (N := 8) hx hb hg in_RC hown hK hP 0 rfl rfl 0 (by decide) (hg _ k258) (fun _ h9 => h9) rfl d_RC_read_78 ?_
          refine va_get (D := (dC, dI)) (ci := 4) (v := .ref ri) (C := "RangeCoders$Stack") (T := T_Stack) (N := 10) hx hb hg in_Stack hown hK hP 2 rfl rfl 6 (by decide) (hg _ k102) (fun _ h9 => h9) rfl d_RC_read_81 ?_
          refine va_get (D := (dC, dI)) (ci := 0) (v := .int rin) (C := "RangeCoders$Row") (T := T_Row) (N := 2) hx hb hg in_Row hown hK hP 3 rfl rfl 0 (by decide) (hg _ k58) (fun _ h9 => h9) rfl d_RC_read_84 ?_
          exact my_iret (v := rin) hx hb hr (rfl) hlocks hQ hK hS (Nat.le_refl _) (Nat.le_refl _) (ms9, (1 : Int32), (0 : Int32), (0 : Int32), xreadXq_63, xaskedq_63) (⟨hma, hmo, bg_e (by rw [show (8 : Nat) = ii by have := nI_ge' (n := 8) (j := ii) (by omega) (by decide) (by rw [← hi9]; assumption); omega]; exact hbg) hk8, hlm, rfl, rfl⟩) (hP.part [0, 1, 2, 3, 4] rfl) (hD.part [0, 1, 2, 3, 4] (by decide +kernel) rfl) d_RC_read_87
        · refine lv_iconst (v := 1) hx hb d_RC_read_69 (by decide) ?_
          refine lv_goto (tgt := 74) hx hb d_RC_read_70 (by decide) ?_
          refine va_put (D := (dC, dI)) (ci := 6) (v := .int 1) (ty := .boolean) (C := "RangeCoders") (T := T_RC) (N := 8) hx hb hg in_RC t_RC o_RC n_RC hown hK hP hD hS 0 rfl rfl 6 (by decide) (hg _ k264) (fun _ h9 => h9) rfl (o_RC 6 (by decide)) rfl rfl (Nat.le_of_ble_eq_true rfl) d_RC_read_74 (fun H locs hP hD hS => ?_)
          have hPD : my_PD (dC, dI) vwCl A ([(rc, Sum.inr (6, [Value.ref co, Value.ref ma, Value.int (nI ms.length), Value.int fit, Value.int fen, Value.int 1, Value.int 1, Value.int 0])), (ma, Sum.inl (cM, 8, Sum.inr (Sum.inr (Sum.inr (Sum.inr mf))))), (co, Sum.inr (4, [Value.long xx, Value.long xreadXq_63, Value.ref soa, Value.ref sna, Value.ref swa, Value.int xkept, Value.ref ri, Value.ref ro, Value.ref rw, Value.int xaskedq_63])), (ri, Sum.inr (0, [Value.int rin, Value.ref ria])), (ria, Sum.inl (cI, rik, Sum.inl rif))] ++ mbsC cI ms9) H := ⟨hP, hD⟩
          have hP := hPD.1
          have hD := hPD.2
          refine lv_aload_n hx hb d_RC_read_77 rfl (lv_at hl 3 rfl) ?_
          refine va_get (D := (dC, dI)) (ci := 6) (v := .ref co) (C := "RangeCoders") (T := T_RC) (N := 8) hx hb hg in_RC hown hK hP 0 rfl rfl 0 (by decide) (hg _ k258) (fun _ h9 => h9) rfl d_RC_read_78 ?_
          refine va_get (D := (dC, dI)) (ci := 4) (v := .ref ri) (C := "RangeCoders$Stack") (T := T_Stack) (N := 10) hx hb hg in_Stack hown hK hP 2 rfl rfl 6 (by decide) (hg _ k102) (fun _ h9 => h9) rfl d_RC_read_81 ?_
          refine va_get (D := (dC, dI)) (ci := 0) (v := .int rin) (C := "RangeCoders$Row") (T := T_Row) (N := 2) hx hb hg in_Row hown hK hP 3 rfl rfl 0 (by decide) (hg _ k58) (fun _ h9 => h9) rfl d_RC_read_84 ?_
          exact my_iret (v := rin) hx hb hr (rfl) hlocks hQ hK hS (Nat.le_refl _) (Nat.le_refl _) (ms9, (1 : Int32), (1 : Int32), (0 : Int32), xreadXq_63, xaskedq_63) (⟨hma, hmo, bg_e (by rw [show (8 : Nat) = ii by have := nI_ge' (n := 8) (j := ii) (by omega) (by decide) (by rw [← hi9]; assumption); omega]; exact hbg) hk8, hlm, rfl, rfl⟩) (hP.part [0, 1, 2, 3, 4] rfl) (hD.part [0, 1, 2, 3, 4] (by decide +kernel) rfl) d_RC_read_87
      · refine lv_aload_n hx hb d_RC_read_15 rfl (lv_at hl 2 rfl) ?_
        refine lv_iload_n hx hb d_RC_read_16 rfl (lv_at hl 0 rfl) ?_
        have hi8 : ii < 8 := by
          rcases Nat.lt_or_ge ii 8 with z | z
          · exact z
          · exact absurd (by rw [hi9]; exact nI_le (a := 8) z (by omega)) c_1
        refine va_aldq hx hb hK hP 1 1 rfl rfl (by rw [hi9]; exact vp_in_nI hi8 (by decide)) d_RC_read_17 ?_
        rcases hq_a_3 : mf i9.toNatClampNeg with _ | a_3
        · refine W.eq (g2 := F0 m 18 ls [Value.null]) rfl ?_
          have hmf9 := mf_keep hmf hma
          have hnil : ms.length ≤ ii := by
            rcases Nat.lt_or_ge ii ms9.length with z | z
            · obtain ⟨a9, x9, b9, e9, hla⟩ := mb_at z
              subst e9
              rw [hi9, nI_clamp (by omega), ← hla, mf_some hmf9 (by omega)] at hq_a_3; cases hq_a_3
            · rw [hlm]; exact z
          refine lv_astoreN (lv' := [(4, Value.null), (3, Value.int i9), (2, Value.int (nI 8)), (1, Value.ref ma), (0, Value.ref rc)]) hx hb d_RC_read_18 hl (by decide) rfl (fun ls hl => ?_)
          refine lv_aloadN hx hb d_RC_read_20 (lv_at hl 0 rfl) ?_
          refine lv_ifnullN (tgt := 42) hx hb d_RC_read_22 (by decide) ?_
          obtain ⟨v_4, ev_4⟩ : ∃ y : Int32, y = i9 + (1) := ⟨_, rfl⟩
          refine lv_iinc (v := v_4) (lv' := [(3, Value.int v_4), (4, Value.null), (2, Value.int (nI 8)), (1, Value.ref ma), (0, Value.ref rc)]) hx hb d_RC_read_42 hl (k := 1) rfl (by rw [ev_4]; rfl) (by decide) rfl (fun ls hl => ?_)
          refine lv_goto (tgt := 10) hx hb d_RC_read_45 (by decide) ?_
          exact ih9_10 _ (by first | omega | (omega)) v_4 (ii + 1) ms9 rfl (by rw [ev_4, hi9]; exact nI_1 _) (by omega) (by assumption) (by assumption) (bg_no hbg (by rw [← hlm]; exact hnil)) (hlm) H locs ls (hP.part [0, 1, 2, 3, 4] rfl) (hD.part [0, 1, 2, 3, 4] (by decide +kernel) rfl) hS (lv_sub hl [0, 2, 3, 4] rfl)
        · refine W.eq (g2 := F0 m 18 ls [Value.ref a_3]) rfl ?_
          have hmf9 := mf_keep hmf hma
          have hil : ii < ms9.length := by
            rcases Nat.lt_or_ge ii ms9.length with z | z
            · exact z
            · rw [hi9, nI_clamp (by omega), mf_none hmf9 hi8 z] at hq_a_3; cases hq_a_3
          obtain ⟨a9, x9, b9, e9, hla⟩ := mb_at hil
          subst e9
          obtain ⟨mo9, ka9, kl9, kf9, ⟨oo9, osg9, osm9, ofc9, oca9, opa9, ol9, ocf9, opl9, opf9⟩, ⟨pp9, psg9, psm9, pfc9, pca9, ppa9, pl9, pcf9, ppl9, ppf9⟩⟩ := x9
          have hax : a_3 = mo9 := by
            rw [hi9, nI_clamp (by omega), ← hla, mf_some hmf9 (by omega)] at hq_a_3
            exact (Option.some.inj hq_a_3).symm
          subst hax
          obtain ⟨hk64, ⟨ho1, ho2, ho3⟩, ⟨hp1, hp2, hp3⟩⟩ := ok_mid hmo
          have hP := pm_P hP (mb_out cI [(rc, Sum.inr (6, [Value.ref co, Value.ref ma, Value.int (nI ms.length), Value.int fit, Value.int fen, Value.int frd, Value.int fbd, Value.int fir])), (ma, Sum.inl (cM, 8, Sum.inr (Sum.inr (Sum.inr (Sum.inr mf))))), (co, Sum.inr (4, [Value.long xx, Value.long xreadX, Value.ref soa, Value.ref sna, Value.ref swa, Value.int xkept, Value.ref ri, Value.ref ro, Value.ref rw, Value.int xasked])), (ri, Sum.inr (0, [Value.int rin, Value.ref ria])), (ria, Sum.inl (cI, rik, Sum.inl rif))] a9 b9 (a_3, ka9, kl9, kf9, (oo9, osg9, osm9, ofc9, oca9, opa9, ol9, ocf9, opl9, opf9), (pp9, psg9, psm9, pfc9, pca9, ppa9, pl9, pcf9, ppl9, ppf9)))
          have hD := pm_D hD (mb_out cI [(rc, Sum.inr (6, [Value.ref co, Value.ref ma, Value.int (nI ms.length), Value.int fit, Value.int fen, Value.int frd, Value.int fbd, Value.int fir])), (ma, Sum.inl (cM, 8, Sum.inr (Sum.inr (Sum.inr (Sum.inr mf))))), (co, Sum.inr (4, [Value.long xx, Value.long xreadX, Value.ref soa, Value.ref sna, Value.ref swa, Value.int xkept, Value.ref ri, Value.ref ro, Value.ref rw, Value.int xasked])), (ri, Sum.inr (0, [Value.int rin, Value.ref ria])), (ria, Sum.inl (cI, rik, Sum.inl rif))] a9 b9 (a_3, ka9, kl9, kf9, (oo9, osg9, osm9, ofc9, oca9, opa9, ol9, ocf9, opl9, opf9), (pp9, psg9, psm9, pfc9, pca9, ppa9, pl9, pcf9, ppl9, ppf9)))
          have hPD : my_PD (dC, dI) vwCl A ([(rc, Sum.inr (6, [Value.ref co, Value.ref ma, Value.int (nI ms.length), Value.int fit, Value.int fen, Value.int frd, Value.int fbd, Value.int fir])), (ma, Sum.inl (cM, 8, Sum.inr (Sum.inr (Sum.inr (Sum.inr mf))))), (co, Sum.inr (4, [Value.long xx, Value.long xreadX, Value.ref soa, Value.ref sna, Value.ref swa, Value.int xkept, Value.ref ri, Value.ref ro, Value.ref rw, Value.int xasked])), (ri, Sum.inr (0, [Value.int rin, Value.ref ria])), (ria, Sum.inl (cI, rik, Sum.inl rif)), (a_3, Sum.inr (8, [Value.ref ka9, Value.ref oo9, Value.ref pp9])), (ka9, Sum.inl (cI, kl9, Sum.inl kf9)), (oo9, Sum.inr (7, [Value.int osg9, Value.int osm9, Value.int ofc9, Value.ref oca9, Value.ref opa9])), (oca9, Sum.inl (cI, ol9, Sum.inl ocf9)), (opa9, Sum.inl (cI, opl9, Sum.inl opf9)), (pp9, Sum.inr (7, [Value.int psg9, Value.int psm9, Value.int pfc9, Value.ref pca9, Value.ref ppa9])), (pca9, Sum.inl (cI, pl9, Sum.inl pcf9)), (ppa9, Sum.inl (cI, ppl9, Sum.inl ppf9))] ++ (mbsC cI a9 ++ mbsC cI b9)) H := ⟨hP, hD⟩
          have hP := hPD.1
          have hD := hPD.2
          refine lv_astore (lv' := [(4, Value.ref a_3), (3, Value.int i9), (2, Value.int (nI 8)), (1, Value.ref ma), (0, Value.ref rc)]) hx hb d_RC_read_18 hl (by decide) rfl (fun ls hl => ?_)
          refine lv_aload hx hb d_RC_read_20 (lv_at hl 0 rfl) ?_
          refine lv_ifnull hx hb d_RC_read_22 ?_
          refine lv_aload_n hx hb d_RC_read_25 rfl (lv_at hl 4 rfl) ?_
          refine va_get (D := (dC, dI)) (ci := 6) (v := .ref co) (C := "RangeCoders") (T := T_RC) (N := 8) hx hb hg in_RC hown hK hP 0 rfl rfl 0 (by decide) (hg _ k258) (fun _ h9 => h9) rfl d_RC_read_26 ?_
          refine lv_aload hx hb d_RC_read_29 (lv_at hl 0 rfl) ?_
          refine va_get (D := (dC, dI)) (ci := 8) (v := .ref pp9) (C := "RangeCoders$Model") (T := T_Model) (N := 3) hx hb hg in_Model hown hK hP 5 rfl rfl 2 (by decide) (hg _ k345) (fun _ h9 => h9) rfl d_RC_read_31 ?_
          refine lv_aload hx hb d_RC_read_34 (lv_at hl 0 rfl) ?_
          refine va_get (D := (dC, dI)) (ci := 8) (v := .ref ka9) (C := "RangeCoders$Model") (T := T_Model) (N := 3) hx hb hg in_Model hown hK hP 5 rfl rfl 0 (by decide) (hg _ k341) (fun _ h9 => h9) rfl d_RC_read_36 ?_
          refine my_cvt (wr := [(rc, Sum.inr (6, [Value.ref co, Value.ref ma, Value.int (nI ms.length), Value.int fit, Value.int fen, Value.int frd, Value.int fbd, Value.int fir])), (ma, Sum.inl (cM, 8, Sum.inr (Sum.inr (Sum.inr (Sum.inr mf))))), (ri, Sum.inr (0, [Value.int rin, Value.ref ria])), (ria, Sum.inl (cI, rik, Sum.inl rif)), (a_3, Sum.inr (8, [Value.ref ka9, Value.ref oo9, Value.ref pp9])), (oo9, Sum.inr (7, [Value.int osg9, Value.int osm9, Value.int ofc9, Value.ref oca9, Value.ref opa9])), (oca9, Sum.inl (cI, ol9, Sum.inl ocf9)), (opa9, Sum.inl (cI, opl9, Sum.inl opf9))]) (va_runU (As := [Value.ref pp9, Value.ref ka9]) (rest := []) ⟨hx, hb, hml, hown, hts⟩ (c_Stack_Stack_prepare l dC dI cI cM cO H.size co xx xreadX soa sna swa xkept ri ro rw xasked pp9 psg9 psm9 pfc9 pca9 ppa9 pl9 pcf9 ppl9 ppf9 ka9 kl9 kf9 (by first | assumption | omega) (by first | assumption | omega) (by first | assumption | omega) (by first | assumption | omega)) (va_cwA 2 hts (my_gU k353 k355 k380 k381 k10 k382) rfl rfl rfl (hN.1 _ j354 rfl) (by decide +kernel) ⟨by rw [hR]; exact Nat.le_of_ble_eq_true rfl, by rw [hR]; exact Nat.le_of_ble_eq_true rfl⟩) (my_preV hK hN (my_subU hP [2, 10, 11, 12, 6] rfl) (my_dubT hD [2, 10, 11, 12, 6] (by decide +kernel) rfl) 0 rfl rfl) rfl rfl hl.1 rfl (lv_room (Nat.le_of_ble_eq_true rfl)) d_RC_read_39 ⟨by rw [hR]; exact Nat.le_of_ble_eq_true rfl, by rw [hR]; exact Nat.le_of_ble_eq_true rfl⟩) hP hD hS hA [2, 10, 11, 12, 6] [0, 1, 3, 4, 5, 7, 8, 9] rfl rfl (by decide +kernel) (by decide +kernel) (fun u9 H locs hw_39 hP hD hS => ?_)
          obtain ⟨osmq_39, ocfq_39⟩ := u9
          have hPD : my_PD (dC, dI) vwCl A ([(rc, Sum.inr (6, [Value.ref co, Value.ref ma, Value.int (nI ms.length), Value.int fit, Value.int fen, Value.int frd, Value.int fbd, Value.int fir])), (ma, Sum.inl (cM, 8, Sum.inr (Sum.inr (Sum.inr (Sum.inr mf))))), (ri, Sum.inr (0, [Value.int rin, Value.ref ria])), (ria, Sum.inl (cI, rik, Sum.inl rif)), (a_3, Sum.inr (8, [Value.ref ka9, Value.ref oo9, Value.ref pp9])), (oo9, Sum.inr (7, [Value.int osg9, Value.int osm9, Value.int ofc9, Value.ref oca9, Value.ref opa9])), (oca9, Sum.inl (cI, ol9, Sum.inl ocf9)), (opa9, Sum.inl (cI, opl9, Sum.inl opf9)), (co, Sum.inr (4, [Value.long xx, Value.long xreadX, Value.ref soa, Value.ref sna, Value.ref swa, Value.int xkept, Value.ref ri, Value.ref ro, Value.ref rw, Value.int xasked])), (pp9, Sum.inr (7, [Value.int psg9, Value.int osmq_39, Value.int pfc9, Value.ref pca9, Value.ref ppa9])), (pca9, Sum.inl (cI, pl9, Sum.inl ocfq_39)), (ppa9, Sum.inl (cI, ppl9, Sum.inl ppf9)), (ka9, Sum.inl (cI, kl9, Sum.inl kf9))] ++ (mbsC cI a9 ++ mbsC cI b9)) H := ⟨hP, hD⟩
          have hP := hPD.1
          have hD := hPD.2
          have hP := pm_P (hP.part [0, 1, 8, 2, 3, 4, 12, 5, 6, 7, 9, 10, 11] rfl : va_P (dC, dI) vwCl ([(rc, Sum.inr (6, [Value.ref co, Value.ref ma, Value.int (nI ms.length), Value.int fit, Value.int fen, Value.int frd, Value.int fbd, Value.int fir])), (ma, Sum.inl (cM, 8, Sum.inr (Sum.inr (Sum.inr (Sum.inr mf))))), (co, Sum.inr (4, [Value.long xx, Value.long xreadX, Value.ref soa, Value.ref sna, Value.ref swa, Value.int xkept, Value.ref ri, Value.ref ro, Value.ref rw, Value.int xasked])), (ri, Sum.inr (0, [Value.int rin, Value.ref ria])), (ria, Sum.inl (cI, rik, Sum.inl rif)), (a_3, Sum.inr (8, [Value.ref ka9, Value.ref oo9, Value.ref pp9])), (ka9, Sum.inl (cI, kl9, Sum.inl kf9)), (oo9, Sum.inr (7, [Value.int osg9, Value.int osm9, Value.int ofc9, Value.ref oca9, Value.ref opa9])), (oca9, Sum.inl (cI, ol9, Sum.inl ocf9)), (opa9, Sum.inl (cI, opl9, Sum.inl opf9)), (pp9, Sum.inr (7, [Value.int psg9, Value.int osmq_39, Value.int pfc9, Value.ref pca9, Value.ref ppa9])), (pca9, Sum.inl (cI, pl9, Sum.inl ocfq_39)), (ppa9, Sum.inl (cI, ppl9, Sum.inl ppf9))] ++ (mbsC cI a9 ++ mbsC cI b9)) H) (mb_out cI [(rc, Sum.inr (6, [Value.ref co, Value.ref ma, Value.int (nI ms.length), Value.int fit, Value.int fen, Value.int frd, Value.int fbd, Value.int fir])), (ma, Sum.inl (cM, 8, Sum.inr (Sum.inr (Sum.inr (Sum.inr mf))))), (co, Sum.inr (4, [Value.long xx, Value.long xreadX, Value.ref soa, Value.ref sna, Value.ref swa, Value.int xkept, Value.ref ri, Value.ref ro, Value.ref rw, Value.int xasked])), (ri, Sum.inr (0, [Value.int rin, Value.ref ria])), (ria, Sum.inl (cI, rik, Sum.inl rif))] a9 b9 ((a_3, ka9, kl9, kf9, (oo9, osg9, osm9, ofc9, oca9, opa9, ol9, ocf9, opl9, opf9), (pp9, psg9, osmq_39, pfc9, pca9, ppa9, pl9, ocfq_39, ppl9, ppf9)) : MB)).symm
          have hD := pm_D (hD.part [0, 1, 8, 2, 3, 4, 12, 5, 6, 7, 9, 10, 11] (by decide +kernel) rfl : va_D A ([(rc, Sum.inr (6, [Value.ref co, Value.ref ma, Value.int (nI ms.length), Value.int fit, Value.int fen, Value.int frd, Value.int fbd, Value.int fir])), (ma, Sum.inl (cM, 8, Sum.inr (Sum.inr (Sum.inr (Sum.inr mf))))), (co, Sum.inr (4, [Value.long xx, Value.long xreadX, Value.ref soa, Value.ref sna, Value.ref swa, Value.int xkept, Value.ref ri, Value.ref ro, Value.ref rw, Value.int xasked])), (ri, Sum.inr (0, [Value.int rin, Value.ref ria])), (ria, Sum.inl (cI, rik, Sum.inl rif)), (a_3, Sum.inr (8, [Value.ref ka9, Value.ref oo9, Value.ref pp9])), (ka9, Sum.inl (cI, kl9, Sum.inl kf9)), (oo9, Sum.inr (7, [Value.int osg9, Value.int osm9, Value.int ofc9, Value.ref oca9, Value.ref opa9])), (oca9, Sum.inl (cI, ol9, Sum.inl ocf9)), (opa9, Sum.inl (cI, opl9, Sum.inl opf9)), (pp9, Sum.inr (7, [Value.int psg9, Value.int osmq_39, Value.int pfc9, Value.ref pca9, Value.ref ppa9])), (pca9, Sum.inl (cI, pl9, Sum.inl ocfq_39)), (ppa9, Sum.inl (cI, ppl9, Sum.inl ppf9))] ++ (mbsC cI a9 ++ mbsC cI b9))) (mb_out cI [(rc, Sum.inr (6, [Value.ref co, Value.ref ma, Value.int (nI ms.length), Value.int fit, Value.int fen, Value.int frd, Value.int fbd, Value.int fir])), (ma, Sum.inl (cM, 8, Sum.inr (Sum.inr (Sum.inr (Sum.inr mf))))), (co, Sum.inr (4, [Value.long xx, Value.long xreadX, Value.ref soa, Value.ref sna, Value.ref swa, Value.int xkept, Value.ref ri, Value.ref ro, Value.ref rw, Value.int xasked])), (ri, Sum.inr (0, [Value.int rin, Value.ref ria])), (ria, Sum.inl (cI, rik, Sum.inl rif))] a9 b9 ((a_3, ka9, kl9, kf9, (oo9, osg9, osm9, ofc9, oca9, opa9, ol9, ocf9, opl9, opf9), (pp9, psg9, osmq_39, pfc9, pca9, ppa9, pl9, ocfq_39, ppl9, ppf9)) : MB)).symm
          have hma2 : (a9 ++ ((a_3, ka9, kl9, kf9, (oo9, osg9, osm9, ofc9, oca9, opa9, ol9, ocf9, opl9, opf9), (pp9, psg9, osmq_39, pfc9, pca9, ppa9, pl9, ocfq_39, ppl9, ppf9)) : MB) :: b9).map mbA = ms.map mbA := by refine (mb_set (f := mbA) ?_).trans hma; rfl
          have hmo2 : ∀ x ∈ a9 ++ ((a_3, ka9, kl9, kf9, (oo9, osg9, osm9, ofc9, oca9, opa9, ol9, ocf9, opl9, opf9), (pp9, psg9, osmq_39, pfc9, pca9, ppa9, pl9, ocfq_39, ppl9, ppf9)) : MB) :: b9, mbOk x := ok_set hmo ⟨hk64, ⟨ho1, ho2, ho3⟩, ⟨hp1, hp2, hp3⟩⟩
          have hPD : my_PD (dC, dI) vwCl A ([(rc, Sum.inr (6, [Value.ref co, Value.ref ma, Value.int (nI ms.length), Value.int fit, Value.int fen, Value.int frd, Value.int fbd, Value.int fir])), (ma, Sum.inl (cM, 8, Sum.inr (Sum.inr (Sum.inr (Sum.inr mf))))), (co, Sum.inr (4, [Value.long xx, Value.long xreadX, Value.ref soa, Value.ref sna, Value.ref swa, Value.int xkept, Value.ref ri, Value.ref ro, Value.ref rw, Value.int xasked])), (ri, Sum.inr (0, [Value.int rin, Value.ref ria])), (ria, Sum.inl (cI, rik, Sum.inl rif))] ++ mbsC cI (a9 ++ ((a_3, ka9, kl9, kf9, (oo9, osg9, osm9, ofc9, oca9, opa9, ol9, ocf9, opl9, opf9), (pp9, psg9, osmq_39, pfc9, pca9, ppa9, pl9, ocfq_39, ppl9, ppf9)) : MB) :: b9)) H := ⟨hP, hD⟩
          have hP := hPD.1
          have hD := hPD.2
          rw [← hla] at hbg
          have hbg2 : bgI sameS ms (a9 ++ ((a_3, ka9, kl9, kf9, (oo9, osg9, osm9, ofc9, oca9, opa9, ol9, ocf9, opl9, opf9), (pp9, psg9, osmq_39, pfc9, pca9, ppa9, pl9, ocfq_39, ppl9, ppf9)) : MB) :: b9) (a9.length + 1) := bg_st hbg hlm ⟨rfl, rfl, rfl⟩
          rw [hla] at hbg2
          have hlm2 : ms.length = (a9 ++ ((a_3, ka9, kl9, kf9, (oo9, osg9, osm9, ofc9, oca9, opa9, ol9, ocf9, opl9, opf9), (pp9, psg9, osmq_39, pfc9, pca9, ppa9, pl9, ocfq_39, ppl9, ppf9)) : MB) :: b9).length := by rw [hlm, List.length_append, List.length_append]; rfl
          obtain ⟨v_5, ev_5⟩ : ∃ y : Int32, y = i9 + (1) := ⟨_, rfl⟩
          refine lv_iinc (v := v_5) (lv' := [(3, Value.int v_5), (4, Value.ref a_3), (2, Value.int (nI 8)), (1, Value.ref ma), (0, Value.ref rc)]) hx hb d_RC_read_42 hl (k := 1) rfl (by rw [ev_5]; rfl) (by decide) rfl (fun ls hl => ?_)
          refine lv_goto (tgt := 10) hx hb d_RC_read_45 (by decide) ?_
          exact ih9_10 _ (by first | omega | (omega)) v_5 (ii + 1) (a9 ++ ((a_3, ka9, kl9, kf9, (oo9, osg9, osm9, ofc9, oca9, opa9, ol9, ocf9, opl9, opf9), (pp9, psg9, osmq_39, pfc9, pca9, ppa9, pl9, ocfq_39, ppl9, ppf9)) : MB) :: b9) rfl (by rw [ev_5, hi9]; exact nI_1 _) (by omega) (hma2) (hmo2) (hbg2) (hlm2) H locs ls (hP.part [0, 1, 2, 3, 4] rfl) (hD.part [0, 1, 2, 3, 4] (by decide +kernel) rfl) hS (lv_sub hl [0, 2, 3, 4] rfl)
  exact J_10 _ (0 : Int32) (0 : Nat) ms rfl (rfl) (by omega) (rfl) (hmk) (bg_0 ms) (rfl) H locs ls (hP.part [0, 1, 2, 3, 4] rfl) (hD.part [0, 1, 2, 3, 4] (by decide +kernel) rfl) hS (lv_sub hl [0, 1, 2, 3] rfl)
end
section
set_option maxHeartbeats 2000000 in
set_option maxRecDepth 100000 in
theorem f_RC_begin_Table (l : Launch) (dC : Nat → ClassId) (dI : Nat → Nat → Nat) (cI cM cO : ClassId) (sz : Nat) (rc : Nat) (ma : Nat) (fit : Int32) (fen : Int32) (frd : Int32) (fbd : Int32) (fir : Int32) (mf : Nat → Option Nat) (co : Nat) (xx : Int64) (xreadX : Int64) (soa : Nat) (sna : Nat) (swa : Nat) (xkept : Int32) (ri : Nat) (ro : Nat) (rw : Nat) (xasked : Int32) (ms : List MB) (hk8 : ms.length ≤ 8) (hmf : mfOk mf ms) (hmk : ∀ x ∈ ms, mbOk x) (hms : ∀ x ∈ ms, mOk_Table x) : MetI l y_RC_begin (Cond.code y_RC_begin prog_1_method_7_code 6 (some .int) :: gw) ({ frames := 4, cells := 0, slots := 0, locals := 89 } : Room) (dC, dI) vwCl (kT cI cM cO) [Value.ref rc] ([(rc, Sum.inr (6, [Value.ref co, Value.ref ma, Value.int (nI ms.length), Value.int fit, Value.int fen, Value.int frd, Value.int fbd, Value.int fir])), (ma, Sum.inl (cM, 8, Sum.inr (Sum.inr (Sum.inr (Sum.inr mf))))), (co, Sum.inr (5, [Value.long xx, Value.long xreadX, Value.ref soa, Value.ref sna, Value.ref swa, Value.int xkept, Value.ref ri, Value.ref ro, Value.ref rw, Value.int xasked]))] ++ mbsC cI ms) sz (fun (r : Int32) (u : List MB) => u.map mbA = ms.map mbA ∧ (∀ x ∈ u, mbOk x) ∧ (∀ (i9 : Nat) (x9 y9 : MB), ms[i9]? = some x9 → u[i9]? = some y9 → nw_Table x9 y9) ∧ ms.length = u.length ∧ r = fit) (fun (u : List MB) => ([(rc, Sum.inr (6, [Value.ref co, Value.ref ma, Value.int (nI ms.length), Value.int 0, Value.int 0, Value.int frd, Value.int fbd, Value.int fir])), (ma, Sum.inl (cM, 8, Sum.inr (Sum.inr (Sum.inr (Sum.inr mf))))), (co, Sum.inr (5, [Value.long xx, Value.long xreadX, Value.ref soa, Value.ref sna, Value.ref swa, Value.int 0, Value.ref ri, Value.ref ro, Value.ref rw, Value.int xasked]))] ++ mbsC cI u)) 0 0 := by
  refine my_ofI (cc := prog_1_method_7_code) (n := 6) (ret := (some .int)) (by decide) rfl (Nat.le_of_ble_eq_true rfl) ?_
  intro p e s m args below meth c R Q A ls H locs hx hb hr hts hown hlocks hml hnm hR hQ hA hl hP hK hN hD hS
  have hg : ∀ w ∈ gw, w.before args s = true := fun w h => hts w (List.mem_cons_of_mem _ h)
  have hown : s.vm.findClass "RangeCoders" = some m.cls := hown
  have hl : lv_has ls 6 [(0, Value.ref rc)] := hl
  refine lv_aload_n hx hb d_RC_begin_0 rfl (lv_at hl 0 rfl) ?_
  refine va_get (D := (dC, dI)) (ci := 6) (v := .int fit) (C := "RangeCoders") (T := T_RC) (N := 8) hx hb hg in_RC hown hK hP 0 rfl rfl 3 (by decide) (hg _ k261) (fun _ h9 => h9) rfl d_RC_begin_1 ?_
  refine lv_istore_n (lv' := [(1, Value.int fit), (0, Value.ref rc)]) hx hb d_RC_begin_4 rfl hl (by decide) rfl (fun ls hl => ?_)
  refine lv_aload_n hx hb d_RC_begin_5 rfl (lv_at hl 1 rfl) ?_
  refine lv_iconst (v := 0) hx hb d_RC_begin_6 (by decide) ?_
  refine va_put (D := (dC, dI)) (ci := 6) (v := .int 0) (ty := .int) (C := "RangeCoders") (T := T_RC) (N := 8) hx hb hg in_RC t_RC o_RC n_RC hown hK hP hD hS 0 rfl rfl 3 (by decide) (hg _ k261) (fun _ h9 => h9) rfl (o_RC 3 (by decide)) rfl rfl (Nat.le_of_ble_eq_true rfl) d_RC_begin_7 (fun H locs hP hD hS => ?_)
  have hPD : my_PD (dC, dI) vwCl A ([(rc, Sum.inr (6, [Value.ref co, Value.ref ma, Value.int (nI ms.length), Value.int 0, Value.int fen, Value.int frd, Value.int fbd, Value.int fir])), (ma, Sum.inl (cM, 8, Sum.inr (Sum.inr (Sum.inr (Sum.inr mf))))), (co, Sum.inr (5, [Value.long xx, Value.long xreadX, Value.ref soa, Value.ref sna, Value.ref swa, Value.int xkept, Value.ref ri, Value.ref ro, Value.ref rw, Value.int xasked]))] ++ mbsC cI ms) H := ⟨hP, hD⟩
  have hP := hPD.1
  have hD := hPD.2
  refine lv_aload_n hx hb d_RC_begin_10 rfl (lv_at hl 1 rfl) ?_
  refine lv_iconst (v := 0) hx hb d_RC_begin_11 (by decide) ?_
  refine va_put (D := (dC, dI)) (ci := 6) (v := .int 0) (ty := .boolean) (C := "RangeCoders") (T := T_RC) (N := 8) hx hb hg in_RC t_RC o_RC n_RC hown hK hP hD hS 0 rfl rfl 4 (by decide) (hg _ k262) (fun _ h9 => h9) rfl (o_RC 4 (by decide)) rfl rfl (Nat.le_of_ble_eq_true rfl) d_RC_begin_12 (fun H locs hP hD hS => ?_)
  have hPD : my_PD (dC, dI) vwCl A ([(rc, Sum.inr (6, [Value.ref co, Value.ref ma, Value.int (nI ms.length), Value.int 0, Value.int 0, Value.int frd, Value.int fbd, Value.int fir])), (ma, Sum.inl (cM, 8, Sum.inr (Sum.inr (Sum.inr (Sum.inr mf))))), (co, Sum.inr (5, [Value.long xx, Value.long xreadX, Value.ref soa, Value.ref sna, Value.ref swa, Value.int xkept, Value.ref ri, Value.ref ro, Value.ref rw, Value.int xasked]))] ++ mbsC cI ms) H := ⟨hP, hD⟩
  have hP := hPD.1
  have hD := hPD.2
  refine lv_aload_n hx hb d_RC_begin_15 rfl (lv_at hl 1 rfl) ?_
  refine va_get (D := (dC, dI)) (ci := 6) (v := .ref co) (C := "RangeCoders") (T := T_RC) (N := 8) hx hb hg in_RC hown hK hP 0 rfl rfl 0 (by decide) (hg _ k258) (fun _ h9 => h9) rfl d_RC_begin_16 ?_
  refine my_cvt (wr := [(rc, Sum.inr (6, [Value.ref co, Value.ref ma, Value.int (nI ms.length), Value.int 0, Value.int 0, Value.int frd, Value.int fbd, Value.int fir])), (ma, Sum.inl (cM, 8, Sum.inr (Sum.inr (Sum.inr (Sum.inr mf)))))]) (va_runU (As := []) (rest := []) ⟨hx, hb, hml, hown, hts⟩ (f_Table_open l dC dI cI cM cO H.size co xx xreadX soa sna swa xkept ri ro rw xasked) (va_cwA 0 hts (my_gU k683 k685 k698 k696 k9 k697) rfl rfl rfl (hN.1 _ j684 rfl) (by decide +kernel) ⟨by rw [hR]; exact Nat.le_of_ble_eq_true rfl, by rw [hR]; exact Nat.le_of_ble_eq_true rfl⟩) (my_preV hK hN (my_subU hP [2] rfl) (my_dubT hD [2] (by decide +kernel) rfl) 0 rfl rfl) rfl rfl hl.1 rfl (lv_room (Nat.le_of_ble_eq_true rfl)) d_RC_begin_19 ⟨by rw [hR]; exact Nat.le_of_ble_eq_true rfl, by rw [hR]; exact Nat.le_of_ble_eq_true rfl⟩) hP hD hS hA [2] [0, 1] rfl rfl (by decide +kernel) (by decide +kernel) (fun u9 H locs hw_19 hP hD hS => ?_)
  have hPD : my_PD (dC, dI) vwCl A ([(rc, Sum.inr (6, [Value.ref co, Value.ref ma, Value.int (nI ms.length), Value.int 0, Value.int 0, Value.int frd, Value.int fbd, Value.int fir])), (ma, Sum.inl (cM, 8, Sum.inr (Sum.inr (Sum.inr (Sum.inr mf))))), (co, Sum.inr (5, [Value.long xx, Value.long xreadX, Value.ref soa, Value.ref sna, Value.ref swa, Value.int 0, Value.ref ri, Value.ref ro, Value.ref rw, Value.int xasked]))] ++ mbsC cI ms) H := ⟨hP, hD⟩
  have hP := hPD.1
  have hD := hPD.2
  refine lv_aload_n hx hb d_RC_begin_22 rfl (lv_at hl 1 rfl) ?_
  refine va_get (D := (dC, dI)) (ci := 6) (v := .ref ma) (C := "RangeCoders") (T := T_RC) (N := 8) hx hb hg in_RC hown hK hP 0 rfl rfl 1 (by decide) (hg _ k259) (fun _ h9 => h9) rfl d_RC_begin_23 ?_
  refine lv_astore_n (lv' := [(2, Value.ref ma), (1, Value.int fit), (0, Value.ref rc)]) hx hb d_RC_begin_26 rfl hl (by decide) rfl (fun ls hl => ?_)
  refine lv_aload_n hx hb d_RC_begin_27 rfl (lv_at hl 0 rfl) ?_
  refine va_alen hx hb hK hP 1 1 rfl rfl (v := nI 8) rfl d_RC_begin_28 ?_
  refine lv_istore_n (lv' := [(3, Value.int (nI 8)), (2, Value.ref ma), (1, Value.int fit), (0, Value.ref rc)]) hx hb d_RC_begin_29 rfl hl (by decide) rfl (fun ls hl => ?_)
  refine lv_iconst (v := 0) hx hb d_RC_begin_30 (by decide) ?_
  refine lv_istore (lv' := [(4, Value.int 0), (3, Value.int (nI 8)), (2, Value.ref ma), (1, Value.int fit), (0, Value.ref rc)]) hx hb d_RC_begin_31 hl (by decide) rfl (fun ls hl => ?_)
  have J_33 : ∀ (n9_33 : Nat) (i9 : Int32) (ii : Nat) (ms9 : List MB) (hn9_33 : 8 - ii = n9_33) (hi9 : i9 = nI ii) (hii : ii ≤ 8) (hma : ms9.map mbA = ms.map mbA) (hmo : ∀ x ∈ ms9, mbOk x) (hbg : bgI nw_Table ms ms9 ii) (hlm : ms.length = ms9.length) (H : Heap) (locs : List Loc) (ls : Array Slot), va_P (dC, dI) vwCl ([(rc, Sum.inr (6, [Value.ref co, Value.ref ma, Value.int (nI ms.length), Value.int 0, Value.int 0, Value.int frd, Value.int fbd, Value.int fir])), (ma, Sum.inl (cM, 8, Sum.inr (Sum.inr (Sum.inr (Sum.inr mf))))), (co, Sum.inr (5, [Value.long xx, Value.long xreadX, Value.ref soa, Value.ref sna, Value.ref swa, Value.int 0, Value.ref ri, Value.ref ro, Value.ref rw, Value.int xasked]))] ++ mbsC cI ms9) H → va_D A ([(rc, Sum.inr (6, [Value.ref co, Value.ref ma, Value.int (nI ms.length), Value.int 0, Value.int 0, Value.int frd, Value.int fbd, Value.int fir])), (ma, Sum.inl (cM, 8, Sum.inr (Sum.inr (Sum.inr (Sum.inr mf))))), (co, Sum.inr (5, [Value.long xx, Value.long xreadX, Value.ref soa, Value.ref sna, Value.ref swa, Value.int 0, Value.ref ri, Value.ref ro, Value.ref rw, Value.int xasked]))] ++ mbsC cI ms9) → va_S A s.heap H locs → lv_has ls 6 [(4, Value.int i9), (3, Value.int (nI 8)), (2, Value.ref ma), (1, Value.int fit), (0, Value.ref rc)] → W p l e R s m args below meth c H locs 0 0 Q (F0 m 33 ls []) := by
    intro n9_33
    induction n9_33 using Nat.strongRecOn with
    | ind n9_33 ih9_33 =>
      intro i9 ii ms9 hn9_33 hi9 hii hma hmo hbg hlm H locs ls hP hD hS hl
      refine lv_iload hx hb d_RC_begin_33 (lv_at hl 0 rfl) ?_
      refine lv_iload_n hx hb d_RC_begin_35 rfl (lv_at hl 1 rfl) ?_
      refine lv_icmp_ge (tgt := 73) hx hb d_RC_begin_36 (by decide) (fun c_1 => ?_) (fun c_1 => ?_)
      · refine lv_iload_n hx hb d_RC_begin_73 rfl (lv_at hl 3 rfl) ?_
        exact my_iret (v := fit) hx hb hr (rfl) hlocks hQ hK hS (Nat.le_refl _) (Nat.le_refl _) (ms9) (⟨hma, hmo, bg_e (by rw [show (8 : Nat) = ii by have := nI_ge' (n := 8) (j := ii) (by omega) (by decide) (by rw [← hi9]; assumption); omega]; exact hbg) hk8, hlm, rfl⟩) (hP.part [0, 1, 2] rfl) (hD.part [0, 1, 2] (by decide +kernel) rfl) d_RC_begin_74
      · refine lv_aload_n hx hb d_RC_begin_39 rfl (lv_at hl 2 rfl) ?_
        refine lv_iload hx hb d_RC_begin_40 (lv_at hl 0 rfl) ?_
        have hi8 : ii < 8 := by
          rcases Nat.lt_or_ge ii 8 with z | z
          · exact z
          · exact absurd (by rw [hi9]; exact nI_le (a := 8) z (by omega)) c_1
        refine va_aldq hx hb hK hP 1 1 rfl rfl (by rw [hi9]; exact vp_in_nI hi8 (by decide)) d_RC_begin_42 ?_
        rcases hq_a_2 : mf i9.toNatClampNeg with _ | a_2
        · refine W.eq (g2 := F0 m 43 ls [Value.null]) rfl ?_
          have hmf9 := mf_keep hmf hma
          have hnil : ms.length ≤ ii := by
            rcases Nat.lt_or_ge ii ms9.length with z | z
            · obtain ⟨a9, x9, b9, e9, hla⟩ := mb_at z
              subst e9
              rw [hi9, nI_clamp (by omega), ← hla, mf_some hmf9 (by omega)] at hq_a_2; cases hq_a_2
            · rw [hlm]; exact z
          refine lv_astoreN (lv' := [(5, Value.null), (4, Value.int i9), (3, Value.int (nI 8)), (2, Value.ref ma), (1, Value.int fit), (0, Value.ref rc)]) hx hb d_RC_begin_43 hl (by decide) rfl (fun ls hl => ?_)
          refine lv_aloadN hx hb d_RC_begin_45 (lv_at hl 0 rfl) ?_
          refine lv_ifnullN (tgt := 67) hx hb d_RC_begin_47 (by decide) ?_
          obtain ⟨v_3, ev_3⟩ : ∃ y : Int32, y = i9 + (1) := ⟨_, rfl⟩
          refine lv_iinc (v := v_3) (lv' := [(4, Value.int v_3), (5, Value.null), (3, Value.int (nI 8)), (2, Value.ref ma), (1, Value.int fit), (0, Value.ref rc)]) hx hb d_RC_begin_67 hl (k := 1) rfl (by rw [ev_3]; rfl) (by decide) rfl (fun ls hl => ?_)
          refine lv_goto (tgt := 33) hx hb d_RC_begin_70 (by decide) ?_
          exact ih9_33 _ (by first | omega | (omega)) v_3 (ii + 1) ms9 rfl (by rw [ev_3, hi9]; exact nI_1 _) (by omega) (by assumption) (by assumption) (bg_no hbg (by rw [← hlm]; exact hnil)) (hlm) H locs ls (hP.part [0, 1, 2] rfl) (hD.part [0, 1, 2] (by decide +kernel) rfl) hS (lv_sub hl [0, 2, 3, 4, 5] rfl)
        · refine W.eq (g2 := F0 m 43 ls [Value.ref a_2]) rfl ?_
          have hmf9 := mf_keep hmf hma
          have hil : ii < ms9.length := by
            rcases Nat.lt_or_ge ii ms9.length with z | z
            · exact z
            · rw [hi9, nI_clamp (by omega), mf_none hmf9 hi8 z] at hq_a_2; cases hq_a_2
          obtain ⟨a9, x9, b9, e9, hla⟩ := mb_at hil
          subst e9
          obtain ⟨mo9, ka9, kl9, kf9, ⟨oo9, osg9, osm9, ofc9, oca9, opa9, ol9, ocf9, opl9, opf9⟩, ⟨pp9, psg9, psm9, pfc9, pca9, ppa9, pl9, pcf9, ppl9, ppf9⟩⟩ := x9
          have hax : a_2 = mo9 := by
            rw [hi9, nI_clamp (by omega), ← hla, mf_some hmf9 (by omega)] at hq_a_2
            exact (Option.some.inj hq_a_2).symm
          subst hax
          obtain ⟨hk64, ⟨ho1, ho2, ho3⟩, ⟨hp1, hp2, hp3⟩⟩ := ok_mid hmo
          have hP := pm_P hP (mb_out cI [(rc, Sum.inr (6, [Value.ref co, Value.ref ma, Value.int (nI ms.length), Value.int 0, Value.int 0, Value.int frd, Value.int fbd, Value.int fir])), (ma, Sum.inl (cM, 8, Sum.inr (Sum.inr (Sum.inr (Sum.inr mf))))), (co, Sum.inr (5, [Value.long xx, Value.long xreadX, Value.ref soa, Value.ref sna, Value.ref swa, Value.int 0, Value.ref ri, Value.ref ro, Value.ref rw, Value.int xasked]))] a9 b9 (a_2, ka9, kl9, kf9, (oo9, osg9, osm9, ofc9, oca9, opa9, ol9, ocf9, opl9, opf9), (pp9, psg9, psm9, pfc9, pca9, ppa9, pl9, pcf9, ppl9, ppf9)))
          have hD := pm_D hD (mb_out cI [(rc, Sum.inr (6, [Value.ref co, Value.ref ma, Value.int (nI ms.length), Value.int 0, Value.int 0, Value.int frd, Value.int fbd, Value.int fir])), (ma, Sum.inl (cM, 8, Sum.inr (Sum.inr (Sum.inr (Sum.inr mf))))), (co, Sum.inr (5, [Value.long xx, Value.long xreadX, Value.ref soa, Value.ref sna, Value.ref swa, Value.int 0, Value.ref ri, Value.ref ro, Value.ref rw, Value.int xasked]))] a9 b9 (a_2, ka9, kl9, kf9, (oo9, osg9, osm9, ofc9, oca9, opa9, ol9, ocf9, opl9, opf9), (pp9, psg9, psm9, pfc9, pca9, ppa9, pl9, pcf9, ppl9, ppf9)))
          have hPD : my_PD (dC, dI) vwCl A ([(rc, Sum.inr (6, [Value.ref co, Value.ref ma, Value.int (nI ms.length), Value.int 0, Value.int 0, Value.int frd, Value.int fbd, Value.int fir])), (ma, Sum.inl (cM, 8, Sum.inr (Sum.inr (Sum.inr (Sum.inr mf))))), (co, Sum.inr (5, [Value.long xx, Value.long xreadX, Value.ref soa, Value.ref sna, Value.ref swa, Value.int 0, Value.ref ri, Value.ref ro, Value.ref rw, Value.int xasked])), (a_2, Sum.inr (8, [Value.ref ka9, Value.ref oo9, Value.ref pp9])), (ka9, Sum.inl (cI, kl9, Sum.inl kf9)), (oo9, Sum.inr (7, [Value.int osg9, Value.int osm9, Value.int ofc9, Value.ref oca9, Value.ref opa9])), (oca9, Sum.inl (cI, ol9, Sum.inl ocf9)), (opa9, Sum.inl (cI, opl9, Sum.inl opf9)), (pp9, Sum.inr (7, [Value.int psg9, Value.int psm9, Value.int pfc9, Value.ref pca9, Value.ref ppa9])), (pca9, Sum.inl (cI, pl9, Sum.inl pcf9)), (ppa9, Sum.inl (cI, ppl9, Sum.inl ppf9))] ++ (mbsC cI a9 ++ mbsC cI b9)) H := ⟨hP, hD⟩
          have hP := hPD.1
          have hD := hPD.2
          rw [← hla] at hbg
          obtain ⟨hx1, hx2, ⟨hx3, hx4, hx5, hx6⟩, hx7, hx8⟩ := hms ((a_2, ka9, kl9, kf9, (oo9, osg9, osm9, ofc9, oca9, opa9, ol9, ocf9, opl9, opf9), (pp9, psg9, psm9, pfc9, pca9, ppa9, pl9, pcf9, ppl9, ppf9)) : MB) (List.mem_of_getElem? (bg_x hbg hlm))
          have hx3 : osg9 = nI kl9 := hx3
          skip
          subst hx3
          have hx4 : ofc9 = 0 := hx4
          skip
          subst hx4
          have hx5 : ol9 = kl9 := hx5
          have hx5 := hx5.symm
          subst hx5
          have hx6 : opl9 = 512 := hx6
          skip
          subst hx6
          have hPD : my_PD (dC, dI) vwCl A ([(rc, Sum.inr (6, [Value.ref co, Value.ref ma, Value.int (nI ms.length), Value.int 0, Value.int 0, Value.int frd, Value.int fbd, Value.int fir])), (ma, Sum.inl (cM, 8, Sum.inr (Sum.inr (Sum.inr (Sum.inr mf))))), (co, Sum.inr (5, [Value.long xx, Value.long xreadX, Value.ref soa, Value.ref sna, Value.ref swa, Value.int 0, Value.ref ri, Value.ref ro, Value.ref rw, Value.int xasked])), (a_2, Sum.inr (8, [Value.ref ka9, Value.ref oo9, Value.ref pp9])), (ka9, Sum.inl (cI, kl9, Sum.inl kf9)), (oo9, Sum.inr (7, [Value.int (nI kl9), Value.int osm9, Value.int 0, Value.ref oca9, Value.ref opa9])), (oca9, Sum.inl (cI, kl9, Sum.inl ocf9)), (opa9, Sum.inl (cI, 512, Sum.inl opf9)), (pp9, Sum.inr (7, [Value.int psg9, Value.int psm9, Value.int pfc9, Value.ref pca9, Value.ref ppa9])), (pca9, Sum.inl (cI, pl9, Sum.inl pcf9)), (ppa9, Sum.inl (cI, ppl9, Sum.inl ppf9))] ++ (mbsC cI a9 ++ mbsC cI b9)) H := ⟨hP, hD⟩
          have hP := hPD.1
          have hD := hPD.2
          refine lv_astore (lv' := [(5, Value.ref a_2), (4, Value.int i9), (3, Value.int (nI 8)), (2, Value.ref ma), (1, Value.int fit), (0, Value.ref rc)]) hx hb d_RC_begin_43 hl (by decide) rfl (fun ls hl => ?_)
          refine lv_aload hx hb d_RC_begin_45 (lv_at hl 0 rfl) ?_
          refine lv_ifnull hx hb d_RC_begin_47 ?_
          refine lv_aload_n hx hb d_RC_begin_50 rfl (lv_at hl 5 rfl) ?_
          refine va_get (D := (dC, dI)) (ci := 6) (v := .ref co) (C := "RangeCoders") (T := T_RC) (N := 8) hx hb hg in_RC hown hK hP 0 rfl rfl 0 (by decide) (hg _ k258) (fun _ h9 => h9) rfl d_RC_begin_51 ?_
          refine lv_aload hx hb d_RC_begin_54 (lv_at hl 0 rfl) ?_
          refine va_get (D := (dC, dI)) (ci := 8) (v := .ref oo9) (C := "RangeCoders$Model") (T := T_Model) (N := 3) hx hb hg in_Model hown hK hP 3 rfl rfl 1 (by decide) (hg _ k343) (fun _ h9 => h9) rfl d_RC_begin_56 ?_
          refine lv_aload hx hb d_RC_begin_59 (lv_at hl 0 rfl) ?_
          refine va_get (D := (dC, dI)) (ci := 8) (v := .ref ka9) (C := "RangeCoders$Model") (T := T_Model) (N := 3) hx hb hg in_Model hown hK hP 3 rfl rfl 0 (by decide) (hg _ k341) (fun _ h9 => h9) rfl d_RC_begin_61 ?_
          refine my_cvt (wr := [(rc, Sum.inr (6, [Value.ref co, Value.ref ma, Value.int (nI ms.length), Value.int 0, Value.int 0, Value.int frd, Value.int fbd, Value.int fir])), (ma, Sum.inl (cM, 8, Sum.inr (Sum.inr (Sum.inr (Sum.inr mf))))), (a_2, Sum.inr (8, [Value.ref ka9, Value.ref oo9, Value.ref pp9])), (pp9, Sum.inr (7, [Value.int psg9, Value.int psm9, Value.int pfc9, Value.ref pca9, Value.ref ppa9])), (pca9, Sum.inl (cI, pl9, Sum.inl pcf9)), (ppa9, Sum.inl (cI, ppl9, Sum.inl ppf9))]) (va_runU (As := [Value.ref oo9, Value.ref ka9]) (rest := []) ⟨hx, hb, hml, hown, hts⟩ (f_Table_prepare l dC dI cI cM cO H.size co xx xreadX soa sna swa 0 ri ro rw xasked oo9 (nI kl9) 0 oca9 opa9 kl9 ocf9 opf9 osm9 ka9 kf9 (Cx ((a_2, ka9, kl9, kf9, (oo9, nI kl9, osm9, 0, oca9, opa9, kl9, ocf9, 512, opf9), (pp9, psg9, psm9, pfc9, pca9, ppa9, pl9, pcf9, ppl9, ppf9)) : MB)) (hx2) (hx7) (hx8) (Nat.le_of_succ_le hx1) (rfl)) (va_cwA 2 hts (my_gU k353 k355 k400 k401 k11 k402) rfl rfl rfl (hN.1 _ j354 rfl) (by decide +kernel) ⟨by rw [hR]; exact Nat.le_of_ble_eq_true rfl, by rw [hR]; exact Nat.le_of_ble_eq_true rfl⟩) (my_preV hK hN (my_subU hP [2, 5, 6, 7, 4] rfl) (my_dubT hD [2, 5, 6, 7, 4] (by decide +kernel) rfl) 0 rfl rfl) rfl rfl hl.1 rfl (lv_room (Nat.le_of_ble_eq_true rfl)) d_RC_begin_64 ⟨by rw [hR]; exact Nat.le_of_ble_eq_true rfl, by rw [hR]; exact Nat.le_of_ble_eq_true rfl⟩) hP hD hS hA [2, 5, 6, 7, 4] [0, 1, 3, 8, 9, 10] rfl rfl (by decide +kernel) (by decide +kernel) (fun u9 H locs hw_64 hP hD hS => ?_)
          obtain ⟨ocfq_64, opfq_64⟩ := u9
          obtain ⟨hf_64, hl_64⟩ : tbI ocfq_64 kl9 (sc kl9 512 (Cx ((a_2, ka9, kl9, kf9, (oo9, nI kl9, osm9, 0, oca9, opa9, kl9, ocf9, 512, opf9), (pp9, psg9, psm9, pfc9, pca9, ppa9, pl9, pcf9, ppl9, ppf9)) : MB))) ∧ layt opfq_64 (sc kl9 512 (Cx ((a_2, ka9, kl9, kf9, (oo9, nI kl9, osm9, 0, oca9, opa9, kl9, ocf9, 512, opf9), (pp9, psg9, psm9, pfc9, pca9, ppa9, pl9, pcf9, ppl9, ppf9)) : MB))) kl9 (ns (sc kl9 512 (Cx ((a_2, ka9, kl9, kf9, (oo9, nI kl9, osm9, 0, oca9, opa9, kl9, ocf9, 512, opf9), (pp9, psg9, psm9, pfc9, pca9, ppa9, pl9, pcf9, ppl9, ppf9)) : MB))) kl9) := hw_64
          have hPD : my_PD (dC, dI) vwCl A ([(rc, Sum.inr (6, [Value.ref co, Value.ref ma, Value.int (nI ms.length), Value.int 0, Value.int 0, Value.int frd, Value.int fbd, Value.int fir])), (ma, Sum.inl (cM, 8, Sum.inr (Sum.inr (Sum.inr (Sum.inr mf))))), (a_2, Sum.inr (8, [Value.ref ka9, Value.ref oo9, Value.ref pp9])), (pp9, Sum.inr (7, [Value.int psg9, Value.int psm9, Value.int pfc9, Value.ref pca9, Value.ref ppa9])), (pca9, Sum.inl (cI, pl9, Sum.inl pcf9)), (ppa9, Sum.inl (cI, ppl9, Sum.inl ppf9)), (co, Sum.inr (5, [Value.long xx, Value.long xreadX, Value.ref soa, Value.ref sna, Value.ref swa, Value.int 0, Value.ref ri, Value.ref ro, Value.ref rw, Value.int xasked])), (oo9, Sum.inr (7, [Value.int (nI kl9), Value.int (nI (ns (sc kl9 512 (Cx ((a_2, ka9, kl9, kf9, (oo9, nI kl9, osm9, 0, oca9, opa9, kl9, ocf9, 512, opf9), (pp9, psg9, psm9, pfc9, pca9, ppa9, pl9, pcf9, ppl9, ppf9)) : MB))) kl9)), Value.int 0, Value.ref oca9, Value.ref opa9])), (oca9, Sum.inl (cI, kl9, Sum.inl ocfq_64)), (opa9, Sum.inl (cI, 512, Sum.inl opfq_64)), (ka9, Sum.inl (cI, kl9, Sum.inl kf9))] ++ (mbsC cI a9 ++ mbsC cI b9)) H := ⟨hP, hD⟩
          have hP := hPD.1
          have hD := hPD.2
          have hP := pm_P (hP.part [0, 1, 6, 2, 10, 7, 8, 9, 3, 4, 5] rfl : va_P (dC, dI) vwCl ([(rc, Sum.inr (6, [Value.ref co, Value.ref ma, Value.int (nI ms.length), Value.int 0, Value.int 0, Value.int frd, Value.int fbd, Value.int fir])), (ma, Sum.inl (cM, 8, Sum.inr (Sum.inr (Sum.inr (Sum.inr mf))))), (co, Sum.inr (5, [Value.long xx, Value.long xreadX, Value.ref soa, Value.ref sna, Value.ref swa, Value.int 0, Value.ref ri, Value.ref ro, Value.ref rw, Value.int xasked])), (a_2, Sum.inr (8, [Value.ref ka9, Value.ref oo9, Value.ref pp9])), (ka9, Sum.inl (cI, kl9, Sum.inl kf9)), (oo9, Sum.inr (7, [Value.int (nI kl9), Value.int (nI (ns (sc kl9 512 (Cx ((a_2, ka9, kl9, kf9, (oo9, nI kl9, osm9, 0, oca9, opa9, kl9, ocf9, 512, opf9), (pp9, psg9, psm9, pfc9, pca9, ppa9, pl9, pcf9, ppl9, ppf9)) : MB))) kl9)), Value.int 0, Value.ref oca9, Value.ref opa9])), (oca9, Sum.inl (cI, kl9, Sum.inl ocfq_64)), (opa9, Sum.inl (cI, 512, Sum.inl opfq_64)), (pp9, Sum.inr (7, [Value.int psg9, Value.int psm9, Value.int pfc9, Value.ref pca9, Value.ref ppa9])), (pca9, Sum.inl (cI, pl9, Sum.inl pcf9)), (ppa9, Sum.inl (cI, ppl9, Sum.inl ppf9))] ++ (mbsC cI a9 ++ mbsC cI b9)) H) (mb_out cI [(rc, Sum.inr (6, [Value.ref co, Value.ref ma, Value.int (nI ms.length), Value.int 0, Value.int 0, Value.int frd, Value.int fbd, Value.int fir])), (ma, Sum.inl (cM, 8, Sum.inr (Sum.inr (Sum.inr (Sum.inr mf))))), (co, Sum.inr (5, [Value.long xx, Value.long xreadX, Value.ref soa, Value.ref sna, Value.ref swa, Value.int 0, Value.ref ri, Value.ref ro, Value.ref rw, Value.int xasked]))] a9 b9 ((a_2, ka9, kl9, kf9, (oo9, (nI kl9), (nI (ns (sc kl9 512 (Cx ((a_2, ka9, kl9, kf9, (oo9, nI kl9, osm9, 0, oca9, opa9, kl9, ocf9, 512, opf9), (pp9, psg9, psm9, pfc9, pca9, ppa9, pl9, pcf9, ppl9, ppf9)) : MB))) kl9)), 0, oca9, opa9, kl9, ocfq_64, 512, opfq_64), (pp9, psg9, psm9, pfc9, pca9, ppa9, pl9, pcf9, ppl9, ppf9)) : MB)).symm
          have hD := pm_D (hD.part [0, 1, 6, 2, 10, 7, 8, 9, 3, 4, 5] (by decide +kernel) rfl : va_D A ([(rc, Sum.inr (6, [Value.ref co, Value.ref ma, Value.int (nI ms.length), Value.int 0, Value.int 0, Value.int frd, Value.int fbd, Value.int fir])), (ma, Sum.inl (cM, 8, Sum.inr (Sum.inr (Sum.inr (Sum.inr mf))))), (co, Sum.inr (5, [Value.long xx, Value.long xreadX, Value.ref soa, Value.ref sna, Value.ref swa, Value.int 0, Value.ref ri, Value.ref ro, Value.ref rw, Value.int xasked])), (a_2, Sum.inr (8, [Value.ref ka9, Value.ref oo9, Value.ref pp9])), (ka9, Sum.inl (cI, kl9, Sum.inl kf9)), (oo9, Sum.inr (7, [Value.int (nI kl9), Value.int (nI (ns (sc kl9 512 (Cx ((a_2, ka9, kl9, kf9, (oo9, nI kl9, osm9, 0, oca9, opa9, kl9, ocf9, 512, opf9), (pp9, psg9, psm9, pfc9, pca9, ppa9, pl9, pcf9, ppl9, ppf9)) : MB))) kl9)), Value.int 0, Value.ref oca9, Value.ref opa9])), (oca9, Sum.inl (cI, kl9, Sum.inl ocfq_64)), (opa9, Sum.inl (cI, 512, Sum.inl opfq_64)), (pp9, Sum.inr (7, [Value.int psg9, Value.int psm9, Value.int pfc9, Value.ref pca9, Value.ref ppa9])), (pca9, Sum.inl (cI, pl9, Sum.inl pcf9)), (ppa9, Sum.inl (cI, ppl9, Sum.inl ppf9))] ++ (mbsC cI a9 ++ mbsC cI b9))) (mb_out cI [(rc, Sum.inr (6, [Value.ref co, Value.ref ma, Value.int (nI ms.length), Value.int 0, Value.int 0, Value.int frd, Value.int fbd, Value.int fir])), (ma, Sum.inl (cM, 8, Sum.inr (Sum.inr (Sum.inr (Sum.inr mf))))), (co, Sum.inr (5, [Value.long xx, Value.long xreadX, Value.ref soa, Value.ref sna, Value.ref swa, Value.int 0, Value.ref ri, Value.ref ro, Value.ref rw, Value.int xasked]))] a9 b9 ((a_2, ka9, kl9, kf9, (oo9, (nI kl9), (nI (ns (sc kl9 512 (Cx ((a_2, ka9, kl9, kf9, (oo9, nI kl9, osm9, 0, oca9, opa9, kl9, ocf9, 512, opf9), (pp9, psg9, psm9, pfc9, pca9, ppa9, pl9, pcf9, ppl9, ppf9)) : MB))) kl9)), 0, oca9, opa9, kl9, ocfq_64, 512, opfq_64), (pp9, psg9, psm9, pfc9, pca9, ppa9, pl9, pcf9, ppl9, ppf9)) : MB)).symm
          have hma2 : (a9 ++ ((a_2, ka9, kl9, kf9, (oo9, (nI kl9), (nI (ns (sc kl9 512 (Cx ((a_2, ka9, kl9, kf9, (oo9, nI kl9, osm9, 0, oca9, opa9, kl9, ocf9, 512, opf9), (pp9, psg9, psm9, pfc9, pca9, ppa9, pl9, pcf9, ppl9, ppf9)) : MB))) kl9)), 0, oca9, opa9, kl9, ocfq_64, 512, opfq_64), (pp9, psg9, psm9, pfc9, pca9, ppa9, pl9, pcf9, ppl9, ppf9)) : MB) :: b9).map mbA = ms.map mbA := by refine (mb_set (f := mbA) ?_).trans hma; rfl
          have hmo2 : ∀ x ∈ a9 ++ ((a_2, ka9, kl9, kf9, (oo9, (nI kl9), (nI (ns (sc kl9 512 (Cx ((a_2, ka9, kl9, kf9, (oo9, nI kl9, osm9, 0, oca9, opa9, kl9, ocf9, 512, opf9), (pp9, psg9, psm9, pfc9, pca9, ppa9, pl9, pcf9, ppl9, ppf9)) : MB))) kl9)), 0, oca9, opa9, kl9, ocfq_64, 512, opfq_64), (pp9, psg9, psm9, pfc9, pca9, ppa9, pl9, pcf9, ppl9, ppf9)) : MB) :: b9, mbOk x := ok_set hmo ⟨hk64, ⟨ho1, ho2, ho3⟩, ⟨hp1, hp2, hp3⟩⟩
          have hPD : my_PD (dC, dI) vwCl A ([(rc, Sum.inr (6, [Value.ref co, Value.ref ma, Value.int (nI ms.length), Value.int 0, Value.int 0, Value.int frd, Value.int fbd, Value.int fir])), (ma, Sum.inl (cM, 8, Sum.inr (Sum.inr (Sum.inr (Sum.inr mf))))), (co, Sum.inr (5, [Value.long xx, Value.long xreadX, Value.ref soa, Value.ref sna, Value.ref swa, Value.int 0, Value.ref ri, Value.ref ro, Value.ref rw, Value.int xasked]))] ++ mbsC cI (a9 ++ ((a_2, ka9, kl9, kf9, (oo9, (nI kl9), (nI (ns (sc kl9 512 (Cx ((a_2, ka9, kl9, kf9, (oo9, nI kl9, osm9, 0, oca9, opa9, kl9, ocf9, 512, opf9), (pp9, psg9, psm9, pfc9, pca9, ppa9, pl9, pcf9, ppl9, ppf9)) : MB))) kl9)), 0, oca9, opa9, kl9, ocfq_64, 512, opfq_64), (pp9, psg9, psm9, pfc9, pca9, ppa9, pl9, pcf9, ppl9, ppf9)) : MB) :: b9)) H := ⟨hP, hD⟩
          have hP := hPD.1
          have hD := hPD.2
          have hbg2 : bgI nw_Table ms (a9 ++ ((a_2, ka9, kl9, kf9, (oo9, (nI kl9), (nI (ns (sc kl9 512 (Cx ((a_2, ka9, kl9, kf9, (oo9, nI kl9, osm9, 0, oca9, opa9, kl9, ocf9, 512, opf9), (pp9, psg9, psm9, pfc9, pca9, ppa9, pl9, pcf9, ppl9, ppf9)) : MB))) kl9)), 0, oca9, opa9, kl9, ocfq_64, 512, opfq_64), (pp9, psg9, psm9, pfc9, pca9, ppa9, pl9, pcf9, ppl9, ppf9)) : MB) :: b9) (a9.length + 1) := bg_st hbg hlm ⟨rfl, rfl, rfl, ⟨rfl, rfl, rfl, rfl⟩, ⟨hf_64, rfl, hl_64⟩⟩
          rw [hla] at hbg2
          have hlm2 : ms.length = (a9 ++ ((a_2, ka9, kl9, kf9, (oo9, (nI kl9), (nI (ns (sc kl9 512 (Cx ((a_2, ka9, kl9, kf9, (oo9, nI kl9, osm9, 0, oca9, opa9, kl9, ocf9, 512, opf9), (pp9, psg9, psm9, pfc9, pca9, ppa9, pl9, pcf9, ppl9, ppf9)) : MB))) kl9)), 0, oca9, opa9, kl9, ocfq_64, 512, opfq_64), (pp9, psg9, psm9, pfc9, pca9, ppa9, pl9, pcf9, ppl9, ppf9)) : MB) :: b9).length := by rw [hlm, List.length_append, List.length_append]; rfl
          obtain ⟨v_4, ev_4⟩ : ∃ y : Int32, y = i9 + (1) := ⟨_, rfl⟩
          refine lv_iinc (v := v_4) (lv' := [(4, Value.int v_4), (5, Value.ref a_2), (3, Value.int (nI 8)), (2, Value.ref ma), (1, Value.int fit), (0, Value.ref rc)]) hx hb d_RC_begin_67 hl (k := 1) rfl (by rw [ev_4]; rfl) (by decide) rfl (fun ls hl => ?_)
          refine lv_goto (tgt := 33) hx hb d_RC_begin_70 (by decide) ?_
          exact ih9_33 _ (by first | omega | (omega)) v_4 (ii + 1) (a9 ++ ((a_2, ka9, kl9, kf9, (oo9, (nI kl9), (nI (ns (sc kl9 512 (Cx ((a_2, ka9, kl9, kf9, (oo9, nI kl9, osm9, 0, oca9, opa9, kl9, ocf9, 512, opf9), (pp9, psg9, psm9, pfc9, pca9, ppa9, pl9, pcf9, ppl9, ppf9)) : MB))) kl9)), 0, oca9, opa9, kl9, ocfq_64, 512, opfq_64), (pp9, psg9, psm9, pfc9, pca9, ppa9, pl9, pcf9, ppl9, ppf9)) : MB) :: b9) rfl (by rw [ev_4, hi9]; exact nI_1 _) (by omega) (hma2) (hmo2) (hbg2) (hlm2) H locs ls (hP.part [0, 1, 2] rfl) (hD.part [0, 1, 2] (by decide +kernel) rfl) hS (lv_sub hl [0, 2, 3, 4, 5] rfl)
  exact J_33 _ (0 : Int32) (0 : Nat) ms rfl (rfl) (by omega) (rfl) (hmk) (bg_0 ms) (rfl) H locs ls (hP.part [0, 1, 2] rfl) (hD.part [0, 1, 2] (by decide +kernel) rfl) hS (lv_sub hl [0, 1, 2, 3, 4] rfl)
set_option maxHeartbeats 2000000 in
set_option maxRecDepth 100000 in
theorem f_RC_read_Table (l : Launch) (dC : Nat → ClassId) (dI : Nat → Nat → Nat) (cI cM cO : ClassId) (sz : Nat) (rc : Nat) (ma : Nat) (fit : Int32) (fen : Int32) (frd : Int32) (fbd : Int32) (fir : Int32) (mf : Nat → Option Nat) (co : Nat) (xx : Int64) (xreadX : Int64) (soa : Nat) (sna : Nat) (swa : Nat) (xkept : Int32) (ri : Nat) (ro : Nat) (rw : Nat) (xasked : Int32) (rin : Int32) (ria : Nat) (rik : Nat) (rif : Nat → Int32) (ms : List MB) (hk8 : ms.length ≤ 8) (hri : rOk rin rik) (hmf : mfOk mf ms) (hmk : ∀ x ∈ ms, mbOk x) : MetI l y_RC_read (Cond.code y_RC_read prog_1_method_12_code 5 (some .int) :: gw) ({ frames := 5, cells := 0, slots := 0, locals := 107 } : Room) (dC, dI) vwCl (kT cI cM cO) [Value.ref rc] ([(rc, Sum.inr (6, [Value.ref co, Value.ref ma, Value.int (nI ms.length), Value.int fit, Value.int fen, Value.int frd, Value.int fbd, Value.int fir])), (ma, Sum.inl (cM, 8, Sum.inr (Sum.inr (Sum.inr (Sum.inr mf))))), (co, Sum.inr (5, [Value.long xx, Value.long xreadX, Value.ref soa, Value.ref sna, Value.ref swa, Value.int xkept, Value.ref ri, Value.ref ro, Value.ref rw, Value.int xasked])), (ri, Sum.inr (0, [Value.int rin, Value.ref ria])), (ria, Sum.inl (cI, rik, Sum.inl rif))] ++ mbsC cI ms) sz (fun (r : Int32) (u : List MB × Int32 × Int32 × Int32 × Int64 × Int32) => u.1.map mbA = ms.map mbA ∧ (∀ x ∈ u.1, mbOk x) ∧ (∀ (i9 : Nat) (x9 y9 : MB), ms[i9]? = some x9 → u.1[i9]? = some y9 → sameS x9 y9) ∧ ms.length = u.1.length ∧ r = rin ∧ u.2.1 = 1) (fun (u : List MB × Int32 × Int32 × Int32 × Int64 × Int32) => ([(rc, Sum.inr (6, [Value.ref co, Value.ref ma, Value.int (nI ms.length), Value.int fit, Value.int fen, Value.int u.2.1, Value.int u.2.2.1, Value.int u.2.2.2.1])), (ma, Sum.inl (cM, 8, Sum.inr (Sum.inr (Sum.inr (Sum.inr mf))))), (co, Sum.inr (5, [Value.long xx, Value.long u.2.2.2.2.1, Value.ref soa, Value.ref sna, Value.ref swa, Value.int xkept, Value.ref ri, Value.ref ro, Value.ref rw, Value.int u.2.2.2.2.2])), (ri, Sum.inr (0, [Value.int rin, Value.ref ria])), (ria, Sum.inl (cI, rik, Sum.inl rif))] ++ mbsC cI u.1)) 0 0 := by
  refine my_ofI (cc := prog_1_method_12_code) (n := 5) (ret := (some .int)) (by decide) rfl (Nat.le_of_ble_eq_true rfl) ?_
  intro p e s m args below meth c R Q A ls H locs hx hb hr hts hown hlocks hml hnm hR hQ hA hl hP hK hN hD hS
  have hg : ∀ w ∈ gw, w.before args s = true := fun w h => hts w (List.mem_cons_of_mem _ h)
  have hown : s.vm.findClass "RangeCoders" = some m.cls := hown
  have hl : lv_has ls 5 [(0, Value.ref rc)] := hl
  have hlt_hri := rOk_lt hri
  refine lv_aload_n hx hb d_RC_read_0 rfl (lv_at hl 0 rfl) ?_
  refine va_get (D := (dC, dI)) (ci := 6) (v := .ref ma) (C := "RangeCoders") (T := T_RC) (N := 8) hx hb hg in_RC hown hK hP 0 rfl rfl 1 (by decide) (hg _ k259) (fun _ h9 => h9) rfl d_RC_read_1 ?_
  refine lv_astore_n (lv' := [(1, Value.ref ma), (0, Value.ref rc)]) hx hb d_RC_read_4 rfl hl (by decide) rfl (fun ls hl => ?_)
  refine lv_aload_n hx hb d_RC_read_5 rfl (lv_at hl 0 rfl) ?_
  refine va_alen hx hb hK hP 1 1 rfl rfl (v := nI 8) rfl d_RC_read_6 ?_
  refine lv_istore_n (lv' := [(2, Value.int (nI 8)), (1, Value.ref ma), (0, Value.ref rc)]) hx hb d_RC_read_7 rfl hl (by decide) rfl (fun ls hl => ?_)
  refine lv_iconst (v := 0) hx hb d_RC_read_8 (by decide) ?_
  refine lv_istore_n (lv' := [(3, Value.int 0), (2, Value.int (nI 8)), (1, Value.ref ma), (0, Value.ref rc)]) hx hb d_RC_read_9 rfl hl (by decide) rfl (fun ls hl => ?_)
  have J_10 : ∀ (n9_10 : Nat) (i9 : Int32) (ii : Nat) (ms9 : List MB) (hn9_10 : 8 - ii = n9_10) (hi9 : i9 = nI ii) (hii : ii ≤ 8) (hma : ms9.map mbA = ms.map mbA) (hmo : ∀ x ∈ ms9, mbOk x) (hbg : bgI sameS ms ms9 ii) (hlm : ms.length = ms9.length) (H : Heap) (locs : List Loc) (ls : Array Slot), va_P (dC, dI) vwCl ([(rc, Sum.inr (6, [Value.ref co, Value.ref ma, Value.int (nI ms.length), Value.int fit, Value.int fen, Value.int frd, Value.int fbd, Value.int fir])), (ma, Sum.inl (cM, 8, Sum.inr (Sum.inr (Sum.inr (Sum.inr mf))))), (co, Sum.inr (5, [Value.long xx, Value.long xreadX, Value.ref soa, Value.ref sna, Value.ref swa, Value.int xkept, Value.ref ri, Value.ref ro, Value.ref rw, Value.int xasked])), (ri, Sum.inr (0, [Value.int rin, Value.ref ria])), (ria, Sum.inl (cI, rik, Sum.inl rif))] ++ mbsC cI ms9) H → va_D A ([(rc, Sum.inr (6, [Value.ref co, Value.ref ma, Value.int (nI ms.length), Value.int fit, Value.int fen, Value.int frd, Value.int fbd, Value.int fir])), (ma, Sum.inl (cM, 8, Sum.inr (Sum.inr (Sum.inr (Sum.inr mf))))), (co, Sum.inr (5, [Value.long xx, Value.long xreadX, Value.ref soa, Value.ref sna, Value.ref swa, Value.int xkept, Value.ref ri, Value.ref ro, Value.ref rw, Value.int xasked])), (ri, Sum.inr (0, [Value.int rin, Value.ref ria])), (ria, Sum.inl (cI, rik, Sum.inl rif))] ++ mbsC cI ms9) → va_S A s.heap H locs → lv_has ls 5 [(3, Value.int i9), (2, Value.int (nI 8)), (1, Value.ref ma), (0, Value.ref rc)] → W p l e R s m args below meth c H locs 0 0 Q (F0 m 10 ls []) := by
    intro n9_10
    induction n9_10 using Nat.strongRecOn with
    | ind n9_10 ih9_10 =>
      intro i9 ii ms9 hn9_10 hi9 hii hma hmo hbg hlm H locs ls hP hD hS hl
      refine lv_iload_n hx hb d_RC_read_10 rfl (lv_at hl 0 rfl) ?_
      refine lv_iload_n hx hb d_RC_read_11 rfl (lv_at hl 1 rfl) ?_
      refine lv_icmp_ge (tgt := 48) hx hb d_RC_read_12 (by decide) (fun c_1 => ?_) (fun c_1 => ?_)
      · refine lv_aload_n hx hb d_RC_read_48 rfl (lv_at hl 3 rfl) ?_
        refine lv_iconst (v := 1) hx hb d_RC_read_49 (by decide) ?_
        refine va_put (D := (dC, dI)) (ci := 6) (v := .int 1) (ty := .boolean) (C := "RangeCoders") (T := T_RC) (N := 8) hx hb hg in_RC t_RC o_RC n_RC hown hK hP hD hS 0 rfl rfl 5 (by decide) (hg _ k263) (fun _ h9 => h9) rfl (o_RC 5 (by decide)) rfl rfl (Nat.le_of_ble_eq_true rfl) d_RC_read_50 (fun H locs hP hD hS => ?_)
        have hPD : my_PD (dC, dI) vwCl A ([(rc, Sum.inr (6, [Value.ref co, Value.ref ma, Value.int (nI ms.length), Value.int fit, Value.int fen, Value.int 1, Value.int fbd, Value.int fir])), (ma, Sum.inl (cM, 8, Sum.inr (Sum.inr (Sum.inr (Sum.inr mf))))), (co, Sum.inr (5, [Value.long xx, Value.long xreadX, Value.ref soa, Value.ref sna, Value.ref swa, Value.int xkept, Value.ref ri, Value.ref ro, Value.ref rw, Value.int xasked])), (ri, Sum.inr (0, [Value.int rin, Value.ref ria])), (ria, Sum.inl (cI, rik, Sum.inl rif))] ++ mbsC cI ms9) H := ⟨hP, hD⟩
        have hP := hPD.1
        have hD := hPD.2
        refine lv_aload_n hx hb d_RC_read_53 rfl (lv_at hl 3 rfl) ?_
        refine lv_iconst (v := 0) hx hb d_RC_read_54 (by decide) ?_
        refine va_put (D := (dC, dI)) (ci := 6) (v := .int 0) (ty := .int) (C := "RangeCoders") (T := T_RC) (N := 8) hx hb hg in_RC t_RC o_RC n_RC hown hK hP hD hS 0 rfl rfl 7 (by decide) (hg _ k265) (fun _ h9 => h9) rfl (o_RC 7 (by decide)) rfl rfl (Nat.le_of_ble_eq_true rfl) d_RC_read_55 (fun H locs hP hD hS => ?_)
        have hPD : my_PD (dC, dI) vwCl A ([(rc, Sum.inr (6, [Value.ref co, Value.ref ma, Value.int (nI ms.length), Value.int fit, Value.int fen, Value.int 1, Value.int fbd, Value.int 0])), (ma, Sum.inl (cM, 8, Sum.inr (Sum.inr (Sum.inr (Sum.inr mf))))), (co, Sum.inr (5, [Value.long xx, Value.long xreadX, Value.ref soa, Value.ref sna, Value.ref swa, Value.int xkept, Value.ref ri, Value.ref ro, Value.ref rw, Value.int xasked])), (ri, Sum.inr (0, [Value.int rin, Value.ref ria])), (ria, Sum.inl (cI, rik, Sum.inl rif))] ++ mbsC cI ms9) H := ⟨hP, hD⟩
        have hP := hPD.1
        have hD := hPD.2
        refine lv_aload_n hx hb d_RC_read_58 rfl (lv_at hl 3 rfl) ?_
        refine lv_aload_n hx hb d_RC_read_59 rfl (lv_at hl 3 rfl) ?_
        refine va_get (D := (dC, dI)) (ci := 6) (v := .ref co) (C := "RangeCoders") (T := T_RC) (N := 8) hx hb hg in_RC hown hK hP 0 rfl rfl 0 (by decide) (hg _ k258) (fun _ h9 => h9) rfl d_RC_read_60 ?_
        refine my_cit (wr := [(rc, Sum.inr (6, [Value.ref co, Value.ref ma, Value.int (nI ms.length), Value.int fit, Value.int fen, Value.int 1, Value.int fbd, Value.int 0])), (ma, Sum.inl (cM, 8, Sum.inr (Sum.inr (Sum.inr (Sum.inr mf)))))]) (va_runU (As := []) (rest := [Value.ref rc]) ⟨hx, hb, hml, hown, hts⟩ (c_Table_Table_openReading l dC dI cI cM cO H.size co xx xreadX soa sna swa xkept ri ro rw xasked rin ria rik rif (by first | assumption | omega)) (va_cwA 0 hts (my_gU k727 k729 k760 k761 k11 k762) rfl rfl rfl (hN.1 _ j728 rfl) (by decide +kernel) ⟨by rw [hR]; exact Nat.le_of_ble_eq_true rfl, by rw [hR]; exact Nat.le_of_ble_eq_true rfl⟩) (my_preV hK hN (my_subU hP [2, 3, 4] rfl) (my_dubT hD [2, 3, 4] (by decide +kernel) rfl) 0 rfl rfl) rfl rfl hl.1 rfl (lv_room (Nat.le_of_ble_eq_true rfl)) d_RC_read_63 ⟨by rw [hR]; exact Nat.le_of_ble_eq_true rfl, by rw [hR]; exact Nat.le_of_ble_eq_true rfl⟩) hP hD hS hA [2, 3, 4] [0, 1] rfl rfl (by decide +kernel) (by decide +kernel) (fun r_63 u9 H locs hw_63 hP hD hS => ?_)
        obtain ⟨xreadXq_63, xaskedq_63⟩ := u9
        have hPD : my_PD (dC, dI) vwCl A ([(rc, Sum.inr (6, [Value.ref co, Value.ref ma, Value.int (nI ms.length), Value.int fit, Value.int fen, Value.int 1, Value.int fbd, Value.int 0])), (ma, Sum.inl (cM, 8, Sum.inr (Sum.inr (Sum.inr (Sum.inr mf))))), (co, Sum.inr (5, [Value.long xx, Value.long xreadXq_63, Value.ref soa, Value.ref sna, Value.ref swa, Value.int xkept, Value.ref ri, Value.ref ro, Value.ref rw, Value.int xaskedq_63])), (ri, Sum.inr (0, [Value.int rin, Value.ref ria])), (ria, Sum.inl (cI, rik, Sum.inl rif))] ++ mbsC cI ms9) H := ⟨hP, hD⟩
        have hP := hPD.1
        have hD := hPD.2
        refine lv_if_ne (tgt := 73) hx hb d_RC_read_66 (by decide) (fun c_2 => ?_) (fun c_2 => ?_)
        · refine lv_iconst (v := 0) hx hb d_RC_read_73 (by decide) ?_
          refine va_put (D := (dC, dI)) (ci := 6) (v := .int 0) (ty := .boolean) (C := "RangeCoders") (T := T_RC) (N := 8) hx hb hg in_RC t_RC o_RC n_RC hown hK hP hD hS 0 rfl rfl 6 (by decide) (hg _ k264) (fun _ h9 => h9) rfl (o_RC 6 (by decide)) rfl rfl (Nat.le_of_ble_eq_true rfl) d_RC_read_74 (fun H locs hP hD hS => ?_)
          have hPD : my_PD (dC, dI) vwCl A ([(rc, Sum.inr (6, [Value.ref co, Value.ref ma, Value.int (nI ms.length), Value.int fit, Value.int fen, Value.int 1, Value.int 0, Value.int 0])), (ma, Sum.inl (cM, 8, Sum.inr (Sum.inr (Sum.inr (Sum.inr mf))))), (co, Sum.inr (5, [Value.long xx, Value.long xreadXq_63, Value.ref soa, Value.ref sna, Value.ref swa, Value.int xkept, Value.ref ri, Value.ref ro, Value.ref rw, Value.int xaskedq_63])), (ri, Sum.inr (0, [Value.int rin, Value.ref ria])), (ria, Sum.inl (cI, rik, Sum.inl rif))] ++ mbsC cI ms9) H := ⟨hP, hD⟩
          have hP := hPD.1
          have hD := hPD.2
          refine lv_aload_n hx hb d_RC_read_77 rfl (lv_at hl 3 rfl) ?_
          refine va_get (D := (dC, dI)) (ci := 6) (v := .ref co) (C := "RangeCoders") (T := T_RC) (N := 8) hx hb hg in_RC hown hK hP 0 rfl rfl 0 (by decide) (hg _ k258) (fun _ h9 => h9) rfl d_RC_read_78 ?_
          refine va_get (D := (dC, dI)) (ci := 5) (v := .ref ri) (C := "RangeCoders$Table") (T := T_Table) (N := 10) hx hb hg in_Table hown hK hP 2 rfl rfl 6 (by decide) (hg _ k102) (fun _ h9 => h9) rfl d_RC_read_81 ?_
          refine va_get (D := (dC, dI)) (ci := 0) (v := .int rin) (C := "RangeCoders$Row") (T := T_Row) (N := 2) hx hb hg in_Row hown hK hP 3 rfl rfl 0 (by decide) (hg _ k58) (fun _ h9 => h9) rfl d_RC_read_84 ?_
          exact my_iret (v := rin) hx hb hr (rfl) hlocks hQ hK hS (Nat.le_refl _) (Nat.le_refl _) (ms9, (1 : Int32), (0 : Int32), (0 : Int32), xreadXq_63, xaskedq_63) (⟨hma, hmo, bg_e (by rw [show (8 : Nat) = ii by have := nI_ge' (n := 8) (j := ii) (by omega) (by decide) (by rw [← hi9]; assumption); omega]; exact hbg) hk8, hlm, rfl, rfl⟩) (hP.part [0, 1, 2, 3, 4] rfl) (hD.part [0, 1, 2, 3, 4] (by decide +kernel) rfl) d_RC_read_87
        · refine lv_iconst (v := 1) hx hb d_RC_read_69 (by decide) ?_
          refine lv_goto (tgt := 74) hx hb d_RC_read_70 (by decide) ?_
          refine va_put (D := (dC, dI)) (ci := 6) (v := .int 1) (ty := .boolean) (C := "RangeCoders") (T := T_RC) (N := 8) hx hb hg in_RC t_RC o_RC n_RC hown hK hP hD hS 0 rfl rfl 6 (by decide) (hg _ k264) (fun _ h9 => h9) rfl (o_RC 6 (by decide)) rfl rfl (Nat.le_of_ble_eq_true rfl) d_RC_read_74 (fun H locs hP hD hS => ?_)
          have hPD : my_PD (dC, dI) vwCl A ([(rc, Sum.inr (6, [Value.ref co, Value.ref ma, Value.int (nI ms.length), Value.int fit, Value.int fen, Value.int 1, Value.int 1, Value.int 0])), (ma, Sum.inl (cM, 8, Sum.inr (Sum.inr (Sum.inr (Sum.inr mf))))), (co, Sum.inr (5, [Value.long xx, Value.long xreadXq_63, Value.ref soa, Value.ref sna, Value.ref swa, Value.int xkept, Value.ref ri, Value.ref ro, Value.ref rw, Value.int xaskedq_63])), (ri, Sum.inr (0, [Value.int rin, Value.ref ria])), (ria, Sum.inl (cI, rik, Sum.inl rif))] ++ mbsC cI ms9) H := ⟨hP, hD⟩
          have hP := hPD.1
          have hD := hPD.2
          refine lv_aload_n hx hb d_RC_read_77 rfl (lv_at hl 3 rfl) ?_
          refine va_get (D := (dC, dI)) (ci := 6) (v := .ref co) (C := "RangeCoders") (T := T_RC) (N := 8) hx hb hg in_RC hown hK hP 0 rfl rfl 0 (by decide) (hg _ k258) (fun _ h9 => h9) rfl d_RC_read_78 ?_
          refine va_get (D := (dC, dI)) (ci := 5) (v := .ref ri) (C := "RangeCoders$Table") (T := T_Table) (N := 10) hx hb hg in_Table hown hK hP 2 rfl rfl 6 (by decide) (hg _ k102) (fun _ h9 => h9) rfl d_RC_read_81 ?_
          refine va_get (D := (dC, dI)) (ci := 0) (v := .int rin) (C := "RangeCoders$Row") (T := T_Row) (N := 2) hx hb hg in_Row hown hK hP 3 rfl rfl 0 (by decide) (hg _ k58) (fun _ h9 => h9) rfl d_RC_read_84 ?_
          exact my_iret (v := rin) hx hb hr (rfl) hlocks hQ hK hS (Nat.le_refl _) (Nat.le_refl _) (ms9, (1 : Int32), (1 : Int32), (0 : Int32), xreadXq_63, xaskedq_63) (⟨hma, hmo, bg_e (by rw [show (8 : Nat) = ii by have := nI_ge' (n := 8) (j := ii) (by omega) (by decide) (by rw [← hi9]; assumption); omega]; exact hbg) hk8, hlm, rfl, rfl⟩) (hP.part [0, 1, 2, 3, 4] rfl) (hD.part [0, 1, 2, 3, 4] (by decide +kernel) rfl) d_RC_read_87
      · refine lv_aload_n hx hb d_RC_read_15 rfl (lv_at hl 2 rfl) ?_
        refine lv_iload_n hx hb d_RC_read_16 rfl (lv_at hl 0 rfl) ?_
        have hi8 : ii < 8 := by
          rcases Nat.lt_or_ge ii 8 with z | z
          · exact z
          · exact absurd (by rw [hi9]; exact nI_le (a := 8) z (by omega)) c_1
        refine va_aldq hx hb hK hP 1 1 rfl rfl (by rw [hi9]; exact vp_in_nI hi8 (by decide)) d_RC_read_17 ?_
        rcases hq_a_3 : mf i9.toNatClampNeg with _ | a_3
        · refine W.eq (g2 := F0 m 18 ls [Value.null]) rfl ?_
          have hmf9 := mf_keep hmf hma
          have hnil : ms.length ≤ ii := by
            rcases Nat.lt_or_ge ii ms9.length with z | z
            · obtain ⟨a9, x9, b9, e9, hla⟩ := mb_at z
              subst e9
              rw [hi9, nI_clamp (by omega), ← hla, mf_some hmf9 (by omega)] at hq_a_3; cases hq_a_3
            · rw [hlm]; exact z
          refine lv_astoreN (lv' := [(4, Value.null), (3, Value.int i9), (2, Value.int (nI 8)), (1, Value.ref ma), (0, Value.ref rc)]) hx hb d_RC_read_18 hl (by decide) rfl (fun ls hl => ?_)
          refine lv_aloadN hx hb d_RC_read_20 (lv_at hl 0 rfl) ?_
          refine lv_ifnullN (tgt := 42) hx hb d_RC_read_22 (by decide) ?_
          obtain ⟨v_4, ev_4⟩ : ∃ y : Int32, y = i9 + (1) := ⟨_, rfl⟩
          refine lv_iinc (v := v_4) (lv' := [(3, Value.int v_4), (4, Value.null), (2, Value.int (nI 8)), (1, Value.ref ma), (0, Value.ref rc)]) hx hb d_RC_read_42 hl (k := 1) rfl (by rw [ev_4]; rfl) (by decide) rfl (fun ls hl => ?_)
          refine lv_goto (tgt := 10) hx hb d_RC_read_45 (by decide) ?_
          exact ih9_10 _ (by first | omega | (omega)) v_4 (ii + 1) ms9 rfl (by rw [ev_4, hi9]; exact nI_1 _) (by omega) (by assumption) (by assumption) (bg_no hbg (by rw [← hlm]; exact hnil)) (hlm) H locs ls (hP.part [0, 1, 2, 3, 4] rfl) (hD.part [0, 1, 2, 3, 4] (by decide +kernel) rfl) hS (lv_sub hl [0, 2, 3, 4] rfl)
        · refine W.eq (g2 := F0 m 18 ls [Value.ref a_3]) rfl ?_
          have hmf9 := mf_keep hmf hma
          have hil : ii < ms9.length := by
            rcases Nat.lt_or_ge ii ms9.length with z | z
            · exact z
            · rw [hi9, nI_clamp (by omega), mf_none hmf9 hi8 z] at hq_a_3; cases hq_a_3
          obtain ⟨a9, x9, b9, e9, hla⟩ := mb_at hil
          subst e9
          obtain ⟨mo9, ka9, kl9, kf9, ⟨oo9, osg9, osm9, ofc9, oca9, opa9, ol9, ocf9, opl9, opf9⟩, ⟨pp9, psg9, psm9, pfc9, pca9, ppa9, pl9, pcf9, ppl9, ppf9⟩⟩ := x9
          have hax : a_3 = mo9 := by
            rw [hi9, nI_clamp (by omega), ← hla, mf_some hmf9 (by omega)] at hq_a_3
            exact (Option.some.inj hq_a_3).symm
          subst hax
          obtain ⟨hk64, ⟨ho1, ho2, ho3⟩, ⟨hp1, hp2, hp3⟩⟩ := ok_mid hmo
          have hP := pm_P hP (mb_out cI [(rc, Sum.inr (6, [Value.ref co, Value.ref ma, Value.int (nI ms.length), Value.int fit, Value.int fen, Value.int frd, Value.int fbd, Value.int fir])), (ma, Sum.inl (cM, 8, Sum.inr (Sum.inr (Sum.inr (Sum.inr mf))))), (co, Sum.inr (5, [Value.long xx, Value.long xreadX, Value.ref soa, Value.ref sna, Value.ref swa, Value.int xkept, Value.ref ri, Value.ref ro, Value.ref rw, Value.int xasked])), (ri, Sum.inr (0, [Value.int rin, Value.ref ria])), (ria, Sum.inl (cI, rik, Sum.inl rif))] a9 b9 (a_3, ka9, kl9, kf9, (oo9, osg9, osm9, ofc9, oca9, opa9, ol9, ocf9, opl9, opf9), (pp9, psg9, psm9, pfc9, pca9, ppa9, pl9, pcf9, ppl9, ppf9)))
          have hD := pm_D hD (mb_out cI [(rc, Sum.inr (6, [Value.ref co, Value.ref ma, Value.int (nI ms.length), Value.int fit, Value.int fen, Value.int frd, Value.int fbd, Value.int fir])), (ma, Sum.inl (cM, 8, Sum.inr (Sum.inr (Sum.inr (Sum.inr mf))))), (co, Sum.inr (5, [Value.long xx, Value.long xreadX, Value.ref soa, Value.ref sna, Value.ref swa, Value.int xkept, Value.ref ri, Value.ref ro, Value.ref rw, Value.int xasked])), (ri, Sum.inr (0, [Value.int rin, Value.ref ria])), (ria, Sum.inl (cI, rik, Sum.inl rif))] a9 b9 (a_3, ka9, kl9, kf9, (oo9, osg9, osm9, ofc9, oca9, opa9, ol9, ocf9, opl9, opf9), (pp9, psg9, psm9, pfc9, pca9, ppa9, pl9, pcf9, ppl9, ppf9)))
          have hPD : my_PD (dC, dI) vwCl A ([(rc, Sum.inr (6, [Value.ref co, Value.ref ma, Value.int (nI ms.length), Value.int fit, Value.int fen, Value.int frd, Value.int fbd, Value.int fir])), (ma, Sum.inl (cM, 8, Sum.inr (Sum.inr (Sum.inr (Sum.inr mf))))), (co, Sum.inr (5, [Value.long xx, Value.long xreadX, Value.ref soa, Value.ref sna, Value.ref swa, Value.int xkept, Value.ref ri, Value.ref ro, Value.ref rw, Value.int xasked])), (ri, Sum.inr (0, [Value.int rin, Value.ref ria])), (ria, Sum.inl (cI, rik, Sum.inl rif)), (a_3, Sum.inr (8, [Value.ref ka9, Value.ref oo9, Value.ref pp9])), (ka9, Sum.inl (cI, kl9, Sum.inl kf9)), (oo9, Sum.inr (7, [Value.int osg9, Value.int osm9, Value.int ofc9, Value.ref oca9, Value.ref opa9])), (oca9, Sum.inl (cI, ol9, Sum.inl ocf9)), (opa9, Sum.inl (cI, opl9, Sum.inl opf9)), (pp9, Sum.inr (7, [Value.int psg9, Value.int psm9, Value.int pfc9, Value.ref pca9, Value.ref ppa9])), (pca9, Sum.inl (cI, pl9, Sum.inl pcf9)), (ppa9, Sum.inl (cI, ppl9, Sum.inl ppf9))] ++ (mbsC cI a9 ++ mbsC cI b9)) H := ⟨hP, hD⟩
          have hP := hPD.1
          have hD := hPD.2
          refine lv_astore (lv' := [(4, Value.ref a_3), (3, Value.int i9), (2, Value.int (nI 8)), (1, Value.ref ma), (0, Value.ref rc)]) hx hb d_RC_read_18 hl (by decide) rfl (fun ls hl => ?_)
          refine lv_aload hx hb d_RC_read_20 (lv_at hl 0 rfl) ?_
          refine lv_ifnull hx hb d_RC_read_22 ?_
          refine lv_aload_n hx hb d_RC_read_25 rfl (lv_at hl 4 rfl) ?_
          refine va_get (D := (dC, dI)) (ci := 6) (v := .ref co) (C := "RangeCoders") (T := T_RC) (N := 8) hx hb hg in_RC hown hK hP 0 rfl rfl 0 (by decide) (hg _ k258) (fun _ h9 => h9) rfl d_RC_read_26 ?_
          refine lv_aload hx hb d_RC_read_29 (lv_at hl 0 rfl) ?_
          refine va_get (D := (dC, dI)) (ci := 8) (v := .ref pp9) (C := "RangeCoders$Model") (T := T_Model) (N := 3) hx hb hg in_Model hown hK hP 5 rfl rfl 2 (by decide) (hg _ k345) (fun _ h9 => h9) rfl d_RC_read_31 ?_
          refine lv_aload hx hb d_RC_read_34 (lv_at hl 0 rfl) ?_
          refine va_get (D := (dC, dI)) (ci := 8) (v := .ref ka9) (C := "RangeCoders$Model") (T := T_Model) (N := 3) hx hb hg in_Model hown hK hP 5 rfl rfl 0 (by decide) (hg _ k341) (fun _ h9 => h9) rfl d_RC_read_36 ?_
          refine my_cvt (wr := [(rc, Sum.inr (6, [Value.ref co, Value.ref ma, Value.int (nI ms.length), Value.int fit, Value.int fen, Value.int frd, Value.int fbd, Value.int fir])), (ma, Sum.inl (cM, 8, Sum.inr (Sum.inr (Sum.inr (Sum.inr mf))))), (ri, Sum.inr (0, [Value.int rin, Value.ref ria])), (ria, Sum.inl (cI, rik, Sum.inl rif)), (a_3, Sum.inr (8, [Value.ref ka9, Value.ref oo9, Value.ref pp9])), (oo9, Sum.inr (7, [Value.int osg9, Value.int osm9, Value.int ofc9, Value.ref oca9, Value.ref opa9])), (oca9, Sum.inl (cI, ol9, Sum.inl ocf9)), (opa9, Sum.inl (cI, opl9, Sum.inl opf9))]) (va_runU (As := [Value.ref pp9, Value.ref ka9]) (rest := []) ⟨hx, hb, hml, hown, hts⟩ (c_Table_Table_prepare l dC dI cI cM cO H.size co xx xreadX soa sna swa xkept ri ro rw xasked pp9 psg9 psm9 pfc9 pca9 ppa9 pl9 pcf9 ppl9 ppf9 ka9 kl9 kf9 (by first | assumption | omega) (by first | assumption | omega) (by first | assumption | omega) (by first | assumption | omega)) (va_cwA 2 hts (my_gU k353 k355 k400 k401 k11 k402) rfl rfl rfl (hN.1 _ j354 rfl) (by decide +kernel) ⟨by rw [hR]; exact Nat.le_of_ble_eq_true rfl, by rw [hR]; exact Nat.le_of_ble_eq_true rfl⟩) (my_preV hK hN (my_subU hP [2, 10, 11, 12, 6] rfl) (my_dubT hD [2, 10, 11, 12, 6] (by decide +kernel) rfl) 0 rfl rfl) rfl rfl hl.1 rfl (lv_room (Nat.le_of_ble_eq_true rfl)) d_RC_read_39 ⟨by rw [hR]; exact Nat.le_of_ble_eq_true rfl, by rw [hR]; exact Nat.le_of_ble_eq_true rfl⟩) hP hD hS hA [2, 10, 11, 12, 6] [0, 1, 3, 4, 5, 7, 8, 9] rfl rfl (by decide +kernel) (by decide +kernel) (fun u9 H locs hw_39 hP hD hS => ?_)
          obtain ⟨osmq_39, ocfq_39, opfq_39⟩ := u9
          have hPD : my_PD (dC, dI) vwCl A ([(rc, Sum.inr (6, [Value.ref co, Value.ref ma, Value.int (nI ms.length), Value.int fit, Value.int fen, Value.int frd, Value.int fbd, Value.int fir])), (ma, Sum.inl (cM, 8, Sum.inr (Sum.inr (Sum.inr (Sum.inr mf))))), (ri, Sum.inr (0, [Value.int rin, Value.ref ria])), (ria, Sum.inl (cI, rik, Sum.inl rif)), (a_3, Sum.inr (8, [Value.ref ka9, Value.ref oo9, Value.ref pp9])), (oo9, Sum.inr (7, [Value.int osg9, Value.int osm9, Value.int ofc9, Value.ref oca9, Value.ref opa9])), (oca9, Sum.inl (cI, ol9, Sum.inl ocf9)), (opa9, Sum.inl (cI, opl9, Sum.inl opf9)), (co, Sum.inr (5, [Value.long xx, Value.long xreadX, Value.ref soa, Value.ref sna, Value.ref swa, Value.int xkept, Value.ref ri, Value.ref ro, Value.ref rw, Value.int xasked])), (pp9, Sum.inr (7, [Value.int psg9, Value.int osmq_39, Value.int pfc9, Value.ref pca9, Value.ref ppa9])), (pca9, Sum.inl (cI, pl9, Sum.inl ocfq_39)), (ppa9, Sum.inl (cI, ppl9, Sum.inl opfq_39)), (ka9, Sum.inl (cI, kl9, Sum.inl kf9))] ++ (mbsC cI a9 ++ mbsC cI b9)) H := ⟨hP, hD⟩
          have hP := hPD.1
          have hD := hPD.2
          have hP := pm_P (hP.part [0, 1, 8, 2, 3, 4, 12, 5, 6, 7, 9, 10, 11] rfl : va_P (dC, dI) vwCl ([(rc, Sum.inr (6, [Value.ref co, Value.ref ma, Value.int (nI ms.length), Value.int fit, Value.int fen, Value.int frd, Value.int fbd, Value.int fir])), (ma, Sum.inl (cM, 8, Sum.inr (Sum.inr (Sum.inr (Sum.inr mf))))), (co, Sum.inr (5, [Value.long xx, Value.long xreadX, Value.ref soa, Value.ref sna, Value.ref swa, Value.int xkept, Value.ref ri, Value.ref ro, Value.ref rw, Value.int xasked])), (ri, Sum.inr (0, [Value.int rin, Value.ref ria])), (ria, Sum.inl (cI, rik, Sum.inl rif)), (a_3, Sum.inr (8, [Value.ref ka9, Value.ref oo9, Value.ref pp9])), (ka9, Sum.inl (cI, kl9, Sum.inl kf9)), (oo9, Sum.inr (7, [Value.int osg9, Value.int osm9, Value.int ofc9, Value.ref oca9, Value.ref opa9])), (oca9, Sum.inl (cI, ol9, Sum.inl ocf9)), (opa9, Sum.inl (cI, opl9, Sum.inl opf9)), (pp9, Sum.inr (7, [Value.int psg9, Value.int osmq_39, Value.int pfc9, Value.ref pca9, Value.ref ppa9])), (pca9, Sum.inl (cI, pl9, Sum.inl ocfq_39)), (ppa9, Sum.inl (cI, ppl9, Sum.inl opfq_39))] ++ (mbsC cI a9 ++ mbsC cI b9)) H) (mb_out cI [(rc, Sum.inr (6, [Value.ref co, Value.ref ma, Value.int (nI ms.length), Value.int fit, Value.int fen, Value.int frd, Value.int fbd, Value.int fir])), (ma, Sum.inl (cM, 8, Sum.inr (Sum.inr (Sum.inr (Sum.inr mf))))), (co, Sum.inr (5, [Value.long xx, Value.long xreadX, Value.ref soa, Value.ref sna, Value.ref swa, Value.int xkept, Value.ref ri, Value.ref ro, Value.ref rw, Value.int xasked])), (ri, Sum.inr (0, [Value.int rin, Value.ref ria])), (ria, Sum.inl (cI, rik, Sum.inl rif))] a9 b9 ((a_3, ka9, kl9, kf9, (oo9, osg9, osm9, ofc9, oca9, opa9, ol9, ocf9, opl9, opf9), (pp9, psg9, osmq_39, pfc9, pca9, ppa9, pl9, ocfq_39, ppl9, opfq_39)) : MB)).symm
          have hD := pm_D (hD.part [0, 1, 8, 2, 3, 4, 12, 5, 6, 7, 9, 10, 11] (by decide +kernel) rfl : va_D A ([(rc, Sum.inr (6, [Value.ref co, Value.ref ma, Value.int (nI ms.length), Value.int fit, Value.int fen, Value.int frd, Value.int fbd, Value.int fir])), (ma, Sum.inl (cM, 8, Sum.inr (Sum.inr (Sum.inr (Sum.inr mf))))), (co, Sum.inr (5, [Value.long xx, Value.long xreadX, Value.ref soa, Value.ref sna, Value.ref swa, Value.int xkept, Value.ref ri, Value.ref ro, Value.ref rw, Value.int xasked])), (ri, Sum.inr (0, [Value.int rin, Value.ref ria])), (ria, Sum.inl (cI, rik, Sum.inl rif)), (a_3, Sum.inr (8, [Value.ref ka9, Value.ref oo9, Value.ref pp9])), (ka9, Sum.inl (cI, kl9, Sum.inl kf9)), (oo9, Sum.inr (7, [Value.int osg9, Value.int osm9, Value.int ofc9, Value.ref oca9, Value.ref opa9])), (oca9, Sum.inl (cI, ol9, Sum.inl ocf9)), (opa9, Sum.inl (cI, opl9, Sum.inl opf9)), (pp9, Sum.inr (7, [Value.int psg9, Value.int osmq_39, Value.int pfc9, Value.ref pca9, Value.ref ppa9])), (pca9, Sum.inl (cI, pl9, Sum.inl ocfq_39)), (ppa9, Sum.inl (cI, ppl9, Sum.inl opfq_39))] ++ (mbsC cI a9 ++ mbsC cI b9))) (mb_out cI [(rc, Sum.inr (6, [Value.ref co, Value.ref ma, Value.int (nI ms.length), Value.int fit, Value.int fen, Value.int frd, Value.int fbd, Value.int fir])), (ma, Sum.inl (cM, 8, Sum.inr (Sum.inr (Sum.inr (Sum.inr mf))))), (co, Sum.inr (5, [Value.long xx, Value.long xreadX, Value.ref soa, Value.ref sna, Value.ref swa, Value.int xkept, Value.ref ri, Value.ref ro, Value.ref rw, Value.int xasked])), (ri, Sum.inr (0, [Value.int rin, Value.ref ria])), (ria, Sum.inl (cI, rik, Sum.inl rif))] a9 b9 ((a_3, ka9, kl9, kf9, (oo9, osg9, osm9, ofc9, oca9, opa9, ol9, ocf9, opl9, opf9), (pp9, psg9, osmq_39, pfc9, pca9, ppa9, pl9, ocfq_39, ppl9, opfq_39)) : MB)).symm
          have hma2 : (a9 ++ ((a_3, ka9, kl9, kf9, (oo9, osg9, osm9, ofc9, oca9, opa9, ol9, ocf9, opl9, opf9), (pp9, psg9, osmq_39, pfc9, pca9, ppa9, pl9, ocfq_39, ppl9, opfq_39)) : MB) :: b9).map mbA = ms.map mbA := by refine (mb_set (f := mbA) ?_).trans hma; rfl
          have hmo2 : ∀ x ∈ a9 ++ ((a_3, ka9, kl9, kf9, (oo9, osg9, osm9, ofc9, oca9, opa9, ol9, ocf9, opl9, opf9), (pp9, psg9, osmq_39, pfc9, pca9, ppa9, pl9, ocfq_39, ppl9, opfq_39)) : MB) :: b9, mbOk x := ok_set hmo ⟨hk64, ⟨ho1, ho2, ho3⟩, ⟨hp1, hp2, hp3⟩⟩
          have hPD : my_PD (dC, dI) vwCl A ([(rc, Sum.inr (6, [Value.ref co, Value.ref ma, Value.int (nI ms.length), Value.int fit, Value.int fen, Value.int frd, Value.int fbd, Value.int fir])), (ma, Sum.inl (cM, 8, Sum.inr (Sum.inr (Sum.inr (Sum.inr mf))))), (co, Sum.inr (5, [Value.long xx, Value.long xreadX, Value.ref soa, Value.ref sna, Value.ref swa, Value.int xkept, Value.ref ri, Value.ref ro, Value.ref rw, Value.int xasked])), (ri, Sum.inr (0, [Value.int rin, Value.ref ria])), (ria, Sum.inl (cI, rik, Sum.inl rif))] ++ mbsC cI (a9 ++ ((a_3, ka9, kl9, kf9, (oo9, osg9, osm9, ofc9, oca9, opa9, ol9, ocf9, opl9, opf9), (pp9, psg9, osmq_39, pfc9, pca9, ppa9, pl9, ocfq_39, ppl9, opfq_39)) : MB) :: b9)) H := ⟨hP, hD⟩
          have hP := hPD.1
          have hD := hPD.2
          rw [← hla] at hbg
          have hbg2 : bgI sameS ms (a9 ++ ((a_3, ka9, kl9, kf9, (oo9, osg9, osm9, ofc9, oca9, opa9, ol9, ocf9, opl9, opf9), (pp9, psg9, osmq_39, pfc9, pca9, ppa9, pl9, ocfq_39, ppl9, opfq_39)) : MB) :: b9) (a9.length + 1) := bg_st hbg hlm ⟨rfl, rfl, rfl⟩
          rw [hla] at hbg2
          have hlm2 : ms.length = (a9 ++ ((a_3, ka9, kl9, kf9, (oo9, osg9, osm9, ofc9, oca9, opa9, ol9, ocf9, opl9, opf9), (pp9, psg9, osmq_39, pfc9, pca9, ppa9, pl9, ocfq_39, ppl9, opfq_39)) : MB) :: b9).length := by rw [hlm, List.length_append, List.length_append]; rfl
          obtain ⟨v_5, ev_5⟩ : ∃ y : Int32, y = i9 + (1) := ⟨_, rfl⟩
          refine lv_iinc (v := v_5) (lv' := [(3, Value.int v_5), (4, Value.ref a_3), (2, Value.int (nI 8)), (1, Value.ref ma), (0, Value.ref rc)]) hx hb d_RC_read_42 hl (k := 1) rfl (by rw [ev_5]; rfl) (by decide) rfl (fun ls hl => ?_)
          refine lv_goto (tgt := 10) hx hb d_RC_read_45 (by decide) ?_
          exact ih9_10 _ (by first | omega | (omega)) v_5 (ii + 1) (a9 ++ ((a_3, ka9, kl9, kf9, (oo9, osg9, osm9, ofc9, oca9, opa9, ol9, ocf9, opl9, opf9), (pp9, psg9, osmq_39, pfc9, pca9, ppa9, pl9, ocfq_39, ppl9, opfq_39)) : MB) :: b9) rfl (by rw [ev_5, hi9]; exact nI_1 _) (by omega) (hma2) (hmo2) (hbg2) (hlm2) H locs ls (hP.part [0, 1, 2, 3, 4] rfl) (hD.part [0, 1, 2, 3, 4] (by decide +kernel) rfl) hS (lv_sub hl [0, 2, 3, 4] rfl)
  exact J_10 _ (0 : Int32) (0 : Nat) ms rfl (rfl) (by omega) (rfl) (hmk) (bg_0 ms) (rfl) H locs ls (hP.part [0, 1, 2, 3, 4] rfl) (hD.part [0, 1, 2, 3, 4] (by decide +kernel) rfl) hS (lv_sub hl [0, 1, 2, 3] rfl)
end
section
theorem sg_yes {km jj tt : Nat} {N : Nat → Nat} {vMany vC : Nat → Int32} (h : MD km N vMany vC) (hj : jj < km) (ht : tt < N jj) : isN km (nI jj) ∧ (0 ≤ nI tt ∧ nI tt ≤ vMany (nI jj).toNatClampNeg - 1) := by
  have hk := h.1
  obtain ⟨h1, h2, h3, -⟩ := h.2 jj hj
  refine ⟨(isN_iff (by omega)).mpr ⟨jj, hj, rfl⟩, ?_⟩
  rw [nI_clamp (by omega), h1]
  exact (isN_iff (k := N jj) (by omega)).mpr ⟨tt, ht, rfl⟩
theorem sg_nom {km : Nat} {vMany : Nat → Int32} {p1 p2 : Int32} (hk : km ≤ 8) (h : p1 < 0 ∨ nI km ≤ p1) : ¬ (isN km p1 ∧ (0 ≤ p2 ∧ p2 ≤ vMany p1.toNatClampNeg - 1)) := fun q => by
  obtain ⟨j, hj, rfl⟩ := (isN_iff (by omega)).mp q.1
  rcases h with z | z
  · exact absurd z (nI_pos (by omega))
  · exact absurd z (nI_ge hj (by omega))
theorem sg_nos {km jj : Nat} {N : Nat → Nat} {vMany vC : Nat → Int32} {p2 : Int32} (h : MD km N vMany vC) (hj : jj < km) (hno : p2 < 0 ∨ nI (N jj) ≤ p2) : ¬ (isN km (nI jj) ∧ (0 ≤ p2 ∧ p2 ≤ vMany (nI jj).toNatClampNeg - 1)) := fun q => by
  have hk := h.1
  obtain ⟨h1, h2, h3, -⟩ := h.2 jj hj
  have q2 := q.2
  rw [nI_clamp (by omega), h1] at q2
  obtain ⟨j, hj2, rfl⟩ := (isN_iff (k := N jj) (by omega)).mp q2
  rcases hno with z | z
  · exact absurd z (nI_pos (by omega))
  · exact absurd z (nI_ge hj2 (by omega))
theorem md_no {km : Nat} {p1 : Int32} (hk : km ≤ 8) (h : p1 < 0 ∨ nI km ≤ p1) : ¬ (0 ≤ p1 ∧ p1 ≤ nI km - 1) := fun q => by
  obtain ⟨j, hj, rfl⟩ := (isN_iff (by omega)).mp q
  rcases h with z | z
  · exact absurd z (nI_pos (by omega))
  · exact absurd z (nI_ge hj (by omega))
theorem okB_no {bm : Nat} {v b x : Int32} (hbm : bm ≤ 12) (hno : ¬ okB bm v b) (h1 : 1 ≤ b ∧ b ≤ nI bm) (ex : x = (1 : Int32) <<< (b &&& 31) - 1) : ¬ (0 ≤ v ∧ v ≤ x) := fun q => by
  obtain ⟨bb, q1, q2, rfl⟩ := in_of2 (a := 1) (b := bm) (by decide) (by omega) h1
  rw [shl1 bb (by omega), nI_pred9 (Nat.two_pow_pos bb)] at ex
  have hp : 2 ^ bb ≤ 2 ^ 12 := Nat.pow_le_pow_right (by decide) (by omega)
  have hp0 := Nat.two_pow_pos bb
  rw [ex] at q
  obtain ⟨vv, -, z2, rfl⟩ := in_of2 (a := 0) (b := 2 ^ bb - 1) (by decide) (by omega) q
  exact hno ⟨vv, bb, q1, q2, by omega, rfl, rfl⟩
theorem m255 (i : Nat) : (255#32).getLsbD i = decide (i < 8) := by
  rw [BitVec.getLsbD_ofNat, show (255 : Nat) = 2 ^ 8 - 1 from rfl, Nat.testBit_two_pow_sub_one]
  by_cases h : i < 8
  · simp [h]; omega
  · simp [h]
theorem oB_s (v : Int32) : ∀ k, k < 4 → ∀ x : Int32, x = nI (8 * k) → ((v >>> (x &&& 31)) &&& 255) = nI (oB v k) := by
  intro k hk x ex
  rw [← oB_u v k hk x ex]
  subst ex
  apply Int32.toBitVec_inj.mp
  rw [Int32.toBitVec_and, Int32.toBitVec_and]
  have e1 : (v >>> (nI (8 * k) &&& 31)).toBitVec = v.toBitVec.sshiftRight (8 * k) := by
    have hk' : k = 0 ∨ k = 1 ∨ k = 2 ∨ k = 3 := by omega
    rcases hk' with h | h | h | h <;> subst h <;> rfl
  have e2 : ((v.toUInt32 >>> ((nI (8 * k)).toUInt32 &&& Int32.toUInt32 31)).toInt32).toBitVec = v.toBitVec >>> (8 * k) := by
    have hk' : k = 0 ∨ k = 1 ∨ k = 2 ∨ k = 3 := by omega
    rcases hk' with h | h | h | h <;> subst h <;> rfl
  rw [e1, e2]
  apply BitVec.eq_of_getLsbD_eq
  intro i hi
  show (v.toBitVec.sshiftRight (8 * k) &&& 255#32).getLsbD i = (v.toBitVec >>> (8 * k) &&& 255#32).getLsbD i
  rw [BitVec.getLsbD_and, BitVec.getLsbD_and, m255]
  by_cases h : i < 8
  · rw [BitVec.getLsbD_sshiftRight, BitVec.getLsbD_ushiftRight, if_pos (by omega)]
    have h3 : decide (32 ≤ i) = false := decide_eq_false (by omega)
    have h4 : decide (i < 32) = true := decide_eq_true (by omega)
    first | (rw [h3]; rfl) | (rw [h4]; rfl) | rfl | simp [h3, h4, hi, h]
  · simp [h]
theorem tk_le1 {p1 : Int32} {n : Nat} (hn : n < 2 ^ 31) (h0 : ¬ p1 < 0) (h1 : p1 ≤ 1) : ¬ nI n < p1 - 2 := by
  have e0 : (0 : Int32).toInt = 0 := rfl
  have e1 : (1 : Int32).toInt = 1 := rfl
  have e2 : (2 : Int32).toInt = 2 := rfl
  rw [Int32.lt_iff_toInt_lt, e0] at h0
  rw [Int32.le_iff_toInt_le, e1] at h1
  have hs : (p1 - 2).toInt = p1.toInt - 2 := by
    rw [Int32.toInt_sub, e2]
    apply Int.bmod_eq_of_le <;> omega
  rw [Int32.lt_iff_toInt_lt, hs, nI_toInt hn]
  omega
theorem ml0 {p1 : Int32} {ll : Nat} (h : p1 = 0) (hl : ¬ p1 = 1 → (if (0 : Int32) < p1 - 2 then p1 - 2 else 0) = nI ll) : (0 : Int32) = nI ll := by
  subst h
  have := hl (by decide)
  rw [← this]
  decide
theorem ml2 {p1 : Int32} {ll : Nat} (h0 : ¬ p1 < 0) (h1 : ¬ p1 = 0) (h2 : ¬ p1 = 1) (hl : ¬ p1 = 1 → (if (0 : Int32) < p1 - 2 then p1 - 2 else 0) = nI ll) : p1 - 2 = nI ll := by
  rw [← hl h2]
  have e0 : (0 : Int32).toInt = 0 := rfl
  have e2 : (2 : Int32).toInt = 2 := rfl
  rw [Int32.lt_iff_toInt_lt, e0] at h0
  have h1' : p1.toInt ≠ 0 := fun z => h1 (Int32.toInt_inj.mp (by rw [z]; rfl))
  have h2' : p1.toInt ≠ 1 := fun z => h2 (Int32.toInt_inj.mp (by rw [z]; rfl))
  have hlt := Int32.toInt_lt p1
  have hs : (p1 - 2).toInt = p1.toInt - 2 := by
    rw [Int32.toInt_sub, e2]
    apply Int.bmod_eq_of_le <;> omega
  by_cases z : (0 : Int32) < p1 - 2
  · rw [if_pos z]
  · rw [if_neg z]
    rw [Int32.lt_iff_toInt_lt, hs, e0] at z
    exact Int32.toInt_inj.mp (by rw [hs, e0]; omega)
theorem isN_no {k : Nat} {p : Int32} (hk : k < 2 ^ 30) (h : p < 0 ∨ nI k ≤ p) : ¬ isN k p := fun q => by
  obtain ⟨j, hj, rfl⟩ := (isN_iff hk).mp q
  rcases h with z | z
  · exact absurd z (nI_pos (by omega))
  · exact absurd z (nI_ge hj (by omega))
theorem nd_no {n : Nat} {p : Int32} (hn : n < 2 ^ 30) (h : p < 1 ∨ p < 0 ∨ nI n ≤ p) : ¬ (1 ≤ p ∧ p ≤ nI (n - 1)) := fun q => by
  obtain ⟨j, h1, h2, rfl⟩ := in_of2 (a := 1) (b := n - 1) (by decide) (by omega) q
  rcases h with z | z | z
  · exact absurd q.1 (Int32.not_le.mpr z)
  · exact absurd z (nI_pos (by omega))
  · have := nI_ge' (by omega) (by omega) z
    omega
theorem gIs_cp {f g : Nat → Int32} {bs : List Nat} (h : gIs f bs) (hc : ∀ i, i < bs.length → g i = f i) : gIs g bs := fun i hi => by rw [hc i hi]; exact h i hi
theorem s3_oct {f : Nat} : ∀ (k : Nat) (r : Nat × List Nat), oct r.2 → oct (s3N f k r).2
  | 0, r, h => h
  | k + 1, r, h => by
    by_cases h2 : f * 524288 ≤ r.1
    · rw [s3N_s (by omega) h2, Nat.add_sub_cancel]
      exact s3_oct k _ (oct_add h (Nat.mod_lt _ (by decide)))
    · rw [s3N_e h2]; exact h
theorem e3_oct (Fn : Nat → Nat → Nat) (its : List It) : ∀ (k : Nat) (r : Nat × List Nat), oct r.2 → oct (e3N Fn its k r).2
  | 0, r, h => h
  | k + 1, r, h => by
    rw [e3N]
    exact e3_oct Fn its k _ (s3_oct 8 r h)
theorem b4_oct (X : Nat) : ∀ k, oct (b4 X k) := by
  intro k
  induction k generalizing X with
  | zero => exact oct_nil
  | succ k ih =>
    rw [b4]
    have : oct ([X % 256] ++ b4 (X / 256) k) := oct_app (oct_one (Nat.mod_lt _ (by decide))) (ih _)
    exact this
theorem e3S_oct (Fn : Nat → Nat → Nat) (its : List It) : oct (e3S Fn its) := oct_app (e3_oct Fn its _ _ oct_nil) (b4_oct _ _)
theorem mod_id {l : List Nat} (h : oct l) : l.map (· % 256) = l := by
  rw [oct_iff] at h
  induction l with
  | nil => rfl
  | cons a l ih =>
    rw [List.map_cons, ih (fun x hx => h x (List.mem_cons_of_mem _ hx)), Nat.mod_eq_of_lt (h a List.mem_cons_self)]
theorem oct_rev {l : List Nat} (h : oct l) : oct l.reverse := by
  rw [oct_iff] at h ⊢
  exact fun x hx => h x (List.mem_reverse.mp hx)
theorem e3_out (Fn : Nat → Nat → Nat) (its : List It) : ([] : List Nat) ++ (e3S Fn its).reverse.map (· % 256) = (e3S Fn its).reverse := by rw [List.nil_append, mod_id (oct_rev (e3S_oct Fn its))]
/-- tables of the first j models as a message begins -/
def pfA (fm j : Nat) (N : Nat → Nat) (vC f : Nat → Int32) : Prop := ∀ mm, mm < j → sgI f (64 * mm) (pfN fm (N mm)) (pf fm (N mm) (Fvw vC mm))
theorem pfA_0 (fm : Nat) (N : Nat → Nat) (vC f : Nat → Int32) : pfA fm 0 N vC f := fun mm h => absurd h (Nat.not_lt_zero mm)
theorem pfN_64 {fm n : Nat} (h : n ≤ 64) : pfN fm n ≤ 64 := by unfold pfN; split <;> omega
theorem pfA_st {fm j km : Nat} {N : Nat → Nat} {vC f2 f : Nat → Int32} (h : pfA fm j N vC f) (hN : ∀ i, i < km → N i ≤ 64) (hj : j < km) (ho : sgO f2 f (64 * j) 64) (hF : sgI f2 (64 * j) (pfN fm (N j)) (pf fm (N j) (Fvw vC j))) : pfA fm (j + 1) N vC f2 := by
  intro mm hm
  by_cases e : mm = j
  · subst e; exact hF
  · exact sg_keep ho (Ne.symm e) (pfN_64 (hN mm (by omega))) (h mm (by omega))
theorem MD_C {km mm : Nat} {N : Nat → Nat} {vMany vC : Nat → Int32} (h : MD km N vMany vC) (hm : mm < km) : sgI vC (64 * mm) (N mm) (Fvw vC mm) ∧ bd (Fvw vC mm) (N mm) 4095 := by
  obtain ⟨-, -, -, C, h1, h2⟩ := h.2 mm hm
  have e : ∀ k, k < N mm → Fvw vC mm k = C k := fun k hk => by
    unfold Fvw
    rw [h1 k hk]
    exact nI_clamp (by have := h2 k hk; omega)
  exact ⟨fun k hk => by rw [h1 k hk, e k hk], fun k hk => by rw [e k hk]; exact h2 k hk⟩
theorem L_eqN {a b : Nat} (ha : a < 2 ^ 31) (hb : b < 2 ^ 31) : lN a = lN b ↔ a = b := pk_lEQ (by omega) (by omega)
end
section
set_option maxHeartbeats 2000000 in
set_option maxRecDepth 100000 in
theorem m_countS (l : Launch) (dC : Nat → ClassId) (dI : Nat → Nat → Nat) (cI cM cO : ClassId) (sz : Nat) (o : Nat) (g : Nat → Nat) (fForm : Int32) (fShift : Int32) (fModels : Int32) (fItems : Int32) (fEnded : Int32) (fLow : Int64) (fRange : Int64) (fCache : Int32) (fPend : Int32) (fGoes : Int32) (fOuts : Int32) (fIns : Int32) (fReads : Int32) (fBad : Int32) (fIR : Int32) (fAsk : Int32) (fBAsk : Int32) (fCode : Int64) (fRL : Int64) (fRR : Int64) (fX : Int64) (fWrites : Int32) (fThrown : Int32) (vMany : Nat → Int32) (vCounts : Nat → Int32) (km : Nat) (N : Nat → Nat) (p1 : Int32) (p2 : Int32) (p3 : Int32) (hmod : fModels = nI km) (hMD : MD km N vMany vCounts) (hno : ¬ (isN km p1 ∧ (0 ≤ p2 ∧ p2 ≤ vMany p1.toNatClampNeg - 1))) : MetI l y_M_count (Cond.code y_M_count prog_14_method_14_code 5 (some .int) :: gw) ({ frames := 3, cells := 0, slots := 0, locals := 65 } : Room) (dC, dI) vwCl (kT cI cM cO) [Value.ref o, Value.int p1, Value.int p2, Value.int p3] [(o, Sum.inr (9, mO g fForm fShift fModels fItems fEnded fLow fRange fCache fPend fGoes fOuts fIns fReads fBad fIR fAsk fBAsk fCode fRL fRR fX fWrites fThrown)), ((g 0), Sum.inl (cI, 8, Sum.inl vMany)), ((g 1), Sum.inl (cI, 512, Sum.inl vCounts))] sz (fun (r : Int32) (u : Unit) => r = -1) (fun (u : Unit) => [(o, Sum.inr (9, mO g fForm fShift fModels fItems fEnded fLow fRange fCache fPend fGoes fOuts fIns fReads fBad fIR fAsk fBAsk fCode fRL fRR fX fWrites 0)), ((g 0), Sum.inl (cI, 8, Sum.inl vMany)), ((g 1), Sum.inl (cI, 512, Sum.inl vCounts))]) 0 0 := by
  refine my_ofI (cc := prog_14_method_14_code) (n := 5) (ret := (some .int)) (by decide) rfl (Nat.le_of_ble_eq_true rfl) ?_
  intro p e s m args below meth c R Q A ls H locs hx hb hr hts hown hlocks hml hnm hR hQ hA hl hP hK hN hD hS
  have hg : ∀ w ∈ gw, w.before args s = true := fun w h => hts w (List.mem_cons_of_mem _ h)
  have hown : s.vm.findClass "RangeCodersModel" = some m.cls := hown
  have hl : lv_has ls 5 [(0, Value.ref o), (1, Value.int p1), (2, Value.int p2), (3, Value.int p3)] := hl
  refine lv_aload_n hx hb d_M_count_0 rfl (lv_at hl 0 rfl) ?_
  refine lv_iconst (v := 0) hx hb d_M_count_1 (by decide) ?_
  refine va_put (D := (dC, dI)) (ci := 9) (v := .int 0) (ty := .int) (C := "RangeCodersModel") (T := T_M) (N := 35) hx hb hg in_M t_M o_M n_M hown hK hP hD hS 0 rfl rfl 34 (by decide) (hg _ k986) (fun _ h9 => h9) rfl (o_M 34 (by decide)) rfl rfl (Nat.le_of_ble_eq_true rfl) d_M_count_2 (fun H locs hP hD hS => ?_)
  have hPD : my_PD (dC, dI) vwCl A [(o, Sum.inr (9, mO g fForm fShift fModels fItems fEnded fLow fRange fCache fPend fGoes fOuts fIns fReads fBad fIR fAsk fBAsk fCode fRL fRR fX fWrites 0)), ((g 0), Sum.inl (cI, 8, Sum.inl vMany)), ((g 1), Sum.inl (cI, 512, Sum.inl vCounts))] H := ⟨hP, hD⟩
  have hP := hPD.1
  have hD := hPD.2
  refine lv_aload_n hx hb d_M_count_5 rfl (lv_at hl 0 rfl) ?_
  refine lv_iload_n hx hb d_M_count_6 rfl (lv_at hl 1 rfl) ?_
  refine lv_iload_n hx hb d_M_count_7 rfl (lv_at hl 2 rfl) ?_
  refine my_ci (wr := [((g 1), Sum.inl (cI, 512, Sum.inl vCounts))]) (va_runV (As := [Value.int p1, Value.int p2]) (rest := []) ⟨hx, hb, hml, hown, hts⟩ (c_M_isSign l dC dI cI cM cO H.size o g fForm fShift fModels fItems fEnded fLow fRange fCache fPend fGoes fOuts fIns fReads fBad fIR fAsk fBAsk fCode fRL fRR fX fWrites 0 vMany km p1 p2 (hMD.1) (by first | assumption | omega)) (cwV 2 hts (my_gV k1069 k1071 ks25 k12 k1072) rfl rfl rfl cu_M_isSign_2 ⟨by rw [hR]; exact Nat.le_of_ble_eq_true rfl, by rw [hR]; exact Nat.le_of_ble_eq_true rfl⟩) (my_preV hK hN (hP.sub [0, 1] rfl) (hD.sub [0, 1] (by decide +kernel) rfl) 0 rfl rfl) rfl rfl hl.1 rfl (lv_room (Nat.le_of_ble_eq_true rfl)) d_M_count_8 ⟨by rw [hR]; exact Nat.le_of_ble_eq_true rfl, by rw [hR]; exact Nat.le_of_ble_eq_true rfl⟩) hP hD hS hA [0, 1] [2] rfl rfl (by decide +kernel) (by decide +kernel) (fun r_8 u9 H locs hw_8 hP hD hS => ?_)
  have hw_8 : r_8 = if isN km p1 ∧ (0 ≤ p2 ∧ p2 ≤ vMany p1.toNatClampNeg - 1) then 1 else 0 := hw_8
  have hPD : my_PD (dC, dI) vwCl A [((g 1), Sum.inl (cI, 512, Sum.inl vCounts)), (o, Sum.inr (9, mO g fForm fShift fModels fItems fEnded fLow fRange fCache fPend fGoes fOuts fIns fReads fBad fIR fAsk fBAsk fCode fRL fRR fX fWrites 0)), ((g 0), Sum.inl (cI, 8, Sum.inl vMany))] H := ⟨hP, hD⟩
  have hP := hPD.1
  have hD := hPD.2
  refine lv_if_ne (tgt := 16) hx hb d_M_count_11 (by decide) (fun c_1 => ?_) (fun c_1 => ?_)
  · exact absurd (one_ne hw_8 c_1) hno
  · refine lv_iconst (v := (-1)) hx hb d_M_count_14 (by decide) ?_
    exact my_iret (v := (-1)) hx hb hr (rfl) hlocks hQ hK hS (Nat.le_refl _) (Nat.le_refl _) () (rfl) (hP.sub [1, 2, 0] rfl) (hD.sub [1, 2, 0] (by decide +kernel) rfl) d_M_count_15
set_option maxHeartbeats 2000000 in
set_option maxRecDepth 100000 in
theorem m_putS (l : Launch) (dC : Nat → ClassId) (dI : Nat → Nat → Nat) (cI cM cO : ClassId) (sz : Nat) (o : Nat) (g : Nat → Nat) (fForm : Int32) (fShift : Int32) (fModels : Int32) (fItems : Int32) (fEnded : Int32) (fLow : Int64) (fRange : Int64) (fCache : Int32) (fPend : Int32) (fGoes : Int32) (fOuts : Int32) (fIns : Int32) (fReads : Int32) (fBad : Int32) (fIR : Int32) (fAsk : Int32) (fBAsk : Int32) (fCode : Int64) (fRL : Int64) (fRR : Int64) (fX : Int64) (fWrites : Int32) (fThrown : Int32) (vMany : Nat → Int32) (vCounts : Nat → Int32) (km : Nat) (N : Nat → Nat) (p1 : Int32) (p2 : Int32) (hmod : fModels = nI km) (hMD : MD km N vMany vCounts) (hno : ¬ (isN km p1 ∧ (0 ≤ p2 ∧ p2 ≤ vMany p1.toNatClampNeg - 1))) : MetI l y_M_put (Cond.code y_M_put prog_14_method_29_code 3 (some .int) :: gw) ({ frames := 3, cells := 0, slots := 0, locals := 65 } : Room) (dC, dI) vwCl (kT cI cM cO) [Value.ref o, Value.int p1, Value.int p2] [(o, Sum.inr (9, mO g fForm fShift fModels fItems fEnded fLow fRange fCache fPend fGoes fOuts fIns fReads fBad fIR fAsk fBAsk fCode fRL fRR fX fWrites fThrown)), ((g 0), Sum.inl (cI, 8, Sum.inl vMany)), ((g 1), Sum.inl (cI, 512, Sum.inl vCounts))] sz (fun (r : Int32) (u : Unit) => r = -1) (fun (u : Unit) => [(o, Sum.inr (9, mO g fForm fShift fModels fItems fEnded fLow fRange fCache fPend fGoes fOuts fIns fReads fBad fIR fAsk fBAsk fCode fRL fRR fX fWrites 0)), ((g 0), Sum.inl (cI, 8, Sum.inl vMany)), ((g 1), Sum.inl (cI, 512, Sum.inl vCounts))]) 0 0 := by
  refine my_ofI (cc := prog_14_method_29_code) (n := 3) (ret := (some .int)) (by decide) rfl (Nat.le_of_ble_eq_true rfl) ?_
  intro p e s m args below meth c R Q A ls H locs hx hb hr hts hown hlocks hml hnm hR hQ hA hl hP hK hN hD hS
  have hg : ∀ w ∈ gw, w.before args s = true := fun w h => hts w (List.mem_cons_of_mem _ h)
  have hown : s.vm.findClass "RangeCodersModel" = some m.cls := hown
  have hl : lv_has ls 3 [(0, Value.ref o), (1, Value.int p1), (2, Value.int p2)] := hl
  refine lv_aload_n hx hb d_M_put_0 rfl (lv_at hl 0 rfl) ?_
  refine lv_iconst (v := 0) hx hb d_M_put_1 (by decide) ?_
  refine va_put (D := (dC, dI)) (ci := 9) (v := .int 0) (ty := .int) (C := "RangeCodersModel") (T := T_M) (N := 35) hx hb hg in_M t_M o_M n_M hown hK hP hD hS 0 rfl rfl 34 (by decide) (hg _ k986) (fun _ h9 => h9) rfl (o_M 34 (by decide)) rfl rfl (Nat.le_of_ble_eq_true rfl) d_M_put_2 (fun H locs hP hD hS => ?_)
  have hPD : my_PD (dC, dI) vwCl A [(o, Sum.inr (9, mO g fForm fShift fModels fItems fEnded fLow fRange fCache fPend fGoes fOuts fIns fReads fBad fIR fAsk fBAsk fCode fRL fRR fX fWrites 0)), ((g 0), Sum.inl (cI, 8, Sum.inl vMany)), ((g 1), Sum.inl (cI, 512, Sum.inl vCounts))] H := ⟨hP, hD⟩
  have hP := hPD.1
  have hD := hPD.2
  refine lv_aload_n hx hb d_M_put_5 rfl (lv_at hl 0 rfl) ?_
  refine lv_iload_n hx hb d_M_put_6 rfl (lv_at hl 1 rfl) ?_
  refine lv_iload_n hx hb d_M_put_7 rfl (lv_at hl 2 rfl) ?_
  refine my_ci (wr := [((g 1), Sum.inl (cI, 512, Sum.inl vCounts))]) (va_runV (As := [Value.int p1, Value.int p2]) (rest := []) ⟨hx, hb, hml, hown, hts⟩ (c_M_isSign l dC dI cI cM cO H.size o g fForm fShift fModels fItems fEnded fLow fRange fCache fPend fGoes fOuts fIns fReads fBad fIR fAsk fBAsk fCode fRL fRR fX fWrites 0 vMany km p1 p2 (hMD.1) (by first | assumption | omega)) (cwV 2 hts (my_gV k1069 k1071 ks25 k12 k1072) rfl rfl rfl cu_M_isSign_2 ⟨by rw [hR]; exact Nat.le_of_ble_eq_true rfl, by rw [hR]; exact Nat.le_of_ble_eq_true rfl⟩) (my_preV hK hN (hP.sub [0, 1] rfl) (hD.sub [0, 1] (by decide +kernel) rfl) 0 rfl rfl) rfl rfl hl.1 rfl (lv_room (Nat.le_of_ble_eq_true rfl)) d_M_put_8 ⟨by rw [hR]; exact Nat.le_of_ble_eq_true rfl, by rw [hR]; exact Nat.le_of_ble_eq_true rfl⟩) hP hD hS hA [0, 1] [2] rfl rfl (by decide +kernel) (by decide +kernel) (fun r_8 u9 H locs hw_8 hP hD hS => ?_)
  have hw_8 : r_8 = if isN km p1 ∧ (0 ≤ p2 ∧ p2 ≤ vMany p1.toNatClampNeg - 1) then 1 else 0 := hw_8
  have hPD : my_PD (dC, dI) vwCl A [((g 1), Sum.inl (cI, 512, Sum.inl vCounts)), (o, Sum.inr (9, mO g fForm fShift fModels fItems fEnded fLow fRange fCache fPend fGoes fOuts fIns fReads fBad fIR fAsk fBAsk fCode fRL fRR fX fWrites 0)), ((g 0), Sum.inl (cI, 8, Sum.inl vMany))] H := ⟨hP, hD⟩
  have hP := hPD.1
  have hD := hPD.2
  refine lv_if_ne (tgt := 16) hx hb d_M_put_11 (by decide) (fun c_1 => ?_) (fun c_1 => ?_)
  · exact absurd (one_ne hw_8 c_1) hno
  · refine lv_iconst (v := (-1)) hx hb d_M_put_14 (by decide) ?_
    exact my_iret (v := (-1)) hx hb hr (rfl) hlocks hQ hK hS (Nat.le_refl _) (Nat.le_refl _) () (rfl) (hP.sub [1, 2, 0] rfl) (hD.sub [1, 2, 0] (by decide +kernel) rfl) d_M_put_15
set_option maxHeartbeats 2000000 in
set_option maxRecDepth 100000 in
theorem m_countV (l : Launch) (dC : Nat → ClassId) (dI : Nat → Nat → Nat) (cI cM cO : ClassId) (sz : Nat) (o : Nat) (g : Nat → Nat) (fForm : Int32) (fShift : Int32) (fModels : Int32) (fItems : Int32) (fEnded : Int32) (fLow : Int64) (fRange : Int64) (fCache : Int32) (fPend : Int32) (fGoes : Int32) (fOuts : Int32) (fIns : Int32) (fReads : Int32) (fBad : Int32) (fIR : Int32) (fAsk : Int32) (fBAsk : Int32) (fCode : Int64) (fRL : Int64) (fRR : Int64) (fX : Int64) (fWrites : Int32) (fThrown : Int32) (vMany : Nat → Int32) (vCounts : Nat → Int32) (km : Nat) (N : Nat → Nat) (jj : Nat) (tt : Nat) (p3 : Int32) (hmod : fModels = nI km) (hMD : MD km N vMany vCounts) (hj : jj < km) (ht : tt < N jj) (hvv : p3 < 0 ∨ 4095 < p3) : MetI l y_M_count (Cond.code y_M_count prog_14_method_14_code 5 (some .int) :: gw) ({ frames := 3, cells := 0, slots := 0, locals := 65 } : Room) (dC, dI) vwCl (kT cI cM cO) [Value.ref o, Value.int (nI jj), Value.int (nI tt), Value.int p3] [(o, Sum.inr (9, mO g fForm fShift fModels fItems fEnded fLow fRange fCache fPend fGoes fOuts fIns fReads fBad fIR fAsk fBAsk fCode fRL fRR fX fWrites fThrown)), ((g 0), Sum.inl (cI, 8, Sum.inl vMany)), ((g 1), Sum.inl (cI, 512, Sum.inl vCounts))] sz (fun (r : Int32) (u : Unit) => r = -2) (fun (u : Unit) => [(o, Sum.inr (9, mO g fForm fShift fModels fItems fEnded fLow fRange fCache fPend fGoes fOuts fIns fReads fBad fIR fAsk fBAsk fCode fRL fRR fX fWrites 0)), ((g 0), Sum.inl (cI, 8, Sum.inl vMany)), ((g 1), Sum.inl (cI, 512, Sum.inl vCounts))]) 0 0 := by
  refine my_ofI (cc := prog_14_method_14_code) (n := 5) (ret := (some .int)) (by decide) rfl (Nat.le_of_ble_eq_true rfl) ?_
  intro p e s m args below meth c R Q A ls H locs hx hb hr hts hown hlocks hml hnm hR hQ hA hl hP hK hN hD hS
  have hg : ∀ w ∈ gw, w.before args s = true := fun w h => hts w (List.mem_cons_of_mem _ h)
  have hown : s.vm.findClass "RangeCodersModel" = some m.cls := hown
  have hl : lv_has ls 5 [(0, Value.ref o), (1, Value.int (nI jj)), (2, Value.int (nI tt)), (3, Value.int p3)] := hl
  refine lv_aload_n hx hb d_M_count_0 rfl (lv_at hl 0 rfl) ?_
  refine lv_iconst (v := 0) hx hb d_M_count_1 (by decide) ?_
  refine va_put (D := (dC, dI)) (ci := 9) (v := .int 0) (ty := .int) (C := "RangeCodersModel") (T := T_M) (N := 35) hx hb hg in_M t_M o_M n_M hown hK hP hD hS 0 rfl rfl 34 (by decide) (hg _ k986) (fun _ h9 => h9) rfl (o_M 34 (by decide)) rfl rfl (Nat.le_of_ble_eq_true rfl) d_M_count_2 (fun H locs hP hD hS => ?_)
  have hPD : my_PD (dC, dI) vwCl A [(o, Sum.inr (9, mO g fForm fShift fModels fItems fEnded fLow fRange fCache fPend fGoes fOuts fIns fReads fBad fIR fAsk fBAsk fCode fRL fRR fX fWrites 0)), ((g 0), Sum.inl (cI, 8, Sum.inl vMany)), ((g 1), Sum.inl (cI, 512, Sum.inl vCounts))] H := ⟨hP, hD⟩
  have hP := hPD.1
  have hD := hPD.2
  refine lv_aload_n hx hb d_M_count_5 rfl (lv_at hl 0 rfl) ?_
  refine lv_iload_n hx hb d_M_count_6 rfl (lv_at hl 1 rfl) ?_
  refine lv_iload_n hx hb d_M_count_7 rfl (lv_at hl 2 rfl) ?_
  refine my_ci (wr := [((g 1), Sum.inl (cI, 512, Sum.inl vCounts))]) (va_runV (As := [Value.int (nI jj), Value.int (nI tt)]) (rest := []) ⟨hx, hb, hml, hown, hts⟩ (c_M_isSign l dC dI cI cM cO H.size o g fForm fShift fModels fItems fEnded fLow fRange fCache fPend fGoes fOuts fIns fReads fBad fIR fAsk fBAsk fCode fRL fRR fX fWrites 0 vMany km (nI jj) (nI tt) (hMD.1) (by first | assumption | omega)) (cwV 2 hts (my_gV k1069 k1071 ks25 k12 k1072) rfl rfl rfl cu_M_isSign_2 ⟨by rw [hR]; exact Nat.le_of_ble_eq_true rfl, by rw [hR]; exact Nat.le_of_ble_eq_true rfl⟩) (my_preV hK hN (hP.sub [0, 1] rfl) (hD.sub [0, 1] (by decide +kernel) rfl) 0 rfl rfl) rfl rfl hl.1 rfl (lv_room (Nat.le_of_ble_eq_true rfl)) d_M_count_8 ⟨by rw [hR]; exact Nat.le_of_ble_eq_true rfl, by rw [hR]; exact Nat.le_of_ble_eq_true rfl⟩) hP hD hS hA [0, 1] [2] rfl rfl (by decide +kernel) (by decide +kernel) (fun r_8 u9 H locs hw_8 hP hD hS => ?_)
  have hw_8 : r_8 = if isN km (nI jj) ∧ (0 ≤ (nI tt) ∧ (nI tt) ≤ vMany (nI jj).toNatClampNeg - 1) then 1 else 0 := hw_8
  have hPD : my_PD (dC, dI) vwCl A [((g 1), Sum.inl (cI, 512, Sum.inl vCounts)), (o, Sum.inr (9, mO g fForm fShift fModels fItems fEnded fLow fRange fCache fPend fGoes fOuts fIns fReads fBad fIR fAsk fBAsk fCode fRL fRR fX fWrites 0)), ((g 0), Sum.inl (cI, 8, Sum.inl vMany))] H := ⟨hP, hD⟩
  have hP := hPD.1
  have hD := hPD.2
  refine lv_if_ne (tgt := 16) hx hb d_M_count_11 (by decide) (fun c_1 => ?_) (fun c_1 => ?_)
  · refine lv_iload_n hx hb d_M_count_16 rfl (lv_at hl 3 rfl) ?_
    refine lv_iconst (v := 0) hx hb d_M_count_17 (by decide) ?_
    refine lv_sipush (v := 4095) hx hb d_M_count_18 (by decide) ?_
    refine my_ci (wr := [((g 1), Sum.inl (cI, 512, Sum.inl vCounts)), (o, Sum.inr (9, mO g fForm fShift fModels fItems fEnded fLow fRange fCache fPend fGoes fOuts fIns fReads fBad fIR fAsk fBAsk fCode fRL fRR fX fWrites 0)), ((g 0), Sum.inl (cI, 8, Sum.inl vMany))]) (va_runS (As := [Value.int p3, Value.int 0, Value.int 4095]) (rest := []) ⟨hx, hb, hml, hown, hts⟩ (c_M_in l dC dI cI cM cO H.size p3 0 4095) (cwS 3 hts (my_gS k1062 k1063 k12 k1064) rfl rfl rfl (by decide +kernel) ⟨by rw [hR]; exact Nat.le_of_ble_eq_true rfl, by rw [hR]; exact Nat.le_of_ble_eq_true rfl⟩) (my_pre hK hN (hP.sub [] rfl) (hD.sub [] (by decide +kernel) rfl)) rfl rfl hl.1 rfl (lv_room (Nat.le_of_ble_eq_true rfl)) d_M_count_21 ⟨by rw [hR]; exact Nat.le_of_ble_eq_true rfl, by rw [hR]; exact Nat.le_of_ble_eq_true rfl⟩) hP hD hS hA [] [0, 1, 2] rfl rfl (by decide +kernel) (by decide +kernel) (fun r_21 u9 H locs hw_21 hP hD hS => ?_)
    have hw_21 : r_21 = if 0 ≤ p3 ∧ p3 ≤ 4095 then 1 else 0 := hw_21
    have hPD : my_PD (dC, dI) vwCl A [((g 1), Sum.inl (cI, 512, Sum.inl vCounts)), (o, Sum.inr (9, mO g fForm fShift fModels fItems fEnded fLow fRange fCache fPend fGoes fOuts fIns fReads fBad fIR fAsk fBAsk fCode fRL fRR fX fWrites 0)), ((g 0), Sum.inl (cI, 8, Sum.inl vMany))] H := ⟨hP, hD⟩
    have hP := hPD.1
    have hD := hPD.2
    refine lv_if_ne (tgt := 30) hx hb d_M_count_24 (by decide) (fun c_2 => ?_) (fun c_2 => ?_)
    · exact absurd hvv (fun h9 => h9.elim (fun q9 => absurd (one_ne hw_21 c_2).1 (Int32.not_le.mpr q9)) (fun q9 => absurd (one_ne hw_21 c_2).2 (Int32.not_le.mpr q9)))
    · refine lv_bipush (v := (-2)) hx hb d_M_count_27 (by decide) ?_
      exact my_iret (v := (-2)) hx hb hr (rfl) hlocks hQ hK hS (Nat.le_refl _) (Nat.le_refl _) () (rfl) (hP.sub [1, 2, 0] rfl) (hD.sub [1, 2, 0] (by decide +kernel) rfl) d_M_count_29
  · exact absurd (sg_yes hMD hj ht) (one_eq hw_8 c_1)
set_option maxHeartbeats 2000000 in
set_option maxRecDepth 100000 in
theorem m_countN (l : Launch) (dC : Nat → ClassId) (dI : Nat → Nat → Nat) (cI cM cO : ClassId) (sz : Nat) (o : Nat) (g : Nat → Nat) (fForm : Int32) (fShift : Int32) (fModels : Int32) (fItems : Int32) (fEnded : Int32) (fLow : Int64) (fRange : Int64) (fCache : Int32) (fPend : Int32) (fGoes : Int32) (fOuts : Int32) (fIns : Int32) (fReads : Int32) (fBad : Int32) (fIR : Int32) (fAsk : Int32) (fBAsk : Int32) (fCode : Int64) (fRL : Int64) (fRR : Int64) (fX : Int64) (fWrites : Int32) (fThrown : Int32) (vMany : Nat → Int32) (vCounts : Nat → Int32) (km : Nat) (N : Nat → Nat) (jj : Nat) (tt : Nat) (cc : Nat) (hmod : fModels = nI km) (hMD : MD km N vMany vCounts) (hj : jj < km) (ht : tt < N jj) (hcc : cc ≤ 4095) (hnn : (0 < fItems ∧ fEnded = 0) ∨ ¬ fReads = 0) : MetI l y_M_count (Cond.code y_M_count prog_14_method_14_code 5 (some .int) :: gw) ({ frames := 3, cells := 0, slots := 0, locals := 65 } : Room) (dC, dI) vwCl (kT cI cM cO) [Value.ref o, Value.int (nI jj), Value.int (nI tt), Value.int (nI cc)] [(o, Sum.inr (9, mO g fForm fShift fModels fItems fEnded fLow fRange fCache fPend fGoes fOuts fIns fReads fBad fIR fAsk fBAsk fCode fRL fRR fX fWrites fThrown)), ((g 0), Sum.inl (cI, 8, Sum.inl vMany)), ((g 1), Sum.inl (cI, 512, Sum.inl vCounts))] sz (fun (r : Int32) (u : Unit) => r = -3) (fun (u : Unit) => [(o, Sum.inr (9, mO g fForm fShift fModels fItems fEnded fLow fRange fCache fPend fGoes fOuts fIns fReads fBad fIR fAsk fBAsk fCode fRL fRR fX fWrites 0)), ((g 0), Sum.inl (cI, 8, Sum.inl vMany)), ((g 1), Sum.inl (cI, 512, Sum.inl vCounts))]) 0 0 := by
  refine my_ofI (cc := prog_14_method_14_code) (n := 5) (ret := (some .int)) (by decide) rfl (Nat.le_of_ble_eq_true rfl) ?_
  intro p e s m args below meth c R Q A ls H locs hx hb hr hts hown hlocks hml hnm hR hQ hA hl hP hK hN hD hS
  have hg : ∀ w ∈ gw, w.before args s = true := fun w h => hts w (List.mem_cons_of_mem _ h)
  have hown : s.vm.findClass "RangeCodersModel" = some m.cls := hown
  have hl : lv_has ls 5 [(0, Value.ref o), (1, Value.int (nI jj)), (2, Value.int (nI tt)), (3, Value.int (nI cc))] := hl
  refine lv_aload_n hx hb d_M_count_0 rfl (lv_at hl 0 rfl) ?_
  refine lv_iconst (v := 0) hx hb d_M_count_1 (by decide) ?_
  refine va_put (D := (dC, dI)) (ci := 9) (v := .int 0) (ty := .int) (C := "RangeCodersModel") (T := T_M) (N := 35) hx hb hg in_M t_M o_M n_M hown hK hP hD hS 0 rfl rfl 34 (by decide) (hg _ k986) (fun _ h9 => h9) rfl (o_M 34 (by decide)) rfl rfl (Nat.le_of_ble_eq_true rfl) d_M_count_2 (fun H locs hP hD hS => ?_)
  have hPD : my_PD (dC, dI) vwCl A [(o, Sum.inr (9, mO g fForm fShift fModels fItems fEnded fLow fRange fCache fPend fGoes fOuts fIns fReads fBad fIR fAsk fBAsk fCode fRL fRR fX fWrites 0)), ((g 0), Sum.inl (cI, 8, Sum.inl vMany)), ((g 1), Sum.inl (cI, 512, Sum.inl vCounts))] H := ⟨hP, hD⟩
  have hP := hPD.1
  have hD := hPD.2
  refine lv_aload_n hx hb d_M_count_5 rfl (lv_at hl 0 rfl) ?_
  refine lv_iload_n hx hb d_M_count_6 rfl (lv_at hl 1 rfl) ?_
  refine lv_iload_n hx hb d_M_count_7 rfl (lv_at hl 2 rfl) ?_
  refine my_ci (wr := [((g 1), Sum.inl (cI, 512, Sum.inl vCounts))]) (va_runV (As := [Value.int (nI jj), Value.int (nI tt)]) (rest := []) ⟨hx, hb, hml, hown, hts⟩ (c_M_isSign l dC dI cI cM cO H.size o g fForm fShift fModels fItems fEnded fLow fRange fCache fPend fGoes fOuts fIns fReads fBad fIR fAsk fBAsk fCode fRL fRR fX fWrites 0 vMany km (nI jj) (nI tt) (hMD.1) (by first | assumption | omega)) (cwV 2 hts (my_gV k1069 k1071 ks25 k12 k1072) rfl rfl rfl cu_M_isSign_2 ⟨by rw [hR]; exact Nat.le_of_ble_eq_true rfl, by rw [hR]; exact Nat.le_of_ble_eq_true rfl⟩) (my_preV hK hN (hP.sub [0, 1] rfl) (hD.sub [0, 1] (by decide +kernel) rfl) 0 rfl rfl) rfl rfl hl.1 rfl (lv_room (Nat.le_of_ble_eq_true rfl)) d_M_count_8 ⟨by rw [hR]; exact Nat.le_of_ble_eq_true rfl, by rw [hR]; exact Nat.le_of_ble_eq_true rfl⟩) hP hD hS hA [0, 1] [2] rfl rfl (by decide +kernel) (by decide +kernel) (fun r_8 u9 H locs hw_8 hP hD hS => ?_)
  have hw_8 : r_8 = if isN km (nI jj) ∧ (0 ≤ (nI tt) ∧ (nI tt) ≤ vMany (nI jj).toNatClampNeg - 1) then 1 else 0 := hw_8
  have hPD : my_PD (dC, dI) vwCl A [((g 1), Sum.inl (cI, 512, Sum.inl vCounts)), (o, Sum.inr (9, mO g fForm fShift fModels fItems fEnded fLow fRange fCache fPend fGoes fOuts fIns fReads fBad fIR fAsk fBAsk fCode fRL fRR fX fWrites 0)), ((g 0), Sum.inl (cI, 8, Sum.inl vMany))] H := ⟨hP, hD⟩
  have hP := hPD.1
  have hD := hPD.2
  refine lv_if_ne (tgt := 16) hx hb d_M_count_11 (by decide) (fun c_1 => ?_) (fun c_1 => ?_)
  · refine lv_iload_n hx hb d_M_count_16 rfl (lv_at hl 3 rfl) ?_
    refine lv_iconst (v := 0) hx hb d_M_count_17 (by decide) ?_
    refine lv_sipush (v := 4095) hx hb d_M_count_18 (by decide) ?_
    refine my_ci (wr := [((g 1), Sum.inl (cI, 512, Sum.inl vCounts)), (o, Sum.inr (9, mO g fForm fShift fModels fItems fEnded fLow fRange fCache fPend fGoes fOuts fIns fReads fBad fIR fAsk fBAsk fCode fRL fRR fX fWrites 0)), ((g 0), Sum.inl (cI, 8, Sum.inl vMany))]) (va_runS (As := [Value.int (nI cc), Value.int 0, Value.int 4095]) (rest := []) ⟨hx, hb, hml, hown, hts⟩ (c_M_in l dC dI cI cM cO H.size (nI cc) 0 4095) (cwS 3 hts (my_gS k1062 k1063 k12 k1064) rfl rfl rfl (by decide +kernel) ⟨by rw [hR]; exact Nat.le_of_ble_eq_true rfl, by rw [hR]; exact Nat.le_of_ble_eq_true rfl⟩) (my_pre hK hN (hP.sub [] rfl) (hD.sub [] (by decide +kernel) rfl)) rfl rfl hl.1 rfl (lv_room (Nat.le_of_ble_eq_true rfl)) d_M_count_21 ⟨by rw [hR]; exact Nat.le_of_ble_eq_true rfl, by rw [hR]; exact Nat.le_of_ble_eq_true rfl⟩) hP hD hS hA [] [0, 1, 2] rfl rfl (by decide +kernel) (by decide +kernel) (fun r_21 u9 H locs hw_21 hP hD hS => ?_)
    have hw_21 : r_21 = if 0 ≤ (nI cc) ∧ (nI cc) ≤ 4095 then 1 else 0 := hw_21
    have hPD : my_PD (dC, dI) vwCl A [((g 1), Sum.inl (cI, 512, Sum.inl vCounts)), (o, Sum.inr (9, mO g fForm fShift fModels fItems fEnded fLow fRange fCache fPend fGoes fOuts fIns fReads fBad fIR fAsk fBAsk fCode fRL fRR fX fWrites 0)), ((g 0), Sum.inl (cI, 8, Sum.inl vMany))] H := ⟨hP, hD⟩
    have hP := hPD.1
    have hD := hPD.2
    refine lv_if_ne (tgt := 30) hx hb d_M_count_24 (by decide) (fun c_2 => ?_) (fun c_2 => ?_)
    · refine lv_aload_n hx hb d_M_count_30 rfl (lv_at hl 0 rfl) ?_
      refine va_get (D := (dC, dI)) (ci := 9) (v := .int fItems) (C := "RangeCodersModel") (T := T_M) (N := 35) hx hb hg in_M hown hK hP 1 rfl rfl 7 (by decide) (hg _ k959) (fun _ h9 => h9) rfl d_M_count_31 ?_
      refine lv_if_le (tgt := 44) hx hb d_M_count_34 (by decide) (fun c_3 => ?_) (fun c_3 => ?_)
      · refine lv_aload_n hx hb d_M_count_44 rfl (lv_at hl 0 rfl) ?_
        refine va_get (D := (dC, dI)) (ci := 9) (v := .int fReads) (C := "RangeCodersModel") (T := T_M) (N := 35) hx hb hg in_M hown hK hP 1 rfl rfl 21 (by decide) (hg _ k973) (fun _ h9 => h9) rfl d_M_count_45 ?_
        refine lv_if_eq (tgt := 54) hx hb d_M_count_48 (by decide) (fun c_4 => ?_) (fun c_4 => ?_)
        · exact absurd hnn (fun h9 => h9.elim (fun q9 => absurd q9.1 (Int32.not_lt.mpr c_3)) (fun q9 => q9 c_4))
        · refine lv_bipush (v := (-3)) hx hb d_M_count_51 (by decide) ?_
          exact my_iret (v := (-3)) hx hb hr (rfl) hlocks hQ hK hS (Nat.le_refl _) (Nat.le_refl _) () (rfl) (hP.sub [1, 2, 0] rfl) (hD.sub [1, 2, 0] (by decide +kernel) rfl) d_M_count_53
      · refine lv_aload_n hx hb d_M_count_37 rfl (lv_at hl 0 rfl) ?_
        refine va_get (D := (dC, dI)) (ci := 9) (v := .int fEnded) (C := "RangeCodersModel") (T := T_M) (N := 35) hx hb hg in_M hown hK hP 1 rfl rfl 10 (by decide) (hg _ k962) (fun _ h9 => h9) rfl d_M_count_38 ?_
        refine lv_if_eq (tgt := 51) hx hb d_M_count_41 (by decide) (fun c_5 => ?_) (fun c_5 => ?_)
        · refine lv_bipush (v := (-3)) hx hb d_M_count_51 (by decide) ?_
          exact my_iret (v := (-3)) hx hb hr (rfl) hlocks hQ hK hS (Nat.le_refl _) (Nat.le_refl _) () (rfl) (hP.sub [1, 2, 0] rfl) (hD.sub [1, 2, 0] (by decide +kernel) rfl) d_M_count_53
        · refine lv_aload_n hx hb d_M_count_44 rfl (lv_at hl 0 rfl) ?_
          refine va_get (D := (dC, dI)) (ci := 9) (v := .int fReads) (C := "RangeCodersModel") (T := T_M) (N := 35) hx hb hg in_M hown hK hP 1 rfl rfl 21 (by decide) (hg _ k973) (fun _ h9 => h9) rfl d_M_count_45 ?_
          refine lv_if_eq (tgt := 54) hx hb d_M_count_48 (by decide) (fun c_6 => ?_) (fun c_6 => ?_)
          · exact absurd hnn (fun h9 => h9.elim (fun q9 => c_5 q9.2) (fun q9 => q9 c_6))
          · refine lv_bipush (v := (-3)) hx hb d_M_count_51 (by decide) ?_
            exact my_iret (v := (-3)) hx hb hr (rfl) hlocks hQ hK hS (Nat.le_refl _) (Nat.le_refl _) () (rfl) (hP.sub [1, 2, 0] rfl) (hD.sub [1, 2, 0] (by decide +kernel) rfl) d_M_count_53
    · exact absurd ⟨nI_pos' (by omega), nI_le (b := 4095) hcc (by decide)⟩ (one_eq hw_21 c_2)
  · exact absurd (sg_yes hMD hj ht) (one_eq hw_8 c_1)
set_option maxHeartbeats 2000000 in
set_option maxRecDepth 100000 in
theorem m_countE (l : Launch) (dC : Nat → ClassId) (dI : Nat → Nat → Nat) (cI cM cO : ClassId) (sz : Nat) (o : Nat) (g : Nat → Nat) (fForm : Int32) (fShift : Int32) (fModels : Int32) (fItems : Int32) (fEnded : Int32) (fLow : Int64) (fRange : Int64) (fCache : Int32) (fPend : Int32) (fGoes : Int32) (fOuts : Int32) (fIns : Int32) (fReads : Int32) (fBad : Int32) (fIR : Int32) (fAsk : Int32) (fBAsk : Int32) (fCode : Int64) (fRL : Int64) (fRR : Int64) (fX : Int64) (fWrites : Int32) (fThrown : Int32) (vMany : Nat → Int32) (vCounts : Nat → Int32) (km : Nat) (N : Nat → Nat) (jj : Nat) (tt : Nat) (cc : Nat) (hmod : fModels = nI km) (hMD : MD km N vMany vCounts) (hj : jj < km) (ht : tt < N jj) (hcc : cc ≤ 4095) (hen : ¬ fEnded = 0) (hrd : fReads = 0) : MetI l y_M_count (Cond.code y_M_count prog_14_method_14_code 5 (some .int) :: gw) ({ frames := 3, cells := 0, slots := 0, locals := 65 } : Room) (dC, dI) vwCl (kT cI cM cO) [Value.ref o, Value.int (nI jj), Value.int (nI tt), Value.int (nI cc)] [(o, Sum.inr (9, mO g fForm fShift fModels fItems fEnded fLow fRange fCache fPend fGoes fOuts fIns fReads fBad fIR fAsk fBAsk fCode fRL fRR fX fWrites fThrown)), ((g 0), Sum.inl (cI, 8, Sum.inl vMany)), ((g 1), Sum.inl (cI, 512, Sum.inl vCounts))] sz (fun (r : Int32) (u : (Nat → Int32)) => r = vCounts (64 * jj + tt) ∧ u = upd vCounts (64 * jj + tt) (nI cc)) (fun (u : (Nat → Int32)) => [(o, Sum.inr (9, mO g fForm fShift fModels fItems fEnded fLow fRange fCache fPend fGoes fOuts fIns fReads fBad fIR fAsk fBAsk fCode fRL fRR fX fWrites 0)), ((g 0), Sum.inl (cI, 8, Sum.inl vMany)), ((g 1), Sum.inl (cI, 512, Sum.inl u))]) 0 0 := by
  refine my_ofI (cc := prog_14_method_14_code) (n := 5) (ret := (some .int)) (by decide) rfl (Nat.le_of_ble_eq_true rfl) ?_
  intro p e s m args below meth c R Q A ls H locs hx hb hr hts hown hlocks hml hnm hR hQ hA hl hP hK hN hD hS
  have hg : ∀ w ∈ gw, w.before args s = true := fun w h => hts w (List.mem_cons_of_mem _ h)
  have hown : s.vm.findClass "RangeCodersModel" = some m.cls := hown
  have hl : lv_has ls 5 [(0, Value.ref o), (1, Value.int (nI jj)), (2, Value.int (nI tt)), (3, Value.int (nI cc))] := hl
  have hk8 := hMD.1
  obtain ⟨hn9, hn2, hn64, C9, hc9, hB9⟩ := hMD.2 jj hj
  refine lv_aload_n hx hb d_M_count_0 rfl (lv_at hl 0 rfl) ?_
  refine lv_iconst (v := 0) hx hb d_M_count_1 (by decide) ?_
  refine va_put (D := (dC, dI)) (ci := 9) (v := .int 0) (ty := .int) (C := "RangeCodersModel") (T := T_M) (N := 35) hx hb hg in_M t_M o_M n_M hown hK hP hD hS 0 rfl rfl 34 (by decide) (hg _ k986) (fun _ h9 => h9) rfl (o_M 34 (by decide)) rfl rfl (Nat.le_of_ble_eq_true rfl) d_M_count_2 (fun H locs hP hD hS => ?_)
  have hPD : my_PD (dC, dI) vwCl A [(o, Sum.inr (9, mO g fForm fShift fModels fItems fEnded fLow fRange fCache fPend fGoes fOuts fIns fReads fBad fIR fAsk fBAsk fCode fRL fRR fX fWrites 0)), ((g 0), Sum.inl (cI, 8, Sum.inl vMany)), ((g 1), Sum.inl (cI, 512, Sum.inl vCounts))] H := ⟨hP, hD⟩
  have hP := hPD.1
  have hD := hPD.2
  refine lv_aload_n hx hb d_M_count_5 rfl (lv_at hl 0 rfl) ?_
  refine lv_iload_n hx hb d_M_count_6 rfl (lv_at hl 1 rfl) ?_
  refine lv_iload_n hx hb d_M_count_7 rfl (lv_at hl 2 rfl) ?_
  refine my_ci (wr := [((g 1), Sum.inl (cI, 512, Sum.inl vCounts))]) (va_runV (As := [Value.int (nI jj), Value.int (nI tt)]) (rest := []) ⟨hx, hb, hml, hown, hts⟩ (c_M_isSign l dC dI cI cM cO H.size o g fForm fShift fModels fItems fEnded fLow fRange fCache fPend fGoes fOuts fIns fReads fBad fIR fAsk fBAsk fCode fRL fRR fX fWrites 0 vMany km (nI jj) (nI tt) (hMD.1) (by first | assumption | omega)) (cwV 2 hts (my_gV k1069 k1071 ks25 k12 k1072) rfl rfl rfl cu_M_isSign_2 ⟨by rw [hR]; exact Nat.le_of_ble_eq_true rfl, by rw [hR]; exact Nat.le_of_ble_eq_true rfl⟩) (my_preV hK hN (hP.sub [0, 1] rfl) (hD.sub [0, 1] (by decide +kernel) rfl) 0 rfl rfl) rfl rfl hl.1 rfl (lv_room (Nat.le_of_ble_eq_true rfl)) d_M_count_8 ⟨by rw [hR]; exact Nat.le_of_ble_eq_true rfl, by rw [hR]; exact Nat.le_of_ble_eq_true rfl⟩) hP hD hS hA [0, 1] [2] rfl rfl (by decide +kernel) (by decide +kernel) (fun r_8 u9 H locs hw_8 hP hD hS => ?_)
  have hw_8 : r_8 = if isN km (nI jj) ∧ (0 ≤ (nI tt) ∧ (nI tt) ≤ vMany (nI jj).toNatClampNeg - 1) then 1 else 0 := hw_8
  have hPD : my_PD (dC, dI) vwCl A [((g 1), Sum.inl (cI, 512, Sum.inl vCounts)), (o, Sum.inr (9, mO g fForm fShift fModels fItems fEnded fLow fRange fCache fPend fGoes fOuts fIns fReads fBad fIR fAsk fBAsk fCode fRL fRR fX fWrites 0)), ((g 0), Sum.inl (cI, 8, Sum.inl vMany))] H := ⟨hP, hD⟩
  have hP := hPD.1
  have hD := hPD.2
  refine lv_if_ne (tgt := 16) hx hb d_M_count_11 (by decide) (fun c_1 => ?_) (fun c_1 => ?_)
  · refine lv_iload_n hx hb d_M_count_16 rfl (lv_at hl 3 rfl) ?_
    refine lv_iconst (v := 0) hx hb d_M_count_17 (by decide) ?_
    refine lv_sipush (v := 4095) hx hb d_M_count_18 (by decide) ?_
    refine my_ci (wr := [((g 1), Sum.inl (cI, 512, Sum.inl vCounts)), (o, Sum.inr (9, mO g fForm fShift fModels fItems fEnded fLow fRange fCache fPend fGoes fOuts fIns fReads fBad fIR fAsk fBAsk fCode fRL fRR fX fWrites 0)), ((g 0), Sum.inl (cI, 8, Sum.inl vMany))]) (va_runS (As := [Value.int (nI cc), Value.int 0, Value.int 4095]) (rest := []) ⟨hx, hb, hml, hown, hts⟩ (c_M_in l dC dI cI cM cO H.size (nI cc) 0 4095) (cwS 3 hts (my_gS k1062 k1063 k12 k1064) rfl rfl rfl (by decide +kernel) ⟨by rw [hR]; exact Nat.le_of_ble_eq_true rfl, by rw [hR]; exact Nat.le_of_ble_eq_true rfl⟩) (my_pre hK hN (hP.sub [] rfl) (hD.sub [] (by decide +kernel) rfl)) rfl rfl hl.1 rfl (lv_room (Nat.le_of_ble_eq_true rfl)) d_M_count_21 ⟨by rw [hR]; exact Nat.le_of_ble_eq_true rfl, by rw [hR]; exact Nat.le_of_ble_eq_true rfl⟩) hP hD hS hA [] [0, 1, 2] rfl rfl (by decide +kernel) (by decide +kernel) (fun r_21 u9 H locs hw_21 hP hD hS => ?_)
    have hw_21 : r_21 = if 0 ≤ (nI cc) ∧ (nI cc) ≤ 4095 then 1 else 0 := hw_21
    have hPD : my_PD (dC, dI) vwCl A [((g 1), Sum.inl (cI, 512, Sum.inl vCounts)), (o, Sum.inr (9, mO g fForm fShift fModels fItems fEnded fLow fRange fCache fPend fGoes fOuts fIns fReads fBad fIR fAsk fBAsk fCode fRL fRR fX fWrites 0)), ((g 0), Sum.inl (cI, 8, Sum.inl vMany))] H := ⟨hP, hD⟩
    have hP := hPD.1
    have hD := hPD.2
    refine lv_if_ne (tgt := 30) hx hb d_M_count_24 (by decide) (fun c_2 => ?_) (fun c_2 => ?_)
    · refine lv_aload_n hx hb d_M_count_30 rfl (lv_at hl 0 rfl) ?_
      refine va_get (D := (dC, dI)) (ci := 9) (v := .int fItems) (C := "RangeCodersModel") (T := T_M) (N := 35) hx hb hg in_M hown hK hP 1 rfl rfl 7 (by decide) (hg _ k959) (fun _ h9 => h9) rfl d_M_count_31 ?_
      refine lv_if_le (tgt := 44) hx hb d_M_count_34 (by decide) (fun c_3 => ?_) (fun c_3 => ?_)
      · refine lv_aload_n hx hb d_M_count_44 rfl (lv_at hl 0 rfl) ?_
        refine va_get (D := (dC, dI)) (ci := 9) (v := .int fReads) (C := "RangeCodersModel") (T := T_M) (N := 35) hx hb hg in_M hown hK hP 1 rfl rfl 21 (by decide) (hg _ k973) (fun _ h9 => h9) rfl d_M_count_45 ?_
        refine lv_if_eq (tgt := 54) hx hb d_M_count_48 (by decide) (fun c_4 => ?_) (fun c_4 => ?_)
        · refine lv_aload_n hx hb d_M_count_54 rfl (lv_at hl 0 rfl) ?_
          refine va_get (D := (dC, dI)) (ci := 9) (v := .ref (g 1)) (C := "RangeCodersModel") (T := T_M) (N := 35) hx hb hg in_M hown hK hP 1 rfl rfl 4 (by decide) (hg _ k956) (fun _ h9 => h9) rfl d_M_count_55 ?_
          refine lv_bipush (v := 64) hx hb d_M_count_58 (by decide) ?_
          refine lv_iload_n hx hb d_M_count_60 rfl (lv_at hl 1 rfl) ?_
          refine lv_imul hx hb d_M_count_61 ?_
          refine lv_topi (fun v_5 ev_5 => ?_)
          refine lv_iload_n hx hb d_M_count_62 rfl (lv_at hl 2 rfl) ?_
          refine lv_iadd hx hb d_M_count_63 ?_
          refine lv_topi (fun v_6 ev_6 => ?_)
          have hix0 : v_6 = nI (64 * jj + tt) := by rw [ev_6, ev_5]; exact ix64
          refine va_iald hx hb hK hP 0 0 rfl rfl (by rw [hix0]; exact vp_in_nI (by omega) (by decide)) d_M_count_64 ?_
          refine lv_topi (fun v_7 ev_7 => ?_)
          refine lv_istore (lv' := [(4, Value.int v_7), (0, Value.ref o), (1, Value.int (nI jj)), (2, Value.int (nI tt)), (3, Value.int (nI cc))]) hx hb d_M_count_65 hl (by decide) rfl (fun ls hl => ?_)
          refine lv_aload_n hx hb d_M_count_67 rfl (lv_at hl 1 rfl) ?_
          refine va_get (D := (dC, dI)) (ci := 9) (v := .ref (g 1)) (C := "RangeCodersModel") (T := T_M) (N := 35) hx hb hg in_M hown hK hP 1 rfl rfl 4 (by decide) (hg _ k956) (fun _ h9 => h9) rfl d_M_count_68 ?_
          refine lv_bipush (v := 64) hx hb d_M_count_71 (by decide) ?_
          refine lv_iload_n hx hb d_M_count_73 rfl (lv_at hl 2 rfl) ?_
          refine lv_imul hx hb d_M_count_74 ?_
          refine lv_topi (fun v_8 ev_8 => ?_)
          refine lv_iload_n hx hb d_M_count_75 rfl (lv_at hl 3 rfl) ?_
          refine lv_iadd hx hb d_M_count_76 ?_
          refine lv_topi (fun v_9 ev_9 => ?_)
          have hix : v_9 = nI (64 * jj + tt) := by rw [ev_9, ev_8]; exact ix64
          refine lv_iload_n hx hb d_M_count_77 rfl (lv_at hl 4 rfl) ?_
          refine va_iast hx hb hK hP hD hS 0 0 rfl rfl (by rw [hix]; exact vp_in_nI (by omega) (by decide)) d_M_count_78 (fun H locs hP hD hS => ?_)
          have hPD : my_PD (dC, dI) vwCl A [((g 1), Sum.inl (cI, 512, Sum.inl (upd vCounts v_9.toNatClampNeg (nI cc)))), (o, Sum.inr (9, mO g fForm fShift fModels fItems fEnded fLow fRange fCache fPend fGoes fOuts fIns fReads fBad fIR fAsk fBAsk fCode fRL fRR fX fWrites 0)), ((g 0), Sum.inl (cI, 8, Sum.inl vMany))] H := ⟨hP, hD⟩
          have hP := hPD.1
          have hD := hPD.2
          refine lv_aload_n hx hb d_M_count_79 rfl (lv_at hl 1 rfl) ?_
          refine va_get (D := (dC, dI)) (ci := 9) (v := .int fEnded) (C := "RangeCodersModel") (T := T_M) (N := 35) hx hb hg in_M hown hK hP 1 rfl rfl 10 (by decide) (hg _ k962) (fun _ h9 => h9) rfl d_M_count_80 ?_
          refine lv_if_ne (tgt := 95) hx hb d_M_count_83 (by decide) (fun c_10 => ?_) (fun c_10 => ?_)
          · refine lv_iload hx hb d_M_count_95 (lv_at hl 0 rfl) ?_
            exact my_iret (v := v_7) hx hb hr (rfl) hlocks hQ hK hS (Nat.le_refl _) (Nat.le_refl _) (upd vCounts v_9.toNatClampNeg (nI cc)) (⟨by rw [ev_7, hix0, nI_clamp (by omega)], by rw [hix, nI_clamp (by omega)]⟩) (hP.sub [1, 2, 0] rfl) (hD.sub [1, 2, 0] (by decide +kernel) rfl) d_M_count_97
          · exact absurd c_10 hen
        · exact absurd hrd c_4
      · refine lv_aload_n hx hb d_M_count_37 rfl (lv_at hl 0 rfl) ?_
        refine va_get (D := (dC, dI)) (ci := 9) (v := .int fEnded) (C := "RangeCodersModel") (T := T_M) (N := 35) hx hb hg in_M hown hK hP 1 rfl rfl 10 (by decide) (hg _ k962) (fun _ h9 => h9) rfl d_M_count_38 ?_
        refine lv_if_eq (tgt := 51) hx hb d_M_count_41 (by decide) (fun c_11 => ?_) (fun c_11 => ?_)
        · exact absurd c_11 hen
        · refine lv_aload_n hx hb d_M_count_44 rfl (lv_at hl 0 rfl) ?_
          refine va_get (D := (dC, dI)) (ci := 9) (v := .int fReads) (C := "RangeCodersModel") (T := T_M) (N := 35) hx hb hg in_M hown hK hP 1 rfl rfl 21 (by decide) (hg _ k973) (fun _ h9 => h9) rfl d_M_count_45 ?_
          refine lv_if_eq (tgt := 54) hx hb d_M_count_48 (by decide) (fun c_12 => ?_) (fun c_12 => ?_)
          · refine lv_aload_n hx hb d_M_count_54 rfl (lv_at hl 0 rfl) ?_
            refine va_get (D := (dC, dI)) (ci := 9) (v := .ref (g 1)) (C := "RangeCodersModel") (T := T_M) (N := 35) hx hb hg in_M hown hK hP 1 rfl rfl 4 (by decide) (hg _ k956) (fun _ h9 => h9) rfl d_M_count_55 ?_
            refine lv_bipush (v := 64) hx hb d_M_count_58 (by decide) ?_
            refine lv_iload_n hx hb d_M_count_60 rfl (lv_at hl 1 rfl) ?_
            refine lv_imul hx hb d_M_count_61 ?_
            refine lv_topi (fun v_13 ev_13 => ?_)
            refine lv_iload_n hx hb d_M_count_62 rfl (lv_at hl 2 rfl) ?_
            refine lv_iadd hx hb d_M_count_63 ?_
            refine lv_topi (fun v_14 ev_14 => ?_)
            have hix0 : v_14 = nI (64 * jj + tt) := by rw [ev_14, ev_13]; exact ix64
            refine va_iald hx hb hK hP 0 0 rfl rfl (by rw [hix0]; exact vp_in_nI (by omega) (by decide)) d_M_count_64 ?_
            refine lv_topi (fun v_15 ev_15 => ?_)
            refine lv_istore (lv' := [(4, Value.int v_15), (0, Value.ref o), (1, Value.int (nI jj)), (2, Value.int (nI tt)), (3, Value.int (nI cc))]) hx hb d_M_count_65 hl (by decide) rfl (fun ls hl => ?_)
            refine lv_aload_n hx hb d_M_count_67 rfl (lv_at hl 1 rfl) ?_
            refine va_get (D := (dC, dI)) (ci := 9) (v := .ref (g 1)) (C := "RangeCodersModel") (T := T_M) (N := 35) hx hb hg in_M hown hK hP 1 rfl rfl 4 (by decide) (hg _ k956) (fun _ h9 => h9) rfl d_M_count_68 ?_
            refine lv_bipush (v := 64) hx hb d_M_count_71 (by decide) ?_
            refine lv_iload_n hx hb d_M_count_73 rfl (lv_at hl 2 rfl) ?_
            refine lv_imul hx hb d_M_count_74 ?_
            refine lv_topi (fun v_16 ev_16 => ?_)
            refine lv_iload_n hx hb d_M_count_75 rfl (lv_at hl 3 rfl) ?_
            refine lv_iadd hx hb d_M_count_76 ?_
            refine lv_topi (fun v_17 ev_17 => ?_)
            have hix : v_17 = nI (64 * jj + tt) := by rw [ev_17, ev_16]; exact ix64
            refine lv_iload_n hx hb d_M_count_77 rfl (lv_at hl 4 rfl) ?_
            refine va_iast hx hb hK hP hD hS 0 0 rfl rfl (by rw [hix]; exact vp_in_nI (by omega) (by decide)) d_M_count_78 (fun H locs hP hD hS => ?_)
            have hPD : my_PD (dC, dI) vwCl A [((g 1), Sum.inl (cI, 512, Sum.inl (upd vCounts v_17.toNatClampNeg (nI cc)))), (o, Sum.inr (9, mO g fForm fShift fModels fItems fEnded fLow fRange fCache fPend fGoes fOuts fIns fReads fBad fIR fAsk fBAsk fCode fRL fRR fX fWrites 0)), ((g 0), Sum.inl (cI, 8, Sum.inl vMany))] H := ⟨hP, hD⟩
            have hP := hPD.1
            have hD := hPD.2
            refine lv_aload_n hx hb d_M_count_79 rfl (lv_at hl 1 rfl) ?_
            refine va_get (D := (dC, dI)) (ci := 9) (v := .int fEnded) (C := "RangeCodersModel") (T := T_M) (N := 35) hx hb hg in_M hown hK hP 1 rfl rfl 10 (by decide) (hg _ k962) (fun _ h9 => h9) rfl d_M_count_80 ?_
            refine lv_if_ne (tgt := 95) hx hb d_M_count_83 (by decide) (fun c_18 => ?_) (fun c_18 => ?_)
            · refine lv_iload hx hb d_M_count_95 (lv_at hl 0 rfl) ?_
              exact my_iret (v := v_15) hx hb hr (rfl) hlocks hQ hK hS (Nat.le_refl _) (Nat.le_refl _) (upd vCounts v_17.toNatClampNeg (nI cc)) (⟨by rw [ev_15, hix0, nI_clamp (by omega)], by rw [hix, nI_clamp (by omega)]⟩) (hP.sub [1, 2, 0] rfl) (hD.sub [1, 2, 0] (by decide +kernel) rfl) d_M_count_97
            · exact absurd c_18 hen
          · exact absurd hrd c_12
    · exact absurd ⟨nI_pos' (by omega), nI_le (b := 4095) hcc (by decide)⟩ (one_eq hw_21 c_2)
  · exact absurd (sg_yes hMD hj ht) (one_eq hw_8 c_1)
set_option maxHeartbeats 2000000 in
set_option maxRecDepth 100000 in
theorem m_countL (l : Launch) (dC : Nat → ClassId) (dI : Nat → Nat → Nat) (cI cM cO : ClassId) (sz : Nat) (o : Nat) (g : Nat → Nat) (fForm : Int32) (fShift : Int32) (fModels : Int32) (fItems : Int32) (fLow : Int64) (fRange : Int64) (fCache : Int32) (fPend : Int32) (fGoes : Int32) (fOuts : Int32) (fIns : Int32) (fReads : Int32) (fBad : Int32) (fIR : Int32) (fAsk : Int32) (fBAsk : Int32) (fCode : Int64) (fRL : Int64) (fRR : Int64) (fX : Int64) (fWrites : Int32) (fThrown : Int32) (vMany : Nat → Int32) (vCounts : Nat → Int32) (vNow : Nat → Int32) (km : Nat) (N : Nat → Nat) (jj : Nat) (tt : Nat) (cc : Nat) (fm : Nat) (C : Nat → Nat) (hfm : fm ≤ 4) (hform : fForm = nI fm) (hmod : fModels = nI km) (hMD : MD km N vMany vCounts) (hj : jj < km) (ht : tt < N jj) (hcc : cc ≤ 4095) (hfi : ¬ 0 < fItems) (hrd : fReads = 0) (hC : sgI vCounts (64 * jj) (N jj) C) (hB : bd C (N jj) 4095) : MetI l y_M_count (Cond.code y_M_count prog_14_method_14_code 5 (some .int) :: gw) ({ frames := 3, cells := 0, slots := 0, locals := 75 } : Room) (dC, dI) vwCl (kT cI cM cO) [Value.ref o, Value.int (nI jj), Value.int (nI tt), Value.int (nI cc)] [(o, Sum.inr (9, mO g fForm fShift fModels fItems 0 fLow fRange fCache fPend fGoes fOuts fIns fReads fBad fIR fAsk fBAsk fCode fRL fRR fX fWrites fThrown)), ((g 0), Sum.inl (cI, 8, Sum.inl vMany)), ((g 1), Sum.inl (cI, 512, Sum.inl vCounts)), ((g 2), Sum.inl (cI, 512, Sum.inl vNow))] sz (fun (r : Int32) (u : (Nat → Int32) × (Nat → Int32)) => r = vCounts (64 * jj + tt) ∧ u.1 = upd vCounts (64 * jj + tt) (nI cc) ∧ sgI u.2 (64 * jj) (pfN fm (N jj)) (pf fm (N jj) (upN C tt cc)) ∧ sgO u.2 vNow (64 * jj) 64) (fun (u : (Nat → Int32) × (Nat → Int32)) => [(o, Sum.inr (9, mO g fForm fShift fModels fItems 0 fLow fRange fCache fPend fGoes fOuts fIns fReads fBad fIR fAsk fBAsk fCode fRL fRR fX fWrites 0)), ((g 0), Sum.inl (cI, 8, Sum.inl vMany)), ((g 1), Sum.inl (cI, 512, Sum.inl u.1)), ((g 2), Sum.inl (cI, 512, Sum.inl u.2))]) 0 0 := by
  refine my_ofI (cc := prog_14_method_14_code) (n := 5) (ret := (some .int)) (by decide) rfl (Nat.le_of_ble_eq_true rfl) ?_
  intro p e s m args below meth c R Q A ls H locs hx hb hr hts hown hlocks hml hnm hR hQ hA hl hP hK hN hD hS
  have hg : ∀ w ∈ gw, w.before args s = true := fun w h => hts w (List.mem_cons_of_mem _ h)
  have hown : s.vm.findClass "RangeCodersModel" = some m.cls := hown
  have hl : lv_has ls 5 [(0, Value.ref o), (1, Value.int (nI jj)), (2, Value.int (nI tt)), (3, Value.int (nI cc))] := hl
  have hk8 := hMD.1
  obtain ⟨hn9, hn2, hn64, C9, hc9, hB9⟩ := hMD.2 jj hj
  refine lv_aload_n hx hb d_M_count_0 rfl (lv_at hl 0 rfl) ?_
  refine lv_iconst (v := 0) hx hb d_M_count_1 (by decide) ?_
  refine va_put (D := (dC, dI)) (ci := 9) (v := .int 0) (ty := .int) (C := "RangeCodersModel") (T := T_M) (N := 35) hx hb hg in_M t_M o_M n_M hown hK hP hD hS 0 rfl rfl 34 (by decide) (hg _ k986) (fun _ h9 => h9) rfl (o_M 34 (by decide)) rfl rfl (Nat.le_of_ble_eq_true rfl) d_M_count_2 (fun H locs hP hD hS => ?_)
  have hPD : my_PD (dC, dI) vwCl A [(o, Sum.inr (9, mO g fForm fShift fModels fItems 0 fLow fRange fCache fPend fGoes fOuts fIns fReads fBad fIR fAsk fBAsk fCode fRL fRR fX fWrites 0)), ((g 0), Sum.inl (cI, 8, Sum.inl vMany)), ((g 1), Sum.inl (cI, 512, Sum.inl vCounts)), ((g 2), Sum.inl (cI, 512, Sum.inl vNow))] H := ⟨hP, hD⟩
  have hP := hPD.1
  have hD := hPD.2
  refine lv_aload_n hx hb d_M_count_5 rfl (lv_at hl 0 rfl) ?_
  refine lv_iload_n hx hb d_M_count_6 rfl (lv_at hl 1 rfl) ?_
  refine lv_iload_n hx hb d_M_count_7 rfl (lv_at hl 2 rfl) ?_
  refine my_ci (wr := [((g 1), Sum.inl (cI, 512, Sum.inl vCounts)), ((g 2), Sum.inl (cI, 512, Sum.inl vNow))]) (va_runV (As := [Value.int (nI jj), Value.int (nI tt)]) (rest := []) ⟨hx, hb, hml, hown, hts⟩ (c_M_isSign l dC dI cI cM cO H.size o g fForm fShift fModels fItems 0 fLow fRange fCache fPend fGoes fOuts fIns fReads fBad fIR fAsk fBAsk fCode fRL fRR fX fWrites 0 vMany km (nI jj) (nI tt) (hMD.1) (by first | assumption | omega)) (cwV 2 hts (my_gV k1069 k1071 ks25 k12 k1072) rfl rfl rfl cu_M_isSign_2 ⟨by rw [hR]; exact Nat.le_of_ble_eq_true rfl, by rw [hR]; exact Nat.le_of_ble_eq_true rfl⟩) (my_preV hK hN (hP.sub [0, 1] rfl) (hD.sub [0, 1] (by decide +kernel) rfl) 0 rfl rfl) rfl rfl hl.1 rfl (lv_room (Nat.le_of_ble_eq_true rfl)) d_M_count_8 ⟨by rw [hR]; exact Nat.le_of_ble_eq_true rfl, by rw [hR]; exact Nat.le_of_ble_eq_true rfl⟩) hP hD hS hA [0, 1] [2, 3] rfl rfl (by decide +kernel) (by decide +kernel) (fun r_8 u9 H locs hw_8 hP hD hS => ?_)
  have hw_8 : r_8 = if isN km (nI jj) ∧ (0 ≤ (nI tt) ∧ (nI tt) ≤ vMany (nI jj).toNatClampNeg - 1) then 1 else 0 := hw_8
  have hPD : my_PD (dC, dI) vwCl A [((g 1), Sum.inl (cI, 512, Sum.inl vCounts)), ((g 2), Sum.inl (cI, 512, Sum.inl vNow)), (o, Sum.inr (9, mO g fForm fShift fModels fItems 0 fLow fRange fCache fPend fGoes fOuts fIns fReads fBad fIR fAsk fBAsk fCode fRL fRR fX fWrites 0)), ((g 0), Sum.inl (cI, 8, Sum.inl vMany))] H := ⟨hP, hD⟩
  have hP := hPD.1
  have hD := hPD.2
  refine lv_if_ne (tgt := 16) hx hb d_M_count_11 (by decide) (fun c_1 => ?_) (fun c_1 => ?_)
  · refine lv_iload_n hx hb d_M_count_16 rfl (lv_at hl 3 rfl) ?_
    refine lv_iconst (v := 0) hx hb d_M_count_17 (by decide) ?_
    refine lv_sipush (v := 4095) hx hb d_M_count_18 (by decide) ?_
    refine my_ci (wr := [((g 1), Sum.inl (cI, 512, Sum.inl vCounts)), ((g 2), Sum.inl (cI, 512, Sum.inl vNow)), (o, Sum.inr (9, mO g fForm fShift fModels fItems 0 fLow fRange fCache fPend fGoes fOuts fIns fReads fBad fIR fAsk fBAsk fCode fRL fRR fX fWrites 0)), ((g 0), Sum.inl (cI, 8, Sum.inl vMany))]) (va_runS (As := [Value.int (nI cc), Value.int 0, Value.int 4095]) (rest := []) ⟨hx, hb, hml, hown, hts⟩ (c_M_in l dC dI cI cM cO H.size (nI cc) 0 4095) (cwS 3 hts (my_gS k1062 k1063 k12 k1064) rfl rfl rfl (by decide +kernel) ⟨by rw [hR]; exact Nat.le_of_ble_eq_true rfl, by rw [hR]; exact Nat.le_of_ble_eq_true rfl⟩) (my_pre hK hN (hP.sub [] rfl) (hD.sub [] (by decide +kernel) rfl)) rfl rfl hl.1 rfl (lv_room (Nat.le_of_ble_eq_true rfl)) d_M_count_21 ⟨by rw [hR]; exact Nat.le_of_ble_eq_true rfl, by rw [hR]; exact Nat.le_of_ble_eq_true rfl⟩) hP hD hS hA [] [0, 1, 2, 3] rfl rfl (by decide +kernel) (by decide +kernel) (fun r_21 u9 H locs hw_21 hP hD hS => ?_)
    have hw_21 : r_21 = if 0 ≤ (nI cc) ∧ (nI cc) ≤ 4095 then 1 else 0 := hw_21
    have hPD : my_PD (dC, dI) vwCl A [((g 1), Sum.inl (cI, 512, Sum.inl vCounts)), ((g 2), Sum.inl (cI, 512, Sum.inl vNow)), (o, Sum.inr (9, mO g fForm fShift fModels fItems 0 fLow fRange fCache fPend fGoes fOuts fIns fReads fBad fIR fAsk fBAsk fCode fRL fRR fX fWrites 0)), ((g 0), Sum.inl (cI, 8, Sum.inl vMany))] H := ⟨hP, hD⟩
    have hP := hPD.1
    have hD := hPD.2
    refine lv_if_ne (tgt := 30) hx hb d_M_count_24 (by decide) (fun c_2 => ?_) (fun c_2 => ?_)
    · refine lv_aload_n hx hb d_M_count_30 rfl (lv_at hl 0 rfl) ?_
      refine va_get (D := (dC, dI)) (ci := 9) (v := .int fItems) (C := "RangeCodersModel") (T := T_M) (N := 35) hx hb hg in_M hown hK hP 2 rfl rfl 7 (by decide) (hg _ k959) (fun _ h9 => h9) rfl d_M_count_31 ?_
      refine lv_if_le (tgt := 44) hx hb d_M_count_34 (by decide) (fun c_3 => ?_) (fun c_3 => ?_)
      · refine lv_aload_n hx hb d_M_count_44 rfl (lv_at hl 0 rfl) ?_
        refine va_get (D := (dC, dI)) (ci := 9) (v := .int fReads) (C := "RangeCodersModel") (T := T_M) (N := 35) hx hb hg in_M hown hK hP 2 rfl rfl 21 (by decide) (hg _ k973) (fun _ h9 => h9) rfl d_M_count_45 ?_
        refine lv_if_eq (tgt := 54) hx hb d_M_count_48 (by decide) (fun c_4 => ?_) (fun c_4 => ?_)
        · refine lv_aload_n hx hb d_M_count_54 rfl (lv_at hl 0 rfl) ?_
          refine va_get (D := (dC, dI)) (ci := 9) (v := .ref (g 1)) (C := "RangeCodersModel") (T := T_M) (N := 35) hx hb hg in_M hown hK hP 2 rfl rfl 4 (by decide) (hg _ k956) (fun _ h9 => h9) rfl d_M_count_55 ?_
          refine lv_bipush (v := 64) hx hb d_M_count_58 (by decide) ?_
          refine lv_iload_n hx hb d_M_count_60 rfl (lv_at hl 1 rfl) ?_
          refine lv_imul hx hb d_M_count_61 ?_
          refine lv_topi (fun v_5 ev_5 => ?_)
          refine lv_iload_n hx hb d_M_count_62 rfl (lv_at hl 2 rfl) ?_
          refine lv_iadd hx hb d_M_count_63 ?_
          refine lv_topi (fun v_6 ev_6 => ?_)
          have hix0 : v_6 = nI (64 * jj + tt) := by rw [ev_6, ev_5]; exact ix64
          refine va_iald hx hb hK hP 0 0 rfl rfl (by rw [hix0]; exact vp_in_nI (by omega) (by decide)) d_M_count_64 ?_
          refine lv_topi (fun v_7 ev_7 => ?_)
          refine lv_istore (lv' := [(4, Value.int v_7), (0, Value.ref o), (1, Value.int (nI jj)), (2, Value.int (nI tt)), (3, Value.int (nI cc))]) hx hb d_M_count_65 hl (by decide) rfl (fun ls hl => ?_)
          refine lv_aload_n hx hb d_M_count_67 rfl (lv_at hl 1 rfl) ?_
          refine va_get (D := (dC, dI)) (ci := 9) (v := .ref (g 1)) (C := "RangeCodersModel") (T := T_M) (N := 35) hx hb hg in_M hown hK hP 2 rfl rfl 4 (by decide) (hg _ k956) (fun _ h9 => h9) rfl d_M_count_68 ?_
          refine lv_bipush (v := 64) hx hb d_M_count_71 (by decide) ?_
          refine lv_iload_n hx hb d_M_count_73 rfl (lv_at hl 2 rfl) ?_
          refine lv_imul hx hb d_M_count_74 ?_
          refine lv_topi (fun v_8 ev_8 => ?_)
          refine lv_iload_n hx hb d_M_count_75 rfl (lv_at hl 3 rfl) ?_
          refine lv_iadd hx hb d_M_count_76 ?_
          refine lv_topi (fun v_9 ev_9 => ?_)
          have hix : v_9 = nI (64 * jj + tt) := by rw [ev_9, ev_8]; exact ix64
          refine lv_iload_n hx hb d_M_count_77 rfl (lv_at hl 4 rfl) ?_
          refine va_iast hx hb hK hP hD hS 0 0 rfl rfl (by rw [hix]; exact vp_in_nI (by omega) (by decide)) d_M_count_78 (fun H locs hP hD hS => ?_)
          have hPD : my_PD (dC, dI) vwCl A [((g 1), Sum.inl (cI, 512, Sum.inl (upd vCounts v_9.toNatClampNeg (nI cc)))), ((g 2), Sum.inl (cI, 512, Sum.inl vNow)), (o, Sum.inr (9, mO g fForm fShift fModels fItems 0 fLow fRange fCache fPend fGoes fOuts fIns fReads fBad fIR fAsk fBAsk fCode fRL fRR fX fWrites 0)), ((g 0), Sum.inl (cI, 8, Sum.inl vMany))] H := ⟨hP, hD⟩
          have hP := hPD.1
          have hD := hPD.2
          have hc8 : sgI (upd vCounts v_9.toNatClampNeg (nI cc)) (64 * jj) (N jj) (upN C tt cc) := (sg_up hC ht (by rw [hix]; exact nI_clamp (by omega)) rfl).1
          have hB8 : bd (upN C tt cc) (N jj) 4095 := bd_up hB hcc
          refine lv_aload_n hx hb d_M_count_79 rfl (lv_at hl 1 rfl) ?_
          refine va_get (D := (dC, dI)) (ci := 9) (v := .int 0) (C := "RangeCodersModel") (T := T_M) (N := 35) hx hb hg in_M hown hK hP 2 rfl rfl 10 (by decide) (hg _ k962) (fun _ h9 => h9) rfl d_M_count_80 ?_
          refine lv_if_ne (tgt := 95) hx hb d_M_count_83 (by decide) (fun c_10 => ?_) (fun c_10 => ?_)
          · exact absurd rfl c_10
          · refine lv_aload_n hx hb d_M_count_86 rfl (lv_at hl 1 rfl) ?_
            refine lv_aload_n hx hb d_M_count_87 rfl (lv_at hl 1 rfl) ?_
            refine va_get (D := (dC, dI)) (ci := 9) (v := .ref (g 2)) (C := "RangeCodersModel") (T := T_M) (N := 35) hx hb hg in_M hown hK hP 2 rfl rfl 5 (by decide) (hg _ k957) (fun _ h9 => h9) rfl d_M_count_88 ?_
            refine lv_iload_n hx hb d_M_count_91 rfl (lv_at hl 2 rfl) ?_
            refine my_cv (wr := []) (va_runV (As := [Value.ref (g 2), Value.int (nI jj)]) (rest := []) ⟨hx, hb, hml, hown, hts⟩ (c_M_prepare l dC dI cI cM cO H.size o g fForm fShift fModels fItems 0 fLow fRange fCache fPend fGoes fOuts fIns fReads fBad fIR fAsk fBAsk fCode fRL fRR fX fWrites 0 vMany (upd vCounts v_9.toNatClampNeg (nI cc)) (g 2) vNow jj (N jj) fm (upN C tt cc) (by omega) (hn9) (hn64) (by omega) (hfm) (hform) (hc8) (hB8)) (cwV 2 hts (my_gV k928 k930 ks19 k12 k931) rfl rfl rfl cu_M_prepare_2 ⟨by rw [hR]; exact Nat.le_of_ble_eq_true rfl, by rw [hR]; exact Nat.le_of_ble_eq_true rfl⟩) (my_preV hK hN (hP.sub [2, 3, 0, 1] rfl) (hD.sub [2, 3, 0, 1] (by decide +kernel) rfl) 0 rfl rfl) rfl rfl hl.1 rfl (lv_room (Nat.le_of_ble_eq_true rfl)) d_M_count_92 ⟨by rw [hR]; exact Nat.le_of_ble_eq_true rfl, by rw [hR]; exact Nat.le_of_ble_eq_true rfl⟩) hP hD hS hA [2, 3, 0, 1] [] rfl rfl (by decide +kernel) (by decide +kernel) (fun u9 H locs hw_92 hP hD hS => ?_)
            obtain ⟨f2_92, rfl⟩ : ∃ z, z = u9 := ⟨_, rfl⟩
            have hw_92 : sgI f2_92 (64 * jj) (pfN fm (N jj)) (pf fm (N jj) (upN C tt cc)) ∧ sgO f2_92 vNow (64 * jj) 64 := hw_92
            have hPD : my_PD (dC, dI) vwCl A [(o, Sum.inr (9, mO g fForm fShift fModels fItems 0 fLow fRange fCache fPend fGoes fOuts fIns fReads fBad fIR fAsk fBAsk fCode fRL fRR fX fWrites 0)), ((g 0), Sum.inl (cI, 8, Sum.inl vMany)), ((g 1), Sum.inl (cI, 512, Sum.inl (upd vCounts v_9.toNatClampNeg (nI cc)))), ((g 2), Sum.inl (cI, 512, Sum.inl f2_92))] H := ⟨hP, hD⟩
            have hP := hPD.1
            have hD := hPD.2
            refine lv_iload hx hb d_M_count_95 (lv_at hl 0 rfl) ?_
            exact my_iret (v := v_7) hx hb hr (rfl) hlocks hQ hK hS (Nat.le_refl _) (Nat.le_refl _) ((upd vCounts v_9.toNatClampNeg (nI cc)), f2_92) (⟨by rw [ev_7, hix0, nI_clamp (by omega)], by rw [hix, nI_clamp (by omega)], hw_92.1, hw_92.2⟩) (hP.sub [0, 1, 2, 3] rfl) (hD.sub [0, 1, 2, 3] (by decide +kernel) rfl) d_M_count_97
        · exact absurd hrd c_4
      · exact absurd (Int32.not_le.mp c_3) hfi
    · exact absurd ⟨nI_pos' (by omega), nI_le (b := 4095) hcc (by decide)⟩ (one_eq hw_21 c_2)
  · exact absurd (sg_yes hMD hj ht) (one_eq hw_8 c_1)
set_option maxHeartbeats 2000000 in
set_option maxRecDepth 100000 in
theorem m_putE (l : Launch) (dC : Nat → ClassId) (dI : Nat → Nat → Nat) (cI cM cO : ClassId) (sz : Nat) (o : Nat) (g : Nat → Nat) (fForm : Int32) (fShift : Int32) (fModels : Int32) (fItems : Int32) (fEnded : Int32) (fLow : Int64) (fRange : Int64) (fCache : Int32) (fPend : Int32) (fGoes : Int32) (fOuts : Int32) (fIns : Int32) (fReads : Int32) (fBad : Int32) (fIR : Int32) (fAsk : Int32) (fBAsk : Int32) (fCode : Int64) (fRL : Int64) (fRR : Int64) (fX : Int64) (fWrites : Int32) (fThrown : Int32) (vMany : Nat → Int32) (vCounts : Nat → Int32) (km : Nat) (N : Nat → Nat) (jj : Nat) (tt : Nat) (hmod : fModels = nI km) (hMD : MD km N vMany vCounts) (hj : jj < km) (ht : tt < N jj) (hen : ¬ fEnded = 0) : MetI l y_M_put (Cond.code y_M_put prog_14_method_29_code 3 (some .int) :: gw) ({ frames := 3, cells := 0, slots := 0, locals := 65 } : Room) (dC, dI) vwCl (kT cI cM cO) [Value.ref o, Value.int (nI jj), Value.int (nI tt)] [(o, Sum.inr (9, mO g fForm fShift fModels fItems fEnded fLow fRange fCache fPend fGoes fOuts fIns fReads fBad fIR fAsk fBAsk fCode fRL fRR fX fWrites fThrown)), ((g 0), Sum.inl (cI, 8, Sum.inl vMany)), ((g 1), Sum.inl (cI, 512, Sum.inl vCounts))] sz (fun (r : Int32) (u : Unit) => r = -3) (fun (u : Unit) => [(o, Sum.inr (9, mO g fForm fShift fModels fItems fEnded fLow fRange fCache fPend fGoes fOuts fIns fReads fBad fIR fAsk fBAsk fCode fRL fRR fX fWrites 0)), ((g 0), Sum.inl (cI, 8, Sum.inl vMany)), ((g 1), Sum.inl (cI, 512, Sum.inl vCounts))]) 0 0 := by
  refine my_ofI (cc := prog_14_method_29_code) (n := 3) (ret := (some .int)) (by decide) rfl (Nat.le_of_ble_eq_true rfl) ?_
  intro p e s m args below meth c R Q A ls H locs hx hb hr hts hown hlocks hml hnm hR hQ hA hl hP hK hN hD hS
  have hg : ∀ w ∈ gw, w.before args s = true := fun w h => hts w (List.mem_cons_of_mem _ h)
  have hown : s.vm.findClass "RangeCodersModel" = some m.cls := hown
  have hl : lv_has ls 3 [(0, Value.ref o), (1, Value.int (nI jj)), (2, Value.int (nI tt))] := hl
  refine lv_aload_n hx hb d_M_put_0 rfl (lv_at hl 0 rfl) ?_
  refine lv_iconst (v := 0) hx hb d_M_put_1 (by decide) ?_
  refine va_put (D := (dC, dI)) (ci := 9) (v := .int 0) (ty := .int) (C := "RangeCodersModel") (T := T_M) (N := 35) hx hb hg in_M t_M o_M n_M hown hK hP hD hS 0 rfl rfl 34 (by decide) (hg _ k986) (fun _ h9 => h9) rfl (o_M 34 (by decide)) rfl rfl (Nat.le_of_ble_eq_true rfl) d_M_put_2 (fun H locs hP hD hS => ?_)
  have hPD : my_PD (dC, dI) vwCl A [(o, Sum.inr (9, mO g fForm fShift fModels fItems fEnded fLow fRange fCache fPend fGoes fOuts fIns fReads fBad fIR fAsk fBAsk fCode fRL fRR fX fWrites 0)), ((g 0), Sum.inl (cI, 8, Sum.inl vMany)), ((g 1), Sum.inl (cI, 512, Sum.inl vCounts))] H := ⟨hP, hD⟩
  have hP := hPD.1
  have hD := hPD.2
  refine lv_aload_n hx hb d_M_put_5 rfl (lv_at hl 0 rfl) ?_
  refine lv_iload_n hx hb d_M_put_6 rfl (lv_at hl 1 rfl) ?_
  refine lv_iload_n hx hb d_M_put_7 rfl (lv_at hl 2 rfl) ?_
  refine my_ci (wr := [((g 1), Sum.inl (cI, 512, Sum.inl vCounts))]) (va_runV (As := [Value.int (nI jj), Value.int (nI tt)]) (rest := []) ⟨hx, hb, hml, hown, hts⟩ (c_M_isSign l dC dI cI cM cO H.size o g fForm fShift fModels fItems fEnded fLow fRange fCache fPend fGoes fOuts fIns fReads fBad fIR fAsk fBAsk fCode fRL fRR fX fWrites 0 vMany km (nI jj) (nI tt) (hMD.1) (by first | assumption | omega)) (cwV 2 hts (my_gV k1069 k1071 ks25 k12 k1072) rfl rfl rfl cu_M_isSign_2 ⟨by rw [hR]; exact Nat.le_of_ble_eq_true rfl, by rw [hR]; exact Nat.le_of_ble_eq_true rfl⟩) (my_preV hK hN (hP.sub [0, 1] rfl) (hD.sub [0, 1] (by decide +kernel) rfl) 0 rfl rfl) rfl rfl hl.1 rfl (lv_room (Nat.le_of_ble_eq_true rfl)) d_M_put_8 ⟨by rw [hR]; exact Nat.le_of_ble_eq_true rfl, by rw [hR]; exact Nat.le_of_ble_eq_true rfl⟩) hP hD hS hA [0, 1] [2] rfl rfl (by decide +kernel) (by decide +kernel) (fun r_8 u9 H locs hw_8 hP hD hS => ?_)
  have hw_8 : r_8 = if isN km (nI jj) ∧ (0 ≤ (nI tt) ∧ (nI tt) ≤ vMany (nI jj).toNatClampNeg - 1) then 1 else 0 := hw_8
  have hPD : my_PD (dC, dI) vwCl A [((g 1), Sum.inl (cI, 512, Sum.inl vCounts)), (o, Sum.inr (9, mO g fForm fShift fModels fItems fEnded fLow fRange fCache fPend fGoes fOuts fIns fReads fBad fIR fAsk fBAsk fCode fRL fRR fX fWrites 0)), ((g 0), Sum.inl (cI, 8, Sum.inl vMany))] H := ⟨hP, hD⟩
  have hP := hPD.1
  have hD := hPD.2
  refine lv_if_ne (tgt := 16) hx hb d_M_put_11 (by decide) (fun c_1 => ?_) (fun c_1 => ?_)
  · refine lv_aload_n hx hb d_M_put_16 rfl (lv_at hl 0 rfl) ?_
    refine va_get (D := (dC, dI)) (ci := 9) (v := .int fEnded) (C := "RangeCodersModel") (T := T_M) (N := 35) hx hb hg in_M hown hK hP 1 rfl rfl 10 (by decide) (hg _ k962) (fun _ h9 => h9) rfl d_M_put_17 ?_
    refine lv_if_ne (tgt := 45) hx hb d_M_put_20 (by decide) (fun c_2 => ?_) (fun c_2 => ?_)
    · refine lv_bipush (v := (-3)) hx hb d_M_put_45 (by decide) ?_
      exact my_iret (v := (-3)) hx hb hr (rfl) hlocks hQ hK hS (Nat.le_refl _) (Nat.le_refl _) () (rfl) (hP.sub [1, 2, 0] rfl) (hD.sub [1, 2, 0] (by decide +kernel) rfl) d_M_put_47
    · exact absurd c_2 hen
  · exact absurd (sg_yes hMD hj ht) (one_eq hw_8 c_1)
set_option maxHeartbeats 2000000 in
set_option maxRecDepth 100000 in
theorem m_putZ (l : Launch) (dC : Nat → ClassId) (dI : Nat → Nat → Nat) (cI cM cO : ClassId) (sz : Nat) (o : Nat) (g : Nat → Nat) (fForm : Int32) (fShift : Int32) (fModels : Int32) (fItems : Int32) (fLow : Int64) (fRange : Int64) (fCache : Int32) (fPend : Int32) (fGoes : Int32) (fOuts : Int32) (fIns : Int32) (fReads : Int32) (fBad : Int32) (fIR : Int32) (fAsk : Int32) (fBAsk : Int32) (fCode : Int64) (fRL : Int64) (fRR : Int64) (fX : Int64) (fWrites : Int32) (fThrown : Int32) (vMany : Nat → Int32) (vCounts : Nat → Int32) (vNow : Nat → Int32) (km : Nat) (N : Nat → Nat) (jj : Nat) (tt : Nat) (F : Nat → Nat) (hmod : fModels = nI km) (hMD : MD km N vMany vCounts) (hj : jj < km) (ht : tt < N jj) (hF : sgI vNow (64 * jj) (N jj) F) (hFb : F tt < 2 ^ 31) (hf2 : ¬ fForm = 2) (hz : F tt = 0) : MetI l y_M_put (Cond.code y_M_put prog_14_method_29_code 3 (some .int) :: gw) ({ frames := 3, cells := 0, slots := 0, locals := 65 } : Room) (dC, dI) vwCl (kT cI cM cO) [Value.ref o, Value.int (nI jj), Value.int (nI tt)] [(o, Sum.inr (9, mO g fForm fShift fModels fItems 0 fLow fRange fCache fPend fGoes fOuts fIns fReads fBad fIR fAsk fBAsk fCode fRL fRR fX fWrites fThrown)), ((g 0), Sum.inl (cI, 8, Sum.inl vMany)), ((g 1), Sum.inl (cI, 512, Sum.inl vCounts)), ((g 2), Sum.inl (cI, 512, Sum.inl vNow))] sz (fun (r : Int32) (u : Unit) => r = -3) (fun (u : Unit) => [(o, Sum.inr (9, mO g fForm fShift fModels fItems 0 fLow fRange fCache fPend fGoes fOuts fIns fReads fBad fIR fAsk fBAsk fCode fRL fRR fX fWrites 0)), ((g 0), Sum.inl (cI, 8, Sum.inl vMany)), ((g 1), Sum.inl (cI, 512, Sum.inl vCounts)), ((g 2), Sum.inl (cI, 512, Sum.inl vNow))]) 0 0 := by
  refine my_ofI (cc := prog_14_method_29_code) (n := 3) (ret := (some .int)) (by decide) rfl (Nat.le_of_ble_eq_true rfl) ?_
  intro p e s m args below meth c R Q A ls H locs hx hb hr hts hown hlocks hml hnm hR hQ hA hl hP hK hN hD hS
  have hg : ∀ w ∈ gw, w.before args s = true := fun w h => hts w (List.mem_cons_of_mem _ h)
  have hown : s.vm.findClass "RangeCodersModel" = some m.cls := hown
  have hl : lv_has ls 3 [(0, Value.ref o), (1, Value.int (nI jj)), (2, Value.int (nI tt))] := hl
  have hk8 := hMD.1
  obtain ⟨hn9, hn2, hn64, C9, hc9, hB9⟩ := hMD.2 jj hj
  refine lv_aload_n hx hb d_M_put_0 rfl (lv_at hl 0 rfl) ?_
  refine lv_iconst (v := 0) hx hb d_M_put_1 (by decide) ?_
  refine va_put (D := (dC, dI)) (ci := 9) (v := .int 0) (ty := .int) (C := "RangeCodersModel") (T := T_M) (N := 35) hx hb hg in_M t_M o_M n_M hown hK hP hD hS 0 rfl rfl 34 (by decide) (hg _ k986) (fun _ h9 => h9) rfl (o_M 34 (by decide)) rfl rfl (Nat.le_of_ble_eq_true rfl) d_M_put_2 (fun H locs hP hD hS => ?_)
  have hPD : my_PD (dC, dI) vwCl A [(o, Sum.inr (9, mO g fForm fShift fModels fItems 0 fLow fRange fCache fPend fGoes fOuts fIns fReads fBad fIR fAsk fBAsk fCode fRL fRR fX fWrites 0)), ((g 0), Sum.inl (cI, 8, Sum.inl vMany)), ((g 1), Sum.inl (cI, 512, Sum.inl vCounts)), ((g 2), Sum.inl (cI, 512, Sum.inl vNow))] H := ⟨hP, hD⟩
  have hP := hPD.1
  have hD := hPD.2
  refine lv_aload_n hx hb d_M_put_5 rfl (lv_at hl 0 rfl) ?_
  refine lv_iload_n hx hb d_M_put_6 rfl (lv_at hl 1 rfl) ?_
  refine lv_iload_n hx hb d_M_put_7 rfl (lv_at hl 2 rfl) ?_
  refine my_ci (wr := [((g 1), Sum.inl (cI, 512, Sum.inl vCounts)), ((g 2), Sum.inl (cI, 512, Sum.inl vNow))]) (va_runV (As := [Value.int (nI jj), Value.int (nI tt)]) (rest := []) ⟨hx, hb, hml, hown, hts⟩ (c_M_isSign l dC dI cI cM cO H.size o g fForm fShift fModels fItems 0 fLow fRange fCache fPend fGoes fOuts fIns fReads fBad fIR fAsk fBAsk fCode fRL fRR fX fWrites 0 vMany km (nI jj) (nI tt) (hMD.1) (by first | assumption | omega)) (cwV 2 hts (my_gV k1069 k1071 ks25 k12 k1072) rfl rfl rfl cu_M_isSign_2 ⟨by rw [hR]; exact Nat.le_of_ble_eq_true rfl, by rw [hR]; exact Nat.le_of_ble_eq_true rfl⟩) (my_preV hK hN (hP.sub [0, 1] rfl) (hD.sub [0, 1] (by decide +kernel) rfl) 0 rfl rfl) rfl rfl hl.1 rfl (lv_room (Nat.le_of_ble_eq_true rfl)) d_M_put_8 ⟨by rw [hR]; exact Nat.le_of_ble_eq_true rfl, by rw [hR]; exact Nat.le_of_ble_eq_true rfl⟩) hP hD hS hA [0, 1] [2, 3] rfl rfl (by decide +kernel) (by decide +kernel) (fun r_8 u9 H locs hw_8 hP hD hS => ?_)
  have hw_8 : r_8 = if isN km (nI jj) ∧ (0 ≤ (nI tt) ∧ (nI tt) ≤ vMany (nI jj).toNatClampNeg - 1) then 1 else 0 := hw_8
  have hPD : my_PD (dC, dI) vwCl A [((g 1), Sum.inl (cI, 512, Sum.inl vCounts)), ((g 2), Sum.inl (cI, 512, Sum.inl vNow)), (o, Sum.inr (9, mO g fForm fShift fModels fItems 0 fLow fRange fCache fPend fGoes fOuts fIns fReads fBad fIR fAsk fBAsk fCode fRL fRR fX fWrites 0)), ((g 0), Sum.inl (cI, 8, Sum.inl vMany))] H := ⟨hP, hD⟩
  have hP := hPD.1
  have hD := hPD.2
  refine lv_if_ne (tgt := 16) hx hb d_M_put_11 (by decide) (fun c_1 => ?_) (fun c_1 => ?_)
  · refine lv_aload_n hx hb d_M_put_16 rfl (lv_at hl 0 rfl) ?_
    refine va_get (D := (dC, dI)) (ci := 9) (v := .int 0) (C := "RangeCodersModel") (T := T_M) (N := 35) hx hb hg in_M hown hK hP 2 rfl rfl 10 (by decide) (hg _ k962) (fun _ h9 => h9) rfl d_M_put_17 ?_
    refine lv_if_ne (tgt := 45) hx hb d_M_put_20 (by decide) (fun c_2 => ?_) (fun c_2 => ?_)
    · exact absurd rfl c_2
    · refine lv_aload_n hx hb d_M_put_23 rfl (lv_at hl 0 rfl) ?_
      refine va_get (D := (dC, dI)) (ci := 9) (v := .int fForm) (C := "RangeCodersModel") (T := T_M) (N := 35) hx hb hg in_M hown hK hP 2 rfl rfl 0 (by decide) (hg _ k952) (fun _ h9 => h9) rfl d_M_put_24 ?_
      refine lv_iconst (v := 2) hx hb d_M_put_27 (by decide) ?_
      refine lv_icmp_eq (tgt := 48) hx hb d_M_put_28 (by decide) (fun c_3 => ?_) (fun c_3 => ?_)
      · exact absurd c_3 hf2
      · refine lv_aload_n hx hb d_M_put_31 rfl (lv_at hl 0 rfl) ?_
        refine va_get (D := (dC, dI)) (ci := 9) (v := .ref (g 2)) (C := "RangeCodersModel") (T := T_M) (N := 35) hx hb hg in_M hown hK hP 2 rfl rfl 5 (by decide) (hg _ k957) (fun _ h9 => h9) rfl d_M_put_32 ?_
        refine lv_bipush (v := 64) hx hb d_M_put_35 (by decide) ?_
        refine lv_iload_n hx hb d_M_put_37 rfl (lv_at hl 1 rfl) ?_
        refine lv_imul hx hb d_M_put_38 ?_
        refine lv_topi (fun v_4 ev_4 => ?_)
        refine lv_iload_n hx hb d_M_put_39 rfl (lv_at hl 2 rfl) ?_
        refine lv_iadd hx hb d_M_put_40 ?_
        refine lv_topi (fun v_5 ev_5 => ?_)
        have hix : v_5 = nI (64 * jj + tt) := by rw [ev_5, ev_4]; exact ix64
        refine va_iald hx hb hK hP 1 0 rfl rfl (by rw [hix]; exact vp_in_nI (by omega) (by decide)) d_M_put_41 ?_
        refine lv_topi (fun v_6 ev_6 => ?_)
        have z9 : v_6 = nI (F tt) := by rw [ev_6, hix, nI_clamp (by omega)]; exact hF tt ht
        subst z9
        refine lv_if_ne (tgt := 48) hx hb d_M_put_42 (by decide) (fun c_7 => ?_) (fun c_7 => ?_)
        · exact absurd (by rw [hz]; rfl) c_7
        · refine lv_bipush (v := (-3)) hx hb d_M_put_45 (by decide) ?_
          exact my_iret (v := (-3)) hx hb hr (rfl) hlocks hQ hK hS (Nat.le_refl _) (Nat.le_refl _) () (rfl) (hP.sub [2, 3, 0, 1] rfl) (hD.sub [2, 3, 0, 1] (by decide +kernel) rfl) d_M_put_47
  · exact absurd (sg_yes hMD hj ht) (one_eq hw_8 c_1)
set_option maxHeartbeats 2000000 in
set_option maxRecDepth 100000 in
theorem m_putR (l : Launch) (dC : Nat → ClassId) (dI : Nat → Nat → Nat) (cI cM cO : ClassId) (sz : Nat) (o : Nat) (g : Nat → Nat) (fForm : Int32) (fShift : Int32) (fModels : Int32) (fLow : Int64) (fRange : Int64) (fCache : Int32) (fPend : Int32) (fGoes : Int32) (fOuts : Int32) (fIns : Int32) (fReads : Int32) (fBad : Int32) (fIR : Int32) (fAsk : Int32) (fBAsk : Int32) (fCode : Int64) (fRL : Int64) (fRR : Int64) (fX : Int64) (fWrites : Int32) (fThrown : Int32) (vMany : Nat → Int32) (vCounts : Nat → Int32) (vNow : Nat → Int32) (km : Nat) (N : Nat → Nat) (jj : Nat) (tt : Nat) (F : Nat → Nat) (ki : Nat) (hmod : fModels = nI km) (hMD : MD km N vMany vCounts) (hj : jj < km) (ht : tt < N jj) (hF : sgI vNow (64 * jj) (N jj) F) (hFb : F tt < 2 ^ 31) (hf2 : ¬ fForm = 2) (hz : 0 < F tt) (hk6 : ki = 600) : MetI l y_M_put (Cond.code y_M_put prog_14_method_29_code 3 (some .int) :: gw) ({ frames := 3, cells := 0, slots := 0, locals := 65 } : Room) (dC, dI) vwCl (kT cI cM cO) [Value.ref o, Value.int (nI jj), Value.int (nI tt)] [(o, Sum.inr (9, mO g fForm fShift fModels (nI ki) 0 fLow fRange fCache fPend fGoes fOuts fIns fReads fBad fIR fAsk fBAsk fCode fRL fRR fX fWrites fThrown)), ((g 0), Sum.inl (cI, 8, Sum.inl vMany)), ((g 1), Sum.inl (cI, 512, Sum.inl vCounts)), ((g 2), Sum.inl (cI, 512, Sum.inl vNow))] sz (fun (r : Int32) (u : Unit) => r = -4) (fun (u : Unit) => [(o, Sum.inr (9, mO g fForm fShift fModels (nI ki) 0 fLow fRange fCache fPend fGoes fOuts fIns fReads fBad fIR fAsk fBAsk fCode fRL fRR fX fWrites 0)), ((g 0), Sum.inl (cI, 8, Sum.inl vMany)), ((g 1), Sum.inl (cI, 512, Sum.inl vCounts)), ((g 2), Sum.inl (cI, 512, Sum.inl vNow))]) 0 0 := by
  refine my_ofI (cc := prog_14_method_29_code) (n := 3) (ret := (some .int)) (by decide) rfl (Nat.le_of_ble_eq_true rfl) ?_
  intro p e s m args below meth c R Q A ls H locs hx hb hr hts hown hlocks hml hnm hR hQ hA hl hP hK hN hD hS
  have hg : ∀ w ∈ gw, w.before args s = true := fun w h => hts w (List.mem_cons_of_mem _ h)
  have hown : s.vm.findClass "RangeCodersModel" = some m.cls := hown
  have hl : lv_has ls 3 [(0, Value.ref o), (1, Value.int (nI jj)), (2, Value.int (nI tt))] := hl
  have hk8 := hMD.1
  obtain ⟨hn9, hn2, hn64, C9, hc9, hB9⟩ := hMD.2 jj hj
  refine lv_aload_n hx hb d_M_put_0 rfl (lv_at hl 0 rfl) ?_
  refine lv_iconst (v := 0) hx hb d_M_put_1 (by decide) ?_
  refine va_put (D := (dC, dI)) (ci := 9) (v := .int 0) (ty := .int) (C := "RangeCodersModel") (T := T_M) (N := 35) hx hb hg in_M t_M o_M n_M hown hK hP hD hS 0 rfl rfl 34 (by decide) (hg _ k986) (fun _ h9 => h9) rfl (o_M 34 (by decide)) rfl rfl (Nat.le_of_ble_eq_true rfl) d_M_put_2 (fun H locs hP hD hS => ?_)
  have hPD : my_PD (dC, dI) vwCl A [(o, Sum.inr (9, mO g fForm fShift fModels (nI ki) 0 fLow fRange fCache fPend fGoes fOuts fIns fReads fBad fIR fAsk fBAsk fCode fRL fRR fX fWrites 0)), ((g 0), Sum.inl (cI, 8, Sum.inl vMany)), ((g 1), Sum.inl (cI, 512, Sum.inl vCounts)), ((g 2), Sum.inl (cI, 512, Sum.inl vNow))] H := ⟨hP, hD⟩
  have hP := hPD.1
  have hD := hPD.2
  refine lv_aload_n hx hb d_M_put_5 rfl (lv_at hl 0 rfl) ?_
  refine lv_iload_n hx hb d_M_put_6 rfl (lv_at hl 1 rfl) ?_
  refine lv_iload_n hx hb d_M_put_7 rfl (lv_at hl 2 rfl) ?_
  refine my_ci (wr := [((g 1), Sum.inl (cI, 512, Sum.inl vCounts)), ((g 2), Sum.inl (cI, 512, Sum.inl vNow))]) (va_runV (As := [Value.int (nI jj), Value.int (nI tt)]) (rest := []) ⟨hx, hb, hml, hown, hts⟩ (c_M_isSign l dC dI cI cM cO H.size o g fForm fShift fModels (nI ki) 0 fLow fRange fCache fPend fGoes fOuts fIns fReads fBad fIR fAsk fBAsk fCode fRL fRR fX fWrites 0 vMany km (nI jj) (nI tt) (hMD.1) (by first | assumption | omega)) (cwV 2 hts (my_gV k1069 k1071 ks25 k12 k1072) rfl rfl rfl cu_M_isSign_2 ⟨by rw [hR]; exact Nat.le_of_ble_eq_true rfl, by rw [hR]; exact Nat.le_of_ble_eq_true rfl⟩) (my_preV hK hN (hP.sub [0, 1] rfl) (hD.sub [0, 1] (by decide +kernel) rfl) 0 rfl rfl) rfl rfl hl.1 rfl (lv_room (Nat.le_of_ble_eq_true rfl)) d_M_put_8 ⟨by rw [hR]; exact Nat.le_of_ble_eq_true rfl, by rw [hR]; exact Nat.le_of_ble_eq_true rfl⟩) hP hD hS hA [0, 1] [2, 3] rfl rfl (by decide +kernel) (by decide +kernel) (fun r_8 u9 H locs hw_8 hP hD hS => ?_)
  have hw_8 : r_8 = if isN km (nI jj) ∧ (0 ≤ (nI tt) ∧ (nI tt) ≤ vMany (nI jj).toNatClampNeg - 1) then 1 else 0 := hw_8
  have hPD : my_PD (dC, dI) vwCl A [((g 1), Sum.inl (cI, 512, Sum.inl vCounts)), ((g 2), Sum.inl (cI, 512, Sum.inl vNow)), (o, Sum.inr (9, mO g fForm fShift fModels (nI ki) 0 fLow fRange fCache fPend fGoes fOuts fIns fReads fBad fIR fAsk fBAsk fCode fRL fRR fX fWrites 0)), ((g 0), Sum.inl (cI, 8, Sum.inl vMany))] H := ⟨hP, hD⟩
  have hP := hPD.1
  have hD := hPD.2
  refine lv_if_ne (tgt := 16) hx hb d_M_put_11 (by decide) (fun c_1 => ?_) (fun c_1 => ?_)
  · refine lv_aload_n hx hb d_M_put_16 rfl (lv_at hl 0 rfl) ?_
    refine va_get (D := (dC, dI)) (ci := 9) (v := .int 0) (C := "RangeCodersModel") (T := T_M) (N := 35) hx hb hg in_M hown hK hP 2 rfl rfl 10 (by decide) (hg _ k962) (fun _ h9 => h9) rfl d_M_put_17 ?_
    refine lv_if_ne (tgt := 45) hx hb d_M_put_20 (by decide) (fun c_2 => ?_) (fun c_2 => ?_)
    · exact absurd rfl c_2
    · refine lv_aload_n hx hb d_M_put_23 rfl (lv_at hl 0 rfl) ?_
      refine va_get (D := (dC, dI)) (ci := 9) (v := .int fForm) (C := "RangeCodersModel") (T := T_M) (N := 35) hx hb hg in_M hown hK hP 2 rfl rfl 0 (by decide) (hg _ k952) (fun _ h9 => h9) rfl d_M_put_24 ?_
      refine lv_iconst (v := 2) hx hb d_M_put_27 (by decide) ?_
      refine lv_icmp_eq (tgt := 48) hx hb d_M_put_28 (by decide) (fun c_3 => ?_) (fun c_3 => ?_)
      · exact absurd c_3 hf2
      · refine lv_aload_n hx hb d_M_put_31 rfl (lv_at hl 0 rfl) ?_
        refine va_get (D := (dC, dI)) (ci := 9) (v := .ref (g 2)) (C := "RangeCodersModel") (T := T_M) (N := 35) hx hb hg in_M hown hK hP 2 rfl rfl 5 (by decide) (hg _ k957) (fun _ h9 => h9) rfl d_M_put_32 ?_
        refine lv_bipush (v := 64) hx hb d_M_put_35 (by decide) ?_
        refine lv_iload_n hx hb d_M_put_37 rfl (lv_at hl 1 rfl) ?_
        refine lv_imul hx hb d_M_put_38 ?_
        refine lv_topi (fun v_4 ev_4 => ?_)
        refine lv_iload_n hx hb d_M_put_39 rfl (lv_at hl 2 rfl) ?_
        refine lv_iadd hx hb d_M_put_40 ?_
        refine lv_topi (fun v_5 ev_5 => ?_)
        have hix : v_5 = nI (64 * jj + tt) := by rw [ev_5, ev_4]; exact ix64
        refine va_iald hx hb hK hP 1 0 rfl rfl (by rw [hix]; exact vp_in_nI (by omega) (by decide)) d_M_put_41 ?_
        refine lv_topi (fun v_6 ev_6 => ?_)
        have z9 : v_6 = nI (F tt) := by rw [ev_6, hix, nI_clamp (by omega)]; exact hF tt ht
        subst z9
        refine lv_if_ne (tgt := 48) hx hb d_M_put_42 (by decide) (fun c_7 => ?_) (fun c_7 => ?_)
        · refine lv_aload_n hx hb d_M_put_48 rfl (lv_at hl 0 rfl) ?_
          refine va_get (D := (dC, dI)) (ci := 9) (v := .int (nI ki)) (C := "RangeCodersModel") (T := T_M) (N := 35) hx hb hg in_M hown hK hP 2 rfl rfl 7 (by decide) (hg _ k959) (fun _ h9 => h9) rfl d_M_put_49 ?_
          refine lv_sipush (v := 600) hx hb d_M_put_52 (by decide) ?_
          refine lv_icmp_ne (tgt := 61) hx hb d_M_put_55 (by decide) (fun c_8 => ?_) (fun c_8 => ?_)
          · exact absurd (by rw [hk6]; rfl) c_8
          · refine lv_bipush (v := (-4)) hx hb d_M_put_58 (by decide) ?_
            exact my_iret (v := (-4)) hx hb hr (rfl) hlocks hQ hK hS (Nat.le_refl _) (Nat.le_refl _) () (rfl) (hP.sub [2, 3, 0, 1] rfl) (hD.sub [2, 3, 0, 1] (by decide +kernel) rfl) d_M_put_60
        · exact absurd c_7 (nI_ne0 hz hFb)
  · exact absurd (sg_yes hMD hj ht) (one_eq hw_8 c_1)
set_option maxHeartbeats 2000000 in
set_option maxRecDepth 100000 in
theorem m_putR2 (l : Launch) (dC : Nat → ClassId) (dI : Nat → Nat → Nat) (cI cM cO : ClassId) (sz : Nat) (o : Nat) (g : Nat → Nat) (fShift : Int32) (fModels : Int32) (fLow : Int64) (fRange : Int64) (fCache : Int32) (fPend : Int32) (fGoes : Int32) (fOuts : Int32) (fIns : Int32) (fReads : Int32) (fBad : Int32) (fIR : Int32) (fAsk : Int32) (fBAsk : Int32) (fCode : Int64) (fRL : Int64) (fRR : Int64) (fX : Int64) (fWrites : Int32) (fThrown : Int32) (vMany : Nat → Int32) (vCounts : Nat → Int32) (km : Nat) (N : Nat → Nat) (jj : Nat) (tt : Nat) (ki : Nat) (hmod : fModels = nI km) (hMD : MD km N vMany vCounts) (hj : jj < km) (ht : tt < N jj) (hk6 : ki = 600) : MetI l y_M_put (Cond.code y_M_put prog_14_method_29_code 3 (some .int) :: gw) ({ frames := 3, cells := 0, slots := 0, locals := 65 } : Room) (dC, dI) vwCl (kT cI cM cO) [Value.ref o, Value.int (nI jj), Value.int (nI tt)] [(o, Sum.inr (9, mO g 2 fShift fModels (nI ki) 0 fLow fRange fCache fPend fGoes fOuts fIns fReads fBad fIR fAsk fBAsk fCode fRL fRR fX fWrites fThrown)), ((g 0), Sum.inl (cI, 8, Sum.inl vMany)), ((g 1), Sum.inl (cI, 512, Sum.inl vCounts))] sz (fun (r : Int32) (u : Unit) => r = -4) (fun (u : Unit) => [(o, Sum.inr (9, mO g 2 fShift fModels (nI ki) 0 fLow fRange fCache fPend fGoes fOuts fIns fReads fBad fIR fAsk fBAsk fCode fRL fRR fX fWrites 0)), ((g 0), Sum.inl (cI, 8, Sum.inl vMany)), ((g 1), Sum.inl (cI, 512, Sum.inl vCounts))]) 0 0 := by
  refine my_ofI (cc := prog_14_method_29_code) (n := 3) (ret := (some .int)) (by decide) rfl (Nat.le_of_ble_eq_true rfl) ?_
  intro p e s m args below meth c R Q A ls H locs hx hb hr hts hown hlocks hml hnm hR hQ hA hl hP hK hN hD hS
  have hg : ∀ w ∈ gw, w.before args s = true := fun w h => hts w (List.mem_cons_of_mem _ h)
  have hown : s.vm.findClass "RangeCodersModel" = some m.cls := hown
  have hl : lv_has ls 3 [(0, Value.ref o), (1, Value.int (nI jj)), (2, Value.int (nI tt))] := hl
  have hk8 := hMD.1
  obtain ⟨hn9, hn2, hn64, C9, hc9, hB9⟩ := hMD.2 jj hj
  refine lv_aload_n hx hb d_M_put_0 rfl (lv_at hl 0 rfl) ?_
  refine lv_iconst (v := 0) hx hb d_M_put_1 (by decide) ?_
  refine va_put (D := (dC, dI)) (ci := 9) (v := .int 0) (ty := .int) (C := "RangeCodersModel") (T := T_M) (N := 35) hx hb hg in_M t_M o_M n_M hown hK hP hD hS 0 rfl rfl 34 (by decide) (hg _ k986) (fun _ h9 => h9) rfl (o_M 34 (by decide)) rfl rfl (Nat.le_of_ble_eq_true rfl) d_M_put_2 (fun H locs hP hD hS => ?_)
  have hPD : my_PD (dC, dI) vwCl A [(o, Sum.inr (9, mO g 2 fShift fModels (nI ki) 0 fLow fRange fCache fPend fGoes fOuts fIns fReads fBad fIR fAsk fBAsk fCode fRL fRR fX fWrites 0)), ((g 0), Sum.inl (cI, 8, Sum.inl vMany)), ((g 1), Sum.inl (cI, 512, Sum.inl vCounts))] H := ⟨hP, hD⟩
  have hP := hPD.1
  have hD := hPD.2
  refine lv_aload_n hx hb d_M_put_5 rfl (lv_at hl 0 rfl) ?_
  refine lv_iload_n hx hb d_M_put_6 rfl (lv_at hl 1 rfl) ?_
  refine lv_iload_n hx hb d_M_put_7 rfl (lv_at hl 2 rfl) ?_
  refine my_ci (wr := [((g 1), Sum.inl (cI, 512, Sum.inl vCounts))]) (va_runV (As := [Value.int (nI jj), Value.int (nI tt)]) (rest := []) ⟨hx, hb, hml, hown, hts⟩ (c_M_isSign l dC dI cI cM cO H.size o g 2 fShift fModels (nI ki) 0 fLow fRange fCache fPend fGoes fOuts fIns fReads fBad fIR fAsk fBAsk fCode fRL fRR fX fWrites 0 vMany km (nI jj) (nI tt) (hMD.1) (by first | assumption | omega)) (cwV 2 hts (my_gV k1069 k1071 ks25 k12 k1072) rfl rfl rfl cu_M_isSign_2 ⟨by rw [hR]; exact Nat.le_of_ble_eq_true rfl, by rw [hR]; exact Nat.le_of_ble_eq_true rfl⟩) (my_preV hK hN (hP.sub [0, 1] rfl) (hD.sub [0, 1] (by decide +kernel) rfl) 0 rfl rfl) rfl rfl hl.1 rfl (lv_room (Nat.le_of_ble_eq_true rfl)) d_M_put_8 ⟨by rw [hR]; exact Nat.le_of_ble_eq_true rfl, by rw [hR]; exact Nat.le_of_ble_eq_true rfl⟩) hP hD hS hA [0, 1] [2] rfl rfl (by decide +kernel) (by decide +kernel) (fun r_8 u9 H locs hw_8 hP hD hS => ?_)
  have hw_8 : r_8 = if isN km (nI jj) ∧ (0 ≤ (nI tt) ∧ (nI tt) ≤ vMany (nI jj).toNatClampNeg - 1) then 1 else 0 := hw_8
  have hPD : my_PD (dC, dI) vwCl A [((g 1), Sum.inl (cI, 512, Sum.inl vCounts)), (o, Sum.inr (9, mO g 2 fShift fModels (nI ki) 0 fLow fRange fCache fPend fGoes fOuts fIns fReads fBad fIR fAsk fBAsk fCode fRL fRR fX fWrites 0)), ((g 0), Sum.inl (cI, 8, Sum.inl vMany))] H := ⟨hP, hD⟩
  have hP := hPD.1
  have hD := hPD.2
  refine lv_if_ne (tgt := 16) hx hb d_M_put_11 (by decide) (fun c_1 => ?_) (fun c_1 => ?_)
  · refine lv_aload_n hx hb d_M_put_16 rfl (lv_at hl 0 rfl) ?_
    refine va_get (D := (dC, dI)) (ci := 9) (v := .int 0) (C := "RangeCodersModel") (T := T_M) (N := 35) hx hb hg in_M hown hK hP 1 rfl rfl 10 (by decide) (hg _ k962) (fun _ h9 => h9) rfl d_M_put_17 ?_
    refine lv_if_ne (tgt := 45) hx hb d_M_put_20 (by decide) (fun c_2 => ?_) (fun c_2 => ?_)
    · exact absurd rfl c_2
    · refine lv_aload_n hx hb d_M_put_23 rfl (lv_at hl 0 rfl) ?_
      refine va_get (D := (dC, dI)) (ci := 9) (v := .int 2) (C := "RangeCodersModel") (T := T_M) (N := 35) hx hb hg in_M hown hK hP 1 rfl rfl 0 (by decide) (hg _ k952) (fun _ h9 => h9) rfl d_M_put_24 ?_
      refine lv_iconst (v := 2) hx hb d_M_put_27 (by decide) ?_
      refine lv_icmp_eq (tgt := 48) hx hb d_M_put_28 (by decide) (fun c_3 => ?_) (fun c_3 => ?_)
      · refine lv_aload_n hx hb d_M_put_48 rfl (lv_at hl 0 rfl) ?_
        refine va_get (D := (dC, dI)) (ci := 9) (v := .int (nI ki)) (C := "RangeCodersModel") (T := T_M) (N := 35) hx hb hg in_M hown hK hP 1 rfl rfl 7 (by decide) (hg _ k959) (fun _ h9 => h9) rfl d_M_put_49 ?_
        refine lv_sipush (v := 600) hx hb d_M_put_52 (by decide) ?_
        refine lv_icmp_ne (tgt := 61) hx hb d_M_put_55 (by decide) (fun c_4 => ?_) (fun c_4 => ?_)
        · exact absurd (by rw [hk6]; rfl) c_4
        · refine lv_bipush (v := (-4)) hx hb d_M_put_58 (by decide) ?_
          exact my_iret (v := (-4)) hx hb hr (rfl) hlocks hQ hK hS (Nat.le_refl _) (Nat.le_refl _) () (rfl) (hP.sub [1, 2, 0] rfl) (hD.sub [1, 2, 0] (by decide +kernel) rfl) d_M_put_60
      · exact absurd rfl c_3
  · exact absurd (sg_yes hMD hj ht) (one_eq hw_8 c_1)
end
section
set_option maxHeartbeats 2000000 in
set_option maxRecDepth 100000 in
theorem m_put0L (l : Launch) (dC : Nat → ClassId) (dI : Nat → Nat → Nat) (cI cM cO : ClassId) (sz : Nat) (o : Nat) (g : Nat → Nat) (fShift : Int32) (fModels : Int32) (fOuts : Int32) (fIns : Int32) (fReads : Int32) (fBad : Int32) (fIR : Int32) (fAsk : Int32) (fBAsk : Int32) (fCode : Int64) (fRL : Int64) (fRR : Int64) (fX : Int64) (fWrites : Int32) (fThrown : Int32) (vMany : Nat → Int32) (vCounts : Nat → Int32) (vNow : Nat → Int32) (vIM : Nat → Int32) (vIW : Nat → Int32) (vGoing : Nat → Int32) (km : Nat) (N : Nat → Nat) (jj : Nat) (tt : Nat) (F : Nat → Nat) (Rg : Nat) (L : Nat) (ca : Option Nat) (Pn : Nat) (bs : List Nat) (ki : Nat) (hmod : fModels = nI km) (hMD : MD km N vMany vCounts) (hj : jj < km) (ht : tt < N jj) (hF : sgI vNow (64 * jj) (N jj) F) (hFp : 0 < F tt) (hs : ns F (N jj) ≤ 8192) (hki : ki < 600) (hE : eInv (Rg, L, ca, Pn, bs)) (hG : gIs vGoing bs) (hN9 : bs.length + Pn + 20 ≤ 9000) : MetI l y_M_put (Cond.code y_M_put prog_14_method_29_code 3 (some .int) :: gw) ({ frames := 5, cells := 0, slots := 0, locals := 112 } : Room) (dC, dI) vwCl (kT cI cM cO) [Value.ref o, Value.int (nI jj), Value.int (nI tt)] [(o, Sum.inr (9, mO g 0 fShift fModels (nI ki) 0 (lN L) (lN Rg) (caI ca) (nI Pn) (nI bs.length) fOuts fIns fReads fBad fIR fAsk fBAsk fCode fRL fRR fX fWrites fThrown)), ((g 0), Sum.inl (cI, 8, Sum.inl vMany)), ((g 1), Sum.inl (cI, 512, Sum.inl vCounts)), ((g 2), Sum.inl (cI, 512, Sum.inl vNow)), ((g 4), Sum.inl (cI, 600, Sum.inl vIM)), ((g 5), Sum.inl (cI, 600, Sum.inl vIW)), ((g 6), Sum.inl (cI, 9000, Sum.inl vGoing))] sz (fun (r : Int32) (u : (Nat → Int32) × (Nat → Int32) × (Nat → Int32) × (Nat → Int32)) => r = nI (ki + 1) ∧ u.2.1 = upd vIM ki (nI jj) ∧ u.2.2.1 = upd vIW ki (nI tt) ∧ sgI u.1 (64 * jj) (N jj) (lrn (N jj) tt F) ∧ sgO u.1 vNow (64 * jj) (N jj) ∧ gIs u.2.2.2 (eB (wdS (Rg / ns F (N jj) * F tt, L + Rg / ns F (N jj) * ns F tt, ca, Pn, bs)))) (fun (u : (Nat → Int32) × (Nat → Int32) × (Nat → Int32) × (Nat → Int32)) => [(o, Sum.inr (9, mO g 0 fShift fModels (nI (ki + 1)) 0 (lN (eL (wdS (Rg / ns F (N jj) * F tt, L + Rg / ns F (N jj) * ns F tt, ca, Pn, bs)))) (lN (eR (wdS (Rg / ns F (N jj) * F tt, L + Rg / ns F (N jj) * ns F tt, ca, Pn, bs)))) (caI (eC (wdS (Rg / ns F (N jj) * F tt, L + Rg / ns F (N jj) * ns F tt, ca, Pn, bs)))) (nI (eP (wdS (Rg / ns F (N jj) * F tt, L + Rg / ns F (N jj) * ns F tt, ca, Pn, bs)))) (nI (eB (wdS (Rg / ns F (N jj) * F tt, L + Rg / ns F (N jj) * ns F tt, ca, Pn, bs))).length) fOuts fIns fReads fBad fIR fAsk fBAsk fCode fRL fRR fX fWrites 0)), ((g 0), Sum.inl (cI, 8, Sum.inl vMany)), ((g 1), Sum.inl (cI, 512, Sum.inl vCounts)), ((g 2), Sum.inl (cI, 512, Sum.inl u.1)), ((g 4), Sum.inl (cI, 600, Sum.inl u.2.1)), ((g 5), Sum.inl (cI, 600, Sum.inl u.2.2.1)), ((g 6), Sum.inl (cI, 9000, Sum.inl u.2.2.2))]) 0 0 := by
  refine my_ofI (cc := prog_14_method_29_code) (n := 3) (ret := (some .int)) (by decide) rfl (Nat.le_of_ble_eq_true rfl) ?_
  intro p e s m args below meth c R Q A ls H locs hx hb hr hts hown hlocks hml hnm hR hQ hA hl hP hK hN hD hS
  have hg : ∀ w ∈ gw, w.before args s = true := fun w h => hts w (List.mem_cons_of_mem _ h)
  have hown : s.vm.findClass "RangeCodersModel" = some m.cls := hown
  have hl : lv_has ls 3 [(0, Value.ref o), (1, Value.int (nI jj)), (2, Value.int (nI tt))] := hl
  have hk8 := hMD.1
  obtain ⟨hn9, hn2, hn64, C9, hc9, hB9⟩ := hMD.2 jj hj
  refine lv_aload_n hx hb d_M_put_0 rfl (lv_at hl 0 rfl) ?_
  refine lv_iconst (v := 0) hx hb d_M_put_1 (by decide) ?_
  refine va_put (D := (dC, dI)) (ci := 9) (v := .int 0) (ty := .int) (C := "RangeCodersModel") (T := T_M) (N := 35) hx hb hg in_M t_M o_M n_M hown hK hP hD hS 0 rfl rfl 34 (by decide) (hg _ k986) (fun _ h9 => h9) rfl (o_M 34 (by decide)) rfl rfl (Nat.le_of_ble_eq_true rfl) d_M_put_2 (fun H locs hP hD hS => ?_)
  have hPD : my_PD (dC, dI) vwCl A [(o, Sum.inr (9, mO g 0 fShift fModels (nI ki) 0 (lN L) (lN Rg) (caI ca) (nI Pn) (nI bs.length) fOuts fIns fReads fBad fIR fAsk fBAsk fCode fRL fRR fX fWrites 0)), ((g 0), Sum.inl (cI, 8, Sum.inl vMany)), ((g 1), Sum.inl (cI, 512, Sum.inl vCounts)), ((g 2), Sum.inl (cI, 512, Sum.inl vNow)), ((g 4), Sum.inl (cI, 600, Sum.inl vIM)), ((g 5), Sum.inl (cI, 600, Sum.inl vIW)), ((g 6), Sum.inl (cI, 9000, Sum.inl vGoing))] H := ⟨hP, hD⟩
  have hP := hPD.1
  have hD := hPD.2
  refine lv_aload_n hx hb d_M_put_5 rfl (lv_at hl 0 rfl) ?_
  refine lv_iload_n hx hb d_M_put_6 rfl (lv_at hl 1 rfl) ?_
  refine lv_iload_n hx hb d_M_put_7 rfl (lv_at hl 2 rfl) ?_
  refine my_ci (wr := [((g 1), Sum.inl (cI, 512, Sum.inl vCounts)), ((g 2), Sum.inl (cI, 512, Sum.inl vNow)), ((g 4), Sum.inl (cI, 600, Sum.inl vIM)), ((g 5), Sum.inl (cI, 600, Sum.inl vIW)), ((g 6), Sum.inl (cI, 9000, Sum.inl vGoing))]) (va_runV (As := [Value.int (nI jj), Value.int (nI tt)]) (rest := []) ⟨hx, hb, hml, hown, hts⟩ (c_M_isSign l dC dI cI cM cO H.size o g 0 fShift fModels (nI ki) 0 (lN L) (lN Rg) (caI ca) (nI Pn) (nI bs.length) fOuts fIns fReads fBad fIR fAsk fBAsk fCode fRL fRR fX fWrites 0 vMany km (nI jj) (nI tt) (hMD.1) (by first | assumption | omega)) (cwV 2 hts (my_gV k1069 k1071 ks25 k12 k1072) rfl rfl rfl cu_M_isSign_2 ⟨by rw [hR]; exact Nat.le_of_ble_eq_true rfl, by rw [hR]; exact Nat.le_of_ble_eq_true rfl⟩) (my_preV hK hN (hP.sub [0, 1] rfl) (hD.sub [0, 1] (by decide +kernel) rfl) 0 rfl rfl) rfl rfl hl.1 rfl (lv_room (Nat.le_of_ble_eq_true rfl)) d_M_put_8 ⟨by rw [hR]; exact Nat.le_of_ble_eq_true rfl, by rw [hR]; exact Nat.le_of_ble_eq_true rfl⟩) hP hD hS hA [0, 1] [2, 3, 4, 5, 6] rfl rfl (by decide +kernel) (by decide +kernel) (fun r_8 u9 H locs hw_8 hP hD hS => ?_)
  have hw_8 : r_8 = if isN km (nI jj) ∧ (0 ≤ (nI tt) ∧ (nI tt) ≤ vMany (nI jj).toNatClampNeg - 1) then 1 else 0 := hw_8
  have hPD : my_PD (dC, dI) vwCl A [((g 1), Sum.inl (cI, 512, Sum.inl vCounts)), ((g 2), Sum.inl (cI, 512, Sum.inl vNow)), ((g 4), Sum.inl (cI, 600, Sum.inl vIM)), ((g 5), Sum.inl (cI, 600, Sum.inl vIW)), ((g 6), Sum.inl (cI, 9000, Sum.inl vGoing)), (o, Sum.inr (9, mO g 0 fShift fModels (nI ki) 0 (lN L) (lN Rg) (caI ca) (nI Pn) (nI bs.length) fOuts fIns fReads fBad fIR fAsk fBAsk fCode fRL fRR fX fWrites 0)), ((g 0), Sum.inl (cI, 8, Sum.inl vMany))] H := ⟨hP, hD⟩
  have hP := hPD.1
  have hD := hPD.2
  refine lv_if_ne (tgt := 16) hx hb d_M_put_11 (by decide) (fun c_1 => ?_) (fun c_1 => ?_)
  · refine lv_aload_n hx hb d_M_put_16 rfl (lv_at hl 0 rfl) ?_
    refine va_get (D := (dC, dI)) (ci := 9) (v := .int 0) (C := "RangeCodersModel") (T := T_M) (N := 35) hx hb hg in_M hown hK hP 5 rfl rfl 10 (by decide) (hg _ k962) (fun _ h9 => h9) rfl d_M_put_17 ?_
    refine lv_if_ne (tgt := 45) hx hb d_M_put_20 (by decide) (fun c_2 => ?_) (fun c_2 => ?_)
    · exact absurd rfl c_2
    · refine lv_aload_n hx hb d_M_put_23 rfl (lv_at hl 0 rfl) ?_
      refine va_get (D := (dC, dI)) (ci := 9) (v := .int 0) (C := "RangeCodersModel") (T := T_M) (N := 35) hx hb hg in_M hown hK hP 5 rfl rfl 0 (by decide) (hg _ k952) (fun _ h9 => h9) rfl d_M_put_24 ?_
      refine lv_iconst (v := 2) hx hb d_M_put_27 (by decide) ?_
      refine lv_icmp_eq (tgt := 48) hx hb d_M_put_28 (by decide) (fun c_3 => ?_) (fun c_3 => ?_)
      · exact absurd c_3 (by decide)
      · refine lv_aload_n hx hb d_M_put_31 rfl (lv_at hl 0 rfl) ?_
        refine va_get (D := (dC, dI)) (ci := 9) (v := .ref (g 2)) (C := "RangeCodersModel") (T := T_M) (N := 35) hx hb hg in_M hown hK hP 5 rfl rfl 5 (by decide) (hg _ k957) (fun _ h9 => h9) rfl d_M_put_32 ?_
        refine lv_bipush (v := 64) hx hb d_M_put_35 (by decide) ?_
        refine lv_iload_n hx hb d_M_put_37 rfl (lv_at hl 1 rfl) ?_
        refine lv_imul hx hb d_M_put_38 ?_
        refine lv_topi (fun v_4 ev_4 => ?_)
        refine lv_iload_n hx hb d_M_put_39 rfl (lv_at hl 2 rfl) ?_
        refine lv_iadd hx hb d_M_put_40 ?_
        refine lv_topi (fun v_5 ev_5 => ?_)
        have hix : v_5 = nI (64 * jj + tt) := by rw [ev_5, ev_4]; exact ix64
        refine va_iald hx hb hK hP 1 0 rfl rfl (by rw [hix]; exact vp_in_nI (by omega) (by decide)) d_M_put_41 ?_
        refine lv_topi (fun v_6 ev_6 => ?_)
        have z9 : v_6 = nI (F tt) := by rw [ev_6, hix, nI_clamp (by omega)]; exact hF tt ht
        subst z9
        refine lv_if_ne (tgt := 48) hx hb d_M_put_42 (by decide) (fun c_7 => ?_) (fun c_7 => ?_)
        · refine lv_aload_n hx hb d_M_put_48 rfl (lv_at hl 0 rfl) ?_
          refine va_get (D := (dC, dI)) (ci := 9) (v := .int (nI ki)) (C := "RangeCodersModel") (T := T_M) (N := 35) hx hb hg in_M hown hK hP 5 rfl rfl 7 (by decide) (hg _ k959) (fun _ h9 => h9) rfl d_M_put_49 ?_
          refine lv_sipush (v := 600) hx hb d_M_put_52 (by decide) ?_
          refine lv_icmp_ne (tgt := 61) hx hb d_M_put_55 (by decide) (fun c_8 => ?_) (fun c_8 => ?_)
          · refine lv_aload_n hx hb d_M_put_61 rfl (lv_at hl 0 rfl) ?_
            refine lv_iload_n hx hb d_M_put_62 rfl (lv_at hl 1 rfl) ?_
            refine lv_iload_n hx hb d_M_put_63 rfl (lv_at hl 2 rfl) ?_
            refine my_cv (wr := [((g 1), Sum.inl (cI, 512, Sum.inl vCounts)), ((g 4), Sum.inl (cI, 600, Sum.inl vIM)), ((g 5), Sum.inl (cI, 600, Sum.inl vIW))]) (va_runV (As := [Value.int (nI jj), Value.int (nI tt)]) (rest := []) ⟨hx, hb, hml, hown, hts⟩ (c_M_putSign0 l dC dI cI cM cO H.size o g fShift fModels (nI ki) 0 fOuts fIns fReads fBad fIR fAsk fBAsk fCode fRL fRR fX fWrites 0 vMany vNow vGoing jj (N jj) tt F Rg L ca Pn bs (by omega) (hn9) (hn64) (ht) (hF) (hFp) (hs) (by first | assumption | omega) (by first | assumption | omega) (by first | assumption | omega)) (cwV 2 hts (my_gV k1085 k1087 ks27 k12 k1088) rfl rfl rfl cu_M_putSign_2 ⟨by rw [hR]; exact Nat.le_of_ble_eq_true rfl, by rw [hR]; exact Nat.le_of_ble_eq_true rfl⟩) (my_preV hK hN (hP.sub [5, 6, 1, 4] rfl) (hD.sub [5, 6, 1, 4] (by decide +kernel) rfl) 0 rfl rfl) rfl rfl hl.1 rfl (lv_room (Nat.le_of_ble_eq_true rfl)) d_M_put_64 ⟨by rw [hR]; exact Nat.le_of_ble_eq_true rfl, by rw [hR]; exact Nat.le_of_ble_eq_true rfl⟩) hP hD hS hA [5, 6, 1, 4] [0, 2, 3] rfl rfl (by decide +kernel) (by decide +kernel) (fun u9 H locs hw_64 hP hD hS => ?_)
            obtain ⟨f2_64, v2_64⟩ := u9
            have hw_64 : sgI f2_64 (64 * jj) (N jj) (lrn (N jj) tt F) ∧ sgO f2_64 vNow (64 * jj) (N jj) ∧ gIs v2_64 (eB (wdS (Rg / ns F (N jj) * F tt, L + Rg / ns F (N jj) * ns F tt, ca, Pn, bs))) := hw_64
            have hPD : my_PD (dC, dI) vwCl A [((g 1), Sum.inl (cI, 512, Sum.inl vCounts)), ((g 4), Sum.inl (cI, 600, Sum.inl vIM)), ((g 5), Sum.inl (cI, 600, Sum.inl vIW)), (o, Sum.inr (9, mO g 0 fShift fModels (nI ki) 0 (lN (eL (wdS (Rg / ns F (N jj) * F tt, L + Rg / ns F (N jj) * ns F tt, ca, Pn, bs)))) (lN (eR (wdS (Rg / ns F (N jj) * F tt, L + Rg / ns F (N jj) * ns F tt, ca, Pn, bs)))) (caI (eC (wdS (Rg / ns F (N jj) * F tt, L + Rg / ns F (N jj) * ns F tt, ca, Pn, bs)))) (nI (eP (wdS (Rg / ns F (N jj) * F tt, L + Rg / ns F (N jj) * ns F tt, ca, Pn, bs)))) (nI (eB (wdS (Rg / ns F (N jj) * F tt, L + Rg / ns F (N jj) * ns F tt, ca, Pn, bs))).length) fOuts fIns fReads fBad fIR fAsk fBAsk fCode fRL fRR fX fWrites 0)), ((g 0), Sum.inl (cI, 8, Sum.inl vMany)), ((g 2), Sum.inl (cI, 512, Sum.inl f2_64)), ((g 6), Sum.inl (cI, 9000, Sum.inl v2_64))] H := ⟨hP, hD⟩
            have hP := hPD.1
            have hD := hPD.2
            refine lv_aload_n hx hb d_M_put_67 rfl (lv_at hl 0 rfl) ?_
            refine lv_iload_n hx hb d_M_put_68 rfl (lv_at hl 1 rfl) ?_
            refine lv_iload_n hx hb d_M_put_69 rfl (lv_at hl 2 rfl) ?_
            refine my_ci (wr := [((g 1), Sum.inl (cI, 512, Sum.inl vCounts)), ((g 0), Sum.inl (cI, 8, Sum.inl vMany)), ((g 2), Sum.inl (cI, 512, Sum.inl f2_64)), ((g 6), Sum.inl (cI, 9000, Sum.inl v2_64))]) (va_runV (As := [Value.int (nI jj), Value.int (nI tt)]) (rest := []) ⟨hx, hb, hml, hown, hts⟩ (c_M_addItem l dC dI cI cM cO H.size o g 0 fShift fModels 0 (lN (eL (wdS (Rg / ns F (N jj) * F tt, L + Rg / ns F (N jj) * ns F tt, ca, Pn, bs)))) (lN (eR (wdS (Rg / ns F (N jj) * F tt, L + Rg / ns F (N jj) * ns F tt, ca, Pn, bs)))) (caI (eC (wdS (Rg / ns F (N jj) * F tt, L + Rg / ns F (N jj) * ns F tt, ca, Pn, bs)))) (nI (eP (wdS (Rg / ns F (N jj) * F tt, L + Rg / ns F (N jj) * ns F tt, ca, Pn, bs)))) (nI (eB (wdS (Rg / ns F (N jj) * F tt, L + Rg / ns F (N jj) * ns F tt, ca, Pn, bs))).length) fOuts fIns fReads fBad fIR fAsk fBAsk fCode fRL fRR fX fWrites 0 vIM vIW ki (nI jj) (nI tt) (hki)) (cwV 2 hts (my_gV k1135 k1137 ks38 k12 k1138) rfl rfl rfl cu_M_addItem_2 ⟨by rw [hR]; exact Nat.le_of_ble_eq_true rfl, by rw [hR]; exact Nat.le_of_ble_eq_true rfl⟩) (my_preV hK hN (hP.sub [3, 1, 2] rfl) (hD.sub [3, 1, 2] (by decide +kernel) rfl) 0 rfl rfl) rfl rfl hl.1 rfl (lv_room (Nat.le_of_ble_eq_true rfl)) d_M_put_70 ⟨by rw [hR]; exact Nat.le_of_ble_eq_true rfl, by rw [hR]; exact Nat.le_of_ble_eq_true rfl⟩) hP hD hS hA [3, 1, 2] [0, 4, 5, 6] rfl rfl (by decide +kernel) (by decide +kernel) (fun r_70 u9 H locs hw_70 hP hD hS => ?_)
            obtain ⟨f2_70, v2_70⟩ := u9
            have hw_70 : r_70 = nI (ki + 1) ∧ f2_70 = upd vIM ki (nI jj) ∧ v2_70 = upd vIW ki (nI tt) := hw_70
            have hPD : my_PD (dC, dI) vwCl A [((g 1), Sum.inl (cI, 512, Sum.inl vCounts)), ((g 0), Sum.inl (cI, 8, Sum.inl vMany)), ((g 2), Sum.inl (cI, 512, Sum.inl f2_64)), ((g 6), Sum.inl (cI, 9000, Sum.inl v2_64)), (o, Sum.inr (9, mO g 0 fShift fModels (nI (ki + 1)) 0 (lN (eL (wdS (Rg / ns F (N jj) * F tt, L + Rg / ns F (N jj) * ns F tt, ca, Pn, bs)))) (lN (eR (wdS (Rg / ns F (N jj) * F tt, L + Rg / ns F (N jj) * ns F tt, ca, Pn, bs)))) (caI (eC (wdS (Rg / ns F (N jj) * F tt, L + Rg / ns F (N jj) * ns F tt, ca, Pn, bs)))) (nI (eP (wdS (Rg / ns F (N jj) * F tt, L + Rg / ns F (N jj) * ns F tt, ca, Pn, bs)))) (nI (eB (wdS (Rg / ns F (N jj) * F tt, L + Rg / ns F (N jj) * ns F tt, ca, Pn, bs))).length) fOuts fIns fReads fBad fIR fAsk fBAsk fCode fRL fRR fX fWrites 0)), ((g 4), Sum.inl (cI, 600, Sum.inl f2_70)), ((g 5), Sum.inl (cI, 600, Sum.inl v2_70))] H := ⟨hP, hD⟩
            have hP := hPD.1
            have hD := hPD.2
            exact my_iret (v := r_70) hx hb hr (rfl) hlocks hQ hK hS (Nat.le_refl _) (Nat.le_refl _) (f2_64, f2_70, v2_70, v2_64) (⟨hw_70.1, hw_70.2.1, hw_70.2.2, hw_64.1, hw_64.2.1, hw_64.2.2⟩) (hP.sub [4, 1, 0, 2, 5, 6, 3] rfl) (hD.sub [4, 1, 0, 2, 5, 6, 3] (by decide +kernel) rfl) d_M_put_73
          · exact absurd (nI_inj (a := ki) (b := 600) (by omega) (by decide) c_8) (by omega)
        · exact absurd c_7 (nI_ne0 hFp (by have := ns_ge (F := F) ht; omega))
  · exact absurd (sg_yes hMD hj ht) (one_eq hw_8 c_1)
set_option maxHeartbeats 2000000 in
set_option maxRecDepth 100000 in
theorem m_put1L (l : Launch) (dC : Nat → ClassId) (dI : Nat → Nat → Nat) (cI cM cO : ClassId) (sz : Nat) (o : Nat) (g : Nat → Nat) (fShift : Int32) (fModels : Int32) (fCache : Int32) (fPend : Int32) (fOuts : Int32) (fIns : Int32) (fReads : Int32) (fBad : Int32) (fIR : Int32) (fAsk : Int32) (fBAsk : Int32) (fCode : Int64) (fRL : Int64) (fRR : Int64) (fX : Int64) (fWrites : Int32) (fThrown : Int32) (vMany : Nat → Int32) (vCounts : Nat → Int32) (vNow : Nat → Int32) (vIM : Nat → Int32) (vIW : Nat → Int32) (vGoing : Nat → Int32) (km : Nat) (N : Nat → Nat) (jj : Nat) (tt : Nat) (F : Nat → Nat) (Rg : Nat) (L : Nat) (bs : List Nat) (ki : Nat) (hmod : fModels = nI km) (hMD : MD km N vMany vCounts) (hj : jj < km) (ht : tt < N jj) (hF : sgI vNow (64 * jj) (N jj) F) (hFp : 0 < F tt) (hs : ns F (N jj) ≤ 8192) (hki : ki < 600) (hp : pOk Rg L) (hR6 : 65536 ≤ Rg) (hG : gIs vGoing bs) (hN9 : bs.length + 5 ≤ 9000) : MetI l y_M_put (Cond.code y_M_put prog_14_method_29_code 3 (some .int) :: gw) ({ frames := 4, cells := 0, slots := 0, locals := 93 } : Room) (dC, dI) vwCl (kT cI cM cO) [Value.ref o, Value.int (nI jj), Value.int (nI tt)] [(o, Sum.inr (9, mO g 1 fShift fModels (nI ki) 0 (lN L) (lN Rg) fCache fPend (nI bs.length) fOuts fIns fReads fBad fIR fAsk fBAsk fCode fRL fRR fX fWrites fThrown)), ((g 0), Sum.inl (cI, 8, Sum.inl vMany)), ((g 1), Sum.inl (cI, 512, Sum.inl vCounts)), ((g 2), Sum.inl (cI, 512, Sum.inl vNow)), ((g 4), Sum.inl (cI, 600, Sum.inl vIM)), ((g 5), Sum.inl (cI, 600, Sum.inl vIW)), ((g 6), Sum.inl (cI, 9000, Sum.inl vGoing))] sz (fun (r : Int32) (u : (Nat → Int32) × (Nat → Int32) × (Nat → Int32) × (Nat → Int32)) => r = nI (ki + 1) ∧ u.2.1 = upd vIM ki (nI jj) ∧ u.2.2.1 = upd vIW ki (nI tt) ∧ sgI u.1 (64 * jj) (N jj) (lrn (N jj) tt F) ∧ sgO u.1 vNow (64 * jj) (N jj) ∧ gIs u.2.2.2 ((plS (Rg / ns F (N jj) * F tt, L + Rg / ns F (N jj) * ns F tt, bs)).2.2)) (fun (u : (Nat → Int32) × (Nat → Int32) × (Nat → Int32) × (Nat → Int32)) => [(o, Sum.inr (9, mO g 1 fShift fModels (nI (ki + 1)) 0 (lN (plS (Rg / ns F (N jj) * F tt, L + Rg / ns F (N jj) * ns F tt, bs)).2.1) (lN (plS (Rg / ns F (N jj) * F tt, L + Rg / ns F (N jj) * ns F tt, bs)).1) fCache fPend (nI (plS (Rg / ns F (N jj) * F tt, L + Rg / ns F (N jj) * ns F tt, bs)).2.2.length) fOuts fIns fReads fBad fIR fAsk fBAsk fCode fRL fRR fX fWrites 0)), ((g 0), Sum.inl (cI, 8, Sum.inl vMany)), ((g 1), Sum.inl (cI, 512, Sum.inl vCounts)), ((g 2), Sum.inl (cI, 512, Sum.inl u.1)), ((g 4), Sum.inl (cI, 600, Sum.inl u.2.1)), ((g 5), Sum.inl (cI, 600, Sum.inl u.2.2.1)), ((g 6), Sum.inl (cI, 9000, Sum.inl u.2.2.2))]) 0 0 := by
  refine my_ofI (cc := prog_14_method_29_code) (n := 3) (ret := (some .int)) (by decide) rfl (Nat.le_of_ble_eq_true rfl) ?_
  intro p e s m args below meth c R Q A ls H locs hx hb hr hts hown hlocks hml hnm hR hQ hA hl hP hK hN hD hS
  have hg : ∀ w ∈ gw, w.before args s = true := fun w h => hts w (List.mem_cons_of_mem _ h)
  have hown : s.vm.findClass "RangeCodersModel" = some m.cls := hown
  have hl : lv_has ls 3 [(0, Value.ref o), (1, Value.int (nI jj)), (2, Value.int (nI tt))] := hl
  have hk8 := hMD.1
  obtain ⟨hn9, hn2, hn64, C9, hc9, hB9⟩ := hMD.2 jj hj
  refine lv_aload_n hx hb d_M_put_0 rfl (lv_at hl 0 rfl) ?_
  refine lv_iconst (v := 0) hx hb d_M_put_1 (by decide) ?_
  refine va_put (D := (dC, dI)) (ci := 9) (v := .int 0) (ty := .int) (C := "RangeCodersModel") (T := T_M) (N := 35) hx hb hg in_M t_M o_M n_M hown hK hP hD hS 0 rfl rfl 34 (by decide) (hg _ k986) (fun _ h9 => h9) rfl (o_M 34 (by decide)) rfl rfl (Nat.le_of_ble_eq_true rfl) d_M_put_2 (fun H locs hP hD hS => ?_)
  have hPD : my_PD (dC, dI) vwCl A [(o, Sum.inr (9, mO g 1 fShift fModels (nI ki) 0 (lN L) (lN Rg) fCache fPend (nI bs.length) fOuts fIns fReads fBad fIR fAsk fBAsk fCode fRL fRR fX fWrites 0)), ((g 0), Sum.inl (cI, 8, Sum.inl vMany)), ((g 1), Sum.inl (cI, 512, Sum.inl vCounts)), ((g 2), Sum.inl (cI, 512, Sum.inl vNow)), ((g 4), Sum.inl (cI, 600, Sum.inl vIM)), ((g 5), Sum.inl (cI, 600, Sum.inl vIW)), ((g 6), Sum.inl (cI, 9000, Sum.inl vGoing))] H := ⟨hP, hD⟩
  have hP := hPD.1
  have hD := hPD.2
  refine lv_aload_n hx hb d_M_put_5 rfl (lv_at hl 0 rfl) ?_
  refine lv_iload_n hx hb d_M_put_6 rfl (lv_at hl 1 rfl) ?_
  refine lv_iload_n hx hb d_M_put_7 rfl (lv_at hl 2 rfl) ?_
  refine my_ci (wr := [((g 1), Sum.inl (cI, 512, Sum.inl vCounts)), ((g 2), Sum.inl (cI, 512, Sum.inl vNow)), ((g 4), Sum.inl (cI, 600, Sum.inl vIM)), ((g 5), Sum.inl (cI, 600, Sum.inl vIW)), ((g 6), Sum.inl (cI, 9000, Sum.inl vGoing))]) (va_runV (As := [Value.int (nI jj), Value.int (nI tt)]) (rest := []) ⟨hx, hb, hml, hown, hts⟩ (c_M_isSign l dC dI cI cM cO H.size o g 1 fShift fModels (nI ki) 0 (lN L) (lN Rg) fCache fPend (nI bs.length) fOuts fIns fReads fBad fIR fAsk fBAsk fCode fRL fRR fX fWrites 0 vMany km (nI jj) (nI tt) (hMD.1) (by first | assumption | omega)) (cwV 2 hts (my_gV k1069 k1071 ks25 k12 k1072) rfl rfl rfl cu_M_isSign_2 ⟨by rw [hR]; exact Nat.le_of_ble_eq_true rfl, by rw [hR]; exact Nat.le_of_ble_eq_true rfl⟩) (my_preV hK hN (hP.sub [0, 1] rfl) (hD.sub [0, 1] (by decide +kernel) rfl) 0 rfl rfl) rfl rfl hl.1 rfl (lv_room (Nat.le_of_ble_eq_true rfl)) d_M_put_8 ⟨by rw [hR]; exact Nat.le_of_ble_eq_true rfl, by rw [hR]; exact Nat.le_of_ble_eq_true rfl⟩) hP hD hS hA [0, 1] [2, 3, 4, 5, 6] rfl rfl (by decide +kernel) (by decide +kernel) (fun r_8 u9 H locs hw_8 hP hD hS => ?_)
  have hw_8 : r_8 = if isN km (nI jj) ∧ (0 ≤ (nI tt) ∧ (nI tt) ≤ vMany (nI jj).toNatClampNeg - 1) then 1 else 0 := hw_8
  have hPD : my_PD (dC, dI) vwCl A [((g 1), Sum.inl (cI, 512, Sum.inl vCounts)), ((g 2), Sum.inl (cI, 512, Sum.inl vNow)), ((g 4), Sum.inl (cI, 600, Sum.inl vIM)), ((g 5), Sum.inl (cI, 600, Sum.inl vIW)), ((g 6), Sum.inl (cI, 9000, Sum.inl vGoing)), (o, Sum.inr (9, mO g 1 fShift fModels (nI ki) 0 (lN L) (lN Rg) fCache fPend (nI bs.length) fOuts fIns fReads fBad fIR fAsk fBAsk fCode fRL fRR fX fWrites 0)), ((g 0), Sum.inl (cI, 8, Sum.inl vMany))] H := ⟨hP, hD⟩
  have hP := hPD.1
  have hD := hPD.2
  refine lv_if_ne (tgt := 16) hx hb d_M_put_11 (by decide) (fun c_1 => ?_) (fun c_1 => ?_)
  · refine lv_aload_n hx hb d_M_put_16 rfl (lv_at hl 0 rfl) ?_
    refine va_get (D := (dC, dI)) (ci := 9) (v := .int 0) (C := "RangeCodersModel") (T := T_M) (N := 35) hx hb hg in_M hown hK hP 5 rfl rfl 10 (by decide) (hg _ k962) (fun _ h9 => h9) rfl d_M_put_17 ?_
    refine lv_if_ne (tgt := 45) hx hb d_M_put_20 (by decide) (fun c_2 => ?_) (fun c_2 => ?_)
    · exact absurd rfl c_2
    · refine lv_aload_n hx hb d_M_put_23 rfl (lv_at hl 0 rfl) ?_
      refine va_get (D := (dC, dI)) (ci := 9) (v := .int 1) (C := "RangeCodersModel") (T := T_M) (N := 35) hx hb hg in_M hown hK hP 5 rfl rfl 0 (by decide) (hg _ k952) (fun _ h9 => h9) rfl d_M_put_24 ?_
      refine lv_iconst (v := 2) hx hb d_M_put_27 (by decide) ?_
      refine lv_icmp_eq (tgt := 48) hx hb d_M_put_28 (by decide) (fun c_3 => ?_) (fun c_3 => ?_)
      · exact absurd c_3 (by decide)
      · refine lv_aload_n hx hb d_M_put_31 rfl (lv_at hl 0 rfl) ?_
        refine va_get (D := (dC, dI)) (ci := 9) (v := .ref (g 2)) (C := "RangeCodersModel") (T := T_M) (N := 35) hx hb hg in_M hown hK hP 5 rfl rfl 5 (by decide) (hg _ k957) (fun _ h9 => h9) rfl d_M_put_32 ?_
        refine lv_bipush (v := 64) hx hb d_M_put_35 (by decide) ?_
        refine lv_iload_n hx hb d_M_put_37 rfl (lv_at hl 1 rfl) ?_
        refine lv_imul hx hb d_M_put_38 ?_
        refine lv_topi (fun v_4 ev_4 => ?_)
        refine lv_iload_n hx hb d_M_put_39 rfl (lv_at hl 2 rfl) ?_
        refine lv_iadd hx hb d_M_put_40 ?_
        refine lv_topi (fun v_5 ev_5 => ?_)
        have hix : v_5 = nI (64 * jj + tt) := by rw [ev_5, ev_4]; exact ix64
        refine va_iald hx hb hK hP 1 0 rfl rfl (by rw [hix]; exact vp_in_nI (by omega) (by decide)) d_M_put_41 ?_
        refine lv_topi (fun v_6 ev_6 => ?_)
        have z9 : v_6 = nI (F tt) := by rw [ev_6, hix, nI_clamp (by omega)]; exact hF tt ht
        subst z9
        refine lv_if_ne (tgt := 48) hx hb d_M_put_42 (by decide) (fun c_7 => ?_) (fun c_7 => ?_)
        · refine lv_aload_n hx hb d_M_put_48 rfl (lv_at hl 0 rfl) ?_
          refine va_get (D := (dC, dI)) (ci := 9) (v := .int (nI ki)) (C := "RangeCodersModel") (T := T_M) (N := 35) hx hb hg in_M hown hK hP 5 rfl rfl 7 (by decide) (hg _ k959) (fun _ h9 => h9) rfl d_M_put_49 ?_
          refine lv_sipush (v := 600) hx hb d_M_put_52 (by decide) ?_
          refine lv_icmp_ne (tgt := 61) hx hb d_M_put_55 (by decide) (fun c_8 => ?_) (fun c_8 => ?_)
          · refine lv_aload_n hx hb d_M_put_61 rfl (lv_at hl 0 rfl) ?_
            refine lv_iload_n hx hb d_M_put_62 rfl (lv_at hl 1 rfl) ?_
            refine lv_iload_n hx hb d_M_put_63 rfl (lv_at hl 2 rfl) ?_
            refine my_cv (wr := [((g 1), Sum.inl (cI, 512, Sum.inl vCounts)), ((g 4), Sum.inl (cI, 600, Sum.inl vIM)), ((g 5), Sum.inl (cI, 600, Sum.inl vIW))]) (va_runV (As := [Value.int (nI jj), Value.int (nI tt)]) (rest := []) ⟨hx, hb, hml, hown, hts⟩ (c_M_putSign1 l dC dI cI cM cO H.size o g fShift fModels (nI ki) 0 fCache fPend fOuts fIns fReads fBad fIR fAsk fBAsk fCode fRL fRR fX fWrites 0 vMany vNow vGoing jj (N jj) tt F Rg L bs (by omega) (hn9) (hn64) (ht) (hF) (hFp) (hs) (by first | assumption | omega) (by first | assumption | omega) (by first | assumption | omega) (by first | assumption | omega)) (cwV 2 hts (my_gV k1085 k1087 ks27 k12 k1088) rfl rfl rfl cu_M_putSign_2 ⟨by rw [hR]; exact Nat.le_of_ble_eq_true rfl, by rw [hR]; exact Nat.le_of_ble_eq_true rfl⟩) (my_preV hK hN (hP.sub [5, 6, 1, 4] rfl) (hD.sub [5, 6, 1, 4] (by decide +kernel) rfl) 0 rfl rfl) rfl rfl hl.1 rfl (lv_room (Nat.le_of_ble_eq_true rfl)) d_M_put_64 ⟨by rw [hR]; exact Nat.le_of_ble_eq_true rfl, by rw [hR]; exact Nat.le_of_ble_eq_true rfl⟩) hP hD hS hA [5, 6, 1, 4] [0, 2, 3] rfl rfl (by decide +kernel) (by decide +kernel) (fun u9 H locs hw_64 hP hD hS => ?_)
            obtain ⟨f2_64, v2_64⟩ := u9
            have hw_64 : sgI f2_64 (64 * jj) (N jj) (lrn (N jj) tt F) ∧ sgO f2_64 vNow (64 * jj) (N jj) ∧ gIs v2_64 (plS (Rg / ns F (N jj) * F tt, L + Rg / ns F (N jj) * ns F tt, bs)).2.2 := hw_64
            have hPD : my_PD (dC, dI) vwCl A [((g 1), Sum.inl (cI, 512, Sum.inl vCounts)), ((g 4), Sum.inl (cI, 600, Sum.inl vIM)), ((g 5), Sum.inl (cI, 600, Sum.inl vIW)), (o, Sum.inr (9, mO g 1 fShift fModels (nI ki) 0 (lN (plS (Rg / ns F (N jj) * F tt, L + Rg / ns F (N jj) * ns F tt, bs)).2.1) (lN (plS (Rg / ns F (N jj) * F tt, L + Rg / ns F (N jj) * ns F tt, bs)).1) fCache fPend (nI (plS (Rg / ns F (N jj) * F tt, L + Rg / ns F (N jj) * ns F tt, bs)).2.2.length) fOuts fIns fReads fBad fIR fAsk fBAsk fCode fRL fRR fX fWrites 0)), ((g 0), Sum.inl (cI, 8, Sum.inl vMany)), ((g 2), Sum.inl (cI, 512, Sum.inl f2_64)), ((g 6), Sum.inl (cI, 9000, Sum.inl v2_64))] H := ⟨hP, hD⟩
            have hP := hPD.1
            have hD := hPD.2
            refine lv_aload_n hx hb d_M_put_67 rfl (lv_at hl 0 rfl) ?_
            refine lv_iload_n hx hb d_M_put_68 rfl (lv_at hl 1 rfl) ?_
            refine lv_iload_n hx hb d_M_put_69 rfl (lv_at hl 2 rfl) ?_
            refine my_ci (wr := [((g 1), Sum.inl (cI, 512, Sum.inl vCounts)), ((g 0), Sum.inl (cI, 8, Sum.inl vMany)), ((g 2), Sum.inl (cI, 512, Sum.inl f2_64)), ((g 6), Sum.inl (cI, 9000, Sum.inl v2_64))]) (va_runV (As := [Value.int (nI jj), Value.int (nI tt)]) (rest := []) ⟨hx, hb, hml, hown, hts⟩ (c_M_addItem l dC dI cI cM cO H.size o g 1 fShift fModels 0 (lN (plS (Rg / ns F (N jj) * F tt, L + Rg / ns F (N jj) * ns F tt, bs)).2.1) (lN (plS (Rg / ns F (N jj) * F tt, L + Rg / ns F (N jj) * ns F tt, bs)).1) fCache fPend (nI (plS (Rg / ns F (N jj) * F tt, L + Rg / ns F (N jj) * ns F tt, bs)).2.2.length) fOuts fIns fReads fBad fIR fAsk fBAsk fCode fRL fRR fX fWrites 0 vIM vIW ki (nI jj) (nI tt) (hki)) (cwV 2 hts (my_gV k1135 k1137 ks38 k12 k1138) rfl rfl rfl cu_M_addItem_2 ⟨by rw [hR]; exact Nat.le_of_ble_eq_true rfl, by rw [hR]; exact Nat.le_of_ble_eq_true rfl⟩) (my_preV hK hN (hP.sub [3, 1, 2] rfl) (hD.sub [3, 1, 2] (by decide +kernel) rfl) 0 rfl rfl) rfl rfl hl.1 rfl (lv_room (Nat.le_of_ble_eq_true rfl)) d_M_put_70 ⟨by rw [hR]; exact Nat.le_of_ble_eq_true rfl, by rw [hR]; exact Nat.le_of_ble_eq_true rfl⟩) hP hD hS hA [3, 1, 2] [0, 4, 5, 6] rfl rfl (by decide +kernel) (by decide +kernel) (fun r_70 u9 H locs hw_70 hP hD hS => ?_)
            obtain ⟨f2_70, v2_70⟩ := u9
            have hw_70 : r_70 = nI (ki + 1) ∧ f2_70 = upd vIM ki (nI jj) ∧ v2_70 = upd vIW ki (nI tt) := hw_70
            have hPD : my_PD (dC, dI) vwCl A [((g 1), Sum.inl (cI, 512, Sum.inl vCounts)), ((g 0), Sum.inl (cI, 8, Sum.inl vMany)), ((g 2), Sum.inl (cI, 512, Sum.inl f2_64)), ((g 6), Sum.inl (cI, 9000, Sum.inl v2_64)), (o, Sum.inr (9, mO g 1 fShift fModels (nI (ki + 1)) 0 (lN (plS (Rg / ns F (N jj) * F tt, L + Rg / ns F (N jj) * ns F tt, bs)).2.1) (lN (plS (Rg / ns F (N jj) * F tt, L + Rg / ns F (N jj) * ns F tt, bs)).1) fCache fPend (nI (plS (Rg / ns F (N jj) * F tt, L + Rg / ns F (N jj) * ns F tt, bs)).2.2.length) fOuts fIns fReads fBad fIR fAsk fBAsk fCode fRL fRR fX fWrites 0)), ((g 4), Sum.inl (cI, 600, Sum.inl f2_70)), ((g 5), Sum.inl (cI, 600, Sum.inl v2_70))] H := ⟨hP, hD⟩
            have hP := hPD.1
            have hD := hPD.2
            exact my_iret (v := r_70) hx hb hr (rfl) hlocks hQ hK hS (Nat.le_refl _) (Nat.le_refl _) (f2_64, f2_70, v2_70, v2_64) (⟨hw_70.1, hw_70.2.1, hw_70.2.2, hw_64.1, hw_64.2.1, hw_64.2.2⟩) (hP.sub [4, 1, 0, 2, 5, 6, 3] rfl) (hD.sub [4, 1, 0, 2, 5, 6, 3] (by decide +kernel) rfl) d_M_put_73
          · exact absurd (nI_inj (a := ki) (b := 600) (by omega) (by decide) c_8) (by omega)
        · exact absurd c_7 (nI_ne0 hFp (by have := ns_ge (F := F) ht; omega))
  · exact absurd (sg_yes hMD hj ht) (one_eq hw_8 c_1)
set_option maxHeartbeats 2000000 in
set_option maxRecDepth 100000 in
theorem m_put2L (l : Launch) (dC : Nat → ClassId) (dI : Nat → Nat → Nat) (cI cM cO : ClassId) (sz : Nat) (o : Nat) (g : Nat → Nat) (fModels : Int32) (fOuts : Int32) (fIns : Int32) (fReads : Int32) (fBad : Int32) (fIR : Int32) (fAsk : Int32) (fBAsk : Int32) (fCode : Int64) (fRL : Int64) (fRR : Int64) (fX : Int64) (fWrites : Int32) (fThrown : Int32) (vMany : Nat → Int32) (vCounts : Nat → Int32) (vNow : Nat → Int32) (vIM : Nat → Int32) (vIW : Nat → Int32) (vGoing : Nat → Int32) (km : Nat) (N : Nat → Nat) (jj : Nat) (tt : Nat) (C : Nat → Nat) (sh : Nat) (Rg : Nat) (L : Nat) (ca : Option Nat) (Pn : Nat) (bs : List Nat) (ki : Nat) (hmod : fModels = nI km) (hMD : MD km N vMany vCounts) (hj : jj < km) (ht : tt < N jj) (hF : sgI vNow (64 * jj) 64 C) (hC : ∀ k, k < 64 → 1 ≤ C k ∧ C k ≤ 2047) (hs1 : 1 ≤ sh) (hs2 : sh ≤ 10) (hki : ki < 600) (hE : eInv (Rg, L, ca, Pn, bs)) (hG : gIs vGoing bs) (hN9 : bs.length + Pn + 20 ≤ 9000) : MetI l y_M_put (Cond.code y_M_put prog_14_method_29_code 3 (some .int) :: gw) ({ frames := 5, cells := 0, slots := 0, locals := 111 } : Room) (dC, dI) vwCl (kT cI cM cO) [Value.ref o, Value.int (nI jj), Value.int (nI tt)] [(o, Sum.inr (9, mO g 2 (nI sh) fModels (nI ki) 0 (lN L) (lN Rg) (caI ca) (nI Pn) (nI bs.length) fOuts fIns fReads fBad fIR fAsk fBAsk fCode fRL fRR fX fWrites fThrown)), ((g 0), Sum.inl (cI, 8, Sum.inl vMany)), ((g 1), Sum.inl (cI, 512, Sum.inl vCounts)), ((g 2), Sum.inl (cI, 512, Sum.inl vNow)), ((g 4), Sum.inl (cI, 600, Sum.inl vIM)), ((g 5), Sum.inl (cI, 600, Sum.inl vIW)), ((g 6), Sum.inl (cI, 9000, Sum.inl vGoing))] sz (fun (r : Int32) (u : (Nat → Int32) × (Nat → Int32) × (Nat → Int32) × (Nat → Int32)) => r = nI (ki + 1) ∧ u.2.1 = upd vIM ki (nI jj) ∧ u.2.2.1 = upd vIW ki (nI tt) ∧ sgI u.1 (64 * jj) 64 (spN sh tt (lev (N jj)) 1 (Rg, L, ca, Pn, bs) C).2 ∧ sgO u.1 vNow (64 * jj) 64 ∧ gIs u.2.2.2 (eB (spN sh tt (lev (N jj)) 1 (Rg, L, ca, Pn, bs) C).1)) (fun (u : (Nat → Int32) × (Nat → Int32) × (Nat → Int32) × (Nat → Int32)) => [(o, Sum.inr (9, mO g 2 (nI sh) fModels (nI (ki + 1)) 0 (lN (eL ((spN sh tt (lev (N jj)) 1 (Rg, L, ca, Pn, bs) C).1))) (lN (eR ((spN sh tt (lev (N jj)) 1 (Rg, L, ca, Pn, bs) C).1))) (caI (eC ((spN sh tt (lev (N jj)) 1 (Rg, L, ca, Pn, bs) C).1))) (nI (eP ((spN sh tt (lev (N jj)) 1 (Rg, L, ca, Pn, bs) C).1))) (nI (eB ((spN sh tt (lev (N jj)) 1 (Rg, L, ca, Pn, bs) C).1)).length) fOuts fIns fReads fBad fIR fAsk fBAsk fCode fRL fRR fX fWrites 0)), ((g 0), Sum.inl (cI, 8, Sum.inl vMany)), ((g 1), Sum.inl (cI, 512, Sum.inl vCounts)), ((g 2), Sum.inl (cI, 512, Sum.inl u.1)), ((g 4), Sum.inl (cI, 600, Sum.inl u.2.1)), ((g 5), Sum.inl (cI, 600, Sum.inl u.2.2.1)), ((g 6), Sum.inl (cI, 9000, Sum.inl u.2.2.2))]) 0 0 := by
  refine my_ofI (cc := prog_14_method_29_code) (n := 3) (ret := (some .int)) (by decide) rfl (Nat.le_of_ble_eq_true rfl) ?_
  intro p e s m args below meth c R Q A ls H locs hx hb hr hts hown hlocks hml hnm hR hQ hA hl hP hK hN hD hS
  have hg : ∀ w ∈ gw, w.before args s = true := fun w h => hts w (List.mem_cons_of_mem _ h)
  have hown : s.vm.findClass "RangeCodersModel" = some m.cls := hown
  have hl : lv_has ls 3 [(0, Value.ref o), (1, Value.int (nI jj)), (2, Value.int (nI tt))] := hl
  have hk8 := hMD.1
  obtain ⟨hn9, hn2, hn64, C9, hc9, hB9⟩ := hMD.2 jj hj
  refine lv_aload_n hx hb d_M_put_0 rfl (lv_at hl 0 rfl) ?_
  refine lv_iconst (v := 0) hx hb d_M_put_1 (by decide) ?_
  refine va_put (D := (dC, dI)) (ci := 9) (v := .int 0) (ty := .int) (C := "RangeCodersModel") (T := T_M) (N := 35) hx hb hg in_M t_M o_M n_M hown hK hP hD hS 0 rfl rfl 34 (by decide) (hg _ k986) (fun _ h9 => h9) rfl (o_M 34 (by decide)) rfl rfl (Nat.le_of_ble_eq_true rfl) d_M_put_2 (fun H locs hP hD hS => ?_)
  have hPD : my_PD (dC, dI) vwCl A [(o, Sum.inr (9, mO g 2 (nI sh) fModels (nI ki) 0 (lN L) (lN Rg) (caI ca) (nI Pn) (nI bs.length) fOuts fIns fReads fBad fIR fAsk fBAsk fCode fRL fRR fX fWrites 0)), ((g 0), Sum.inl (cI, 8, Sum.inl vMany)), ((g 1), Sum.inl (cI, 512, Sum.inl vCounts)), ((g 2), Sum.inl (cI, 512, Sum.inl vNow)), ((g 4), Sum.inl (cI, 600, Sum.inl vIM)), ((g 5), Sum.inl (cI, 600, Sum.inl vIW)), ((g 6), Sum.inl (cI, 9000, Sum.inl vGoing))] H := ⟨hP, hD⟩
  have hP := hPD.1
  have hD := hPD.2
  refine lv_aload_n hx hb d_M_put_5 rfl (lv_at hl 0 rfl) ?_
  refine lv_iload_n hx hb d_M_put_6 rfl (lv_at hl 1 rfl) ?_
  refine lv_iload_n hx hb d_M_put_7 rfl (lv_at hl 2 rfl) ?_
  refine my_ci (wr := [((g 1), Sum.inl (cI, 512, Sum.inl vCounts)), ((g 2), Sum.inl (cI, 512, Sum.inl vNow)), ((g 4), Sum.inl (cI, 600, Sum.inl vIM)), ((g 5), Sum.inl (cI, 600, Sum.inl vIW)), ((g 6), Sum.inl (cI, 9000, Sum.inl vGoing))]) (va_runV (As := [Value.int (nI jj), Value.int (nI tt)]) (rest := []) ⟨hx, hb, hml, hown, hts⟩ (c_M_isSign l dC dI cI cM cO H.size o g 2 (nI sh) fModels (nI ki) 0 (lN L) (lN Rg) (caI ca) (nI Pn) (nI bs.length) fOuts fIns fReads fBad fIR fAsk fBAsk fCode fRL fRR fX fWrites 0 vMany km (nI jj) (nI tt) (hMD.1) (by first | assumption | omega)) (cwV 2 hts (my_gV k1069 k1071 ks25 k12 k1072) rfl rfl rfl cu_M_isSign_2 ⟨by rw [hR]; exact Nat.le_of_ble_eq_true rfl, by rw [hR]; exact Nat.le_of_ble_eq_true rfl⟩) (my_preV hK hN (hP.sub [0, 1] rfl) (hD.sub [0, 1] (by decide +kernel) rfl) 0 rfl rfl) rfl rfl hl.1 rfl (lv_room (Nat.le_of_ble_eq_true rfl)) d_M_put_8 ⟨by rw [hR]; exact Nat.le_of_ble_eq_true rfl, by rw [hR]; exact Nat.le_of_ble_eq_true rfl⟩) hP hD hS hA [0, 1] [2, 3, 4, 5, 6] rfl rfl (by decide +kernel) (by decide +kernel) (fun r_8 u9 H locs hw_8 hP hD hS => ?_)
  have hw_8 : r_8 = if isN km (nI jj) ∧ (0 ≤ (nI tt) ∧ (nI tt) ≤ vMany (nI jj).toNatClampNeg - 1) then 1 else 0 := hw_8
  have hPD : my_PD (dC, dI) vwCl A [((g 1), Sum.inl (cI, 512, Sum.inl vCounts)), ((g 2), Sum.inl (cI, 512, Sum.inl vNow)), ((g 4), Sum.inl (cI, 600, Sum.inl vIM)), ((g 5), Sum.inl (cI, 600, Sum.inl vIW)), ((g 6), Sum.inl (cI, 9000, Sum.inl vGoing)), (o, Sum.inr (9, mO g 2 (nI sh) fModels (nI ki) 0 (lN L) (lN Rg) (caI ca) (nI Pn) (nI bs.length) fOuts fIns fReads fBad fIR fAsk fBAsk fCode fRL fRR fX fWrites 0)), ((g 0), Sum.inl (cI, 8, Sum.inl vMany))] H := ⟨hP, hD⟩
  have hP := hPD.1
  have hD := hPD.2
  refine lv_if_ne (tgt := 16) hx hb d_M_put_11 (by decide) (fun c_1 => ?_) (fun c_1 => ?_)
  · refine lv_aload_n hx hb d_M_put_16 rfl (lv_at hl 0 rfl) ?_
    refine va_get (D := (dC, dI)) (ci := 9) (v := .int 0) (C := "RangeCodersModel") (T := T_M) (N := 35) hx hb hg in_M hown hK hP 5 rfl rfl 10 (by decide) (hg _ k962) (fun _ h9 => h9) rfl d_M_put_17 ?_
    refine lv_if_ne (tgt := 45) hx hb d_M_put_20 (by decide) (fun c_2 => ?_) (fun c_2 => ?_)
    · exact absurd rfl c_2
    · refine lv_aload_n hx hb d_M_put_23 rfl (lv_at hl 0 rfl) ?_
      refine va_get (D := (dC, dI)) (ci := 9) (v := .int 2) (C := "RangeCodersModel") (T := T_M) (N := 35) hx hb hg in_M hown hK hP 5 rfl rfl 0 (by decide) (hg _ k952) (fun _ h9 => h9) rfl d_M_put_24 ?_
      refine lv_iconst (v := 2) hx hb d_M_put_27 (by decide) ?_
      refine lv_icmp_eq (tgt := 48) hx hb d_M_put_28 (by decide) (fun c_3 => ?_) (fun c_3 => ?_)
      · refine lv_aload_n hx hb d_M_put_48 rfl (lv_at hl 0 rfl) ?_
        refine va_get (D := (dC, dI)) (ci := 9) (v := .int (nI ki)) (C := "RangeCodersModel") (T := T_M) (N := 35) hx hb hg in_M hown hK hP 5 rfl rfl 7 (by decide) (hg _ k959) (fun _ h9 => h9) rfl d_M_put_49 ?_
        refine lv_sipush (v := 600) hx hb d_M_put_52 (by decide) ?_
        refine lv_icmp_ne (tgt := 61) hx hb d_M_put_55 (by decide) (fun c_4 => ?_) (fun c_4 => ?_)
        · refine lv_aload_n hx hb d_M_put_61 rfl (lv_at hl 0 rfl) ?_
          refine lv_iload_n hx hb d_M_put_62 rfl (lv_at hl 1 rfl) ?_
          refine lv_iload_n hx hb d_M_put_63 rfl (lv_at hl 2 rfl) ?_
          refine my_cv (wr := [((g 1), Sum.inl (cI, 512, Sum.inl vCounts)), ((g 4), Sum.inl (cI, 600, Sum.inl vIM)), ((g 5), Sum.inl (cI, 600, Sum.inl vIW))]) (va_runV (As := [Value.int (nI jj), Value.int (nI tt)]) (rest := []) ⟨hx, hb, hml, hown, hts⟩ (c_M_putSign2 l dC dI cI cM cO H.size o g fModels (nI ki) 0 fOuts fIns fReads fBad fIR fAsk fBAsk fCode fRL fRR fX fWrites 0 vMany vNow vGoing jj (N jj) tt C sh Rg L ca Pn bs (by omega) (hn9) (hn64) (hn2) (ht) (hF) (by first | assumption | omega) (by first | assumption | omega) (by first | assumption | omega) (by first | assumption | omega) (by first | assumption | omega) (by first | assumption | omega)) (cwV 2 hts (my_gV k1085 k1087 ks27 k12 k1088) rfl rfl rfl cu_M_putSign_2 ⟨by rw [hR]; exact Nat.le_of_ble_eq_true rfl, by rw [hR]; exact Nat.le_of_ble_eq_true rfl⟩) (my_preV hK hN (hP.sub [5, 6, 1, 4] rfl) (hD.sub [5, 6, 1, 4] (by decide +kernel) rfl) 0 rfl rfl) rfl rfl hl.1 rfl (lv_room (Nat.le_of_ble_eq_true rfl)) d_M_put_64 ⟨by rw [hR]; exact Nat.le_of_ble_eq_true rfl, by rw [hR]; exact Nat.le_of_ble_eq_true rfl⟩) hP hD hS hA [5, 6, 1, 4] [0, 2, 3] rfl rfl (by decide +kernel) (by decide +kernel) (fun u9 H locs hw_64 hP hD hS => ?_)
          obtain ⟨f2_64, v2_64⟩ := u9
          have hw_64 : sgI f2_64 (64 * jj) 64 (spN sh tt (lev (N jj)) 1 (Rg, L, ca, Pn, bs) C).2 ∧ sgO f2_64 vNow (64 * jj) 64 ∧ gIs v2_64 (eB (spN sh tt (lev (N jj)) 1 (Rg, L, ca, Pn, bs) C).1) := hw_64
          have hPD : my_PD (dC, dI) vwCl A [((g 1), Sum.inl (cI, 512, Sum.inl vCounts)), ((g 4), Sum.inl (cI, 600, Sum.inl vIM)), ((g 5), Sum.inl (cI, 600, Sum.inl vIW)), (o, Sum.inr (9, mO g 2 (nI sh) fModels (nI ki) 0 (lN (eL ((spN sh tt (lev (N jj)) 1 (Rg, L, ca, Pn, bs) C).1))) (lN (eR ((spN sh tt (lev (N jj)) 1 (Rg, L, ca, Pn, bs) C).1))) (caI (eC ((spN sh tt (lev (N jj)) 1 (Rg, L, ca, Pn, bs) C).1))) (nI (eP ((spN sh tt (lev (N jj)) 1 (Rg, L, ca, Pn, bs) C).1))) (nI (eB ((spN sh tt (lev (N jj)) 1 (Rg, L, ca, Pn, bs) C).1)).length) fOuts fIns fReads fBad fIR fAsk fBAsk fCode fRL fRR fX fWrites 0)), ((g 0), Sum.inl (cI, 8, Sum.inl vMany)), ((g 2), Sum.inl (cI, 512, Sum.inl f2_64)), ((g 6), Sum.inl (cI, 9000, Sum.inl v2_64))] H := ⟨hP, hD⟩
          have hP := hPD.1
          have hD := hPD.2
          refine lv_aload_n hx hb d_M_put_67 rfl (lv_at hl 0 rfl) ?_
          refine lv_iload_n hx hb d_M_put_68 rfl (lv_at hl 1 rfl) ?_
          refine lv_iload_n hx hb d_M_put_69 rfl (lv_at hl 2 rfl) ?_
          refine my_ci (wr := [((g 1), Sum.inl (cI, 512, Sum.inl vCounts)), ((g 0), Sum.inl (cI, 8, Sum.inl vMany)), ((g 2), Sum.inl (cI, 512, Sum.inl f2_64)), ((g 6), Sum.inl (cI, 9000, Sum.inl v2_64))]) (va_runV (As := [Value.int (nI jj), Value.int (nI tt)]) (rest := []) ⟨hx, hb, hml, hown, hts⟩ (c_M_addItem l dC dI cI cM cO H.size o g 2 (nI sh) fModels 0 (lN (eL ((spN sh tt (lev (N jj)) 1 (Rg, L, ca, Pn, bs) C).1))) (lN (eR ((spN sh tt (lev (N jj)) 1 (Rg, L, ca, Pn, bs) C).1))) (caI (eC ((spN sh tt (lev (N jj)) 1 (Rg, L, ca, Pn, bs) C).1))) (nI (eP ((spN sh tt (lev (N jj)) 1 (Rg, L, ca, Pn, bs) C).1))) (nI (eB ((spN sh tt (lev (N jj)) 1 (Rg, L, ca, Pn, bs) C).1)).length) fOuts fIns fReads fBad fIR fAsk fBAsk fCode fRL fRR fX fWrites 0 vIM vIW ki (nI jj) (nI tt) (hki)) (cwV 2 hts (my_gV k1135 k1137 ks38 k12 k1138) rfl rfl rfl cu_M_addItem_2 ⟨by rw [hR]; exact Nat.le_of_ble_eq_true rfl, by rw [hR]; exact Nat.le_of_ble_eq_true rfl⟩) (my_preV hK hN (hP.sub [3, 1, 2] rfl) (hD.sub [3, 1, 2] (by decide +kernel) rfl) 0 rfl rfl) rfl rfl hl.1 rfl (lv_room (Nat.le_of_ble_eq_true rfl)) d_M_put_70 ⟨by rw [hR]; exact Nat.le_of_ble_eq_true rfl, by rw [hR]; exact Nat.le_of_ble_eq_true rfl⟩) hP hD hS hA [3, 1, 2] [0, 4, 5, 6] rfl rfl (by decide +kernel) (by decide +kernel) (fun r_70 u9 H locs hw_70 hP hD hS => ?_)
          obtain ⟨f2_70, v2_70⟩ := u9
          have hw_70 : r_70 = nI (ki + 1) ∧ f2_70 = upd vIM ki (nI jj) ∧ v2_70 = upd vIW ki (nI tt) := hw_70
          have hPD : my_PD (dC, dI) vwCl A [((g 1), Sum.inl (cI, 512, Sum.inl vCounts)), ((g 0), Sum.inl (cI, 8, Sum.inl vMany)), ((g 2), Sum.inl (cI, 512, Sum.inl f2_64)), ((g 6), Sum.inl (cI, 9000, Sum.inl v2_64)), (o, Sum.inr (9, mO g 2 (nI sh) fModels (nI (ki + 1)) 0 (lN (eL ((spN sh tt (lev (N jj)) 1 (Rg, L, ca, Pn, bs) C).1))) (lN (eR ((spN sh tt (lev (N jj)) 1 (Rg, L, ca, Pn, bs) C).1))) (caI (eC ((spN sh tt (lev (N jj)) 1 (Rg, L, ca, Pn, bs) C).1))) (nI (eP ((spN sh tt (lev (N jj)) 1 (Rg, L, ca, Pn, bs) C).1))) (nI (eB ((spN sh tt (lev (N jj)) 1 (Rg, L, ca, Pn, bs) C).1)).length) fOuts fIns fReads fBad fIR fAsk fBAsk fCode fRL fRR fX fWrites 0)), ((g 4), Sum.inl (cI, 600, Sum.inl f2_70)), ((g 5), Sum.inl (cI, 600, Sum.inl v2_70))] H := ⟨hP, hD⟩
          have hP := hPD.1
          have hD := hPD.2
          exact my_iret (v := r_70) hx hb hr (rfl) hlocks hQ hK hS (Nat.le_refl _) (Nat.le_refl _) (f2_64, f2_70, v2_70, v2_64) (⟨hw_70.1, hw_70.2.1, hw_70.2.2, hw_64.1, hw_64.2.1, hw_64.2.2⟩) (hP.sub [4, 1, 0, 2, 5, 6, 3] rfl) (hD.sub [4, 1, 0, 2, 5, 6, 3] (by decide +kernel) rfl) d_M_put_73
        · exact absurd (nI_inj (a := ki) (b := 600) (by omega) (by decide) c_4) (by omega)
      · exact absurd rfl c_3
  · exact absurd (sg_yes hMD hj ht) (one_eq hw_8 c_1)
set_option maxHeartbeats 2000000 in
set_option maxRecDepth 100000 in
theorem m_put3L (l : Launch) (dC : Nat → ClassId) (dI : Nat → Nat → Nat) (cI cM cO : ClassId) (sz : Nat) (o : Nat) (g : Nat → Nat) (fShift : Int32) (fModels : Int32) (fLow : Int64) (fRange : Int64) (fCache : Int32) (fPend : Int32) (fGoes : Int32) (fOuts : Int32) (fIns : Int32) (fReads : Int32) (fBad : Int32) (fIR : Int32) (fAsk : Int32) (fBAsk : Int32) (fCode : Int64) (fRL : Int64) (fRR : Int64) (fX : Int64) (fWrites : Int32) (fThrown : Int32) (vMany : Nat → Int32) (vCounts : Nat → Int32) (vNow : Nat → Int32) (vIM : Nat → Int32) (vIW : Nat → Int32) (km : Nat) (N : Nat → Nat) (jj : Nat) (tt : Nat) (F : Nat → Nat) (ki : Nat) (hmod : fModels = nI km) (hMD : MD km N vMany vCounts) (hj : jj < km) (ht : tt < N jj) (hF : sgI vNow (64 * jj) (N jj) F) (hFp : 0 < F tt) (hs : ns F (N jj) ≤ 8192) (hki : ki < 600) : MetI l y_M_put (Cond.code y_M_put prog_14_method_29_code 3 (some .int) :: gw) ({ frames := 3, cells := 0, slots := 0, locals := 65 } : Room) (dC, dI) vwCl (kT cI cM cO) [Value.ref o, Value.int (nI jj), Value.int (nI tt)] [(o, Sum.inr (9, mO g 3 fShift fModels (nI ki) 0 fLow fRange fCache fPend fGoes fOuts fIns fReads fBad fIR fAsk fBAsk fCode fRL fRR fX fWrites fThrown)), ((g 0), Sum.inl (cI, 8, Sum.inl vMany)), ((g 1), Sum.inl (cI, 512, Sum.inl vCounts)), ((g 2), Sum.inl (cI, 512, Sum.inl vNow)), ((g 4), Sum.inl (cI, 600, Sum.inl vIM)), ((g 5), Sum.inl (cI, 600, Sum.inl vIW))] sz (fun (r : Int32) (u : (Nat → Int32) × (Nat → Int32)) => r = nI (ki + 1) ∧ u.1 = upd vIM ki (nI jj) ∧ u.2 = upd vIW ki (nI tt)) (fun (u : (Nat → Int32) × (Nat → Int32)) => [(o, Sum.inr (9, mO g 3 fShift fModels (nI (ki + 1)) 0 fLow fRange fCache fPend fGoes fOuts fIns fReads fBad fIR fAsk fBAsk fCode fRL fRR fX fWrites 0)), ((g 0), Sum.inl (cI, 8, Sum.inl vMany)), ((g 1), Sum.inl (cI, 512, Sum.inl vCounts)), ((g 2), Sum.inl (cI, 512, Sum.inl vNow)), ((g 4), Sum.inl (cI, 600, Sum.inl u.1)), ((g 5), Sum.inl (cI, 600, Sum.inl u.2))]) 0 0 := by
  refine my_ofI (cc := prog_14_method_29_code) (n := 3) (ret := (some .int)) (by decide) rfl (Nat.le_of_ble_eq_true rfl) ?_
  intro p e s m args below meth c R Q A ls H locs hx hb hr hts hown hlocks hml hnm hR hQ hA hl hP hK hN hD hS
  have hg : ∀ w ∈ gw, w.before args s = true := fun w h => hts w (List.mem_cons_of_mem _ h)
  have hown : s.vm.findClass "RangeCodersModel" = some m.cls := hown
  have hl : lv_has ls 3 [(0, Value.ref o), (1, Value.int (nI jj)), (2, Value.int (nI tt))] := hl
  have hk8 := hMD.1
  obtain ⟨hn9, hn2, hn64, C9, hc9, hB9⟩ := hMD.2 jj hj
  refine lv_aload_n hx hb d_M_put_0 rfl (lv_at hl 0 rfl) ?_
  refine lv_iconst (v := 0) hx hb d_M_put_1 (by decide) ?_
  refine va_put (D := (dC, dI)) (ci := 9) (v := .int 0) (ty := .int) (C := "RangeCodersModel") (T := T_M) (N := 35) hx hb hg in_M t_M o_M n_M hown hK hP hD hS 0 rfl rfl 34 (by decide) (hg _ k986) (fun _ h9 => h9) rfl (o_M 34 (by decide)) rfl rfl (Nat.le_of_ble_eq_true rfl) d_M_put_2 (fun H locs hP hD hS => ?_)
  have hPD : my_PD (dC, dI) vwCl A [(o, Sum.inr (9, mO g 3 fShift fModels (nI ki) 0 fLow fRange fCache fPend fGoes fOuts fIns fReads fBad fIR fAsk fBAsk fCode fRL fRR fX fWrites 0)), ((g 0), Sum.inl (cI, 8, Sum.inl vMany)), ((g 1), Sum.inl (cI, 512, Sum.inl vCounts)), ((g 2), Sum.inl (cI, 512, Sum.inl vNow)), ((g 4), Sum.inl (cI, 600, Sum.inl vIM)), ((g 5), Sum.inl (cI, 600, Sum.inl vIW))] H := ⟨hP, hD⟩
  have hP := hPD.1
  have hD := hPD.2
  refine lv_aload_n hx hb d_M_put_5 rfl (lv_at hl 0 rfl) ?_
  refine lv_iload_n hx hb d_M_put_6 rfl (lv_at hl 1 rfl) ?_
  refine lv_iload_n hx hb d_M_put_7 rfl (lv_at hl 2 rfl) ?_
  refine my_ci (wr := [((g 1), Sum.inl (cI, 512, Sum.inl vCounts)), ((g 2), Sum.inl (cI, 512, Sum.inl vNow)), ((g 4), Sum.inl (cI, 600, Sum.inl vIM)), ((g 5), Sum.inl (cI, 600, Sum.inl vIW))]) (va_runV (As := [Value.int (nI jj), Value.int (nI tt)]) (rest := []) ⟨hx, hb, hml, hown, hts⟩ (c_M_isSign l dC dI cI cM cO H.size o g 3 fShift fModels (nI ki) 0 fLow fRange fCache fPend fGoes fOuts fIns fReads fBad fIR fAsk fBAsk fCode fRL fRR fX fWrites 0 vMany km (nI jj) (nI tt) (hMD.1) (by first | assumption | omega)) (cwV 2 hts (my_gV k1069 k1071 ks25 k12 k1072) rfl rfl rfl cu_M_isSign_2 ⟨by rw [hR]; exact Nat.le_of_ble_eq_true rfl, by rw [hR]; exact Nat.le_of_ble_eq_true rfl⟩) (my_preV hK hN (hP.sub [0, 1] rfl) (hD.sub [0, 1] (by decide +kernel) rfl) 0 rfl rfl) rfl rfl hl.1 rfl (lv_room (Nat.le_of_ble_eq_true rfl)) d_M_put_8 ⟨by rw [hR]; exact Nat.le_of_ble_eq_true rfl, by rw [hR]; exact Nat.le_of_ble_eq_true rfl⟩) hP hD hS hA [0, 1] [2, 3, 4, 5] rfl rfl (by decide +kernel) (by decide +kernel) (fun r_8 u9 H locs hw_8 hP hD hS => ?_)
  have hw_8 : r_8 = if isN km (nI jj) ∧ (0 ≤ (nI tt) ∧ (nI tt) ≤ vMany (nI jj).toNatClampNeg - 1) then 1 else 0 := hw_8
  have hPD : my_PD (dC, dI) vwCl A [((g 1), Sum.inl (cI, 512, Sum.inl vCounts)), ((g 2), Sum.inl (cI, 512, Sum.inl vNow)), ((g 4), Sum.inl (cI, 600, Sum.inl vIM)), ((g 5), Sum.inl (cI, 600, Sum.inl vIW)), (o, Sum.inr (9, mO g 3 fShift fModels (nI ki) 0 fLow fRange fCache fPend fGoes fOuts fIns fReads fBad fIR fAsk fBAsk fCode fRL fRR fX fWrites 0)), ((g 0), Sum.inl (cI, 8, Sum.inl vMany))] H := ⟨hP, hD⟩
  have hP := hPD.1
  have hD := hPD.2
  refine lv_if_ne (tgt := 16) hx hb d_M_put_11 (by decide) (fun c_1 => ?_) (fun c_1 => ?_)
  · refine lv_aload_n hx hb d_M_put_16 rfl (lv_at hl 0 rfl) ?_
    refine va_get (D := (dC, dI)) (ci := 9) (v := .int 0) (C := "RangeCodersModel") (T := T_M) (N := 35) hx hb hg in_M hown hK hP 4 rfl rfl 10 (by decide) (hg _ k962) (fun _ h9 => h9) rfl d_M_put_17 ?_
    refine lv_if_ne (tgt := 45) hx hb d_M_put_20 (by decide) (fun c_2 => ?_) (fun c_2 => ?_)
    · exact absurd rfl c_2
    · refine lv_aload_n hx hb d_M_put_23 rfl (lv_at hl 0 rfl) ?_
      refine va_get (D := (dC, dI)) (ci := 9) (v := .int 3) (C := "RangeCodersModel") (T := T_M) (N := 35) hx hb hg in_M hown hK hP 4 rfl rfl 0 (by decide) (hg _ k952) (fun _ h9 => h9) rfl d_M_put_24 ?_
      refine lv_iconst (v := 2) hx hb d_M_put_27 (by decide) ?_
      refine lv_icmp_eq (tgt := 48) hx hb d_M_put_28 (by decide) (fun c_3 => ?_) (fun c_3 => ?_)
      · exact absurd c_3 (by decide)
      · refine lv_aload_n hx hb d_M_put_31 rfl (lv_at hl 0 rfl) ?_
        refine va_get (D := (dC, dI)) (ci := 9) (v := .ref (g 2)) (C := "RangeCodersModel") (T := T_M) (N := 35) hx hb hg in_M hown hK hP 4 rfl rfl 5 (by decide) (hg _ k957) (fun _ h9 => h9) rfl d_M_put_32 ?_
        refine lv_bipush (v := 64) hx hb d_M_put_35 (by decide) ?_
        refine lv_iload_n hx hb d_M_put_37 rfl (lv_at hl 1 rfl) ?_
        refine lv_imul hx hb d_M_put_38 ?_
        refine lv_topi (fun v_4 ev_4 => ?_)
        refine lv_iload_n hx hb d_M_put_39 rfl (lv_at hl 2 rfl) ?_
        refine lv_iadd hx hb d_M_put_40 ?_
        refine lv_topi (fun v_5 ev_5 => ?_)
        have hix : v_5 = nI (64 * jj + tt) := by rw [ev_5, ev_4]; exact ix64
        refine va_iald hx hb hK hP 1 0 rfl rfl (by rw [hix]; exact vp_in_nI (by omega) (by decide)) d_M_put_41 ?_
        refine lv_topi (fun v_6 ev_6 => ?_)
        have z9 : v_6 = nI (F tt) := by rw [ev_6, hix, nI_clamp (by omega)]; exact hF tt ht
        subst z9
        refine lv_if_ne (tgt := 48) hx hb d_M_put_42 (by decide) (fun c_7 => ?_) (fun c_7 => ?_)
        · refine lv_aload_n hx hb d_M_put_48 rfl (lv_at hl 0 rfl) ?_
          refine va_get (D := (dC, dI)) (ci := 9) (v := .int (nI ki)) (C := "RangeCodersModel") (T := T_M) (N := 35) hx hb hg in_M hown hK hP 4 rfl rfl 7 (by decide) (hg _ k959) (fun _ h9 => h9) rfl d_M_put_49 ?_
          refine lv_sipush (v := 600) hx hb d_M_put_52 (by decide) ?_
          refine lv_icmp_ne (tgt := 61) hx hb d_M_put_55 (by decide) (fun c_8 => ?_) (fun c_8 => ?_)
          · refine lv_aload_n hx hb d_M_put_61 rfl (lv_at hl 0 rfl) ?_
            refine lv_iload_n hx hb d_M_put_62 rfl (lv_at hl 1 rfl) ?_
            refine lv_iload_n hx hb d_M_put_63 rfl (lv_at hl 2 rfl) ?_
            refine my_cv (wr := [((g 1), Sum.inl (cI, 512, Sum.inl vCounts)), ((g 2), Sum.inl (cI, 512, Sum.inl vNow)), ((g 4), Sum.inl (cI, 600, Sum.inl vIM)), ((g 5), Sum.inl (cI, 600, Sum.inl vIW)), ((g 0), Sum.inl (cI, 8, Sum.inl vMany))]) (va_runV (As := [Value.int (nI jj), Value.int (nI tt)]) (rest := []) ⟨hx, hb, hml, hown, hts⟩ (c_M_putSign3 l dC dI cI cM cO H.size o g fShift fModels (nI ki) 0 fLow fRange fCache fPend fGoes fOuts fIns fReads fBad fIR fAsk fBAsk fCode fRL fRR fX fWrites 0 (nI jj) (nI tt)) (cwV 2 hts (my_gV k1085 k1087 ks27 k12 k1088) rfl rfl rfl cu_M_putSign_2 ⟨by rw [hR]; exact Nat.le_of_ble_eq_true rfl, by rw [hR]; exact Nat.le_of_ble_eq_true rfl⟩) (my_preV hK hN (hP.sub [4] rfl) (hD.sub [4] (by decide +kernel) rfl) 0 rfl rfl) rfl rfl hl.1 rfl (lv_room (Nat.le_of_ble_eq_true rfl)) d_M_put_64 ⟨by rw [hR]; exact Nat.le_of_ble_eq_true rfl, by rw [hR]; exact Nat.le_of_ble_eq_true rfl⟩) hP hD hS hA [4] [0, 1, 2, 3, 5] rfl rfl (by decide +kernel) (by decide +kernel) (fun u9 H locs hw_64 hP hD hS => ?_)
            have hw_64 : True := hw_64
            have hPD : my_PD (dC, dI) vwCl A [((g 1), Sum.inl (cI, 512, Sum.inl vCounts)), ((g 2), Sum.inl (cI, 512, Sum.inl vNow)), ((g 4), Sum.inl (cI, 600, Sum.inl vIM)), ((g 5), Sum.inl (cI, 600, Sum.inl vIW)), ((g 0), Sum.inl (cI, 8, Sum.inl vMany)), (o, Sum.inr (9, mO g 3 fShift fModels (nI ki) 0 fLow fRange fCache fPend fGoes fOuts fIns fReads fBad fIR fAsk fBAsk fCode fRL fRR fX fWrites 0))] H := ⟨hP, hD⟩
            have hP := hPD.1
            have hD := hPD.2
            refine lv_aload_n hx hb d_M_put_67 rfl (lv_at hl 0 rfl) ?_
            refine lv_iload_n hx hb d_M_put_68 rfl (lv_at hl 1 rfl) ?_
            refine lv_iload_n hx hb d_M_put_69 rfl (lv_at hl 2 rfl) ?_
            refine my_ci (wr := [((g 1), Sum.inl (cI, 512, Sum.inl vCounts)), ((g 2), Sum.inl (cI, 512, Sum.inl vNow)), ((g 0), Sum.inl (cI, 8, Sum.inl vMany))]) (va_runV (As := [Value.int (nI jj), Value.int (nI tt)]) (rest := []) ⟨hx, hb, hml, hown, hts⟩ (c_M_addItem l dC dI cI cM cO H.size o g 3 fShift fModels 0 fLow fRange fCache fPend fGoes fOuts fIns fReads fBad fIR fAsk fBAsk fCode fRL fRR fX fWrites 0 vIM vIW ki (nI jj) (nI tt) (hki)) (cwV 2 hts (my_gV k1135 k1137 ks38 k12 k1138) rfl rfl rfl cu_M_addItem_2 ⟨by rw [hR]; exact Nat.le_of_ble_eq_true rfl, by rw [hR]; exact Nat.le_of_ble_eq_true rfl⟩) (my_preV hK hN (hP.sub [5, 2, 3] rfl) (hD.sub [5, 2, 3] (by decide +kernel) rfl) 0 rfl rfl) rfl rfl hl.1 rfl (lv_room (Nat.le_of_ble_eq_true rfl)) d_M_put_70 ⟨by rw [hR]; exact Nat.le_of_ble_eq_true rfl, by rw [hR]; exact Nat.le_of_ble_eq_true rfl⟩) hP hD hS hA [5, 2, 3] [0, 1, 4] rfl rfl (by decide +kernel) (by decide +kernel) (fun r_70 u9 H locs hw_70 hP hD hS => ?_)
            obtain ⟨f2_70, v2_70⟩ := u9
            have hw_70 : r_70 = nI (ki + 1) ∧ f2_70 = upd vIM ki (nI jj) ∧ v2_70 = upd vIW ki (nI tt) := hw_70
            have hPD : my_PD (dC, dI) vwCl A [((g 1), Sum.inl (cI, 512, Sum.inl vCounts)), ((g 2), Sum.inl (cI, 512, Sum.inl vNow)), ((g 0), Sum.inl (cI, 8, Sum.inl vMany)), (o, Sum.inr (9, mO g 3 fShift fModels (nI (ki + 1)) 0 fLow fRange fCache fPend fGoes fOuts fIns fReads fBad fIR fAsk fBAsk fCode fRL fRR fX fWrites 0)), ((g 4), Sum.inl (cI, 600, Sum.inl f2_70)), ((g 5), Sum.inl (cI, 600, Sum.inl v2_70))] H := ⟨hP, hD⟩
            have hP := hPD.1
            have hD := hPD.2
            exact my_iret (v := r_70) hx hb hr (rfl) hlocks hQ hK hS (Nat.le_refl _) (Nat.le_refl _) (f2_70, v2_70) (⟨hw_70.1, hw_70.2.1, hw_70.2.2⟩) (hP.sub [3, 2, 0, 1, 4, 5] rfl) (hD.sub [3, 2, 0, 1, 4, 5] (by decide +kernel) rfl) d_M_put_73
          · exact absurd (nI_inj (a := ki) (b := 600) (by omega) (by decide) c_8) (by omega)
        · exact absurd c_7 (nI_ne0 hFp (by have := ns_ge (F := F) ht; omega))
  · exact absurd (sg_yes hMD hj ht) (one_eq hw_8 c_1)
set_option maxHeartbeats 2000000 in
set_option maxRecDepth 100000 in
theorem m_put4L (l : Launch) (dC : Nat → ClassId) (dI : Nat → Nat → Nat) (cI cM cO : ClassId) (sz : Nat) (o : Nat) (g : Nat → Nat) (fShift : Int32) (fModels : Int32) (fLow : Int64) (fRange : Int64) (fCache : Int32) (fPend : Int32) (fGoes : Int32) (fOuts : Int32) (fIns : Int32) (fReads : Int32) (fBad : Int32) (fIR : Int32) (fAsk : Int32) (fBAsk : Int32) (fCode : Int64) (fRL : Int64) (fRR : Int64) (fX : Int64) (fWrites : Int32) (fThrown : Int32) (vMany : Nat → Int32) (vCounts : Nat → Int32) (vNow : Nat → Int32) (vIM : Nat → Int32) (vIW : Nat → Int32) (km : Nat) (N : Nat → Nat) (jj : Nat) (tt : Nat) (F : Nat → Nat) (ki : Nat) (hmod : fModels = nI km) (hMD : MD km N vMany vCounts) (hj : jj < km) (ht : tt < N jj) (hF : sgI vNow (64 * jj) (N jj) F) (hFp : 0 < F tt) (hs : ns F (N jj) ≤ 8192) (hki : ki < 600) : MetI l y_M_put (Cond.code y_M_put prog_14_method_29_code 3 (some .int) :: gw) ({ frames := 3, cells := 0, slots := 0, locals := 65 } : Room) (dC, dI) vwCl (kT cI cM cO) [Value.ref o, Value.int (nI jj), Value.int (nI tt)] [(o, Sum.inr (9, mO g 4 fShift fModels (nI ki) 0 fLow fRange fCache fPend fGoes fOuts fIns fReads fBad fIR fAsk fBAsk fCode fRL fRR fX fWrites fThrown)), ((g 0), Sum.inl (cI, 8, Sum.inl vMany)), ((g 1), Sum.inl (cI, 512, Sum.inl vCounts)), ((g 2), Sum.inl (cI, 512, Sum.inl vNow)), ((g 4), Sum.inl (cI, 600, Sum.inl vIM)), ((g 5), Sum.inl (cI, 600, Sum.inl vIW))] sz (fun (r : Int32) (u : (Nat → Int32) × (Nat → Int32)) => r = nI (ki + 1) ∧ u.1 = upd vIM ki (nI jj) ∧ u.2 = upd vIW ki (nI tt)) (fun (u : (Nat → Int32) × (Nat → Int32)) => [(o, Sum.inr (9, mO g 4 fShift fModels (nI (ki + 1)) 0 fLow fRange fCache fPend fGoes fOuts fIns fReads fBad fIR fAsk fBAsk fCode fRL fRR fX fWrites 0)), ((g 0), Sum.inl (cI, 8, Sum.inl vMany)), ((g 1), Sum.inl (cI, 512, Sum.inl vCounts)), ((g 2), Sum.inl (cI, 512, Sum.inl vNow)), ((g 4), Sum.inl (cI, 600, Sum.inl u.1)), ((g 5), Sum.inl (cI, 600, Sum.inl u.2))]) 0 0 := by
  refine my_ofI (cc := prog_14_method_29_code) (n := 3) (ret := (some .int)) (by decide) rfl (Nat.le_of_ble_eq_true rfl) ?_
  intro p e s m args below meth c R Q A ls H locs hx hb hr hts hown hlocks hml hnm hR hQ hA hl hP hK hN hD hS
  have hg : ∀ w ∈ gw, w.before args s = true := fun w h => hts w (List.mem_cons_of_mem _ h)
  have hown : s.vm.findClass "RangeCodersModel" = some m.cls := hown
  have hl : lv_has ls 3 [(0, Value.ref o), (1, Value.int (nI jj)), (2, Value.int (nI tt))] := hl
  have hk8 := hMD.1
  obtain ⟨hn9, hn2, hn64, C9, hc9, hB9⟩ := hMD.2 jj hj
  refine lv_aload_n hx hb d_M_put_0 rfl (lv_at hl 0 rfl) ?_
  refine lv_iconst (v := 0) hx hb d_M_put_1 (by decide) ?_
  refine va_put (D := (dC, dI)) (ci := 9) (v := .int 0) (ty := .int) (C := "RangeCodersModel") (T := T_M) (N := 35) hx hb hg in_M t_M o_M n_M hown hK hP hD hS 0 rfl rfl 34 (by decide) (hg _ k986) (fun _ h9 => h9) rfl (o_M 34 (by decide)) rfl rfl (Nat.le_of_ble_eq_true rfl) d_M_put_2 (fun H locs hP hD hS => ?_)
  have hPD : my_PD (dC, dI) vwCl A [(o, Sum.inr (9, mO g 4 fShift fModels (nI ki) 0 fLow fRange fCache fPend fGoes fOuts fIns fReads fBad fIR fAsk fBAsk fCode fRL fRR fX fWrites 0)), ((g 0), Sum.inl (cI, 8, Sum.inl vMany)), ((g 1), Sum.inl (cI, 512, Sum.inl vCounts)), ((g 2), Sum.inl (cI, 512, Sum.inl vNow)), ((g 4), Sum.inl (cI, 600, Sum.inl vIM)), ((g 5), Sum.inl (cI, 600, Sum.inl vIW))] H := ⟨hP, hD⟩
  have hP := hPD.1
  have hD := hPD.2
  refine lv_aload_n hx hb d_M_put_5 rfl (lv_at hl 0 rfl) ?_
  refine lv_iload_n hx hb d_M_put_6 rfl (lv_at hl 1 rfl) ?_
  refine lv_iload_n hx hb d_M_put_7 rfl (lv_at hl 2 rfl) ?_
  refine my_ci (wr := [((g 1), Sum.inl (cI, 512, Sum.inl vCounts)), ((g 2), Sum.inl (cI, 512, Sum.inl vNow)), ((g 4), Sum.inl (cI, 600, Sum.inl vIM)), ((g 5), Sum.inl (cI, 600, Sum.inl vIW))]) (va_runV (As := [Value.int (nI jj), Value.int (nI tt)]) (rest := []) ⟨hx, hb, hml, hown, hts⟩ (c_M_isSign l dC dI cI cM cO H.size o g 4 fShift fModels (nI ki) 0 fLow fRange fCache fPend fGoes fOuts fIns fReads fBad fIR fAsk fBAsk fCode fRL fRR fX fWrites 0 vMany km (nI jj) (nI tt) (hMD.1) (by first | assumption | omega)) (cwV 2 hts (my_gV k1069 k1071 ks25 k12 k1072) rfl rfl rfl cu_M_isSign_2 ⟨by rw [hR]; exact Nat.le_of_ble_eq_true rfl, by rw [hR]; exact Nat.le_of_ble_eq_true rfl⟩) (my_preV hK hN (hP.sub [0, 1] rfl) (hD.sub [0, 1] (by decide +kernel) rfl) 0 rfl rfl) rfl rfl hl.1 rfl (lv_room (Nat.le_of_ble_eq_true rfl)) d_M_put_8 ⟨by rw [hR]; exact Nat.le_of_ble_eq_true rfl, by rw [hR]; exact Nat.le_of_ble_eq_true rfl⟩) hP hD hS hA [0, 1] [2, 3, 4, 5] rfl rfl (by decide +kernel) (by decide +kernel) (fun r_8 u9 H locs hw_8 hP hD hS => ?_)
  have hw_8 : r_8 = if isN km (nI jj) ∧ (0 ≤ (nI tt) ∧ (nI tt) ≤ vMany (nI jj).toNatClampNeg - 1) then 1 else 0 := hw_8
  have hPD : my_PD (dC, dI) vwCl A [((g 1), Sum.inl (cI, 512, Sum.inl vCounts)), ((g 2), Sum.inl (cI, 512, Sum.inl vNow)), ((g 4), Sum.inl (cI, 600, Sum.inl vIM)), ((g 5), Sum.inl (cI, 600, Sum.inl vIW)), (o, Sum.inr (9, mO g 4 fShift fModels (nI ki) 0 fLow fRange fCache fPend fGoes fOuts fIns fReads fBad fIR fAsk fBAsk fCode fRL fRR fX fWrites 0)), ((g 0), Sum.inl (cI, 8, Sum.inl vMany))] H := ⟨hP, hD⟩
  have hP := hPD.1
  have hD := hPD.2
  refine lv_if_ne (tgt := 16) hx hb d_M_put_11 (by decide) (fun c_1 => ?_) (fun c_1 => ?_)
  · refine lv_aload_n hx hb d_M_put_16 rfl (lv_at hl 0 rfl) ?_
    refine va_get (D := (dC, dI)) (ci := 9) (v := .int 0) (C := "RangeCodersModel") (T := T_M) (N := 35) hx hb hg in_M hown hK hP 4 rfl rfl 10 (by decide) (hg _ k962) (fun _ h9 => h9) rfl d_M_put_17 ?_
    refine lv_if_ne (tgt := 45) hx hb d_M_put_20 (by decide) (fun c_2 => ?_) (fun c_2 => ?_)
    · exact absurd rfl c_2
    · refine lv_aload_n hx hb d_M_put_23 rfl (lv_at hl 0 rfl) ?_
      refine va_get (D := (dC, dI)) (ci := 9) (v := .int 4) (C := "RangeCodersModel") (T := T_M) (N := 35) hx hb hg in_M hown hK hP 4 rfl rfl 0 (by decide) (hg _ k952) (fun _ h9 => h9) rfl d_M_put_24 ?_
      refine lv_iconst (v := 2) hx hb d_M_put_27 (by decide) ?_
      refine lv_icmp_eq (tgt := 48) hx hb d_M_put_28 (by decide) (fun c_3 => ?_) (fun c_3 => ?_)
      · exact absurd c_3 (by decide)
      · refine lv_aload_n hx hb d_M_put_31 rfl (lv_at hl 0 rfl) ?_
        refine va_get (D := (dC, dI)) (ci := 9) (v := .ref (g 2)) (C := "RangeCodersModel") (T := T_M) (N := 35) hx hb hg in_M hown hK hP 4 rfl rfl 5 (by decide) (hg _ k957) (fun _ h9 => h9) rfl d_M_put_32 ?_
        refine lv_bipush (v := 64) hx hb d_M_put_35 (by decide) ?_
        refine lv_iload_n hx hb d_M_put_37 rfl (lv_at hl 1 rfl) ?_
        refine lv_imul hx hb d_M_put_38 ?_
        refine lv_topi (fun v_4 ev_4 => ?_)
        refine lv_iload_n hx hb d_M_put_39 rfl (lv_at hl 2 rfl) ?_
        refine lv_iadd hx hb d_M_put_40 ?_
        refine lv_topi (fun v_5 ev_5 => ?_)
        have hix : v_5 = nI (64 * jj + tt) := by rw [ev_5, ev_4]; exact ix64
        refine va_iald hx hb hK hP 1 0 rfl rfl (by rw [hix]; exact vp_in_nI (by omega) (by decide)) d_M_put_41 ?_
        refine lv_topi (fun v_6 ev_6 => ?_)
        have z9 : v_6 = nI (F tt) := by rw [ev_6, hix, nI_clamp (by omega)]; exact hF tt ht
        subst z9
        refine lv_if_ne (tgt := 48) hx hb d_M_put_42 (by decide) (fun c_7 => ?_) (fun c_7 => ?_)
        · refine lv_aload_n hx hb d_M_put_48 rfl (lv_at hl 0 rfl) ?_
          refine va_get (D := (dC, dI)) (ci := 9) (v := .int (nI ki)) (C := "RangeCodersModel") (T := T_M) (N := 35) hx hb hg in_M hown hK hP 4 rfl rfl 7 (by decide) (hg _ k959) (fun _ h9 => h9) rfl d_M_put_49 ?_
          refine lv_sipush (v := 600) hx hb d_M_put_52 (by decide) ?_
          refine lv_icmp_ne (tgt := 61) hx hb d_M_put_55 (by decide) (fun c_8 => ?_) (fun c_8 => ?_)
          · refine lv_aload_n hx hb d_M_put_61 rfl (lv_at hl 0 rfl) ?_
            refine lv_iload_n hx hb d_M_put_62 rfl (lv_at hl 1 rfl) ?_
            refine lv_iload_n hx hb d_M_put_63 rfl (lv_at hl 2 rfl) ?_
            refine my_cv (wr := [((g 1), Sum.inl (cI, 512, Sum.inl vCounts)), ((g 2), Sum.inl (cI, 512, Sum.inl vNow)), ((g 4), Sum.inl (cI, 600, Sum.inl vIM)), ((g 5), Sum.inl (cI, 600, Sum.inl vIW)), ((g 0), Sum.inl (cI, 8, Sum.inl vMany))]) (va_runV (As := [Value.int (nI jj), Value.int (nI tt)]) (rest := []) ⟨hx, hb, hml, hown, hts⟩ (c_M_putSign4 l dC dI cI cM cO H.size o g fShift fModels (nI ki) 0 fLow fRange fCache fPend fGoes fOuts fIns fReads fBad fIR fAsk fBAsk fCode fRL fRR fX fWrites 0 (nI jj) (nI tt)) (cwV 2 hts (my_gV k1085 k1087 ks27 k12 k1088) rfl rfl rfl cu_M_putSign_2 ⟨by rw [hR]; exact Nat.le_of_ble_eq_true rfl, by rw [hR]; exact Nat.le_of_ble_eq_true rfl⟩) (my_preV hK hN (hP.sub [4] rfl) (hD.sub [4] (by decide +kernel) rfl) 0 rfl rfl) rfl rfl hl.1 rfl (lv_room (Nat.le_of_ble_eq_true rfl)) d_M_put_64 ⟨by rw [hR]; exact Nat.le_of_ble_eq_true rfl, by rw [hR]; exact Nat.le_of_ble_eq_true rfl⟩) hP hD hS hA [4] [0, 1, 2, 3, 5] rfl rfl (by decide +kernel) (by decide +kernel) (fun u9 H locs hw_64 hP hD hS => ?_)
            have hw_64 : True := hw_64
            have hPD : my_PD (dC, dI) vwCl A [((g 1), Sum.inl (cI, 512, Sum.inl vCounts)), ((g 2), Sum.inl (cI, 512, Sum.inl vNow)), ((g 4), Sum.inl (cI, 600, Sum.inl vIM)), ((g 5), Sum.inl (cI, 600, Sum.inl vIW)), ((g 0), Sum.inl (cI, 8, Sum.inl vMany)), (o, Sum.inr (9, mO g 4 fShift fModels (nI ki) 0 fLow fRange fCache fPend fGoes fOuts fIns fReads fBad fIR fAsk fBAsk fCode fRL fRR fX fWrites 0))] H := ⟨hP, hD⟩
            have hP := hPD.1
            have hD := hPD.2
            refine lv_aload_n hx hb d_M_put_67 rfl (lv_at hl 0 rfl) ?_
            refine lv_iload_n hx hb d_M_put_68 rfl (lv_at hl 1 rfl) ?_
            refine lv_iload_n hx hb d_M_put_69 rfl (lv_at hl 2 rfl) ?_
            refine my_ci (wr := [((g 1), Sum.inl (cI, 512, Sum.inl vCounts)), ((g 2), Sum.inl (cI, 512, Sum.inl vNow)), ((g 0), Sum.inl (cI, 8, Sum.inl vMany))]) (va_runV (As := [Value.int (nI jj), Value.int (nI tt)]) (rest := []) ⟨hx, hb, hml, hown, hts⟩ (c_M_addItem l dC dI cI cM cO H.size o g 4 fShift fModels 0 fLow fRange fCache fPend fGoes fOuts fIns fReads fBad fIR fAsk fBAsk fCode fRL fRR fX fWrites 0 vIM vIW ki (nI jj) (nI tt) (hki)) (cwV 2 hts (my_gV k1135 k1137 ks38 k12 k1138) rfl rfl rfl cu_M_addItem_2 ⟨by rw [hR]; exact Nat.le_of_ble_eq_true rfl, by rw [hR]; exact Nat.le_of_ble_eq_true rfl⟩) (my_preV hK hN (hP.sub [5, 2, 3] rfl) (hD.sub [5, 2, 3] (by decide +kernel) rfl) 0 rfl rfl) rfl rfl hl.1 rfl (lv_room (Nat.le_of_ble_eq_true rfl)) d_M_put_70 ⟨by rw [hR]; exact Nat.le_of_ble_eq_true rfl, by rw [hR]; exact Nat.le_of_ble_eq_true rfl⟩) hP hD hS hA [5, 2, 3] [0, 1, 4] rfl rfl (by decide +kernel) (by decide +kernel) (fun r_70 u9 H locs hw_70 hP hD hS => ?_)
            obtain ⟨f2_70, v2_70⟩ := u9
            have hw_70 : r_70 = nI (ki + 1) ∧ f2_70 = upd vIM ki (nI jj) ∧ v2_70 = upd vIW ki (nI tt) := hw_70
            have hPD : my_PD (dC, dI) vwCl A [((g 1), Sum.inl (cI, 512, Sum.inl vCounts)), ((g 2), Sum.inl (cI, 512, Sum.inl vNow)), ((g 0), Sum.inl (cI, 8, Sum.inl vMany)), (o, Sum.inr (9, mO g 4 fShift fModels (nI (ki + 1)) 0 fLow fRange fCache fPend fGoes fOuts fIns fReads fBad fIR fAsk fBAsk fCode fRL fRR fX fWrites 0)), ((g 4), Sum.inl (cI, 600, Sum.inl f2_70)), ((g 5), Sum.inl (cI, 600, Sum.inl v2_70))] H := ⟨hP, hD⟩
            have hP := hPD.1
            have hD := hPD.2
            exact my_iret (v := r_70) hx hb hr (rfl) hlocks hQ hK hS (Nat.le_refl _) (Nat.le_refl _) (f2_70, v2_70) (⟨hw_70.1, hw_70.2.1, hw_70.2.2⟩) (hP.sub [3, 2, 0, 1, 4, 5] rfl) (hD.sub [3, 2, 0, 1, 4, 5] (by decide +kernel) rfl) d_M_put_73
          · exact absurd (nI_inj (a := ki) (b := 600) (by omega) (by decide) c_8) (by omega)
        · exact absurd c_7 (nI_ne0 hFp (by have := ns_ge (F := F) ht; omega))
  · exact absurd (sg_yes hMD hj ht) (one_eq hw_8 c_1)
end
section
set_option maxHeartbeats 2000000 in
set_option maxRecDepth 100000 in
theorem m_bits0W (l : Launch) (dC : Nat → ClassId) (dI : Nat → Nat → Nat) (cI cM cO : ClassId) (sz : Nat) (o : Nat) (g : Nat → Nat) (fShift : Int32) (fModels : Int32) (fItems : Int32) (fEnded : Int32) (fLow : Int64) (fRange : Int64) (fCache : Int32) (fPend : Int32) (fGoes : Int32) (fOuts : Int32) (fIns : Int32) (fReads : Int32) (fBad : Int32) (fIR : Int32) (fAsk : Int32) (fBAsk : Int32) (fCode : Int64) (fRL : Int64) (fRR : Int64) (fX : Int64) (fWrites : Int32) (fThrown : Int32) (p1 : Int32) (p2 : Int32) (hno : ¬ okB 12 p1 p2) : MetI l y_M_bits (Cond.code y_M_bits prog_14_method_30_code 3 (some .int) :: gw) ({ frames := 1, cells := 0, slots := 0, locals := 22 } : Room) (dC, dI) vwCl (kT cI cM cO) [Value.ref o, Value.int p1, Value.int p2] [(o, Sum.inr (9, mO g 0 fShift fModels fItems fEnded fLow fRange fCache fPend fGoes fOuts fIns fReads fBad fIR fAsk fBAsk fCode fRL fRR fX fWrites fThrown))] sz (fun (r : Int32) (u : Unit) => r = -2) (fun (u : Unit) => [(o, Sum.inr (9, mO g 0 fShift fModels fItems fEnded fLow fRange fCache fPend fGoes fOuts fIns fReads fBad fIR fAsk fBAsk fCode fRL fRR fX fWrites 0))]) 0 0 := by
  refine my_ofI (cc := prog_14_method_30_code) (n := 3) (ret := (some .int)) (by decide) rfl (Nat.le_of_ble_eq_true rfl) ?_
  intro p e s m args below meth c R Q A ls H locs hx hb hr hts hown hlocks hml hnm hR hQ hA hl hP hK hN hD hS
  have hg : ∀ w ∈ gw, w.before args s = true := fun w h => hts w (List.mem_cons_of_mem _ h)
  have hown : s.vm.findClass "RangeCodersModel" = some m.cls := hown
  have hl : lv_has ls 3 [(0, Value.ref o), (1, Value.int p1), (2, Value.int p2)] := hl
  refine lv_aload_n hx hb d_M_bits_0 rfl (lv_at hl 0 rfl) ?_
  refine lv_iconst (v := 0) hx hb d_M_bits_1 (by decide) ?_
  refine va_put (D := (dC, dI)) (ci := 9) (v := .int 0) (ty := .int) (C := "RangeCodersModel") (T := T_M) (N := 35) hx hb hg in_M t_M o_M n_M hown hK hP hD hS 0 rfl rfl 34 (by decide) (hg _ k986) (fun _ h9 => h9) rfl (o_M 34 (by decide)) rfl rfl (Nat.le_of_ble_eq_true rfl) d_M_bits_2 (fun H locs hP hD hS => ?_)
  have hPD : my_PD (dC, dI) vwCl A [(o, Sum.inr (9, mO g 0 fShift fModels fItems fEnded fLow fRange fCache fPend fGoes fOuts fIns fReads fBad fIR fAsk fBAsk fCode fRL fRR fX fWrites 0))] H := ⟨hP, hD⟩
  have hP := hPD.1
  have hD := hPD.2
  refine lv_iload_n hx hb d_M_bits_5 rfl (lv_at hl 2 rfl) ?_
  refine lv_iconst (v := 1) hx hb d_M_bits_6 (by decide) ?_
  refine lv_aload_n hx hb d_M_bits_7 rfl (lv_at hl 0 rfl) ?_
  refine va_get (D := (dC, dI)) (ci := 9) (v := .int 0) (C := "RangeCodersModel") (T := T_M) (N := 35) hx hb hg in_M hown hK hP 0 rfl rfl 0 (by decide) (hg _ k952) (fun _ h9 => h9) rfl d_M_bits_8 ?_
  refine lv_iconst (v := 4) hx hb d_M_bits_11 (by decide) ?_
  refine lv_icmp_ne (tgt := 20) hx hb d_M_bits_12 (by decide) (fun c_1 => ?_) (fun c_1 => ?_)
  · refine lv_bipush (v := 12) hx hb d_M_bits_20 (by decide) ?_
    refine my_ci (wr := [(o, Sum.inr (9, mO g 0 fShift fModels fItems fEnded fLow fRange fCache fPend fGoes fOuts fIns fReads fBad fIR fAsk fBAsk fCode fRL fRR fX fWrites 0))]) (va_runS (As := [Value.int p2, Value.int 1, Value.int 12]) (rest := []) ⟨hx, hb, hml, hown, hts⟩ (c_M_in l dC dI cI cM cO H.size p2 1 12) (cwS 3 hts (my_gS k1062 k1063 k12 k1064) rfl rfl rfl (by decide +kernel) ⟨by rw [hR]; exact Nat.le_of_ble_eq_true rfl, by rw [hR]; exact Nat.le_of_ble_eq_true rfl⟩) (my_pre hK hN (hP.sub [] rfl) (hD.sub [] (by decide +kernel) rfl)) rfl rfl hl.1 rfl (lv_room (Nat.le_of_ble_eq_true rfl)) d_M_bits_22 ⟨by rw [hR]; exact Nat.le_of_ble_eq_true rfl, by rw [hR]; exact Nat.le_of_ble_eq_true rfl⟩) hP hD hS hA [] [0] rfl rfl (by decide +kernel) (by decide +kernel) (fun r_22 u9 H locs hw_22 hP hD hS => ?_)
    have hw_22 : r_22 = if 1 ≤ p2 ∧ p2 ≤ 12 then 1 else 0 := hw_22
    have hPD : my_PD (dC, dI) vwCl A [(o, Sum.inr (9, mO g 0 fShift fModels fItems fEnded fLow fRange fCache fPend fGoes fOuts fIns fReads fBad fIR fAsk fBAsk fCode fRL fRR fX fWrites 0))] H := ⟨hP, hD⟩
    have hP := hPD.1
    have hD := hPD.2
    refine lv_if_eq (tgt := 41) hx hb d_M_bits_25 (by decide) (fun c_2 => ?_) (fun c_2 => ?_)
    · refine lv_bipush (v := (-2)) hx hb d_M_bits_41 (by decide) ?_
      exact my_iret (v := (-2)) hx hb hr (rfl) hlocks hQ hK hS (Nat.le_refl _) (Nat.le_refl _) () (rfl) (hP.sub [0] rfl) (hD.sub [0] (by decide +kernel) rfl) d_M_bits_43
    · refine lv_iload_n hx hb d_M_bits_28 rfl (lv_at hl 1 rfl) ?_
      refine lv_iconst (v := 0) hx hb d_M_bits_29 (by decide) ?_
      refine lv_iconst (v := 1) hx hb d_M_bits_30 (by decide) ?_
      refine lv_iload_n hx hb d_M_bits_31 rfl (lv_at hl 2 rfl) ?_
      refine lv_ishl hx hb d_M_bits_32 ?_
      refine lv_topi (fun v_3 ev_3 => ?_)
      refine lv_iconst (v := 1) hx hb d_M_bits_33 (by decide) ?_
      refine lv_isub hx hb d_M_bits_34 ?_
      refine lv_topi (fun v_4 ev_4 => ?_)
      refine my_ci (wr := [(o, Sum.inr (9, mO g 0 fShift fModels fItems fEnded fLow fRange fCache fPend fGoes fOuts fIns fReads fBad fIR fAsk fBAsk fCode fRL fRR fX fWrites 0))]) (va_runS (As := [Value.int p1, Value.int 0, Value.int v_4]) (rest := []) ⟨hx, hb, hml, hown, hts⟩ (c_M_in l dC dI cI cM cO H.size p1 0 v_4) (cwS 3 hts (my_gS k1062 k1063 k12 k1064) rfl rfl rfl (by decide +kernel) ⟨by rw [hR]; exact Nat.le_of_ble_eq_true rfl, by rw [hR]; exact Nat.le_of_ble_eq_true rfl⟩) (my_pre hK hN (hP.sub [] rfl) (hD.sub [] (by decide +kernel) rfl)) rfl rfl hl.1 rfl (lv_room (Nat.le_of_ble_eq_true rfl)) d_M_bits_35 ⟨by rw [hR]; exact Nat.le_of_ble_eq_true rfl, by rw [hR]; exact Nat.le_of_ble_eq_true rfl⟩) hP hD hS hA [] [0] rfl rfl (by decide +kernel) (by decide +kernel) (fun r_35 u9 H locs hw_35 hP hD hS => ?_)
      have hw_35 : r_35 = if 0 ≤ p1 ∧ p1 ≤ v_4 then 1 else 0 := hw_35
      have hPD : my_PD (dC, dI) vwCl A [(o, Sum.inr (9, mO g 0 fShift fModels fItems fEnded fLow fRange fCache fPend fGoes fOuts fIns fReads fBad fIR fAsk fBAsk fCode fRL fRR fX fWrites 0))] H := ⟨hP, hD⟩
      have hP := hPD.1
      have hD := hPD.2
      refine lv_if_ne (tgt := 44) hx hb d_M_bits_38 (by decide) (fun c_5 => ?_) (fun c_5 => ?_)
      · exact absurd (one_ne hw_35 c_5) (okB_no (by decide) hno (one_ne hw_22 c_2) (by subst_vars; rfl))
      · refine lv_bipush (v := (-2)) hx hb d_M_bits_41 (by decide) ?_
        exact my_iret (v := (-2)) hx hb hr (rfl) hlocks hQ hK hS (Nat.le_refl _) (Nat.le_refl _) () (rfl) (hP.sub [0] rfl) (hD.sub [0] (by decide +kernel) rfl) d_M_bits_43
  · exact absurd c_1 (by decide)
set_option maxHeartbeats 2000000 in
set_option maxRecDepth 100000 in
theorem m_bits0E (l : Launch) (dC : Nat → ClassId) (dI : Nat → Nat → Nat) (cI cM cO : ClassId) (sz : Nat) (o : Nat) (g : Nat → Nat) (fShift : Int32) (fModels : Int32) (fItems : Int32) (fEnded : Int32) (fLow : Int64) (fRange : Int64) (fCache : Int32) (fPend : Int32) (fGoes : Int32) (fOuts : Int32) (fIns : Int32) (fReads : Int32) (fBad : Int32) (fIR : Int32) (fAsk : Int32) (fBAsk : Int32) (fCode : Int64) (fRL : Int64) (fRR : Int64) (fX : Int64) (fWrites : Int32) (fThrown : Int32) (vv : Nat) (bb : Nat) (hb1 : 1 ≤ bb) (hb2 : bb ≤ 12) (hv : vv < 2 ^ bb) (hen : ¬ fEnded = 0) : MetI l y_M_bits (Cond.code y_M_bits prog_14_method_30_code 3 (some .int) :: gw) ({ frames := 1, cells := 0, slots := 0, locals := 22 } : Room) (dC, dI) vwCl (kT cI cM cO) [Value.ref o, Value.int (nI vv), Value.int (nI bb)] [(o, Sum.inr (9, mO g 0 fShift fModels fItems fEnded fLow fRange fCache fPend fGoes fOuts fIns fReads fBad fIR fAsk fBAsk fCode fRL fRR fX fWrites fThrown))] sz (fun (r : Int32) (u : Unit) => r = -3) (fun (u : Unit) => [(o, Sum.inr (9, mO g 0 fShift fModels fItems fEnded fLow fRange fCache fPend fGoes fOuts fIns fReads fBad fIR fAsk fBAsk fCode fRL fRR fX fWrites 0))]) 0 0 := by
  refine my_ofI (cc := prog_14_method_30_code) (n := 3) (ret := (some .int)) (by decide) rfl (Nat.le_of_ble_eq_true rfl) ?_
  intro p e s m args below meth c R Q A ls H locs hx hb hr hts hown hlocks hml hnm hR hQ hA hl hP hK hN hD hS
  have hg : ∀ w ∈ gw, w.before args s = true := fun w h => hts w (List.mem_cons_of_mem _ h)
  have hown : s.vm.findClass "RangeCodersModel" = some m.cls := hown
  have hl : lv_has ls 3 [(0, Value.ref o), (1, Value.int (nI vv)), (2, Value.int (nI bb))] := hl
  have hp12 : 2 ^ bb ≤ 4096 := pw12 (by omega)
  have hp0 := Nat.two_pow_pos bb
  refine lv_aload_n hx hb d_M_bits_0 rfl (lv_at hl 0 rfl) ?_
  refine lv_iconst (v := 0) hx hb d_M_bits_1 (by decide) ?_
  refine va_put (D := (dC, dI)) (ci := 9) (v := .int 0) (ty := .int) (C := "RangeCodersModel") (T := T_M) (N := 35) hx hb hg in_M t_M o_M n_M hown hK hP hD hS 0 rfl rfl 34 (by decide) (hg _ k986) (fun _ h9 => h9) rfl (o_M 34 (by decide)) rfl rfl (Nat.le_of_ble_eq_true rfl) d_M_bits_2 (fun H locs hP hD hS => ?_)
  have hPD : my_PD (dC, dI) vwCl A [(o, Sum.inr (9, mO g 0 fShift fModels fItems fEnded fLow fRange fCache fPend fGoes fOuts fIns fReads fBad fIR fAsk fBAsk fCode fRL fRR fX fWrites 0))] H := ⟨hP, hD⟩
  have hP := hPD.1
  have hD := hPD.2
  refine lv_iload_n hx hb d_M_bits_5 rfl (lv_at hl 2 rfl) ?_
  refine lv_iconst (v := 1) hx hb d_M_bits_6 (by decide) ?_
  refine lv_aload_n hx hb d_M_bits_7 rfl (lv_at hl 0 rfl) ?_
  refine va_get (D := (dC, dI)) (ci := 9) (v := .int 0) (C := "RangeCodersModel") (T := T_M) (N := 35) hx hb hg in_M hown hK hP 0 rfl rfl 0 (by decide) (hg _ k952) (fun _ h9 => h9) rfl d_M_bits_8 ?_
  refine lv_iconst (v := 4) hx hb d_M_bits_11 (by decide) ?_
  refine lv_icmp_ne (tgt := 20) hx hb d_M_bits_12 (by decide) (fun c_1 => ?_) (fun c_1 => ?_)
  · refine lv_bipush (v := 12) hx hb d_M_bits_20 (by decide) ?_
    refine my_ci (wr := [(o, Sum.inr (9, mO g 0 fShift fModels fItems fEnded fLow fRange fCache fPend fGoes fOuts fIns fReads fBad fIR fAsk fBAsk fCode fRL fRR fX fWrites 0))]) (va_runS (As := [Value.int (nI bb), Value.int 1, Value.int 12]) (rest := []) ⟨hx, hb, hml, hown, hts⟩ (c_M_in l dC dI cI cM cO H.size (nI bb) 1 12) (cwS 3 hts (my_gS k1062 k1063 k12 k1064) rfl rfl rfl (by decide +kernel) ⟨by rw [hR]; exact Nat.le_of_ble_eq_true rfl, by rw [hR]; exact Nat.le_of_ble_eq_true rfl⟩) (my_pre hK hN (hP.sub [] rfl) (hD.sub [] (by decide +kernel) rfl)) rfl rfl hl.1 rfl (lv_room (Nat.le_of_ble_eq_true rfl)) d_M_bits_22 ⟨by rw [hR]; exact Nat.le_of_ble_eq_true rfl, by rw [hR]; exact Nat.le_of_ble_eq_true rfl⟩) hP hD hS hA [] [0] rfl rfl (by decide +kernel) (by decide +kernel) (fun r_22 u9 H locs hw_22 hP hD hS => ?_)
    have hw_22 : r_22 = if 1 ≤ (nI bb) ∧ (nI bb) ≤ 12 then 1 else 0 := hw_22
    have hPD : my_PD (dC, dI) vwCl A [(o, Sum.inr (9, mO g 0 fShift fModels fItems fEnded fLow fRange fCache fPend fGoes fOuts fIns fReads fBad fIR fAsk fBAsk fCode fRL fRR fX fWrites 0))] H := ⟨hP, hD⟩
    have hP := hPD.1
    have hD := hPD.2
    refine lv_if_eq (tgt := 41) hx hb d_M_bits_25 (by decide) (fun c_2 => ?_) (fun c_2 => ?_)
    · exact absurd (show 1 ≤ nI bb ∧ nI bb ≤ nI 12 from ⟨nI_le (a := 1) hb1 (by omega), nI_le hb2 (by decide)⟩) (one_eq hw_22 c_2)
    · refine lv_iload_n hx hb d_M_bits_28 rfl (lv_at hl 1 rfl) ?_
      refine lv_iconst (v := 0) hx hb d_M_bits_29 (by decide) ?_
      refine lv_iconst (v := 1) hx hb d_M_bits_30 (by decide) ?_
      refine lv_iload_n hx hb d_M_bits_31 rfl (lv_at hl 2 rfl) ?_
      refine lv_ishl hx hb d_M_bits_32 ?_
      refine lv_topi (fun v_3 ev_3 => ?_)
      have z9 : v_3 = nI (2 ^ bb) := by rw [ev_3]; exact shl1 _ (by omega)
      subst z9
      refine lv_iconst (v := 1) hx hb d_M_bits_33 (by decide) ?_
      refine lv_isub hx hb d_M_bits_34 ?_
      refine lv_topi (fun v_4 ev_4 => ?_)
      have z9 : v_4 = nI (2 ^ bb - 1) := by rw [ev_4]; exact nI_pred9 hp0
      subst z9
      refine my_ci (wr := [(o, Sum.inr (9, mO g 0 fShift fModels fItems fEnded fLow fRange fCache fPend fGoes fOuts fIns fReads fBad fIR fAsk fBAsk fCode fRL fRR fX fWrites 0))]) (va_runS (As := [Value.int (nI vv), Value.int 0, Value.int (nI (2 ^ bb - 1))]) (rest := []) ⟨hx, hb, hml, hown, hts⟩ (c_M_in l dC dI cI cM cO H.size (nI vv) 0 (nI (2 ^ bb - 1))) (cwS 3 hts (my_gS k1062 k1063 k12 k1064) rfl rfl rfl (by decide +kernel) ⟨by rw [hR]; exact Nat.le_of_ble_eq_true rfl, by rw [hR]; exact Nat.le_of_ble_eq_true rfl⟩) (my_pre hK hN (hP.sub [] rfl) (hD.sub [] (by decide +kernel) rfl)) rfl rfl hl.1 rfl (lv_room (Nat.le_of_ble_eq_true rfl)) d_M_bits_35 ⟨by rw [hR]; exact Nat.le_of_ble_eq_true rfl, by rw [hR]; exact Nat.le_of_ble_eq_true rfl⟩) hP hD hS hA [] [0] rfl rfl (by decide +kernel) (by decide +kernel) (fun r_35 u9 H locs hw_35 hP hD hS => ?_)
      have hw_35 : r_35 = if 0 ≤ (nI vv) ∧ (nI vv) ≤ (nI (2 ^ bb - 1)) then 1 else 0 := hw_35
      have hPD : my_PD (dC, dI) vwCl A [(o, Sum.inr (9, mO g 0 fShift fModels fItems fEnded fLow fRange fCache fPend fGoes fOuts fIns fReads fBad fIR fAsk fBAsk fCode fRL fRR fX fWrites 0))] H := ⟨hP, hD⟩
      have hP := hPD.1
      have hD := hPD.2
      refine lv_if_ne (tgt := 44) hx hb d_M_bits_38 (by decide) (fun c_5 => ?_) (fun c_5 => ?_)
      · refine lv_aload_n hx hb d_M_bits_44 rfl (lv_at hl 0 rfl) ?_
        refine va_get (D := (dC, dI)) (ci := 9) (v := .int fEnded) (C := "RangeCodersModel") (T := T_M) (N := 35) hx hb hg in_M hown hK hP 0 rfl rfl 10 (by decide) (hg _ k962) (fun _ h9 => h9) rfl d_M_bits_45 ?_
        refine lv_if_eq (tgt := 54) hx hb d_M_bits_48 (by decide) (fun c_6 => ?_) (fun c_6 => ?_)
        · exact absurd c_6 hen
        · refine lv_bipush (v := (-3)) hx hb d_M_bits_51 (by decide) ?_
          exact my_iret (v := (-3)) hx hb hr (rfl) hlocks hQ hK hS (Nat.le_refl _) (Nat.le_refl _) () (rfl) (hP.sub [0] rfl) (hD.sub [0] (by decide +kernel) rfl) d_M_bits_53
      · exact absurd ⟨nI_pos' (by omega), nI_le (by omega) (by omega)⟩ (one_eq hw_35 c_5)
  · exact absurd c_1 (by decide)
set_option maxHeartbeats 2000000 in
set_option maxRecDepth 100000 in
theorem m_bits0R (l : Launch) (dC : Nat → ClassId) (dI : Nat → Nat → Nat) (cI cM cO : ClassId) (sz : Nat) (o : Nat) (g : Nat → Nat) (fShift : Int32) (fModels : Int32) (fLow : Int64) (fRange : Int64) (fCache : Int32) (fPend : Int32) (fGoes : Int32) (fOuts : Int32) (fIns : Int32) (fReads : Int32) (fBad : Int32) (fIR : Int32) (fAsk : Int32) (fBAsk : Int32) (fCode : Int64) (fRL : Int64) (fRR : Int64) (fX : Int64) (fWrites : Int32) (fThrown : Int32) (vv : Nat) (bb : Nat) (ki : Nat) (hb1 : 1 ≤ bb) (hb2 : bb ≤ 12) (hv : vv < 2 ^ bb) (hk6 : ki = 600) : MetI l y_M_bits (Cond.code y_M_bits prog_14_method_30_code 3 (some .int) :: gw) ({ frames := 1, cells := 0, slots := 0, locals := 22 } : Room) (dC, dI) vwCl (kT cI cM cO) [Value.ref o, Value.int (nI vv), Value.int (nI bb)] [(o, Sum.inr (9, mO g 0 fShift fModels (nI ki) 0 fLow fRange fCache fPend fGoes fOuts fIns fReads fBad fIR fAsk fBAsk fCode fRL fRR fX fWrites fThrown))] sz (fun (r : Int32) (u : Unit) => r = -4) (fun (u : Unit) => [(o, Sum.inr (9, mO g 0 fShift fModels (nI ki) 0 fLow fRange fCache fPend fGoes fOuts fIns fReads fBad fIR fAsk fBAsk fCode fRL fRR fX fWrites 0))]) 0 0 := by
  refine my_ofI (cc := prog_14_method_30_code) (n := 3) (ret := (some .int)) (by decide) rfl (Nat.le_of_ble_eq_true rfl) ?_
  intro p e s m args below meth c R Q A ls H locs hx hb hr hts hown hlocks hml hnm hR hQ hA hl hP hK hN hD hS
  have hg : ∀ w ∈ gw, w.before args s = true := fun w h => hts w (List.mem_cons_of_mem _ h)
  have hown : s.vm.findClass "RangeCodersModel" = some m.cls := hown
  have hl : lv_has ls 3 [(0, Value.ref o), (1, Value.int (nI vv)), (2, Value.int (nI bb))] := hl
  have hp12 : 2 ^ bb ≤ 4096 := pw12 (by omega)
  have hp0 := Nat.two_pow_pos bb
  refine lv_aload_n hx hb d_M_bits_0 rfl (lv_at hl 0 rfl) ?_
  refine lv_iconst (v := 0) hx hb d_M_bits_1 (by decide) ?_
  refine va_put (D := (dC, dI)) (ci := 9) (v := .int 0) (ty := .int) (C := "RangeCodersModel") (T := T_M) (N := 35) hx hb hg in_M t_M o_M n_M hown hK hP hD hS 0 rfl rfl 34 (by decide) (hg _ k986) (fun _ h9 => h9) rfl (o_M 34 (by decide)) rfl rfl (Nat.le_of_ble_eq_true rfl) d_M_bits_2 (fun H locs hP hD hS => ?_)
  have hPD : my_PD (dC, dI) vwCl A [(o, Sum.inr (9, mO g 0 fShift fModels (nI ki) 0 fLow fRange fCache fPend fGoes fOuts fIns fReads fBad fIR fAsk fBAsk fCode fRL fRR fX fWrites 0))] H := ⟨hP, hD⟩
  have hP := hPD.1
  have hD := hPD.2
  refine lv_iload_n hx hb d_M_bits_5 rfl (lv_at hl 2 rfl) ?_
  refine lv_iconst (v := 1) hx hb d_M_bits_6 (by decide) ?_
  refine lv_aload_n hx hb d_M_bits_7 rfl (lv_at hl 0 rfl) ?_
  refine va_get (D := (dC, dI)) (ci := 9) (v := .int 0) (C := "RangeCodersModel") (T := T_M) (N := 35) hx hb hg in_M hown hK hP 0 rfl rfl 0 (by decide) (hg _ k952) (fun _ h9 => h9) rfl d_M_bits_8 ?_
  refine lv_iconst (v := 4) hx hb d_M_bits_11 (by decide) ?_
  refine lv_icmp_ne (tgt := 20) hx hb d_M_bits_12 (by decide) (fun c_1 => ?_) (fun c_1 => ?_)
  · refine lv_bipush (v := 12) hx hb d_M_bits_20 (by decide) ?_
    refine my_ci (wr := [(o, Sum.inr (9, mO g 0 fShift fModels (nI ki) 0 fLow fRange fCache fPend fGoes fOuts fIns fReads fBad fIR fAsk fBAsk fCode fRL fRR fX fWrites 0))]) (va_runS (As := [Value.int (nI bb), Value.int 1, Value.int 12]) (rest := []) ⟨hx, hb, hml, hown, hts⟩ (c_M_in l dC dI cI cM cO H.size (nI bb) 1 12) (cwS 3 hts (my_gS k1062 k1063 k12 k1064) rfl rfl rfl (by decide +kernel) ⟨by rw [hR]; exact Nat.le_of_ble_eq_true rfl, by rw [hR]; exact Nat.le_of_ble_eq_true rfl⟩) (my_pre hK hN (hP.sub [] rfl) (hD.sub [] (by decide +kernel) rfl)) rfl rfl hl.1 rfl (lv_room (Nat.le_of_ble_eq_true rfl)) d_M_bits_22 ⟨by rw [hR]; exact Nat.le_of_ble_eq_true rfl, by rw [hR]; exact Nat.le_of_ble_eq_true rfl⟩) hP hD hS hA [] [0] rfl rfl (by decide +kernel) (by decide +kernel) (fun r_22 u9 H locs hw_22 hP hD hS => ?_)
    have hw_22 : r_22 = if 1 ≤ (nI bb) ∧ (nI bb) ≤ 12 then 1 else 0 := hw_22
    have hPD : my_PD (dC, dI) vwCl A [(o, Sum.inr (9, mO g 0 fShift fModels (nI ki) 0 fLow fRange fCache fPend fGoes fOuts fIns fReads fBad fIR fAsk fBAsk fCode fRL fRR fX fWrites 0))] H := ⟨hP, hD⟩
    have hP := hPD.1
    have hD := hPD.2
    refine lv_if_eq (tgt := 41) hx hb d_M_bits_25 (by decide) (fun c_2 => ?_) (fun c_2 => ?_)
    · exact absurd (show 1 ≤ nI bb ∧ nI bb ≤ nI 12 from ⟨nI_le (a := 1) hb1 (by omega), nI_le hb2 (by decide)⟩) (one_eq hw_22 c_2)
    · refine lv_iload_n hx hb d_M_bits_28 rfl (lv_at hl 1 rfl) ?_
      refine lv_iconst (v := 0) hx hb d_M_bits_29 (by decide) ?_
      refine lv_iconst (v := 1) hx hb d_M_bits_30 (by decide) ?_
      refine lv_iload_n hx hb d_M_bits_31 rfl (lv_at hl 2 rfl) ?_
      refine lv_ishl hx hb d_M_bits_32 ?_
      refine lv_topi (fun v_3 ev_3 => ?_)
      have z9 : v_3 = nI (2 ^ bb) := by rw [ev_3]; exact shl1 _ (by omega)
      subst z9
      refine lv_iconst (v := 1) hx hb d_M_bits_33 (by decide) ?_
      refine lv_isub hx hb d_M_bits_34 ?_
      refine lv_topi (fun v_4 ev_4 => ?_)
      have z9 : v_4 = nI (2 ^ bb - 1) := by rw [ev_4]; exact nI_pred9 hp0
      subst z9
      refine my_ci (wr := [(o, Sum.inr (9, mO g 0 fShift fModels (nI ki) 0 fLow fRange fCache fPend fGoes fOuts fIns fReads fBad fIR fAsk fBAsk fCode fRL fRR fX fWrites 0))]) (va_runS (As := [Value.int (nI vv), Value.int 0, Value.int (nI (2 ^ bb - 1))]) (rest := []) ⟨hx, hb, hml, hown, hts⟩ (c_M_in l dC dI cI cM cO H.size (nI vv) 0 (nI (2 ^ bb - 1))) (cwS 3 hts (my_gS k1062 k1063 k12 k1064) rfl rfl rfl (by decide +kernel) ⟨by rw [hR]; exact Nat.le_of_ble_eq_true rfl, by rw [hR]; exact Nat.le_of_ble_eq_true rfl⟩) (my_pre hK hN (hP.sub [] rfl) (hD.sub [] (by decide +kernel) rfl)) rfl rfl hl.1 rfl (lv_room (Nat.le_of_ble_eq_true rfl)) d_M_bits_35 ⟨by rw [hR]; exact Nat.le_of_ble_eq_true rfl, by rw [hR]; exact Nat.le_of_ble_eq_true rfl⟩) hP hD hS hA [] [0] rfl rfl (by decide +kernel) (by decide +kernel) (fun r_35 u9 H locs hw_35 hP hD hS => ?_)
      have hw_35 : r_35 = if 0 ≤ (nI vv) ∧ (nI vv) ≤ (nI (2 ^ bb - 1)) then 1 else 0 := hw_35
      have hPD : my_PD (dC, dI) vwCl A [(o, Sum.inr (9, mO g 0 fShift fModels (nI ki) 0 fLow fRange fCache fPend fGoes fOuts fIns fReads fBad fIR fAsk fBAsk fCode fRL fRR fX fWrites 0))] H := ⟨hP, hD⟩
      have hP := hPD.1
      have hD := hPD.2
      refine lv_if_ne (tgt := 44) hx hb d_M_bits_38 (by decide) (fun c_5 => ?_) (fun c_5 => ?_)
      · refine lv_aload_n hx hb d_M_bits_44 rfl (lv_at hl 0 rfl) ?_
        refine va_get (D := (dC, dI)) (ci := 9) (v := .int 0) (C := "RangeCodersModel") (T := T_M) (N := 35) hx hb hg in_M hown hK hP 0 rfl rfl 10 (by decide) (hg _ k962) (fun _ h9 => h9) rfl d_M_bits_45 ?_
        refine lv_if_eq (tgt := 54) hx hb d_M_bits_48 (by decide) (fun c_6 => ?_) (fun c_6 => ?_)
        · refine lv_aload_n hx hb d_M_bits_54 rfl (lv_at hl 0 rfl) ?_
          refine va_get (D := (dC, dI)) (ci := 9) (v := .int (nI ki)) (C := "RangeCodersModel") (T := T_M) (N := 35) hx hb hg in_M hown hK hP 0 rfl rfl 7 (by decide) (hg _ k959) (fun _ h9 => h9) rfl d_M_bits_55 ?_
          refine lv_sipush (v := 600) hx hb d_M_bits_58 (by decide) ?_
          refine lv_icmp_ne (tgt := 67) hx hb d_M_bits_61 (by decide) (fun c_7 => ?_) (fun c_7 => ?_)
          · exact absurd (by rw [hk6]; rfl) c_7
          · refine lv_bipush (v := (-4)) hx hb d_M_bits_64 (by decide) ?_
            exact my_iret (v := (-4)) hx hb hr (rfl) hlocks hQ hK hS (Nat.le_refl _) (Nat.le_refl _) () (rfl) (hP.sub [0] rfl) (hD.sub [0] (by decide +kernel) rfl) d_M_bits_66
        · exact absurd (by decide) c_6
      · exact absurd ⟨nI_pos' (by omega), nI_le (by omega) (by omega)⟩ (one_eq hw_35 c_5)
  · exact absurd c_1 (by decide)
set_option maxHeartbeats 2000000 in
set_option maxRecDepth 100000 in
theorem m_bits1W (l : Launch) (dC : Nat → ClassId) (dI : Nat → Nat → Nat) (cI cM cO : ClassId) (sz : Nat) (o : Nat) (g : Nat → Nat) (fShift : Int32) (fModels : Int32) (fItems : Int32) (fEnded : Int32) (fLow : Int64) (fRange : Int64) (fCache : Int32) (fPend : Int32) (fGoes : Int32) (fOuts : Int32) (fIns : Int32) (fReads : Int32) (fBad : Int32) (fIR : Int32) (fAsk : Int32) (fBAsk : Int32) (fCode : Int64) (fRL : Int64) (fRR : Int64) (fX : Int64) (fWrites : Int32) (fThrown : Int32) (p1 : Int32) (p2 : Int32) (hno : ¬ okB 12 p1 p2) : MetI l y_M_bits (Cond.code y_M_bits prog_14_method_30_code 3 (some .int) :: gw) ({ frames := 1, cells := 0, slots := 0, locals := 22 } : Room) (dC, dI) vwCl (kT cI cM cO) [Value.ref o, Value.int p1, Value.int p2] [(o, Sum.inr (9, mO g 1 fShift fModels fItems fEnded fLow fRange fCache fPend fGoes fOuts fIns fReads fBad fIR fAsk fBAsk fCode fRL fRR fX fWrites fThrown))] sz (fun (r : Int32) (u : Unit) => r = -2) (fun (u : Unit) => [(o, Sum.inr (9, mO g 1 fShift fModels fItems fEnded fLow fRange fCache fPend fGoes fOuts fIns fReads fBad fIR fAsk fBAsk fCode fRL fRR fX fWrites 0))]) 0 0 := by
  refine my_ofI (cc := prog_14_method_30_code) (n := 3) (ret := (some .int)) (by decide) rfl (Nat.le_of_ble_eq_true rfl) ?_
  intro p e s m args below meth c R Q A ls H locs hx hb hr hts hown hlocks hml hnm hR hQ hA hl hP hK hN hD hS
  have hg : ∀ w ∈ gw, w.before args s = true := fun w h => hts w (List.mem_cons_of_mem _ h)
  have hown : s.vm.findClass "RangeCodersModel" = some m.cls := hown
  have hl : lv_has ls 3 [(0, Value.ref o), (1, Value.int p1), (2, Value.int p2)] := hl
  refine lv_aload_n hx hb d_M_bits_0 rfl (lv_at hl 0 rfl) ?_
  refine lv_iconst (v := 0) hx hb d_M_bits_1 (by decide) ?_
  refine va_put (D := (dC, dI)) (ci := 9) (v := .int 0) (ty := .int) (C := "RangeCodersModel") (T := T_M) (N := 35) hx hb hg in_M t_M o_M n_M hown hK hP hD hS 0 rfl rfl 34 (by decide) (hg _ k986) (fun _ h9 => h9) rfl (o_M 34 (by decide)) rfl rfl (Nat.le_of_ble_eq_true rfl) d_M_bits_2 (fun H locs hP hD hS => ?_)
  have hPD : my_PD (dC, dI) vwCl A [(o, Sum.inr (9, mO g 1 fShift fModels fItems fEnded fLow fRange fCache fPend fGoes fOuts fIns fReads fBad fIR fAsk fBAsk fCode fRL fRR fX fWrites 0))] H := ⟨hP, hD⟩
  have hP := hPD.1
  have hD := hPD.2
  refine lv_iload_n hx hb d_M_bits_5 rfl (lv_at hl 2 rfl) ?_
  refine lv_iconst (v := 1) hx hb d_M_bits_6 (by decide) ?_
  refine lv_aload_n hx hb d_M_bits_7 rfl (lv_at hl 0 rfl) ?_
  refine va_get (D := (dC, dI)) (ci := 9) (v := .int 1) (C := "RangeCodersModel") (T := T_M) (N := 35) hx hb hg in_M hown hK hP 0 rfl rfl 0 (by decide) (hg _ k952) (fun _ h9 => h9) rfl d_M_bits_8 ?_
  refine lv_iconst (v := 4) hx hb d_M_bits_11 (by decide) ?_
  refine lv_icmp_ne (tgt := 20) hx hb d_M_bits_12 (by decide) (fun c_1 => ?_) (fun c_1 => ?_)
  · refine lv_bipush (v := 12) hx hb d_M_bits_20 (by decide) ?_
    refine my_ci (wr := [(o, Sum.inr (9, mO g 1 fShift fModels fItems fEnded fLow fRange fCache fPend fGoes fOuts fIns fReads fBad fIR fAsk fBAsk fCode fRL fRR fX fWrites 0))]) (va_runS (As := [Value.int p2, Value.int 1, Value.int 12]) (rest := []) ⟨hx, hb, hml, hown, hts⟩ (c_M_in l dC dI cI cM cO H.size p2 1 12) (cwS 3 hts (my_gS k1062 k1063 k12 k1064) rfl rfl rfl (by decide +kernel) ⟨by rw [hR]; exact Nat.le_of_ble_eq_true rfl, by rw [hR]; exact Nat.le_of_ble_eq_true rfl⟩) (my_pre hK hN (hP.sub [] rfl) (hD.sub [] (by decide +kernel) rfl)) rfl rfl hl.1 rfl (lv_room (Nat.le_of_ble_eq_true rfl)) d_M_bits_22 ⟨by rw [hR]; exact Nat.le_of_ble_eq_true rfl, by rw [hR]; exact Nat.le_of_ble_eq_true rfl⟩) hP hD hS hA [] [0] rfl rfl (by decide +kernel) (by decide +kernel) (fun r_22 u9 H locs hw_22 hP hD hS => ?_)
    have hw_22 : r_22 = if 1 ≤ p2 ∧ p2 ≤ 12 then 1 else 0 := hw_22
    have hPD : my_PD (dC, dI) vwCl A [(o, Sum.inr (9, mO g 1 fShift fModels fItems fEnded fLow fRange fCache fPend fGoes fOuts fIns fReads fBad fIR fAsk fBAsk fCode fRL fRR fX fWrites 0))] H := ⟨hP, hD⟩
    have hP := hPD.1
    have hD := hPD.2
    refine lv_if_eq (tgt := 41) hx hb d_M_bits_25 (by decide) (fun c_2 => ?_) (fun c_2 => ?_)
    · refine lv_bipush (v := (-2)) hx hb d_M_bits_41 (by decide) ?_
      exact my_iret (v := (-2)) hx hb hr (rfl) hlocks hQ hK hS (Nat.le_refl _) (Nat.le_refl _) () (rfl) (hP.sub [0] rfl) (hD.sub [0] (by decide +kernel) rfl) d_M_bits_43
    · refine lv_iload_n hx hb d_M_bits_28 rfl (lv_at hl 1 rfl) ?_
      refine lv_iconst (v := 0) hx hb d_M_bits_29 (by decide) ?_
      refine lv_iconst (v := 1) hx hb d_M_bits_30 (by decide) ?_
      refine lv_iload_n hx hb d_M_bits_31 rfl (lv_at hl 2 rfl) ?_
      refine lv_ishl hx hb d_M_bits_32 ?_
      refine lv_topi (fun v_3 ev_3 => ?_)
      refine lv_iconst (v := 1) hx hb d_M_bits_33 (by decide) ?_
      refine lv_isub hx hb d_M_bits_34 ?_
      refine lv_topi (fun v_4 ev_4 => ?_)
      refine my_ci (wr := [(o, Sum.inr (9, mO g 1 fShift fModels fItems fEnded fLow fRange fCache fPend fGoes fOuts fIns fReads fBad fIR fAsk fBAsk fCode fRL fRR fX fWrites 0))]) (va_runS (As := [Value.int p1, Value.int 0, Value.int v_4]) (rest := []) ⟨hx, hb, hml, hown, hts⟩ (c_M_in l dC dI cI cM cO H.size p1 0 v_4) (cwS 3 hts (my_gS k1062 k1063 k12 k1064) rfl rfl rfl (by decide +kernel) ⟨by rw [hR]; exact Nat.le_of_ble_eq_true rfl, by rw [hR]; exact Nat.le_of_ble_eq_true rfl⟩) (my_pre hK hN (hP.sub [] rfl) (hD.sub [] (by decide +kernel) rfl)) rfl rfl hl.1 rfl (lv_room (Nat.le_of_ble_eq_true rfl)) d_M_bits_35 ⟨by rw [hR]; exact Nat.le_of_ble_eq_true rfl, by rw [hR]; exact Nat.le_of_ble_eq_true rfl⟩) hP hD hS hA [] [0] rfl rfl (by decide +kernel) (by decide +kernel) (fun r_35 u9 H locs hw_35 hP hD hS => ?_)
      have hw_35 : r_35 = if 0 ≤ p1 ∧ p1 ≤ v_4 then 1 else 0 := hw_35
      have hPD : my_PD (dC, dI) vwCl A [(o, Sum.inr (9, mO g 1 fShift fModels fItems fEnded fLow fRange fCache fPend fGoes fOuts fIns fReads fBad fIR fAsk fBAsk fCode fRL fRR fX fWrites 0))] H := ⟨hP, hD⟩
      have hP := hPD.1
      have hD := hPD.2
      refine lv_if_ne (tgt := 44) hx hb d_M_bits_38 (by decide) (fun c_5 => ?_) (fun c_5 => ?_)
      · exact absurd (one_ne hw_35 c_5) (okB_no (by decide) hno (one_ne hw_22 c_2) (by subst_vars; rfl))
      · refine lv_bipush (v := (-2)) hx hb d_M_bits_41 (by decide) ?_
        exact my_iret (v := (-2)) hx hb hr (rfl) hlocks hQ hK hS (Nat.le_refl _) (Nat.le_refl _) () (rfl) (hP.sub [0] rfl) (hD.sub [0] (by decide +kernel) rfl) d_M_bits_43
  · exact absurd c_1 (by decide)
set_option maxHeartbeats 2000000 in
set_option maxRecDepth 100000 in
theorem m_bits1E (l : Launch) (dC : Nat → ClassId) (dI : Nat → Nat → Nat) (cI cM cO : ClassId) (sz : Nat) (o : Nat) (g : Nat → Nat) (fShift : Int32) (fModels : Int32) (fItems : Int32) (fEnded : Int32) (fLow : Int64) (fRange : Int64) (fCache : Int32) (fPend : Int32) (fGoes : Int32) (fOuts : Int32) (fIns : Int32) (fReads : Int32) (fBad : Int32) (fIR : Int32) (fAsk : Int32) (fBAsk : Int32) (fCode : Int64) (fRL : Int64) (fRR : Int64) (fX : Int64) (fWrites : Int32) (fThrown : Int32) (vv : Nat) (bb : Nat) (hb1 : 1 ≤ bb) (hb2 : bb ≤ 12) (hv : vv < 2 ^ bb) (hen : ¬ fEnded = 0) : MetI l y_M_bits (Cond.code y_M_bits prog_14_method_30_code 3 (some .int) :: gw) ({ frames := 1, cells := 0, slots := 0, locals := 22 } : Room) (dC, dI) vwCl (kT cI cM cO) [Value.ref o, Value.int (nI vv), Value.int (nI bb)] [(o, Sum.inr (9, mO g 1 fShift fModels fItems fEnded fLow fRange fCache fPend fGoes fOuts fIns fReads fBad fIR fAsk fBAsk fCode fRL fRR fX fWrites fThrown))] sz (fun (r : Int32) (u : Unit) => r = -3) (fun (u : Unit) => [(o, Sum.inr (9, mO g 1 fShift fModels fItems fEnded fLow fRange fCache fPend fGoes fOuts fIns fReads fBad fIR fAsk fBAsk fCode fRL fRR fX fWrites 0))]) 0 0 := by
  refine my_ofI (cc := prog_14_method_30_code) (n := 3) (ret := (some .int)) (by decide) rfl (Nat.le_of_ble_eq_true rfl) ?_
  intro p e s m args below meth c R Q A ls H locs hx hb hr hts hown hlocks hml hnm hR hQ hA hl hP hK hN hD hS
  have hg : ∀ w ∈ gw, w.before args s = true := fun w h => hts w (List.mem_cons_of_mem _ h)
  have hown : s.vm.findClass "RangeCodersModel" = some m.cls := hown
  have hl : lv_has ls 3 [(0, Value.ref o), (1, Value.int (nI vv)), (2, Value.int (nI bb))] := hl
  have hp12 : 2 ^ bb ≤ 4096 := pw12 (by omega)
  have hp0 := Nat.two_pow_pos bb
  refine lv_aload_n hx hb d_M_bits_0 rfl (lv_at hl 0 rfl) ?_
  refine lv_iconst (v := 0) hx hb d_M_bits_1 (by decide) ?_
  refine va_put (D := (dC, dI)) (ci := 9) (v := .int 0) (ty := .int) (C := "RangeCodersModel") (T := T_M) (N := 35) hx hb hg in_M t_M o_M n_M hown hK hP hD hS 0 rfl rfl 34 (by decide) (hg _ k986) (fun _ h9 => h9) rfl (o_M 34 (by decide)) rfl rfl (Nat.le_of_ble_eq_true rfl) d_M_bits_2 (fun H locs hP hD hS => ?_)
  have hPD : my_PD (dC, dI) vwCl A [(o, Sum.inr (9, mO g 1 fShift fModels fItems fEnded fLow fRange fCache fPend fGoes fOuts fIns fReads fBad fIR fAsk fBAsk fCode fRL fRR fX fWrites 0))] H := ⟨hP, hD⟩
  have hP := hPD.1
  have hD := hPD.2
  refine lv_iload_n hx hb d_M_bits_5 rfl (lv_at hl 2 rfl) ?_
  refine lv_iconst (v := 1) hx hb d_M_bits_6 (by decide) ?_
  refine lv_aload_n hx hb d_M_bits_7 rfl (lv_at hl 0 rfl) ?_
  refine va_get (D := (dC, dI)) (ci := 9) (v := .int 1) (C := "RangeCodersModel") (T := T_M) (N := 35) hx hb hg in_M hown hK hP 0 rfl rfl 0 (by decide) (hg _ k952) (fun _ h9 => h9) rfl d_M_bits_8 ?_
  refine lv_iconst (v := 4) hx hb d_M_bits_11 (by decide) ?_
  refine lv_icmp_ne (tgt := 20) hx hb d_M_bits_12 (by decide) (fun c_1 => ?_) (fun c_1 => ?_)
  · refine lv_bipush (v := 12) hx hb d_M_bits_20 (by decide) ?_
    refine my_ci (wr := [(o, Sum.inr (9, mO g 1 fShift fModels fItems fEnded fLow fRange fCache fPend fGoes fOuts fIns fReads fBad fIR fAsk fBAsk fCode fRL fRR fX fWrites 0))]) (va_runS (As := [Value.int (nI bb), Value.int 1, Value.int 12]) (rest := []) ⟨hx, hb, hml, hown, hts⟩ (c_M_in l dC dI cI cM cO H.size (nI bb) 1 12) (cwS 3 hts (my_gS k1062 k1063 k12 k1064) rfl rfl rfl (by decide +kernel) ⟨by rw [hR]; exact Nat.le_of_ble_eq_true rfl, by rw [hR]; exact Nat.le_of_ble_eq_true rfl⟩) (my_pre hK hN (hP.sub [] rfl) (hD.sub [] (by decide +kernel) rfl)) rfl rfl hl.1 rfl (lv_room (Nat.le_of_ble_eq_true rfl)) d_M_bits_22 ⟨by rw [hR]; exact Nat.le_of_ble_eq_true rfl, by rw [hR]; exact Nat.le_of_ble_eq_true rfl⟩) hP hD hS hA [] [0] rfl rfl (by decide +kernel) (by decide +kernel) (fun r_22 u9 H locs hw_22 hP hD hS => ?_)
    have hw_22 : r_22 = if 1 ≤ (nI bb) ∧ (nI bb) ≤ 12 then 1 else 0 := hw_22
    have hPD : my_PD (dC, dI) vwCl A [(o, Sum.inr (9, mO g 1 fShift fModels fItems fEnded fLow fRange fCache fPend fGoes fOuts fIns fReads fBad fIR fAsk fBAsk fCode fRL fRR fX fWrites 0))] H := ⟨hP, hD⟩
    have hP := hPD.1
    have hD := hPD.2
    refine lv_if_eq (tgt := 41) hx hb d_M_bits_25 (by decide) (fun c_2 => ?_) (fun c_2 => ?_)
    · exact absurd (show 1 ≤ nI bb ∧ nI bb ≤ nI 12 from ⟨nI_le (a := 1) hb1 (by omega), nI_le hb2 (by decide)⟩) (one_eq hw_22 c_2)
    · refine lv_iload_n hx hb d_M_bits_28 rfl (lv_at hl 1 rfl) ?_
      refine lv_iconst (v := 0) hx hb d_M_bits_29 (by decide) ?_
      refine lv_iconst (v := 1) hx hb d_M_bits_30 (by decide) ?_
      refine lv_iload_n hx hb d_M_bits_31 rfl (lv_at hl 2 rfl) ?_
      refine lv_ishl hx hb d_M_bits_32 ?_
      refine lv_topi (fun v_3 ev_3 => ?_)
      have z9 : v_3 = nI (2 ^ bb) := by rw [ev_3]; exact shl1 _ (by omega)
      subst z9
      refine lv_iconst (v := 1) hx hb d_M_bits_33 (by decide) ?_
      refine lv_isub hx hb d_M_bits_34 ?_
      refine lv_topi (fun v_4 ev_4 => ?_)
      have z9 : v_4 = nI (2 ^ bb - 1) := by rw [ev_4]; exact nI_pred9 hp0
      subst z9
      refine my_ci (wr := [(o, Sum.inr (9, mO g 1 fShift fModels fItems fEnded fLow fRange fCache fPend fGoes fOuts fIns fReads fBad fIR fAsk fBAsk fCode fRL fRR fX fWrites 0))]) (va_runS (As := [Value.int (nI vv), Value.int 0, Value.int (nI (2 ^ bb - 1))]) (rest := []) ⟨hx, hb, hml, hown, hts⟩ (c_M_in l dC dI cI cM cO H.size (nI vv) 0 (nI (2 ^ bb - 1))) (cwS 3 hts (my_gS k1062 k1063 k12 k1064) rfl rfl rfl (by decide +kernel) ⟨by rw [hR]; exact Nat.le_of_ble_eq_true rfl, by rw [hR]; exact Nat.le_of_ble_eq_true rfl⟩) (my_pre hK hN (hP.sub [] rfl) (hD.sub [] (by decide +kernel) rfl)) rfl rfl hl.1 rfl (lv_room (Nat.le_of_ble_eq_true rfl)) d_M_bits_35 ⟨by rw [hR]; exact Nat.le_of_ble_eq_true rfl, by rw [hR]; exact Nat.le_of_ble_eq_true rfl⟩) hP hD hS hA [] [0] rfl rfl (by decide +kernel) (by decide +kernel) (fun r_35 u9 H locs hw_35 hP hD hS => ?_)
      have hw_35 : r_35 = if 0 ≤ (nI vv) ∧ (nI vv) ≤ (nI (2 ^ bb - 1)) then 1 else 0 := hw_35
      have hPD : my_PD (dC, dI) vwCl A [(o, Sum.inr (9, mO g 1 fShift fModels fItems fEnded fLow fRange fCache fPend fGoes fOuts fIns fReads fBad fIR fAsk fBAsk fCode fRL fRR fX fWrites 0))] H := ⟨hP, hD⟩
      have hP := hPD.1
      have hD := hPD.2
      refine lv_if_ne (tgt := 44) hx hb d_M_bits_38 (by decide) (fun c_5 => ?_) (fun c_5 => ?_)
      · refine lv_aload_n hx hb d_M_bits_44 rfl (lv_at hl 0 rfl) ?_
        refine va_get (D := (dC, dI)) (ci := 9) (v := .int fEnded) (C := "RangeCodersModel") (T := T_M) (N := 35) hx hb hg in_M hown hK hP 0 rfl rfl 10 (by decide) (hg _ k962) (fun _ h9 => h9) rfl d_M_bits_45 ?_
        refine lv_if_eq (tgt := 54) hx hb d_M_bits_48 (by decide) (fun c_6 => ?_) (fun c_6 => ?_)
        · exact absurd c_6 hen
        · refine lv_bipush (v := (-3)) hx hb d_M_bits_51 (by decide) ?_
          exact my_iret (v := (-3)) hx hb hr (rfl) hlocks hQ hK hS (Nat.le_refl _) (Nat.le_refl _) () (rfl) (hP.sub [0] rfl) (hD.sub [0] (by decide +kernel) rfl) d_M_bits_53
      · exact absurd ⟨nI_pos' (by omega), nI_le (by omega) (by omega)⟩ (one_eq hw_35 c_5)
  · exact absurd c_1 (by decide)
set_option maxHeartbeats 2000000 in
set_option maxRecDepth 100000 in
theorem m_bits1R (l : Launch) (dC : Nat → ClassId) (dI : Nat → Nat → Nat) (cI cM cO : ClassId) (sz : Nat) (o : Nat) (g : Nat → Nat) (fShift : Int32) (fModels : Int32) (fLow : Int64) (fRange : Int64) (fCache : Int32) (fPend : Int32) (fGoes : Int32) (fOuts : Int32) (fIns : Int32) (fReads : Int32) (fBad : Int32) (fIR : Int32) (fAsk : Int32) (fBAsk : Int32) (fCode : Int64) (fRL : Int64) (fRR : Int64) (fX : Int64) (fWrites : Int32) (fThrown : Int32) (vv : Nat) (bb : Nat) (ki : Nat) (hb1 : 1 ≤ bb) (hb2 : bb ≤ 12) (hv : vv < 2 ^ bb) (hk6 : ki = 600) : MetI l y_M_bits (Cond.code y_M_bits prog_14_method_30_code 3 (some .int) :: gw) ({ frames := 1, cells := 0, slots := 0, locals := 22 } : Room) (dC, dI) vwCl (kT cI cM cO) [Value.ref o, Value.int (nI vv), Value.int (nI bb)] [(o, Sum.inr (9, mO g 1 fShift fModels (nI ki) 0 fLow fRange fCache fPend fGoes fOuts fIns fReads fBad fIR fAsk fBAsk fCode fRL fRR fX fWrites fThrown))] sz (fun (r : Int32) (u : Unit) => r = -4) (fun (u : Unit) => [(o, Sum.inr (9, mO g 1 fShift fModels (nI ki) 0 fLow fRange fCache fPend fGoes fOuts fIns fReads fBad fIR fAsk fBAsk fCode fRL fRR fX fWrites 0))]) 0 0 := by
  refine my_ofI (cc := prog_14_method_30_code) (n := 3) (ret := (some .int)) (by decide) rfl (Nat.le_of_ble_eq_true rfl) ?_
  intro p e s m args below meth c R Q A ls H locs hx hb hr hts hown hlocks hml hnm hR hQ hA hl hP hK hN hD hS
  have hg : ∀ w ∈ gw, w.before args s = true := fun w h => hts w (List.mem_cons_of_mem _ h)
  have hown : s.vm.findClass "RangeCodersModel" = some m.cls := hown
  have hl : lv_has ls 3 [(0, Value.ref o), (1, Value.int (nI vv)), (2, Value.int (nI bb))] := hl
  have hp12 : 2 ^ bb ≤ 4096 := pw12 (by omega)
  have hp0 := Nat.two_pow_pos bb
  refine lv_aload_n hx hb d_M_bits_0 rfl (lv_at hl 0 rfl) ?_
  refine lv_iconst (v := 0) hx hb d_M_bits_1 (by decide) ?_
  refine va_put (D := (dC, dI)) (ci := 9) (v := .int 0) (ty := .int) (C := "RangeCodersModel") (T := T_M) (N := 35) hx hb hg in_M t_M o_M n_M hown hK hP hD hS 0 rfl rfl 34 (by decide) (hg _ k986) (fun _ h9 => h9) rfl (o_M 34 (by decide)) rfl rfl (Nat.le_of_ble_eq_true rfl) d_M_bits_2 (fun H locs hP hD hS => ?_)
  have hPD : my_PD (dC, dI) vwCl A [(o, Sum.inr (9, mO g 1 fShift fModels (nI ki) 0 fLow fRange fCache fPend fGoes fOuts fIns fReads fBad fIR fAsk fBAsk fCode fRL fRR fX fWrites 0))] H := ⟨hP, hD⟩
  have hP := hPD.1
  have hD := hPD.2
  refine lv_iload_n hx hb d_M_bits_5 rfl (lv_at hl 2 rfl) ?_
  refine lv_iconst (v := 1) hx hb d_M_bits_6 (by decide) ?_
  refine lv_aload_n hx hb d_M_bits_7 rfl (lv_at hl 0 rfl) ?_
  refine va_get (D := (dC, dI)) (ci := 9) (v := .int 1) (C := "RangeCodersModel") (T := T_M) (N := 35) hx hb hg in_M hown hK hP 0 rfl rfl 0 (by decide) (hg _ k952) (fun _ h9 => h9) rfl d_M_bits_8 ?_
  refine lv_iconst (v := 4) hx hb d_M_bits_11 (by decide) ?_
  refine lv_icmp_ne (tgt := 20) hx hb d_M_bits_12 (by decide) (fun c_1 => ?_) (fun c_1 => ?_)
  · refine lv_bipush (v := 12) hx hb d_M_bits_20 (by decide) ?_
    refine my_ci (wr := [(o, Sum.inr (9, mO g 1 fShift fModels (nI ki) 0 fLow fRange fCache fPend fGoes fOuts fIns fReads fBad fIR fAsk fBAsk fCode fRL fRR fX fWrites 0))]) (va_runS (As := [Value.int (nI bb), Value.int 1, Value.int 12]) (rest := []) ⟨hx, hb, hml, hown, hts⟩ (c_M_in l dC dI cI cM cO H.size (nI bb) 1 12) (cwS 3 hts (my_gS k1062 k1063 k12 k1064) rfl rfl rfl (by decide +kernel) ⟨by rw [hR]; exact Nat.le_of_ble_eq_true rfl, by rw [hR]; exact Nat.le_of_ble_eq_true rfl⟩) (my_pre hK hN (hP.sub [] rfl) (hD.sub [] (by decide +kernel) rfl)) rfl rfl hl.1 rfl (lv_room (Nat.le_of_ble_eq_true rfl)) d_M_bits_22 ⟨by rw [hR]; exact Nat.le_of_ble_eq_true rfl, by rw [hR]; exact Nat.le_of_ble_eq_true rfl⟩) hP hD hS hA [] [0] rfl rfl (by decide +kernel) (by decide +kernel) (fun r_22 u9 H locs hw_22 hP hD hS => ?_)
    have hw_22 : r_22 = if 1 ≤ (nI bb) ∧ (nI bb) ≤ 12 then 1 else 0 := hw_22
    have hPD : my_PD (dC, dI) vwCl A [(o, Sum.inr (9, mO g 1 fShift fModels (nI ki) 0 fLow fRange fCache fPend fGoes fOuts fIns fReads fBad fIR fAsk fBAsk fCode fRL fRR fX fWrites 0))] H := ⟨hP, hD⟩
    have hP := hPD.1
    have hD := hPD.2
    refine lv_if_eq (tgt := 41) hx hb d_M_bits_25 (by decide) (fun c_2 => ?_) (fun c_2 => ?_)
    · exact absurd (show 1 ≤ nI bb ∧ nI bb ≤ nI 12 from ⟨nI_le (a := 1) hb1 (by omega), nI_le hb2 (by decide)⟩) (one_eq hw_22 c_2)
    · refine lv_iload_n hx hb d_M_bits_28 rfl (lv_at hl 1 rfl) ?_
      refine lv_iconst (v := 0) hx hb d_M_bits_29 (by decide) ?_
      refine lv_iconst (v := 1) hx hb d_M_bits_30 (by decide) ?_
      refine lv_iload_n hx hb d_M_bits_31 rfl (lv_at hl 2 rfl) ?_
      refine lv_ishl hx hb d_M_bits_32 ?_
      refine lv_topi (fun v_3 ev_3 => ?_)
      have z9 : v_3 = nI (2 ^ bb) := by rw [ev_3]; exact shl1 _ (by omega)
      subst z9
      refine lv_iconst (v := 1) hx hb d_M_bits_33 (by decide) ?_
      refine lv_isub hx hb d_M_bits_34 ?_
      refine lv_topi (fun v_4 ev_4 => ?_)
      have z9 : v_4 = nI (2 ^ bb - 1) := by rw [ev_4]; exact nI_pred9 hp0
      subst z9
      refine my_ci (wr := [(o, Sum.inr (9, mO g 1 fShift fModels (nI ki) 0 fLow fRange fCache fPend fGoes fOuts fIns fReads fBad fIR fAsk fBAsk fCode fRL fRR fX fWrites 0))]) (va_runS (As := [Value.int (nI vv), Value.int 0, Value.int (nI (2 ^ bb - 1))]) (rest := []) ⟨hx, hb, hml, hown, hts⟩ (c_M_in l dC dI cI cM cO H.size (nI vv) 0 (nI (2 ^ bb - 1))) (cwS 3 hts (my_gS k1062 k1063 k12 k1064) rfl rfl rfl (by decide +kernel) ⟨by rw [hR]; exact Nat.le_of_ble_eq_true rfl, by rw [hR]; exact Nat.le_of_ble_eq_true rfl⟩) (my_pre hK hN (hP.sub [] rfl) (hD.sub [] (by decide +kernel) rfl)) rfl rfl hl.1 rfl (lv_room (Nat.le_of_ble_eq_true rfl)) d_M_bits_35 ⟨by rw [hR]; exact Nat.le_of_ble_eq_true rfl, by rw [hR]; exact Nat.le_of_ble_eq_true rfl⟩) hP hD hS hA [] [0] rfl rfl (by decide +kernel) (by decide +kernel) (fun r_35 u9 H locs hw_35 hP hD hS => ?_)
      have hw_35 : r_35 = if 0 ≤ (nI vv) ∧ (nI vv) ≤ (nI (2 ^ bb - 1)) then 1 else 0 := hw_35
      have hPD : my_PD (dC, dI) vwCl A [(o, Sum.inr (9, mO g 1 fShift fModels (nI ki) 0 fLow fRange fCache fPend fGoes fOuts fIns fReads fBad fIR fAsk fBAsk fCode fRL fRR fX fWrites 0))] H := ⟨hP, hD⟩
      have hP := hPD.1
      have hD := hPD.2
      refine lv_if_ne (tgt := 44) hx hb d_M_bits_38 (by decide) (fun c_5 => ?_) (fun c_5 => ?_)
      · refine lv_aload_n hx hb d_M_bits_44 rfl (lv_at hl 0 rfl) ?_
        refine va_get (D := (dC, dI)) (ci := 9) (v := .int 0) (C := "RangeCodersModel") (T := T_M) (N := 35) hx hb hg in_M hown hK hP 0 rfl rfl 10 (by decide) (hg _ k962) (fun _ h9 => h9) rfl d_M_bits_45 ?_
        refine lv_if_eq (tgt := 54) hx hb d_M_bits_48 (by decide) (fun c_6 => ?_) (fun c_6 => ?_)
        · refine lv_aload_n hx hb d_M_bits_54 rfl (lv_at hl 0 rfl) ?_
          refine va_get (D := (dC, dI)) (ci := 9) (v := .int (nI ki)) (C := "RangeCodersModel") (T := T_M) (N := 35) hx hb hg in_M hown hK hP 0 rfl rfl 7 (by decide) (hg _ k959) (fun _ h9 => h9) rfl d_M_bits_55 ?_
          refine lv_sipush (v := 600) hx hb d_M_bits_58 (by decide) ?_
          refine lv_icmp_ne (tgt := 67) hx hb d_M_bits_61 (by decide) (fun c_7 => ?_) (fun c_7 => ?_)
          · exact absurd (by rw [hk6]; rfl) c_7
          · refine lv_bipush (v := (-4)) hx hb d_M_bits_64 (by decide) ?_
            exact my_iret (v := (-4)) hx hb hr (rfl) hlocks hQ hK hS (Nat.le_refl _) (Nat.le_refl _) () (rfl) (hP.sub [0] rfl) (hD.sub [0] (by decide +kernel) rfl) d_M_bits_66
        · exact absurd (by decide) c_6
      · exact absurd ⟨nI_pos' (by omega), nI_le (by omega) (by omega)⟩ (one_eq hw_35 c_5)
  · exact absurd c_1 (by decide)
set_option maxHeartbeats 2000000 in
set_option maxRecDepth 100000 in
theorem m_bits2W (l : Launch) (dC : Nat → ClassId) (dI : Nat → Nat → Nat) (cI cM cO : ClassId) (sz : Nat) (o : Nat) (g : Nat → Nat) (fShift : Int32) (fModels : Int32) (fItems : Int32) (fEnded : Int32) (fLow : Int64) (fRange : Int64) (fCache : Int32) (fPend : Int32) (fGoes : Int32) (fOuts : Int32) (fIns : Int32) (fReads : Int32) (fBad : Int32) (fIR : Int32) (fAsk : Int32) (fBAsk : Int32) (fCode : Int64) (fRL : Int64) (fRR : Int64) (fX : Int64) (fWrites : Int32) (fThrown : Int32) (p1 : Int32) (p2 : Int32) (hno : ¬ okB 12 p1 p2) : MetI l y_M_bits (Cond.code y_M_bits prog_14_method_30_code 3 (some .int) :: gw) ({ frames := 1, cells := 0, slots := 0, locals := 22 } : Room) (dC, dI) vwCl (kT cI cM cO) [Value.ref o, Value.int p1, Value.int p2] [(o, Sum.inr (9, mO g 2 fShift fModels fItems fEnded fLow fRange fCache fPend fGoes fOuts fIns fReads fBad fIR fAsk fBAsk fCode fRL fRR fX fWrites fThrown))] sz (fun (r : Int32) (u : Unit) => r = -2) (fun (u : Unit) => [(o, Sum.inr (9, mO g 2 fShift fModels fItems fEnded fLow fRange fCache fPend fGoes fOuts fIns fReads fBad fIR fAsk fBAsk fCode fRL fRR fX fWrites 0))]) 0 0 := by
  refine my_ofI (cc := prog_14_method_30_code) (n := 3) (ret := (some .int)) (by decide) rfl (Nat.le_of_ble_eq_true rfl) ?_
  intro p e s m args below meth c R Q A ls H locs hx hb hr hts hown hlocks hml hnm hR hQ hA hl hP hK hN hD hS
  have hg : ∀ w ∈ gw, w.before args s = true := fun w h => hts w (List.mem_cons_of_mem _ h)
  have hown : s.vm.findClass "RangeCodersModel" = some m.cls := hown
  have hl : lv_has ls 3 [(0, Value.ref o), (1, Value.int p1), (2, Value.int p2)] := hl
  refine lv_aload_n hx hb d_M_bits_0 rfl (lv_at hl 0 rfl) ?_
  refine lv_iconst (v := 0) hx hb d_M_bits_1 (by decide) ?_
  refine va_put (D := (dC, dI)) (ci := 9) (v := .int 0) (ty := .int) (C := "RangeCodersModel") (T := T_M) (N := 35) hx hb hg in_M t_M o_M n_M hown hK hP hD hS 0 rfl rfl 34 (by decide) (hg _ k986) (fun _ h9 => h9) rfl (o_M 34 (by decide)) rfl rfl (Nat.le_of_ble_eq_true rfl) d_M_bits_2 (fun H locs hP hD hS => ?_)
  have hPD : my_PD (dC, dI) vwCl A [(o, Sum.inr (9, mO g 2 fShift fModels fItems fEnded fLow fRange fCache fPend fGoes fOuts fIns fReads fBad fIR fAsk fBAsk fCode fRL fRR fX fWrites 0))] H := ⟨hP, hD⟩
  have hP := hPD.1
  have hD := hPD.2
  refine lv_iload_n hx hb d_M_bits_5 rfl (lv_at hl 2 rfl) ?_
  refine lv_iconst (v := 1) hx hb d_M_bits_6 (by decide) ?_
  refine lv_aload_n hx hb d_M_bits_7 rfl (lv_at hl 0 rfl) ?_
  refine va_get (D := (dC, dI)) (ci := 9) (v := .int 2) (C := "RangeCodersModel") (T := T_M) (N := 35) hx hb hg in_M hown hK hP 0 rfl rfl 0 (by decide) (hg _ k952) (fun _ h9 => h9) rfl d_M_bits_8 ?_
  refine lv_iconst (v := 4) hx hb d_M_bits_11 (by decide) ?_
  refine lv_icmp_ne (tgt := 20) hx hb d_M_bits_12 (by decide) (fun c_1 => ?_) (fun c_1 => ?_)
  · refine lv_bipush (v := 12) hx hb d_M_bits_20 (by decide) ?_
    refine my_ci (wr := [(o, Sum.inr (9, mO g 2 fShift fModels fItems fEnded fLow fRange fCache fPend fGoes fOuts fIns fReads fBad fIR fAsk fBAsk fCode fRL fRR fX fWrites 0))]) (va_runS (As := [Value.int p2, Value.int 1, Value.int 12]) (rest := []) ⟨hx, hb, hml, hown, hts⟩ (c_M_in l dC dI cI cM cO H.size p2 1 12) (cwS 3 hts (my_gS k1062 k1063 k12 k1064) rfl rfl rfl (by decide +kernel) ⟨by rw [hR]; exact Nat.le_of_ble_eq_true rfl, by rw [hR]; exact Nat.le_of_ble_eq_true rfl⟩) (my_pre hK hN (hP.sub [] rfl) (hD.sub [] (by decide +kernel) rfl)) rfl rfl hl.1 rfl (lv_room (Nat.le_of_ble_eq_true rfl)) d_M_bits_22 ⟨by rw [hR]; exact Nat.le_of_ble_eq_true rfl, by rw [hR]; exact Nat.le_of_ble_eq_true rfl⟩) hP hD hS hA [] [0] rfl rfl (by decide +kernel) (by decide +kernel) (fun r_22 u9 H locs hw_22 hP hD hS => ?_)
    have hw_22 : r_22 = if 1 ≤ p2 ∧ p2 ≤ 12 then 1 else 0 := hw_22
    have hPD : my_PD (dC, dI) vwCl A [(o, Sum.inr (9, mO g 2 fShift fModels fItems fEnded fLow fRange fCache fPend fGoes fOuts fIns fReads fBad fIR fAsk fBAsk fCode fRL fRR fX fWrites 0))] H := ⟨hP, hD⟩
    have hP := hPD.1
    have hD := hPD.2
    refine lv_if_eq (tgt := 41) hx hb d_M_bits_25 (by decide) (fun c_2 => ?_) (fun c_2 => ?_)
    · refine lv_bipush (v := (-2)) hx hb d_M_bits_41 (by decide) ?_
      exact my_iret (v := (-2)) hx hb hr (rfl) hlocks hQ hK hS (Nat.le_refl _) (Nat.le_refl _) () (rfl) (hP.sub [0] rfl) (hD.sub [0] (by decide +kernel) rfl) d_M_bits_43
    · refine lv_iload_n hx hb d_M_bits_28 rfl (lv_at hl 1 rfl) ?_
      refine lv_iconst (v := 0) hx hb d_M_bits_29 (by decide) ?_
      refine lv_iconst (v := 1) hx hb d_M_bits_30 (by decide) ?_
      refine lv_iload_n hx hb d_M_bits_31 rfl (lv_at hl 2 rfl) ?_
      refine lv_ishl hx hb d_M_bits_32 ?_
      refine lv_topi (fun v_3 ev_3 => ?_)
      refine lv_iconst (v := 1) hx hb d_M_bits_33 (by decide) ?_
      refine lv_isub hx hb d_M_bits_34 ?_
      refine lv_topi (fun v_4 ev_4 => ?_)
      refine my_ci (wr := [(o, Sum.inr (9, mO g 2 fShift fModels fItems fEnded fLow fRange fCache fPend fGoes fOuts fIns fReads fBad fIR fAsk fBAsk fCode fRL fRR fX fWrites 0))]) (va_runS (As := [Value.int p1, Value.int 0, Value.int v_4]) (rest := []) ⟨hx, hb, hml, hown, hts⟩ (c_M_in l dC dI cI cM cO H.size p1 0 v_4) (cwS 3 hts (my_gS k1062 k1063 k12 k1064) rfl rfl rfl (by decide +kernel) ⟨by rw [hR]; exact Nat.le_of_ble_eq_true rfl, by rw [hR]; exact Nat.le_of_ble_eq_true rfl⟩) (my_pre hK hN (hP.sub [] rfl) (hD.sub [] (by decide +kernel) rfl)) rfl rfl hl.1 rfl (lv_room (Nat.le_of_ble_eq_true rfl)) d_M_bits_35 ⟨by rw [hR]; exact Nat.le_of_ble_eq_true rfl, by rw [hR]; exact Nat.le_of_ble_eq_true rfl⟩) hP hD hS hA [] [0] rfl rfl (by decide +kernel) (by decide +kernel) (fun r_35 u9 H locs hw_35 hP hD hS => ?_)
      have hw_35 : r_35 = if 0 ≤ p1 ∧ p1 ≤ v_4 then 1 else 0 := hw_35
      have hPD : my_PD (dC, dI) vwCl A [(o, Sum.inr (9, mO g 2 fShift fModels fItems fEnded fLow fRange fCache fPend fGoes fOuts fIns fReads fBad fIR fAsk fBAsk fCode fRL fRR fX fWrites 0))] H := ⟨hP, hD⟩
      have hP := hPD.1
      have hD := hPD.2
      refine lv_if_ne (tgt := 44) hx hb d_M_bits_38 (by decide) (fun c_5 => ?_) (fun c_5 => ?_)
      · exact absurd (one_ne hw_35 c_5) (okB_no (by decide) hno (one_ne hw_22 c_2) (by subst_vars; rfl))
      · refine lv_bipush (v := (-2)) hx hb d_M_bits_41 (by decide) ?_
        exact my_iret (v := (-2)) hx hb hr (rfl) hlocks hQ hK hS (Nat.le_refl _) (Nat.le_refl _) () (rfl) (hP.sub [0] rfl) (hD.sub [0] (by decide +kernel) rfl) d_M_bits_43
  · exact absurd c_1 (by decide)
set_option maxHeartbeats 2000000 in
set_option maxRecDepth 100000 in
theorem m_bits2E (l : Launch) (dC : Nat → ClassId) (dI : Nat → Nat → Nat) (cI cM cO : ClassId) (sz : Nat) (o : Nat) (g : Nat → Nat) (fShift : Int32) (fModels : Int32) (fItems : Int32) (fEnded : Int32) (fLow : Int64) (fRange : Int64) (fCache : Int32) (fPend : Int32) (fGoes : Int32) (fOuts : Int32) (fIns : Int32) (fReads : Int32) (fBad : Int32) (fIR : Int32) (fAsk : Int32) (fBAsk : Int32) (fCode : Int64) (fRL : Int64) (fRR : Int64) (fX : Int64) (fWrites : Int32) (fThrown : Int32) (vv : Nat) (bb : Nat) (hb1 : 1 ≤ bb) (hb2 : bb ≤ 12) (hv : vv < 2 ^ bb) (hen : ¬ fEnded = 0) : MetI l y_M_bits (Cond.code y_M_bits prog_14_method_30_code 3 (some .int) :: gw) ({ frames := 1, cells := 0, slots := 0, locals := 22 } : Room) (dC, dI) vwCl (kT cI cM cO) [Value.ref o, Value.int (nI vv), Value.int (nI bb)] [(o, Sum.inr (9, mO g 2 fShift fModels fItems fEnded fLow fRange fCache fPend fGoes fOuts fIns fReads fBad fIR fAsk fBAsk fCode fRL fRR fX fWrites fThrown))] sz (fun (r : Int32) (u : Unit) => r = -3) (fun (u : Unit) => [(o, Sum.inr (9, mO g 2 fShift fModels fItems fEnded fLow fRange fCache fPend fGoes fOuts fIns fReads fBad fIR fAsk fBAsk fCode fRL fRR fX fWrites 0))]) 0 0 := by
  refine my_ofI (cc := prog_14_method_30_code) (n := 3) (ret := (some .int)) (by decide) rfl (Nat.le_of_ble_eq_true rfl) ?_
  intro p e s m args below meth c R Q A ls H locs hx hb hr hts hown hlocks hml hnm hR hQ hA hl hP hK hN hD hS
  have hg : ∀ w ∈ gw, w.before args s = true := fun w h => hts w (List.mem_cons_of_mem _ h)
  have hown : s.vm.findClass "RangeCodersModel" = some m.cls := hown
  have hl : lv_has ls 3 [(0, Value.ref o), (1, Value.int (nI vv)), (2, Value.int (nI bb))] := hl
  have hp12 : 2 ^ bb ≤ 4096 := pw12 (by omega)
  have hp0 := Nat.two_pow_pos bb
  refine lv_aload_n hx hb d_M_bits_0 rfl (lv_at hl 0 rfl) ?_
  refine lv_iconst (v := 0) hx hb d_M_bits_1 (by decide) ?_
  refine va_put (D := (dC, dI)) (ci := 9) (v := .int 0) (ty := .int) (C := "RangeCodersModel") (T := T_M) (N := 35) hx hb hg in_M t_M o_M n_M hown hK hP hD hS 0 rfl rfl 34 (by decide) (hg _ k986) (fun _ h9 => h9) rfl (o_M 34 (by decide)) rfl rfl (Nat.le_of_ble_eq_true rfl) d_M_bits_2 (fun H locs hP hD hS => ?_)
  have hPD : my_PD (dC, dI) vwCl A [(o, Sum.inr (9, mO g 2 fShift fModels fItems fEnded fLow fRange fCache fPend fGoes fOuts fIns fReads fBad fIR fAsk fBAsk fCode fRL fRR fX fWrites 0))] H := ⟨hP, hD⟩
  have hP := hPD.1
  have hD := hPD.2
  refine lv_iload_n hx hb d_M_bits_5 rfl (lv_at hl 2 rfl) ?_
  refine lv_iconst (v := 1) hx hb d_M_bits_6 (by decide) ?_
  refine lv_aload_n hx hb d_M_bits_7 rfl (lv_at hl 0 rfl) ?_
  refine va_get (D := (dC, dI)) (ci := 9) (v := .int 2) (C := "RangeCodersModel") (T := T_M) (N := 35) hx hb hg in_M hown hK hP 0 rfl rfl 0 (by decide) (hg _ k952) (fun _ h9 => h9) rfl d_M_bits_8 ?_
  refine lv_iconst (v := 4) hx hb d_M_bits_11 (by decide) ?_
  refine lv_icmp_ne (tgt := 20) hx hb d_M_bits_12 (by decide) (fun c_1 => ?_) (fun c_1 => ?_)
  · refine lv_bipush (v := 12) hx hb d_M_bits_20 (by decide) ?_
    refine my_ci (wr := [(o, Sum.inr (9, mO g 2 fShift fModels fItems fEnded fLow fRange fCache fPend fGoes fOuts fIns fReads fBad fIR fAsk fBAsk fCode fRL fRR fX fWrites 0))]) (va_runS (As := [Value.int (nI bb), Value.int 1, Value.int 12]) (rest := []) ⟨hx, hb, hml, hown, hts⟩ (c_M_in l dC dI cI cM cO H.size (nI bb) 1 12) (cwS 3 hts (my_gS k1062 k1063 k12 k1064) rfl rfl rfl (by decide +kernel) ⟨by rw [hR]; exact Nat.le_of_ble_eq_true rfl, by rw [hR]; exact Nat.le_of_ble_eq_true rfl⟩) (my_pre hK hN (hP.sub [] rfl) (hD.sub [] (by decide +kernel) rfl)) rfl rfl hl.1 rfl (lv_room (Nat.le_of_ble_eq_true rfl)) d_M_bits_22 ⟨by rw [hR]; exact Nat.le_of_ble_eq_true rfl, by rw [hR]; exact Nat.le_of_ble_eq_true rfl⟩) hP hD hS hA [] [0] rfl rfl (by decide +kernel) (by decide +kernel) (fun r_22 u9 H locs hw_22 hP hD hS => ?_)
    have hw_22 : r_22 = if 1 ≤ (nI bb) ∧ (nI bb) ≤ 12 then 1 else 0 := hw_22
    have hPD : my_PD (dC, dI) vwCl A [(o, Sum.inr (9, mO g 2 fShift fModels fItems fEnded fLow fRange fCache fPend fGoes fOuts fIns fReads fBad fIR fAsk fBAsk fCode fRL fRR fX fWrites 0))] H := ⟨hP, hD⟩
    have hP := hPD.1
    have hD := hPD.2
    refine lv_if_eq (tgt := 41) hx hb d_M_bits_25 (by decide) (fun c_2 => ?_) (fun c_2 => ?_)
    · exact absurd (show 1 ≤ nI bb ∧ nI bb ≤ nI 12 from ⟨nI_le (a := 1) hb1 (by omega), nI_le hb2 (by decide)⟩) (one_eq hw_22 c_2)
    · refine lv_iload_n hx hb d_M_bits_28 rfl (lv_at hl 1 rfl) ?_
      refine lv_iconst (v := 0) hx hb d_M_bits_29 (by decide) ?_
      refine lv_iconst (v := 1) hx hb d_M_bits_30 (by decide) ?_
      refine lv_iload_n hx hb d_M_bits_31 rfl (lv_at hl 2 rfl) ?_
      refine lv_ishl hx hb d_M_bits_32 ?_
      refine lv_topi (fun v_3 ev_3 => ?_)
      have z9 : v_3 = nI (2 ^ bb) := by rw [ev_3]; exact shl1 _ (by omega)
      subst z9
      refine lv_iconst (v := 1) hx hb d_M_bits_33 (by decide) ?_
      refine lv_isub hx hb d_M_bits_34 ?_
      refine lv_topi (fun v_4 ev_4 => ?_)
      have z9 : v_4 = nI (2 ^ bb - 1) := by rw [ev_4]; exact nI_pred9 hp0
      subst z9
      refine my_ci (wr := [(o, Sum.inr (9, mO g 2 fShift fModels fItems fEnded fLow fRange fCache fPend fGoes fOuts fIns fReads fBad fIR fAsk fBAsk fCode fRL fRR fX fWrites 0))]) (va_runS (As := [Value.int (nI vv), Value.int 0, Value.int (nI (2 ^ bb - 1))]) (rest := []) ⟨hx, hb, hml, hown, hts⟩ (c_M_in l dC dI cI cM cO H.size (nI vv) 0 (nI (2 ^ bb - 1))) (cwS 3 hts (my_gS k1062 k1063 k12 k1064) rfl rfl rfl (by decide +kernel) ⟨by rw [hR]; exact Nat.le_of_ble_eq_true rfl, by rw [hR]; exact Nat.le_of_ble_eq_true rfl⟩) (my_pre hK hN (hP.sub [] rfl) (hD.sub [] (by decide +kernel) rfl)) rfl rfl hl.1 rfl (lv_room (Nat.le_of_ble_eq_true rfl)) d_M_bits_35 ⟨by rw [hR]; exact Nat.le_of_ble_eq_true rfl, by rw [hR]; exact Nat.le_of_ble_eq_true rfl⟩) hP hD hS hA [] [0] rfl rfl (by decide +kernel) (by decide +kernel) (fun r_35 u9 H locs hw_35 hP hD hS => ?_)
      have hw_35 : r_35 = if 0 ≤ (nI vv) ∧ (nI vv) ≤ (nI (2 ^ bb - 1)) then 1 else 0 := hw_35
      have hPD : my_PD (dC, dI) vwCl A [(o, Sum.inr (9, mO g 2 fShift fModels fItems fEnded fLow fRange fCache fPend fGoes fOuts fIns fReads fBad fIR fAsk fBAsk fCode fRL fRR fX fWrites 0))] H := ⟨hP, hD⟩
      have hP := hPD.1
      have hD := hPD.2
      refine lv_if_ne (tgt := 44) hx hb d_M_bits_38 (by decide) (fun c_5 => ?_) (fun c_5 => ?_)
      · refine lv_aload_n hx hb d_M_bits_44 rfl (lv_at hl 0 rfl) ?_
        refine va_get (D := (dC, dI)) (ci := 9) (v := .int fEnded) (C := "RangeCodersModel") (T := T_M) (N := 35) hx hb hg in_M hown hK hP 0 rfl rfl 10 (by decide) (hg _ k962) (fun _ h9 => h9) rfl d_M_bits_45 ?_
        refine lv_if_eq (tgt := 54) hx hb d_M_bits_48 (by decide) (fun c_6 => ?_) (fun c_6 => ?_)
        · exact absurd c_6 hen
        · refine lv_bipush (v := (-3)) hx hb d_M_bits_51 (by decide) ?_
          exact my_iret (v := (-3)) hx hb hr (rfl) hlocks hQ hK hS (Nat.le_refl _) (Nat.le_refl _) () (rfl) (hP.sub [0] rfl) (hD.sub [0] (by decide +kernel) rfl) d_M_bits_53
      · exact absurd ⟨nI_pos' (by omega), nI_le (by omega) (by omega)⟩ (one_eq hw_35 c_5)
  · exact absurd c_1 (by decide)
set_option maxHeartbeats 2000000 in
set_option maxRecDepth 100000 in
theorem m_bits2R (l : Launch) (dC : Nat → ClassId) (dI : Nat → Nat → Nat) (cI cM cO : ClassId) (sz : Nat) (o : Nat) (g : Nat → Nat) (fShift : Int32) (fModels : Int32) (fLow : Int64) (fRange : Int64) (fCache : Int32) (fPend : Int32) (fGoes : Int32) (fOuts : Int32) (fIns : Int32) (fReads : Int32) (fBad : Int32) (fIR : Int32) (fAsk : Int32) (fBAsk : Int32) (fCode : Int64) (fRL : Int64) (fRR : Int64) (fX : Int64) (fWrites : Int32) (fThrown : Int32) (vv : Nat) (bb : Nat) (ki : Nat) (hb1 : 1 ≤ bb) (hb2 : bb ≤ 12) (hv : vv < 2 ^ bb) (hk6 : ki = 600) : MetI l y_M_bits (Cond.code y_M_bits prog_14_method_30_code 3 (some .int) :: gw) ({ frames := 1, cells := 0, slots := 0, locals := 22 } : Room) (dC, dI) vwCl (kT cI cM cO) [Value.ref o, Value.int (nI vv), Value.int (nI bb)] [(o, Sum.inr (9, mO g 2 fShift fModels (nI ki) 0 fLow fRange fCache fPend fGoes fOuts fIns fReads fBad fIR fAsk fBAsk fCode fRL fRR fX fWrites fThrown))] sz (fun (r : Int32) (u : Unit) => r = -4) (fun (u : Unit) => [(o, Sum.inr (9, mO g 2 fShift fModels (nI ki) 0 fLow fRange fCache fPend fGoes fOuts fIns fReads fBad fIR fAsk fBAsk fCode fRL fRR fX fWrites 0))]) 0 0 := by
  refine my_ofI (cc := prog_14_method_30_code) (n := 3) (ret := (some .int)) (by decide) rfl (Nat.le_of_ble_eq_true rfl) ?_
  intro p e s m args below meth c R Q A ls H locs hx hb hr hts hown hlocks hml hnm hR hQ hA hl hP hK hN hD hS
  have hg : ∀ w ∈ gw, w.before args s = true := fun w h => hts w (List.mem_cons_of_mem _ h)
  have hown : s.vm.findClass "RangeCodersModel" = some m.cls := hown
  have hl : lv_has ls 3 [(0, Value.ref o), (1, Value.int (nI vv)), (2, Value.int (nI bb))] := hl
  have hp12 : 2 ^ bb ≤ 4096 := pw12 (by omega)
  have hp0 := Nat.two_pow_pos bb
  refine lv_aload_n hx hb d_M_bits_0 rfl (lv_at hl 0 rfl) ?_
  refine lv_iconst (v := 0) hx hb d_M_bits_1 (by decide) ?_
  refine va_put (D := (dC, dI)) (ci := 9) (v := .int 0) (ty := .int) (C := "RangeCodersModel") (T := T_M) (N := 35) hx hb hg in_M t_M o_M n_M hown hK hP hD hS 0 rfl rfl 34 (by decide) (hg _ k986) (fun _ h9 => h9) rfl (o_M 34 (by decide)) rfl rfl (Nat.le_of_ble_eq_true rfl) d_M_bits_2 (fun H locs hP hD hS => ?_)
  have hPD : my_PD (dC, dI) vwCl A [(o, Sum.inr (9, mO g 2 fShift fModels (nI ki) 0 fLow fRange fCache fPend fGoes fOuts fIns fReads fBad fIR fAsk fBAsk fCode fRL fRR fX fWrites 0))] H := ⟨hP, hD⟩
  have hP := hPD.1
  have hD := hPD.2
  refine lv_iload_n hx hb d_M_bits_5 rfl (lv_at hl 2 rfl) ?_
  refine lv_iconst (v := 1) hx hb d_M_bits_6 (by decide) ?_
  refine lv_aload_n hx hb d_M_bits_7 rfl (lv_at hl 0 rfl) ?_
  refine va_get (D := (dC, dI)) (ci := 9) (v := .int 2) (C := "RangeCodersModel") (T := T_M) (N := 35) hx hb hg in_M hown hK hP 0 rfl rfl 0 (by decide) (hg _ k952) (fun _ h9 => h9) rfl d_M_bits_8 ?_
  refine lv_iconst (v := 4) hx hb d_M_bits_11 (by decide) ?_
  refine lv_icmp_ne (tgt := 20) hx hb d_M_bits_12 (by decide) (fun c_1 => ?_) (fun c_1 => ?_)
  · refine lv_bipush (v := 12) hx hb d_M_bits_20 (by decide) ?_
    refine my_ci (wr := [(o, Sum.inr (9, mO g 2 fShift fModels (nI ki) 0 fLow fRange fCache fPend fGoes fOuts fIns fReads fBad fIR fAsk fBAsk fCode fRL fRR fX fWrites 0))]) (va_runS (As := [Value.int (nI bb), Value.int 1, Value.int 12]) (rest := []) ⟨hx, hb, hml, hown, hts⟩ (c_M_in l dC dI cI cM cO H.size (nI bb) 1 12) (cwS 3 hts (my_gS k1062 k1063 k12 k1064) rfl rfl rfl (by decide +kernel) ⟨by rw [hR]; exact Nat.le_of_ble_eq_true rfl, by rw [hR]; exact Nat.le_of_ble_eq_true rfl⟩) (my_pre hK hN (hP.sub [] rfl) (hD.sub [] (by decide +kernel) rfl)) rfl rfl hl.1 rfl (lv_room (Nat.le_of_ble_eq_true rfl)) d_M_bits_22 ⟨by rw [hR]; exact Nat.le_of_ble_eq_true rfl, by rw [hR]; exact Nat.le_of_ble_eq_true rfl⟩) hP hD hS hA [] [0] rfl rfl (by decide +kernel) (by decide +kernel) (fun r_22 u9 H locs hw_22 hP hD hS => ?_)
    have hw_22 : r_22 = if 1 ≤ (nI bb) ∧ (nI bb) ≤ 12 then 1 else 0 := hw_22
    have hPD : my_PD (dC, dI) vwCl A [(o, Sum.inr (9, mO g 2 fShift fModels (nI ki) 0 fLow fRange fCache fPend fGoes fOuts fIns fReads fBad fIR fAsk fBAsk fCode fRL fRR fX fWrites 0))] H := ⟨hP, hD⟩
    have hP := hPD.1
    have hD := hPD.2
    refine lv_if_eq (tgt := 41) hx hb d_M_bits_25 (by decide) (fun c_2 => ?_) (fun c_2 => ?_)
    · exact absurd (show 1 ≤ nI bb ∧ nI bb ≤ nI 12 from ⟨nI_le (a := 1) hb1 (by omega), nI_le hb2 (by decide)⟩) (one_eq hw_22 c_2)
    · refine lv_iload_n hx hb d_M_bits_28 rfl (lv_at hl 1 rfl) ?_
      refine lv_iconst (v := 0) hx hb d_M_bits_29 (by decide) ?_
      refine lv_iconst (v := 1) hx hb d_M_bits_30 (by decide) ?_
      refine lv_iload_n hx hb d_M_bits_31 rfl (lv_at hl 2 rfl) ?_
      refine lv_ishl hx hb d_M_bits_32 ?_
      refine lv_topi (fun v_3 ev_3 => ?_)
      have z9 : v_3 = nI (2 ^ bb) := by rw [ev_3]; exact shl1 _ (by omega)
      subst z9
      refine lv_iconst (v := 1) hx hb d_M_bits_33 (by decide) ?_
      refine lv_isub hx hb d_M_bits_34 ?_
      refine lv_topi (fun v_4 ev_4 => ?_)
      have z9 : v_4 = nI (2 ^ bb - 1) := by rw [ev_4]; exact nI_pred9 hp0
      subst z9
      refine my_ci (wr := [(o, Sum.inr (9, mO g 2 fShift fModels (nI ki) 0 fLow fRange fCache fPend fGoes fOuts fIns fReads fBad fIR fAsk fBAsk fCode fRL fRR fX fWrites 0))]) (va_runS (As := [Value.int (nI vv), Value.int 0, Value.int (nI (2 ^ bb - 1))]) (rest := []) ⟨hx, hb, hml, hown, hts⟩ (c_M_in l dC dI cI cM cO H.size (nI vv) 0 (nI (2 ^ bb - 1))) (cwS 3 hts (my_gS k1062 k1063 k12 k1064) rfl rfl rfl (by decide +kernel) ⟨by rw [hR]; exact Nat.le_of_ble_eq_true rfl, by rw [hR]; exact Nat.le_of_ble_eq_true rfl⟩) (my_pre hK hN (hP.sub [] rfl) (hD.sub [] (by decide +kernel) rfl)) rfl rfl hl.1 rfl (lv_room (Nat.le_of_ble_eq_true rfl)) d_M_bits_35 ⟨by rw [hR]; exact Nat.le_of_ble_eq_true rfl, by rw [hR]; exact Nat.le_of_ble_eq_true rfl⟩) hP hD hS hA [] [0] rfl rfl (by decide +kernel) (by decide +kernel) (fun r_35 u9 H locs hw_35 hP hD hS => ?_)
      have hw_35 : r_35 = if 0 ≤ (nI vv) ∧ (nI vv) ≤ (nI (2 ^ bb - 1)) then 1 else 0 := hw_35
      have hPD : my_PD (dC, dI) vwCl A [(o, Sum.inr (9, mO g 2 fShift fModels (nI ki) 0 fLow fRange fCache fPend fGoes fOuts fIns fReads fBad fIR fAsk fBAsk fCode fRL fRR fX fWrites 0))] H := ⟨hP, hD⟩
      have hP := hPD.1
      have hD := hPD.2
      refine lv_if_ne (tgt := 44) hx hb d_M_bits_38 (by decide) (fun c_5 => ?_) (fun c_5 => ?_)
      · refine lv_aload_n hx hb d_M_bits_44 rfl (lv_at hl 0 rfl) ?_
        refine va_get (D := (dC, dI)) (ci := 9) (v := .int 0) (C := "RangeCodersModel") (T := T_M) (N := 35) hx hb hg in_M hown hK hP 0 rfl rfl 10 (by decide) (hg _ k962) (fun _ h9 => h9) rfl d_M_bits_45 ?_
        refine lv_if_eq (tgt := 54) hx hb d_M_bits_48 (by decide) (fun c_6 => ?_) (fun c_6 => ?_)
        · refine lv_aload_n hx hb d_M_bits_54 rfl (lv_at hl 0 rfl) ?_
          refine va_get (D := (dC, dI)) (ci := 9) (v := .int (nI ki)) (C := "RangeCodersModel") (T := T_M) (N := 35) hx hb hg in_M hown hK hP 0 rfl rfl 7 (by decide) (hg _ k959) (fun _ h9 => h9) rfl d_M_bits_55 ?_
          refine lv_sipush (v := 600) hx hb d_M_bits_58 (by decide) ?_
          refine lv_icmp_ne (tgt := 67) hx hb d_M_bits_61 (by decide) (fun c_7 => ?_) (fun c_7 => ?_)
          · exact absurd (by rw [hk6]; rfl) c_7
          · refine lv_bipush (v := (-4)) hx hb d_M_bits_64 (by decide) ?_
            exact my_iret (v := (-4)) hx hb hr (rfl) hlocks hQ hK hS (Nat.le_refl _) (Nat.le_refl _) () (rfl) (hP.sub [0] rfl) (hD.sub [0] (by decide +kernel) rfl) d_M_bits_66
        · exact absurd (by decide) c_6
      · exact absurd ⟨nI_pos' (by omega), nI_le (by omega) (by omega)⟩ (one_eq hw_35 c_5)
  · exact absurd c_1 (by decide)
set_option maxHeartbeats 2000000 in
set_option maxRecDepth 100000 in
theorem m_bits3W (l : Launch) (dC : Nat → ClassId) (dI : Nat → Nat → Nat) (cI cM cO : ClassId) (sz : Nat) (o : Nat) (g : Nat → Nat) (fShift : Int32) (fModels : Int32) (fItems : Int32) (fEnded : Int32) (fLow : Int64) (fRange : Int64) (fCache : Int32) (fPend : Int32) (fGoes : Int32) (fOuts : Int32) (fIns : Int32) (fReads : Int32) (fBad : Int32) (fIR : Int32) (fAsk : Int32) (fBAsk : Int32) (fCode : Int64) (fRL : Int64) (fRR : Int64) (fX : Int64) (fWrites : Int32) (fThrown : Int32) (p1 : Int32) (p2 : Int32) (hno : ¬ okB 12 p1 p2) : MetI l y_M_bits (Cond.code y_M_bits prog_14_method_30_code 3 (some .int) :: gw) ({ frames := 1, cells := 0, slots := 0, locals := 22 } : Room) (dC, dI) vwCl (kT cI cM cO) [Value.ref o, Value.int p1, Value.int p2] [(o, Sum.inr (9, mO g 3 fShift fModels fItems fEnded fLow fRange fCache fPend fGoes fOuts fIns fReads fBad fIR fAsk fBAsk fCode fRL fRR fX fWrites fThrown))] sz (fun (r : Int32) (u : Unit) => r = -2) (fun (u : Unit) => [(o, Sum.inr (9, mO g 3 fShift fModels fItems fEnded fLow fRange fCache fPend fGoes fOuts fIns fReads fBad fIR fAsk fBAsk fCode fRL fRR fX fWrites 0))]) 0 0 := by
  refine my_ofI (cc := prog_14_method_30_code) (n := 3) (ret := (some .int)) (by decide) rfl (Nat.le_of_ble_eq_true rfl) ?_
  intro p e s m args below meth c R Q A ls H locs hx hb hr hts hown hlocks hml hnm hR hQ hA hl hP hK hN hD hS
  have hg : ∀ w ∈ gw, w.before args s = true := fun w h => hts w (List.mem_cons_of_mem _ h)
  have hown : s.vm.findClass "RangeCodersModel" = some m.cls := hown
  have hl : lv_has ls 3 [(0, Value.ref o), (1, Value.int p1), (2, Value.int p2)] := hl
  refine lv_aload_n hx hb d_M_bits_0 rfl (lv_at hl 0 rfl) ?_
  refine lv_iconst (v := 0) hx hb d_M_bits_1 (by decide) ?_
  refine va_put (D := (dC, dI)) (ci := 9) (v := .int 0) (ty := .int) (C := "RangeCodersModel") (T := T_M) (N := 35) hx hb hg in_M t_M o_M n_M hown hK hP hD hS 0 rfl rfl 34 (by decide) (hg _ k986) (fun _ h9 => h9) rfl (o_M 34 (by decide)) rfl rfl (Nat.le_of_ble_eq_true rfl) d_M_bits_2 (fun H locs hP hD hS => ?_)
  have hPD : my_PD (dC, dI) vwCl A [(o, Sum.inr (9, mO g 3 fShift fModels fItems fEnded fLow fRange fCache fPend fGoes fOuts fIns fReads fBad fIR fAsk fBAsk fCode fRL fRR fX fWrites 0))] H := ⟨hP, hD⟩
  have hP := hPD.1
  have hD := hPD.2
  refine lv_iload_n hx hb d_M_bits_5 rfl (lv_at hl 2 rfl) ?_
  refine lv_iconst (v := 1) hx hb d_M_bits_6 (by decide) ?_
  refine lv_aload_n hx hb d_M_bits_7 rfl (lv_at hl 0 rfl) ?_
  refine va_get (D := (dC, dI)) (ci := 9) (v := .int 3) (C := "RangeCodersModel") (T := T_M) (N := 35) hx hb hg in_M hown hK hP 0 rfl rfl 0 (by decide) (hg _ k952) (fun _ h9 => h9) rfl d_M_bits_8 ?_
  refine lv_iconst (v := 4) hx hb d_M_bits_11 (by decide) ?_
  refine lv_icmp_ne (tgt := 20) hx hb d_M_bits_12 (by decide) (fun c_1 => ?_) (fun c_1 => ?_)
  · refine lv_bipush (v := 12) hx hb d_M_bits_20 (by decide) ?_
    refine my_ci (wr := [(o, Sum.inr (9, mO g 3 fShift fModels fItems fEnded fLow fRange fCache fPend fGoes fOuts fIns fReads fBad fIR fAsk fBAsk fCode fRL fRR fX fWrites 0))]) (va_runS (As := [Value.int p2, Value.int 1, Value.int 12]) (rest := []) ⟨hx, hb, hml, hown, hts⟩ (c_M_in l dC dI cI cM cO H.size p2 1 12) (cwS 3 hts (my_gS k1062 k1063 k12 k1064) rfl rfl rfl (by decide +kernel) ⟨by rw [hR]; exact Nat.le_of_ble_eq_true rfl, by rw [hR]; exact Nat.le_of_ble_eq_true rfl⟩) (my_pre hK hN (hP.sub [] rfl) (hD.sub [] (by decide +kernel) rfl)) rfl rfl hl.1 rfl (lv_room (Nat.le_of_ble_eq_true rfl)) d_M_bits_22 ⟨by rw [hR]; exact Nat.le_of_ble_eq_true rfl, by rw [hR]; exact Nat.le_of_ble_eq_true rfl⟩) hP hD hS hA [] [0] rfl rfl (by decide +kernel) (by decide +kernel) (fun r_22 u9 H locs hw_22 hP hD hS => ?_)
    have hw_22 : r_22 = if 1 ≤ p2 ∧ p2 ≤ 12 then 1 else 0 := hw_22
    have hPD : my_PD (dC, dI) vwCl A [(o, Sum.inr (9, mO g 3 fShift fModels fItems fEnded fLow fRange fCache fPend fGoes fOuts fIns fReads fBad fIR fAsk fBAsk fCode fRL fRR fX fWrites 0))] H := ⟨hP, hD⟩
    have hP := hPD.1
    have hD := hPD.2
    refine lv_if_eq (tgt := 41) hx hb d_M_bits_25 (by decide) (fun c_2 => ?_) (fun c_2 => ?_)
    · refine lv_bipush (v := (-2)) hx hb d_M_bits_41 (by decide) ?_
      exact my_iret (v := (-2)) hx hb hr (rfl) hlocks hQ hK hS (Nat.le_refl _) (Nat.le_refl _) () (rfl) (hP.sub [0] rfl) (hD.sub [0] (by decide +kernel) rfl) d_M_bits_43
    · refine lv_iload_n hx hb d_M_bits_28 rfl (lv_at hl 1 rfl) ?_
      refine lv_iconst (v := 0) hx hb d_M_bits_29 (by decide) ?_
      refine lv_iconst (v := 1) hx hb d_M_bits_30 (by decide) ?_
      refine lv_iload_n hx hb d_M_bits_31 rfl (lv_at hl 2 rfl) ?_
      refine lv_ishl hx hb d_M_bits_32 ?_
      refine lv_topi (fun v_3 ev_3 => ?_)
      refine lv_iconst (v := 1) hx hb d_M_bits_33 (by decide) ?_
      refine lv_isub hx hb d_M_bits_34 ?_
      refine lv_topi (fun v_4 ev_4 => ?_)
      refine my_ci (wr := [(o, Sum.inr (9, mO g 3 fShift fModels fItems fEnded fLow fRange fCache fPend fGoes fOuts fIns fReads fBad fIR fAsk fBAsk fCode fRL fRR fX fWrites 0))]) (va_runS (As := [Value.int p1, Value.int 0, Value.int v_4]) (rest := []) ⟨hx, hb, hml, hown, hts⟩ (c_M_in l dC dI cI cM cO H.size p1 0 v_4) (cwS 3 hts (my_gS k1062 k1063 k12 k1064) rfl rfl rfl (by decide +kernel) ⟨by rw [hR]; exact Nat.le_of_ble_eq_true rfl, by rw [hR]; exact Nat.le_of_ble_eq_true rfl⟩) (my_pre hK hN (hP.sub [] rfl) (hD.sub [] (by decide +kernel) rfl)) rfl rfl hl.1 rfl (lv_room (Nat.le_of_ble_eq_true rfl)) d_M_bits_35 ⟨by rw [hR]; exact Nat.le_of_ble_eq_true rfl, by rw [hR]; exact Nat.le_of_ble_eq_true rfl⟩) hP hD hS hA [] [0] rfl rfl (by decide +kernel) (by decide +kernel) (fun r_35 u9 H locs hw_35 hP hD hS => ?_)
      have hw_35 : r_35 = if 0 ≤ p1 ∧ p1 ≤ v_4 then 1 else 0 := hw_35
      have hPD : my_PD (dC, dI) vwCl A [(o, Sum.inr (9, mO g 3 fShift fModels fItems fEnded fLow fRange fCache fPend fGoes fOuts fIns fReads fBad fIR fAsk fBAsk fCode fRL fRR fX fWrites 0))] H := ⟨hP, hD⟩
      have hP := hPD.1
      have hD := hPD.2
      refine lv_if_ne (tgt := 44) hx hb d_M_bits_38 (by decide) (fun c_5 => ?_) (fun c_5 => ?_)
      · exact absurd (one_ne hw_35 c_5) (okB_no (by decide) hno (one_ne hw_22 c_2) (by subst_vars; rfl))
      · refine lv_bipush (v := (-2)) hx hb d_M_bits_41 (by decide) ?_
        exact my_iret (v := (-2)) hx hb hr (rfl) hlocks hQ hK hS (Nat.le_refl _) (Nat.le_refl _) () (rfl) (hP.sub [0] rfl) (hD.sub [0] (by decide +kernel) rfl) d_M_bits_43
  · exact absurd c_1 (by decide)
set_option maxHeartbeats 2000000 in
set_option maxRecDepth 100000 in
theorem m_bits3E (l : Launch) (dC : Nat → ClassId) (dI : Nat → Nat → Nat) (cI cM cO : ClassId) (sz : Nat) (o : Nat) (g : Nat → Nat) (fShift : Int32) (fModels : Int32) (fItems : Int32) (fEnded : Int32) (fLow : Int64) (fRange : Int64) (fCache : Int32) (fPend : Int32) (fGoes : Int32) (fOuts : Int32) (fIns : Int32) (fReads : Int32) (fBad : Int32) (fIR : Int32) (fAsk : Int32) (fBAsk : Int32) (fCode : Int64) (fRL : Int64) (fRR : Int64) (fX : Int64) (fWrites : Int32) (fThrown : Int32) (vv : Nat) (bb : Nat) (hb1 : 1 ≤ bb) (hb2 : bb ≤ 12) (hv : vv < 2 ^ bb) (hen : ¬ fEnded = 0) : MetI l y_M_bits (Cond.code y_M_bits prog_14_method_30_code 3 (some .int) :: gw) ({ frames := 1, cells := 0, slots := 0, locals := 22 } : Room) (dC, dI) vwCl (kT cI cM cO) [Value.ref o, Value.int (nI vv), Value.int (nI bb)] [(o, Sum.inr (9, mO g 3 fShift fModels fItems fEnded fLow fRange fCache fPend fGoes fOuts fIns fReads fBad fIR fAsk fBAsk fCode fRL fRR fX fWrites fThrown))] sz (fun (r : Int32) (u : Unit) => r = -3) (fun (u : Unit) => [(o, Sum.inr (9, mO g 3 fShift fModels fItems fEnded fLow fRange fCache fPend fGoes fOuts fIns fReads fBad fIR fAsk fBAsk fCode fRL fRR fX fWrites 0))]) 0 0 := by
  refine my_ofI (cc := prog_14_method_30_code) (n := 3) (ret := (some .int)) (by decide) rfl (Nat.le_of_ble_eq_true rfl) ?_
  intro p e s m args below meth c R Q A ls H locs hx hb hr hts hown hlocks hml hnm hR hQ hA hl hP hK hN hD hS
  have hg : ∀ w ∈ gw, w.before args s = true := fun w h => hts w (List.mem_cons_of_mem _ h)
  have hown : s.vm.findClass "RangeCodersModel" = some m.cls := hown
  have hl : lv_has ls 3 [(0, Value.ref o), (1, Value.int (nI vv)), (2, Value.int (nI bb))] := hl
  have hp12 : 2 ^ bb ≤ 4096 := pw12 (by omega)
  have hp0 := Nat.two_pow_pos bb
  refine lv_aload_n hx hb d_M_bits_0 rfl (lv_at hl 0 rfl) ?_
  refine lv_iconst (v := 0) hx hb d_M_bits_1 (by decide) ?_
  refine va_put (D := (dC, dI)) (ci := 9) (v := .int 0) (ty := .int) (C := "RangeCodersModel") (T := T_M) (N := 35) hx hb hg in_M t_M o_M n_M hown hK hP hD hS 0 rfl rfl 34 (by decide) (hg _ k986) (fun _ h9 => h9) rfl (o_M 34 (by decide)) rfl rfl (Nat.le_of_ble_eq_true rfl) d_M_bits_2 (fun H locs hP hD hS => ?_)
  have hPD : my_PD (dC, dI) vwCl A [(o, Sum.inr (9, mO g 3 fShift fModels fItems fEnded fLow fRange fCache fPend fGoes fOuts fIns fReads fBad fIR fAsk fBAsk fCode fRL fRR fX fWrites 0))] H := ⟨hP, hD⟩
  have hP := hPD.1
  have hD := hPD.2
  refine lv_iload_n hx hb d_M_bits_5 rfl (lv_at hl 2 rfl) ?_
  refine lv_iconst (v := 1) hx hb d_M_bits_6 (by decide) ?_
  refine lv_aload_n hx hb d_M_bits_7 rfl (lv_at hl 0 rfl) ?_
  refine va_get (D := (dC, dI)) (ci := 9) (v := .int 3) (C := "RangeCodersModel") (T := T_M) (N := 35) hx hb hg in_M hown hK hP 0 rfl rfl 0 (by decide) (hg _ k952) (fun _ h9 => h9) rfl d_M_bits_8 ?_
  refine lv_iconst (v := 4) hx hb d_M_bits_11 (by decide) ?_
  refine lv_icmp_ne (tgt := 20) hx hb d_M_bits_12 (by decide) (fun c_1 => ?_) (fun c_1 => ?_)
  · refine lv_bipush (v := 12) hx hb d_M_bits_20 (by decide) ?_
    refine my_ci (wr := [(o, Sum.inr (9, mO g 3 fShift fModels fItems fEnded fLow fRange fCache fPend fGoes fOuts fIns fReads fBad fIR fAsk fBAsk fCode fRL fRR fX fWrites 0))]) (va_runS (As := [Value.int (nI bb), Value.int 1, Value.int 12]) (rest := []) ⟨hx, hb, hml, hown, hts⟩ (c_M_in l dC dI cI cM cO H.size (nI bb) 1 12) (cwS 3 hts (my_gS k1062 k1063 k12 k1064) rfl rfl rfl (by decide +kernel) ⟨by rw [hR]; exact Nat.le_of_ble_eq_true rfl, by rw [hR]; exact Nat.le_of_ble_eq_true rfl⟩) (my_pre hK hN (hP.sub [] rfl) (hD.sub [] (by decide +kernel) rfl)) rfl rfl hl.1 rfl (lv_room (Nat.le_of_ble_eq_true rfl)) d_M_bits_22 ⟨by rw [hR]; exact Nat.le_of_ble_eq_true rfl, by rw [hR]; exact Nat.le_of_ble_eq_true rfl⟩) hP hD hS hA [] [0] rfl rfl (by decide +kernel) (by decide +kernel) (fun r_22 u9 H locs hw_22 hP hD hS => ?_)
    have hw_22 : r_22 = if 1 ≤ (nI bb) ∧ (nI bb) ≤ 12 then 1 else 0 := hw_22
    have hPD : my_PD (dC, dI) vwCl A [(o, Sum.inr (9, mO g 3 fShift fModels fItems fEnded fLow fRange fCache fPend fGoes fOuts fIns fReads fBad fIR fAsk fBAsk fCode fRL fRR fX fWrites 0))] H := ⟨hP, hD⟩
    have hP := hPD.1
    have hD := hPD.2
    refine lv_if_eq (tgt := 41) hx hb d_M_bits_25 (by decide) (fun c_2 => ?_) (fun c_2 => ?_)
    · exact absurd (show 1 ≤ nI bb ∧ nI bb ≤ nI 12 from ⟨nI_le (a := 1) hb1 (by omega), nI_le hb2 (by decide)⟩) (one_eq hw_22 c_2)
    · refine lv_iload_n hx hb d_M_bits_28 rfl (lv_at hl 1 rfl) ?_
      refine lv_iconst (v := 0) hx hb d_M_bits_29 (by decide) ?_
      refine lv_iconst (v := 1) hx hb d_M_bits_30 (by decide) ?_
      refine lv_iload_n hx hb d_M_bits_31 rfl (lv_at hl 2 rfl) ?_
      refine lv_ishl hx hb d_M_bits_32 ?_
      refine lv_topi (fun v_3 ev_3 => ?_)
      have z9 : v_3 = nI (2 ^ bb) := by rw [ev_3]; exact shl1 _ (by omega)
      subst z9
      refine lv_iconst (v := 1) hx hb d_M_bits_33 (by decide) ?_
      refine lv_isub hx hb d_M_bits_34 ?_
      refine lv_topi (fun v_4 ev_4 => ?_)
      have z9 : v_4 = nI (2 ^ bb - 1) := by rw [ev_4]; exact nI_pred9 hp0
      subst z9
      refine my_ci (wr := [(o, Sum.inr (9, mO g 3 fShift fModels fItems fEnded fLow fRange fCache fPend fGoes fOuts fIns fReads fBad fIR fAsk fBAsk fCode fRL fRR fX fWrites 0))]) (va_runS (As := [Value.int (nI vv), Value.int 0, Value.int (nI (2 ^ bb - 1))]) (rest := []) ⟨hx, hb, hml, hown, hts⟩ (c_M_in l dC dI cI cM cO H.size (nI vv) 0 (nI (2 ^ bb - 1))) (cwS 3 hts (my_gS k1062 k1063 k12 k1064) rfl rfl rfl (by decide +kernel) ⟨by rw [hR]; exact Nat.le_of_ble_eq_true rfl, by rw [hR]; exact Nat.le_of_ble_eq_true rfl⟩) (my_pre hK hN (hP.sub [] rfl) (hD.sub [] (by decide +kernel) rfl)) rfl rfl hl.1 rfl (lv_room (Nat.le_of_ble_eq_true rfl)) d_M_bits_35 ⟨by rw [hR]; exact Nat.le_of_ble_eq_true rfl, by rw [hR]; exact Nat.le_of_ble_eq_true rfl⟩) hP hD hS hA [] [0] rfl rfl (by decide +kernel) (by decide +kernel) (fun r_35 u9 H locs hw_35 hP hD hS => ?_)
      have hw_35 : r_35 = if 0 ≤ (nI vv) ∧ (nI vv) ≤ (nI (2 ^ bb - 1)) then 1 else 0 := hw_35
      have hPD : my_PD (dC, dI) vwCl A [(o, Sum.inr (9, mO g 3 fShift fModels fItems fEnded fLow fRange fCache fPend fGoes fOuts fIns fReads fBad fIR fAsk fBAsk fCode fRL fRR fX fWrites 0))] H := ⟨hP, hD⟩
      have hP := hPD.1
      have hD := hPD.2
      refine lv_if_ne (tgt := 44) hx hb d_M_bits_38 (by decide) (fun c_5 => ?_) (fun c_5 => ?_)
      · refine lv_aload_n hx hb d_M_bits_44 rfl (lv_at hl 0 rfl) ?_
        refine va_get (D := (dC, dI)) (ci := 9) (v := .int fEnded) (C := "RangeCodersModel") (T := T_M) (N := 35) hx hb hg in_M hown hK hP 0 rfl rfl 10 (by decide) (hg _ k962) (fun _ h9 => h9) rfl d_M_bits_45 ?_
        refine lv_if_eq (tgt := 54) hx hb d_M_bits_48 (by decide) (fun c_6 => ?_) (fun c_6 => ?_)
        · exact absurd c_6 hen
        · refine lv_bipush (v := (-3)) hx hb d_M_bits_51 (by decide) ?_
          exact my_iret (v := (-3)) hx hb hr (rfl) hlocks hQ hK hS (Nat.le_refl _) (Nat.le_refl _) () (rfl) (hP.sub [0] rfl) (hD.sub [0] (by decide +kernel) rfl) d_M_bits_53
      · exact absurd ⟨nI_pos' (by omega), nI_le (by omega) (by omega)⟩ (one_eq hw_35 c_5)
  · exact absurd c_1 (by decide)
set_option maxHeartbeats 2000000 in
set_option maxRecDepth 100000 in
theorem m_bits3R (l : Launch) (dC : Nat → ClassId) (dI : Nat → Nat → Nat) (cI cM cO : ClassId) (sz : Nat) (o : Nat) (g : Nat → Nat) (fShift : Int32) (fModels : Int32) (fLow : Int64) (fRange : Int64) (fCache : Int32) (fPend : Int32) (fGoes : Int32) (fOuts : Int32) (fIns : Int32) (fReads : Int32) (fBad : Int32) (fIR : Int32) (fAsk : Int32) (fBAsk : Int32) (fCode : Int64) (fRL : Int64) (fRR : Int64) (fX : Int64) (fWrites : Int32) (fThrown : Int32) (vv : Nat) (bb : Nat) (ki : Nat) (hb1 : 1 ≤ bb) (hb2 : bb ≤ 12) (hv : vv < 2 ^ bb) (hk6 : ki = 600) : MetI l y_M_bits (Cond.code y_M_bits prog_14_method_30_code 3 (some .int) :: gw) ({ frames := 1, cells := 0, slots := 0, locals := 22 } : Room) (dC, dI) vwCl (kT cI cM cO) [Value.ref o, Value.int (nI vv), Value.int (nI bb)] [(o, Sum.inr (9, mO g 3 fShift fModels (nI ki) 0 fLow fRange fCache fPend fGoes fOuts fIns fReads fBad fIR fAsk fBAsk fCode fRL fRR fX fWrites fThrown))] sz (fun (r : Int32) (u : Unit) => r = -4) (fun (u : Unit) => [(o, Sum.inr (9, mO g 3 fShift fModels (nI ki) 0 fLow fRange fCache fPend fGoes fOuts fIns fReads fBad fIR fAsk fBAsk fCode fRL fRR fX fWrites 0))]) 0 0 := by
  refine my_ofI (cc := prog_14_method_30_code) (n := 3) (ret := (some .int)) (by decide) rfl (Nat.le_of_ble_eq_true rfl) ?_
  intro p e s m args below meth c R Q A ls H locs hx hb hr hts hown hlocks hml hnm hR hQ hA hl hP hK hN hD hS
  have hg : ∀ w ∈ gw, w.before args s = true := fun w h => hts w (List.mem_cons_of_mem _ h)
  have hown : s.vm.findClass "RangeCodersModel" = some m.cls := hown
  have hl : lv_has ls 3 [(0, Value.ref o), (1, Value.int (nI vv)), (2, Value.int (nI bb))] := hl
  have hp12 : 2 ^ bb ≤ 4096 := pw12 (by omega)
  have hp0 := Nat.two_pow_pos bb
  refine lv_aload_n hx hb d_M_bits_0 rfl (lv_at hl 0 rfl) ?_
  refine lv_iconst (v := 0) hx hb d_M_bits_1 (by decide) ?_
  refine va_put (D := (dC, dI)) (ci := 9) (v := .int 0) (ty := .int) (C := "RangeCodersModel") (T := T_M) (N := 35) hx hb hg in_M t_M o_M n_M hown hK hP hD hS 0 rfl rfl 34 (by decide) (hg _ k986) (fun _ h9 => h9) rfl (o_M 34 (by decide)) rfl rfl (Nat.le_of_ble_eq_true rfl) d_M_bits_2 (fun H locs hP hD hS => ?_)
  have hPD : my_PD (dC, dI) vwCl A [(o, Sum.inr (9, mO g 3 fShift fModels (nI ki) 0 fLow fRange fCache fPend fGoes fOuts fIns fReads fBad fIR fAsk fBAsk fCode fRL fRR fX fWrites 0))] H := ⟨hP, hD⟩
  have hP := hPD.1
  have hD := hPD.2
  refine lv_iload_n hx hb d_M_bits_5 rfl (lv_at hl 2 rfl) ?_
  refine lv_iconst (v := 1) hx hb d_M_bits_6 (by decide) ?_
  refine lv_aload_n hx hb d_M_bits_7 rfl (lv_at hl 0 rfl) ?_
  refine va_get (D := (dC, dI)) (ci := 9) (v := .int 3) (C := "RangeCodersModel") (T := T_M) (N := 35) hx hb hg in_M hown hK hP 0 rfl rfl 0 (by decide) (hg _ k952) (fun _ h9 => h9) rfl d_M_bits_8 ?_
  refine lv_iconst (v := 4) hx hb d_M_bits_11 (by decide) ?_
  refine lv_icmp_ne (tgt := 20) hx hb d_M_bits_12 (by decide) (fun c_1 => ?_) (fun c_1 => ?_)
  · refine lv_bipush (v := 12) hx hb d_M_bits_20 (by decide) ?_
    refine my_ci (wr := [(o, Sum.inr (9, mO g 3 fShift fModels (nI ki) 0 fLow fRange fCache fPend fGoes fOuts fIns fReads fBad fIR fAsk fBAsk fCode fRL fRR fX fWrites 0))]) (va_runS (As := [Value.int (nI bb), Value.int 1, Value.int 12]) (rest := []) ⟨hx, hb, hml, hown, hts⟩ (c_M_in l dC dI cI cM cO H.size (nI bb) 1 12) (cwS 3 hts (my_gS k1062 k1063 k12 k1064) rfl rfl rfl (by decide +kernel) ⟨by rw [hR]; exact Nat.le_of_ble_eq_true rfl, by rw [hR]; exact Nat.le_of_ble_eq_true rfl⟩) (my_pre hK hN (hP.sub [] rfl) (hD.sub [] (by decide +kernel) rfl)) rfl rfl hl.1 rfl (lv_room (Nat.le_of_ble_eq_true rfl)) d_M_bits_22 ⟨by rw [hR]; exact Nat.le_of_ble_eq_true rfl, by rw [hR]; exact Nat.le_of_ble_eq_true rfl⟩) hP hD hS hA [] [0] rfl rfl (by decide +kernel) (by decide +kernel) (fun r_22 u9 H locs hw_22 hP hD hS => ?_)
    have hw_22 : r_22 = if 1 ≤ (nI bb) ∧ (nI bb) ≤ 12 then 1 else 0 := hw_22
    have hPD : my_PD (dC, dI) vwCl A [(o, Sum.inr (9, mO g 3 fShift fModels (nI ki) 0 fLow fRange fCache fPend fGoes fOuts fIns fReads fBad fIR fAsk fBAsk fCode fRL fRR fX fWrites 0))] H := ⟨hP, hD⟩
    have hP := hPD.1
    have hD := hPD.2
    refine lv_if_eq (tgt := 41) hx hb d_M_bits_25 (by decide) (fun c_2 => ?_) (fun c_2 => ?_)
    · exact absurd (show 1 ≤ nI bb ∧ nI bb ≤ nI 12 from ⟨nI_le (a := 1) hb1 (by omega), nI_le hb2 (by decide)⟩) (one_eq hw_22 c_2)
    · refine lv_iload_n hx hb d_M_bits_28 rfl (lv_at hl 1 rfl) ?_
      refine lv_iconst (v := 0) hx hb d_M_bits_29 (by decide) ?_
      refine lv_iconst (v := 1) hx hb d_M_bits_30 (by decide) ?_
      refine lv_iload_n hx hb d_M_bits_31 rfl (lv_at hl 2 rfl) ?_
      refine lv_ishl hx hb d_M_bits_32 ?_
      refine lv_topi (fun v_3 ev_3 => ?_)
      have z9 : v_3 = nI (2 ^ bb) := by rw [ev_3]; exact shl1 _ (by omega)
      subst z9
      refine lv_iconst (v := 1) hx hb d_M_bits_33 (by decide) ?_
      refine lv_isub hx hb d_M_bits_34 ?_
      refine lv_topi (fun v_4 ev_4 => ?_)
      have z9 : v_4 = nI (2 ^ bb - 1) := by rw [ev_4]; exact nI_pred9 hp0
      subst z9
      refine my_ci (wr := [(o, Sum.inr (9, mO g 3 fShift fModels (nI ki) 0 fLow fRange fCache fPend fGoes fOuts fIns fReads fBad fIR fAsk fBAsk fCode fRL fRR fX fWrites 0))]) (va_runS (As := [Value.int (nI vv), Value.int 0, Value.int (nI (2 ^ bb - 1))]) (rest := []) ⟨hx, hb, hml, hown, hts⟩ (c_M_in l dC dI cI cM cO H.size (nI vv) 0 (nI (2 ^ bb - 1))) (cwS 3 hts (my_gS k1062 k1063 k12 k1064) rfl rfl rfl (by decide +kernel) ⟨by rw [hR]; exact Nat.le_of_ble_eq_true rfl, by rw [hR]; exact Nat.le_of_ble_eq_true rfl⟩) (my_pre hK hN (hP.sub [] rfl) (hD.sub [] (by decide +kernel) rfl)) rfl rfl hl.1 rfl (lv_room (Nat.le_of_ble_eq_true rfl)) d_M_bits_35 ⟨by rw [hR]; exact Nat.le_of_ble_eq_true rfl, by rw [hR]; exact Nat.le_of_ble_eq_true rfl⟩) hP hD hS hA [] [0] rfl rfl (by decide +kernel) (by decide +kernel) (fun r_35 u9 H locs hw_35 hP hD hS => ?_)
      have hw_35 : r_35 = if 0 ≤ (nI vv) ∧ (nI vv) ≤ (nI (2 ^ bb - 1)) then 1 else 0 := hw_35
      have hPD : my_PD (dC, dI) vwCl A [(o, Sum.inr (9, mO g 3 fShift fModels (nI ki) 0 fLow fRange fCache fPend fGoes fOuts fIns fReads fBad fIR fAsk fBAsk fCode fRL fRR fX fWrites 0))] H := ⟨hP, hD⟩
      have hP := hPD.1
      have hD := hPD.2
      refine lv_if_ne (tgt := 44) hx hb d_M_bits_38 (by decide) (fun c_5 => ?_) (fun c_5 => ?_)
      · refine lv_aload_n hx hb d_M_bits_44 rfl (lv_at hl 0 rfl) ?_
        refine va_get (D := (dC, dI)) (ci := 9) (v := .int 0) (C := "RangeCodersModel") (T := T_M) (N := 35) hx hb hg in_M hown hK hP 0 rfl rfl 10 (by decide) (hg _ k962) (fun _ h9 => h9) rfl d_M_bits_45 ?_
        refine lv_if_eq (tgt := 54) hx hb d_M_bits_48 (by decide) (fun c_6 => ?_) (fun c_6 => ?_)
        · refine lv_aload_n hx hb d_M_bits_54 rfl (lv_at hl 0 rfl) ?_
          refine va_get (D := (dC, dI)) (ci := 9) (v := .int (nI ki)) (C := "RangeCodersModel") (T := T_M) (N := 35) hx hb hg in_M hown hK hP 0 rfl rfl 7 (by decide) (hg _ k959) (fun _ h9 => h9) rfl d_M_bits_55 ?_
          refine lv_sipush (v := 600) hx hb d_M_bits_58 (by decide) ?_
          refine lv_icmp_ne (tgt := 67) hx hb d_M_bits_61 (by decide) (fun c_7 => ?_) (fun c_7 => ?_)
          · exact absurd (by rw [hk6]; rfl) c_7
          · refine lv_bipush (v := (-4)) hx hb d_M_bits_64 (by decide) ?_
            exact my_iret (v := (-4)) hx hb hr (rfl) hlocks hQ hK hS (Nat.le_refl _) (Nat.le_refl _) () (rfl) (hP.sub [0] rfl) (hD.sub [0] (by decide +kernel) rfl) d_M_bits_66
        · exact absurd (by decide) c_6
      · exact absurd ⟨nI_pos' (by omega), nI_le (by omega) (by omega)⟩ (one_eq hw_35 c_5)
  · exact absurd c_1 (by decide)
set_option maxHeartbeats 2000000 in
set_option maxRecDepth 100000 in
theorem m_bits4W (l : Launch) (dC : Nat → ClassId) (dI : Nat → Nat → Nat) (cI cM cO : ClassId) (sz : Nat) (o : Nat) (g : Nat → Nat) (fShift : Int32) (fModels : Int32) (fItems : Int32) (fEnded : Int32) (fLow : Int64) (fRange : Int64) (fCache : Int32) (fPend : Int32) (fGoes : Int32) (fOuts : Int32) (fIns : Int32) (fReads : Int32) (fBad : Int32) (fIR : Int32) (fAsk : Int32) (fBAsk : Int32) (fCode : Int64) (fRL : Int64) (fRR : Int64) (fX : Int64) (fWrites : Int32) (fThrown : Int32) (p1 : Int32) (p2 : Int32) (hno : ¬ okB 9 p1 p2) : MetI l y_M_bits (Cond.code y_M_bits prog_14_method_30_code 3 (some .int) :: gw) ({ frames := 1, cells := 0, slots := 0, locals := 22 } : Room) (dC, dI) vwCl (kT cI cM cO) [Value.ref o, Value.int p1, Value.int p2] [(o, Sum.inr (9, mO g 4 fShift fModels fItems fEnded fLow fRange fCache fPend fGoes fOuts fIns fReads fBad fIR fAsk fBAsk fCode fRL fRR fX fWrites fThrown))] sz (fun (r : Int32) (u : Unit) => r = -2) (fun (u : Unit) => [(o, Sum.inr (9, mO g 4 fShift fModels fItems fEnded fLow fRange fCache fPend fGoes fOuts fIns fReads fBad fIR fAsk fBAsk fCode fRL fRR fX fWrites 0))]) 0 0 := by
  refine my_ofI (cc := prog_14_method_30_code) (n := 3) (ret := (some .int)) (by decide) rfl (Nat.le_of_ble_eq_true rfl) ?_
  intro p e s m args below meth c R Q A ls H locs hx hb hr hts hown hlocks hml hnm hR hQ hA hl hP hK hN hD hS
  have hg : ∀ w ∈ gw, w.before args s = true := fun w h => hts w (List.mem_cons_of_mem _ h)
  have hown : s.vm.findClass "RangeCodersModel" = some m.cls := hown
  have hl : lv_has ls 3 [(0, Value.ref o), (1, Value.int p1), (2, Value.int p2)] := hl
  refine lv_aload_n hx hb d_M_bits_0 rfl (lv_at hl 0 rfl) ?_
  refine lv_iconst (v := 0) hx hb d_M_bits_1 (by decide) ?_
  refine va_put (D := (dC, dI)) (ci := 9) (v := .int 0) (ty := .int) (C := "RangeCodersModel") (T := T_M) (N := 35) hx hb hg in_M t_M o_M n_M hown hK hP hD hS 0 rfl rfl 34 (by decide) (hg _ k986) (fun _ h9 => h9) rfl (o_M 34 (by decide)) rfl rfl (Nat.le_of_ble_eq_true rfl) d_M_bits_2 (fun H locs hP hD hS => ?_)
  have hPD : my_PD (dC, dI) vwCl A [(o, Sum.inr (9, mO g 4 fShift fModels fItems fEnded fLow fRange fCache fPend fGoes fOuts fIns fReads fBad fIR fAsk fBAsk fCode fRL fRR fX fWrites 0))] H := ⟨hP, hD⟩
  have hP := hPD.1
  have hD := hPD.2
  refine lv_iload_n hx hb d_M_bits_5 rfl (lv_at hl 2 rfl) ?_
  refine lv_iconst (v := 1) hx hb d_M_bits_6 (by decide) ?_
  refine lv_aload_n hx hb d_M_bits_7 rfl (lv_at hl 0 rfl) ?_
  refine va_get (D := (dC, dI)) (ci := 9) (v := .int 4) (C := "RangeCodersModel") (T := T_M) (N := 35) hx hb hg in_M hown hK hP 0 rfl rfl 0 (by decide) (hg _ k952) (fun _ h9 => h9) rfl d_M_bits_8 ?_
  refine lv_iconst (v := 4) hx hb d_M_bits_11 (by decide) ?_
  refine lv_icmp_ne (tgt := 20) hx hb d_M_bits_12 (by decide) (fun c_1 => ?_) (fun c_1 => ?_)
  · exact absurd rfl c_1
  · refine lv_bipush (v := 9) hx hb d_M_bits_15 (by decide) ?_
    refine lv_goto (tgt := 22) hx hb d_M_bits_17 (by decide) ?_
    refine my_ci (wr := [(o, Sum.inr (9, mO g 4 fShift fModels fItems fEnded fLow fRange fCache fPend fGoes fOuts fIns fReads fBad fIR fAsk fBAsk fCode fRL fRR fX fWrites 0))]) (va_runS (As := [Value.int p2, Value.int 1, Value.int 9]) (rest := []) ⟨hx, hb, hml, hown, hts⟩ (c_M_in l dC dI cI cM cO H.size p2 1 9) (cwS 3 hts (my_gS k1062 k1063 k12 k1064) rfl rfl rfl (by decide +kernel) ⟨by rw [hR]; exact Nat.le_of_ble_eq_true rfl, by rw [hR]; exact Nat.le_of_ble_eq_true rfl⟩) (my_pre hK hN (hP.sub [] rfl) (hD.sub [] (by decide +kernel) rfl)) rfl rfl hl.1 rfl (lv_room (Nat.le_of_ble_eq_true rfl)) d_M_bits_22 ⟨by rw [hR]; exact Nat.le_of_ble_eq_true rfl, by rw [hR]; exact Nat.le_of_ble_eq_true rfl⟩) hP hD hS hA [] [0] rfl rfl (by decide +kernel) (by decide +kernel) (fun r_22 u9 H locs hw_22 hP hD hS => ?_)
    have hw_22 : r_22 = if 1 ≤ p2 ∧ p2 ≤ 9 then 1 else 0 := hw_22
    have hPD : my_PD (dC, dI) vwCl A [(o, Sum.inr (9, mO g 4 fShift fModels fItems fEnded fLow fRange fCache fPend fGoes fOuts fIns fReads fBad fIR fAsk fBAsk fCode fRL fRR fX fWrites 0))] H := ⟨hP, hD⟩
    have hP := hPD.1
    have hD := hPD.2
    refine lv_if_eq (tgt := 41) hx hb d_M_bits_25 (by decide) (fun c_2 => ?_) (fun c_2 => ?_)
    · refine lv_bipush (v := (-2)) hx hb d_M_bits_41 (by decide) ?_
      exact my_iret (v := (-2)) hx hb hr (rfl) hlocks hQ hK hS (Nat.le_refl _) (Nat.le_refl _) () (rfl) (hP.sub [0] rfl) (hD.sub [0] (by decide +kernel) rfl) d_M_bits_43
    · refine lv_iload_n hx hb d_M_bits_28 rfl (lv_at hl 1 rfl) ?_
      refine lv_iconst (v := 0) hx hb d_M_bits_29 (by decide) ?_
      refine lv_iconst (v := 1) hx hb d_M_bits_30 (by decide) ?_
      refine lv_iload_n hx hb d_M_bits_31 rfl (lv_at hl 2 rfl) ?_
      refine lv_ishl hx hb d_M_bits_32 ?_
      refine lv_topi (fun v_3 ev_3 => ?_)
      refine lv_iconst (v := 1) hx hb d_M_bits_33 (by decide) ?_
      refine lv_isub hx hb d_M_bits_34 ?_
      refine lv_topi (fun v_4 ev_4 => ?_)
      refine my_ci (wr := [(o, Sum.inr (9, mO g 4 fShift fModels fItems fEnded fLow fRange fCache fPend fGoes fOuts fIns fReads fBad fIR fAsk fBAsk fCode fRL fRR fX fWrites 0))]) (va_runS (As := [Value.int p1, Value.int 0, Value.int v_4]) (rest := []) ⟨hx, hb, hml, hown, hts⟩ (c_M_in l dC dI cI cM cO H.size p1 0 v_4) (cwS 3 hts (my_gS k1062 k1063 k12 k1064) rfl rfl rfl (by decide +kernel) ⟨by rw [hR]; exact Nat.le_of_ble_eq_true rfl, by rw [hR]; exact Nat.le_of_ble_eq_true rfl⟩) (my_pre hK hN (hP.sub [] rfl) (hD.sub [] (by decide +kernel) rfl)) rfl rfl hl.1 rfl (lv_room (Nat.le_of_ble_eq_true rfl)) d_M_bits_35 ⟨by rw [hR]; exact Nat.le_of_ble_eq_true rfl, by rw [hR]; exact Nat.le_of_ble_eq_true rfl⟩) hP hD hS hA [] [0] rfl rfl (by decide +kernel) (by decide +kernel) (fun r_35 u9 H locs hw_35 hP hD hS => ?_)
      have hw_35 : r_35 = if 0 ≤ p1 ∧ p1 ≤ v_4 then 1 else 0 := hw_35
      have hPD : my_PD (dC, dI) vwCl A [(o, Sum.inr (9, mO g 4 fShift fModels fItems fEnded fLow fRange fCache fPend fGoes fOuts fIns fReads fBad fIR fAsk fBAsk fCode fRL fRR fX fWrites 0))] H := ⟨hP, hD⟩
      have hP := hPD.1
      have hD := hPD.2
      refine lv_if_ne (tgt := 44) hx hb d_M_bits_38 (by decide) (fun c_5 => ?_) (fun c_5 => ?_)
      · exact absurd (one_ne hw_35 c_5) (okB_no (by decide) hno (one_ne hw_22 c_2) (by subst_vars; rfl))
      · refine lv_bipush (v := (-2)) hx hb d_M_bits_41 (by decide) ?_
        exact my_iret (v := (-2)) hx hb hr (rfl) hlocks hQ hK hS (Nat.le_refl _) (Nat.le_refl _) () (rfl) (hP.sub [0] rfl) (hD.sub [0] (by decide +kernel) rfl) d_M_bits_43
set_option maxHeartbeats 2000000 in
set_option maxRecDepth 100000 in
theorem m_bits4E (l : Launch) (dC : Nat → ClassId) (dI : Nat → Nat → Nat) (cI cM cO : ClassId) (sz : Nat) (o : Nat) (g : Nat → Nat) (fShift : Int32) (fModels : Int32) (fItems : Int32) (fEnded : Int32) (fLow : Int64) (fRange : Int64) (fCache : Int32) (fPend : Int32) (fGoes : Int32) (fOuts : Int32) (fIns : Int32) (fReads : Int32) (fBad : Int32) (fIR : Int32) (fAsk : Int32) (fBAsk : Int32) (fCode : Int64) (fRL : Int64) (fRR : Int64) (fX : Int64) (fWrites : Int32) (fThrown : Int32) (vv : Nat) (bb : Nat) (hb1 : 1 ≤ bb) (hb2 : bb ≤ 9) (hv : vv < 2 ^ bb) (hen : ¬ fEnded = 0) : MetI l y_M_bits (Cond.code y_M_bits prog_14_method_30_code 3 (some .int) :: gw) ({ frames := 1, cells := 0, slots := 0, locals := 22 } : Room) (dC, dI) vwCl (kT cI cM cO) [Value.ref o, Value.int (nI vv), Value.int (nI bb)] [(o, Sum.inr (9, mO g 4 fShift fModels fItems fEnded fLow fRange fCache fPend fGoes fOuts fIns fReads fBad fIR fAsk fBAsk fCode fRL fRR fX fWrites fThrown))] sz (fun (r : Int32) (u : Unit) => r = -3) (fun (u : Unit) => [(o, Sum.inr (9, mO g 4 fShift fModels fItems fEnded fLow fRange fCache fPend fGoes fOuts fIns fReads fBad fIR fAsk fBAsk fCode fRL fRR fX fWrites 0))]) 0 0 := by
  refine my_ofI (cc := prog_14_method_30_code) (n := 3) (ret := (some .int)) (by decide) rfl (Nat.le_of_ble_eq_true rfl) ?_
  intro p e s m args below meth c R Q A ls H locs hx hb hr hts hown hlocks hml hnm hR hQ hA hl hP hK hN hD hS
  have hg : ∀ w ∈ gw, w.before args s = true := fun w h => hts w (List.mem_cons_of_mem _ h)
  have hown : s.vm.findClass "RangeCodersModel" = some m.cls := hown
  have hl : lv_has ls 3 [(0, Value.ref o), (1, Value.int (nI vv)), (2, Value.int (nI bb))] := hl
  have hp12 : 2 ^ bb ≤ 4096 := pw12 (by omega)
  have hp0 := Nat.two_pow_pos bb
  refine lv_aload_n hx hb d_M_bits_0 rfl (lv_at hl 0 rfl) ?_
  refine lv_iconst (v := 0) hx hb d_M_bits_1 (by decide) ?_
  refine va_put (D := (dC, dI)) (ci := 9) (v := .int 0) (ty := .int) (C := "RangeCodersModel") (T := T_M) (N := 35) hx hb hg in_M t_M o_M n_M hown hK hP hD hS 0 rfl rfl 34 (by decide) (hg _ k986) (fun _ h9 => h9) rfl (o_M 34 (by decide)) rfl rfl (Nat.le_of_ble_eq_true rfl) d_M_bits_2 (fun H locs hP hD hS => ?_)
  have hPD : my_PD (dC, dI) vwCl A [(o, Sum.inr (9, mO g 4 fShift fModels fItems fEnded fLow fRange fCache fPend fGoes fOuts fIns fReads fBad fIR fAsk fBAsk fCode fRL fRR fX fWrites 0))] H := ⟨hP, hD⟩
  have hP := hPD.1
  have hD := hPD.2
  refine lv_iload_n hx hb d_M_bits_5 rfl (lv_at hl 2 rfl) ?_
  refine lv_iconst (v := 1) hx hb d_M_bits_6 (by decide) ?_
  refine lv_aload_n hx hb d_M_bits_7 rfl (lv_at hl 0 rfl) ?_
  refine va_get (D := (dC, dI)) (ci := 9) (v := .int 4) (C := "RangeCodersModel") (T := T_M) (N := 35) hx hb hg in_M hown hK hP 0 rfl rfl 0 (by decide) (hg _ k952) (fun _ h9 => h9) rfl d_M_bits_8 ?_
  refine lv_iconst (v := 4) hx hb d_M_bits_11 (by decide) ?_
  refine lv_icmp_ne (tgt := 20) hx hb d_M_bits_12 (by decide) (fun c_1 => ?_) (fun c_1 => ?_)
  · exact absurd rfl c_1
  · refine lv_bipush (v := 9) hx hb d_M_bits_15 (by decide) ?_
    refine lv_goto (tgt := 22) hx hb d_M_bits_17 (by decide) ?_
    refine my_ci (wr := [(o, Sum.inr (9, mO g 4 fShift fModels fItems fEnded fLow fRange fCache fPend fGoes fOuts fIns fReads fBad fIR fAsk fBAsk fCode fRL fRR fX fWrites 0))]) (va_runS (As := [Value.int (nI bb), Value.int 1, Value.int 9]) (rest := []) ⟨hx, hb, hml, hown, hts⟩ (c_M_in l dC dI cI cM cO H.size (nI bb) 1 9) (cwS 3 hts (my_gS k1062 k1063 k12 k1064) rfl rfl rfl (by decide +kernel) ⟨by rw [hR]; exact Nat.le_of_ble_eq_true rfl, by rw [hR]; exact Nat.le_of_ble_eq_true rfl⟩) (my_pre hK hN (hP.sub [] rfl) (hD.sub [] (by decide +kernel) rfl)) rfl rfl hl.1 rfl (lv_room (Nat.le_of_ble_eq_true rfl)) d_M_bits_22 ⟨by rw [hR]; exact Nat.le_of_ble_eq_true rfl, by rw [hR]; exact Nat.le_of_ble_eq_true rfl⟩) hP hD hS hA [] [0] rfl rfl (by decide +kernel) (by decide +kernel) (fun r_22 u9 H locs hw_22 hP hD hS => ?_)
    have hw_22 : r_22 = if 1 ≤ (nI bb) ∧ (nI bb) ≤ 9 then 1 else 0 := hw_22
    have hPD : my_PD (dC, dI) vwCl A [(o, Sum.inr (9, mO g 4 fShift fModels fItems fEnded fLow fRange fCache fPend fGoes fOuts fIns fReads fBad fIR fAsk fBAsk fCode fRL fRR fX fWrites 0))] H := ⟨hP, hD⟩
    have hP := hPD.1
    have hD := hPD.2
    refine lv_if_eq (tgt := 41) hx hb d_M_bits_25 (by decide) (fun c_2 => ?_) (fun c_2 => ?_)
    · exact absurd (show 1 ≤ nI bb ∧ nI bb ≤ nI 9 from ⟨nI_le (a := 1) hb1 (by omega), nI_le hb2 (by decide)⟩) (one_eq hw_22 c_2)
    · refine lv_iload_n hx hb d_M_bits_28 rfl (lv_at hl 1 rfl) ?_
      refine lv_iconst (v := 0) hx hb d_M_bits_29 (by decide) ?_
      refine lv_iconst (v := 1) hx hb d_M_bits_30 (by decide) ?_
      refine lv_iload_n hx hb d_M_bits_31 rfl (lv_at hl 2 rfl) ?_
      refine lv_ishl hx hb d_M_bits_32 ?_
      refine lv_topi (fun v_3 ev_3 => ?_)
      have z9 : v_3 = nI (2 ^ bb) := by rw [ev_3]; exact shl1 _ (by omega)
      subst z9
      refine lv_iconst (v := 1) hx hb d_M_bits_33 (by decide) ?_
      refine lv_isub hx hb d_M_bits_34 ?_
      refine lv_topi (fun v_4 ev_4 => ?_)
      have z9 : v_4 = nI (2 ^ bb - 1) := by rw [ev_4]; exact nI_pred9 hp0
      subst z9
      refine my_ci (wr := [(o, Sum.inr (9, mO g 4 fShift fModels fItems fEnded fLow fRange fCache fPend fGoes fOuts fIns fReads fBad fIR fAsk fBAsk fCode fRL fRR fX fWrites 0))]) (va_runS (As := [Value.int (nI vv), Value.int 0, Value.int (nI (2 ^ bb - 1))]) (rest := []) ⟨hx, hb, hml, hown, hts⟩ (c_M_in l dC dI cI cM cO H.size (nI vv) 0 (nI (2 ^ bb - 1))) (cwS 3 hts (my_gS k1062 k1063 k12 k1064) rfl rfl rfl (by decide +kernel) ⟨by rw [hR]; exact Nat.le_of_ble_eq_true rfl, by rw [hR]; exact Nat.le_of_ble_eq_true rfl⟩) (my_pre hK hN (hP.sub [] rfl) (hD.sub [] (by decide +kernel) rfl)) rfl rfl hl.1 rfl (lv_room (Nat.le_of_ble_eq_true rfl)) d_M_bits_35 ⟨by rw [hR]; exact Nat.le_of_ble_eq_true rfl, by rw [hR]; exact Nat.le_of_ble_eq_true rfl⟩) hP hD hS hA [] [0] rfl rfl (by decide +kernel) (by decide +kernel) (fun r_35 u9 H locs hw_35 hP hD hS => ?_)
      have hw_35 : r_35 = if 0 ≤ (nI vv) ∧ (nI vv) ≤ (nI (2 ^ bb - 1)) then 1 else 0 := hw_35
      have hPD : my_PD (dC, dI) vwCl A [(o, Sum.inr (9, mO g 4 fShift fModels fItems fEnded fLow fRange fCache fPend fGoes fOuts fIns fReads fBad fIR fAsk fBAsk fCode fRL fRR fX fWrites 0))] H := ⟨hP, hD⟩
      have hP := hPD.1
      have hD := hPD.2
      refine lv_if_ne (tgt := 44) hx hb d_M_bits_38 (by decide) (fun c_5 => ?_) (fun c_5 => ?_)
      · refine lv_aload_n hx hb d_M_bits_44 rfl (lv_at hl 0 rfl) ?_
        refine va_get (D := (dC, dI)) (ci := 9) (v := .int fEnded) (C := "RangeCodersModel") (T := T_M) (N := 35) hx hb hg in_M hown hK hP 0 rfl rfl 10 (by decide) (hg _ k962) (fun _ h9 => h9) rfl d_M_bits_45 ?_
        refine lv_if_eq (tgt := 54) hx hb d_M_bits_48 (by decide) (fun c_6 => ?_) (fun c_6 => ?_)
        · exact absurd c_6 hen
        · refine lv_bipush (v := (-3)) hx hb d_M_bits_51 (by decide) ?_
          exact my_iret (v := (-3)) hx hb hr (rfl) hlocks hQ hK hS (Nat.le_refl _) (Nat.le_refl _) () (rfl) (hP.sub [0] rfl) (hD.sub [0] (by decide +kernel) rfl) d_M_bits_53
      · exact absurd ⟨nI_pos' (by omega), nI_le (by omega) (by omega)⟩ (one_eq hw_35 c_5)
set_option maxHeartbeats 2000000 in
set_option maxRecDepth 100000 in
theorem m_bits4R (l : Launch) (dC : Nat → ClassId) (dI : Nat → Nat → Nat) (cI cM cO : ClassId) (sz : Nat) (o : Nat) (g : Nat → Nat) (fShift : Int32) (fModels : Int32) (fLow : Int64) (fRange : Int64) (fCache : Int32) (fPend : Int32) (fGoes : Int32) (fOuts : Int32) (fIns : Int32) (fReads : Int32) (fBad : Int32) (fIR : Int32) (fAsk : Int32) (fBAsk : Int32) (fCode : Int64) (fRL : Int64) (fRR : Int64) (fX : Int64) (fWrites : Int32) (fThrown : Int32) (vv : Nat) (bb : Nat) (ki : Nat) (hb1 : 1 ≤ bb) (hb2 : bb ≤ 9) (hv : vv < 2 ^ bb) (hk6 : ki = 600) : MetI l y_M_bits (Cond.code y_M_bits prog_14_method_30_code 3 (some .int) :: gw) ({ frames := 1, cells := 0, slots := 0, locals := 22 } : Room) (dC, dI) vwCl (kT cI cM cO) [Value.ref o, Value.int (nI vv), Value.int (nI bb)] [(o, Sum.inr (9, mO g 4 fShift fModels (nI ki) 0 fLow fRange fCache fPend fGoes fOuts fIns fReads fBad fIR fAsk fBAsk fCode fRL fRR fX fWrites fThrown))] sz (fun (r : Int32) (u : Unit) => r = -4) (fun (u : Unit) => [(o, Sum.inr (9, mO g 4 fShift fModels (nI ki) 0 fLow fRange fCache fPend fGoes fOuts fIns fReads fBad fIR fAsk fBAsk fCode fRL fRR fX fWrites 0))]) 0 0 := by
  refine my_ofI (cc := prog_14_method_30_code) (n := 3) (ret := (some .int)) (by decide) rfl (Nat.le_of_ble_eq_true rfl) ?_
  intro p e s m args below meth c R Q A ls H locs hx hb hr hts hown hlocks hml hnm hR hQ hA hl hP hK hN hD hS
  have hg : ∀ w ∈ gw, w.before args s = true := fun w h => hts w (List.mem_cons_of_mem _ h)
  have hown : s.vm.findClass "RangeCodersModel" = some m.cls := hown
  have hl : lv_has ls 3 [(0, Value.ref o), (1, Value.int (nI vv)), (2, Value.int (nI bb))] := hl
  have hp12 : 2 ^ bb ≤ 4096 := pw12 (by omega)
  have hp0 := Nat.two_pow_pos bb
  refine lv_aload_n hx hb d_M_bits_0 rfl (lv_at hl 0 rfl) ?_
  refine lv_iconst (v := 0) hx hb d_M_bits_1 (by decide) ?_
  refine va_put (D := (dC, dI)) (ci := 9) (v := .int 0) (ty := .int) (C := "RangeCodersModel") (T := T_M) (N := 35) hx hb hg in_M t_M o_M n_M hown hK hP hD hS 0 rfl rfl 34 (by decide) (hg _ k986) (fun _ h9 => h9) rfl (o_M 34 (by decide)) rfl rfl (Nat.le_of_ble_eq_true rfl) d_M_bits_2 (fun H locs hP hD hS => ?_)
  have hPD : my_PD (dC, dI) vwCl A [(o, Sum.inr (9, mO g 4 fShift fModels (nI ki) 0 fLow fRange fCache fPend fGoes fOuts fIns fReads fBad fIR fAsk fBAsk fCode fRL fRR fX fWrites 0))] H := ⟨hP, hD⟩
  have hP := hPD.1
  have hD := hPD.2
  refine lv_iload_n hx hb d_M_bits_5 rfl (lv_at hl 2 rfl) ?_
  refine lv_iconst (v := 1) hx hb d_M_bits_6 (by decide) ?_
  refine lv_aload_n hx hb d_M_bits_7 rfl (lv_at hl 0 rfl) ?_
  refine va_get (D := (dC, dI)) (ci := 9) (v := .int 4) (C := "RangeCodersModel") (T := T_M) (N := 35) hx hb hg in_M hown hK hP 0 rfl rfl 0 (by decide) (hg _ k952) (fun _ h9 => h9) rfl d_M_bits_8 ?_
  refine lv_iconst (v := 4) hx hb d_M_bits_11 (by decide) ?_
  refine lv_icmp_ne (tgt := 20) hx hb d_M_bits_12 (by decide) (fun c_1 => ?_) (fun c_1 => ?_)
  · exact absurd rfl c_1
  · refine lv_bipush (v := 9) hx hb d_M_bits_15 (by decide) ?_
    refine lv_goto (tgt := 22) hx hb d_M_bits_17 (by decide) ?_
    refine my_ci (wr := [(o, Sum.inr (9, mO g 4 fShift fModels (nI ki) 0 fLow fRange fCache fPend fGoes fOuts fIns fReads fBad fIR fAsk fBAsk fCode fRL fRR fX fWrites 0))]) (va_runS (As := [Value.int (nI bb), Value.int 1, Value.int 9]) (rest := []) ⟨hx, hb, hml, hown, hts⟩ (c_M_in l dC dI cI cM cO H.size (nI bb) 1 9) (cwS 3 hts (my_gS k1062 k1063 k12 k1064) rfl rfl rfl (by decide +kernel) ⟨by rw [hR]; exact Nat.le_of_ble_eq_true rfl, by rw [hR]; exact Nat.le_of_ble_eq_true rfl⟩) (my_pre hK hN (hP.sub [] rfl) (hD.sub [] (by decide +kernel) rfl)) rfl rfl hl.1 rfl (lv_room (Nat.le_of_ble_eq_true rfl)) d_M_bits_22 ⟨by rw [hR]; exact Nat.le_of_ble_eq_true rfl, by rw [hR]; exact Nat.le_of_ble_eq_true rfl⟩) hP hD hS hA [] [0] rfl rfl (by decide +kernel) (by decide +kernel) (fun r_22 u9 H locs hw_22 hP hD hS => ?_)
    have hw_22 : r_22 = if 1 ≤ (nI bb) ∧ (nI bb) ≤ 9 then 1 else 0 := hw_22
    have hPD : my_PD (dC, dI) vwCl A [(o, Sum.inr (9, mO g 4 fShift fModels (nI ki) 0 fLow fRange fCache fPend fGoes fOuts fIns fReads fBad fIR fAsk fBAsk fCode fRL fRR fX fWrites 0))] H := ⟨hP, hD⟩
    have hP := hPD.1
    have hD := hPD.2
    refine lv_if_eq (tgt := 41) hx hb d_M_bits_25 (by decide) (fun c_2 => ?_) (fun c_2 => ?_)
    · exact absurd (show 1 ≤ nI bb ∧ nI bb ≤ nI 9 from ⟨nI_le (a := 1) hb1 (by omega), nI_le hb2 (by decide)⟩) (one_eq hw_22 c_2)
    · refine lv_iload_n hx hb d_M_bits_28 rfl (lv_at hl 1 rfl) ?_
      refine lv_iconst (v := 0) hx hb d_M_bits_29 (by decide) ?_
      refine lv_iconst (v := 1) hx hb d_M_bits_30 (by decide) ?_
      refine lv_iload_n hx hb d_M_bits_31 rfl (lv_at hl 2 rfl) ?_
      refine lv_ishl hx hb d_M_bits_32 ?_
      refine lv_topi (fun v_3 ev_3 => ?_)
      have z9 : v_3 = nI (2 ^ bb) := by rw [ev_3]; exact shl1 _ (by omega)
      subst z9
      refine lv_iconst (v := 1) hx hb d_M_bits_33 (by decide) ?_
      refine lv_isub hx hb d_M_bits_34 ?_
      refine lv_topi (fun v_4 ev_4 => ?_)
      have z9 : v_4 = nI (2 ^ bb - 1) := by rw [ev_4]; exact nI_pred9 hp0
      subst z9
      refine my_ci (wr := [(o, Sum.inr (9, mO g 4 fShift fModels (nI ki) 0 fLow fRange fCache fPend fGoes fOuts fIns fReads fBad fIR fAsk fBAsk fCode fRL fRR fX fWrites 0))]) (va_runS (As := [Value.int (nI vv), Value.int 0, Value.int (nI (2 ^ bb - 1))]) (rest := []) ⟨hx, hb, hml, hown, hts⟩ (c_M_in l dC dI cI cM cO H.size (nI vv) 0 (nI (2 ^ bb - 1))) (cwS 3 hts (my_gS k1062 k1063 k12 k1064) rfl rfl rfl (by decide +kernel) ⟨by rw [hR]; exact Nat.le_of_ble_eq_true rfl, by rw [hR]; exact Nat.le_of_ble_eq_true rfl⟩) (my_pre hK hN (hP.sub [] rfl) (hD.sub [] (by decide +kernel) rfl)) rfl rfl hl.1 rfl (lv_room (Nat.le_of_ble_eq_true rfl)) d_M_bits_35 ⟨by rw [hR]; exact Nat.le_of_ble_eq_true rfl, by rw [hR]; exact Nat.le_of_ble_eq_true rfl⟩) hP hD hS hA [] [0] rfl rfl (by decide +kernel) (by decide +kernel) (fun r_35 u9 H locs hw_35 hP hD hS => ?_)
      have hw_35 : r_35 = if 0 ≤ (nI vv) ∧ (nI vv) ≤ (nI (2 ^ bb - 1)) then 1 else 0 := hw_35
      have hPD : my_PD (dC, dI) vwCl A [(o, Sum.inr (9, mO g 4 fShift fModels (nI ki) 0 fLow fRange fCache fPend fGoes fOuts fIns fReads fBad fIR fAsk fBAsk fCode fRL fRR fX fWrites 0))] H := ⟨hP, hD⟩
      have hP := hPD.1
      have hD := hPD.2
      refine lv_if_ne (tgt := 44) hx hb d_M_bits_38 (by decide) (fun c_5 => ?_) (fun c_5 => ?_)
      · refine lv_aload_n hx hb d_M_bits_44 rfl (lv_at hl 0 rfl) ?_
        refine va_get (D := (dC, dI)) (ci := 9) (v := .int 0) (C := "RangeCodersModel") (T := T_M) (N := 35) hx hb hg in_M hown hK hP 0 rfl rfl 10 (by decide) (hg _ k962) (fun _ h9 => h9) rfl d_M_bits_45 ?_
        refine lv_if_eq (tgt := 54) hx hb d_M_bits_48 (by decide) (fun c_6 => ?_) (fun c_6 => ?_)
        · refine lv_aload_n hx hb d_M_bits_54 rfl (lv_at hl 0 rfl) ?_
          refine va_get (D := (dC, dI)) (ci := 9) (v := .int (nI ki)) (C := "RangeCodersModel") (T := T_M) (N := 35) hx hb hg in_M hown hK hP 0 rfl rfl 7 (by decide) (hg _ k959) (fun _ h9 => h9) rfl d_M_bits_55 ?_
          refine lv_sipush (v := 600) hx hb d_M_bits_58 (by decide) ?_
          refine lv_icmp_ne (tgt := 67) hx hb d_M_bits_61 (by decide) (fun c_7 => ?_) (fun c_7 => ?_)
          · exact absurd (by rw [hk6]; rfl) c_7
          · refine lv_bipush (v := (-4)) hx hb d_M_bits_64 (by decide) ?_
            exact my_iret (v := (-4)) hx hb hr (rfl) hlocks hQ hK hS (Nat.le_refl _) (Nat.le_refl _) () (rfl) (hP.sub [0] rfl) (hD.sub [0] (by decide +kernel) rfl) d_M_bits_66
        · exact absurd (by decide) c_6
      · exact absurd ⟨nI_pos' (by omega), nI_le (by omega) (by omega)⟩ (one_eq hw_35 c_5)
end
section
set_option maxHeartbeats 2000000 in
set_option maxRecDepth 100000 in
theorem m_bits0L (l : Launch) (dC : Nat → ClassId) (dI : Nat → Nat → Nat) (cI cM cO : ClassId) (sz : Nat) (o : Nat) (g : Nat → Nat) (fShift : Int32) (fModels : Int32) (fOuts : Int32) (fIns : Int32) (fReads : Int32) (fBad : Int32) (fIR : Int32) (fAsk : Int32) (fBAsk : Int32) (fCode : Int64) (fRL : Int64) (fRR : Int64) (fX : Int64) (fWrites : Int32) (fThrown : Int32) (vIM : Nat → Int32) (vIW : Nat → Int32) (vGoing : Nat → Int32) (vv : Nat) (bb : Nat) (Rg : Nat) (L : Nat) (ca : Option Nat) (Pn : Nat) (bs : List Nat) (ki : Nat) (hb1 : 1 ≤ bb) (hb2 : bb ≤ 12) (hv : vv < 2 ^ bb) (hki : ki < 600) (hE : eInv (Rg, L, ca, Pn, bs)) (hG : gIs vGoing bs) (hN9 : bs.length + Pn + 20 ≤ 9000) : MetI l y_M_bits (Cond.code y_M_bits prog_14_method_30_code 3 (some .int) :: gw) ({ frames := 5, cells := 0, slots := 0, locals := 110 } : Room) (dC, dI) vwCl (kT cI cM cO) [Value.ref o, Value.int (nI vv), Value.int (nI bb)] [(o, Sum.inr (9, mO g 0 fShift fModels (nI ki) 0 (lN L) (lN Rg) (caI ca) (nI Pn) (nI bs.length) fOuts fIns fReads fBad fIR fAsk fBAsk fCode fRL fRR fX fWrites fThrown)), ((g 4), Sum.inl (cI, 600, Sum.inl vIM)), ((g 5), Sum.inl (cI, 600, Sum.inl vIW)), ((g 6), Sum.inl (cI, 9000, Sum.inl vGoing))] sz (fun (r : Int32) (u : (Nat → Int32) × (Nat → Int32) × (Nat → Int32)) => r = nI (ki + 1) ∧ u.1 = upd vIM ki (-nI bb) ∧ u.2.1 = upd vIW ki (nI vv) ∧ gIs u.2.2 (eB (wdS (Rg / 2 ^ bb * 1, L + Rg / 2 ^ bb * vv, ca, Pn, bs)))) (fun (u : (Nat → Int32) × (Nat → Int32) × (Nat → Int32)) => [(o, Sum.inr (9, mO g 0 fShift fModels (nI (ki + 1)) 0 (lN (eL (wdS (Rg / 2 ^ bb * 1, L + Rg / 2 ^ bb * vv, ca, Pn, bs)))) (lN (eR (wdS (Rg / 2 ^ bb * 1, L + Rg / 2 ^ bb * vv, ca, Pn, bs)))) (caI (eC (wdS (Rg / 2 ^ bb * 1, L + Rg / 2 ^ bb * vv, ca, Pn, bs)))) (nI (eP (wdS (Rg / 2 ^ bb * 1, L + Rg / 2 ^ bb * vv, ca, Pn, bs)))) (nI (eB (wdS (Rg / 2 ^ bb * 1, L + Rg / 2 ^ bb * vv, ca, Pn, bs))).length) fOuts fIns fReads fBad fIR fAsk fBAsk fCode fRL fRR fX fWrites 0)), ((g 4), Sum.inl (cI, 600, Sum.inl u.1)), ((g 5), Sum.inl (cI, 600, Sum.inl u.2.1)), ((g 6), Sum.inl (cI, 9000, Sum.inl u.2.2))]) 0 0 := by
  refine my_ofI (cc := prog_14_method_30_code) (n := 3) (ret := (some .int)) (by decide) rfl (Nat.le_of_ble_eq_true rfl) ?_
  intro p e s m args below meth c R Q A ls H locs hx hb hr hts hown hlocks hml hnm hR hQ hA hl hP hK hN hD hS
  have hg : ∀ w ∈ gw, w.before args s = true := fun w h => hts w (List.mem_cons_of_mem _ h)
  have hown : s.vm.findClass "RangeCodersModel" = some m.cls := hown
  have hl : lv_has ls 3 [(0, Value.ref o), (1, Value.int (nI vv)), (2, Value.int (nI bb))] := hl
  have hp12 : 2 ^ bb ≤ 4096 := pw12 (by omega)
  have hp0 := Nat.two_pow_pos bb
  refine lv_aload_n hx hb d_M_bits_0 rfl (lv_at hl 0 rfl) ?_
  refine lv_iconst (v := 0) hx hb d_M_bits_1 (by decide) ?_
  refine va_put (D := (dC, dI)) (ci := 9) (v := .int 0) (ty := .int) (C := "RangeCodersModel") (T := T_M) (N := 35) hx hb hg in_M t_M o_M n_M hown hK hP hD hS 0 rfl rfl 34 (by decide) (hg _ k986) (fun _ h9 => h9) rfl (o_M 34 (by decide)) rfl rfl (Nat.le_of_ble_eq_true rfl) d_M_bits_2 (fun H locs hP hD hS => ?_)
  have hPD : my_PD (dC, dI) vwCl A [(o, Sum.inr (9, mO g 0 fShift fModels (nI ki) 0 (lN L) (lN Rg) (caI ca) (nI Pn) (nI bs.length) fOuts fIns fReads fBad fIR fAsk fBAsk fCode fRL fRR fX fWrites 0)), ((g 4), Sum.inl (cI, 600, Sum.inl vIM)), ((g 5), Sum.inl (cI, 600, Sum.inl vIW)), ((g 6), Sum.inl (cI, 9000, Sum.inl vGoing))] H := ⟨hP, hD⟩
  have hP := hPD.1
  have hD := hPD.2
  refine lv_iload_n hx hb d_M_bits_5 rfl (lv_at hl 2 rfl) ?_
  refine lv_iconst (v := 1) hx hb d_M_bits_6 (by decide) ?_
  refine lv_aload_n hx hb d_M_bits_7 rfl (lv_at hl 0 rfl) ?_
  refine va_get (D := (dC, dI)) (ci := 9) (v := .int 0) (C := "RangeCodersModel") (T := T_M) (N := 35) hx hb hg in_M hown hK hP 0 rfl rfl 0 (by decide) (hg _ k952) (fun _ h9 => h9) rfl d_M_bits_8 ?_
  refine lv_iconst (v := 4) hx hb d_M_bits_11 (by decide) ?_
  refine lv_icmp_ne (tgt := 20) hx hb d_M_bits_12 (by decide) (fun c_1 => ?_) (fun c_1 => ?_)
  · refine lv_bipush (v := 12) hx hb d_M_bits_20 (by decide) ?_
    refine my_ci (wr := [(o, Sum.inr (9, mO g 0 fShift fModels (nI ki) 0 (lN L) (lN Rg) (caI ca) (nI Pn) (nI bs.length) fOuts fIns fReads fBad fIR fAsk fBAsk fCode fRL fRR fX fWrites 0)), ((g 4), Sum.inl (cI, 600, Sum.inl vIM)), ((g 5), Sum.inl (cI, 600, Sum.inl vIW)), ((g 6), Sum.inl (cI, 9000, Sum.inl vGoing))]) (va_runS (As := [Value.int (nI bb), Value.int 1, Value.int 12]) (rest := []) ⟨hx, hb, hml, hown, hts⟩ (c_M_in l dC dI cI cM cO H.size (nI bb) 1 12) (cwS 3 hts (my_gS k1062 k1063 k12 k1064) rfl rfl rfl (by decide +kernel) ⟨by rw [hR]; exact Nat.le_of_ble_eq_true rfl, by rw [hR]; exact Nat.le_of_ble_eq_true rfl⟩) (my_pre hK hN (hP.sub [] rfl) (hD.sub [] (by decide +kernel) rfl)) rfl rfl hl.1 rfl (lv_room (Nat.le_of_ble_eq_true rfl)) d_M_bits_22 ⟨by rw [hR]; exact Nat.le_of_ble_eq_true rfl, by rw [hR]; exact Nat.le_of_ble_eq_true rfl⟩) hP hD hS hA [] [0, 1, 2, 3] rfl rfl (by decide +kernel) (by decide +kernel) (fun r_22 u9 H locs hw_22 hP hD hS => ?_)
    have hw_22 : r_22 = if 1 ≤ (nI bb) ∧ (nI bb) ≤ 12 then 1 else 0 := hw_22
    have hPD : my_PD (dC, dI) vwCl A [(o, Sum.inr (9, mO g 0 fShift fModels (nI ki) 0 (lN L) (lN Rg) (caI ca) (nI Pn) (nI bs.length) fOuts fIns fReads fBad fIR fAsk fBAsk fCode fRL fRR fX fWrites 0)), ((g 4), Sum.inl (cI, 600, Sum.inl vIM)), ((g 5), Sum.inl (cI, 600, Sum.inl vIW)), ((g 6), Sum.inl (cI, 9000, Sum.inl vGoing))] H := ⟨hP, hD⟩
    have hP := hPD.1
    have hD := hPD.2
    refine lv_if_eq (tgt := 41) hx hb d_M_bits_25 (by decide) (fun c_2 => ?_) (fun c_2 => ?_)
    · exact absurd (show 1 ≤ nI bb ∧ nI bb ≤ nI 12 from ⟨nI_le (a := 1) hb1 (by omega), nI_le hb2 (by decide)⟩) (one_eq hw_22 c_2)
    · refine lv_iload_n hx hb d_M_bits_28 rfl (lv_at hl 1 rfl) ?_
      refine lv_iconst (v := 0) hx hb d_M_bits_29 (by decide) ?_
      refine lv_iconst (v := 1) hx hb d_M_bits_30 (by decide) ?_
      refine lv_iload_n hx hb d_M_bits_31 rfl (lv_at hl 2 rfl) ?_
      refine lv_ishl hx hb d_M_bits_32 ?_
      refine lv_topi (fun v_3 ev_3 => ?_)
      have z9 : v_3 = nI (2 ^ bb) := by rw [ev_3]; exact shl1 _ (by omega)
      subst z9
      refine lv_iconst (v := 1) hx hb d_M_bits_33 (by decide) ?_
      refine lv_isub hx hb d_M_bits_34 ?_
      refine lv_topi (fun v_4 ev_4 => ?_)
      have z9 : v_4 = nI (2 ^ bb - 1) := by rw [ev_4]; exact nI_pred9 hp0
      subst z9
      refine my_ci (wr := [(o, Sum.inr (9, mO g 0 fShift fModels (nI ki) 0 (lN L) (lN Rg) (caI ca) (nI Pn) (nI bs.length) fOuts fIns fReads fBad fIR fAsk fBAsk fCode fRL fRR fX fWrites 0)), ((g 4), Sum.inl (cI, 600, Sum.inl vIM)), ((g 5), Sum.inl (cI, 600, Sum.inl vIW)), ((g 6), Sum.inl (cI, 9000, Sum.inl vGoing))]) (va_runS (As := [Value.int (nI vv), Value.int 0, Value.int (nI (2 ^ bb - 1))]) (rest := []) ⟨hx, hb, hml, hown, hts⟩ (c_M_in l dC dI cI cM cO H.size (nI vv) 0 (nI (2 ^ bb - 1))) (cwS 3 hts (my_gS k1062 k1063 k12 k1064) rfl rfl rfl (by decide +kernel) ⟨by rw [hR]; exact Nat.le_of_ble_eq_true rfl, by rw [hR]; exact Nat.le_of_ble_eq_true rfl⟩) (my_pre hK hN (hP.sub [] rfl) (hD.sub [] (by decide +kernel) rfl)) rfl rfl hl.1 rfl (lv_room (Nat.le_of_ble_eq_true rfl)) d_M_bits_35 ⟨by rw [hR]; exact Nat.le_of_ble_eq_true rfl, by rw [hR]; exact Nat.le_of_ble_eq_true rfl⟩) hP hD hS hA [] [0, 1, 2, 3] rfl rfl (by decide +kernel) (by decide +kernel) (fun r_35 u9 H locs hw_35 hP hD hS => ?_)
      have hw_35 : r_35 = if 0 ≤ (nI vv) ∧ (nI vv) ≤ (nI (2 ^ bb - 1)) then 1 else 0 := hw_35
      have hPD : my_PD (dC, dI) vwCl A [(o, Sum.inr (9, mO g 0 fShift fModels (nI ki) 0 (lN L) (lN Rg) (caI ca) (nI Pn) (nI bs.length) fOuts fIns fReads fBad fIR fAsk fBAsk fCode fRL fRR fX fWrites 0)), ((g 4), Sum.inl (cI, 600, Sum.inl vIM)), ((g 5), Sum.inl (cI, 600, Sum.inl vIW)), ((g 6), Sum.inl (cI, 9000, Sum.inl vGoing))] H := ⟨hP, hD⟩
      have hP := hPD.1
      have hD := hPD.2
      refine lv_if_ne (tgt := 44) hx hb d_M_bits_38 (by decide) (fun c_5 => ?_) (fun c_5 => ?_)
      · refine lv_aload_n hx hb d_M_bits_44 rfl (lv_at hl 0 rfl) ?_
        refine va_get (D := (dC, dI)) (ci := 9) (v := .int 0) (C := "RangeCodersModel") (T := T_M) (N := 35) hx hb hg in_M hown hK hP 0 rfl rfl 10 (by decide) (hg _ k962) (fun _ h9 => h9) rfl d_M_bits_45 ?_
        refine lv_if_eq (tgt := 54) hx hb d_M_bits_48 (by decide) (fun c_6 => ?_) (fun c_6 => ?_)
        · refine lv_aload_n hx hb d_M_bits_54 rfl (lv_at hl 0 rfl) ?_
          refine va_get (D := (dC, dI)) (ci := 9) (v := .int (nI ki)) (C := "RangeCodersModel") (T := T_M) (N := 35) hx hb hg in_M hown hK hP 0 rfl rfl 7 (by decide) (hg _ k959) (fun _ h9 => h9) rfl d_M_bits_55 ?_
          refine lv_sipush (v := 600) hx hb d_M_bits_58 (by decide) ?_
          refine lv_icmp_ne (tgt := 67) hx hb d_M_bits_61 (by decide) (fun c_7 => ?_) (fun c_7 => ?_)
          · refine lv_aload_n hx hb d_M_bits_67 rfl (lv_at hl 0 rfl) ?_
            refine lv_iload_n hx hb d_M_bits_68 rfl (lv_at hl 1 rfl) ?_
            refine lv_iload_n hx hb d_M_bits_69 rfl (lv_at hl 2 rfl) ?_
            refine my_cv (wr := [((g 4), Sum.inl (cI, 600, Sum.inl vIM)), ((g 5), Sum.inl (cI, 600, Sum.inl vIW))]) (va_runV (As := [Value.int (nI vv), Value.int (nI bb)]) (rest := []) ⟨hx, hb, hml, hown, hts⟩ (c_M_putValue0 l dC dI cI cM cO H.size o g fShift fModels (nI ki) 0 fOuts fIns fReads fBad fIR fAsk fBAsk fCode fRL fRR fX fWrites 0 vGoing vv bb Rg L ca Pn bs (hb1) (hb2) (hv) (by first | assumption | omega) (by first | assumption | omega) (by first | assumption | omega)) (cwV 2 hts (my_gV k1143 k1145 ks39 k12 k1146) rfl rfl rfl cu_M_putValue_2 ⟨by rw [hR]; exact Nat.le_of_ble_eq_true rfl, by rw [hR]; exact Nat.le_of_ble_eq_true rfl⟩) (my_preV hK hN (hP.sub [0, 3] rfl) (hD.sub [0, 3] (by decide +kernel) rfl) 0 rfl rfl) rfl rfl hl.1 rfl (lv_room (Nat.le_of_ble_eq_true rfl)) d_M_bits_70 ⟨by rw [hR]; exact Nat.le_of_ble_eq_true rfl, by rw [hR]; exact Nat.le_of_ble_eq_true rfl⟩) hP hD hS hA [0, 3] [1, 2] rfl rfl (by decide +kernel) (by decide +kernel) (fun u9 H locs hw_70 hP hD hS => ?_)
            obtain ⟨v2_70, rfl⟩ : ∃ z, z = u9 := ⟨_, rfl⟩
            have hw_70 : gIs v2_70 (eB (wdS (Rg / 2 ^ bb * 1, L + Rg / 2 ^ bb * vv, ca, Pn, bs))) := hw_70
            have hPD : my_PD (dC, dI) vwCl A [((g 4), Sum.inl (cI, 600, Sum.inl vIM)), ((g 5), Sum.inl (cI, 600, Sum.inl vIW)), (o, Sum.inr (9, mO g 0 fShift fModels (nI ki) 0 (lN (eL (wdS (Rg / 2 ^ bb * 1, L + Rg / 2 ^ bb * vv, ca, Pn, bs)))) (lN (eR (wdS (Rg / 2 ^ bb * 1, L + Rg / 2 ^ bb * vv, ca, Pn, bs)))) (caI (eC (wdS (Rg / 2 ^ bb * 1, L + Rg / 2 ^ bb * vv, ca, Pn, bs)))) (nI (eP (wdS (Rg / 2 ^ bb * 1, L + Rg / 2 ^ bb * vv, ca, Pn, bs)))) (nI (eB (wdS (Rg / 2 ^ bb * 1, L + Rg / 2 ^ bb * vv, ca, Pn, bs))).length) fOuts fIns fReads fBad fIR fAsk fBAsk fCode fRL fRR fX fWrites 0)), ((g 6), Sum.inl (cI, 9000, Sum.inl v2_70))] H := ⟨hP, hD⟩
            have hP := hPD.1
            have hD := hPD.2
            refine lv_aload_n hx hb d_M_bits_73 rfl (lv_at hl 0 rfl) ?_
            refine lv_iload_n hx hb d_M_bits_74 rfl (lv_at hl 2 rfl) ?_
            refine lv_ineg hx hb d_M_bits_75 ?_
            refine lv_topi (fun v_8 ev_8 => ?_)
            refine lv_iload_n hx hb d_M_bits_76 rfl (lv_at hl 1 rfl) ?_
            refine my_ci (wr := [((g 6), Sum.inl (cI, 9000, Sum.inl v2_70))]) (va_runV (As := [Value.int v_8, Value.int (nI vv)]) (rest := []) ⟨hx, hb, hml, hown, hts⟩ (c_M_addItem l dC dI cI cM cO H.size o g 0 fShift fModels 0 (lN (eL (wdS (Rg / 2 ^ bb * 1, L + Rg / 2 ^ bb * vv, ca, Pn, bs)))) (lN (eR (wdS (Rg / 2 ^ bb * 1, L + Rg / 2 ^ bb * vv, ca, Pn, bs)))) (caI (eC (wdS (Rg / 2 ^ bb * 1, L + Rg / 2 ^ bb * vv, ca, Pn, bs)))) (nI (eP (wdS (Rg / 2 ^ bb * 1, L + Rg / 2 ^ bb * vv, ca, Pn, bs)))) (nI (eB (wdS (Rg / 2 ^ bb * 1, L + Rg / 2 ^ bb * vv, ca, Pn, bs))).length) fOuts fIns fReads fBad fIR fAsk fBAsk fCode fRL fRR fX fWrites 0 vIM vIW ki v_8 (nI vv) (hki)) (cwV 2 hts (my_gV k1135 k1137 ks38 k12 k1138) rfl rfl rfl cu_M_addItem_2 ⟨by rw [hR]; exact Nat.le_of_ble_eq_true rfl, by rw [hR]; exact Nat.le_of_ble_eq_true rfl⟩) (my_preV hK hN (hP.sub [2, 0, 1] rfl) (hD.sub [2, 0, 1] (by decide +kernel) rfl) 0 rfl rfl) rfl rfl hl.1 rfl (lv_room (Nat.le_of_ble_eq_true rfl)) d_M_bits_77 ⟨by rw [hR]; exact Nat.le_of_ble_eq_true rfl, by rw [hR]; exact Nat.le_of_ble_eq_true rfl⟩) hP hD hS hA [2, 0, 1] [3] rfl rfl (by decide +kernel) (by decide +kernel) (fun r_77 u9 H locs hw_77 hP hD hS => ?_)
            obtain ⟨f2_77, v2_77⟩ := u9
            have hw_77 : r_77 = nI (ki + 1) ∧ f2_77 = upd vIM ki v_8 ∧ v2_77 = upd vIW ki (nI vv) := hw_77
            have hPD : my_PD (dC, dI) vwCl A [((g 6), Sum.inl (cI, 9000, Sum.inl v2_70)), (o, Sum.inr (9, mO g 0 fShift fModels (nI (ki + 1)) 0 (lN (eL (wdS (Rg / 2 ^ bb * 1, L + Rg / 2 ^ bb * vv, ca, Pn, bs)))) (lN (eR (wdS (Rg / 2 ^ bb * 1, L + Rg / 2 ^ bb * vv, ca, Pn, bs)))) (caI (eC (wdS (Rg / 2 ^ bb * 1, L + Rg / 2 ^ bb * vv, ca, Pn, bs)))) (nI (eP (wdS (Rg / 2 ^ bb * 1, L + Rg / 2 ^ bb * vv, ca, Pn, bs)))) (nI (eB (wdS (Rg / 2 ^ bb * 1, L + Rg / 2 ^ bb * vv, ca, Pn, bs))).length) fOuts fIns fReads fBad fIR fAsk fBAsk fCode fRL fRR fX fWrites 0)), ((g 4), Sum.inl (cI, 600, Sum.inl f2_77)), ((g 5), Sum.inl (cI, 600, Sum.inl v2_77))] H := ⟨hP, hD⟩
            have hP := hPD.1
            have hD := hPD.2
            exact my_iret (v := r_77) hx hb hr (rfl) hlocks hQ hK hS (Nat.le_refl _) (Nat.le_refl _) (f2_77, v2_77, v2_70) (⟨hw_77.1, by rw [hw_77.2.1, ev_8], hw_77.2.2, hw_70⟩) (hP.sub [1, 2, 3, 0] rfl) (hD.sub [1, 2, 3, 0] (by decide +kernel) rfl) d_M_bits_80
          · exact absurd (nI_inj (a := ki) (b := 600) (by omega) (by decide) c_7) (by omega)
        · exact absurd (by decide) c_6
      · exact absurd ⟨nI_pos' (by omega), nI_le (by omega) (by omega)⟩ (one_eq hw_35 c_5)
  · exact absurd c_1 (by decide)
set_option maxHeartbeats 2000000 in
set_option maxRecDepth 100000 in
theorem m_bits1L (l : Launch) (dC : Nat → ClassId) (dI : Nat → Nat → Nat) (cI cM cO : ClassId) (sz : Nat) (o : Nat) (g : Nat → Nat) (fShift : Int32) (fModels : Int32) (fCache : Int32) (fPend : Int32) (fOuts : Int32) (fIns : Int32) (fReads : Int32) (fBad : Int32) (fIR : Int32) (fAsk : Int32) (fBAsk : Int32) (fCode : Int64) (fRL : Int64) (fRR : Int64) (fX : Int64) (fWrites : Int32) (fThrown : Int32) (vIM : Nat → Int32) (vIW : Nat → Int32) (vGoing : Nat → Int32) (vv : Nat) (bb : Nat) (Rg : Nat) (L : Nat) (bs : List Nat) (ki : Nat) (hb1 : 1 ≤ bb) (hb2 : bb ≤ 12) (hv : vv < 2 ^ bb) (hki : ki < 600) (hp : pOk Rg L) (hR6 : 65536 ≤ Rg) (hG : gIs vGoing bs) (hN9 : bs.length + 5 ≤ 9000) : MetI l y_M_bits (Cond.code y_M_bits prog_14_method_30_code 3 (some .int) :: gw) ({ frames := 4, cells := 0, slots := 0, locals := 91 } : Room) (dC, dI) vwCl (kT cI cM cO) [Value.ref o, Value.int (nI vv), Value.int (nI bb)] [(o, Sum.inr (9, mO g 1 fShift fModels (nI ki) 0 (lN L) (lN Rg) fCache fPend (nI bs.length) fOuts fIns fReads fBad fIR fAsk fBAsk fCode fRL fRR fX fWrites fThrown)), ((g 4), Sum.inl (cI, 600, Sum.inl vIM)), ((g 5), Sum.inl (cI, 600, Sum.inl vIW)), ((g 6), Sum.inl (cI, 9000, Sum.inl vGoing))] sz (fun (r : Int32) (u : (Nat → Int32) × (Nat → Int32) × (Nat → Int32)) => r = nI (ki + 1) ∧ u.1 = upd vIM ki (-nI bb) ∧ u.2.1 = upd vIW ki (nI vv) ∧ gIs u.2.2 ((plS (Rg / 2 ^ bb * 1, L + Rg / 2 ^ bb * vv, bs)).2.2)) (fun (u : (Nat → Int32) × (Nat → Int32) × (Nat → Int32)) => [(o, Sum.inr (9, mO g 1 fShift fModels (nI (ki + 1)) 0 (lN (plS (Rg / 2 ^ bb * 1, L + Rg / 2 ^ bb * vv, bs)).2.1) (lN (plS (Rg / 2 ^ bb * 1, L + Rg / 2 ^ bb * vv, bs)).1) fCache fPend (nI (plS (Rg / 2 ^ bb * 1, L + Rg / 2 ^ bb * vv, bs)).2.2.length) fOuts fIns fReads fBad fIR fAsk fBAsk fCode fRL fRR fX fWrites 0)), ((g 4), Sum.inl (cI, 600, Sum.inl u.1)), ((g 5), Sum.inl (cI, 600, Sum.inl u.2.1)), ((g 6), Sum.inl (cI, 9000, Sum.inl u.2.2))]) 0 0 := by
  refine my_ofI (cc := prog_14_method_30_code) (n := 3) (ret := (some .int)) (by decide) rfl (Nat.le_of_ble_eq_true rfl) ?_
  intro p e s m args below meth c R Q A ls H locs hx hb hr hts hown hlocks hml hnm hR hQ hA hl hP hK hN hD hS
  have hg : ∀ w ∈ gw, w.before args s = true := fun w h => hts w (List.mem_cons_of_mem _ h)
  have hown : s.vm.findClass "RangeCodersModel" = some m.cls := hown
  have hl : lv_has ls 3 [(0, Value.ref o), (1, Value.int (nI vv)), (2, Value.int (nI bb))] := hl
  have hp12 : 2 ^ bb ≤ 4096 := pw12 (by omega)
  have hp0 := Nat.two_pow_pos bb
  refine lv_aload_n hx hb d_M_bits_0 rfl (lv_at hl 0 rfl) ?_
  refine lv_iconst (v := 0) hx hb d_M_bits_1 (by decide) ?_
  refine va_put (D := (dC, dI)) (ci := 9) (v := .int 0) (ty := .int) (C := "RangeCodersModel") (T := T_M) (N := 35) hx hb hg in_M t_M o_M n_M hown hK hP hD hS 0 rfl rfl 34 (by decide) (hg _ k986) (fun _ h9 => h9) rfl (o_M 34 (by decide)) rfl rfl (Nat.le_of_ble_eq_true rfl) d_M_bits_2 (fun H locs hP hD hS => ?_)
  have hPD : my_PD (dC, dI) vwCl A [(o, Sum.inr (9, mO g 1 fShift fModels (nI ki) 0 (lN L) (lN Rg) fCache fPend (nI bs.length) fOuts fIns fReads fBad fIR fAsk fBAsk fCode fRL fRR fX fWrites 0)), ((g 4), Sum.inl (cI, 600, Sum.inl vIM)), ((g 5), Sum.inl (cI, 600, Sum.inl vIW)), ((g 6), Sum.inl (cI, 9000, Sum.inl vGoing))] H := ⟨hP, hD⟩
  have hP := hPD.1
  have hD := hPD.2
  refine lv_iload_n hx hb d_M_bits_5 rfl (lv_at hl 2 rfl) ?_
  refine lv_iconst (v := 1) hx hb d_M_bits_6 (by decide) ?_
  refine lv_aload_n hx hb d_M_bits_7 rfl (lv_at hl 0 rfl) ?_
  refine va_get (D := (dC, dI)) (ci := 9) (v := .int 1) (C := "RangeCodersModel") (T := T_M) (N := 35) hx hb hg in_M hown hK hP 0 rfl rfl 0 (by decide) (hg _ k952) (fun _ h9 => h9) rfl d_M_bits_8 ?_
  refine lv_iconst (v := 4) hx hb d_M_bits_11 (by decide) ?_
  refine lv_icmp_ne (tgt := 20) hx hb d_M_bits_12 (by decide) (fun c_1 => ?_) (fun c_1 => ?_)
  · refine lv_bipush (v := 12) hx hb d_M_bits_20 (by decide) ?_
    refine my_ci (wr := [(o, Sum.inr (9, mO g 1 fShift fModels (nI ki) 0 (lN L) (lN Rg) fCache fPend (nI bs.length) fOuts fIns fReads fBad fIR fAsk fBAsk fCode fRL fRR fX fWrites 0)), ((g 4), Sum.inl (cI, 600, Sum.inl vIM)), ((g 5), Sum.inl (cI, 600, Sum.inl vIW)), ((g 6), Sum.inl (cI, 9000, Sum.inl vGoing))]) (va_runS (As := [Value.int (nI bb), Value.int 1, Value.int 12]) (rest := []) ⟨hx, hb, hml, hown, hts⟩ (c_M_in l dC dI cI cM cO H.size (nI bb) 1 12) (cwS 3 hts (my_gS k1062 k1063 k12 k1064) rfl rfl rfl (by decide +kernel) ⟨by rw [hR]; exact Nat.le_of_ble_eq_true rfl, by rw [hR]; exact Nat.le_of_ble_eq_true rfl⟩) (my_pre hK hN (hP.sub [] rfl) (hD.sub [] (by decide +kernel) rfl)) rfl rfl hl.1 rfl (lv_room (Nat.le_of_ble_eq_true rfl)) d_M_bits_22 ⟨by rw [hR]; exact Nat.le_of_ble_eq_true rfl, by rw [hR]; exact Nat.le_of_ble_eq_true rfl⟩) hP hD hS hA [] [0, 1, 2, 3] rfl rfl (by decide +kernel) (by decide +kernel) (fun r_22 u9 H locs hw_22 hP hD hS => ?_)
    have hw_22 : r_22 = if 1 ≤ (nI bb) ∧ (nI bb) ≤ 12 then 1 else 0 := hw_22
    have hPD : my_PD (dC, dI) vwCl A [(o, Sum.inr (9, mO g 1 fShift fModels (nI ki) 0 (lN L) (lN Rg) fCache fPend (nI bs.length) fOuts fIns fReads fBad fIR fAsk fBAsk fCode fRL fRR fX fWrites 0)), ((g 4), Sum.inl (cI, 600, Sum.inl vIM)), ((g 5), Sum.inl (cI, 600, Sum.inl vIW)), ((g 6), Sum.inl (cI, 9000, Sum.inl vGoing))] H := ⟨hP, hD⟩
    have hP := hPD.1
    have hD := hPD.2
    refine lv_if_eq (tgt := 41) hx hb d_M_bits_25 (by decide) (fun c_2 => ?_) (fun c_2 => ?_)
    · exact absurd (show 1 ≤ nI bb ∧ nI bb ≤ nI 12 from ⟨nI_le (a := 1) hb1 (by omega), nI_le hb2 (by decide)⟩) (one_eq hw_22 c_2)
    · refine lv_iload_n hx hb d_M_bits_28 rfl (lv_at hl 1 rfl) ?_
      refine lv_iconst (v := 0) hx hb d_M_bits_29 (by decide) ?_
      refine lv_iconst (v := 1) hx hb d_M_bits_30 (by decide) ?_
      refine lv_iload_n hx hb d_M_bits_31 rfl (lv_at hl 2 rfl) ?_
      refine lv_ishl hx hb d_M_bits_32 ?_
      refine lv_topi (fun v_3 ev_3 => ?_)
      have z9 : v_3 = nI (2 ^ bb) := by rw [ev_3]; exact shl1 _ (by omega)
      subst z9
      refine lv_iconst (v := 1) hx hb d_M_bits_33 (by decide) ?_
      refine lv_isub hx hb d_M_bits_34 ?_
      refine lv_topi (fun v_4 ev_4 => ?_)
      have z9 : v_4 = nI (2 ^ bb - 1) := by rw [ev_4]; exact nI_pred9 hp0
      subst z9
      refine my_ci (wr := [(o, Sum.inr (9, mO g 1 fShift fModels (nI ki) 0 (lN L) (lN Rg) fCache fPend (nI bs.length) fOuts fIns fReads fBad fIR fAsk fBAsk fCode fRL fRR fX fWrites 0)), ((g 4), Sum.inl (cI, 600, Sum.inl vIM)), ((g 5), Sum.inl (cI, 600, Sum.inl vIW)), ((g 6), Sum.inl (cI, 9000, Sum.inl vGoing))]) (va_runS (As := [Value.int (nI vv), Value.int 0, Value.int (nI (2 ^ bb - 1))]) (rest := []) ⟨hx, hb, hml, hown, hts⟩ (c_M_in l dC dI cI cM cO H.size (nI vv) 0 (nI (2 ^ bb - 1))) (cwS 3 hts (my_gS k1062 k1063 k12 k1064) rfl rfl rfl (by decide +kernel) ⟨by rw [hR]; exact Nat.le_of_ble_eq_true rfl, by rw [hR]; exact Nat.le_of_ble_eq_true rfl⟩) (my_pre hK hN (hP.sub [] rfl) (hD.sub [] (by decide +kernel) rfl)) rfl rfl hl.1 rfl (lv_room (Nat.le_of_ble_eq_true rfl)) d_M_bits_35 ⟨by rw [hR]; exact Nat.le_of_ble_eq_true rfl, by rw [hR]; exact Nat.le_of_ble_eq_true rfl⟩) hP hD hS hA [] [0, 1, 2, 3] rfl rfl (by decide +kernel) (by decide +kernel) (fun r_35 u9 H locs hw_35 hP hD hS => ?_)
      have hw_35 : r_35 = if 0 ≤ (nI vv) ∧ (nI vv) ≤ (nI (2 ^ bb - 1)) then 1 else 0 := hw_35
      have hPD : my_PD (dC, dI) vwCl A [(o, Sum.inr (9, mO g 1 fShift fModels (nI ki) 0 (lN L) (lN Rg) fCache fPend (nI bs.length) fOuts fIns fReads fBad fIR fAsk fBAsk fCode fRL fRR fX fWrites 0)), ((g 4), Sum.inl (cI, 600, Sum.inl vIM)), ((g 5), Sum.inl (cI, 600, Sum.inl vIW)), ((g 6), Sum.inl (cI, 9000, Sum.inl vGoing))] H := ⟨hP, hD⟩
      have hP := hPD.1
      have hD := hPD.2
      refine lv_if_ne (tgt := 44) hx hb d_M_bits_38 (by decide) (fun c_5 => ?_) (fun c_5 => ?_)
      · refine lv_aload_n hx hb d_M_bits_44 rfl (lv_at hl 0 rfl) ?_
        refine va_get (D := (dC, dI)) (ci := 9) (v := .int 0) (C := "RangeCodersModel") (T := T_M) (N := 35) hx hb hg in_M hown hK hP 0 rfl rfl 10 (by decide) (hg _ k962) (fun _ h9 => h9) rfl d_M_bits_45 ?_
        refine lv_if_eq (tgt := 54) hx hb d_M_bits_48 (by decide) (fun c_6 => ?_) (fun c_6 => ?_)
        · refine lv_aload_n hx hb d_M_bits_54 rfl (lv_at hl 0 rfl) ?_
          refine va_get (D := (dC, dI)) (ci := 9) (v := .int (nI ki)) (C := "RangeCodersModel") (T := T_M) (N := 35) hx hb hg in_M hown hK hP 0 rfl rfl 7 (by decide) (hg _ k959) (fun _ h9 => h9) rfl d_M_bits_55 ?_
          refine lv_sipush (v := 600) hx hb d_M_bits_58 (by decide) ?_
          refine lv_icmp_ne (tgt := 67) hx hb d_M_bits_61 (by decide) (fun c_7 => ?_) (fun c_7 => ?_)
          · refine lv_aload_n hx hb d_M_bits_67 rfl (lv_at hl 0 rfl) ?_
            refine lv_iload_n hx hb d_M_bits_68 rfl (lv_at hl 1 rfl) ?_
            refine lv_iload_n hx hb d_M_bits_69 rfl (lv_at hl 2 rfl) ?_
            refine my_cv (wr := [((g 4), Sum.inl (cI, 600, Sum.inl vIM)), ((g 5), Sum.inl (cI, 600, Sum.inl vIW))]) (va_runV (As := [Value.int (nI vv), Value.int (nI bb)]) (rest := []) ⟨hx, hb, hml, hown, hts⟩ (c_M_putValue1 l dC dI cI cM cO H.size o g fShift fModels (nI ki) 0 fCache fPend fOuts fIns fReads fBad fIR fAsk fBAsk fCode fRL fRR fX fWrites 0 vGoing vv bb Rg L bs (hb1) (hb2) (hv) (by first | assumption | omega) (by first | assumption | omega) (by first | assumption | omega) (by first | assumption | omega)) (cwV 2 hts (my_gV k1143 k1145 ks39 k12 k1146) rfl rfl rfl cu_M_putValue_2 ⟨by rw [hR]; exact Nat.le_of_ble_eq_true rfl, by rw [hR]; exact Nat.le_of_ble_eq_true rfl⟩) (my_preV hK hN (hP.sub [0, 3] rfl) (hD.sub [0, 3] (by decide +kernel) rfl) 0 rfl rfl) rfl rfl hl.1 rfl (lv_room (Nat.le_of_ble_eq_true rfl)) d_M_bits_70 ⟨by rw [hR]; exact Nat.le_of_ble_eq_true rfl, by rw [hR]; exact Nat.le_of_ble_eq_true rfl⟩) hP hD hS hA [0, 3] [1, 2] rfl rfl (by decide +kernel) (by decide +kernel) (fun u9 H locs hw_70 hP hD hS => ?_)
            obtain ⟨v2_70, rfl⟩ : ∃ z, z = u9 := ⟨_, rfl⟩
            have hw_70 : gIs v2_70 (plS (Rg / 2 ^ bb * 1, L + Rg / 2 ^ bb * vv, bs)).2.2 := hw_70
            have hPD : my_PD (dC, dI) vwCl A [((g 4), Sum.inl (cI, 600, Sum.inl vIM)), ((g 5), Sum.inl (cI, 600, Sum.inl vIW)), (o, Sum.inr (9, mO g 1 fShift fModels (nI ki) 0 (lN (plS (Rg / 2 ^ bb * 1, L + Rg / 2 ^ bb * vv, bs)).2.1) (lN (plS (Rg / 2 ^ bb * 1, L + Rg / 2 ^ bb * vv, bs)).1) fCache fPend (nI (plS (Rg / 2 ^ bb * 1, L + Rg / 2 ^ bb * vv, bs)).2.2.length) fOuts fIns fReads fBad fIR fAsk fBAsk fCode fRL fRR fX fWrites 0)), ((g 6), Sum.inl (cI, 9000, Sum.inl v2_70))] H := ⟨hP, hD⟩
            have hP := hPD.1
            have hD := hPD.2
            refine lv_aload_n hx hb d_M_bits_73 rfl (lv_at hl 0 rfl) ?_
            refine lv_iload_n hx hb d_M_bits_74 rfl (lv_at hl 2 rfl) ?_
            refine lv_ineg hx hb d_M_bits_75 ?_
            refine lv_topi (fun v_8 ev_8 => ?_)
            refine lv_iload_n hx hb d_M_bits_76 rfl (lv_at hl 1 rfl) ?_
            refine my_ci (wr := [((g 6), Sum.inl (cI, 9000, Sum.inl v2_70))]) (va_runV (As := [Value.int v_8, Value.int (nI vv)]) (rest := []) ⟨hx, hb, hml, hown, hts⟩ (c_M_addItem l dC dI cI cM cO H.size o g 1 fShift fModels 0 (lN (plS (Rg / 2 ^ bb * 1, L + Rg / 2 ^ bb * vv, bs)).2.1) (lN (plS (Rg / 2 ^ bb * 1, L + Rg / 2 ^ bb * vv, bs)).1) fCache fPend (nI (plS (Rg / 2 ^ bb * 1, L + Rg / 2 ^ bb * vv, bs)).2.2.length) fOuts fIns fReads fBad fIR fAsk fBAsk fCode fRL fRR fX fWrites 0 vIM vIW ki v_8 (nI vv) (hki)) (cwV 2 hts (my_gV k1135 k1137 ks38 k12 k1138) rfl rfl rfl cu_M_addItem_2 ⟨by rw [hR]; exact Nat.le_of_ble_eq_true rfl, by rw [hR]; exact Nat.le_of_ble_eq_true rfl⟩) (my_preV hK hN (hP.sub [2, 0, 1] rfl) (hD.sub [2, 0, 1] (by decide +kernel) rfl) 0 rfl rfl) rfl rfl hl.1 rfl (lv_room (Nat.le_of_ble_eq_true rfl)) d_M_bits_77 ⟨by rw [hR]; exact Nat.le_of_ble_eq_true rfl, by rw [hR]; exact Nat.le_of_ble_eq_true rfl⟩) hP hD hS hA [2, 0, 1] [3] rfl rfl (by decide +kernel) (by decide +kernel) (fun r_77 u9 H locs hw_77 hP hD hS => ?_)
            obtain ⟨f2_77, v2_77⟩ := u9
            have hw_77 : r_77 = nI (ki + 1) ∧ f2_77 = upd vIM ki v_8 ∧ v2_77 = upd vIW ki (nI vv) := hw_77
            have hPD : my_PD (dC, dI) vwCl A [((g 6), Sum.inl (cI, 9000, Sum.inl v2_70)), (o, Sum.inr (9, mO g 1 fShift fModels (nI (ki + 1)) 0 (lN (plS (Rg / 2 ^ bb * 1, L + Rg / 2 ^ bb * vv, bs)).2.1) (lN (plS (Rg / 2 ^ bb * 1, L + Rg / 2 ^ bb * vv, bs)).1) fCache fPend (nI (plS (Rg / 2 ^ bb * 1, L + Rg / 2 ^ bb * vv, bs)).2.2.length) fOuts fIns fReads fBad fIR fAsk fBAsk fCode fRL fRR fX fWrites 0)), ((g 4), Sum.inl (cI, 600, Sum.inl f2_77)), ((g 5), Sum.inl (cI, 600, Sum.inl v2_77))] H := ⟨hP, hD⟩
            have hP := hPD.1
            have hD := hPD.2
            exact my_iret (v := r_77) hx hb hr (rfl) hlocks hQ hK hS (Nat.le_refl _) (Nat.le_refl _) (f2_77, v2_77, v2_70) (⟨hw_77.1, by rw [hw_77.2.1, ev_8], hw_77.2.2, hw_70⟩) (hP.sub [1, 2, 3, 0] rfl) (hD.sub [1, 2, 3, 0] (by decide +kernel) rfl) d_M_bits_80
          · exact absurd (nI_inj (a := ki) (b := 600) (by omega) (by decide) c_7) (by omega)
        · exact absurd (by decide) c_6
      · exact absurd ⟨nI_pos' (by omega), nI_le (by omega) (by omega)⟩ (one_eq hw_35 c_5)
  · exact absurd c_1 (by decide)
set_option maxHeartbeats 2000000 in
set_option maxRecDepth 100000 in
theorem m_bits2L (l : Launch) (dC : Nat → ClassId) (dI : Nat → Nat → Nat) (cI cM cO : ClassId) (sz : Nat) (o : Nat) (g : Nat → Nat) (fShift : Int32) (fModels : Int32) (fOuts : Int32) (fIns : Int32) (fReads : Int32) (fBad : Int32) (fIR : Int32) (fAsk : Int32) (fBAsk : Int32) (fCode : Int64) (fRL : Int64) (fRR : Int64) (fX : Int64) (fWrites : Int32) (fThrown : Int32) (vIM : Nat → Int32) (vIW : Nat → Int32) (vGoing : Nat → Int32) (vv : Nat) (bb : Nat) (Rg : Nat) (L : Nat) (ca : Option Nat) (Pn : Nat) (bs : List Nat) (ki : Nat) (hb1 : 1 ≤ bb) (hb2 : bb ≤ 12) (hv : vv < 2 ^ bb) (hki : ki < 600) (hE : eInv (Rg, L, ca, Pn, bs)) (hG : gIs vGoing bs) (hN9 : bs.length + Pn + 20 ≤ 9000) : MetI l y_M_bits (Cond.code y_M_bits prog_14_method_30_code 3 (some .int) :: gw) ({ frames := 4, cells := 0, slots := 0, locals := 85 } : Room) (dC, dI) vwCl (kT cI cM cO) [Value.ref o, Value.int (nI vv), Value.int (nI bb)] [(o, Sum.inr (9, mO g 2 fShift fModels (nI ki) 0 (lN L) (lN Rg) (caI ca) (nI Pn) (nI bs.length) fOuts fIns fReads fBad fIR fAsk fBAsk fCode fRL fRR fX fWrites fThrown)), ((g 4), Sum.inl (cI, 600, Sum.inl vIM)), ((g 5), Sum.inl (cI, 600, Sum.inl vIW)), ((g 6), Sum.inl (cI, 9000, Sum.inl vGoing))] sz (fun (r : Int32) (u : (Nat → Int32) × (Nat → Int32) × (Nat → Int32)) => r = nI (ki + 1) ∧ u.1 = upd vIM ki (-nI bb) ∧ u.2.1 = upd vIW ki (nI vv) ∧ gIs u.2.2 (eB (vbN vv bb (Rg, L, ca, Pn, bs)))) (fun (u : (Nat → Int32) × (Nat → Int32) × (Nat → Int32)) => [(o, Sum.inr (9, mO g 2 fShift fModels (nI (ki + 1)) 0 (lN (eL (vbN vv bb (Rg, L, ca, Pn, bs)))) (lN (eR (vbN vv bb (Rg, L, ca, Pn, bs)))) (caI (eC (vbN vv bb (Rg, L, ca, Pn, bs)))) (nI (eP (vbN vv bb (Rg, L, ca, Pn, bs)))) (nI (eB (vbN vv bb (Rg, L, ca, Pn, bs))).length) fOuts fIns fReads fBad fIR fAsk fBAsk fCode fRL fRR fX fWrites 0)), ((g 4), Sum.inl (cI, 600, Sum.inl u.1)), ((g 5), Sum.inl (cI, 600, Sum.inl u.2.1)), ((g 6), Sum.inl (cI, 9000, Sum.inl u.2.2))]) 0 0 := by
  refine my_ofI (cc := prog_14_method_30_code) (n := 3) (ret := (some .int)) (by decide) rfl (Nat.le_of_ble_eq_true rfl) ?_
  intro p e s m args below meth c R Q A ls H locs hx hb hr hts hown hlocks hml hnm hR hQ hA hl hP hK hN hD hS
  have hg : ∀ w ∈ gw, w.before args s = true := fun w h => hts w (List.mem_cons_of_mem _ h)
  have hown : s.vm.findClass "RangeCodersModel" = some m.cls := hown
  have hl : lv_has ls 3 [(0, Value.ref o), (1, Value.int (nI vv)), (2, Value.int (nI bb))] := hl
  have hp12 : 2 ^ bb ≤ 4096 := pw12 (by omega)
  have hp0 := Nat.two_pow_pos bb
  refine lv_aload_n hx hb d_M_bits_0 rfl (lv_at hl 0 rfl) ?_
  refine lv_iconst (v := 0) hx hb d_M_bits_1 (by decide) ?_
  refine va_put (D := (dC, dI)) (ci := 9) (v := .int 0) (ty := .int) (C := "RangeCodersModel") (T := T_M) (N := 35) hx hb hg in_M t_M o_M n_M hown hK hP hD hS 0 rfl rfl 34 (by decide) (hg _ k986) (fun _ h9 => h9) rfl (o_M 34 (by decide)) rfl rfl (Nat.le_of_ble_eq_true rfl) d_M_bits_2 (fun H locs hP hD hS => ?_)
  have hPD : my_PD (dC, dI) vwCl A [(o, Sum.inr (9, mO g 2 fShift fModels (nI ki) 0 (lN L) (lN Rg) (caI ca) (nI Pn) (nI bs.length) fOuts fIns fReads fBad fIR fAsk fBAsk fCode fRL fRR fX fWrites 0)), ((g 4), Sum.inl (cI, 600, Sum.inl vIM)), ((g 5), Sum.inl (cI, 600, Sum.inl vIW)), ((g 6), Sum.inl (cI, 9000, Sum.inl vGoing))] H := ⟨hP, hD⟩
  have hP := hPD.1
  have hD := hPD.2
  refine lv_iload_n hx hb d_M_bits_5 rfl (lv_at hl 2 rfl) ?_
  refine lv_iconst (v := 1) hx hb d_M_bits_6 (by decide) ?_
  refine lv_aload_n hx hb d_M_bits_7 rfl (lv_at hl 0 rfl) ?_
  refine va_get (D := (dC, dI)) (ci := 9) (v := .int 2) (C := "RangeCodersModel") (T := T_M) (N := 35) hx hb hg in_M hown hK hP 0 rfl rfl 0 (by decide) (hg _ k952) (fun _ h9 => h9) rfl d_M_bits_8 ?_
  refine lv_iconst (v := 4) hx hb d_M_bits_11 (by decide) ?_
  refine lv_icmp_ne (tgt := 20) hx hb d_M_bits_12 (by decide) (fun c_1 => ?_) (fun c_1 => ?_)
  · refine lv_bipush (v := 12) hx hb d_M_bits_20 (by decide) ?_
    refine my_ci (wr := [(o, Sum.inr (9, mO g 2 fShift fModels (nI ki) 0 (lN L) (lN Rg) (caI ca) (nI Pn) (nI bs.length) fOuts fIns fReads fBad fIR fAsk fBAsk fCode fRL fRR fX fWrites 0)), ((g 4), Sum.inl (cI, 600, Sum.inl vIM)), ((g 5), Sum.inl (cI, 600, Sum.inl vIW)), ((g 6), Sum.inl (cI, 9000, Sum.inl vGoing))]) (va_runS (As := [Value.int (nI bb), Value.int 1, Value.int 12]) (rest := []) ⟨hx, hb, hml, hown, hts⟩ (c_M_in l dC dI cI cM cO H.size (nI bb) 1 12) (cwS 3 hts (my_gS k1062 k1063 k12 k1064) rfl rfl rfl (by decide +kernel) ⟨by rw [hR]; exact Nat.le_of_ble_eq_true rfl, by rw [hR]; exact Nat.le_of_ble_eq_true rfl⟩) (my_pre hK hN (hP.sub [] rfl) (hD.sub [] (by decide +kernel) rfl)) rfl rfl hl.1 rfl (lv_room (Nat.le_of_ble_eq_true rfl)) d_M_bits_22 ⟨by rw [hR]; exact Nat.le_of_ble_eq_true rfl, by rw [hR]; exact Nat.le_of_ble_eq_true rfl⟩) hP hD hS hA [] [0, 1, 2, 3] rfl rfl (by decide +kernel) (by decide +kernel) (fun r_22 u9 H locs hw_22 hP hD hS => ?_)
    have hw_22 : r_22 = if 1 ≤ (nI bb) ∧ (nI bb) ≤ 12 then 1 else 0 := hw_22
    have hPD : my_PD (dC, dI) vwCl A [(o, Sum.inr (9, mO g 2 fShift fModels (nI ki) 0 (lN L) (lN Rg) (caI ca) (nI Pn) (nI bs.length) fOuts fIns fReads fBad fIR fAsk fBAsk fCode fRL fRR fX fWrites 0)), ((g 4), Sum.inl (cI, 600, Sum.inl vIM)), ((g 5), Sum.inl (cI, 600, Sum.inl vIW)), ((g 6), Sum.inl (cI, 9000, Sum.inl vGoing))] H := ⟨hP, hD⟩
    have hP := hPD.1
    have hD := hPD.2
    refine lv_if_eq (tgt := 41) hx hb d_M_bits_25 (by decide) (fun c_2 => ?_) (fun c_2 => ?_)
    · exact absurd (show 1 ≤ nI bb ∧ nI bb ≤ nI 12 from ⟨nI_le (a := 1) hb1 (by omega), nI_le hb2 (by decide)⟩) (one_eq hw_22 c_2)
    · refine lv_iload_n hx hb d_M_bits_28 rfl (lv_at hl 1 rfl) ?_
      refine lv_iconst (v := 0) hx hb d_M_bits_29 (by decide) ?_
      refine lv_iconst (v := 1) hx hb d_M_bits_30 (by decide) ?_
      refine lv_iload_n hx hb d_M_bits_31 rfl (lv_at hl 2 rfl) ?_
      refine lv_ishl hx hb d_M_bits_32 ?_
      refine lv_topi (fun v_3 ev_3 => ?_)
      have z9 : v_3 = nI (2 ^ bb) := by rw [ev_3]; exact shl1 _ (by omega)
      subst z9
      refine lv_iconst (v := 1) hx hb d_M_bits_33 (by decide) ?_
      refine lv_isub hx hb d_M_bits_34 ?_
      refine lv_topi (fun v_4 ev_4 => ?_)
      have z9 : v_4 = nI (2 ^ bb - 1) := by rw [ev_4]; exact nI_pred9 hp0
      subst z9
      refine my_ci (wr := [(o, Sum.inr (9, mO g 2 fShift fModels (nI ki) 0 (lN L) (lN Rg) (caI ca) (nI Pn) (nI bs.length) fOuts fIns fReads fBad fIR fAsk fBAsk fCode fRL fRR fX fWrites 0)), ((g 4), Sum.inl (cI, 600, Sum.inl vIM)), ((g 5), Sum.inl (cI, 600, Sum.inl vIW)), ((g 6), Sum.inl (cI, 9000, Sum.inl vGoing))]) (va_runS (As := [Value.int (nI vv), Value.int 0, Value.int (nI (2 ^ bb - 1))]) (rest := []) ⟨hx, hb, hml, hown, hts⟩ (c_M_in l dC dI cI cM cO H.size (nI vv) 0 (nI (2 ^ bb - 1))) (cwS 3 hts (my_gS k1062 k1063 k12 k1064) rfl rfl rfl (by decide +kernel) ⟨by rw [hR]; exact Nat.le_of_ble_eq_true rfl, by rw [hR]; exact Nat.le_of_ble_eq_true rfl⟩) (my_pre hK hN (hP.sub [] rfl) (hD.sub [] (by decide +kernel) rfl)) rfl rfl hl.1 rfl (lv_room (Nat.le_of_ble_eq_true rfl)) d_M_bits_35 ⟨by rw [hR]; exact Nat.le_of_ble_eq_true rfl, by rw [hR]; exact Nat.le_of_ble_eq_true rfl⟩) hP hD hS hA [] [0, 1, 2, 3] rfl rfl (by decide +kernel) (by decide +kernel) (fun r_35 u9 H locs hw_35 hP hD hS => ?_)
      have hw_35 : r_35 = if 0 ≤ (nI vv) ∧ (nI vv) ≤ (nI (2 ^ bb - 1)) then 1 else 0 := hw_35
      have hPD : my_PD (dC, dI) vwCl A [(o, Sum.inr (9, mO g 2 fShift fModels (nI ki) 0 (lN L) (lN Rg) (caI ca) (nI Pn) (nI bs.length) fOuts fIns fReads fBad fIR fAsk fBAsk fCode fRL fRR fX fWrites 0)), ((g 4), Sum.inl (cI, 600, Sum.inl vIM)), ((g 5), Sum.inl (cI, 600, Sum.inl vIW)), ((g 6), Sum.inl (cI, 9000, Sum.inl vGoing))] H := ⟨hP, hD⟩
      have hP := hPD.1
      have hD := hPD.2
      refine lv_if_ne (tgt := 44) hx hb d_M_bits_38 (by decide) (fun c_5 => ?_) (fun c_5 => ?_)
      · refine lv_aload_n hx hb d_M_bits_44 rfl (lv_at hl 0 rfl) ?_
        refine va_get (D := (dC, dI)) (ci := 9) (v := .int 0) (C := "RangeCodersModel") (T := T_M) (N := 35) hx hb hg in_M hown hK hP 0 rfl rfl 10 (by decide) (hg _ k962) (fun _ h9 => h9) rfl d_M_bits_45 ?_
        refine lv_if_eq (tgt := 54) hx hb d_M_bits_48 (by decide) (fun c_6 => ?_) (fun c_6 => ?_)
        · refine lv_aload_n hx hb d_M_bits_54 rfl (lv_at hl 0 rfl) ?_
          refine va_get (D := (dC, dI)) (ci := 9) (v := .int (nI ki)) (C := "RangeCodersModel") (T := T_M) (N := 35) hx hb hg in_M hown hK hP 0 rfl rfl 7 (by decide) (hg _ k959) (fun _ h9 => h9) rfl d_M_bits_55 ?_
          refine lv_sipush (v := 600) hx hb d_M_bits_58 (by decide) ?_
          refine lv_icmp_ne (tgt := 67) hx hb d_M_bits_61 (by decide) (fun c_7 => ?_) (fun c_7 => ?_)
          · refine lv_aload_n hx hb d_M_bits_67 rfl (lv_at hl 0 rfl) ?_
            refine lv_iload_n hx hb d_M_bits_68 rfl (lv_at hl 1 rfl) ?_
            refine lv_iload_n hx hb d_M_bits_69 rfl (lv_at hl 2 rfl) ?_
            refine my_cv (wr := [((g 4), Sum.inl (cI, 600, Sum.inl vIM)), ((g 5), Sum.inl (cI, 600, Sum.inl vIW))]) (va_runV (As := [Value.int (nI vv), Value.int (nI bb)]) (rest := []) ⟨hx, hb, hml, hown, hts⟩ (c_M_putValue2 l dC dI cI cM cO H.size o g fShift fModels (nI ki) 0 fOuts fIns fReads fBad fIR fAsk fBAsk fCode fRL fRR fX fWrites 0 vGoing vv bb Rg L ca Pn bs (hb1) (hb2) (by omega) (by first | assumption | omega) (by first | assumption | omega) (by first | assumption | omega)) (cwV 2 hts (my_gV k1143 k1145 ks39 k12 k1146) rfl rfl rfl cu_M_putValue_2 ⟨by rw [hR]; exact Nat.le_of_ble_eq_true rfl, by rw [hR]; exact Nat.le_of_ble_eq_true rfl⟩) (my_preV hK hN (hP.sub [0, 3] rfl) (hD.sub [0, 3] (by decide +kernel) rfl) 0 rfl rfl) rfl rfl hl.1 rfl (lv_room (Nat.le_of_ble_eq_true rfl)) d_M_bits_70 ⟨by rw [hR]; exact Nat.le_of_ble_eq_true rfl, by rw [hR]; exact Nat.le_of_ble_eq_true rfl⟩) hP hD hS hA [0, 3] [1, 2] rfl rfl (by decide +kernel) (by decide +kernel) (fun u9 H locs hw_70 hP hD hS => ?_)
            obtain ⟨v2_70, rfl⟩ : ∃ z, z = u9 := ⟨_, rfl⟩
            have hw_70 : gIs v2_70 (eB (vbN vv bb (Rg, L, ca, Pn, bs))) := hw_70
            have hPD : my_PD (dC, dI) vwCl A [((g 4), Sum.inl (cI, 600, Sum.inl vIM)), ((g 5), Sum.inl (cI, 600, Sum.inl vIW)), (o, Sum.inr (9, mO g 2 fShift fModels (nI ki) 0 (lN (eL (vbN vv bb (Rg, L, ca, Pn, bs)))) (lN (eR (vbN vv bb (Rg, L, ca, Pn, bs)))) (caI (eC (vbN vv bb (Rg, L, ca, Pn, bs)))) (nI (eP (vbN vv bb (Rg, L, ca, Pn, bs)))) (nI (eB (vbN vv bb (Rg, L, ca, Pn, bs))).length) fOuts fIns fReads fBad fIR fAsk fBAsk fCode fRL fRR fX fWrites 0)), ((g 6), Sum.inl (cI, 9000, Sum.inl v2_70))] H := ⟨hP, hD⟩
            have hP := hPD.1
            have hD := hPD.2
            refine lv_aload_n hx hb d_M_bits_73 rfl (lv_at hl 0 rfl) ?_
            refine lv_iload_n hx hb d_M_bits_74 rfl (lv_at hl 2 rfl) ?_
            refine lv_ineg hx hb d_M_bits_75 ?_
            refine lv_topi (fun v_8 ev_8 => ?_)
            refine lv_iload_n hx hb d_M_bits_76 rfl (lv_at hl 1 rfl) ?_
            refine my_ci (wr := [((g 6), Sum.inl (cI, 9000, Sum.inl v2_70))]) (va_runV (As := [Value.int v_8, Value.int (nI vv)]) (rest := []) ⟨hx, hb, hml, hown, hts⟩ (c_M_addItem l dC dI cI cM cO H.size o g 2 fShift fModels 0 (lN (eL (vbN vv bb (Rg, L, ca, Pn, bs)))) (lN (eR (vbN vv bb (Rg, L, ca, Pn, bs)))) (caI (eC (vbN vv bb (Rg, L, ca, Pn, bs)))) (nI (eP (vbN vv bb (Rg, L, ca, Pn, bs)))) (nI (eB (vbN vv bb (Rg, L, ca, Pn, bs))).length) fOuts fIns fReads fBad fIR fAsk fBAsk fCode fRL fRR fX fWrites 0 vIM vIW ki v_8 (nI vv) (hki)) (cwV 2 hts (my_gV k1135 k1137 ks38 k12 k1138) rfl rfl rfl cu_M_addItem_2 ⟨by rw [hR]; exact Nat.le_of_ble_eq_true rfl, by rw [hR]; exact Nat.le_of_ble_eq_true rfl⟩) (my_preV hK hN (hP.sub [2, 0, 1] rfl) (hD.sub [2, 0, 1] (by decide +kernel) rfl) 0 rfl rfl) rfl rfl hl.1 rfl (lv_room (Nat.le_of_ble_eq_true rfl)) d_M_bits_77 ⟨by rw [hR]; exact Nat.le_of_ble_eq_true rfl, by rw [hR]; exact Nat.le_of_ble_eq_true rfl⟩) hP hD hS hA [2, 0, 1] [3] rfl rfl (by decide +kernel) (by decide +kernel) (fun r_77 u9 H locs hw_77 hP hD hS => ?_)
            obtain ⟨f2_77, v2_77⟩ := u9
            have hw_77 : r_77 = nI (ki + 1) ∧ f2_77 = upd vIM ki v_8 ∧ v2_77 = upd vIW ki (nI vv) := hw_77
            have hPD : my_PD (dC, dI) vwCl A [((g 6), Sum.inl (cI, 9000, Sum.inl v2_70)), (o, Sum.inr (9, mO g 2 fShift fModels (nI (ki + 1)) 0 (lN (eL (vbN vv bb (Rg, L, ca, Pn, bs)))) (lN (eR (vbN vv bb (Rg, L, ca, Pn, bs)))) (caI (eC (vbN vv bb (Rg, L, ca, Pn, bs)))) (nI (eP (vbN vv bb (Rg, L, ca, Pn, bs)))) (nI (eB (vbN vv bb (Rg, L, ca, Pn, bs))).length) fOuts fIns fReads fBad fIR fAsk fBAsk fCode fRL fRR fX fWrites 0)), ((g 4), Sum.inl (cI, 600, Sum.inl f2_77)), ((g 5), Sum.inl (cI, 600, Sum.inl v2_77))] H := ⟨hP, hD⟩
            have hP := hPD.1
            have hD := hPD.2
            exact my_iret (v := r_77) hx hb hr (rfl) hlocks hQ hK hS (Nat.le_refl _) (Nat.le_refl _) (f2_77, v2_77, v2_70) (⟨hw_77.1, by rw [hw_77.2.1, ev_8], hw_77.2.2, hw_70⟩) (hP.sub [1, 2, 3, 0] rfl) (hD.sub [1, 2, 3, 0] (by decide +kernel) rfl) d_M_bits_80
          · exact absurd (nI_inj (a := ki) (b := 600) (by omega) (by decide) c_7) (by omega)
        · exact absurd (by decide) c_6
      · exact absurd ⟨nI_pos' (by omega), nI_le (by omega) (by omega)⟩ (one_eq hw_35 c_5)
  · exact absurd c_1 (by decide)
set_option maxHeartbeats 2000000 in
set_option maxRecDepth 100000 in
theorem m_bits3L (l : Launch) (dC : Nat → ClassId) (dI : Nat → Nat → Nat) (cI cM cO : ClassId) (sz : Nat) (o : Nat) (g : Nat → Nat) (fShift : Int32) (fModels : Int32) (fLow : Int64) (fRange : Int64) (fCache : Int32) (fPend : Int32) (fGoes : Int32) (fOuts : Int32) (fIns : Int32) (fReads : Int32) (fBad : Int32) (fIR : Int32) (fAsk : Int32) (fBAsk : Int32) (fCode : Int64) (fRL : Int64) (fRR : Int64) (fX : Int64) (fWrites : Int32) (fThrown : Int32) (vIM : Nat → Int32) (vIW : Nat → Int32) (vv : Nat) (bb : Nat) (ki : Nat) (hb1 : 1 ≤ bb) (hb2 : bb ≤ 12) (hv : vv < 2 ^ bb) (hki : ki < 600) : MetI l y_M_bits (Cond.code y_M_bits prog_14_method_30_code 3 (some .int) :: gw) ({ frames := 1, cells := 0, slots := 0, locals := 23 } : Room) (dC, dI) vwCl (kT cI cM cO) [Value.ref o, Value.int (nI vv), Value.int (nI bb)] [(o, Sum.inr (9, mO g 3 fShift fModels (nI ki) 0 fLow fRange fCache fPend fGoes fOuts fIns fReads fBad fIR fAsk fBAsk fCode fRL fRR fX fWrites fThrown)), ((g 4), Sum.inl (cI, 600, Sum.inl vIM)), ((g 5), Sum.inl (cI, 600, Sum.inl vIW))] sz (fun (r : Int32) (u : (Nat → Int32) × (Nat → Int32)) => r = nI (ki + 1) ∧ u.1 = upd vIM ki (-nI bb) ∧ u.2 = upd vIW ki (nI vv)) (fun (u : (Nat → Int32) × (Nat → Int32)) => [(o, Sum.inr (9, mO g 3 fShift fModels (nI (ki + 1)) 0 fLow fRange fCache fPend fGoes fOuts fIns fReads fBad fIR fAsk fBAsk fCode fRL fRR fX fWrites 0)), ((g 4), Sum.inl (cI, 600, Sum.inl u.1)), ((g 5), Sum.inl (cI, 600, Sum.inl u.2))]) 0 0 := by
  refine my_ofI (cc := prog_14_method_30_code) (n := 3) (ret := (some .int)) (by decide) rfl (Nat.le_of_ble_eq_true rfl) ?_
  intro p e s m args below meth c R Q A ls H locs hx hb hr hts hown hlocks hml hnm hR hQ hA hl hP hK hN hD hS
  have hg : ∀ w ∈ gw, w.before args s = true := fun w h => hts w (List.mem_cons_of_mem _ h)
  have hown : s.vm.findClass "RangeCodersModel" = some m.cls := hown
  have hl : lv_has ls 3 [(0, Value.ref o), (1, Value.int (nI vv)), (2, Value.int (nI bb))] := hl
  have hp12 : 2 ^ bb ≤ 4096 := pw12 (by omega)
  have hp0 := Nat.two_pow_pos bb
  refine lv_aload_n hx hb d_M_bits_0 rfl (lv_at hl 0 rfl) ?_
  refine lv_iconst (v := 0) hx hb d_M_bits_1 (by decide) ?_
  refine va_put (D := (dC, dI)) (ci := 9) (v := .int 0) (ty := .int) (C := "RangeCodersModel") (T := T_M) (N := 35) hx hb hg in_M t_M o_M n_M hown hK hP hD hS 0 rfl rfl 34 (by decide) (hg _ k986) (fun _ h9 => h9) rfl (o_M 34 (by decide)) rfl rfl (Nat.le_of_ble_eq_true rfl) d_M_bits_2 (fun H locs hP hD hS => ?_)
  have hPD : my_PD (dC, dI) vwCl A [(o, Sum.inr (9, mO g 3 fShift fModels (nI ki) 0 fLow fRange fCache fPend fGoes fOuts fIns fReads fBad fIR fAsk fBAsk fCode fRL fRR fX fWrites 0)), ((g 4), Sum.inl (cI, 600, Sum.inl vIM)), ((g 5), Sum.inl (cI, 600, Sum.inl vIW))] H := ⟨hP, hD⟩
  have hP := hPD.1
  have hD := hPD.2
  refine lv_iload_n hx hb d_M_bits_5 rfl (lv_at hl 2 rfl) ?_
  refine lv_iconst (v := 1) hx hb d_M_bits_6 (by decide) ?_
  refine lv_aload_n hx hb d_M_bits_7 rfl (lv_at hl 0 rfl) ?_
  refine va_get (D := (dC, dI)) (ci := 9) (v := .int 3) (C := "RangeCodersModel") (T := T_M) (N := 35) hx hb hg in_M hown hK hP 0 rfl rfl 0 (by decide) (hg _ k952) (fun _ h9 => h9) rfl d_M_bits_8 ?_
  refine lv_iconst (v := 4) hx hb d_M_bits_11 (by decide) ?_
  refine lv_icmp_ne (tgt := 20) hx hb d_M_bits_12 (by decide) (fun c_1 => ?_) (fun c_1 => ?_)
  · refine lv_bipush (v := 12) hx hb d_M_bits_20 (by decide) ?_
    refine my_ci (wr := [(o, Sum.inr (9, mO g 3 fShift fModels (nI ki) 0 fLow fRange fCache fPend fGoes fOuts fIns fReads fBad fIR fAsk fBAsk fCode fRL fRR fX fWrites 0)), ((g 4), Sum.inl (cI, 600, Sum.inl vIM)), ((g 5), Sum.inl (cI, 600, Sum.inl vIW))]) (va_runS (As := [Value.int (nI bb), Value.int 1, Value.int 12]) (rest := []) ⟨hx, hb, hml, hown, hts⟩ (c_M_in l dC dI cI cM cO H.size (nI bb) 1 12) (cwS 3 hts (my_gS k1062 k1063 k12 k1064) rfl rfl rfl (by decide +kernel) ⟨by rw [hR]; exact Nat.le_of_ble_eq_true rfl, by rw [hR]; exact Nat.le_of_ble_eq_true rfl⟩) (my_pre hK hN (hP.sub [] rfl) (hD.sub [] (by decide +kernel) rfl)) rfl rfl hl.1 rfl (lv_room (Nat.le_of_ble_eq_true rfl)) d_M_bits_22 ⟨by rw [hR]; exact Nat.le_of_ble_eq_true rfl, by rw [hR]; exact Nat.le_of_ble_eq_true rfl⟩) hP hD hS hA [] [0, 1, 2] rfl rfl (by decide +kernel) (by decide +kernel) (fun r_22 u9 H locs hw_22 hP hD hS => ?_)
    have hw_22 : r_22 = if 1 ≤ (nI bb) ∧ (nI bb) ≤ 12 then 1 else 0 := hw_22
    have hPD : my_PD (dC, dI) vwCl A [(o, Sum.inr (9, mO g 3 fShift fModels (nI ki) 0 fLow fRange fCache fPend fGoes fOuts fIns fReads fBad fIR fAsk fBAsk fCode fRL fRR fX fWrites 0)), ((g 4), Sum.inl (cI, 600, Sum.inl vIM)), ((g 5), Sum.inl (cI, 600, Sum.inl vIW))] H := ⟨hP, hD⟩
    have hP := hPD.1
    have hD := hPD.2
    refine lv_if_eq (tgt := 41) hx hb d_M_bits_25 (by decide) (fun c_2 => ?_) (fun c_2 => ?_)
    · exact absurd (show 1 ≤ nI bb ∧ nI bb ≤ nI 12 from ⟨nI_le (a := 1) hb1 (by omega), nI_le hb2 (by decide)⟩) (one_eq hw_22 c_2)
    · refine lv_iload_n hx hb d_M_bits_28 rfl (lv_at hl 1 rfl) ?_
      refine lv_iconst (v := 0) hx hb d_M_bits_29 (by decide) ?_
      refine lv_iconst (v := 1) hx hb d_M_bits_30 (by decide) ?_
      refine lv_iload_n hx hb d_M_bits_31 rfl (lv_at hl 2 rfl) ?_
      refine lv_ishl hx hb d_M_bits_32 ?_
      refine lv_topi (fun v_3 ev_3 => ?_)
      have z9 : v_3 = nI (2 ^ bb) := by rw [ev_3]; exact shl1 _ (by omega)
      subst z9
      refine lv_iconst (v := 1) hx hb d_M_bits_33 (by decide) ?_
      refine lv_isub hx hb d_M_bits_34 ?_
      refine lv_topi (fun v_4 ev_4 => ?_)
      have z9 : v_4 = nI (2 ^ bb - 1) := by rw [ev_4]; exact nI_pred9 hp0
      subst z9
      refine my_ci (wr := [(o, Sum.inr (9, mO g 3 fShift fModels (nI ki) 0 fLow fRange fCache fPend fGoes fOuts fIns fReads fBad fIR fAsk fBAsk fCode fRL fRR fX fWrites 0)), ((g 4), Sum.inl (cI, 600, Sum.inl vIM)), ((g 5), Sum.inl (cI, 600, Sum.inl vIW))]) (va_runS (As := [Value.int (nI vv), Value.int 0, Value.int (nI (2 ^ bb - 1))]) (rest := []) ⟨hx, hb, hml, hown, hts⟩ (c_M_in l dC dI cI cM cO H.size (nI vv) 0 (nI (2 ^ bb - 1))) (cwS 3 hts (my_gS k1062 k1063 k12 k1064) rfl rfl rfl (by decide +kernel) ⟨by rw [hR]; exact Nat.le_of_ble_eq_true rfl, by rw [hR]; exact Nat.le_of_ble_eq_true rfl⟩) (my_pre hK hN (hP.sub [] rfl) (hD.sub [] (by decide +kernel) rfl)) rfl rfl hl.1 rfl (lv_room (Nat.le_of_ble_eq_true rfl)) d_M_bits_35 ⟨by rw [hR]; exact Nat.le_of_ble_eq_true rfl, by rw [hR]; exact Nat.le_of_ble_eq_true rfl⟩) hP hD hS hA [] [0, 1, 2] rfl rfl (by decide +kernel) (by decide +kernel) (fun r_35 u9 H locs hw_35 hP hD hS => ?_)
      have hw_35 : r_35 = if 0 ≤ (nI vv) ∧ (nI vv) ≤ (nI (2 ^ bb - 1)) then 1 else 0 := hw_35
      have hPD : my_PD (dC, dI) vwCl A [(o, Sum.inr (9, mO g 3 fShift fModels (nI ki) 0 fLow fRange fCache fPend fGoes fOuts fIns fReads fBad fIR fAsk fBAsk fCode fRL fRR fX fWrites 0)), ((g 4), Sum.inl (cI, 600, Sum.inl vIM)), ((g 5), Sum.inl (cI, 600, Sum.inl vIW))] H := ⟨hP, hD⟩
      have hP := hPD.1
      have hD := hPD.2
      refine lv_if_ne (tgt := 44) hx hb d_M_bits_38 (by decide) (fun c_5 => ?_) (fun c_5 => ?_)
      · refine lv_aload_n hx hb d_M_bits_44 rfl (lv_at hl 0 rfl) ?_
        refine va_get (D := (dC, dI)) (ci := 9) (v := .int 0) (C := "RangeCodersModel") (T := T_M) (N := 35) hx hb hg in_M hown hK hP 0 rfl rfl 10 (by decide) (hg _ k962) (fun _ h9 => h9) rfl d_M_bits_45 ?_
        refine lv_if_eq (tgt := 54) hx hb d_M_bits_48 (by decide) (fun c_6 => ?_) (fun c_6 => ?_)
        · refine lv_aload_n hx hb d_M_bits_54 rfl (lv_at hl 0 rfl) ?_
          refine va_get (D := (dC, dI)) (ci := 9) (v := .int (nI ki)) (C := "RangeCodersModel") (T := T_M) (N := 35) hx hb hg in_M hown hK hP 0 rfl rfl 7 (by decide) (hg _ k959) (fun _ h9 => h9) rfl d_M_bits_55 ?_
          refine lv_sipush (v := 600) hx hb d_M_bits_58 (by decide) ?_
          refine lv_icmp_ne (tgt := 67) hx hb d_M_bits_61 (by decide) (fun c_7 => ?_) (fun c_7 => ?_)
          · refine lv_aload_n hx hb d_M_bits_67 rfl (lv_at hl 0 rfl) ?_
            refine lv_iload_n hx hb d_M_bits_68 rfl (lv_at hl 1 rfl) ?_
            refine lv_iload_n hx hb d_M_bits_69 rfl (lv_at hl 2 rfl) ?_
            refine my_cv (wr := [((g 4), Sum.inl (cI, 600, Sum.inl vIM)), ((g 5), Sum.inl (cI, 600, Sum.inl vIW))]) (va_runV (As := [Value.int (nI vv), Value.int (nI bb)]) (rest := []) ⟨hx, hb, hml, hown, hts⟩ (c_M_putValue3 l dC dI cI cM cO H.size o g fShift fModels (nI ki) 0 fLow fRange fCache fPend fGoes fOuts fIns fReads fBad fIR fAsk fBAsk fCode fRL fRR fX fWrites 0 (nI vv) (nI bb)) (cwV 2 hts (my_gV k1143 k1145 ks39 k12 k1146) rfl rfl rfl cu_M_putValue_2 ⟨by rw [hR]; exact Nat.le_of_ble_eq_true rfl, by rw [hR]; exact Nat.le_of_ble_eq_true rfl⟩) (my_preV hK hN (hP.sub [0] rfl) (hD.sub [0] (by decide +kernel) rfl) 0 rfl rfl) rfl rfl hl.1 rfl (lv_room (Nat.le_of_ble_eq_true rfl)) d_M_bits_70 ⟨by rw [hR]; exact Nat.le_of_ble_eq_true rfl, by rw [hR]; exact Nat.le_of_ble_eq_true rfl⟩) hP hD hS hA [0] [1, 2] rfl rfl (by decide +kernel) (by decide +kernel) (fun u9 H locs hw_70 hP hD hS => ?_)
            have hw_70 : True := hw_70
            have hPD : my_PD (dC, dI) vwCl A [((g 4), Sum.inl (cI, 600, Sum.inl vIM)), ((g 5), Sum.inl (cI, 600, Sum.inl vIW)), (o, Sum.inr (9, mO g 3 fShift fModels (nI ki) 0 fLow fRange fCache fPend fGoes fOuts fIns fReads fBad fIR fAsk fBAsk fCode fRL fRR fX fWrites 0))] H := ⟨hP, hD⟩
            have hP := hPD.1
            have hD := hPD.2
            refine lv_aload_n hx hb d_M_bits_73 rfl (lv_at hl 0 rfl) ?_
            refine lv_iload_n hx hb d_M_bits_74 rfl (lv_at hl 2 rfl) ?_
            refine lv_ineg hx hb d_M_bits_75 ?_
            refine lv_topi (fun v_8 ev_8 => ?_)
            refine lv_iload_n hx hb d_M_bits_76 rfl (lv_at hl 1 rfl) ?_
            refine my_ci (wr := []) (va_runV (As := [Value.int v_8, Value.int (nI vv)]) (rest := []) ⟨hx, hb, hml, hown, hts⟩ (c_M_addItem l dC dI cI cM cO H.size o g 3 fShift fModels 0 fLow fRange fCache fPend fGoes fOuts fIns fReads fBad fIR fAsk fBAsk fCode fRL fRR fX fWrites 0 vIM vIW ki v_8 (nI vv) (hki)) (cwV 2 hts (my_gV k1135 k1137 ks38 k12 k1138) rfl rfl rfl cu_M_addItem_2 ⟨by rw [hR]; exact Nat.le_of_ble_eq_true rfl, by rw [hR]; exact Nat.le_of_ble_eq_true rfl⟩) (my_preV hK hN (hP.sub [2, 0, 1] rfl) (hD.sub [2, 0, 1] (by decide +kernel) rfl) 0 rfl rfl) rfl rfl hl.1 rfl (lv_room (Nat.le_of_ble_eq_true rfl)) d_M_bits_77 ⟨by rw [hR]; exact Nat.le_of_ble_eq_true rfl, by rw [hR]; exact Nat.le_of_ble_eq_true rfl⟩) hP hD hS hA [2, 0, 1] [] rfl rfl (by decide +kernel) (by decide +kernel) (fun r_77 u9 H locs hw_77 hP hD hS => ?_)
            obtain ⟨f2_77, v2_77⟩ := u9
            have hw_77 : r_77 = nI (ki + 1) ∧ f2_77 = upd vIM ki v_8 ∧ v2_77 = upd vIW ki (nI vv) := hw_77
            have hPD : my_PD (dC, dI) vwCl A [(o, Sum.inr (9, mO g 3 fShift fModels (nI (ki + 1)) 0 fLow fRange fCache fPend fGoes fOuts fIns fReads fBad fIR fAsk fBAsk fCode fRL fRR fX fWrites 0)), ((g 4), Sum.inl (cI, 600, Sum.inl f2_77)), ((g 5), Sum.inl (cI, 600, Sum.inl v2_77))] H := ⟨hP, hD⟩
            have hP := hPD.1
            have hD := hPD.2
            exact my_iret (v := r_77) hx hb hr (rfl) hlocks hQ hK hS (Nat.le_refl _) (Nat.le_refl _) (f2_77, v2_77) (⟨hw_77.1, by rw [hw_77.2.1, ev_8], hw_77.2.2⟩) (hP.sub [0, 1, 2] rfl) (hD.sub [0, 1, 2] (by decide +kernel) rfl) d_M_bits_80
          · exact absurd (nI_inj (a := ki) (b := 600) (by omega) (by decide) c_7) (by omega)
        · exact absurd (by decide) c_6
      · exact absurd ⟨nI_pos' (by omega), nI_le (by omega) (by omega)⟩ (one_eq hw_35 c_5)
  · exact absurd c_1 (by decide)
set_option maxHeartbeats 2000000 in
set_option maxRecDepth 100000 in
theorem m_bits4L (l : Launch) (dC : Nat → ClassId) (dI : Nat → Nat → Nat) (cI cM cO : ClassId) (sz : Nat) (o : Nat) (g : Nat → Nat) (fShift : Int32) (fModels : Int32) (fLow : Int64) (fRange : Int64) (fCache : Int32) (fPend : Int32) (fGoes : Int32) (fOuts : Int32) (fIns : Int32) (fReads : Int32) (fBad : Int32) (fIR : Int32) (fAsk : Int32) (fBAsk : Int32) (fCode : Int64) (fRL : Int64) (fRR : Int64) (fX : Int64) (fWrites : Int32) (fThrown : Int32) (vIM : Nat → Int32) (vIW : Nat → Int32) (vv : Nat) (bb : Nat) (ki : Nat) (hb1 : 1 ≤ bb) (hb2 : bb ≤ 9) (hv : vv < 2 ^ bb) (hki : ki < 600) : MetI l y_M_bits (Cond.code y_M_bits prog_14_method_30_code 3 (some .int) :: gw) ({ frames := 1, cells := 0, slots := 0, locals := 23 } : Room) (dC, dI) vwCl (kT cI cM cO) [Value.ref o, Value.int (nI vv), Value.int (nI bb)] [(o, Sum.inr (9, mO g 4 fShift fModels (nI ki) 0 fLow fRange fCache fPend fGoes fOuts fIns fReads fBad fIR fAsk fBAsk fCode fRL fRR fX fWrites fThrown)), ((g 4), Sum.inl (cI, 600, Sum.inl vIM)), ((g 5), Sum.inl (cI, 600, Sum.inl vIW))] sz (fun (r : Int32) (u : (Nat → Int32) × (Nat → Int32)) => r = nI (ki + 1) ∧ u.1 = upd vIM ki (-nI bb) ∧ u.2 = upd vIW ki (nI vv)) (fun (u : (Nat → Int32) × (Nat → Int32)) => [(o, Sum.inr (9, mO g 4 fShift fModels (nI (ki + 1)) 0 fLow fRange fCache fPend fGoes fOuts fIns fReads fBad fIR fAsk fBAsk fCode fRL fRR fX fWrites 0)), ((g 4), Sum.inl (cI, 600, Sum.inl u.1)), ((g 5), Sum.inl (cI, 600, Sum.inl u.2))]) 0 0 := by
  refine my_ofI (cc := prog_14_method_30_code) (n := 3) (ret := (some .int)) (by decide) rfl (Nat.le_of_ble_eq_true rfl) ?_
  intro p e s m args below meth c R Q A ls H locs hx hb hr hts hown hlocks hml hnm hR hQ hA hl hP hK hN hD hS
  have hg : ∀ w ∈ gw, w.before args s = true := fun w h => hts w (List.mem_cons_of_mem _ h)
  have hown : s.vm.findClass "RangeCodersModel" = some m.cls := hown
  have hl : lv_has ls 3 [(0, Value.ref o), (1, Value.int (nI vv)), (2, Value.int (nI bb))] := hl
  have hp12 : 2 ^ bb ≤ 4096 := pw12 (by omega)
  have hp0 := Nat.two_pow_pos bb
  refine lv_aload_n hx hb d_M_bits_0 rfl (lv_at hl 0 rfl) ?_
  refine lv_iconst (v := 0) hx hb d_M_bits_1 (by decide) ?_
  refine va_put (D := (dC, dI)) (ci := 9) (v := .int 0) (ty := .int) (C := "RangeCodersModel") (T := T_M) (N := 35) hx hb hg in_M t_M o_M n_M hown hK hP hD hS 0 rfl rfl 34 (by decide) (hg _ k986) (fun _ h9 => h9) rfl (o_M 34 (by decide)) rfl rfl (Nat.le_of_ble_eq_true rfl) d_M_bits_2 (fun H locs hP hD hS => ?_)
  have hPD : my_PD (dC, dI) vwCl A [(o, Sum.inr (9, mO g 4 fShift fModels (nI ki) 0 fLow fRange fCache fPend fGoes fOuts fIns fReads fBad fIR fAsk fBAsk fCode fRL fRR fX fWrites 0)), ((g 4), Sum.inl (cI, 600, Sum.inl vIM)), ((g 5), Sum.inl (cI, 600, Sum.inl vIW))] H := ⟨hP, hD⟩
  have hP := hPD.1
  have hD := hPD.2
  refine lv_iload_n hx hb d_M_bits_5 rfl (lv_at hl 2 rfl) ?_
  refine lv_iconst (v := 1) hx hb d_M_bits_6 (by decide) ?_
  refine lv_aload_n hx hb d_M_bits_7 rfl (lv_at hl 0 rfl) ?_
  refine va_get (D := (dC, dI)) (ci := 9) (v := .int 4) (C := "RangeCodersModel") (T := T_M) (N := 35) hx hb hg in_M hown hK hP 0 rfl rfl 0 (by decide) (hg _ k952) (fun _ h9 => h9) rfl d_M_bits_8 ?_
  refine lv_iconst (v := 4) hx hb d_M_bits_11 (by decide) ?_
  refine lv_icmp_ne (tgt := 20) hx hb d_M_bits_12 (by decide) (fun c_1 => ?_) (fun c_1 => ?_)
  · exact absurd rfl c_1
  · refine lv_bipush (v := 9) hx hb d_M_bits_15 (by decide) ?_
    refine lv_goto (tgt := 22) hx hb d_M_bits_17 (by decide) ?_
    refine my_ci (wr := [(o, Sum.inr (9, mO g 4 fShift fModels (nI ki) 0 fLow fRange fCache fPend fGoes fOuts fIns fReads fBad fIR fAsk fBAsk fCode fRL fRR fX fWrites 0)), ((g 4), Sum.inl (cI, 600, Sum.inl vIM)), ((g 5), Sum.inl (cI, 600, Sum.inl vIW))]) (va_runS (As := [Value.int (nI bb), Value.int 1, Value.int 9]) (rest := []) ⟨hx, hb, hml, hown, hts⟩ (c_M_in l dC dI cI cM cO H.size (nI bb) 1 9) (cwS 3 hts (my_gS k1062 k1063 k12 k1064) rfl rfl rfl (by decide +kernel) ⟨by rw [hR]; exact Nat.le_of_ble_eq_true rfl, by rw [hR]; exact Nat.le_of_ble_eq_true rfl⟩) (my_pre hK hN (hP.sub [] rfl) (hD.sub [] (by decide +kernel) rfl)) rfl rfl hl.1 rfl (lv_room (Nat.le_of_ble_eq_true rfl)) d_M_bits_22 ⟨by rw [hR]; exact Nat.le_of_ble_eq_true rfl, by rw [hR]; exact Nat.le_of_ble_eq_true rfl⟩) hP hD hS hA [] [0, 1, 2] rfl rfl (by decide +kernel) (by decide +kernel) (fun r_22 u9 H locs hw_22 hP hD hS => ?_)
    have hw_22 : r_22 = if 1 ≤ (nI bb) ∧ (nI bb) ≤ 9 then 1 else 0 := hw_22
    have hPD : my_PD (dC, dI) vwCl A [(o, Sum.inr (9, mO g 4 fShift fModels (nI ki) 0 fLow fRange fCache fPend fGoes fOuts fIns fReads fBad fIR fAsk fBAsk fCode fRL fRR fX fWrites 0)), ((g 4), Sum.inl (cI, 600, Sum.inl vIM)), ((g 5), Sum.inl (cI, 600, Sum.inl vIW))] H := ⟨hP, hD⟩
    have hP := hPD.1
    have hD := hPD.2
    refine lv_if_eq (tgt := 41) hx hb d_M_bits_25 (by decide) (fun c_2 => ?_) (fun c_2 => ?_)
    · exact absurd (show 1 ≤ nI bb ∧ nI bb ≤ nI 9 from ⟨nI_le (a := 1) hb1 (by omega), nI_le hb2 (by decide)⟩) (one_eq hw_22 c_2)
    · refine lv_iload_n hx hb d_M_bits_28 rfl (lv_at hl 1 rfl) ?_
      refine lv_iconst (v := 0) hx hb d_M_bits_29 (by decide) ?_
      refine lv_iconst (v := 1) hx hb d_M_bits_30 (by decide) ?_
      refine lv_iload_n hx hb d_M_bits_31 rfl (lv_at hl 2 rfl) ?_
      refine lv_ishl hx hb d_M_bits_32 ?_
      refine lv_topi (fun v_3 ev_3 => ?_)
      have z9 : v_3 = nI (2 ^ bb) := by rw [ev_3]; exact shl1 _ (by omega)
      subst z9
      refine lv_iconst (v := 1) hx hb d_M_bits_33 (by decide) ?_
      refine lv_isub hx hb d_M_bits_34 ?_
      refine lv_topi (fun v_4 ev_4 => ?_)
      have z9 : v_4 = nI (2 ^ bb - 1) := by rw [ev_4]; exact nI_pred9 hp0
      subst z9
      refine my_ci (wr := [(o, Sum.inr (9, mO g 4 fShift fModels (nI ki) 0 fLow fRange fCache fPend fGoes fOuts fIns fReads fBad fIR fAsk fBAsk fCode fRL fRR fX fWrites 0)), ((g 4), Sum.inl (cI, 600, Sum.inl vIM)), ((g 5), Sum.inl (cI, 600, Sum.inl vIW))]) (va_runS (As := [Value.int (nI vv), Value.int 0, Value.int (nI (2 ^ bb - 1))]) (rest := []) ⟨hx, hb, hml, hown, hts⟩ (c_M_in l dC dI cI cM cO H.size (nI vv) 0 (nI (2 ^ bb - 1))) (cwS 3 hts (my_gS k1062 k1063 k12 k1064) rfl rfl rfl (by decide +kernel) ⟨by rw [hR]; exact Nat.le_of_ble_eq_true rfl, by rw [hR]; exact Nat.le_of_ble_eq_true rfl⟩) (my_pre hK hN (hP.sub [] rfl) (hD.sub [] (by decide +kernel) rfl)) rfl rfl hl.1 rfl (lv_room (Nat.le_of_ble_eq_true rfl)) d_M_bits_35 ⟨by rw [hR]; exact Nat.le_of_ble_eq_true rfl, by rw [hR]; exact Nat.le_of_ble_eq_true rfl⟩) hP hD hS hA [] [0, 1, 2] rfl rfl (by decide +kernel) (by decide +kernel) (fun r_35 u9 H locs hw_35 hP hD hS => ?_)
      have hw_35 : r_35 = if 0 ≤ (nI vv) ∧ (nI vv) ≤ (nI (2 ^ bb - 1)) then 1 else 0 := hw_35
      have hPD : my_PD (dC, dI) vwCl A [(o, Sum.inr (9, mO g 4 fShift fModels (nI ki) 0 fLow fRange fCache fPend fGoes fOuts fIns fReads fBad fIR fAsk fBAsk fCode fRL fRR fX fWrites 0)), ((g 4), Sum.inl (cI, 600, Sum.inl vIM)), ((g 5), Sum.inl (cI, 600, Sum.inl vIW))] H := ⟨hP, hD⟩
      have hP := hPD.1
      have hD := hPD.2
      refine lv_if_ne (tgt := 44) hx hb d_M_bits_38 (by decide) (fun c_5 => ?_) (fun c_5 => ?_)
      · refine lv_aload_n hx hb d_M_bits_44 rfl (lv_at hl 0 rfl) ?_
        refine va_get (D := (dC, dI)) (ci := 9) (v := .int 0) (C := "RangeCodersModel") (T := T_M) (N := 35) hx hb hg in_M hown hK hP 0 rfl rfl 10 (by decide) (hg _ k962) (fun _ h9 => h9) rfl d_M_bits_45 ?_
        refine lv_if_eq (tgt := 54) hx hb d_M_bits_48 (by decide) (fun c_6 => ?_) (fun c_6 => ?_)
        · refine lv_aload_n hx hb d_M_bits_54 rfl (lv_at hl 0 rfl) ?_
          refine va_get (D := (dC, dI)) (ci := 9) (v := .int (nI ki)) (C := "RangeCodersModel") (T := T_M) (N := 35) hx hb hg in_M hown hK hP 0 rfl rfl 7 (by decide) (hg _ k959) (fun _ h9 => h9) rfl d_M_bits_55 ?_
          refine lv_sipush (v := 600) hx hb d_M_bits_58 (by decide) ?_
          refine lv_icmp_ne (tgt := 67) hx hb d_M_bits_61 (by decide) (fun c_7 => ?_) (fun c_7 => ?_)
          · refine lv_aload_n hx hb d_M_bits_67 rfl (lv_at hl 0 rfl) ?_
            refine lv_iload_n hx hb d_M_bits_68 rfl (lv_at hl 1 rfl) ?_
            refine lv_iload_n hx hb d_M_bits_69 rfl (lv_at hl 2 rfl) ?_
            refine my_cv (wr := [((g 4), Sum.inl (cI, 600, Sum.inl vIM)), ((g 5), Sum.inl (cI, 600, Sum.inl vIW))]) (va_runV (As := [Value.int (nI vv), Value.int (nI bb)]) (rest := []) ⟨hx, hb, hml, hown, hts⟩ (c_M_putValue4 l dC dI cI cM cO H.size o g fShift fModels (nI ki) 0 fLow fRange fCache fPend fGoes fOuts fIns fReads fBad fIR fAsk fBAsk fCode fRL fRR fX fWrites 0 (nI vv) (nI bb)) (cwV 2 hts (my_gV k1143 k1145 ks39 k12 k1146) rfl rfl rfl cu_M_putValue_2 ⟨by rw [hR]; exact Nat.le_of_ble_eq_true rfl, by rw [hR]; exact Nat.le_of_ble_eq_true rfl⟩) (my_preV hK hN (hP.sub [0] rfl) (hD.sub [0] (by decide +kernel) rfl) 0 rfl rfl) rfl rfl hl.1 rfl (lv_room (Nat.le_of_ble_eq_true rfl)) d_M_bits_70 ⟨by rw [hR]; exact Nat.le_of_ble_eq_true rfl, by rw [hR]; exact Nat.le_of_ble_eq_true rfl⟩) hP hD hS hA [0] [1, 2] rfl rfl (by decide +kernel) (by decide +kernel) (fun u9 H locs hw_70 hP hD hS => ?_)
            have hw_70 : True := hw_70
            have hPD : my_PD (dC, dI) vwCl A [((g 4), Sum.inl (cI, 600, Sum.inl vIM)), ((g 5), Sum.inl (cI, 600, Sum.inl vIW)), (o, Sum.inr (9, mO g 4 fShift fModels (nI ki) 0 fLow fRange fCache fPend fGoes fOuts fIns fReads fBad fIR fAsk fBAsk fCode fRL fRR fX fWrites 0))] H := ⟨hP, hD⟩
            have hP := hPD.1
            have hD := hPD.2
            refine lv_aload_n hx hb d_M_bits_73 rfl (lv_at hl 0 rfl) ?_
            refine lv_iload_n hx hb d_M_bits_74 rfl (lv_at hl 2 rfl) ?_
            refine lv_ineg hx hb d_M_bits_75 ?_
            refine lv_topi (fun v_8 ev_8 => ?_)
            refine lv_iload_n hx hb d_M_bits_76 rfl (lv_at hl 1 rfl) ?_
            refine my_ci (wr := []) (va_runV (As := [Value.int v_8, Value.int (nI vv)]) (rest := []) ⟨hx, hb, hml, hown, hts⟩ (c_M_addItem l dC dI cI cM cO H.size o g 4 fShift fModels 0 fLow fRange fCache fPend fGoes fOuts fIns fReads fBad fIR fAsk fBAsk fCode fRL fRR fX fWrites 0 vIM vIW ki v_8 (nI vv) (hki)) (cwV 2 hts (my_gV k1135 k1137 ks38 k12 k1138) rfl rfl rfl cu_M_addItem_2 ⟨by rw [hR]; exact Nat.le_of_ble_eq_true rfl, by rw [hR]; exact Nat.le_of_ble_eq_true rfl⟩) (my_preV hK hN (hP.sub [2, 0, 1] rfl) (hD.sub [2, 0, 1] (by decide +kernel) rfl) 0 rfl rfl) rfl rfl hl.1 rfl (lv_room (Nat.le_of_ble_eq_true rfl)) d_M_bits_77 ⟨by rw [hR]; exact Nat.le_of_ble_eq_true rfl, by rw [hR]; exact Nat.le_of_ble_eq_true rfl⟩) hP hD hS hA [2, 0, 1] [] rfl rfl (by decide +kernel) (by decide +kernel) (fun r_77 u9 H locs hw_77 hP hD hS => ?_)
            obtain ⟨f2_77, v2_77⟩ := u9
            have hw_77 : r_77 = nI (ki + 1) ∧ f2_77 = upd vIM ki v_8 ∧ v2_77 = upd vIW ki (nI vv) := hw_77
            have hPD : my_PD (dC, dI) vwCl A [(o, Sum.inr (9, mO g 4 fShift fModels (nI (ki + 1)) 0 fLow fRange fCache fPend fGoes fOuts fIns fReads fBad fIR fAsk fBAsk fCode fRL fRR fX fWrites 0)), ((g 4), Sum.inl (cI, 600, Sum.inl f2_77)), ((g 5), Sum.inl (cI, 600, Sum.inl v2_77))] H := ⟨hP, hD⟩
            have hP := hPD.1
            have hD := hPD.2
            exact my_iret (v := r_77) hx hb hr (rfl) hlocks hQ hK hS (Nat.le_refl _) (Nat.le_refl _) (f2_77, v2_77) (⟨hw_77.1, by rw [hw_77.2.1, ev_8], hw_77.2.2⟩) (hP.sub [0, 1, 2] rfl) (hD.sub [0, 1, 2] (by decide +kernel) rfl) d_M_bits_80
          · exact absurd (nI_inj (a := ki) (b := 600) (by omega) (by decide) c_7) (by omega)
        · exact absurd (by decide) c_6
      · exact absurd ⟨nI_pos' (by omega), nI_le (by omega) (by omega)⟩ (one_eq hw_35 c_5)
end
