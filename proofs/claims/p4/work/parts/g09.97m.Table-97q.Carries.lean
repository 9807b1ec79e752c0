section
set_option maxHeartbeats 2000000 in
set_option maxRecDepth 100000 in
theorem f_Table_stackValue (l : Launch) (dC : Nat → ClassId) (dI : Nat → Nat → Nat) (cI cM cO : ClassId) (sz : Nat) (sl : Nat) (co : Nat) (xx : Int64) (xreadX : Int64) (soa : Nat) (sna : Nat) (swa : Nat) (xkept : Int32) (ri : Nat) (ro : Nat) (rw : Nat) (xasked : Int32) (rwa : Nat) (rwk : Nat) (rwf : Nat → Int32) (ws : List Nat) (v : Nat) (b : Nat) (hbw : b ≤ 12) (hv : v < 65536) (hrw : rOk (nI ws.length) rwk) (hGrw : gIs rwf ws) (hN9 : ws.length + 12 ≤ 8000) : MetVg l y_Table_stackValue (Cond.code y_Table_stackValue prog_12_method_8_code 4 none :: gw) ({ frames := 3, cells := rPh rwk, slots := rPh rwk, locals := 83 } : Room) (dC, dI) vwCl (kT cI cM cO) [Value.ref co, Value.int (nI v), Value.int (nI b)] [(co, Sum.inr (5, [Value.long xx, Value.long xreadX, Value.ref soa, Value.ref sna, Value.ref swa, Value.int xkept, Value.ref ri, Value.ref ro, Value.ref rw, Value.int xasked])), (rw, Sum.inr (0, [Value.int (nI ws.length), Value.ref rwa])), (rwa, Sum.inl (cI, rwk, Sum.inl rwf))] sz sl (fun (u : Nat × Nat × (Nat → Int32)) => rOk (nI (ws ++ bvL v b).length) u.2.1 ∧ gIs u.2.2 (ws ++ bvL v b)) (fun (u : Nat × Nat × (Nat → Int32)) => [(co, Sum.inr (5, [Value.long xx, Value.long xreadX, Value.ref soa, Value.ref sna, Value.ref swa, Value.int xkept, Value.ref ri, Value.ref ro, Value.ref rw, Value.int xasked])), (rw, Sum.inr (0, [Value.int (nI (ws ++ bvL v b).length), Value.ref u.1])), (u.1, Sum.inl (cI, u.2.1, Sum.inl u.2.2))]) (rPh rwk) (fun (u : Nat × Nat × (Nat → Int32)) => rPh u.2.1) := by
  refine my_ofVg (cc := prog_12_method_8_code) (n := 4) (ret := none) (by decide) rfl (Nat.le_of_ble_eq_true rfl) ?_
  intro p e s m args below meth c R Q A ls H locs hx hb hr hts hown hlocks hml hnm hR hQ hA hl hP hK hN hD hS
  have hg : ∀ w ∈ gw, w.before args s = true := fun w h => hts w (List.mem_cons_of_mem _ h)
  have hown : s.vm.findClass "RangeCoders$Table" = some m.cls := hown
  have hl : lv_has ls 4 [(0, Value.ref co), (1, Value.int (nI v)), (2, Value.int (nI b))] := hl
  have hltw := rOk_lt hrw
  refine lv_iconst (v := 0) hx hb d_Table_stackValue_0 (by decide) ?_
  refine lv_istore_n (lv' := [(3, Value.int 0), (0, Value.ref co), (1, Value.int (nI v)), (2, Value.int (nI b))]) hx hb d_Table_stackValue_1 rfl hl (by decide) rfl (fun ls hl => ?_)
  have J_2 : ∀ (n9_2 : Nat) (j : Nat) (b9 : List Nat) (rwa9 : Nat) (rwk9 : Nat) (rwf9 : Nat → Int32) (d9 : Nat) (hn9_2 : b - j = n9_2) (hj : j ≤ b) (hb9 : b9 = ws ++ bvL v j) (hr9 : rOk (nI b9.length) rwk9) (hg9 : gIs rwf9 b9) (hd9 : d9 + rPh rwk9 ≤ rPh rwk) (H : Heap) (locs : List Loc) (ls : Array Slot), va_P (dC, dI) vwCl [(co, Sum.inr (5, [Value.long xx, Value.long xreadX, Value.ref soa, Value.ref sna, Value.ref swa, Value.int xkept, Value.ref ri, Value.ref ro, Value.ref rw, Value.int xasked])), (rw, Sum.inr (0, [Value.int (nI b9.length), Value.ref rwa9])), (rwa9, Sum.inl (cI, rwk9, Sum.inl rwf9))] H → va_D A [(co, Sum.inr (5, [Value.long xx, Value.long xreadX, Value.ref soa, Value.ref sna, Value.ref swa, Value.int xkept, Value.ref ri, Value.ref ro, Value.ref rw, Value.int xasked])), (rw, Sum.inr (0, [Value.int (nI b9.length), Value.ref rwa9])), (rwa9, Sum.inl (cI, rwk9, Sum.inl rwf9))] → va_S A s.heap H locs → lv_has ls 4 [(3, Value.int (nI j)), (0, Value.ref co), (1, Value.int (nI v)), (2, Value.int (nI b))] → W p l e R s m args below meth c H locs d9 d9 Q (F0 m 2 ls []) := by
    intro n9_2
    induction n9_2 using Nat.strongRecOn with
    | ind n9_2 ih9_2 =>
      intro j b9 rwa9 rwk9 rwf9 d9 hn9_2 hj hb9 hr9 hg9 hd9 H locs ls hP hD hS hl
      have hbl : b9.length = ws.length + j := by rw [hb9, List.length_append, bvL_len]
      refine lv_iload_n hx hb d_Table_stackValue_2 rfl (lv_at hl 0 rfl) ?_
      refine lv_iload_n hx hb d_Table_stackValue_3 rfl (lv_at hl 3 rfl) ?_
      refine lv_icmp_ge (tgt := 25) hx hb d_Table_stackValue_4 (by decide) (fun c_1 => ?_) (fun c_1 => ?_)
      · have hj3 : b = j := by have := nI_ge' (by omega) (by omega) c_1; omega
        subst hj3
        have hPD : my_PD (dC, dI) vwCl A [(co, Sum.inr (5, [Value.long xx, Value.long xreadX, Value.ref soa, Value.ref sna, Value.ref swa, Value.int xkept, Value.ref ri, Value.ref ro, Value.ref rw, Value.int xasked])), (rw, Sum.inr (0, [Value.int (nI b9.length), Value.ref rwa9])), (rwa9, Sum.inl (cI, rwk9, Sum.inl rwf9))] H := ⟨hP, hD⟩
        have hP := hPD.1
        have hD := hPD.2
        have z9 : b9 = ws ++ bvL v b := hb9
        subst z9
        exact my_vretg hx hb hr hlocks hQ hK hS (rwa9, rwk9, rwf9) (show d9 + (rPh rwk9) ≤ (rPh rwk) by omega) (show d9 + (rPh rwk9) ≤ (rPh rwk) by omega) (⟨hr9, hg9⟩) (hP.sub [0, 1, 2] rfl) (hD.sub [0, 1, 2] (by decide +kernel) rfl) d_Table_stackValue_25
      · have hj2 : j < b := nI_lt' (by omega) c_1
        have hvl : v / 2 ^ j ≤ v := Nat.div_le_self _ _
        refine lv_aload_n hx hb d_Table_stackValue_7 rfl (lv_at hl 1 rfl) ?_
        refine va_get (D := (dC, dI)) (ci := 5) (v := .ref rw) (C := "RangeCoders$Table") (T := T_Table) (N := 10) hx hb hg in_Table hown hK hP 0 rfl rfl 8 (by decide) (hg _ k120) (fun x9 h9 => u_same (hg _ k121) x9 h9) rfl d_Table_stackValue_8 ?_
        refine lv_iload_n hx hb d_Table_stackValue_11 rfl (lv_at hl 2 rfl) ?_
        refine lv_iload_n hx hb d_Table_stackValue_12 rfl (lv_at hl 0 rfl) ?_
        refine lv_iushr hx hb d_Table_stackValue_13 rfl ?_
        refine lv_topi (fun v_2 ev_2 => ?_)
        refine lv_iconst (v := 1) hx hb d_Table_stackValue_14 (by decide) ?_
        refine lv_iand hx hb d_Table_stackValue_15 ?_
        refine lv_topi (fun v_3 ev_3 => ?_)
        have z9 : v_3 = nI (v / 2 ^ j % 2) := by subst_vars; rw [I_ushr (by omega) (by omega)]; exact I_and1 (by omega)
        subst z9
        refine my_cvg (wr := [(co, Sum.inr (5, [Value.long xx, Value.long xreadX, Value.ref soa, Value.ref sna, Value.ref swa, Value.int xkept, Value.ref ri, Value.ref ro, Value.ref rw, Value.int xasked]))]) (va_runV (As := [Value.int (nI (v / 2 ^ j % 2))]) (rest := []) ⟨hx, hb, hml, hown, hts⟩ (f_Row_add l dC dI cI cM cO H.size (hSl H) rw rwa9 rwk9 rwf9 b9 (v / 2 ^ j % 2) (hr9) (hg9) (by omega)) (cwV 1 hts (my_gV k629 k473 k474 k6 k475) rfl rfl rfl cu_Row_add_1 ⟨by rw [hR]; exact Nat.le_of_ble_eq_true rfl, by rw [hR]; exact Nat.le_of_ble_eq_true rfl⟩) (my_preVg hK hN (hP.sub [1, 2] rfl) (hD.sub [1, 2] (by decide +kernel) rfl) 0 rfl rfl) rfl rfl hl.1 rfl (lv_room (Nat.le_of_ble_eq_true rfl)) d_Table_stackValue_16 ⟨by rw [hR]; exact (show d9 + (rPh rwk9) ≤ (rPh rwk) by omega), by rw [hR]; exact (show d9 + (rPh rwk9) ≤ (rPh rwk) by omega)⟩) hP hD hS hA [1, 2] [0] rfl rfl (by decide +kernel) (by decide +kernel) (fun u9 d_16 H locs hd_16 hw_16 hP hD hS => ?_)
        obtain ⟨rraq_16, rrkq_16, rrfq_16⟩ := u9
        obtain ⟨hrr_16, hGrr_16⟩ : rOk (nI (b9 ++ [(v / 2 ^ j % 2)]).length) rrkq_16 ∧ gIs rrfq_16 (b9 ++ [(v / 2 ^ j % 2)]) := hw_16
        have hd_16 : d_16 + (rPh rrkq_16) ≤ (rPh rwk9) := hd_16
        have hPD : my_PD (dC, dI) vwCl A [(co, Sum.inr (5, [Value.long xx, Value.long xreadX, Value.ref soa, Value.ref sna, Value.ref swa, Value.int xkept, Value.ref ri, Value.ref ro, Value.ref rw, Value.int xasked])), (rw, Sum.inr (0, [Value.int (nI (b9 ++ [(v / 2 ^ j % 2)]).length), Value.ref rraq_16])), (rraq_16, Sum.inl (cI, rrkq_16, Sum.inl rrfq_16))] H := ⟨hP, hD⟩
        have hP := hPD.1
        have hD := hPD.2
        obtain ⟨v_4, ev_4⟩ : ∃ y : Int32, y = (nI j) + (1) := ⟨_, rfl⟩
        refine lv_iinc (v := v_4) (lv' := [(3, Value.int v_4), (0, Value.ref co), (1, Value.int (nI v)), (2, Value.int (nI b))]) hx hb d_Table_stackValue_19 hl (k := 0) rfl (by rw [ev_4]; rfl) (by decide) rfl (fun ls hl => ?_)
        have z9 : v_4 = nI (j + 1) := by rw [ev_4]; exact nI_1 _
        subst z9
        refine lv_goto (tgt := 2) hx hb d_Table_stackValue_22 (by decide) ?_
        exact ih9_2 _ (by first | omega | (omega)) (j + 1) (b9 ++ [v / 2 ^ j % 2]) rraq_16 rrkq_16 rrfq_16 (d9 + d_16) rfl (by omega) (by rw [hb9, bvL, List.append_assoc]) (hrr_16) (hGrr_16) (by omega) H locs ls (hP.sub [0, 1, 2] rfl) (hD.sub [0, 1, 2] (by decide +kernel) rfl) hS (lv_sub hl [0, 1, 2, 3] rfl)
  exact J_2 _ (0 : Nat) ws rwa rwk rwf (0 : Nat) rfl (Nat.zero_le _) (by rw [bvL, List.append_nil]) (hrw) (hGrw) (by omega) H locs ls (hP.sub [0, 1, 2] rfl) (hD.sub [0, 1, 2] (by decide +kernel) rfl) hS (lv_sub hl [0, 1, 2, 3] rfl)
set_option maxHeartbeats 2000000 in
set_option maxRecDepth 100000 in
theorem f_Table_stackSign (l : Launch) (dC : Nat → ClassId) (dI : Nat → Nat → Nat) (cI cM cO : ClassId) (sz : Nat) (sl : Nat) (co : Nat) (xreadX : Int64) (soa : Nat) (sna : Nat) (swa : Nat) (xkept : Int32) (ri : Nat) (ro : Nat) (rw : Nat) (xasked : Int32) (rwa : Nat) (rwk : Nat) (rwf : Nat → Int32) (ws : List Nat) (oo : Nat) (osg : Int32) (ofc : Int32) (oca : Nat) (opa : Nat) (n : Nat) (ocf : Nat → Int32) (opf : Nat → Int32) (F : Nat → Nat) (osm : Int32) (t : Nat) (V : Nat) (hn : n ≤ 64) (hf : tbI ocf n F) (ht : t < n) (hfc : ofc ≤ nI t) (hFt : 0 < F t) (hsum : ns F n = 512) (hop : tbI opf 512 (plc F n)) (hV0 : 512 ≤ V) (hV1 : V < 1024) (hrw : rOk (nI ws.length) rwk) (hGrw : gIs rwf ws) (hN9 : ws.length + 12 ≤ 8000) : MetVg l y_Table_stackSign (Cond.code y_Table_stackSign prog_12_method_7_code 5 none :: gw) ({ frames := 3, cells := rPh rwk, slots := rPh rwk, locals := 83 } : Room) (dC, dI) vwCl (kT cI cM cO) [Value.ref co, Value.ref oo, Value.int (nI t)] [(co, Sum.inr (5, [Value.long (lN V), Value.long xreadX, Value.ref soa, Value.ref sna, Value.ref swa, Value.int xkept, Value.ref ri, Value.ref ro, Value.ref rw, Value.int xasked])), (rw, Sum.inr (0, [Value.int (nI ws.length), Value.ref rwa])), (rwa, Sum.inl (cI, rwk, Sum.inl rwf)), (oo, Sum.inr (7, [Value.int osg, Value.int osm, Value.int ofc, Value.ref oca, Value.ref opa])), (oca, Sum.inl (cI, n, Sum.inl ocf)), (opa, Sum.inl (cI, 512, Sum.inl opf))] sz sl (fun (u : Nat × Nat × (Nat → Int32)) => rOk (nI ((t4I F n t (V, ws)).2).length) u.2.1 ∧ gIs u.2.2 ((t4I F n t (V, ws)).2)) (fun (u : Nat × Nat × (Nat → Int32)) => [(co, Sum.inr (5, [Value.long (lN (t4I F n t (V, ws)).1), Value.long xreadX, Value.ref soa, Value.ref sna, Value.ref swa, Value.int xkept, Value.ref ri, Value.ref ro, Value.ref rw, Value.int xasked])), (rw, Sum.inr (0, [Value.int (nI (t4I F n t (V, ws)).2.length), Value.ref u.1])), (u.1, Sum.inl (cI, u.2.1, Sum.inl u.2.2)), (oo, Sum.inr (7, [Value.int osg, Value.int osm, Value.int ofc, Value.ref oca, Value.ref opa])), (oca, Sum.inl (cI, n, Sum.inl ocf)), (opa, Sum.inl (cI, 512, Sum.inl opf))]) (rPh rwk) (fun (u : Nat × Nat × (Nat → Int32)) => rPh u.2.1) := by
  refine my_ofVg (cc := prog_12_method_7_code) (n := 5) (ret := none) (by decide) rfl (Nat.le_of_ble_eq_true rfl) ?_
  intro p e s m args below meth c R Q A ls H locs hx hb hr hts hown hlocks hml hnm hR hQ hA hl hP hK hN hD hS
  have hg : ∀ w ∈ gw, w.before args s = true := fun w h => hts w (List.mem_cons_of_mem _ h)
  have hown : s.vm.findClass "RangeCoders$Table" = some m.cls := hown
  have hl : lv_has ls 5 [(0, Value.ref co), (1, Value.ref oo), (2, Value.int (nI t))] := hl
  have hltw := rOk_lt hrw
  have hng := ns_ge (F := F) ht
  refine lv_aload_n hx hb d_Table_stackSign_0 rfl (lv_at hl 1 rfl) ?_
  refine lv_iload_n hx hb d_Table_stackSign_1 rfl (lv_at hl 2 rfl) ?_
  refine my_ci (wr := [(co, Sum.inr (5, [Value.long (lN V), Value.long xreadX, Value.ref soa, Value.ref sna, Value.ref swa, Value.int xkept, Value.ref ri, Value.ref ro, Value.ref rw, Value.int xasked])), (rw, Sum.inr (0, [Value.int (nI ws.length), Value.ref rwa])), (rwa, Sum.inl (cI, rwk, Sum.inl rwf))]) (va_runV (As := [Value.int (nI t)]) (rest := []) ⟨hx, hb, hml, hown, hts⟩ (f_Odds_at l dC dI cI cM cO H.size oo osg ofc oca opa n ocf 512 opf osm t (by first | assumption | omega) (by decide) (by first | assumption | omega) (by first | assumption | omega)) (cwV 1 hts (my_gV k641 k436 k437 k14 k438) rfl rfl rfl cu_Odds_at_1 ⟨by rw [hR]; exact Nat.le_of_ble_eq_true rfl, by rw [hR]; exact Nat.le_of_ble_eq_true rfl⟩) (my_preV hK hN (hP.sub [3, 4, 5] rfl) (hD.sub [3, 4, 5] (by decide +kernel) rfl) 0 rfl rfl) rfl rfl hl.1 rfl (lv_room (Nat.le_of_ble_eq_true rfl)) d_Table_stackSign_2 ⟨by rw [hR]; exact (show 0 + 0 ≤ (rPh rwk) by omega), by rw [hR]; exact (show 0 + 0 ≤ (rPh rwk) by omega)⟩) hP hD hS hA [3, 4, 5] [0, 1, 2] rfl rfl (by decide +kernel) (by decide +kernel) (fun r_2 u9 H locs hw_2 hP hD hS => ?_)
  have hr_2 : r_2 = ocf t := hw_2
  have hPD : my_PD (dC, dI) vwCl A [(co, Sum.inr (5, [Value.long (lN V), Value.long xreadX, Value.ref soa, Value.ref sna, Value.ref swa, Value.int xkept, Value.ref ri, Value.ref ro, Value.ref rw, Value.int xasked])), (rw, Sum.inr (0, [Value.int (nI ws.length), Value.ref rwa])), (rwa, Sum.inl (cI, rwk, Sum.inl rwf)), (oo, Sum.inr (7, [Value.int osg, Value.int osm, Value.int ofc, Value.ref oca, Value.ref opa])), (oca, Sum.inl (cI, n, Sum.inl ocf)), (opa, Sum.inl (cI, 512, Sum.inl opf))] H := ⟨hP, hD⟩
  have hP := hPD.1
  have hD := hPD.2
  rw [hf t ht] at hr_2
  have z9 : r_2 = nI (F t) := hr_2
  subst z9
  refine lv_istore_n (lv' := [(3, Value.int (nI (F t))), (0, Value.ref co), (1, Value.ref oo), (2, Value.int (nI t))]) hx hb d_Table_stackSign_5 rfl hl (by decide) rfl (fun ls hl => ?_)
  refine lv_iconst (v := 0) hx hb d_Table_stackSign_6 (by decide) ?_
  refine lv_istore (lv' := [(4, Value.int 0), (3, Value.int (nI (F t))), (0, Value.ref co), (1, Value.ref oo), (2, Value.int (nI t))]) hx hb d_Table_stackSign_7 hl (by decide) rfl (fun ls hl => ?_)
  have J_9 : ∀ (n9_9 : Nat) (e9 : Nat × List Nat) (k9 : Nat) (rwa9 : Nat) (rwk9 : Nat) (rwf9 : Nat → Int32) (d9 : Nat) (hn9_9 : k9 = n9_9) (hE9 : t4N (F t) 10 (V, ws) = t4N (F t) k9 e9) (hk1 : k9 ≤ 10) (hf9 : F t ≤ e9.1) (hx9 : e9.1 < 2 ^ k9) (hx8 : e9.1 < 1024) (hM9 : e9.2.length + k9 ≤ ws.length + 10) (hr9 : rOk (nI e9.2.length) rwk9) (hg9 : gIs rwf9 e9.2) (hd9 : d9 + rPh rwk9 ≤ rPh rwk) (H : Heap) (locs : List Loc) (ls : Array Slot), va_P (dC, dI) vwCl [(co, Sum.inr (5, [Value.long (lN e9.1), Value.long xreadX, Value.ref soa, Value.ref sna, Value.ref swa, Value.int xkept, Value.ref ri, Value.ref ro, Value.ref rw, Value.int xasked])), (rw, Sum.inr (0, [Value.int (nI e9.2.length), Value.ref rwa9])), (rwa9, Sum.inl (cI, rwk9, Sum.inl rwf9)), (oo, Sum.inr (7, [Value.int osg, Value.int osm, Value.int ofc, Value.ref oca, Value.ref opa])), (oca, Sum.inl (cI, n, Sum.inl ocf)), (opa, Sum.inl (cI, 512, Sum.inl opf))] H → va_D A [(co, Sum.inr (5, [Value.long (lN e9.1), Value.long xreadX, Value.ref soa, Value.ref sna, Value.ref swa, Value.int xkept, Value.ref ri, Value.ref ro, Value.ref rw, Value.int xasked])), (rw, Sum.inr (0, [Value.int (nI e9.2.length), Value.ref rwa9])), (rwa9, Sum.inl (cI, rwk9, Sum.inl rwf9)), (oo, Sum.inr (7, [Value.int osg, Value.int osm, Value.int ofc, Value.ref oca, Value.ref opa])), (oca, Sum.inl (cI, n, Sum.inl ocf)), (opa, Sum.inl (cI, 512, Sum.inl opf))] → va_S A s.heap H locs → lv_has ls 5 [(4, Value.int (nI (10 - k9))), (3, Value.int (nI (F t))), (0, Value.ref co), (1, Value.ref oo), (2, Value.int (nI t))] → W p l e R s m args below meth c H locs d9 d9 Q (F0 m 9 ls []) := by
    intro n9_9
    induction n9_9 using Nat.strongRecOn with
    | ind n9_9 ih9_9 =>
      intro e9 k9 rwa9 rwk9 rwf9 d9 hn9_9 hE9 hk1 hf9 hx9 hx8 hM9 hr9 hg9 hd9 H locs ls hP hD hS hl
      have hk0 : 1 ≤ k9 := by
        rcases Nat.eq_zero_or_pos k9 with z | z
        · subst z; have : e9.1 < 1 := hx9; omega
        · exact z
      refine lv_iload hx hb d_Table_stackSign_9 (lv_at hl 0 rfl) ?_
      refine lv_bipush (v := 9) hx hb d_Table_stackSign_11 (by decide) ?_
      refine lv_icmp_gt (tgt := 60) hx hb d_Table_stackSign_13 (by decide) (fun c_1 => ?_) (fun c_1 => ?_)
      · exact absurd c_1 (Int32.not_lt.mpr (nI_le (b := 9) (show 10 - k9 ≤ 9 by omega) (by decide)))
      · refine lv_aload_n hx hb d_Table_stackSign_16 rfl (lv_at hl 2 rfl) ?_
        refine va_get (D := (dC, dI)) (ci := 5) (v := .long (lN e9.1)) (C := "RangeCoders$Table") (T := T_Table) (N := 10) hx hb hg in_Table hown hK hP 0 rfl rfl 0 (by decide) (hg _ k213) (fun x9 h9 => u_same (hg _ k214) x9 h9) rfl d_Table_stackSign_17 ?_
        refine lv_ldc2 (v := 2) hx hb hown (hg _ k642) d_Table_stackSign_20 ?_
        refine lv_iload_n hx hb d_Table_stackSign_23 rfl (lv_at hl 1 rfl) ?_
        refine lv_i2l hx hb d_Table_stackSign_24 rfl ?_
        refine lv_topl (fun v_2 ev_2 => ?_)
        refine lv_lmul hx hb d_Table_stackSign_25 ?_
        refine lv_topl (fun v_3 ev_3 => ?_)
        have z9 : v_3 = lN (2 * F t) := by subst_vars; rw [nI_l (by omega)]; exact lN_mul 2 (F t)
        subst z9
        refine W.lcmp hx hb d_Table_stackSign_26 ?_
        refine lv_if_lt (tgt := 60) hx hb d_Table_stackSign_27 (by decide) (fun c_4 => ?_) (fun c_4 => ?_)
        · rw [lg_cmp_lt] at c_4
          have hlt : ¬ 2 * F t ≤ e9.1 := by have q := (L_lt (by omega) (by omega)).mp c_4; omega
          have hx7 : t4N (F t) 10 (V, ws) = e9 := by rw [hE9, t4N_e hlt]
          obtain ⟨hq1, hq2, hq3⟩ := plO_ok (d := e9.1 - F t) hsum ht (by omega)
          have hq4 : cn (plc F n) t (plO F n t (e9.1 - F t)) = e9.1 - F t := by have z9 := hq3; unfold num at z9; rw [hq2] at z9; exact z9
          have hq5 : ∀ p, p < 512 → plc F n p < 64 := fun p _ => Nat.lt_of_lt_of_le (plc_lt hsum) hn
          refine lv_aload_n hx hb d_Table_stackSign_60 rfl (lv_at hl 2 rfl) ?_
          refine lv_sipush (v := 512) hx hb d_Table_stackSign_61 (by decide) ?_
          refine lv_aload_n hx hb d_Table_stackSign_64 rfl (lv_at hl 3 rfl) ?_
          refine lv_iload_n hx hb d_Table_stackSign_65 rfl (lv_at hl 4 rfl) ?_
          refine lv_aload_n hx hb d_Table_stackSign_66 rfl (lv_at hl 2 rfl) ?_
          refine va_get (D := (dC, dI)) (ci := 5) (v := .long (lN e9.1)) (C := "RangeCoders$Table") (T := T_Table) (N := 10) hx hb hg in_Table hown hK hP 0 rfl rfl 0 (by decide) (hg _ k213) (fun x9 h9 => u_same (hg _ k214) x9 h9) rfl d_Table_stackSign_67 ?_
          refine lv_l2i hx hb d_Table_stackSign_70 rfl ?_
          refine lv_topi (fun v_5 ev_5 => ?_)
          refine lv_iload_n hx hb d_Table_stackSign_71 rfl (lv_at hl 1 rfl) ?_
          refine lv_isub hx hb d_Table_stackSign_72 ?_
          refine lv_topi (fun v_6 ev_6 => ?_)
          have z9 : v_6 = nI (e9.1 - F t) := by subst_vars; rw [lN_i]; exact pk_sub hf9
          subst z9
          refine my_ci (wr := [(co, Sum.inr (5, [Value.long (lN e9.1), Value.long xreadX, Value.ref soa, Value.ref sna, Value.ref swa, Value.int xkept, Value.ref ri, Value.ref ro, Value.ref rw, Value.int xasked])), (rw, Sum.inr (0, [Value.int (nI e9.2.length), Value.ref rwa9])), (rwa9, Sum.inl (cI, rwk9, Sum.inl rwf9))]) (va_runV (As := [Value.int (nI t), Value.int (nI (e9.1 - F t))]) (rest := [Value.int 512, Value.ref co]) ⟨hx, hb, hml, hown, hts⟩ (f_Odds_placeOf l dC dI cI cM cO H.size oo osg ofc oca opa n ocf 512 opf osm (plc F n) t (e9.1 - F t) (plO F n t (e9.1 - F t)) (by first | assumption | omega) (by decide) (by first | assumption | omega) (hq5) (by omega) (hq1) (hq2) (hq4)) (cwV 2 hts (my_gV k643 k644 k645 k14 k646) rfl rfl rfl cu_Odds_placeOf_2 ⟨by rw [hR]; exact Nat.le_of_ble_eq_true rfl, by rw [hR]; exact Nat.le_of_ble_eq_true rfl⟩) (my_preV hK hN (hP.sub [3, 4, 5] rfl) (hD.sub [3, 4, 5] (by decide +kernel) rfl) 0 rfl rfl) rfl rfl hl.1 rfl (lv_room (Nat.le_of_ble_eq_true rfl)) d_Table_stackSign_73 ⟨by rw [hR]; exact (show d9 + 0 ≤ (rPh rwk) by omega), by rw [hR]; exact (show d9 + 0 ≤ (rPh rwk) by omega)⟩) hP hD hS hA [3, 4, 5] [0, 1, 2] rfl rfl (by decide +kernel) (by decide +kernel) (fun r_73 u9 H locs hw_73 hP hD hS => ?_)
          have hr_73 : r_73 = nI (plO F n t (e9.1 - F t)) := hw_73
          have hPD : my_PD (dC, dI) vwCl A [(co, Sum.inr (5, [Value.long (lN e9.1), Value.long xreadX, Value.ref soa, Value.ref sna, Value.ref swa, Value.int xkept, Value.ref ri, Value.ref ro, Value.ref rw, Value.int xasked])), (rw, Sum.inr (0, [Value.int (nI e9.2.length), Value.ref rwa9])), (rwa9, Sum.inl (cI, rwk9, Sum.inl rwf9)), (oo, Sum.inr (7, [Value.int osg, Value.int osm, Value.int ofc, Value.ref oca, Value.ref opa])), (oca, Sum.inl (cI, n, Sum.inl ocf)), (opa, Sum.inl (cI, 512, Sum.inl opf))] H := ⟨hP, hD⟩
          have hP := hPD.1
          have hD := hPD.2
          have z9 : r_73 = nI (plO F n t (e9.1 - F t)) := hr_73
          subst z9
          refine lv_iadd hx hb d_Table_stackSign_76 ?_
          refine lv_topi (fun v_7 ev_7 => ?_)
          refine lv_i2l hx hb d_Table_stackSign_77 rfl ?_
          refine lv_topl (fun v_8 ev_8 => ?_)
          have z9 : v_8 = lN (t4I F n t (V, ws)).1 := by unfold t4I; rw [hx7, ev_8, ev_7, show (512 : Int32) + nI (plO F n t (e9.1 - F t)) = nI (512 + plO F n t (e9.1 - F t)) from nI_add 512 _]; exact nI_l (by omega)
          subst z9
          have hsu : (nI e9.2.length : Int32) = nI (t4I F n t (V, ws)).2.length := by unfold t4I; rw [hx7]
          rw [hsu] at hP hD
          have hPD : my_PD (dC, dI) vwCl A [(co, Sum.inr (5, [Value.long (lN e9.1), Value.long xreadX, Value.ref soa, Value.ref sna, Value.ref swa, Value.int xkept, Value.ref ri, Value.ref ro, Value.ref rw, Value.int xasked])), (rw, Sum.inr (0, [Value.int (nI (t4I F n t (V, ws)).2.length), Value.ref rwa9])), (rwa9, Sum.inl (cI, rwk9, Sum.inl rwf9)), (oo, Sum.inr (7, [Value.int osg, Value.int osm, Value.int ofc, Value.ref oca, Value.ref opa])), (oca, Sum.inl (cI, n, Sum.inl ocf)), (opa, Sum.inl (cI, 512, Sum.inl opf))] H := ⟨hP, hD⟩
          have hP := hPD.1
          have hD := hPD.2
          refine va_put (D := (dC, dI)) (ci := 5) (v := .long (lN (t4I F n t (V, ws)).1)) (ty := .long) (C := "RangeCoders$Table") (T := T_Table) (N := 10) hx hb hg in_Table t_Table o_Table n_Table hown hK hP hD hS 0 rfl rfl 0 (by decide) (hg _ k213) (fun x9 h9 => u_same (hg _ k214) x9 h9) rfl (o_Table 0 (by decide)) rfl rfl (Nat.le_of_ble_eq_true rfl) d_Table_stackSign_78 (fun H locs hP hD hS => ?_)
          have hPD : my_PD (dC, dI) vwCl A [(co, Sum.inr (5, [Value.long (lN (t4I F n t (V, ws)).1), Value.long xreadX, Value.ref soa, Value.ref sna, Value.ref swa, Value.int xkept, Value.ref ri, Value.ref ro, Value.ref rw, Value.int xasked])), (rw, Sum.inr (0, [Value.int (nI (t4I F n t (V, ws)).2.length), Value.ref rwa9])), (rwa9, Sum.inl (cI, rwk9, Sum.inl rwf9)), (oo, Sum.inr (7, [Value.int osg, Value.int osm, Value.int ofc, Value.ref oca, Value.ref opa])), (oca, Sum.inl (cI, n, Sum.inl ocf)), (opa, Sum.inl (cI, 512, Sum.inl opf))] H := ⟨hP, hD⟩
          have hP := hPD.1
          have hD := hPD.2
          exact my_vretg hx hb hr hlocks hQ hK hS (rwa9, rwk9, rwf9) (show d9 + (rPh rwk9) ≤ (rPh rwk) by omega) (show d9 + (rPh rwk9) ≤ (rPh rwk) by omega) (⟨by unfold t4I; rw [hx7]; exact hr9, by unfold t4I; rw [hx7]; exact hg9⟩) (hP.sub [0, 1, 2, 3, 4, 5] rfl) (hD.sub [0, 1, 2, 3, 4, 5] (by decide +kernel) rfl) d_Table_stackSign_81
        · rw [lg_cmp_lt] at c_4
          have hge : 2 * F t ≤ e9.1 := by
            rcases Nat.lt_or_ge e9.1 (2 * F t) with q | q
            · exact absurd ((L_lt (by omega) (by omega)).mpr q) c_4
            · exact q
          have hk7 := pw_k hx9 (by omega)
          refine lv_aload_n hx hb d_Table_stackSign_30 rfl (lv_at hl 2 rfl) ?_
          refine va_get (D := (dC, dI)) (ci := 5) (v := .ref rw) (C := "RangeCoders$Table") (T := T_Table) (N := 10) hx hb hg in_Table hown hK hP 0 rfl rfl 8 (by decide) (hg _ k120) (fun x9 h9 => u_same (hg _ k121) x9 h9) rfl d_Table_stackSign_31 ?_
          refine lv_aload_n hx hb d_Table_stackSign_34 rfl (lv_at hl 2 rfl) ?_
          refine va_get (D := (dC, dI)) (ci := 5) (v := .long (lN e9.1)) (C := "RangeCoders$Table") (T := T_Table) (N := 10) hx hb hg in_Table hown hK hP 0 rfl rfl 0 (by decide) (hg _ k213) (fun x9 h9 => u_same (hg _ k214) x9 h9) rfl d_Table_stackSign_35 ?_
          refine lv_lconst (v := 1) hx hb d_Table_stackSign_38 (by decide) ?_
          refine lv_land hx hb d_Table_stackSign_39 ?_
          refine lv_topl (fun v_9 ev_9 => ?_)
          refine lv_l2i hx hb d_Table_stackSign_40 rfl ?_
          refine lv_topi (fun v_10 ev_10 => ?_)
          have z9 : v_10 = nI (e9.1 % 2) := by subst_vars; rw [wb_a1 (by omega)]; exact lN_i _
          subst z9
          refine my_cvg (wr := [(co, Sum.inr (5, [Value.long (lN e9.1), Value.long xreadX, Value.ref soa, Value.ref sna, Value.ref swa, Value.int xkept, Value.ref ri, Value.ref ro, Value.ref rw, Value.int xasked])), (oo, Sum.inr (7, [Value.int osg, Value.int osm, Value.int ofc, Value.ref oca, Value.ref opa])), (oca, Sum.inl (cI, n, Sum.inl ocf)), (opa, Sum.inl (cI, 512, Sum.inl opf))]) (va_runV (As := [Value.int (nI (e9.1 % 2))]) (rest := []) ⟨hx, hb, hml, hown, hts⟩ (f_Row_add l dC dI cI cM cO H.size (hSl H) rw rwa9 rwk9 rwf9 e9.2 (e9.1 % 2) (hr9) (hg9) (by omega)) (cwV 1 hts (my_gV k629 k473 k474 k6 k475) rfl rfl rfl cu_Row_add_1 ⟨by rw [hR]; exact Nat.le_of_ble_eq_true rfl, by rw [hR]; exact Nat.le_of_ble_eq_true rfl⟩) (my_preVg hK hN (hP.sub [1, 2] rfl) (hD.sub [1, 2] (by decide +kernel) rfl) 0 rfl rfl) rfl rfl hl.1 rfl (lv_room (Nat.le_of_ble_eq_true rfl)) d_Table_stackSign_41 ⟨by rw [hR]; exact (show d9 + (rPh rwk9) ≤ (rPh rwk) by omega), by rw [hR]; exact (show d9 + (rPh rwk9) ≤ (rPh rwk) by omega)⟩) hP hD hS hA [1, 2] [0, 3, 4, 5] rfl rfl (by decide +kernel) (by decide +kernel) (fun u9 d_41 H locs hd_41 hw_41 hP hD hS => ?_)
          obtain ⟨rraq_41, rrkq_41, rrfq_41⟩ := u9
          obtain ⟨hrr_41, hGrr_41⟩ : rOk (nI (e9.2 ++ [(e9.1 % 2)]).length) rrkq_41 ∧ gIs rrfq_41 (e9.2 ++ [(e9.1 % 2)]) := hw_41
          have hd_41 : d_41 + (rPh rrkq_41) ≤ (rPh rwk9) := hd_41
          have hPD : my_PD (dC, dI) vwCl A [(co, Sum.inr (5, [Value.long (lN e9.1), Value.long xreadX, Value.ref soa, Value.ref sna, Value.ref swa, Value.int xkept, Value.ref ri, Value.ref ro, Value.ref rw, Value.int xasked])), (oo, Sum.inr (7, [Value.int osg, Value.int osm, Value.int ofc, Value.ref oca, Value.ref opa])), (oca, Sum.inl (cI, n, Sum.inl ocf)), (opa, Sum.inl (cI, 512, Sum.inl opf)), (rw, Sum.inr (0, [Value.int (nI (e9.2 ++ [(e9.1 % 2)]).length), Value.ref rraq_41])), (rraq_41, Sum.inl (cI, rrkq_41, Sum.inl rrfq_41))] H := ⟨hP, hD⟩
          have hP := hPD.1
          have hD := hPD.2
          refine lv_aload_n hx hb d_Table_stackSign_44 rfl (lv_at hl 2 rfl) ?_
          refine lv_dup hx hb d_Table_stackSign_45 rfl ?_
          refine va_get (D := (dC, dI)) (ci := 5) (v := .long (lN e9.1)) (C := "RangeCoders$Table") (T := T_Table) (N := 10) hx hb hg in_Table hown hK hP 0 rfl rfl 0 (by decide) (hg _ k213) (fun x9 h9 => u_same (hg _ k214) x9 h9) rfl d_Table_stackSign_46 ?_
          refine lv_iconst (v := 1) hx hb d_Table_stackSign_49 (by decide) ?_
          refine lv_lushr hx hb d_Table_stackSign_50 rfl ?_
          refine lv_topl (fun v_11 ev_11 => ?_)
          have z9 : v_11 = lN (e9.1 / 2) := by rw [ev_11]; exact U_shr1 (by omega)
          subst z9
          refine va_put (D := (dC, dI)) (ci := 5) (v := .long (lN (e9.1 / 2))) (ty := .long) (C := "RangeCoders$Table") (T := T_Table) (N := 10) hx hb hg in_Table t_Table o_Table n_Table hown hK hP hD hS 0 rfl rfl 0 (by decide) (hg _ k213) (fun x9 h9 => u_same (hg _ k214) x9 h9) rfl (o_Table 0 (by decide)) rfl rfl (Nat.le_of_ble_eq_true rfl) d_Table_stackSign_51 (fun H locs hP hD hS => ?_)
          have hPD : my_PD (dC, dI) vwCl A [(co, Sum.inr (5, [Value.long (lN (e9.1 / 2)), Value.long xreadX, Value.ref soa, Value.ref sna, Value.ref swa, Value.int xkept, Value.ref ri, Value.ref ro, Value.ref rw, Value.int xasked])), (oo, Sum.inr (7, [Value.int osg, Value.int osm, Value.int ofc, Value.ref oca, Value.ref opa])), (oca, Sum.inl (cI, n, Sum.inl ocf)), (opa, Sum.inl (cI, 512, Sum.inl opf)), (rw, Sum.inr (0, [Value.int (nI (e9.2 ++ [(e9.1 % 2)]).length), Value.ref rraq_41])), (rraq_41, Sum.inl (cI, rrkq_41, Sum.inl rrfq_41))] H := ⟨hP, hD⟩
          have hP := hPD.1
          have hD := hPD.2
          obtain ⟨v_12, ev_12⟩ : ∃ y : Int32, y = (nI (10 - k9)) + (1) := ⟨_, rfl⟩
          refine lv_iinc (v := v_12) (lv' := [(4, Value.int v_12), (3, Value.int (nI (F t))), (0, Value.ref co), (1, Value.ref oo), (2, Value.int (nI t))]) hx hb d_Table_stackSign_54 hl (k := 0) rfl (by rw [ev_12]; rfl) (by decide) rfl (fun ls hl => ?_)
          have z9 : v_12 = nI (10 - (k9 - 1)) := by rw [ev_12, show 10 - (k9 - 1) = 10 - k9 + 1 by omega]; exact nI_1 _
          subst z9
          refine lv_goto (tgt := 9) hx hb d_Table_stackSign_57 (by decide) ?_
          exact ih9_9 _ (by first | omega | (omega)) (e9.1 / 2, e9.2 ++ [e9.1 % 2]) (k9 - 1) rraq_41 rrkq_41 rrfq_41 (d9 + d_41) rfl (by rw [hE9, t4N_s (by omega) hge]) (by omega) (by show F t ≤ e9.1 / 2; omega) (pw_h hx9 (by omega)) (by show e9.1 / 2 < 1024; omega) (by show (e9.2 ++ [_]).length + (k9 - 1) ≤ _; rw [List.length_append, List.length_singleton]; omega) (hrr_41) (hGrr_41) (by omega) H locs ls (hP.sub [0, 4, 5, 1, 2, 3] rfl) (hD.sub [0, 4, 5, 1, 2, 3] (by decide +kernel) rfl) hS (lv_sub hl [0, 1, 2, 3, 4] rfl)
  exact J_9 _ (V, ws) (10 : Nat) rwa rwk rwf (0 : Nat) rfl (rfl) (by decide) (by show F t ≤ V; omega) (hV1) (hV1) (Nat.le_refl _) (hrw) (hGrw) (by omega) H locs ls (hP.sub [0, 1, 2, 3, 4, 5] rfl) (hD.sub [0, 1, 2, 3, 4, 5] (by decide +kernel) rfl) hS (lv_sub hl [0, 1, 2, 3, 4] rfl)
set_option maxHeartbeats 2000000 in
set_option maxRecDepth 100000 in
theorem f_Table_byteOfWritten (l : Launch) (dC : Nat → ClassId) (dI : Nat → Nat → Nat) (cI cM cO : ClassId) (sz : Nat) (co : Nat) (xx : Int64) (xreadX : Int64) (soa : Nat) (sna : Nat) (swa : Nat) (xkept : Int32) (ri : Nat) (ro : Nat) (rw : Nat) (xasked : Int32) (rwa : Nat) (rwk : Nat) (rwf : Nat → Int32) (ws : List Nat) (fm : Nat) (hrw : rOk (nI ws.length) rwk) (hGrw : gIs rwf ws) (hN9 : ws.length ≤ 8000) (hfm : fm ≤ 8000) (hb2 : bt2 ws) : MetI l y_Table_byteOfWritten (Cond.code y_Table_byteOfWritten prog_12_method_13_code 5 (some .int) :: gw) ({ frames := 2, cells := 0, slots := 0, locals := 42 } : Room) (dC, dI) vwCl (kT cI cM cO) [Value.ref co, Value.int (nI fm)] [(co, Sum.inr (5, [Value.long xx, Value.long xreadX, Value.ref soa, Value.ref sna, Value.ref swa, Value.int xkept, Value.ref ri, Value.ref ro, Value.ref rw, Value.int xasked])), (rw, Sum.inr (0, [Value.int (nI ws.length), Value.ref rwa])), (rwa, Sum.inl (cI, rwk, Sum.inl rwf))] sz (fun (r : Int32) (u : Unit) => r = nI (byW ws fm 8)) (fun (u : Unit) => [(co, Sum.inr (5, [Value.long xx, Value.long xreadX, Value.ref soa, Value.ref sna, Value.ref swa, Value.int xkept, Value.ref ri, Value.ref ro, Value.ref rw, Value.int xasked])), (rw, Sum.inr (0, [Value.int (nI ws.length), Value.ref rwa])), (rwa, Sum.inl (cI, rwk, Sum.inl rwf))]) 0 0 := by
  refine my_ofI (cc := prog_12_method_13_code) (n := 5) (ret := (some .int)) (by decide) rfl (Nat.le_of_ble_eq_true rfl) ?_
  intro p e s m args below meth c R Q A ls H locs hx hb hr hts hown hlocks hml hnm hR hQ hA hl hP hK hN hD hS
  have hg : ∀ w ∈ gw, w.before args s = true := fun w h => hts w (List.mem_cons_of_mem _ h)
  have hown : s.vm.findClass "RangeCoders$Table" = some m.cls := hown
  have hl : lv_has ls 5 [(0, Value.ref co), (1, Value.int (nI fm))] := hl
  have hltw := rOk_lt hrw
  refine lv_iconst (v := 0) hx hb d_Table_byteOfWritten_0 (by decide) ?_
  refine lv_istore_n (lv' := [(2, Value.int 0), (0, Value.ref co), (1, Value.int (nI fm))]) hx hb d_Table_byteOfWritten_1 rfl hl (by decide) rfl (fun ls hl => ?_)
  refine lv_iload_n hx hb d_Table_byteOfWritten_2 rfl (lv_at hl 2 rfl) ?_
  refine lv_istore_n (lv' := [(3, Value.int (nI fm)), (2, Value.int 0), (0, Value.ref co), (1, Value.int (nI fm))]) hx hb d_Table_byteOfWritten_3 rfl hl (by decide) rfl (fun ls hl => ?_)
  have J_4 : ∀ (n9_4 : Nat) (j : Nat) (hn9_4 : 8 - j = n9_4) (hj : j ≤ 8) (H : Heap) (locs : List Loc) (ls : Array Slot), va_P (dC, dI) vwCl [(co, Sum.inr (5, [Value.long xx, Value.long xreadX, Value.ref soa, Value.ref sna, Value.ref swa, Value.int xkept, Value.ref ri, Value.ref ro, Value.ref rw, Value.int xasked])), (rw, Sum.inr (0, [Value.int (nI ws.length), Value.ref rwa])), (rwa, Sum.inl (cI, rwk, Sum.inl rwf))] H → va_D A [(co, Sum.inr (5, [Value.long xx, Value.long xreadX, Value.ref soa, Value.ref sna, Value.ref swa, Value.int xkept, Value.ref ri, Value.ref ro, Value.ref rw, Value.int xasked])), (rw, Sum.inr (0, [Value.int (nI ws.length), Value.ref rwa])), (rwa, Sum.inl (cI, rwk, Sum.inl rwf))] → va_S A s.heap H locs → lv_has ls 5 [(3, Value.int (nI (fm + j))), (2, Value.int (nI (byW ws fm j))), (0, Value.ref co), (1, Value.int (nI fm))] → W p l e R s m args below meth c H locs 0 0 Q (F0 m 4 ls []) := by
    intro n9_4
    induction n9_4 using Nat.strongRecOn with
    | ind n9_4 ih9_4 =>
      intro j hn9_4 hj H locs ls hP hD hS hl
      have hbw := byW_lt hb2 fm j
      have hbp : 2 ^ j ≤ 256 := Nat.pow_le_pow_right (n := 2) (by decide) hj
      refine lv_iload_n hx hb d_Table_byteOfWritten_4 rfl (lv_at hl 0 rfl) ?_
      refine lv_iload_n hx hb d_Table_byteOfWritten_5 rfl (lv_at hl 3 rfl) ?_
      refine lv_bipush (v := 8) hx hb d_Table_byteOfWritten_6 (by decide) ?_
      refine lv_iadd hx hb d_Table_byteOfWritten_8 ?_
      refine lv_topi (fun v_1 ev_1 => ?_)
      have z9 : v_1 = nI (fm + 8) := by rw [ev_1]; exact nI_add fm 8
      subst z9
      refine lv_icmp_ge (tgt := 61) hx hb d_Table_byteOfWritten_9 (by decide) (fun c_2 => ?_) (fun c_2 => ?_)
      · have hj3 : j = 8 := by have := nI_ge' (by omega) (by omega) c_2; omega
        refine lv_iload_n hx hb d_Table_byteOfWritten_61 rfl (lv_at hl 1 rfl) ?_
        exact my_iret (v := nI (byW ws fm j)) hx hb hr (rfl) hlocks hQ hK hS (Nat.le_refl _) (Nat.le_refl _) () (by rw [hj3]) (hP.sub [0, 1, 2] rfl) (hD.sub [0, 1, 2] (by decide +kernel) rfl) d_Table_byteOfWritten_62
      · have hj2 : j < 8 := by have := nI_lt' (by omega) c_2; omega
        refine lv_aload_n hx hb d_Table_byteOfWritten_12 rfl (lv_at hl 2 rfl) ?_
        refine va_get (D := (dC, dI)) (ci := 5) (v := .ref rw) (C := "RangeCoders$Table") (T := T_Table) (N := 10) hx hb hg in_Table hown hK hP 0 rfl rfl 8 (by decide) (hg _ k120) (fun x9 h9 => u_same (hg _ k121) x9 h9) rfl d_Table_byteOfWritten_13 ?_
        refine va_get (D := (dC, dI)) (ci := 0) (v := .int (nI ws.length)) (C := "RangeCoders$Row") (T := T_Row) (N := 2) hx hb hg in_Row hown hK hP 1 rfl rfl 0 (by decide) (hg _ k59) (fun _ h9 => h9) rfl d_Table_byteOfWritten_16 ?_
        refine lv_iconst (v := 1) hx hb d_Table_byteOfWritten_19 (by decide) ?_
        refine lv_isub hx hb d_Table_byteOfWritten_20 ?_
        refine lv_topi (fun v_3 ev_3 => ?_)
        refine lv_iload_n hx hb d_Table_byteOfWritten_21 rfl (lv_at hl 0 rfl) ?_
        refine lv_isub hx hb d_Table_byteOfWritten_22 ?_
        refine lv_topi (fun v_4 ev_4 => ?_)
        refine lv_istore (lv' := [(4, Value.int v_4), (3, Value.int (nI (fm + j))), (2, Value.int (nI (byW ws fm j))), (0, Value.ref co), (1, Value.int (nI fm))]) hx hb d_Table_byteOfWritten_23 hl (by decide) rfl (fun ls hl => ?_)
        refine lv_iconst (v := 2) hx hb d_Table_byteOfWritten_25 (by decide) ?_
        refine lv_iload_n hx hb d_Table_byteOfWritten_26 rfl (lv_at hl 2 rfl) ?_
        refine lv_imul hx hb d_Table_byteOfWritten_27 ?_
        refine lv_topi (fun v_5 ev_5 => ?_)
        refine lv_aload_n hx hb d_Table_byteOfWritten_28 rfl (lv_at hl 3 rfl) ?_
        refine va_get (D := (dC, dI)) (ci := 5) (v := .ref rw) (C := "RangeCoders$Table") (T := T_Table) (N := 10) hx hb hg in_Table hown hK hP 0 rfl rfl 8 (by decide) (hg _ k120) (fun x9 h9 => u_same (hg _ k121) x9 h9) rfl d_Table_byteOfWritten_29 ?_
        refine lv_iload hx hb d_Table_byteOfWritten_32 (lv_at hl 0 rfl) ?_
        refine my_ci (wr := [(co, Sum.inr (5, [Value.long xx, Value.long xreadX, Value.ref soa, Value.ref sna, Value.ref swa, Value.int xkept, Value.ref ri, Value.ref ro, Value.ref rw, Value.int xasked]))]) (va_runV (As := [Value.int v_4]) (rest := [Value.int v_5]) ⟨hx, hb, hml, hown, hts⟩ (f_Row_has l dC dI cI cM cO H.size rw rwa rwk rwf ws v_4 (hrw) (hGrw) (by omega)) (cwV 1 hts (my_gV k676 k663 k664 k6 k665) rfl rfl rfl cu_Row_has_1 ⟨by rw [hR]; exact Nat.le_of_ble_eq_true rfl, by rw [hR]; exact Nat.le_of_ble_eq_true rfl⟩) (my_preV hK hN (hP.sub [1, 2] rfl) (hD.sub [1, 2] (by decide +kernel) rfl) 0 rfl rfl) rfl rfl hl.1 rfl (lv_room (Nat.le_of_ble_eq_true rfl)) d_Table_byteOfWritten_34 ⟨by rw [hR]; exact Nat.le_of_ble_eq_true rfl, by rw [hR]; exact Nat.le_of_ble_eq_true rfl⟩) hP hD hS hA [1, 2] [0] rfl rfl (by decide +kernel) (by decide +kernel) (fun r_34 u9 H locs hw_34 hP hD hS => ?_)
        obtain ⟨hr_34, hv_34⟩ : (r_34 = if 0 ≤ v_4 ∧ v_4 < nI ws.length then 1 else 0) ∧ (r_34 ≠ 0 → vp_in v_4 rwk) := hw_34
        have hPD : my_PD (dC, dI) vwCl A [(co, Sum.inr (5, [Value.long xx, Value.long xreadX, Value.ref soa, Value.ref sna, Value.ref swa, Value.int xkept, Value.ref ri, Value.ref ro, Value.ref rw, Value.int xasked])), (rw, Sum.inr (0, [Value.int (nI ws.length), Value.ref rwa])), (rwa, Sum.inl (cI, rwk, Sum.inl rwf))] H := ⟨hP, hD⟩
        have hP := hPD.1
        have hD := hPD.2
        refine lv_if_eq (tgt := 52) hx hb d_Table_byteOfWritten_37 (by decide) (fun c_6 => ?_) (fun c_6 => ?_)
        · refine lv_iconst (v := 0) hx hb d_Table_byteOfWritten_52 (by decide) ?_
          have hx9 : (0 : Int32) = nI (rvB ws (fm + j)) := by rw [rv_0 (by omega) (by omega) (by subst_vars; rfl) (one_eq hr_34 c_6)]; rfl
          refine lv_iadd hx hb d_Table_byteOfWritten_53 ?_
          refine lv_topi (fun v_7 ev_7 => ?_)
          have z9 : v_7 = nI (byW ws fm (j + 1)) := by rw [ev_7, hx9, ev_5, show (2 : Int32) * nI (byW ws fm j) = nI (2 * byW ws fm j) from pk_mul 2 _]; exact nI_add _ _
          subst z9
          refine lv_istore_n (lv' := [(2, Value.int (nI (byW ws fm (j + 1)))), (4, Value.int v_4), (3, Value.int (nI (fm + j))), (0, Value.ref co), (1, Value.int (nI fm))]) hx hb d_Table_byteOfWritten_54 rfl hl (by decide) rfl (fun ls hl => ?_)
          obtain ⟨v_8, ev_8⟩ : ∃ y : Int32, y = (nI (fm + j)) + (1) := ⟨_, rfl⟩
          refine lv_iinc (v := v_8) (lv' := [(3, Value.int v_8), (2, Value.int (nI (byW ws fm (j + 1)))), (4, Value.int v_4), (0, Value.ref co), (1, Value.int (nI fm))]) hx hb d_Table_byteOfWritten_55 hl (k := 2) rfl (by rw [ev_8]; rfl) (by decide) rfl (fun ls hl => ?_)
          have z9 : v_8 = nI (fm + (j + 1)) := by rw [ev_8]; exact nI_1 _
          subst z9
          refine lv_goto (tgt := 4) hx hb d_Table_byteOfWritten_58 (by decide) ?_
          exact ih9_4 _ (by first | omega | (omega)) (j + 1) rfl (by omega) H locs ls (hP.sub [0, 1, 2] rfl) (hD.sub [0, 1, 2] (by decide +kernel) rfl) hS (lv_sub hl [0, 1, 3, 4] rfl)
        · refine lv_aload_n hx hb d_Table_byteOfWritten_40 rfl (lv_at hl 3 rfl) ?_
          refine va_get (D := (dC, dI)) (ci := 5) (v := .ref rw) (C := "RangeCoders$Table") (T := T_Table) (N := 10) hx hb hg in_Table hown hK hP 0 rfl rfl 8 (by decide) (hg _ k120) (fun x9 h9 => u_same (hg _ k121) x9 h9) rfl d_Table_byteOfWritten_41 ?_
          refine lv_iload hx hb d_Table_byteOfWritten_44 (lv_at hl 0 rfl) ?_
          refine my_ci (wr := [(co, Sum.inr (5, [Value.long xx, Value.long xreadX, Value.ref soa, Value.ref sna, Value.ref swa, Value.int xkept, Value.ref ri, Value.ref ro, Value.ref rw, Value.int xasked]))]) (va_runV (As := [Value.int v_4]) (rest := [Value.int v_5]) ⟨hx, hb, hml, hown, hts⟩ (f_Row_at l dC dI cI cM cO H.size rw rwa rwk rwf ws v_4 (hrw) (hGrw) (by omega)) (cwV 1 hts (my_gV k677 k659 k660 k6 k661) rfl rfl rfl cu_Row_at_1 ⟨by rw [hR]; exact Nat.le_of_ble_eq_true rfl, by rw [hR]; exact Nat.le_of_ble_eq_true rfl⟩) (my_preV hK hN (hP.sub [1, 2] rfl) (hD.sub [1, 2] (by decide +kernel) rfl) 0 rfl rfl) rfl rfl hl.1 rfl (lv_room (Nat.le_of_ble_eq_true rfl)) d_Table_byteOfWritten_46 ⟨by rw [hR]; exact Nat.le_of_ble_eq_true rfl, by rw [hR]; exact Nat.le_of_ble_eq_true rfl⟩) hP hD hS hA [1, 2] [0] rfl rfl (by decide +kernel) (by decide +kernel) (fun r_46 u9 H locs hw_46 hP hD hS => ?_)
          have hr_46 : r_46 = rAt ws v_4 := hw_46
          have hPD : my_PD (dC, dI) vwCl A [(co, Sum.inr (5, [Value.long xx, Value.long xreadX, Value.ref soa, Value.ref sna, Value.ref swa, Value.int xkept, Value.ref ri, Value.ref ro, Value.ref rw, Value.int xasked])), (rw, Sum.inr (0, [Value.int (nI ws.length), Value.ref rwa])), (rwa, Sum.inl (cI, rwk, Sum.inl rwf))] H := ⟨hP, hD⟩
          have hP := hPD.1
          have hD := hPD.2
          refine lv_goto (tgt := 53) hx hb d_Table_byteOfWritten_49 (by decide) ?_
          have hx9 : r_46 = nI (rvB ws (fm + j)) := hr_46.trans (rv_1 (by omega) (by omega) (by subst_vars; rfl) (one_ne hr_34 c_6))
          refine lv_iadd hx hb d_Table_byteOfWritten_53 ?_
          refine lv_topi (fun v_9 ev_9 => ?_)
          have z9 : v_9 = nI (byW ws fm (j + 1)) := by rw [ev_9, hx9, ev_5, show (2 : Int32) * nI (byW ws fm j) = nI (2 * byW ws fm j) from pk_mul 2 _]; exact nI_add _ _
          subst z9
          refine lv_istore_n (lv' := [(2, Value.int (nI (byW ws fm (j + 1)))), (4, Value.int v_4), (3, Value.int (nI (fm + j))), (0, Value.ref co), (1, Value.int (nI fm))]) hx hb d_Table_byteOfWritten_54 rfl hl (by decide) rfl (fun ls hl => ?_)
          obtain ⟨v_10, ev_10⟩ : ∃ y : Int32, y = (nI (fm + j)) + (1) := ⟨_, rfl⟩
          refine lv_iinc (v := v_10) (lv' := [(3, Value.int v_10), (2, Value.int (nI (byW ws fm (j + 1)))), (4, Value.int v_4), (0, Value.ref co), (1, Value.int (nI fm))]) hx hb d_Table_byteOfWritten_55 hl (k := 2) rfl (by rw [ev_10]; rfl) (by decide) rfl (fun ls hl => ?_)
          have z9 : v_10 = nI (fm + (j + 1)) := by rw [ev_10]; exact nI_1 _
          subst z9
          refine lv_goto (tgt := 4) hx hb d_Table_byteOfWritten_58 (by decide) ?_
          exact ih9_4 _ (by first | omega | (omega)) (j + 1) rfl (by omega) H locs ls (hP.sub [0, 1, 2] rfl) (hD.sub [0, 1, 2] (by decide +kernel) rfl) hS (lv_sub hl [0, 1, 3, 4] rfl)
  exact J_4 _ (0 : Nat) rfl (by decide) H locs ls (hP.sub [0, 1, 2] rfl) (hD.sub [0, 1, 2] (by decide +kernel) rfl) hS (lv_sub hl [0, 1, 2, 3] rfl)
end
section
/-! FORMS 3 and 4: what a message's items are in the class -/
theorem s3_main {f : Nat} (hf : 0 < f) : ∀ (k : Nat) (r : Nat × List Nat), 6 ≤ k → k ≤ 8 → r.1 < xb k → f * 2048 ≤ r.1 → f * 2048 ≤ (s3N f k r).1 ∧ (s3N f k r).1 < f * 524288 ∧ (s3N f k r).2.length + 6 ≤ r.2.length + k := by
  intro k
  induction k with
  | zero => intro r h; omega
  | succ k ih =>
    intro r h6 h8 hx hl
    by_cases h : f * 524288 ≤ r.1
    · have h7 := xb_k h6 h8 hf hx h
      have hs := xb_s h7 h8 hx
      rw [Nat.add_sub_cancel] at hs
      rw [s3N_s (by omega) h, Nat.add_sub_cancel]
      have q := ih (r.1 / 256, r.2 ++ [r.1 % 256]) (by omega) (by omega) hs (by show f * 2048 ≤ r.1 / 256; exact (Nat.le_div_iff_mul_le (by decide)).mpr (by rw [Nat.mul_assoc]; exact h))
      rw [show ((r.1 / 256, r.2 ++ [r.1 % 256]) : Nat × List Nat).2.length = r.2.length + 1 from by rw [List.length_append, List.length_singleton]] at q
      exact ⟨q.1, q.2.1, by omega⟩
    · rw [s3N_e h]
      exact ⟨hl, by omega, by omega⟩
theorem s3I_ok {f c X : Nat} {bs : List Nat} (hf : 0 < f) (hf2 : f ≤ 4096) (hcf : c + f ≤ 4096) (h1 : 8388608 ≤ X) (h2 : X < 2147483648) : 8388608 ≤ (s3I f c (X, bs)).1 ∧ (s3I f c (X, bs)).1 < 2147483648 ∧ (s3I f c (X, bs)).2.length ≤ bs.length + 2 := by
  have q := s3_main hf 8 (X, bs) (by decide) (by decide) h2 (by show f * 2048 ≤ X; omega)
  have z := s3_fin hf q.1 q.2.1 hcf
  have w : (s3N f 8 (X, bs)).2.length + 6 ≤ bs.length + 8 := q.2.2
  exact ⟨z.1, z.2, by show (s3N f 8 (X, bs)).2.length ≤ _; omega⟩
theorem t4_main {f : Nat} (hf : 0 < f) : ∀ (k : Nat) (r : Nat × List Nat), r.1 < 2 ^ k → f ≤ r.1 → f ≤ (t4N f k r).1 ∧ (t4N f k r).1 < 2 * f ∧ (t4N f k r).2.length + 1 ≤ r.2.length + k := by
  intro k
  induction k with
  | zero => intro r h; have : r.1 < 1 := h; omega
  | succ k ih =>
    intro r h hl
    by_cases h2 : 2 * f ≤ r.1
    · have hk := pw_k h (by omega)
      have q := ih (r.1 / 2, r.2 ++ [r.1 % 2]) (by have z := pw_h h (by omega); rw [Nat.add_sub_cancel] at z; exact z) (by show f ≤ r.1 / 2; omega)
      rw [show ((r.1 / 2, r.2 ++ [r.1 % 2]) : Nat × List Nat).2.length = r.2.length + 1 from by rw [List.length_append, List.length_singleton]] at q
      rw [t4N_s (by omega) h2, Nat.add_sub_cancel]
      exact ⟨q.1, q.2.1, by omega⟩
    · rw [t4N_e h2]
      exact ⟨hl, by omega, by omega⟩
theorem t4_bt {f : Nat} : ∀ (k : Nat) (r : Nat × List Nat), bt2 r.2 → bt2 (t4N f k r).2
  | 0, r, h => h
  | k + 1, r, h => by
    by_cases h2 : 2 * f ≤ r.1
    · rw [t4N_s (by omega) h2, Nat.add_sub_cancel]
      exact t4_bt k _ (bt2_add h (Nat.mod_lt _ (by decide)))
    · rw [t4N_e h2]; exact h
theorem t4I_ok {F : Nat → Nat} {n t V : Nat} {ws : List Nat} (hs : ns F n = 512) (ht : t < n) (hf : 0 < F t) (h1 : 512 ≤ V) (h2 : V < 1024) (hb : bt2 ws) : 512 ≤ (t4I F n t (V, ws)).1 ∧ (t4I F n t (V, ws)).1 < 1024 ∧ (t4I F n t (V, ws)).2.length ≤ ws.length + 9 ∧ bt2 (t4I F n t (V, ws)).2 := by
  have hg := ns_ge (F := F) ht
  have q := t4_main hf 10 (V, ws) h2 (by show F t ≤ V; omega)
  have z := plO_ok (d := (t4N (F t) 10 (V, ws)).1 - F t) hs ht (by omega)
  have w : (t4N (F t) 10 (V, ws)).2.length + 1 ≤ ws.length + 10 := q.2.2
  have e1 : (t4I F n t (V, ws)).1 = 512 + plO F n t ((t4N (F t) 10 (V, ws)).1 - F t) := by simp only [t4I]
  have e2 : (t4I F n t (V, ws)).2 = (t4N (F t) 10 (V, ws)).2 := by simp only [t4I]
  rw [e1, e2]
  exact ⟨by omega, by omega, by omega, t4_bt 10 _ hb⟩
/-- odds that hold F -/
def ob3 (o : OB) (n : Nat) (F : Nat → Nat) : Prop := n ≤ 64 ∧ o.2.2.2.1 = 0 ∧ o.2.2.2.2.2.2.1 = n ∧ tbI o.2.2.2.2.2.2.2.1 n F ∧ o.2.2.2.2.2.2.2.2.1 ≤ 512
def ob4 (o : OB) (n : Nat) (F : Nat → Nat) : Prop := n ≤ 64 ∧ o.2.2.2.1 = 0 ∧ o.2.2.2.2.2.2.1 = n ∧ tbI o.2.2.2.2.2.2.2.1 n F ∧ o.2.2.2.2.2.2.2.2.1 = 512 ∧ tbI o.2.2.2.2.2.2.2.2.2 512 (plc F n)
/-- an item as the class keeps it -/
def kpV (bm : Nat) (sof : Nat → Option Nat) (snf swf : Nat → Int32) (i : Nat) (it : It) : Prop := it.1 = 0 ∧ sof i = none ∧ snf i = nI it.2.2 ∧ swf i = nI it.2.1 ∧ 1 ≤ it.2.1 ∧ it.2.1 ≤ bm ∧ it.2.2 < 2 ^ it.2.1
def kpS (cI : ClassId) (ob : OB → Nat → (Nat → Nat) → Prop) (M : Nat) (N : Nat → Nat) (Fn : Nat → Nat → Nat) (sof : Nat → Option Nat) (snf : Nat → Int32) (pl : va_W) (i : Nat) (it : It) : Prop := ¬ it.1 = 0 ∧ snf i = nI it.2.2 ∧ it.2.2 < N it.2.1 ∧ 0 < Fn it.2.1 it.2.2 ∧ ns (Fn it.2.1) (N it.2.1) = M ∧ ∃ (o : OB) (rest : va_W), sof i = some o.1 ∧ ob o (N it.2.1) (Fn it.2.1) ∧ pl.Perm (obC cI o ++ rest)
def kpt (cI : ClassId) (ob : OB → Nat → (Nat → Nat) → Prop) (M bm : Nat) (N : Nat → Nat) (Fn : Nat → Nat → Nat) (sof : Nat → Option Nat) (snf swf : Nat → Int32) (pl : va_W) (its : List It) : Prop := ∀ i, i < its.length → kpV bm sof snf swf i (itA its i) ∨ kpS cI ob M N Fn sof snf pl i (itA its i)
theorem kp_none {cI : ClassId} {ob : OB → Nat → (Nat → Nat) → Prop} {M bm : Nat} {N : Nat → Nat} {Fn : Nat → Nat → Nat} {sof : Nat → Option Nat} {snf swf : Nat → Int32} {pl : va_W} {its : List It} {i : Nat} (h : kpt cI ob M bm N Fn sof snf swf pl its) (hi : i < its.length) (hq : sof i = none) : kpV bm sof snf swf i (itA its i) := by
  rcases h i hi with q | q
  · exact q
  · obtain ⟨-, -, -, -, -, o, r, e, -⟩ := q
    rw [e] at hq
    cases hq
theorem kp_some {cI : ClassId} {ob : OB → Nat → (Nat → Nat) → Prop} {M bm : Nat} {N : Nat → Nat} {Fn : Nat → Nat → Nat} {sof : Nat → Option Nat} {snf swf : Nat → Int32} {pl : va_W} {its : List It} {i a : Nat} (h : kpt cI ob M bm N Fn sof snf swf pl its) (hi : i < its.length) (hq : sof i = some a) : kpS cI ob M N Fn sof snf pl i (itA its i) := by
  rcases h i hi with q | q
  · rw [q.2.1] at hq
    cases hq
  · exact q
theorem min600 {k v : Int32} {n : Nat} (hk : k = nI n) (hn : n ≤ 600) (e : v = if 600 < k then 600 else k) : v = nI n := by
  rw [e, hk, if_neg (show ¬ (600 : Int32) < nI n from Int32.not_lt.mpr (nI_le (b := 600) hn (by decide)))]
end
section
set_option maxHeartbeats 2000000 in
set_option maxRecDepth 100000 in
theorem f_Stack_closeStack (l : Launch) (dC : Nat → ClassId) (dI : Nat → Nat → Nat) (cI cM cO : ClassId) (sz : Nat) (sl : Nat) (co : Nat) (xreadX : Int64) (soa : Nat) (sna : Nat) (swa : Nat) (xkept : Int32) (ri : Nat) (ro : Nat) (rw : Nat) (xasked : Int32) (XX : Nat) (rwa : Nat) (rwk : Nat) (rwf : Nat → Int32) (bs : List Nat) (ron : Int32) (roa : Nat) (rok : Nat) (rof : Nat → Int32) (hX : XX < 2147483648) (hrw : rOk (nI bs.length) rwk) (hGrw : gIs rwf bs) (hro : rOk ron rok) (hN9 : bs.length + 8 ≤ 7900) : MetVg l y_Stack_closeStack (Cond.code y_Stack_closeStack prog_10_method_6_code 2 none :: gw) ({ frames := 4, cells := rPh rwk + rPh rok, slots := rPh rwk + rPh rok, locals := 105 } : Room) (dC, dI) vwCl (kT cI cM cO) [Value.ref co] [(co, Sum.inr (4, [Value.long (lN XX), Value.long xreadX, Value.ref soa, Value.ref sna, Value.ref swa, Value.int xkept, Value.ref ri, Value.ref ro, Value.ref rw, Value.int xasked])), (rw, Sum.inr (0, [Value.int (nI bs.length), Value.ref rwa])), (rwa, Sum.inl (cI, rwk, Sum.inl rwf)), (ro, Sum.inr (0, [Value.int ron, Value.ref roa])), (roa, Sum.inl (cI, rok, Sum.inl rof))] sz sl (fun (u : Int64 × Nat × Nat × (Nat → Int32) × Nat × Nat × (Nat → Int32)) => rOk (nI (bs ++ b4 XX 4).length) u.2.2.1 ∧ gIs u.2.2.2.1 (bs ++ b4 XX 4) ∧ rOk (nI ((bs ++ b4 XX 4).reverse).length) u.2.2.2.2.2.1 ∧ gIs u.2.2.2.2.2.2 ((bs ++ b4 XX 4).reverse)) (fun (u : Int64 × Nat × Nat × (Nat → Int32) × Nat × Nat × (Nat → Int32)) => [(co, Sum.inr (4, [Value.long u.1, Value.long xreadX, Value.ref soa, Value.ref sna, Value.ref swa, Value.int xkept, Value.ref ri, Value.ref ro, Value.ref rw, Value.int xasked])), (rw, Sum.inr (0, [Value.int (nI (bs ++ b4 XX 4).length), Value.ref u.2.1])), (u.2.1, Sum.inl (cI, u.2.2.1, Sum.inl u.2.2.2.1)), (ro, Sum.inr (0, [Value.int (nI ((bs ++ b4 XX 4).reverse).length), Value.ref u.2.2.2.2.1])), (u.2.2.2.2.1, Sum.inl (cI, u.2.2.2.2.2.1, Sum.inl u.2.2.2.2.2.2))]) (rPh rwk + rPh rok) (fun (u : Int64 × Nat × Nat × (Nat → Int32) × Nat × Nat × (Nat → Int32)) => rPh u.2.2.1 + rPh u.2.2.2.2.2.1) := by
  refine my_ofVg (cc := prog_10_method_6_code) (n := 2) (ret := none) (by decide) rfl (Nat.le_of_ble_eq_true rfl) ?_
  intro p e s m args below meth c R Q A ls H locs hx hb hr hts hown hlocks hml hnm hR hQ hA hl hP hK hN hD hS
  have hg : ∀ w ∈ gw, w.before args s = true := fun w h => hts w (List.mem_cons_of_mem _ h)
  have hown : s.vm.findClass "RangeCoders$Stack" = some m.cls := hown
  have hl : lv_has ls 2 [(0, Value.ref co)] := hl
  have hltw := rOk_lt hrw
  have hlto := rOk_lt hro
  refine lv_iconst (v := 0) hx hb d_Stack_closeStack_0 (by decide) ?_
  refine lv_istore_n (lv' := [(1, Value.int 0), (0, Value.ref co)]) hx hb d_Stack_closeStack_1 rfl hl (by decide) rfl (fun ls hl => ?_)
  have J_2 : ∀ (n9_2 : Nat) (j : Nat) (x9 : Nat) (b9 : List Nat) (rwa9 : Nat) (rwk9 : Nat) (rwf9 : Nat → Int32) (d9 : Nat) (hn9_2 : 4 - j = n9_2) (hj : j ≤ 4) (hE9 : bs ++ b4 XX 4 = b9 ++ b4 x9 (4 - j)) (hx9 : x9 < 2147483648) (hM9 : b9.length ≤ 7892 + j) (hr9 : rOk (nI b9.length) rwk9) (hg9 : gIs rwf9 b9) (hd9 : d9 + rPh rwk9 ≤ rPh rwk) (H : Heap) (locs : List Loc) (ls : Array Slot), va_P (dC, dI) vwCl [(co, Sum.inr (4, [Value.long (lN x9), Value.long xreadX, Value.ref soa, Value.ref sna, Value.ref swa, Value.int xkept, Value.ref ri, Value.ref ro, Value.ref rw, Value.int xasked])), (rw, Sum.inr (0, [Value.int (nI b9.length), Value.ref rwa9])), (rwa9, Sum.inl (cI, rwk9, Sum.inl rwf9)), (ro, Sum.inr (0, [Value.int ron, Value.ref roa])), (roa, Sum.inl (cI, rok, Sum.inl rof))] H → va_D A [(co, Sum.inr (4, [Value.long (lN x9), Value.long xreadX, Value.ref soa, Value.ref sna, Value.ref swa, Value.int xkept, Value.ref ri, Value.ref ro, Value.ref rw, Value.int xasked])), (rw, Sum.inr (0, [Value.int (nI b9.length), Value.ref rwa9])), (rwa9, Sum.inl (cI, rwk9, Sum.inl rwf9)), (ro, Sum.inr (0, [Value.int ron, Value.ref roa])), (roa, Sum.inl (cI, rok, Sum.inl rof))] → va_S A s.heap H locs → lv_has ls 2 [(1, Value.int (nI j)), (0, Value.ref co)] → W p l e R s m args below meth c H locs d9 d9 Q (F0 m 2 ls []) := by
    intro n9_2
    induction n9_2 using Nat.strongRecOn with
    | ind n9_2 ih9_2 =>
      intro j x9 b9 rwa9 rwk9 rwf9 d9 hn9_2 hj hE9 hx9 hM9 hr9 hg9 hd9 H locs ls hP hD hS hl
      refine lv_iload_n hx hb d_Stack_closeStack_2 rfl (lv_at hl 0 rfl) ?_
      refine lv_iconst (v := 4) hx hb d_Stack_closeStack_3 (by decide) ?_
      refine lv_icmp_ge (tgt := 17) hx hb d_Stack_closeStack_4 (by decide) (fun c_1 => ?_) (fun c_1 => ?_)
      · have hj3 : j = 4 := by have := nI_ge' (n := 4) (by omega) (by decide) c_1; omega
        have z9 : b9 = bs ++ b4 XX 4 := by rw [hE9, hj3]; simp [b4]
        subst z9
        refine lv_aload_n hx hb d_Stack_closeStack_17 rfl (lv_at hl 1 rfl) ?_
        refine va_get (D := (dC, dI)) (ci := 4) (v := .ref ro) (C := "RangeCoders$Stack") (T := T_Stack) (N := 10) hx hb hg in_Stack hown hK hP 0 rfl rfl 7 (by decide) (hg _ k106) (fun x9 h9 => u_same (hg _ k107) x9 h9) rfl d_Stack_closeStack_18 ?_
        refine lv_aload_n hx hb d_Stack_closeStack_21 rfl (lv_at hl 1 rfl) ?_
        refine va_get (D := (dC, dI)) (ci := 4) (v := .ref rw) (C := "RangeCoders$Stack") (T := T_Stack) (N := 10) hx hb hg in_Stack hown hK hP 0 rfl rfl 8 (by decide) (hg _ k118) (fun x9 h9 => u_same (hg _ k119) x9 h9) rfl d_Stack_closeStack_22 ?_
        refine my_cvg (wr := [(co, Sum.inr (4, [Value.long (lN x9), Value.long xreadX, Value.ref soa, Value.ref sna, Value.ref swa, Value.int xkept, Value.ref ri, Value.ref ro, Value.ref rw, Value.int xasked]))]) (va_runV (As := [Value.ref rw]) (rest := []) ⟨hx, hb, hml, hown, hts⟩ (f_Row_becomeReverseOf l dC dI cI cM cO H.size (hSl H) ro ron roa rok rof rw rwa9 rwk9 rwf9 (bs ++ b4 XX 4) (hro) (hr9) (hg9) (by omega)) (cwV 1 hts (my_gV k653 k654 k655 k6 k656) rfl rfl rfl cu_Row_becomeReverseOf_1 ⟨by rw [hR]; exact Nat.le_of_ble_eq_true rfl, by rw [hR]; exact Nat.le_of_ble_eq_true rfl⟩) (my_preVg hK hN (hP.sub [3, 4, 1, 2] rfl) (hD.sub [3, 4, 1, 2] (by decide +kernel) rfl) 0 rfl rfl) rfl rfl hl.1 rfl (lv_room (Nat.le_of_ble_eq_true rfl)) d_Stack_closeStack_25 ⟨by rw [hR]; exact (show d9 + (rPh rok) ≤ (rPh rwk + rPh rok) by omega), by rw [hR]; exact (show d9 + (rPh rok) ≤ (rPh rwk + rPh rok) by omega)⟩) hP hD hS hA [3, 4, 1, 2] [0] rfl rfl (by decide +kernel) (by decide +kernel) (fun u9 d_25 H locs hd_25 hw_25 hP hD hS => ?_)
        obtain ⟨rraq_25, rrkq_25, rrfq_25⟩ := u9
        obtain ⟨hrr_25, hGrr_25⟩ : rOk (nI ((bs ++ b4 XX 4).reverse).length) rrkq_25 ∧ gIs rrfq_25 ((bs ++ b4 XX 4).reverse) := hw_25
        have hd_25 : d_25 + (rPh rrkq_25) ≤ (rPh rok) := hd_25
        have hPD : my_PD (dC, dI) vwCl A [(co, Sum.inr (4, [Value.long (lN x9), Value.long xreadX, Value.ref soa, Value.ref sna, Value.ref swa, Value.int xkept, Value.ref ri, Value.ref ro, Value.ref rw, Value.int xasked])), (ro, Sum.inr (0, [Value.int (nI ((bs ++ b4 XX 4).reverse).length), Value.ref rraq_25])), (rraq_25, Sum.inl (cI, rrkq_25, Sum.inl rrfq_25)), (rw, Sum.inr (0, [Value.int (nI (bs ++ b4 XX 4).length), Value.ref rwa9])), (rwa9, Sum.inl (cI, rwk9, Sum.inl rwf9))] H := ⟨hP, hD⟩
        have hP := hPD.1
        have hD := hPD.2
        exact my_vretg hx hb hr hlocks hQ hK hS (lN x9, rwa9, rwk9, rwf9, rraq_25, rrkq_25, rrfq_25) (show (d9 + d_25) + (rPh rwk9 + rPh rrkq_25) ≤ (rPh rwk + rPh rok) by omega) (show (d9 + d_25) + (rPh rwk9 + rPh rrkq_25) ≤ (rPh rwk + rPh rok) by omega) (⟨hr9, hg9, hrr_25, hGrr_25⟩) (hP.sub [0, 3, 4, 1, 2] rfl) (hD.sub [0, 3, 4, 1, 2] (by decide +kernel) rfl) d_Stack_closeStack_28
      · have hj2 : j < 4 := nI_lt' (by omega) c_1
        refine lv_aload_n hx hb d_Stack_closeStack_7 rfl (lv_at hl 1 rfl) ?_
        refine my_cvg (wr := [(ro, Sum.inr (0, [Value.int ron, Value.ref roa])), (roa, Sum.inl (cI, rok, Sum.inl rof))]) (va_runV (As := []) (rest := []) ⟨hx, hb, hml, hown, hts⟩ (f_Stack_writeLowest l dC dI cI cM cO H.size (hSl H) co xreadX soa sna swa xkept ri ro rw xasked x9 rwa9 rwk9 rwf9 b9 (by omega) (hr9) (hg9) (by omega)) (cwV 0 hts (my_gV k619 k621 ks10 k10 k622) rfl rfl rfl cu_Stack_writeLowest_0 ⟨by rw [hR]; exact Nat.le_of_ble_eq_true rfl, by rw [hR]; exact Nat.le_of_ble_eq_true rfl⟩) (my_preVg hK hN (hP.sub [0, 1, 2] rfl) (hD.sub [0, 1, 2] (by decide +kernel) rfl) 0 rfl rfl) rfl rfl hl.1 rfl (lv_room (Nat.le_of_ble_eq_true rfl)) d_Stack_closeStack_8 ⟨by rw [hR]; exact (show d9 + (rPh rwk9) ≤ (rPh rwk + rPh rok) by omega), by rw [hR]; exact (show d9 + (rPh rwk9) ≤ (rPh rwk + rPh rok) by omega)⟩) hP hD hS hA [0, 1, 2] [3, 4] rfl rfl (by decide +kernel) (by decide +kernel) (fun u9 d_8 H locs hd_8 hw_8 hP hD hS => ?_)
        obtain ⟨rwaq_8, rwkq_8, rwfq_8⟩ := u9
        obtain ⟨hrw_8, hGrw_8⟩ : rOk (nI (b9 ++ [x9 % 256]).length) rwkq_8 ∧ gIs rwfq_8 (b9 ++ [x9 % 256]) := hw_8
        have hd_8 : d_8 + (rPh rwkq_8) ≤ (rPh rwk9) := hd_8
        have hPD : my_PD (dC, dI) vwCl A [(ro, Sum.inr (0, [Value.int ron, Value.ref roa])), (roa, Sum.inl (cI, rok, Sum.inl rof)), (co, Sum.inr (4, [Value.long (lN (x9 / 256)), Value.long xreadX, Value.ref soa, Value.ref sna, Value.ref swa, Value.int xkept, Value.ref ri, Value.ref ro, Value.ref rw, Value.int xasked])), (rw, Sum.inr (0, [Value.int (nI (b9 ++ [x9 % 256]).length), Value.ref rwaq_8])), (rwaq_8, Sum.inl (cI, rwkq_8, Sum.inl rwfq_8))] H := ⟨hP, hD⟩
        have hP := hPD.1
        have hD := hPD.2
        obtain ⟨v_2, ev_2⟩ : ∃ y : Int32, y = (nI j) + (1) := ⟨_, rfl⟩
        refine lv_iinc (v := v_2) (lv' := [(1, Value.int v_2), (0, Value.ref co)]) hx hb d_Stack_closeStack_11 hl (k := 0) rfl (by rw [ev_2]; rfl) (by decide) rfl (fun ls hl => ?_)
        have z9 : v_2 = nI (j + 1) := by rw [ev_2]; exact nI_1 _
        subst z9
        refine lv_goto (tgt := 2) hx hb d_Stack_closeStack_14 (by decide) ?_
        exact ih9_2 _ (by first | omega | (omega)) (j + 1) (x9 / 256) (b9 ++ [x9 % 256]) rwaq_8 rwkq_8 rwfq_8 (d9 + d_8) rfl (by omega) (by rw [hE9, show 4 - j = (4 - (j + 1)) + 1 by omega, b4, List.append_assoc]; rfl) (by omega) (by rw [List.length_append, List.length_singleton]; omega) (hrw_8) (hGrw_8) (by omega) H locs ls (hP.sub [2, 3, 4, 0, 1] rfl) (hD.sub [2, 3, 4, 0, 1] (by decide +kernel) rfl) hS (lv_sub hl [0, 1] rfl)
  exact J_2 _ (0 : Nat) XX bs rwa rwk rwf (0 : Nat) rfl (by decide) (rfl) (hX) (by omega) (hrw) (hGrw) (by omega) H locs ls (hP.sub [0, 1, 2, 3, 4] rfl) (hD.sub [0, 1, 2, 3, 4] (by decide +kernel) rfl) hS (lv_sub hl [0, 1] rfl)
set_option maxHeartbeats 2000000 in
set_option maxRecDepth 100000 in
theorem f_Table_closeStack (l : Launch) (dC : Nat → ClassId) (dI : Nat → Nat → Nat) (cI cM cO : ClassId) (sz : Nat) (sl : Nat) (co : Nat) (xreadX : Int64) (soa : Nat) (sna : Nat) (swa : Nat) (xkept : Int32) (ri : Nat) (ro : Nat) (rw : Nat) (xasked : Int32) (V : Nat) (rwa : Nat) (rwk : Nat) (rwf : Nat → Int32) (ws : List Nat) (ron : Int32) (roa : Nat) (rok : Nat) (rof : Nat → Int32) (hV0 : 512 ≤ V) (hV1 : V < 1024) (hrw : rOk (nI ws.length) rwk) (hGrw : gIs rwf ws) (hro : rOk ron rok) (hN9 : ws.length + 12 ≤ 7900) (hb2 : bt2 ws) : MetVg l y_Table_closeStack (Cond.code y_Table_closeStack prog_12_method_9_code 2 none :: gw) ({ frames := 4, cells := rPh rwk + rPh rok, slots := rPh rwk + rPh rok, locals := 106 } : Room) (dC, dI) vwCl (kT cI cM cO) [Value.ref co] [(co, Sum.inr (5, [Value.long (lN V), Value.long xreadX, Value.ref soa, Value.ref sna, Value.ref swa, Value.int xkept, Value.ref ri, Value.ref ro, Value.ref rw, Value.int xasked])), (rw, Sum.inr (0, [Value.int (nI ws.length), Value.ref rwa])), (rwa, Sum.inl (cI, rwk, Sum.inl rwf)), (ro, Sum.inr (0, [Value.int ron, Value.ref roa])), (roa, Sum.inl (cI, rok, Sum.inl rof))] sz sl (fun (u : Nat × Nat × (Nat → Int32) × Nat × Nat × (Nat → Int32)) => rOk (nI (ws ++ bvL (V - 512) 9).length) u.2.1 ∧ gIs u.2.2.1 (ws ++ bvL (V - 512) 9) ∧ rOk (nI (pkB (ws ++ bvL (V - 512) 9) (((ws ++ bvL (V - 512) 9).length + 7) / 8)).length) u.2.2.2.2.1 ∧ gIs u.2.2.2.2.2 (pkB (ws ++ bvL (V - 512) 9) (((ws ++ bvL (V - 512) 9).length + 7) / 8))) (fun (u : Nat × Nat × (Nat → Int32) × Nat × Nat × (Nat → Int32)) => [(co, Sum.inr (5, [Value.long (lN V), Value.long xreadX, Value.ref soa, Value.ref sna, Value.ref swa, Value.int xkept, Value.ref ri, Value.ref ro, Value.ref rw, Value.int xasked])), (rw, Sum.inr (0, [Value.int (nI (ws ++ bvL (V - 512) 9).length), Value.ref u.1])), (u.1, Sum.inl (cI, u.2.1, Sum.inl u.2.2.1)), (ro, Sum.inr (0, [Value.int (nI (pkB (ws ++ bvL (V - 512) 9) (((ws ++ bvL (V - 512) 9).length + 7) / 8)).length), Value.ref u.2.2.2.1])), (u.2.2.2.1, Sum.inl (cI, u.2.2.2.2.1, Sum.inl u.2.2.2.2.2))]) (rPh rwk + rPh rok) (fun (u : Nat × Nat × (Nat → Int32) × Nat × Nat × (Nat → Int32)) => rPh u.2.1 + rPh u.2.2.2.2.1) := by
  refine my_ofVg (cc := prog_12_method_9_code) (n := 2) (ret := none) (by decide) rfl (Nat.le_of_ble_eq_true rfl) ?_
  intro p e s m args below meth c R Q A ls H locs hx hb hr hts hown hlocks hml hnm hR hQ hA hl hP hK hN hD hS
  have hg : ∀ w ∈ gw, w.before args s = true := fun w h => hts w (List.mem_cons_of_mem _ h)
  have hown : s.vm.findClass "RangeCoders$Table" = some m.cls := hown
  have hl : lv_has ls 2 [(0, Value.ref co)] := hl
  have hltw := rOk_lt hrw
  have hlto := rOk_lt hro
  have hbw := bt2_app hb2 (bt2_bv (V - 512) 9)
  have hwl : (ws ++ bvL (V - 512) 9).length = ws.length + 9 := by rw [List.length_append, bvL_len]
  refine lv_aload_n hx hb d_Table_closeStack_0 rfl (lv_at hl 0 rfl) ?_
  refine lv_aload_n hx hb d_Table_closeStack_1 rfl (lv_at hl 0 rfl) ?_
  refine va_get (D := (dC, dI)) (ci := 5) (v := .long (lN V)) (C := "RangeCoders$Table") (T := T_Table) (N := 10) hx hb hg in_Table hown hK hP 0 rfl rfl 0 (by decide) (hg _ k213) (fun x9 h9 => u_same (hg _ k214) x9 h9) rfl d_Table_closeStack_2 ?_
  refine lv_l2i hx hb d_Table_closeStack_5 rfl ?_
  refine lv_topi (fun v_1 ev_1 => ?_)
  refine lv_sipush (v := 512) hx hb d_Table_closeStack_6 (by decide) ?_
  refine lv_isub hx hb d_Table_closeStack_9 ?_
  refine lv_topi (fun v_2 ev_2 => ?_)
  refine lv_bipush (v := 9) hx hb d_Table_closeStack_10 (by decide) ?_
  have z9 : v_2 = nI (V - 512) := by subst_vars; rw [lN_i]; exact pk_sub (b := 512) hV0
  subst z9
  refine W.eq (g2 := F0 m 12 ls [Value.int (nI 9), Value.int (nI (V - 512)), Value.ref co]) rfl ?_
  refine my_cvg (wr := [(ro, Sum.inr (0, [Value.int ron, Value.ref roa])), (roa, Sum.inl (cI, rok, Sum.inl rof))]) (va_runV (As := [Value.int (nI (V - 512)), Value.int (nI 9)]) (rest := []) ⟨hx, hb, hml, hown, hts⟩ (f_Table_stackValue l dC dI cI cM cO H.size (hSl H) co (lN V) xreadX soa sna swa xkept ri ro rw xasked rwa rwk rwf ws (V - 512) 9 (by decide) (by omega) (by first | assumption | omega) (by first | assumption | omega) (by omega)) (cwV 2 hts (my_gV k670 k627 k1287 k11 k628) rfl rfl rfl cu_Table_stackValue_2 ⟨by rw [hR]; exact Nat.le_of_ble_eq_true rfl, by rw [hR]; exact Nat.le_of_ble_eq_true rfl⟩) (my_preVg hK hN (hP.sub [0, 1, 2] rfl) (hD.sub [0, 1, 2] (by decide +kernel) rfl) 0 rfl rfl) rfl rfl hl.1 rfl (lv_room (Nat.le_of_ble_eq_true rfl)) d_Table_closeStack_12 ⟨by rw [hR]; exact (show 0 + (rPh rwk) ≤ (rPh rwk + rPh rok) by omega), by rw [hR]; exact (show 0 + (rPh rwk) ≤ (rPh rwk + rPh rok) by omega)⟩) hP hD hS hA [0, 1, 2] [3, 4] rfl rfl (by decide +kernel) (by decide +kernel) (fun u9 d_12 H locs hd_12 hw_12 hP hD hS => ?_)
  obtain ⟨rwaq_12, rwkq_12, rwfq_12⟩ := u9
  obtain ⟨hrw_12, hGrw_12⟩ : rOk (nI (ws ++ bvL (V - 512) 9).length) rwkq_12 ∧ gIs rwfq_12 (ws ++ bvL (V - 512) 9) := hw_12
  have hd_12 : d_12 + (rPh rwkq_12) ≤ (rPh rwk) := hd_12
  have hPD : my_PD (dC, dI) vwCl A [(ro, Sum.inr (0, [Value.int ron, Value.ref roa])), (roa, Sum.inl (cI, rok, Sum.inl rof)), (co, Sum.inr (5, [Value.long (lN V), Value.long xreadX, Value.ref soa, Value.ref sna, Value.ref swa, Value.int xkept, Value.ref ri, Value.ref ro, Value.ref rw, Value.int xasked])), (rw, Sum.inr (0, [Value.int (nI (ws ++ bvL (V - 512) 9).length), Value.ref rwaq_12])), (rwaq_12, Sum.inl (cI, rwkq_12, Sum.inl rwfq_12))] H := ⟨hP, hD⟩
  have hP := hPD.1
  have hD := hPD.2
  refine lv_aload_n hx hb d_Table_closeStack_15 rfl (lv_at hl 0 rfl) ?_
  refine va_get (D := (dC, dI)) (ci := 5) (v := .ref ro) (C := "RangeCoders$Table") (T := T_Table) (N := 10) hx hb hg in_Table hown hK hP 2 rfl rfl 7 (by decide) (hg _ k111) (fun x9 h9 => u_same (hg _ k112) x9 h9) rfl d_Table_closeStack_16 ?_
  refine my_cv (wr := [(co, Sum.inr (5, [Value.long (lN V), Value.long xreadX, Value.ref soa, Value.ref sna, Value.ref swa, Value.int xkept, Value.ref ri, Value.ref ro, Value.ref rw, Value.int xasked])), (rw, Sum.inr (0, [Value.int (nI (ws ++ bvL (V - 512) 9).length), Value.ref rwaq_12])), (rwaq_12, Sum.inl (cI, rwkq_12, Sum.inl rwfq_12))]) (va_runV (As := []) (rest := []) ⟨hx, hb, hml, hown, hts⟩ (c_Row_clear l dC dI cI cM cO H.size ro ron roa rok rof (hro)) (cwV 0 hts (my_gV k671 k594 k595 k6 k596) rfl rfl rfl cu_Row_clear_0 ⟨by rw [hR]; exact Nat.le_of_ble_eq_true rfl, by rw [hR]; exact Nat.le_of_ble_eq_true rfl⟩) (my_preV hK hN (hP.sub [0, 1] rfl) (hD.sub [0, 1] (by decide +kernel) rfl) 0 rfl rfl) rfl rfl hl.1 rfl (lv_room (Nat.le_of_ble_eq_true rfl)) d_Table_closeStack_19 ⟨by rw [hR]; exact (show (0 + d_12) + 0 ≤ (rPh rwk + rPh rok) by omega), by rw [hR]; exact (show (0 + d_12) + 0 ≤ (rPh rwk + rPh rok) by omega)⟩) hP hD hS hA [0, 1] [2, 3, 4] rfl rfl (by decide +kernel) (by decide +kernel) (fun u9 H locs hw_19 hP hD hS => ?_)
  have hr_19 : rOk 0 rok := hw_19
  have hPD : my_PD (dC, dI) vwCl A [(co, Sum.inr (5, [Value.long (lN V), Value.long xreadX, Value.ref soa, Value.ref sna, Value.ref swa, Value.int xkept, Value.ref ri, Value.ref ro, Value.ref rw, Value.int xasked])), (rw, Sum.inr (0, [Value.int (nI (ws ++ bvL (V - 512) 9).length), Value.ref rwaq_12])), (rwaq_12, Sum.inl (cI, rwkq_12, Sum.inl rwfq_12)), (ro, Sum.inr (0, [Value.int 0, Value.ref roa])), (roa, Sum.inl (cI, rok, Sum.inl rof))] H := ⟨hP, hD⟩
  have hP := hPD.1
  have hD := hPD.2
  refine lv_iconst (v := 0) hx hb d_Table_closeStack_22 (by decide) ?_
  refine lv_istore_n (lv' := [(1, Value.int 0), (0, Value.ref co)]) hx hb d_Table_closeStack_23 rfl hl (by decide) rfl (fun ls hl => ?_)
  have J_24 : ∀ (n9_24 : Nat) (j : Nat) (b9 : List Nat) (roa9 : Nat) (rok9 : Nat) (rof9 : Nat → Int32) (d9 : Nat) (hn9_24 : (ws ++ bvL (V - 512) 9).length + 8 - 8 * j = n9_24) (hj : 8 * j ≤ (ws ++ bvL (V - 512) 9).length + 7) (hb9 : b9 = pkB (ws ++ bvL (V - 512) 9) j) (hr9 : rOk (nI b9.length) rok9) (hg9 : gIs rof9 b9) (hd9 : d9 + rPh rok9 + rPh rwkq_12 ≤ rPh rwk + rPh rok) (H : Heap) (locs : List Loc) (ls : Array Slot), va_P (dC, dI) vwCl [(co, Sum.inr (5, [Value.long (lN V), Value.long xreadX, Value.ref soa, Value.ref sna, Value.ref swa, Value.int xkept, Value.ref ri, Value.ref ro, Value.ref rw, Value.int xasked])), (rw, Sum.inr (0, [Value.int (nI (ws ++ bvL (V - 512) 9).length), Value.ref rwaq_12])), (rwaq_12, Sum.inl (cI, rwkq_12, Sum.inl rwfq_12)), (ro, Sum.inr (0, [Value.int (nI b9.length), Value.ref roa9])), (roa9, Sum.inl (cI, rok9, Sum.inl rof9))] H → va_D A [(co, Sum.inr (5, [Value.long (lN V), Value.long xreadX, Value.ref soa, Value.ref sna, Value.ref swa, Value.int xkept, Value.ref ri, Value.ref ro, Value.ref rw, Value.int xasked])), (rw, Sum.inr (0, [Value.int (nI (ws ++ bvL (V - 512) 9).length), Value.ref rwaq_12])), (rwaq_12, Sum.inl (cI, rwkq_12, Sum.inl rwfq_12)), (ro, Sum.inr (0, [Value.int (nI b9.length), Value.ref roa9])), (roa9, Sum.inl (cI, rok9, Sum.inl rof9))] → va_S A s.heap H locs → lv_has ls 2 [(1, Value.int (nI (8 * j))), (0, Value.ref co)] → W p l e R s m args below meth c H locs d9 d9 Q (F0 m 24 ls []) := by
    intro n9_24
    induction n9_24 using Nat.strongRecOn with
    | ind n9_24 ih9_24 =>
      intro j b9 roa9 rok9 rof9 d9 hn9_24 hj hb9 hr9 hg9 hd9 H locs ls hP hD hS hl
      have hbl : b9.length = j := by rw [hb9, pkB_len]
      refine lv_iload_n hx hb d_Table_closeStack_24 rfl (lv_at hl 0 rfl) ?_
      refine lv_aload_n hx hb d_Table_closeStack_25 rfl (lv_at hl 1 rfl) ?_
      refine va_get (D := (dC, dI)) (ci := 5) (v := .ref rw) (C := "RangeCoders$Table") (T := T_Table) (N := 10) hx hb hg in_Table hown hK hP 0 rfl rfl 8 (by decide) (hg _ k120) (fun x9 h9 => u_same (hg _ k121) x9 h9) rfl d_Table_closeStack_26 ?_
      refine va_get (D := (dC, dI)) (ci := 0) (v := .int (nI (ws ++ bvL (V - 512) 9).length)) (C := "RangeCoders$Row") (T := T_Row) (N := 2) hx hb hg in_Row hown hK hP 1 rfl rfl 0 (by decide) (hg _ k59) (fun _ h9 => h9) rfl d_Table_closeStack_29 ?_
      refine lv_icmp_ge (tgt := 53) hx hb d_Table_closeStack_32 (by decide) (fun c_3 => ?_) (fun c_3 => ?_)
      · have hj3 : j = ((ws ++ bvL (V - 512) 9).length + 7) / 8 := by have := nI_ge' (by omega) (by omega) c_3; omega
        have z9 : b9 = pkB (ws ++ bvL (V - 512) 9) (((ws ++ bvL (V - 512) 9).length + 7) / 8) := by rw [hb9, ← hj3]
        subst z9
        exact my_vretg hx hb hr hlocks hQ hK hS (rwaq_12, rwkq_12, rwfq_12, roa9, rok9, rof9) (show d9 + (rPh rwkq_12 + rPh rok9) ≤ (rPh rwk + rPh rok) by omega) (show d9 + (rPh rwkq_12 + rPh rok9) ≤ (rPh rwk + rPh rok) by omega) (⟨hrw_12, hGrw_12, hr9, hg9⟩) (hP.sub [0, 1, 2, 3, 4] rfl) (hD.sub [0, 1, 2, 3, 4] (by decide +kernel) rfl) d_Table_closeStack_53
      · have hj2 : 8 * j < (ws ++ bvL (V - 512) 9).length := nI_lt' (by omega) c_3
        refine lv_aload_n hx hb d_Table_closeStack_35 rfl (lv_at hl 1 rfl) ?_
        refine va_get (D := (dC, dI)) (ci := 5) (v := .ref ro) (C := "RangeCoders$Table") (T := T_Table) (N := 10) hx hb hg in_Table hown hK hP 0 rfl rfl 7 (by decide) (hg _ k111) (fun x9 h9 => u_same (hg _ k112) x9 h9) rfl d_Table_closeStack_36 ?_
        refine lv_aload_n hx hb d_Table_closeStack_39 rfl (lv_at hl 1 rfl) ?_
        refine lv_iload_n hx hb d_Table_closeStack_40 rfl (lv_at hl 0 rfl) ?_
        refine my_ci (wr := [(ro, Sum.inr (0, [Value.int (nI b9.length), Value.ref roa9])), (roa9, Sum.inl (cI, rok9, Sum.inl rof9))]) (va_runV (As := [Value.int (nI (8 * j))]) (rest := [Value.ref ro]) ⟨hx, hb, hml, hown, hts⟩ (f_Table_byteOfWritten l dC dI cI cM cO H.size co (lN V) xreadX soa sna swa xkept ri ro rw xasked rwaq_12 rwkq_12 rwfq_12 (ws ++ bvL (V - 512) 9) (8 * j) (hrw_12) (hGrw_12) (by omega) (by omega) (hbw)) (cwV 1 hts (my_gV k672 k674 ks11 k11 k675) rfl rfl rfl cu_Table_byteOfWritten_1 ⟨by rw [hR]; exact Nat.le_of_ble_eq_true rfl, by rw [hR]; exact Nat.le_of_ble_eq_true rfl⟩) (my_preV hK hN (hP.sub [0, 1, 2] rfl) (hD.sub [0, 1, 2] (by decide +kernel) rfl) 0 rfl rfl) rfl rfl hl.1 rfl (lv_room (Nat.le_of_ble_eq_true rfl)) d_Table_closeStack_41 ⟨by rw [hR]; exact (show d9 + 0 ≤ (rPh rwk + rPh rok) by omega), by rw [hR]; exact (show d9 + 0 ≤ (rPh rwk + rPh rok) by omega)⟩) hP hD hS hA [0, 1, 2] [3, 4] rfl rfl (by decide +kernel) (by decide +kernel) (fun r_41 u9 H locs hw_41 hP hD hS => ?_)
        have hr_41 : r_41 = nI (byW (ws ++ bvL (V - 512) 9) (8 * j) 8) := hw_41
        have hPD : my_PD (dC, dI) vwCl A [(ro, Sum.inr (0, [Value.int (nI b9.length), Value.ref roa9])), (roa9, Sum.inl (cI, rok9, Sum.inl rof9)), (co, Sum.inr (5, [Value.long (lN V), Value.long xreadX, Value.ref soa, Value.ref sna, Value.ref swa, Value.int xkept, Value.ref ri, Value.ref ro, Value.ref rw, Value.int xasked])), (rw, Sum.inr (0, [Value.int (nI (ws ++ bvL (V - 512) 9).length), Value.ref rwaq_12])), (rwaq_12, Sum.inl (cI, rwkq_12, Sum.inl rwfq_12))] H := ⟨hP, hD⟩
        have hP := hPD.1
        have hD := hPD.2
        have z9 : r_41 = nI (byW (ws ++ bvL (V - 512) 9) (8 * j) 8) := hr_41
        subst z9
        refine my_cvg (wr := [(co, Sum.inr (5, [Value.long (lN V), Value.long xreadX, Value.ref soa, Value.ref sna, Value.ref swa, Value.int xkept, Value.ref ri, Value.ref ro, Value.ref rw, Value.int xasked])), (rw, Sum.inr (0, [Value.int (nI (ws ++ bvL (V - 512) 9).length), Value.ref rwaq_12])), (rwaq_12, Sum.inl (cI, rwkq_12, Sum.inl rwfq_12))]) (va_runV (As := [Value.int (nI (byW (ws ++ bvL (V - 512) 9) (8 * j) 8))]) (rest := []) ⟨hx, hb, hml, hown, hts⟩ (f_Row_add l dC dI cI cM cO H.size (hSl H) ro roa9 rok9 rof9 b9 (byW (ws ++ bvL (V - 512) 9) (8 * j) 8) (hr9) (hg9) (by omega)) (cwV 1 hts (my_gV k629 k473 k474 k6 k475) rfl rfl rfl cu_Row_add_1 ⟨by rw [hR]; exact Nat.le_of_ble_eq_true rfl, by rw [hR]; exact Nat.le_of_ble_eq_true rfl⟩) (my_preVg hK hN (hP.sub [0, 1] rfl) (hD.sub [0, 1] (by decide +kernel) rfl) 0 rfl rfl) rfl rfl hl.1 rfl (lv_room (Nat.le_of_ble_eq_true rfl)) d_Table_closeStack_44 ⟨by rw [hR]; exact (show d9 + (rPh rok9) ≤ (rPh rwk + rPh rok) by omega), by rw [hR]; exact (show d9 + (rPh rok9) ≤ (rPh rwk + rPh rok) by omega)⟩) hP hD hS hA [0, 1] [2, 3, 4] rfl rfl (by decide +kernel) (by decide +kernel) (fun u9 d_44 H locs hd_44 hw_44 hP hD hS => ?_)
        obtain ⟨rraq_44, rrkq_44, rrfq_44⟩ := u9
        obtain ⟨hrr_44, hGrr_44⟩ : rOk (nI (b9 ++ [(byW (ws ++ bvL (V - 512) 9) (8 * j) 8)]).length) rrkq_44 ∧ gIs rrfq_44 (b9 ++ [(byW (ws ++ bvL (V - 512) 9) (8 * j) 8)]) := hw_44
        have hd_44 : d_44 + (rPh rrkq_44) ≤ (rPh rok9) := hd_44
        have hPD : my_PD (dC, dI) vwCl A [(co, Sum.inr (5, [Value.long (lN V), Value.long xreadX, Value.ref soa, Value.ref sna, Value.ref swa, Value.int xkept, Value.ref ri, Value.ref ro, Value.ref rw, Value.int xasked])), (rw, Sum.inr (0, [Value.int (nI (ws ++ bvL (V - 512) 9).length), Value.ref rwaq_12])), (rwaq_12, Sum.inl (cI, rwkq_12, Sum.inl rwfq_12)), (ro, Sum.inr (0, [Value.int (nI (b9 ++ [(byW (ws ++ bvL (V - 512) 9) (8 * j) 8)]).length), Value.ref rraq_44])), (rraq_44, Sum.inl (cI, rrkq_44, Sum.inl rrfq_44))] H := ⟨hP, hD⟩
        have hP := hPD.1
        have hD := hPD.2
        obtain ⟨v_4, ev_4⟩ : ∃ y : Int32, y = (nI (8 * j)) + (8) := ⟨_, rfl⟩
        refine lv_iinc (v := v_4) (lv' := [(1, Value.int v_4), (0, Value.ref co)]) hx hb d_Table_closeStack_47 hl (k := 0) rfl (by rw [ev_4]; rfl) (by decide) rfl (fun ls hl => ?_)
        have z9 : v_4 = nI (8 * (j + 1)) := by rw [ev_4, show 8 * (j + 1) = 8 * j + 8 by omega]; exact nI_add _ 8
        subst z9
        refine lv_goto (tgt := 24) hx hb d_Table_closeStack_50 (by decide) ?_
        exact ih9_24 _ (by first | omega | (omega)) (j + 1) (b9 ++ [byW (ws ++ bvL (V - 512) 9) (8 * j) 8]) rraq_44 rrkq_44 rrfq_44 (d9 + d_44) rfl (by omega) (by rw [hb9]; rfl) (hrr_44) (hGrr_44) (by omega) H locs ls (hP.sub [0, 1, 2, 3, 4] rfl) (hD.sub [0, 1, 2, 3, 4] (by decide +kernel) rfl) hS (lv_sub hl [0, 1] rfl)
  exact J_24 _ (0 : Nat) ([]) roa rok rof (0 + d_12) rfl (Nat.zero_le _) (rfl) (hr_19) (fun i h => absurd h (Nat.not_lt_zero i)) (by omega) H locs ls (hP.sub [0, 1, 2, 3, 4] rfl) (hD.sub [0, 1, 2, 3, 4] (by decide +kernel) rfl) hS (lv_sub hl [0, 1] rfl)
set_option maxHeartbeats 2000000 in
set_option maxRecDepth 100000 in
theorem f_Stack_openStack (l : Launch) (dC : Nat → ClassId) (dI : Nat → Nat → Nat) (cI cM cO : ClassId) (sz : Nat) (co : Nat) (xx : Int64) (xreadX : Int64) (soa : Nat) (sna : Nat) (swa : Nat) (xkept : Int32) (ri : Nat) (ro : Nat) (rw : Nat) (xasked : Int32) : MetV l y_Stack_openStack (Cond.code y_Stack_openStack prog_10_method_3_code 1 none :: gw) ({ frames := 0, cells := 0, slots := 0, locals := 0 } : Room) (dC, dI) vwCl (kT cI cM cO) [Value.ref co] [(co, Sum.inr (4, [Value.long xx, Value.long xreadX, Value.ref soa, Value.ref sna, Value.ref swa, Value.int xkept, Value.ref ri, Value.ref ro, Value.ref rw, Value.int xasked]))] sz (fun (u : Unit) => True) (fun (u : Unit) => [(co, Sum.inr (4, [Value.long (lN 8388608), Value.long xreadX, Value.ref soa, Value.ref sna, Value.ref swa, Value.int xkept, Value.ref ri, Value.ref ro, Value.ref rw, Value.int xasked]))]) 0 0 := by
  refine my_ofV (cc := prog_10_method_3_code) (n := 1) (ret := none) (by decide) rfl (Nat.le_of_ble_eq_true rfl) ?_
  intro p e s m args below meth c R Q A ls H locs hx hb hr hts hown hlocks hml hnm hR hQ hA hl hP hK hN hD hS
  have hg : ∀ w ∈ gw, w.before args s = true := fun w h => hts w (List.mem_cons_of_mem _ h)
  have hown : s.vm.findClass "RangeCoders$Stack" = some m.cls := hown
  have hl : lv_has ls 1 [(0, Value.ref co)] := hl
  refine lv_aload_n hx hb d_Stack_openStack_0 rfl (lv_at hl 0 rfl) ?_
  refine lv_ldc2 (v := 8388608) hx hb hown (hg _ k603) d_Stack_openStack_1 ?_
  refine va_put (D := (dC, dI)) (ci := 4) (v := .long 8388608) (ty := .long) (C := "RangeCoders$Stack") (T := T_Stack) (N := 10) hx hb hg in_Stack t_Stack o_Stack n_Stack hown hK hP hD hS 0 rfl rfl 0 (by decide) (hg _ k211) (fun x9 h9 => u_same (hg _ k212) x9 h9) rfl (o_Stack 0 (by decide)) rfl rfl (Nat.le_of_ble_eq_true rfl) d_Stack_openStack_4 (fun H locs hP hD hS => ?_)
  have hPD : my_PD (dC, dI) vwCl A [(co, Sum.inr (4, [Value.long 8388608, Value.long xreadX, Value.ref soa, Value.ref sna, Value.ref swa, Value.int xkept, Value.ref ri, Value.ref ro, Value.ref rw, Value.int xasked]))] H := ⟨hP, hD⟩
  have hP := hPD.1
  have hD := hPD.2
  exact my_vret hx hb hr hlocks hQ hK hS (Nat.le_refl _) (Nat.le_refl _) () (trivial) (hP.sub [0] rfl) (hD.sub [0] (by decide +kernel) rfl) d_Stack_openStack_7
set_option maxHeartbeats 2000000 in
set_option maxRecDepth 100000 in
theorem f_Table_openStack (l : Launch) (dC : Nat → ClassId) (dI : Nat → Nat → Nat) (cI cM cO : ClassId) (sz : Nat) (co : Nat) (xx : Int64) (xreadX : Int64) (soa : Nat) (sna : Nat) (swa : Nat) (xkept : Int32) (ri : Nat) (ro : Nat) (rw : Nat) (xasked : Int32) : MetV l y_Table_openStack (Cond.code y_Table_openStack prog_12_method_6_code 1 none :: gw) ({ frames := 0, cells := 0, slots := 0, locals := 0 } : Room) (dC, dI) vwCl (kT cI cM cO) [Value.ref co] [(co, Sum.inr (5, [Value.long xx, Value.long xreadX, Value.ref soa, Value.ref sna, Value.ref swa, Value.int xkept, Value.ref ri, Value.ref ro, Value.ref rw, Value.int xasked]))] sz (fun (u : Unit) => True) (fun (u : Unit) => [(co, Sum.inr (5, [Value.long (lN 512), Value.long xreadX, Value.ref soa, Value.ref sna, Value.ref swa, Value.int xkept, Value.ref ri, Value.ref ro, Value.ref rw, Value.int xasked]))]) 0 0 := by
  refine my_ofV (cc := prog_12_method_6_code) (n := 1) (ret := none) (by decide) rfl (Nat.le_of_ble_eq_true rfl) ?_
  intro p e s m args below meth c R Q A ls H locs hx hb hr hts hown hlocks hml hnm hR hQ hA hl hP hK hN hD hS
  have hg : ∀ w ∈ gw, w.before args s = true := fun w h => hts w (List.mem_cons_of_mem _ h)
  have hown : s.vm.findClass "RangeCoders$Table" = some m.cls := hown
  have hl : lv_has ls 1 [(0, Value.ref co)] := hl
  refine lv_aload_n hx hb d_Table_openStack_0 rfl (lv_at hl 0 rfl) ?_
  refine lv_ldc2 (v := 512) hx hb hown (hg _ k607) d_Table_openStack_1 ?_
  refine va_put (D := (dC, dI)) (ci := 5) (v := .long 512) (ty := .long) (C := "RangeCoders$Table") (T := T_Table) (N := 10) hx hb hg in_Table t_Table o_Table n_Table hown hK hP hD hS 0 rfl rfl 0 (by decide) (hg _ k213) (fun x9 h9 => u_same (hg _ k214) x9 h9) rfl (o_Table 0 (by decide)) rfl rfl (Nat.le_of_ble_eq_true rfl) d_Table_openStack_4 (fun H locs hP hD hS => ?_)
  have hPD : my_PD (dC, dI) vwCl A [(co, Sum.inr (5, [Value.long 512, Value.long xreadX, Value.ref soa, Value.ref sna, Value.ref swa, Value.int xkept, Value.ref ri, Value.ref ro, Value.ref rw, Value.int xasked]))] H := ⟨hP, hD⟩
  have hP := hPD.1
  have hD := hPD.2
  exact my_vret hx hb hr hlocks hQ hK hS (Nat.le_refl _) (Nat.le_refl _) () (trivial) (hP.sub [0] rfl) (hD.sub [0] (by decide +kernel) rfl) d_Table_openStack_7
theorem vl_cf {b v : Nat} (h : v < 2 ^ b) : 4096 / 2 ^ b * v + 4096 / 2 ^ b ≤ 4096 := by
  have a : 4096 / 2 ^ b * (v + 1) ≤ 4096 / 2 ^ b * 2 ^ b := Nat.mul_le_mul_left _ h
  have c := Nat.div_mul_le_self 4096 (2 ^ b)
  rw [Nat.mul_add, Nat.mul_one] at a
  omega
set_option maxHeartbeats 2000000 in
set_option maxRecDepth 100000 in
theorem f_Stack_closeMessage (l : Launch) (dC : Nat → ClassId) (dI : Nat → Nat → Nat) (cI cM cO : ClassId) (sz : Nat) (sl : Nat) (co : Nat) (xx : Int64) (xreadX : Int64) (soa : Nat) (sna : Nat) (swa : Nat) (ri : Nat) (ro : Nat) (rw : Nat) (xasked : Int32) (rwn : Int32) (rwa : Nat) (rwk : Nat) (rwf : Nat → Int32) (ron : Int32) (roa : Nat) (rok : Nat) (rof : Nat → Int32) (sof : Nat → Option Nat) (snf : Nat → Int32) (swf : Nat → Int32) (its : List It) (N : Nat → Nat) (Fn : Nat → Nat → Nat) (pl : va_W) (hrw : rOk rwn rwk) (hro : rOk ron rok) (hki : its.length ≤ 600) (hkp : kpt cI ob3 4096 12 N Fn sof snf swf pl its) : MetVg l y_Stacked_closeMessage (Cond.code y_Stacked_closeMessage prog_11_method_9_code 2 none :: gw) ({ frames := 6, cells := rPh rwk + rPh rok, slots := rPh rwk + rPh rok, locals := 149 } : Room) (dC, dI) vwCl (kT cI cM cO) [Value.ref co] ([(co, Sum.inr (4, [Value.long xx, Value.long xreadX, Value.ref soa, Value.ref sna, Value.ref swa, Value.int (nI its.length), Value.ref ri, Value.ref ro, Value.ref rw, Value.int xasked])), (rw, Sum.inr (0, [Value.int rwn, Value.ref rwa])), (rwa, Sum.inl (cI, rwk, Sum.inl rwf)), (ro, Sum.inr (0, [Value.int ron, Value.ref roa])), (roa, Sum.inl (cI, rok, Sum.inl rof)), (soa, Sum.inl (cO, 600, Sum.inr (Sum.inr (Sum.inr (Sum.inr sof))))), (sna, Sum.inl (cI, 600, Sum.inl snf)), (swa, Sum.inl (cI, 600, Sum.inl swf))] ++ pl) sz sl (fun (u : Int64 × Nat × Nat × (Nat → Int32) × Nat × Nat × (Nat → Int32)) => rOk (nI (e3S Fn its).length) u.2.2.1 ∧ gIs u.2.2.2.1 (e3S Fn its) ∧ rOk (nI ((e3S Fn its).reverse).length) u.2.2.2.2.2.1 ∧ gIs u.2.2.2.2.2.2 ((e3S Fn its).reverse)) (fun (u : Int64 × Nat × Nat × (Nat → Int32) × Nat × Nat × (Nat → Int32)) => ([(co, Sum.inr (4, [Value.long u.1, Value.long xreadX, Value.ref soa, Value.ref sna, Value.ref swa, Value.int (nI its.length), Value.ref ri, Value.ref ro, Value.ref rw, Value.int xasked])), (rw, Sum.inr (0, [Value.int (nI (e3S Fn its).length), Value.ref u.2.1])), (u.2.1, Sum.inl (cI, u.2.2.1, Sum.inl u.2.2.2.1)), (ro, Sum.inr (0, [Value.int (nI ((e3S Fn its).reverse).length), Value.ref u.2.2.2.2.1])), (u.2.2.2.2.1, Sum.inl (cI, u.2.2.2.2.2.1, Sum.inl u.2.2.2.2.2.2)), (soa, Sum.inl (cO, 600, Sum.inr (Sum.inr (Sum.inr (Sum.inr sof))))), (sna, Sum.inl (cI, 600, Sum.inl snf)), (swa, Sum.inl (cI, 600, Sum.inl swf))] ++ pl)) (rPh rwk + rPh rok) (fun (u : Int64 × Nat × Nat × (Nat → Int32) × Nat × Nat × (Nat → Int32)) => rPh u.2.2.1 + rPh u.2.2.2.2.2.1) := by
  refine my_ofVg (cc := prog_11_method_9_code) (n := 2) (ret := none) (by decide) rfl (Nat.le_of_ble_eq_true rfl) ?_
  intro p e s m args below meth c R Q A ls H locs hx hb hr hts hown hlocks hml hnm hR hQ hA hl hP hK hN hD hS
  have hg : ∀ w ∈ gw, w.before args s = true := fun w h => hts w (List.mem_cons_of_mem _ h)
  have hown : s.vm.findClass "RangeCoders$Stacked" = some m.cls := hown
  have hl : lv_has ls 2 [(0, Value.ref co)] := hl
  have hltw := rOk_lt hrw
  have hlto := rOk_lt hro
  refine lv_aload_n hx hb d_Stacked_closeMessage_0 rfl (lv_at hl 0 rfl) ?_
  refine va_get (D := (dC, dI)) (ci := 4) (v := .ref rw) (C := "RangeCoders$Stack") (T := T_Stack) (N := 10) hx hb hg in_Stack hown hK hP 0 rfl rfl 8 (by decide) (hg _ k122) (fun x9 h9 => u_same (hg _ k123) x9 h9) rfl d_Stacked_closeMessage_1 ?_
  refine my_cvt (wr := [(co, Sum.inr (4, [Value.long xx, Value.long xreadX, Value.ref soa, Value.ref sna, Value.ref swa, Value.int (nI its.length), Value.ref ri, Value.ref ro, Value.ref rw, Value.int xasked])), (ro, Sum.inr (0, [Value.int ron, Value.ref roa])), (roa, Sum.inl (cI, rok, Sum.inl rof)), (soa, Sum.inl (cO, 600, Sum.inr (Sum.inr (Sum.inr (Sum.inr sof))))), (sna, Sum.inl (cI, 600, Sum.inl snf)), (swa, Sum.inl (cI, 600, Sum.inl swf))]) (va_runV (As := []) (rest := []) ⟨hx, hb, hml, hown, hts⟩ (c_Row_clear l dC dI cI cM cO H.size rw rwn rwa rwk rwf (hrw)) (cwV 0 hts (my_gV k593 k594 k595 k6 k596) rfl rfl rfl cu_Row_clear_0 ⟨by rw [hR]; exact Nat.le_of_ble_eq_true rfl, by rw [hR]; exact Nat.le_of_ble_eq_true rfl⟩) (my_preV hK hN (my_subU hP [1, 2] rfl) (my_dubT hD [1, 2] (by decide +kernel) rfl) 0 rfl rfl) rfl rfl hl.1 rfl (lv_room (Nat.le_of_ble_eq_true rfl)) d_Stacked_closeMessage_4 ⟨by rw [hR]; exact (show 0 + 0 ≤ (rPh rwk + rPh rok) by omega), by rw [hR]; exact (show 0 + 0 ≤ (rPh rwk + rPh rok) by omega)⟩) hP hD hS hA [1, 2] [0, 3, 4, 5, 6, 7] rfl rfl (by decide +kernel) (by decide +kernel) (fun u9 H locs hw_4 hP hD hS => ?_)
  have hr_4 : rOk 0 rwk := hw_4
  have hPD : my_PD (dC, dI) vwCl A ([(co, Sum.inr (4, [Value.long xx, Value.long xreadX, Value.ref soa, Value.ref sna, Value.ref swa, Value.int (nI its.length), Value.ref ri, Value.ref ro, Value.ref rw, Value.int xasked])), (ro, Sum.inr (0, [Value.int ron, Value.ref roa])), (roa, Sum.inl (cI, rok, Sum.inl rof)), (soa, Sum.inl (cO, 600, Sum.inr (Sum.inr (Sum.inr (Sum.inr sof))))), (sna, Sum.inl (cI, 600, Sum.inl snf)), (swa, Sum.inl (cI, 600, Sum.inl swf)), (rw, Sum.inr (0, [Value.int 0, Value.ref rwa])), (rwa, Sum.inl (cI, rwk, Sum.inl rwf))] ++ pl) H := ⟨hP, hD⟩
  have hP := hPD.1
  have hD := hPD.2
  refine lv_aload_n hx hb d_Stacked_closeMessage_7 rfl (lv_at hl 0 rfl) ?_
  refine my_cvt (wr := [(ro, Sum.inr (0, [Value.int ron, Value.ref roa])), (roa, Sum.inl (cI, rok, Sum.inl rof)), (soa, Sum.inl (cO, 600, Sum.inr (Sum.inr (Sum.inr (Sum.inr sof))))), (sna, Sum.inl (cI, 600, Sum.inl snf)), (swa, Sum.inl (cI, 600, Sum.inl swf)), (rw, Sum.inr (0, [Value.int 0, Value.ref rwa])), (rwa, Sum.inl (cI, rwk, Sum.inl rwf))]) (va_runU (As := []) (rest := []) ⟨hx, hb, hml, hown, hts⟩ (f_Stack_openStack l dC dI cI cM cO H.size co xx xreadX soa sna swa (nI its.length) ri ro rw xasked) (va_cwA 0 hts (my_gU k597 k599 k600 k601 k10 k602) rfl rfl rfl (hN.1 _ j598 rfl) (by decide +kernel) ⟨by rw [hR]; exact Nat.le_of_ble_eq_true rfl, by rw [hR]; exact Nat.le_of_ble_eq_true rfl⟩) (my_preV hK hN (my_subU hP [0] rfl) (my_dubT hD [0] (by decide +kernel) rfl) 0 rfl rfl) rfl rfl hl.1 rfl (lv_room (Nat.le_of_ble_eq_true rfl)) d_Stacked_closeMessage_8 ⟨by rw [hR]; exact (show 0 + 0 ≤ (rPh rwk + rPh rok) by omega), by rw [hR]; exact (show 0 + 0 ≤ (rPh rwk + rPh rok) by omega)⟩) hP hD hS hA [0] [1, 2, 3, 4, 5, 6, 7] rfl rfl (by decide +kernel) (by decide +kernel) (fun u9 H locs hw_8 hP hD hS => ?_)
  have hPD : my_PD (dC, dI) vwCl A ([(ro, Sum.inr (0, [Value.int ron, Value.ref roa])), (roa, Sum.inl (cI, rok, Sum.inl rof)), (soa, Sum.inl (cO, 600, Sum.inr (Sum.inr (Sum.inr (Sum.inr sof))))), (sna, Sum.inl (cI, 600, Sum.inl snf)), (swa, Sum.inl (cI, 600, Sum.inl swf)), (rw, Sum.inr (0, [Value.int 0, Value.ref rwa])), (rwa, Sum.inl (cI, rwk, Sum.inl rwf)), (co, Sum.inr (4, [Value.long (lN 8388608), Value.long xreadX, Value.ref soa, Value.ref sna, Value.ref swa, Value.int (nI its.length), Value.ref ri, Value.ref ro, Value.ref rw, Value.int xasked]))] ++ pl) H := ⟨hP, hD⟩
  have hP := hPD.1
  have hD := hPD.2
  refine lv_aload_n hx hb d_Stacked_closeMessage_11 rfl (lv_at hl 0 rfl) ?_
  refine va_get (D := (dC, dI)) (ci := 4) (v := .int (nI its.length)) (C := "RangeCoders$Stack") (T := T_Stack) (N := 10) hx hb hg in_Stack hown hK hP 7 rfl rfl 5 (by decide) (hg _ k223) (fun _ h9 => h9) rfl d_Stacked_closeMessage_12 ?_
  refine lv_sipush (v := 600) hx hb d_Stacked_closeMessage_15 (by decide) ?_
  refine va_mmin hx hb (by rw [hml]; exact hl.1.symm) hown (hg _ k608) (hg _ k31) (hg _ k2) (hg _ k32) (by rw [hR]; exact Nat.le_of_ble_eq_true rfl) (by rw [hR]; exact Nat.le_of_ble_eq_true rfl) (Nat.zero_le _) (Nat.zero_le _) d_Stacked_closeMessage_18 ?_
  refine lv_topi (fun v_1 ev_1 => ?_)
  refine lv_iconst (v := 1) hx hb d_Stacked_closeMessage_21 (by decide) ?_
  refine lv_isub hx hb d_Stacked_closeMessage_22 ?_
  refine lv_topi (fun v_2 ev_2 => ?_)
  refine lv_istore_n (lv' := [(1, Value.int v_2), (0, Value.ref co)]) hx hb d_Stacked_closeMessage_23 rfl hl (by decide) rfl (fun ls hl => ?_)
  have J_24 : ∀ (n9_24 : Nat) (i9 : Int32) (k : Nat) (r9 : Nat × List Nat) (rwa9 : Nat) (rwk9 : Nat) (rwf9 : Nat → Int32) (d9 : Nat) (hn9_24 : k = n9_24) (hi : i9 + 1 = nI k) (hk : k ≤ its.length) (hE9 : e3N Fn its its.length (8388608, []) = e3N Fn its k r9) (hX1 : 8388608 ≤ r9.1) (hX2 : r9.1 < 2147483648) (hlw : r9.2.length + 2 * k ≤ 2 * its.length) (hr9 : rOk (nI r9.2.length) rwk9) (hg9 : gIs rwf9 r9.2) (hd9 : d9 + rPh rwk9 ≤ rPh rwk) (H : Heap) (locs : List Loc) (ls : Array Slot), va_P (dC, dI) vwCl ([(ro, Sum.inr (0, [Value.int ron, Value.ref roa])), (roa, Sum.inl (cI, rok, Sum.inl rof)), (soa, Sum.inl (cO, 600, Sum.inr (Sum.inr (Sum.inr (Sum.inr sof))))), (sna, Sum.inl (cI, 600, Sum.inl snf)), (swa, Sum.inl (cI, 600, Sum.inl swf)), (rw, Sum.inr (0, [Value.int (nI r9.2.length), Value.ref rwa9])), (rwa9, Sum.inl (cI, rwk9, Sum.inl rwf9)), (co, Sum.inr (4, [Value.long (lN r9.1), Value.long xreadX, Value.ref soa, Value.ref sna, Value.ref swa, Value.int (nI its.length), Value.ref ri, Value.ref ro, Value.ref rw, Value.int xasked]))] ++ pl) H → va_D A ([(ro, Sum.inr (0, [Value.int ron, Value.ref roa])), (roa, Sum.inl (cI, rok, Sum.inl rof)), (soa, Sum.inl (cO, 600, Sum.inr (Sum.inr (Sum.inr (Sum.inr sof))))), (sna, Sum.inl (cI, 600, Sum.inl snf)), (swa, Sum.inl (cI, 600, Sum.inl swf)), (rw, Sum.inr (0, [Value.int (nI r9.2.length), Value.ref rwa9])), (rwa9, Sum.inl (cI, rwk9, Sum.inl rwf9)), (co, Sum.inr (4, [Value.long (lN r9.1), Value.long xreadX, Value.ref soa, Value.ref sna, Value.ref swa, Value.int (nI its.length), Value.ref ri, Value.ref ro, Value.ref rw, Value.int xasked]))] ++ pl) → va_S A s.heap H locs → lv_has ls 2 [(1, Value.int i9), (0, Value.ref co)] → W p l e R s m args below meth c H locs d9 d9 Q (F0 m 24 ls []) := by
    intro n9_24
    induction n9_24 using Nat.strongRecOn with
    | ind n9_24 ih9_24 =>
      intro i9 k r9 rwa9 rwk9 rwf9 d9 hn9_24 hi hk hE9 hX1 hX2 hlw hr9 hg9 hd9 H locs ls hP hD hS hl
      refine lv_iload_n hx hb d_Stacked_closeMessage_24 rfl (lv_at hl 0 rfl) ?_
      refine lv_if_lt (tgt := 78) hx hb d_Stacked_closeMessage_25 (by decide) (fun c_3 => ?_) (fun c_3 => ?_)
      · have hj0 : k = 0 := by
          rcases Nat.eq_zero_or_pos k with z | z
          · exact z
          · exact absurd (show i9 < 0 from c_3) (by rw [show i9 = nI (k - 1) from by rw [← Int32.add_sub_cancel (a := i9) (b := 1), hi]; exact pk_sub (b := 1) z]; exact nI_pos (by omega))
        have hF9 : e3S Fn its = (r9.2 ++ b4 r9.1 4) := by unfold e3S; rw [hE9, hj0]; rfl
        refine lv_aload_n hx hb d_Stacked_closeMessage_78 rfl (lv_at hl 1 rfl) ?_
        refine my_cvgt (wr := [(soa, Sum.inl (cO, 600, Sum.inr (Sum.inr (Sum.inr (Sum.inr sof))))), (sna, Sum.inl (cI, 600, Sum.inl snf)), (swa, Sum.inl (cI, 600, Sum.inl swf))]) (va_runU (As := []) (rest := []) ⟨hx, hb, hml, hown, hts⟩ (f_Stack_closeStack l dC dI cI cM cO H.size (hSl H) co xreadX soa sna swa (nI its.length) ri ro rw xasked r9.1 rwa9 rwk9 rwf9 r9.2 ron roa rok rof (hX2) (hr9) (hg9) (hro) (by omega)) (va_cwA 0 hts (my_gU k647 k649 k650 k651 k10 k652) rfl rfl rfl (hN.1 _ j648 rfl) (by decide +kernel) ⟨by rw [hR]; exact Nat.le_of_ble_eq_true rfl, by rw [hR]; exact Nat.le_of_ble_eq_true rfl⟩) (my_preVg hK hN (my_subU hP [7, 5, 6, 0, 1] rfl) (my_dubT hD [7, 5, 6, 0, 1] (by decide +kernel) rfl) 0 rfl rfl) rfl rfl hl.1 rfl (lv_room (Nat.le_of_ble_eq_true rfl)) d_Stacked_closeMessage_79 ⟨by rw [hR]; exact (show d9 + (rPh rwk9 + rPh rok) ≤ (rPh rwk + rPh rok) by omega), by rw [hR]; exact (show d9 + (rPh rwk9 + rPh rok) ≤ (rPh rwk + rPh rok) by omega)⟩) hP hD hS hA [7, 5, 6, 0, 1] [2, 3, 4] rfl rfl (by decide +kernel) (by decide +kernel) (fun u9 d_79 H locs hd_79 hw_79 hP hD hS => ?_)
        obtain ⟨xxq_79, rwaq_79, rwkq_79, rwfq_79, roaq_79, rokq_79, rofq_79⟩ := u9
        obtain ⟨hrw_79, hGrw_79, hro_79, hGro_79⟩ : rOk (nI (r9.2 ++ b4 r9.1 4).length) rwkq_79 ∧ gIs rwfq_79 (r9.2 ++ b4 r9.1 4) ∧ rOk (nI ((r9.2 ++ b4 r9.1 4).reverse).length) rokq_79 ∧ gIs rofq_79 ((r9.2 ++ b4 r9.1 4).reverse) := hw_79
        have hd_79 : d_79 + (rPh rwkq_79 + rPh rokq_79) ≤ (rPh rwk9 + rPh rok) := hd_79
        have hPD : my_PD (dC, dI) vwCl A ([(soa, Sum.inl (cO, 600, Sum.inr (Sum.inr (Sum.inr (Sum.inr sof))))), (sna, Sum.inl (cI, 600, Sum.inl snf)), (swa, Sum.inl (cI, 600, Sum.inl swf)), (co, Sum.inr (4, [Value.long xxq_79, Value.long xreadX, Value.ref soa, Value.ref sna, Value.ref swa, Value.int (nI its.length), Value.ref ri, Value.ref ro, Value.ref rw, Value.int xasked])), (rw, Sum.inr (0, [Value.int (nI (r9.2 ++ b4 r9.1 4).length), Value.ref rwaq_79])), (rwaq_79, Sum.inl (cI, rwkq_79, Sum.inl rwfq_79)), (ro, Sum.inr (0, [Value.int (nI ((r9.2 ++ b4 r9.1 4).reverse).length), Value.ref roaq_79])), (roaq_79, Sum.inl (cI, rokq_79, Sum.inl rofq_79))] ++ pl) H := ⟨hP, hD⟩
        have hP := hPD.1
        have hD := hPD.2
        have hsu : (nI (r9.2 ++ b4 r9.1 4).length : Int32) = nI (e3S Fn its).length := by rw [hF9]
        rw [hsu] at hP hD
        have hPD : my_PD (dC, dI) vwCl A ([(soa, Sum.inl (cO, 600, Sum.inr (Sum.inr (Sum.inr (Sum.inr sof))))), (sna, Sum.inl (cI, 600, Sum.inl snf)), (swa, Sum.inl (cI, 600, Sum.inl swf)), (co, Sum.inr (4, [Value.long xxq_79, Value.long xreadX, Value.ref soa, Value.ref sna, Value.ref swa, Value.int (nI its.length), Value.ref ri, Value.ref ro, Value.ref rw, Value.int xasked])), (rw, Sum.inr (0, [Value.int (nI (e3S Fn its).length), Value.ref rwaq_79])), (rwaq_79, Sum.inl (cI, rwkq_79, Sum.inl rwfq_79)), (ro, Sum.inr (0, [Value.int (nI ((r9.2 ++ b4 r9.1 4).reverse).length), Value.ref roaq_79])), (roaq_79, Sum.inl (cI, rokq_79, Sum.inl rofq_79))] ++ pl) H := ⟨hP, hD⟩
        have hP := hPD.1
        have hD := hPD.2
        have hsu : (nI ((r9.2 ++ b4 r9.1 4).reverse).length : Int32) = nI ((e3S Fn its).reverse).length := by rw [hF9]
        rw [hsu] at hP hD
        have hPD : my_PD (dC, dI) vwCl A ([(soa, Sum.inl (cO, 600, Sum.inr (Sum.inr (Sum.inr (Sum.inr sof))))), (sna, Sum.inl (cI, 600, Sum.inl snf)), (swa, Sum.inl (cI, 600, Sum.inl swf)), (co, Sum.inr (4, [Value.long xxq_79, Value.long xreadX, Value.ref soa, Value.ref sna, Value.ref swa, Value.int (nI its.length), Value.ref ri, Value.ref ro, Value.ref rw, Value.int xasked])), (rw, Sum.inr (0, [Value.int (nI (e3S Fn its).length), Value.ref rwaq_79])), (rwaq_79, Sum.inl (cI, rwkq_79, Sum.inl rwfq_79)), (ro, Sum.inr (0, [Value.int (nI ((e3S Fn its).reverse).length), Value.ref roaq_79])), (roaq_79, Sum.inl (cI, rokq_79, Sum.inl rofq_79))] ++ pl) H := ⟨hP, hD⟩
        have hP := hPD.1
        have hD := hPD.2
        exact my_vretg hx hb hr hlocks hQ hK hS (xxq_79, rwaq_79, rwkq_79, rwfq_79, roaq_79, rokq_79, rofq_79) (show (d9 + d_79) + (rPh rwkq_79 + rPh rokq_79) ≤ (rPh rwk + rPh rok) by omega) (show (d9 + d_79) + (rPh rwkq_79 + rPh rokq_79) ≤ (rPh rwk + rPh rok) by omega) (⟨by rw [hF9]; exact hrw_79, by rw [hF9]; exact hGrw_79, by rw [hF9]; exact hro_79, by rw [hF9]; exact hGro_79⟩) (hP.part [3, 4, 5, 6, 7, 0, 1, 2] rfl) (hD.part [3, 4, 5, 6, 7, 0, 1, 2] (by decide +kernel) rfl) d_Stacked_closeMessage_82
      · have hj0 : 1 ≤ k := by
          rcases Nat.eq_zero_or_pos k with z | z
          · subst z; exact absurd (show i9 < 0 by rw [show i9 = -1 from by rw [← Int32.add_sub_cancel (a := i9) (b := 1), hi]; rfl]; decide) c_3
          · exact z
        have hi9 : i9 = nI (k - 1) := by rw [← Int32.add_sub_cancel (a := i9) (b := 1), hi]; exact pk_sub (b := 1) hj0
        subst hi9
        refine lv_aload_n hx hb d_Stacked_closeMessage_28 rfl (lv_at hl 1 rfl) ?_
        refine va_get (D := (dC, dI)) (ci := 4) (v := .ref soa) (C := "RangeCoders$Stack") (T := T_Stack) (N := 10) hx hb hg in_Stack hown hK hP 7 rfl rfl 2 (by decide) (hg _ k220) (fun _ h9 => h9) rfl d_Stacked_closeMessage_29 ?_
        refine lv_iload_n hx hb d_Stacked_closeMessage_32 rfl (lv_at hl 0 rfl) ?_
        refine va_aldq hx hb hK hP 2 2 rfl rfl (vp_in_nI (by omega) (by decide)) d_Stacked_closeMessage_33 ?_
        rcases hq_a_4 : sof (nI (k - 1)).toNatClampNeg with _ | a_4
        · refine W.eq (g2 := F0 m 34 ls [Value.null]) rfl ?_
          refine lv_ifnonnullN hx hb d_Stacked_closeMessage_34 ?_
          rw [nI_clamp (by omega)] at hq_a_4
          obtain ⟨z1, -, z3, z4, z5, z6, z7⟩ := kp_none hkp (show k - 1 < its.length by omega) hq_a_4
          have z8 : (itA its (k - 1)).2.2 < 4096 := Nat.lt_of_lt_of_le z7 (Nat.pow_le_pow_right (n := 2) (by decide) (by omega : _ ≤ 12))
          refine lv_aload_n hx hb d_Stacked_closeMessage_37 rfl (lv_at hl 1 rfl) ?_
          refine lv_aload_n hx hb d_Stacked_closeMessage_38 rfl (lv_at hl 1 rfl) ?_
          refine va_get (D := (dC, dI)) (ci := 4) (v := .ref sna) (C := "RangeCoders$Stack") (T := T_Stack) (N := 10) hx hb hg in_Stack hown hK hP 7 rfl rfl 3 (by decide) (hg _ k221) (fun _ h9 => h9) rfl d_Stacked_closeMessage_39 ?_
          refine lv_iload_n hx hb d_Stacked_closeMessage_42 rfl (lv_at hl 0 rfl) ?_
          refine va_iald hx hb hK hP 3 0 rfl rfl (vp_in_nI (by omega) (by decide)) d_Stacked_closeMessage_43 ?_
          refine lv_topi (fun v_5 ev_5 => ?_)
          have z9 : v_5 = nI (itA its (k - 1)).2.2 := by rw [ev_5, nI_clamp (by omega)]; exact z3
          subst z9
          refine lv_aload_n hx hb d_Stacked_closeMessage_44 rfl (lv_at hl 1 rfl) ?_
          refine va_get (D := (dC, dI)) (ci := 4) (v := .ref swa) (C := "RangeCoders$Stack") (T := T_Stack) (N := 10) hx hb hg in_Stack hown hK hP 7 rfl rfl 4 (by decide) (hg _ k222) (fun _ h9 => h9) rfl d_Stacked_closeMessage_45 ?_
          refine lv_iload_n hx hb d_Stacked_closeMessage_48 rfl (lv_at hl 0 rfl) ?_
          refine va_iald hx hb hK hP 4 0 rfl rfl (vp_in_nI (by omega) (by decide)) d_Stacked_closeMessage_49 ?_
          refine lv_topi (fun v_6 ev_6 => ?_)
          have z9 : v_6 = nI (itA its (k - 1)).2.1 := by rw [ev_6, nI_clamp (by omega)]; exact z4
          subst z9
          refine my_cvgt (wr := [(ro, Sum.inr (0, [Value.int ron, Value.ref roa])), (roa, Sum.inl (cI, rok, Sum.inl rof)), (soa, Sum.inl (cO, 600, Sum.inr (Sum.inr (Sum.inr (Sum.inr sof))))), (sna, Sum.inl (cI, 600, Sum.inl snf)), (swa, Sum.inl (cI, 600, Sum.inl swf))]) (va_runU (As := [Value.int (nI (itA its (k - 1)).2.2), Value.int (nI (itA its (k - 1)).2.1)]) (rest := []) ⟨hx, hb, hml, hown, hts⟩ (f_Stack_stackValue l dC dI cI cM cO H.size (hSl H) co xreadX soa sna swa (nI its.length) ri ro rw xasked r9.1 rwa9 rwk9 rwf9 r9.2 ((itA its (k - 1)).2.2) ((itA its (k - 1)).2.1) (z5) (z6) (z7) (hX2) (hr9) (hg9) (by omega)) (va_cwA 2 hts (my_gU k609 k611 k612 k613 k10 k614) rfl rfl rfl (hN.1 _ j610 rfl) (by decide +kernel) ⟨by rw [hR]; exact Nat.le_of_ble_eq_true rfl, by rw [hR]; exact Nat.le_of_ble_eq_true rfl⟩) (my_preVg hK hN (my_subU hP [7, 5, 6] rfl) (my_dubT hD [7, 5, 6] (by decide +kernel) rfl) 0 rfl rfl) rfl rfl hl.1 rfl (lv_room (Nat.le_of_ble_eq_true rfl)) d_Stacked_closeMessage_50 ⟨by rw [hR]; exact (show d9 + (rPh rwk9) ≤ (rPh rwk + rPh rok) by omega), by rw [hR]; exact (show d9 + (rPh rwk9) ≤ (rPh rwk + rPh rok) by omega)⟩) hP hD hS hA [7, 5, 6] [0, 1, 2, 3, 4] rfl rfl (by decide +kernel) (by decide +kernel) (fun u9 d_50 H locs hd_50 hw_50 hP hD hS => ?_)
          obtain ⟨rwaq_50, rwkq_50, rwfq_50⟩ := u9
          obtain ⟨hrw_50, hGrw_50⟩ : rOk (nI ((s3I (4096 / 2 ^ ((itA its (k - 1)).2.1)) (4096 / 2 ^ ((itA its (k - 1)).2.1) * ((itA its (k - 1)).2.2)) (r9.1, r9.2)).2).length) rwkq_50 ∧ gIs rwfq_50 ((s3I (4096 / 2 ^ ((itA its (k - 1)).2.1)) (4096 / 2 ^ ((itA its (k - 1)).2.1) * ((itA its (k - 1)).2.2)) (r9.1, r9.2)).2) := hw_50
          have hd_50 : d_50 + (rPh rwkq_50) ≤ (rPh rwk9) := hd_50
          have hPD : my_PD (dC, dI) vwCl A ([(ro, Sum.inr (0, [Value.int ron, Value.ref roa])), (roa, Sum.inl (cI, rok, Sum.inl rof)), (soa, Sum.inl (cO, 600, Sum.inr (Sum.inr (Sum.inr (Sum.inr sof))))), (sna, Sum.inl (cI, 600, Sum.inl snf)), (swa, Sum.inl (cI, 600, Sum.inl swf)), (co, Sum.inr (4, [Value.long (lN (s3I (4096 / 2 ^ ((itA its (k - 1)).2.1)) (4096 / 2 ^ ((itA its (k - 1)).2.1) * ((itA its (k - 1)).2.2)) (r9.1, r9.2)).1), Value.long xreadX, Value.ref soa, Value.ref sna, Value.ref swa, Value.int (nI its.length), Value.ref ri, Value.ref ro, Value.ref rw, Value.int xasked])), (rw, Sum.inr (0, [Value.int (nI (s3I (4096 / 2 ^ ((itA its (k - 1)).2.1)) (4096 / 2 ^ ((itA its (k - 1)).2.1) * ((itA its (k - 1)).2.2)) (r9.1, r9.2)).2.length), Value.ref rwaq_50])), (rwaq_50, Sum.inl (cI, rwkq_50, Sum.inl rwfq_50))] ++ pl) H := ⟨hP, hD⟩
          have hP := hPD.1
          have hD := hPD.2
          have hpw : 2 ^ (itA its (k - 1)).2.1 ≤ 4096 := pw12 z6
          have hpw0 : 0 < 2 ^ (itA its (k - 1)).2.1 := Nat.two_pow_pos _
          have hs9 := s3I_ok (f := 4096 / 2 ^ (itA its (k - 1)).2.1) (c := 4096 / 2 ^ (itA its (k - 1)).2.1 * (itA its (k - 1)).2.2) (bs := r9.2) (Nat.div_pos hpw hpw0) (Nat.div_le_self _ _) (vl_cf z7) hX1 hX2
          rw [show ((r9.1, r9.2) : Nat × List Nat) = r9 from rfl] at hs9
          refine lv_goto (tgt := 72) hx hb d_Stacked_closeMessage_53 (by decide) ?_
          obtain ⟨v_7, ev_7⟩ : ∃ y : Int32, y = (nI (k - 1)) + (-1) := ⟨_, rfl⟩
          refine lv_iinc (v := v_7) (lv' := [(1, Value.int v_7), (0, Value.ref co)]) hx hb d_Stacked_closeMessage_72 hl (k := 0) rfl (by rw [ev_7]; rfl) (by decide) rfl (fun ls hl => ?_)
          refine lv_goto (tgt := 24) hx hb d_Stacked_closeMessage_75 (by decide) ?_
          exact ih9_24 _ (by first | omega | (omega)) v_7 (k - 1) (s3I (4096 / 2 ^ (itA its (k - 1)).2.1) (4096 / 2 ^ (itA its (k - 1)).2.1 * (itA its (k - 1)).2.2) r9) rwaq_50 rwkq_50 rwfq_50 (d9 + d_50) rfl (by rw [ev_7, show nI (k - 1) + (-1) + 1 = nI (k - 1) from by rw [Int32.add_assoc, show (-1 : Int32) + 1 = 0 from by decide, Int32.add_zero]]) (by omega) (by rw [hE9, show e3N Fn its k r9 = e3N Fn its (k - 1 + 1) r9 by rw [Nat.sub_add_cancel hj0], e3N]; unfold itF itC; rw [if_pos z1, if_pos z1]) (hs9.1) (hs9.2.1) (by have z9 := hs9.2.2; omega) (hrw_50) (hGrw_50) (by omega) H locs ls (hP.part [0, 1, 2, 3, 4, 6, 7, 5] rfl) (hD.part [0, 1, 2, 3, 4, 6, 7, 5] (by decide +kernel) rfl) hS (lv_sub hl [0, 1] rfl)
        · refine W.eq (g2 := F0 m 34 ls [Value.ref a_4]) rfl ?_
          refine lv_ifnonnull (tgt := 56) hx hb d_Stacked_closeMessage_34 (by decide) ?_
          have hq9 := hq_a_4
          rw [nI_clamp (by omega)] at hq9
          obtain ⟨y1, y2, y3, y4, y5, o9, rest9, ho9, hob9, hpm9⟩ := kp_some hkp (show k - 1 < its.length by omega) hq9
          obtain ⟨oo9, osg9, osm9, ofc9, oca9, opa9, ol9, ocf9, opl9, opf9⟩ := o9
          rw [hq9] at ho9
          have ho9 : a_4 = oo9 := Option.some.inj ho9
          subst ho9
          obtain ⟨hn9, hfc9, hl9, hf9, hp9⟩ := hob9
          have hfc9 : ofc9 = 0 := hfc9
          have hl9 : ol9 = N (itA its (k - 1)).2.1 := hl9
          subst hfc9
          subst hl9
          have hP := pm_P hP (od_out [(ro, Sum.inr (0, [Value.int ron, Value.ref roa])), (roa, Sum.inl (cI, rok, Sum.inl rof)), (soa, Sum.inl (cO, 600, Sum.inr (Sum.inr (Sum.inr (Sum.inr sof))))), (sna, Sum.inl (cI, 600, Sum.inl snf)), (swa, Sum.inl (cI, 600, Sum.inl swf)), (rw, Sum.inr (0, [Value.int (nI r9.2.length), Value.ref rwa9])), (rwa9, Sum.inl (cI, rwk9, Sum.inl rwf9)), (co, Sum.inr (4, [Value.long (lN r9.1), Value.long xreadX, Value.ref soa, Value.ref sna, Value.ref swa, Value.int (nI its.length), Value.ref ri, Value.ref ro, Value.ref rw, Value.int xasked]))] hpm9)
          have hD := pm_D hD (od_out [(ro, Sum.inr (0, [Value.int ron, Value.ref roa])), (roa, Sum.inl (cI, rok, Sum.inl rof)), (soa, Sum.inl (cO, 600, Sum.inr (Sum.inr (Sum.inr (Sum.inr sof))))), (sna, Sum.inl (cI, 600, Sum.inl snf)), (swa, Sum.inl (cI, 600, Sum.inl swf)), (rw, Sum.inr (0, [Value.int (nI r9.2.length), Value.ref rwa9])), (rwa9, Sum.inl (cI, rwk9, Sum.inl rwf9)), (co, Sum.inr (4, [Value.long (lN r9.1), Value.long xreadX, Value.ref soa, Value.ref sna, Value.ref swa, Value.int (nI its.length), Value.ref ri, Value.ref ro, Value.ref rw, Value.int xasked]))] hpm9)
          have hPD : my_PD (dC, dI) vwCl A ([(ro, Sum.inr (0, [Value.int ron, Value.ref roa])), (roa, Sum.inl (cI, rok, Sum.inl rof)), (soa, Sum.inl (cO, 600, Sum.inr (Sum.inr (Sum.inr (Sum.inr sof))))), (sna, Sum.inl (cI, 600, Sum.inl snf)), (swa, Sum.inl (cI, 600, Sum.inl swf)), (rw, Sum.inr (0, [Value.int (nI r9.2.length), Value.ref rwa9])), (rwa9, Sum.inl (cI, rwk9, Sum.inl rwf9)), (co, Sum.inr (4, [Value.long (lN r9.1), Value.long xreadX, Value.ref soa, Value.ref sna, Value.ref swa, Value.int (nI its.length), Value.ref ri, Value.ref ro, Value.ref rw, Value.int xasked])), (a_4, Sum.inr (7, [Value.int osg9, Value.int osm9, Value.int 0, Value.ref oca9, Value.ref opa9])), (oca9, Sum.inl (cI, (N (itA its (k - 1)).2.1), Sum.inl ocf9)), (opa9, Sum.inl (cI, opl9, Sum.inl opf9))] ++ rest9) H := ⟨hP, hD⟩
          have hP := hPD.1
          have hD := hPD.2
          refine lv_aload_n hx hb d_Stacked_closeMessage_56 rfl (lv_at hl 1 rfl) ?_
          refine lv_aload_n hx hb d_Stacked_closeMessage_57 rfl (lv_at hl 1 rfl) ?_
          refine va_get (D := (dC, dI)) (ci := 4) (v := .ref soa) (C := "RangeCoders$Stack") (T := T_Stack) (N := 10) hx hb hg in_Stack hown hK hP 7 rfl rfl 2 (by decide) (hg _ k220) (fun _ h9 => h9) rfl d_Stacked_closeMessage_58 ?_
          refine lv_iload_n hx hb d_Stacked_closeMessage_61 rfl (lv_at hl 0 rfl) ?_
          refine va_aldq hx hb hK hP 2 2 rfl rfl (vp_in_nI (by omega) (by decide)) d_Stacked_closeMessage_62 ?_
          refine W.eq (g2 := F0 m 63 ls [Value.ref a_4, Value.ref co]) (by rw [hq_a_4]; rfl) ?_
          refine lv_aload_n hx hb d_Stacked_closeMessage_63 rfl (lv_at hl 1 rfl) ?_
          refine va_get (D := (dC, dI)) (ci := 4) (v := .ref sna) (C := "RangeCoders$Stack") (T := T_Stack) (N := 10) hx hb hg in_Stack hown hK hP 7 rfl rfl 3 (by decide) (hg _ k221) (fun _ h9 => h9) rfl d_Stacked_closeMessage_64 ?_
          refine lv_iload_n hx hb d_Stacked_closeMessage_67 rfl (lv_at hl 0 rfl) ?_
          refine va_iald hx hb hK hP 3 0 rfl rfl (vp_in_nI (by omega) (by decide)) d_Stacked_closeMessage_68 ?_
          refine lv_topi (fun v_8 ev_8 => ?_)
          have z9 : v_8 = nI (itA its (k - 1)).2.2 := by rw [ev_8, nI_clamp (by omega)]; exact y2
          subst z9
          refine my_cvgt (wr := [(ro, Sum.inr (0, [Value.int ron, Value.ref roa])), (roa, Sum.inl (cI, rok, Sum.inl rof)), (soa, Sum.inl (cO, 600, Sum.inr (Sum.inr (Sum.inr (Sum.inr sof))))), (sna, Sum.inl (cI, 600, Sum.inl snf)), (swa, Sum.inl (cI, 600, Sum.inl swf))]) (va_runU (As := [Value.ref a_4, Value.int (nI (itA its (k - 1)).2.2)]) (rest := []) ⟨hx, hb, hml, hown, hts⟩ (f_Stack_stackSign l dC dI cI cM cO H.size (hSl H) co xreadX soa sna swa (nI its.length) ri ro rw xasked r9.1 rwa9 rwk9 rwf9 r9.2 a_4 osg9 0 oca9 opa9 (N (itA its (k - 1)).2.1) ocf9 opl9 opf9 (Fn (itA its (k - 1)).2.1) osm9 ((itA its (k - 1)).2.2) (hn9) (hp9) (hf9) (y3) (nI_pos' (by omega)) (y4) (by omega) (hX2) (hr9) (hg9) (by omega)) (va_cwA 2 hts (my_gU k630 k632 k633 k634 k10 k635) rfl rfl rfl (hN.1 _ j631 rfl) (by decide +kernel) ⟨by rw [hR]; exact Nat.le_of_ble_eq_true rfl, by rw [hR]; exact Nat.le_of_ble_eq_true rfl⟩) (my_preVg hK hN (my_subU hP [7, 5, 6, 8, 9, 10] rfl) (my_dubT hD [7, 5, 6, 8, 9, 10] (by decide +kernel) rfl) 0 rfl rfl) rfl rfl hl.1 rfl (lv_room (Nat.le_of_ble_eq_true rfl)) d_Stacked_closeMessage_69 ⟨by rw [hR]; exact (show d9 + (rPh rwk9) ≤ (rPh rwk + rPh rok) by omega), by rw [hR]; exact (show d9 + (rPh rwk9) ≤ (rPh rwk + rPh rok) by omega)⟩) hP hD hS hA [7, 5, 6, 8, 9, 10] [0, 1, 2, 3, 4] rfl rfl (by decide +kernel) (by decide +kernel) (fun u9 d_69 H locs hd_69 hw_69 hP hD hS => ?_)
          obtain ⟨rwaq_69, rwkq_69, rwfq_69⟩ := u9
          obtain ⟨hrw_69, hGrw_69⟩ : rOk (nI ((s3I ((Fn (itA its (k - 1)).2.1) ((itA its (k - 1)).2.2)) (ns (Fn (itA its (k - 1)).2.1) ((itA its (k - 1)).2.2)) (r9.1, r9.2)).2).length) rwkq_69 ∧ gIs rwfq_69 ((s3I ((Fn (itA its (k - 1)).2.1) ((itA its (k - 1)).2.2)) (ns (Fn (itA its (k - 1)).2.1) ((itA its (k - 1)).2.2)) (r9.1, r9.2)).2) := hw_69
          have hd_69 : d_69 + (rPh rwkq_69) ≤ (rPh rwk9) := hd_69
          have hPD : my_PD (dC, dI) vwCl A ([(ro, Sum.inr (0, [Value.int ron, Value.ref roa])), (roa, Sum.inl (cI, rok, Sum.inl rof)), (soa, Sum.inl (cO, 600, Sum.inr (Sum.inr (Sum.inr (Sum.inr sof))))), (sna, Sum.inl (cI, 600, Sum.inl snf)), (swa, Sum.inl (cI, 600, Sum.inl swf)), (co, Sum.inr (4, [Value.long (lN (s3I ((Fn (itA its (k - 1)).2.1) ((itA its (k - 1)).2.2)) (ns (Fn (itA its (k - 1)).2.1) ((itA its (k - 1)).2.2)) (r9.1, r9.2)).1), Value.long xreadX, Value.ref soa, Value.ref sna, Value.ref swa, Value.int (nI its.length), Value.ref ri, Value.ref ro, Value.ref rw, Value.int xasked])), (rw, Sum.inr (0, [Value.int (nI (s3I ((Fn (itA its (k - 1)).2.1) ((itA its (k - 1)).2.2)) (ns (Fn (itA its (k - 1)).2.1) ((itA its (k - 1)).2.2)) (r9.1, r9.2)).2.length), Value.ref rwaq_69])), (rwaq_69, Sum.inl (cI, rwkq_69, Sum.inl rwfq_69)), (a_4, Sum.inr (7, [Value.int osg9, Value.int osm9, Value.int 0, Value.ref oca9, Value.ref opa9])), (oca9, Sum.inl (cI, (N (itA its (k - 1)).2.1), Sum.inl ocf9)), (opa9, Sum.inl (cI, opl9, Sum.inl opf9))] ++ rest9) H := ⟨hP, hD⟩
          have hP := hPD.1
          have hD := hPD.2
          have hm9 := ns_m1 (Fn (itA its (k - 1)).2.1) y3
          have hs9 := s3I_ok (f := Fn (itA its (k - 1)).2.1 (itA its (k - 1)).2.2) (c := ns (Fn (itA its (k - 1)).2.1) (itA its (k - 1)).2.2) (bs := r9.2) y4 (by omega) (by omega) hX1 hX2
          rw [show ((r9.1, r9.2) : Nat × List Nat) = r9 from rfl] at hs9
          have hP := pm_P (hP.part [5, 6, 7, 0, 1, 2, 3, 4, 8, 9, 10] rfl : va_P (dC, dI) vwCl ([(co, Sum.inr (4, [Value.long (lN (s3I ((Fn (itA its (k - 1)).2.1) ((itA its (k - 1)).2.2)) (ns (Fn (itA its (k - 1)).2.1) ((itA its (k - 1)).2.2)) (r9.1, r9.2)).1), Value.long xreadX, Value.ref soa, Value.ref sna, Value.ref swa, Value.int (nI its.length), Value.ref ri, Value.ref ro, Value.ref rw, Value.int xasked])), (rw, Sum.inr (0, [Value.int (nI (s3I ((Fn (itA its (k - 1)).2.1) ((itA its (k - 1)).2.2)) (ns (Fn (itA its (k - 1)).2.1) ((itA its (k - 1)).2.2)) (r9.1, r9.2)).2.length), Value.ref rwaq_69])), (rwaq_69, Sum.inl (cI, rwkq_69, Sum.inl rwfq_69)), (ro, Sum.inr (0, [Value.int ron, Value.ref roa])), (roa, Sum.inl (cI, rok, Sum.inl rof)), (soa, Sum.inl (cO, 600, Sum.inr (Sum.inr (Sum.inr (Sum.inr sof))))), (sna, Sum.inl (cI, 600, Sum.inl snf)), (swa, Sum.inl (cI, 600, Sum.inl swf)), (a_4, Sum.inr (7, [Value.int osg9, Value.int osm9, Value.int 0, Value.ref oca9, Value.ref opa9])), (oca9, Sum.inl (cI, (N (itA its (k - 1)).2.1), Sum.inl ocf9)), (opa9, Sum.inl (cI, opl9, Sum.inl opf9))] ++ rest9) H) (od_out [(co, Sum.inr (4, [Value.long (lN (s3I ((Fn (itA its (k - 1)).2.1) ((itA its (k - 1)).2.2)) (ns (Fn (itA its (k - 1)).2.1) ((itA its (k - 1)).2.2)) (r9.1, r9.2)).1), Value.long xreadX, Value.ref soa, Value.ref sna, Value.ref swa, Value.int (nI its.length), Value.ref ri, Value.ref ro, Value.ref rw, Value.int xasked])), (rw, Sum.inr (0, [Value.int (nI (s3I ((Fn (itA its (k - 1)).2.1) ((itA its (k - 1)).2.2)) (ns (Fn (itA its (k - 1)).2.1) ((itA its (k - 1)).2.2)) (r9.1, r9.2)).2.length), Value.ref rwaq_69])), (rwaq_69, Sum.inl (cI, rwkq_69, Sum.inl rwfq_69)), (ro, Sum.inr (0, [Value.int ron, Value.ref roa])), (roa, Sum.inl (cI, rok, Sum.inl rof)), (soa, Sum.inl (cO, 600, Sum.inr (Sum.inr (Sum.inr (Sum.inr sof))))), (sna, Sum.inl (cI, 600, Sum.inl snf)), (swa, Sum.inl (cI, 600, Sum.inl swf))] hpm9).symm
          have hD := pm_D (hD.part [5, 6, 7, 0, 1, 2, 3, 4, 8, 9, 10] (by decide +kernel) rfl : va_D A ([(co, Sum.inr (4, [Value.long (lN (s3I ((Fn (itA its (k - 1)).2.1) ((itA its (k - 1)).2.2)) (ns (Fn (itA its (k - 1)).2.1) ((itA its (k - 1)).2.2)) (r9.1, r9.2)).1), Value.long xreadX, Value.ref soa, Value.ref sna, Value.ref swa, Value.int (nI its.length), Value.ref ri, Value.ref ro, Value.ref rw, Value.int xasked])), (rw, Sum.inr (0, [Value.int (nI (s3I ((Fn (itA its (k - 1)).2.1) ((itA its (k - 1)).2.2)) (ns (Fn (itA its (k - 1)).2.1) ((itA its (k - 1)).2.2)) (r9.1, r9.2)).2.length), Value.ref rwaq_69])), (rwaq_69, Sum.inl (cI, rwkq_69, Sum.inl rwfq_69)), (ro, Sum.inr (0, [Value.int ron, Value.ref roa])), (roa, Sum.inl (cI, rok, Sum.inl rof)), (soa, Sum.inl (cO, 600, Sum.inr (Sum.inr (Sum.inr (Sum.inr sof))))), (sna, Sum.inl (cI, 600, Sum.inl snf)), (swa, Sum.inl (cI, 600, Sum.inl swf)), (a_4, Sum.inr (7, [Value.int osg9, Value.int osm9, Value.int 0, Value.ref oca9, Value.ref opa9])), (oca9, Sum.inl (cI, (N (itA its (k - 1)).2.1), Sum.inl ocf9)), (opa9, Sum.inl (cI, opl9, Sum.inl opf9))] ++ rest9)) (od_out [(co, Sum.inr (4, [Value.long (lN (s3I ((Fn (itA its (k - 1)).2.1) ((itA its (k - 1)).2.2)) (ns (Fn (itA its (k - 1)).2.1) ((itA its (k - 1)).2.2)) (r9.1, r9.2)).1), Value.long xreadX, Value.ref soa, Value.ref sna, Value.ref swa, Value.int (nI its.length), Value.ref ri, Value.ref ro, Value.ref rw, Value.int xasked])), (rw, Sum.inr (0, [Value.int (nI (s3I ((Fn (itA its (k - 1)).2.1) ((itA its (k - 1)).2.2)) (ns (Fn (itA its (k - 1)).2.1) ((itA its (k - 1)).2.2)) (r9.1, r9.2)).2.length), Value.ref rwaq_69])), (rwaq_69, Sum.inl (cI, rwkq_69, Sum.inl rwfq_69)), (ro, Sum.inr (0, [Value.int ron, Value.ref roa])), (roa, Sum.inl (cI, rok, Sum.inl rof)), (soa, Sum.inl (cO, 600, Sum.inr (Sum.inr (Sum.inr (Sum.inr sof))))), (sna, Sum.inl (cI, 600, Sum.inl snf)), (swa, Sum.inl (cI, 600, Sum.inl swf))] hpm9).symm
          have hPD : my_PD (dC, dI) vwCl A ([(co, Sum.inr (4, [Value.long (lN (s3I ((Fn (itA its (k - 1)).2.1) ((itA its (k - 1)).2.2)) (ns (Fn (itA its (k - 1)).2.1) ((itA its (k - 1)).2.2)) (r9.1, r9.2)).1), Value.long xreadX, Value.ref soa, Value.ref sna, Value.ref swa, Value.int (nI its.length), Value.ref ri, Value.ref ro, Value.ref rw, Value.int xasked])), (rw, Sum.inr (0, [Value.int (nI (s3I ((Fn (itA its (k - 1)).2.1) ((itA its (k - 1)).2.2)) (ns (Fn (itA its (k - 1)).2.1) ((itA its (k - 1)).2.2)) (r9.1, r9.2)).2.length), Value.ref rwaq_69])), (rwaq_69, Sum.inl (cI, rwkq_69, Sum.inl rwfq_69)), (ro, Sum.inr (0, [Value.int ron, Value.ref roa])), (roa, Sum.inl (cI, rok, Sum.inl rof)), (soa, Sum.inl (cO, 600, Sum.inr (Sum.inr (Sum.inr (Sum.inr sof))))), (sna, Sum.inl (cI, 600, Sum.inl snf)), (swa, Sum.inl (cI, 600, Sum.inl swf))] ++ pl) H := ⟨hP, hD⟩
          have hP := hPD.1
          have hD := hPD.2
          obtain ⟨v_9, ev_9⟩ : ∃ y : Int32, y = (nI (k - 1)) + (-1) := ⟨_, rfl⟩
          refine lv_iinc (v := v_9) (lv' := [(1, Value.int v_9), (0, Value.ref co)]) hx hb d_Stacked_closeMessage_72 hl (k := 0) rfl (by rw [ev_9]; rfl) (by decide) rfl (fun ls hl => ?_)
          refine lv_goto (tgt := 24) hx hb d_Stacked_closeMessage_75 (by decide) ?_
          exact ih9_24 _ (by first | omega | (omega)) v_9 (k - 1) (s3I (Fn (itA its (k - 1)).2.1 (itA its (k - 1)).2.2) (ns (Fn (itA its (k - 1)).2.1) (itA its (k - 1)).2.2) r9) rwaq_69 rwkq_69 rwfq_69 (d9 + d_69) rfl (by rw [ev_9, show nI (k - 1) + (-1) + 1 = nI (k - 1) from by rw [Int32.add_assoc, show (-1 : Int32) + 1 = 0 from by decide, Int32.add_zero]]) (by omega) (by rw [hE9, show e3N Fn its k r9 = e3N Fn its (k - 1 + 1) r9 by rw [Nat.sub_add_cancel hj0], e3N]; unfold itF itC; rw [if_neg y1, if_neg y1]) (hs9.1) (hs9.2.1) (by have z9 := hs9.2.2; omega) (hrw_69) (hGrw_69) (by omega) H locs ls (hP.part [3, 4, 5, 6, 7, 1, 2, 0] rfl) (hD.part [3, 4, 5, 6, 7, 1, 2, 0] (by decide +kernel) rfl) hS (lv_sub hl [0, 1] rfl)
  exact J_24 _ v_2 its.length (8388608, []) rwa rwk rwf (0 : Nat) rfl (by rw [ev_2, min600 rfl hki ev_1, Int32.sub_add_cancel]) (Nat.le_refl _) (rfl) (by decide) (by decide) (by show 0 + _ ≤ _; omega) (hr_4) (fun i h => absurd h (Nat.not_lt_zero i)) (by omega) H locs ls (hP.part [0, 1, 2, 3, 4, 5, 6, 7] rfl) (hD.part [0, 1, 2, 3, 4, 5, 6, 7] (by decide +kernel) rfl) hS (lv_sub hl [0, 1] rfl)
set_option maxHeartbeats 2000000 in
set_option maxRecDepth 100000 in
theorem f_Table_closeMessage (l : Launch) (dC : Nat → ClassId) (dI : Nat → Nat → Nat) (cI cM cO : ClassId) (sz : Nat) (sl : Nat) (co : Nat) (xx : Int64) (xreadX : Int64) (soa : Nat) (sna : Nat) (swa : Nat) (ri : Nat) (ro : Nat) (rw : Nat) (xasked : Int32) (rwn : Int32) (rwa : Nat) (rwk : Nat) (rwf : Nat → Int32) (ron : Int32) (roa : Nat) (rok : Nat) (rof : Nat → Int32) (sof : Nat → Option Nat) (snf : Nat → Int32) (swf : Nat → Int32) (its : List It) (N : Nat → Nat) (Fn : Nat → Nat → Nat) (pl : va_W) (hrw : rOk rwn rwk) (hro : rOk ron rok) (hki : its.length ≤ 600) (hkp : kpt cI ob4 512 9 N Fn sof snf swf pl its) : MetVg l y_Stacked_closeMessage (Cond.code y_Stacked_closeMessage prog_11_method_9_code 2 none :: gw) ({ frames := 5, cells := rPh rwk + rPh rok, slots := rPh rwk + rPh rok, locals := 127 } : Room) (dC, dI) vwCl (kT cI cM cO) [Value.ref co] ([(co, Sum.inr (5, [Value.long xx, Value.long xreadX, Value.ref soa, Value.ref sna, Value.ref swa, Value.int (nI its.length), Value.ref ri, Value.ref ro, Value.ref rw, Value.int xasked])), (rw, Sum.inr (0, [Value.int rwn, Value.ref rwa])), (rwa, Sum.inl (cI, rwk, Sum.inl rwf)), (ro, Sum.inr (0, [Value.int ron, Value.ref roa])), (roa, Sum.inl (cI, rok, Sum.inl rof)), (soa, Sum.inl (cO, 600, Sum.inr (Sum.inr (Sum.inr (Sum.inr sof))))), (sna, Sum.inl (cI, 600, Sum.inl snf)), (swa, Sum.inl (cI, 600, Sum.inl swf))] ++ pl) sz sl (fun (u : Int64 × Nat × Nat × (Nat → Int32) × Nat × Nat × (Nat → Int32)) => rOk (nI (e4W Fn N its).length) u.2.2.1 ∧ gIs u.2.2.2.1 (e4W Fn N its) ∧ rOk (nI (pkB (e4W Fn N its) (((e4W Fn N its).length + 7) / 8)).length) u.2.2.2.2.2.1 ∧ gIs u.2.2.2.2.2.2 (pkB (e4W Fn N its) (((e4W Fn N its).length + 7) / 8))) (fun (u : Int64 × Nat × Nat × (Nat → Int32) × Nat × Nat × (Nat → Int32)) => ([(co, Sum.inr (5, [Value.long u.1, Value.long xreadX, Value.ref soa, Value.ref sna, Value.ref swa, Value.int (nI its.length), Value.ref ri, Value.ref ro, Value.ref rw, Value.int xasked])), (rw, Sum.inr (0, [Value.int (nI (e4W Fn N its).length), Value.ref u.2.1])), (u.2.1, Sum.inl (cI, u.2.2.1, Sum.inl u.2.2.2.1)), (ro, Sum.inr (0, [Value.int (nI (pkB (e4W Fn N its) (((e4W Fn N its).length + 7) / 8)).length), Value.ref u.2.2.2.2.1])), (u.2.2.2.2.1, Sum.inl (cI, u.2.2.2.2.2.1, Sum.inl u.2.2.2.2.2.2)), (soa, Sum.inl (cO, 600, Sum.inr (Sum.inr (Sum.inr (Sum.inr sof))))), (sna, Sum.inl (cI, 600, Sum.inl snf)), (swa, Sum.inl (cI, 600, Sum.inl swf))] ++ pl)) (rPh rwk + rPh rok) (fun (u : Int64 × Nat × Nat × (Nat → Int32) × Nat × Nat × (Nat → Int32)) => rPh u.2.2.1 + rPh u.2.2.2.2.2.1) := by
  refine my_ofVg (cc := prog_11_method_9_code) (n := 2) (ret := none) (by decide) rfl (Nat.le_of_ble_eq_true rfl) ?_
  intro p e s m args below meth c R Q A ls H locs hx hb hr hts hown hlocks hml hnm hR hQ hA hl hP hK hN hD hS
  have hg : ∀ w ∈ gw, w.before args s = true := fun w h => hts w (List.mem_cons_of_mem _ h)
  have hown : s.vm.findClass "RangeCoders$Stacked" = some m.cls := hown
  have hl : lv_has ls 2 [(0, Value.ref co)] := hl
  have hltw := rOk_lt hrw
  have hlto := rOk_lt hro
  refine lv_aload_n hx hb d_Stacked_closeMessage_0 rfl (lv_at hl 0 rfl) ?_
  refine va_get (D := (dC, dI)) (ci := 5) (v := .ref rw) (C := "RangeCoders$Table") (T := T_Table) (N := 10) hx hb hg in_Table hown hK hP 0 rfl rfl 8 (by decide) (hg _ k122) (fun x9 h9 => u_same (hg _ k123) x9 h9) rfl d_Stacked_closeMessage_1 ?_
  refine my_cvt (wr := [(co, Sum.inr (5, [Value.long xx, Value.long xreadX, Value.ref soa, Value.ref sna, Value.ref swa, Value.int (nI its.length), Value.ref ri, Value.ref ro, Value.ref rw, Value.int xasked])), (ro, Sum.inr (0, [Value.int ron, Value.ref roa])), (roa, Sum.inl (cI, rok, Sum.inl rof)), (soa, Sum.inl (cO, 600, Sum.inr (Sum.inr (Sum.inr (Sum.inr sof))))), (sna, Sum.inl (cI, 600, Sum.inl snf)), (swa, Sum.inl (cI, 600, Sum.inl swf))]) (va_runV (As := []) (rest := []) ⟨hx, hb, hml, hown, hts⟩ (c_Row_clear l dC dI cI cM cO H.size rw rwn rwa rwk rwf (hrw)) (cwV 0 hts (my_gV k593 k594 k595 k6 k596) rfl rfl rfl cu_Row_clear_0 ⟨by rw [hR]; exact Nat.le_of_ble_eq_true rfl, by rw [hR]; exact Nat.le_of_ble_eq_true rfl⟩) (my_preV hK hN (my_subU hP [1, 2] rfl) (my_dubT hD [1, 2] (by decide +kernel) rfl) 0 rfl rfl) rfl rfl hl.1 rfl (lv_room (Nat.le_of_ble_eq_true rfl)) d_Stacked_closeMessage_4 ⟨by rw [hR]; exact (show 0 + 0 ≤ (rPh rwk + rPh rok) by omega), by rw [hR]; exact (show 0 + 0 ≤ (rPh rwk + rPh rok) by omega)⟩) hP hD hS hA [1, 2] [0, 3, 4, 5, 6, 7] rfl rfl (by decide +kernel) (by decide +kernel) (fun u9 H locs hw_4 hP hD hS => ?_)
  have hr_4 : rOk 0 rwk := hw_4
  have hPD : my_PD (dC, dI) vwCl A ([(co, Sum.inr (5, [Value.long xx, Value.long xreadX, Value.ref soa, Value.ref sna, Value.ref swa, Value.int (nI its.length), Value.ref ri, Value.ref ro, Value.ref rw, Value.int xasked])), (ro, Sum.inr (0, [Value.int ron, Value.ref roa])), (roa, Sum.inl (cI, rok, Sum.inl rof)), (soa, Sum.inl (cO, 600, Sum.inr (Sum.inr (Sum.inr (Sum.inr sof))))), (sna, Sum.inl (cI, 600, Sum.inl snf)), (swa, Sum.inl (cI, 600, Sum.inl swf)), (rw, Sum.inr (0, [Value.int 0, Value.ref rwa])), (rwa, Sum.inl (cI, rwk, Sum.inl rwf))] ++ pl) H := ⟨hP, hD⟩
  have hP := hPD.1
  have hD := hPD.2
  refine lv_aload_n hx hb d_Stacked_closeMessage_7 rfl (lv_at hl 0 rfl) ?_
  refine my_cvt (wr := [(ro, Sum.inr (0, [Value.int ron, Value.ref roa])), (roa, Sum.inl (cI, rok, Sum.inl rof)), (soa, Sum.inl (cO, 600, Sum.inr (Sum.inr (Sum.inr (Sum.inr sof))))), (sna, Sum.inl (cI, 600, Sum.inl snf)), (swa, Sum.inl (cI, 600, Sum.inl swf)), (rw, Sum.inr (0, [Value.int 0, Value.ref rwa])), (rwa, Sum.inl (cI, rwk, Sum.inl rwf))]) (va_runU (As := []) (rest := []) ⟨hx, hb, hml, hown, hts⟩ (f_Table_openStack l dC dI cI cM cO H.size co xx xreadX soa sna swa (nI its.length) ri ro rw xasked) (va_cwA 0 hts (my_gU k597 k599 k604 k605 k11 k606) rfl rfl rfl (hN.1 _ j598 rfl) (by decide +kernel) ⟨by rw [hR]; exact Nat.le_of_ble_eq_true rfl, by rw [hR]; exact Nat.le_of_ble_eq_true rfl⟩) (my_preV hK hN (my_subU hP [0] rfl) (my_dubT hD [0] (by decide +kernel) rfl) 0 rfl rfl) rfl rfl hl.1 rfl (lv_room (Nat.le_of_ble_eq_true rfl)) d_Stacked_closeMessage_8 ⟨by rw [hR]; exact (show 0 + 0 ≤ (rPh rwk + rPh rok) by omega), by rw [hR]; exact (show 0 + 0 ≤ (rPh rwk + rPh rok) by omega)⟩) hP hD hS hA [0] [1, 2, 3, 4, 5, 6, 7] rfl rfl (by decide +kernel) (by decide +kernel) (fun u9 H locs hw_8 hP hD hS => ?_)
  have hPD : my_PD (dC, dI) vwCl A ([(ro, Sum.inr (0, [Value.int ron, Value.ref roa])), (roa, Sum.inl (cI, rok, Sum.inl rof)), (soa, Sum.inl (cO, 600, Sum.inr (Sum.inr (Sum.inr (Sum.inr sof))))), (sna, Sum.inl (cI, 600, Sum.inl snf)), (swa, Sum.inl (cI, 600, Sum.inl swf)), (rw, Sum.inr (0, [Value.int 0, Value.ref rwa])), (rwa, Sum.inl (cI, rwk, Sum.inl rwf)), (co, Sum.inr (5, [Value.long (lN 512), Value.long xreadX, Value.ref soa, Value.ref sna, Value.ref swa, Value.int (nI its.length), Value.ref ri, Value.ref ro, Value.ref rw, Value.int xasked]))] ++ pl) H := ⟨hP, hD⟩
  have hP := hPD.1
  have hD := hPD.2
  refine lv_aload_n hx hb d_Stacked_closeMessage_11 rfl (lv_at hl 0 rfl) ?_
  refine va_get (D := (dC, dI)) (ci := 5) (v := .int (nI its.length)) (C := "RangeCoders$Table") (T := T_Table) (N := 10) hx hb hg in_Table hown hK hP 7 rfl rfl 5 (by decide) (hg _ k223) (fun _ h9 => h9) rfl d_Stacked_closeMessage_12 ?_
  refine lv_sipush (v := 600) hx hb d_Stacked_closeMessage_15 (by decide) ?_
  refine va_mmin hx hb (by rw [hml]; exact hl.1.symm) hown (hg _ k608) (hg _ k31) (hg _ k2) (hg _ k32) (by rw [hR]; exact Nat.le_of_ble_eq_true rfl) (by rw [hR]; exact Nat.le_of_ble_eq_true rfl) (Nat.zero_le _) (Nat.zero_le _) d_Stacked_closeMessage_18 ?_
  refine lv_topi (fun v_1 ev_1 => ?_)
  refine lv_iconst (v := 1) hx hb d_Stacked_closeMessage_21 (by decide) ?_
  refine lv_isub hx hb d_Stacked_closeMessage_22 ?_
  refine lv_topi (fun v_2 ev_2 => ?_)
  refine lv_istore_n (lv' := [(1, Value.int v_2), (0, Value.ref co)]) hx hb d_Stacked_closeMessage_23 rfl hl (by decide) rfl (fun ls hl => ?_)
  have J_24 : ∀ (n9_24 : Nat) (i9 : Int32) (k : Nat) (r9 : Nat × List Nat) (rwa9 : Nat) (rwk9 : Nat) (rwf9 : Nat → Int32) (d9 : Nat) (hn9_24 : k = n9_24) (hi : i9 + 1 = nI k) (hk : k ≤ its.length) (hE9 : e4N Fn N its its.length (512, []) = e4N Fn N its k r9) (hX1 : 512 ≤ r9.1) (hX2 : r9.1 < 1024) (hlw : r9.2.length + 9 * k ≤ 9 * its.length) (hbt : bt2 r9.2) (hr9 : rOk (nI r9.2.length) rwk9) (hg9 : gIs rwf9 r9.2) (hd9 : d9 + rPh rwk9 ≤ rPh rwk) (H : Heap) (locs : List Loc) (ls : Array Slot), va_P (dC, dI) vwCl ([(ro, Sum.inr (0, [Value.int ron, Value.ref roa])), (roa, Sum.inl (cI, rok, Sum.inl rof)), (soa, Sum.inl (cO, 600, Sum.inr (Sum.inr (Sum.inr (Sum.inr sof))))), (sna, Sum.inl (cI, 600, Sum.inl snf)), (swa, Sum.inl (cI, 600, Sum.inl swf)), (rw, Sum.inr (0, [Value.int (nI r9.2.length), Value.ref rwa9])), (rwa9, Sum.inl (cI, rwk9, Sum.inl rwf9)), (co, Sum.inr (5, [Value.long (lN r9.1), Value.long xreadX, Value.ref soa, Value.ref sna, Value.ref swa, Value.int (nI its.length), Value.ref ri, Value.ref ro, Value.ref rw, Value.int xasked]))] ++ pl) H → va_D A ([(ro, Sum.inr (0, [Value.int ron, Value.ref roa])), (roa, Sum.inl (cI, rok, Sum.inl rof)), (soa, Sum.inl (cO, 600, Sum.inr (Sum.inr (Sum.inr (Sum.inr sof))))), (sna, Sum.inl (cI, 600, Sum.inl snf)), (swa, Sum.inl (cI, 600, Sum.inl swf)), (rw, Sum.inr (0, [Value.int (nI r9.2.length), Value.ref rwa9])), (rwa9, Sum.inl (cI, rwk9, Sum.inl rwf9)), (co, Sum.inr (5, [Value.long (lN r9.1), Value.long xreadX, Value.ref soa, Value.ref sna, Value.ref swa, Value.int (nI its.length), Value.ref ri, Value.ref ro, Value.ref rw, Value.int xasked]))] ++ pl) → va_S A s.heap H locs → lv_has ls 2 [(1, Value.int i9), (0, Value.ref co)] → W p l e R s m args below meth c H locs d9 d9 Q (F0 m 24 ls []) := by
    intro n9_24
    induction n9_24 using Nat.strongRecOn with
    | ind n9_24 ih9_24 =>
      intro i9 k r9 rwa9 rwk9 rwf9 d9 hn9_24 hi hk hE9 hX1 hX2 hlw hbt hr9 hg9 hd9 H locs ls hP hD hS hl
      refine lv_iload_n hx hb d_Stacked_closeMessage_24 rfl (lv_at hl 0 rfl) ?_
      refine lv_if_lt (tgt := 78) hx hb d_Stacked_closeMessage_25 (by decide) (fun c_3 => ?_) (fun c_3 => ?_)
      · have hj0 : k = 0 := by
          rcases Nat.eq_zero_or_pos k with z | z
          · exact z
          · exact absurd (show i9 < 0 from c_3) (by rw [show i9 = nI (k - 1) from by rw [← Int32.add_sub_cancel (a := i9) (b := 1), hi]; exact pk_sub (b := 1) z]; exact nI_pos (by omega))
        have hF9 : e4W Fn N its = (r9.2 ++ bvL (r9.1 - 512) 9) := by unfold e4W; rw [hE9, hj0]; rfl
        refine lv_aload_n hx hb d_Stacked_closeMessage_78 rfl (lv_at hl 1 rfl) ?_
        refine my_cvgt (wr := [(soa, Sum.inl (cO, 600, Sum.inr (Sum.inr (Sum.inr (Sum.inr sof))))), (sna, Sum.inl (cI, 600, Sum.inl snf)), (swa, Sum.inl (cI, 600, Sum.inl swf))]) (va_runU (As := []) (rest := []) ⟨hx, hb, hml, hown, hts⟩ (f_Table_closeStack l dC dI cI cM cO H.size (hSl H) co xreadX soa sna swa (nI its.length) ri ro rw xasked r9.1 rwa9 rwk9 rwf9 r9.2 ron roa rok rof (hX1) (hX2) (hr9) (hg9) (hro) (by omega) (hbt)) (va_cwA 0 hts (my_gU k647 k649 k667 k668 k11 k669) rfl rfl rfl (hN.1 _ j648 rfl) (by decide +kernel) ⟨by rw [hR]; exact Nat.le_of_ble_eq_true rfl, by rw [hR]; exact Nat.le_of_ble_eq_true rfl⟩) (my_preVg hK hN (my_subU hP [7, 5, 6, 0, 1] rfl) (my_dubT hD [7, 5, 6, 0, 1] (by decide +kernel) rfl) 0 rfl rfl) rfl rfl hl.1 rfl (lv_room (Nat.le_of_ble_eq_true rfl)) d_Stacked_closeMessage_79 ⟨by rw [hR]; exact (show d9 + (rPh rwk9 + rPh rok) ≤ (rPh rwk + rPh rok) by omega), by rw [hR]; exact (show d9 + (rPh rwk9 + rPh rok) ≤ (rPh rwk + rPh rok) by omega)⟩) hP hD hS hA [7, 5, 6, 0, 1] [2, 3, 4] rfl rfl (by decide +kernel) (by decide +kernel) (fun u9 d_79 H locs hd_79 hw_79 hP hD hS => ?_)
        obtain ⟨rwaq_79, rwkq_79, rwfq_79, roaq_79, rokq_79, rofq_79⟩ := u9
        obtain ⟨hrw_79, hGrw_79, hro_79, hGro_79⟩ : rOk (nI (r9.2 ++ bvL (r9.1 - 512) 9).length) rwkq_79 ∧ gIs rwfq_79 (r9.2 ++ bvL (r9.1 - 512) 9) ∧ rOk (nI (pkB (r9.2 ++ bvL (r9.1 - 512) 9) (((r9.2 ++ bvL (r9.1 - 512) 9).length + 7) / 8)).length) rokq_79 ∧ gIs rofq_79 (pkB (r9.2 ++ bvL (r9.1 - 512) 9) (((r9.2 ++ bvL (r9.1 - 512) 9).length + 7) / 8)) := hw_79
        have hd_79 : d_79 + (rPh rwkq_79 + rPh rokq_79) ≤ (rPh rwk9 + rPh rok) := hd_79
        have hPD : my_PD (dC, dI) vwCl A ([(soa, Sum.inl (cO, 600, Sum.inr (Sum.inr (Sum.inr (Sum.inr sof))))), (sna, Sum.inl (cI, 600, Sum.inl snf)), (swa, Sum.inl (cI, 600, Sum.inl swf)), (co, Sum.inr (5, [Value.long (lN r9.1), Value.long xreadX, Value.ref soa, Value.ref sna, Value.ref swa, Value.int (nI its.length), Value.ref ri, Value.ref ro, Value.ref rw, Value.int xasked])), (rw, Sum.inr (0, [Value.int (nI (r9.2 ++ bvL (r9.1 - 512) 9).length), Value.ref rwaq_79])), (rwaq_79, Sum.inl (cI, rwkq_79, Sum.inl rwfq_79)), (ro, Sum.inr (0, [Value.int (nI (pkB (r9.2 ++ bvL (r9.1 - 512) 9) (((r9.2 ++ bvL (r9.1 - 512) 9).length + 7) / 8)).length), Value.ref roaq_79])), (roaq_79, Sum.inl (cI, rokq_79, Sum.inl rofq_79))] ++ pl) H := ⟨hP, hD⟩
        have hP := hPD.1
        have hD := hPD.2
        have hsu : (nI (r9.2 ++ bvL (r9.1 - 512) 9).length : Int32) = nI (e4W Fn N its).length := by rw [hF9]
        rw [hsu] at hP hD
        have hPD : my_PD (dC, dI) vwCl A ([(soa, Sum.inl (cO, 600, Sum.inr (Sum.inr (Sum.inr (Sum.inr sof))))), (sna, Sum.inl (cI, 600, Sum.inl snf)), (swa, Sum.inl (cI, 600, Sum.inl swf)), (co, Sum.inr (5, [Value.long (lN r9.1), Value.long xreadX, Value.ref soa, Value.ref sna, Value.ref swa, Value.int (nI its.length), Value.ref ri, Value.ref ro, Value.ref rw, Value.int xasked])), (rw, Sum.inr (0, [Value.int (nI (e4W Fn N its).length), Value.ref rwaq_79])), (rwaq_79, Sum.inl (cI, rwkq_79, Sum.inl rwfq_79)), (ro, Sum.inr (0, [Value.int (nI (pkB (r9.2 ++ bvL (r9.1 - 512) 9) (((r9.2 ++ bvL (r9.1 - 512) 9).length + 7) / 8)).length), Value.ref roaq_79])), (roaq_79, Sum.inl (cI, rokq_79, Sum.inl rofq_79))] ++ pl) H := ⟨hP, hD⟩
        have hP := hPD.1
        have hD := hPD.2
        have hsu : (nI (pkB (r9.2 ++ bvL (r9.1 - 512) 9) (((r9.2 ++ bvL (r9.1 - 512) 9).length + 7) / 8)).length : Int32) = nI (pkB (e4W Fn N its) (((e4W Fn N its).length + 7) / 8)).length := by rw [hF9]
        rw [hsu] at hP hD
        have hPD : my_PD (dC, dI) vwCl A ([(soa, Sum.inl (cO, 600, Sum.inr (Sum.inr (Sum.inr (Sum.inr sof))))), (sna, Sum.inl (cI, 600, Sum.inl snf)), (swa, Sum.inl (cI, 600, Sum.inl swf)), (co, Sum.inr (5, [Value.long (lN r9.1), Value.long xreadX, Value.ref soa, Value.ref sna, Value.ref swa, Value.int (nI its.length), Value.ref ri, Value.ref ro, Value.ref rw, Value.int xasked])), (rw, Sum.inr (0, [Value.int (nI (e4W Fn N its).length), Value.ref rwaq_79])), (rwaq_79, Sum.inl (cI, rwkq_79, Sum.inl rwfq_79)), (ro, Sum.inr (0, [Value.int (nI (pkB (e4W Fn N its) (((e4W Fn N its).length + 7) / 8)).length), Value.ref roaq_79])), (roaq_79, Sum.inl (cI, rokq_79, Sum.inl rofq_79))] ++ pl) H := ⟨hP, hD⟩
        have hP := hPD.1
        have hD := hPD.2
        exact my_vretg hx hb hr hlocks hQ hK hS (lN r9.1, rwaq_79, rwkq_79, rwfq_79, roaq_79, rokq_79, rofq_79) (show (d9 + d_79) + (rPh rwkq_79 + rPh rokq_79) ≤ (rPh rwk + rPh rok) by omega) (show (d9 + d_79) + (rPh rwkq_79 + rPh rokq_79) ≤ (rPh rwk + rPh rok) by omega) (⟨by rw [hF9]; exact hrw_79, by rw [hF9]; exact hGrw_79, by rw [hF9]; exact hro_79, by rw [hF9]; exact hGro_79⟩) (hP.part [3, 4, 5, 6, 7, 0, 1, 2] rfl) (hD.part [3, 4, 5, 6, 7, 0, 1, 2] (by decide +kernel) rfl) d_Stacked_closeMessage_82
      · have hj0 : 1 ≤ k := by
          rcases Nat.eq_zero_or_pos k with z | z
          · subst z; exact absurd (show i9 < 0 by rw [show i9 = -1 from by rw [← Int32.add_sub_cancel (a := i9) (b := 1), hi]; rfl]; decide) c_3
          · exact z
        have hi9 : i9 = nI (k - 1) := by rw [← Int32.add_sub_cancel (a := i9) (b := 1), hi]; exact pk_sub (b := 1) hj0
        subst hi9
        refine lv_aload_n hx hb d_Stacked_closeMessage_28 rfl (lv_at hl 1 rfl) ?_
        refine va_get (D := (dC, dI)) (ci := 5) (v := .ref soa) (C := "RangeCoders$Table") (T := T_Table) (N := 10) hx hb hg in_Table hown hK hP 7 rfl rfl 2 (by decide) (hg _ k220) (fun _ h9 => h9) rfl d_Stacked_closeMessage_29 ?_
        refine lv_iload_n hx hb d_Stacked_closeMessage_32 rfl (lv_at hl 0 rfl) ?_
        refine va_aldq hx hb hK hP 2 2 rfl rfl (vp_in_nI (by omega) (by decide)) d_Stacked_closeMessage_33 ?_
        rcases hq_a_4 : sof (nI (k - 1)).toNatClampNeg with _ | a_4
        · refine W.eq (g2 := F0 m 34 ls [Value.null]) rfl ?_
          refine lv_ifnonnullN hx hb d_Stacked_closeMessage_34 ?_
          rw [nI_clamp (by omega)] at hq_a_4
          obtain ⟨z1, -, z3, z4, z5, z6, z7⟩ := kp_none hkp (show k - 1 < its.length by omega) hq_a_4
          have z8 : (itA its (k - 1)).2.2 < 4096 := Nat.lt_of_lt_of_le z7 (Nat.pow_le_pow_right (n := 2) (by decide) (by omega : _ ≤ 12))
          refine lv_aload_n hx hb d_Stacked_closeMessage_37 rfl (lv_at hl 1 rfl) ?_
          refine lv_aload_n hx hb d_Stacked_closeMessage_38 rfl (lv_at hl 1 rfl) ?_
          refine va_get (D := (dC, dI)) (ci := 5) (v := .ref sna) (C := "RangeCoders$Table") (T := T_Table) (N := 10) hx hb hg in_Table hown hK hP 7 rfl rfl 3 (by decide) (hg _ k221) (fun _ h9 => h9) rfl d_Stacked_closeMessage_39 ?_
          refine lv_iload_n hx hb d_Stacked_closeMessage_42 rfl (lv_at hl 0 rfl) ?_
          refine va_iald hx hb hK hP 3 0 rfl rfl (vp_in_nI (by omega) (by decide)) d_Stacked_closeMessage_43 ?_
          refine lv_topi (fun v_5 ev_5 => ?_)
          have z9 : v_5 = nI (itA its (k - 1)).2.2 := by rw [ev_5, nI_clamp (by omega)]; exact z3
          subst z9
          refine lv_aload_n hx hb d_Stacked_closeMessage_44 rfl (lv_at hl 1 rfl) ?_
          refine va_get (D := (dC, dI)) (ci := 5) (v := .ref swa) (C := "RangeCoders$Table") (T := T_Table) (N := 10) hx hb hg in_Table hown hK hP 7 rfl rfl 4 (by decide) (hg _ k222) (fun _ h9 => h9) rfl d_Stacked_closeMessage_45 ?_
          refine lv_iload_n hx hb d_Stacked_closeMessage_48 rfl (lv_at hl 0 rfl) ?_
          refine va_iald hx hb hK hP 4 0 rfl rfl (vp_in_nI (by omega) (by decide)) d_Stacked_closeMessage_49 ?_
          refine lv_topi (fun v_6 ev_6 => ?_)
          have z9 : v_6 = nI (itA its (k - 1)).2.1 := by rw [ev_6, nI_clamp (by omega)]; exact z4
          subst z9
          refine my_cvgt (wr := [(ro, Sum.inr (0, [Value.int ron, Value.ref roa])), (roa, Sum.inl (cI, rok, Sum.inl rof)), (soa, Sum.inl (cO, 600, Sum.inr (Sum.inr (Sum.inr (Sum.inr sof))))), (sna, Sum.inl (cI, 600, Sum.inl snf)), (swa, Sum.inl (cI, 600, Sum.inl swf))]) (va_runU (As := [Value.int (nI (itA its (k - 1)).2.2), Value.int (nI (itA its (k - 1)).2.1)]) (rest := []) ⟨hx, hb, hml, hown, hts⟩ (f_Table_stackValue l dC dI cI cM cO H.size (hSl H) co (lN r9.1) xreadX soa sna swa (nI its.length) ri ro rw xasked rwa9 rwk9 rwf9 r9.2 ((itA its (k - 1)).2.2) ((itA its (k - 1)).2.1) (by omega) (by omega) (hr9) (hg9) (by omega)) (va_cwA 2 hts (my_gU k609 k611 k626 k627 k11 k628) rfl rfl rfl (hN.1 _ j610 rfl) (by decide +kernel) ⟨by rw [hR]; exact Nat.le_of_ble_eq_true rfl, by rw [hR]; exact Nat.le_of_ble_eq_true rfl⟩) (my_preVg hK hN (my_subU hP [7, 5, 6] rfl) (my_dubT hD [7, 5, 6] (by decide +kernel) rfl) 0 rfl rfl) rfl rfl hl.1 rfl (lv_room (Nat.le_of_ble_eq_true rfl)) d_Stacked_closeMessage_50 ⟨by rw [hR]; exact (show d9 + (rPh rwk9) ≤ (rPh rwk + rPh rok) by omega), by rw [hR]; exact (show d9 + (rPh rwk9) ≤ (rPh rwk + rPh rok) by omega)⟩) hP hD hS hA [7, 5, 6] [0, 1, 2, 3, 4] rfl rfl (by decide +kernel) (by decide +kernel) (fun u9 d_50 H locs hd_50 hw_50 hP hD hS => ?_)
          obtain ⟨rwaq_50, rwkq_50, rwfq_50⟩ := u9
          obtain ⟨hrw_50, hGrw_50⟩ : rOk (nI (r9.2 ++ bvL ((itA its (k - 1)).2.2) ((itA its (k - 1)).2.1)).length) rwkq_50 ∧ gIs rwfq_50 (r9.2 ++ bvL ((itA its (k - 1)).2.2) ((itA its (k - 1)).2.1)) := hw_50
          have hd_50 : d_50 + (rPh rwkq_50) ≤ (rPh rwk9) := hd_50
          have hPD : my_PD (dC, dI) vwCl A ([(ro, Sum.inr (0, [Value.int ron, Value.ref roa])), (roa, Sum.inl (cI, rok, Sum.inl rof)), (soa, Sum.inl (cO, 600, Sum.inr (Sum.inr (Sum.inr (Sum.inr sof))))), (sna, Sum.inl (cI, 600, Sum.inl snf)), (swa, Sum.inl (cI, 600, Sum.inl swf)), (co, Sum.inr (5, [Value.long (lN r9.1), Value.long xreadX, Value.ref soa, Value.ref sna, Value.ref swa, Value.int (nI its.length), Value.ref ri, Value.ref ro, Value.ref rw, Value.int xasked])), (rw, Sum.inr (0, [Value.int (nI (r9.2 ++ bvL ((itA its (k - 1)).2.2) ((itA its (k - 1)).2.1)).length), Value.ref rwaq_50])), (rwaq_50, Sum.inl (cI, rwkq_50, Sum.inl rwfq_50))] ++ pl) H := ⟨hP, hD⟩
          have hP := hPD.1
          have hD := hPD.2
          have he9 : e4I Fn N (itA its (k - 1)) r9 = (r9.1, r9.2 ++ bvL (itA its (k - 1)).2.2 (itA its (k - 1)).2.1) := by unfold e4I; rw [if_pos z1]
          have hs9 : 512 ≤ (e4I Fn N (itA its (k - 1)) r9).1 ∧ (e4I Fn N (itA its (k - 1)) r9).1 < 1024 ∧ (e4I Fn N (itA its (k - 1)) r9).2.length ≤ r9.2.length + 9 ∧ bt2 (e4I Fn N (itA its (k - 1)) r9).2 := by rw [he9]; exact ⟨hX1, hX2, by show (r9.2 ++ bvL _ _).length ≤ _; rw [List.length_append, bvL_len]; omega, bt2_app hbt (bt2_bv _ _)⟩
          have hsu : (nI (r9.2 ++ bvL ((itA its (k - 1)).2.2) ((itA its (k - 1)).2.1)).length : Int32) = nI (e4I Fn N (itA its (k - 1)) r9).2.length := by rw [he9]
          rw [hsu] at hP hD
          have hPD : my_PD (dC, dI) vwCl A ([(ro, Sum.inr (0, [Value.int ron, Value.ref roa])), (roa, Sum.inl (cI, rok, Sum.inl rof)), (soa, Sum.inl (cO, 600, Sum.inr (Sum.inr (Sum.inr (Sum.inr sof))))), (sna, Sum.inl (cI, 600, Sum.inl snf)), (swa, Sum.inl (cI, 600, Sum.inl swf)), (co, Sum.inr (5, [Value.long (lN r9.1), Value.long xreadX, Value.ref soa, Value.ref sna, Value.ref swa, Value.int (nI its.length), Value.ref ri, Value.ref ro, Value.ref rw, Value.int xasked])), (rw, Sum.inr (0, [Value.int (nI (e4I Fn N (itA its (k - 1)) r9).2.length), Value.ref rwaq_50])), (rwaq_50, Sum.inl (cI, rwkq_50, Sum.inl rwfq_50))] ++ pl) H := ⟨hP, hD⟩
          have hP := hPD.1
          have hD := hPD.2
          have hsu : ((lN r9.1) : Int64) = lN (e4I Fn N (itA its (k - 1)) r9).1 := by rw [he9]
          rw [hsu] at hP hD
          have hPD : my_PD (dC, dI) vwCl A ([(ro, Sum.inr (0, [Value.int ron, Value.ref roa])), (roa, Sum.inl (cI, rok, Sum.inl rof)), (soa, Sum.inl (cO, 600, Sum.inr (Sum.inr (Sum.inr (Sum.inr sof))))), (sna, Sum.inl (cI, 600, Sum.inl snf)), (swa, Sum.inl (cI, 600, Sum.inl swf)), (co, Sum.inr (5, [Value.long (lN (e4I Fn N (itA its (k - 1)) r9).1), Value.long xreadX, Value.ref soa, Value.ref sna, Value.ref swa, Value.int (nI its.length), Value.ref ri, Value.ref ro, Value.ref rw, Value.int xasked])), (rw, Sum.inr (0, [Value.int (nI (e4I Fn N (itA its (k - 1)) r9).2.length), Value.ref rwaq_50])), (rwaq_50, Sum.inl (cI, rwkq_50, Sum.inl rwfq_50))] ++ pl) H := ⟨hP, hD⟩
          have hP := hPD.1
          have hD := hPD.2
          refine lv_goto (tgt := 72) hx hb d_Stacked_closeMessage_53 (by decide) ?_
          obtain ⟨v_7, ev_7⟩ : ∃ y : Int32, y = (nI (k - 1)) + (-1) := ⟨_, rfl⟩
          refine lv_iinc (v := v_7) (lv' := [(1, Value.int v_7), (0, Value.ref co)]) hx hb d_Stacked_closeMessage_72 hl (k := 0) rfl (by rw [ev_7]; rfl) (by decide) rfl (fun ls hl => ?_)
          refine lv_goto (tgt := 24) hx hb d_Stacked_closeMessage_75 (by decide) ?_
          exact ih9_24 _ (by first | omega | (omega)) v_7 (k - 1) (e4I Fn N (itA its (k - 1)) r9) rwaq_50 rwkq_50 rwfq_50 (d9 + d_50) rfl (by rw [ev_7, show nI (k - 1) + (-1) + 1 = nI (k - 1) from by rw [Int32.add_assoc, show (-1 : Int32) + 1 = 0 from by decide, Int32.add_zero]]) (by omega) (by rw [hE9, show e4N Fn N its k r9 = e4N Fn N its (k - 1 + 1) r9 by rw [Nat.sub_add_cancel hj0], e4N]) (hs9.1) (hs9.2.1) (by have z9 := hs9.2.2.1; omega) (hs9.2.2.2) (by rw [he9]; exact hrw_50) (by rw [he9]; exact hGrw_50) (by omega) H locs ls (hP.part [0, 1, 2, 3, 4, 6, 7, 5] rfl) (hD.part [0, 1, 2, 3, 4, 6, 7, 5] (by decide +kernel) rfl) hS (lv_sub hl [0, 1] rfl)
        · refine W.eq (g2 := F0 m 34 ls [Value.ref a_4]) rfl ?_
          refine lv_ifnonnull (tgt := 56) hx hb d_Stacked_closeMessage_34 (by decide) ?_
          have hq9 := hq_a_4
          rw [nI_clamp (by omega)] at hq9
          obtain ⟨y1, y2, y3, y4, y5, o9, rest9, ho9, hob9, hpm9⟩ := kp_some hkp (show k - 1 < its.length by omega) hq9
          obtain ⟨oo9, osg9, osm9, ofc9, oca9, opa9, ol9, ocf9, opl9, opf9⟩ := o9
          rw [hq9] at ho9
          have ho9 : a_4 = oo9 := Option.some.inj ho9
          subst ho9
          obtain ⟨hn9, hfc9, hl9, hf9, hp9, hpf9⟩ := hob9
          have hfc9 : ofc9 = 0 := hfc9
          have hl9 : ol9 = N (itA its (k - 1)).2.1 := hl9
          subst hfc9
          subst hl9
          have hp9 : opl9 = 512 := hp9
          subst hp9
          have hP := pm_P hP (od_out [(ro, Sum.inr (0, [Value.int ron, Value.ref roa])), (roa, Sum.inl (cI, rok, Sum.inl rof)), (soa, Sum.inl (cO, 600, Sum.inr (Sum.inr (Sum.inr (Sum.inr sof))))), (sna, Sum.inl (cI, 600, Sum.inl snf)), (swa, Sum.inl (cI, 600, Sum.inl swf)), (rw, Sum.inr (0, [Value.int (nI r9.2.length), Value.ref rwa9])), (rwa9, Sum.inl (cI, rwk9, Sum.inl rwf9)), (co, Sum.inr (5, [Value.long (lN r9.1), Value.long xreadX, Value.ref soa, Value.ref sna, Value.ref swa, Value.int (nI its.length), Value.ref ri, Value.ref ro, Value.ref rw, Value.int xasked]))] hpm9)
          have hD := pm_D hD (od_out [(ro, Sum.inr (0, [Value.int ron, Value.ref roa])), (roa, Sum.inl (cI, rok, Sum.inl rof)), (soa, Sum.inl (cO, 600, Sum.inr (Sum.inr (Sum.inr (Sum.inr sof))))), (sna, Sum.inl (cI, 600, Sum.inl snf)), (swa, Sum.inl (cI, 600, Sum.inl swf)), (rw, Sum.inr (0, [Value.int (nI r9.2.length), Value.ref rwa9])), (rwa9, Sum.inl (cI, rwk9, Sum.inl rwf9)), (co, Sum.inr (5, [Value.long (lN r9.1), Value.long xreadX, Value.ref soa, Value.ref sna, Value.ref swa, Value.int (nI its.length), Value.ref ri, Value.ref ro, Value.ref rw, Value.int xasked]))] hpm9)
          have hPD : my_PD (dC, dI) vwCl A ([(ro, Sum.inr (0, [Value.int ron, Value.ref roa])), (roa, Sum.inl (cI, rok, Sum.inl rof)), (soa, Sum.inl (cO, 600, Sum.inr (Sum.inr (Sum.inr (Sum.inr sof))))), (sna, Sum.inl (cI, 600, Sum.inl snf)), (swa, Sum.inl (cI, 600, Sum.inl swf)), (rw, Sum.inr (0, [Value.int (nI r9.2.length), Value.ref rwa9])), (rwa9, Sum.inl (cI, rwk9, Sum.inl rwf9)), (co, Sum.inr (5, [Value.long (lN r9.1), Value.long xreadX, Value.ref soa, Value.ref sna, Value.ref swa, Value.int (nI its.length), Value.ref ri, Value.ref ro, Value.ref rw, Value.int xasked])), (a_4, Sum.inr (7, [Value.int osg9, Value.int osm9, Value.int 0, Value.ref oca9, Value.ref opa9])), (oca9, Sum.inl (cI, (N (itA its (k - 1)).2.1), Sum.inl ocf9)), (opa9, Sum.inl (cI, 512, Sum.inl opf9))] ++ rest9) H := ⟨hP, hD⟩
          have hP := hPD.1
          have hD := hPD.2
          refine lv_aload_n hx hb d_Stacked_closeMessage_56 rfl (lv_at hl 1 rfl) ?_
          refine lv_aload_n hx hb d_Stacked_closeMessage_57 rfl (lv_at hl 1 rfl) ?_
          refine va_get (D := (dC, dI)) (ci := 5) (v := .ref soa) (C := "RangeCoders$Table") (T := T_Table) (N := 10) hx hb hg in_Table hown hK hP 7 rfl rfl 2 (by decide) (hg _ k220) (fun _ h9 => h9) rfl d_Stacked_closeMessage_58 ?_
          refine lv_iload_n hx hb d_Stacked_closeMessage_61 rfl (lv_at hl 0 rfl) ?_
          refine va_aldq hx hb hK hP 2 2 rfl rfl (vp_in_nI (by omega) (by decide)) d_Stacked_closeMessage_62 ?_
          refine W.eq (g2 := F0 m 63 ls [Value.ref a_4, Value.ref co]) (by rw [hq_a_4]; rfl) ?_
          refine lv_aload_n hx hb d_Stacked_closeMessage_63 rfl (lv_at hl 1 rfl) ?_
          refine va_get (D := (dC, dI)) (ci := 5) (v := .ref sna) (C := "RangeCoders$Table") (T := T_Table) (N := 10) hx hb hg in_Table hown hK hP 7 rfl rfl 3 (by decide) (hg _ k221) (fun _ h9 => h9) rfl d_Stacked_closeMessage_64 ?_
          refine lv_iload_n hx hb d_Stacked_closeMessage_67 rfl (lv_at hl 0 rfl) ?_
          refine va_iald hx hb hK hP 3 0 rfl rfl (vp_in_nI (by omega) (by decide)) d_Stacked_closeMessage_68 ?_
          refine lv_topi (fun v_8 ev_8 => ?_)
          have z9 : v_8 = nI (itA its (k - 1)).2.2 := by rw [ev_8, nI_clamp (by omega)]; exact y2
          subst z9
          refine my_cvgt (wr := [(ro, Sum.inr (0, [Value.int ron, Value.ref roa])), (roa, Sum.inl (cI, rok, Sum.inl rof)), (soa, Sum.inl (cO, 600, Sum.inr (Sum.inr (Sum.inr (Sum.inr sof))))), (sna, Sum.inl (cI, 600, Sum.inl snf)), (swa, Sum.inl (cI, 600, Sum.inl swf))]) (va_runU (As := [Value.ref a_4, Value.int (nI (itA its (k - 1)).2.2)]) (rest := []) ⟨hx, hb, hml, hown, hts⟩ (f_Table_stackSign l dC dI cI cM cO H.size (hSl H) co xreadX soa sna swa (nI its.length) ri ro rw xasked rwa9 rwk9 rwf9 r9.2 a_4 osg9 0 oca9 opa9 (N (itA its (k - 1)).2.1) ocf9 opf9 (Fn (itA its (k - 1)).2.1) osm9 ((itA its (k - 1)).2.2) r9.1 (hn9) (hf9) (y3) (nI_pos' (by omega)) (y4) (y5) (hpf9) (hX1) (hX2) (hr9) (hg9) (by omega)) (va_cwA 2 hts (my_gU k630 k632 k638 k639 k11 k640) rfl rfl rfl (hN.1 _ j631 rfl) (by decide +kernel) ⟨by rw [hR]; exact Nat.le_of_ble_eq_true rfl, by rw [hR]; exact Nat.le_of_ble_eq_true rfl⟩) (my_preVg hK hN (my_subU hP [7, 5, 6, 8, 9, 10] rfl) (my_dubT hD [7, 5, 6, 8, 9, 10] (by decide +kernel) rfl) 0 rfl rfl) rfl rfl hl.1 rfl (lv_room (Nat.le_of_ble_eq_true rfl)) d_Stacked_closeMessage_69 ⟨by rw [hR]; exact (show d9 + (rPh rwk9) ≤ (rPh rwk + rPh rok) by omega), by rw [hR]; exact (show d9 + (rPh rwk9) ≤ (rPh rwk + rPh rok) by omega)⟩) hP hD hS hA [7, 5, 6, 8, 9, 10] [0, 1, 2, 3, 4] rfl rfl (by decide +kernel) (by decide +kernel) (fun u9 d_69 H locs hd_69 hw_69 hP hD hS => ?_)
          obtain ⟨rwaq_69, rwkq_69, rwfq_69⟩ := u9
          obtain ⟨hrw_69, hGrw_69⟩ : rOk (nI ((t4I (Fn (itA its (k - 1)).2.1) (N (itA its (k - 1)).2.1) ((itA its (k - 1)).2.2) (r9.1, r9.2)).2).length) rwkq_69 ∧ gIs rwfq_69 ((t4I (Fn (itA its (k - 1)).2.1) (N (itA its (k - 1)).2.1) ((itA its (k - 1)).2.2) (r9.1, r9.2)).2) := hw_69
          have hd_69 : d_69 + (rPh rwkq_69) ≤ (rPh rwk9) := hd_69
          have hPD : my_PD (dC, dI) vwCl A ([(ro, Sum.inr (0, [Value.int ron, Value.ref roa])), (roa, Sum.inl (cI, rok, Sum.inl rof)), (soa, Sum.inl (cO, 600, Sum.inr (Sum.inr (Sum.inr (Sum.inr sof))))), (sna, Sum.inl (cI, 600, Sum.inl snf)), (swa, Sum.inl (cI, 600, Sum.inl swf)), (co, Sum.inr (5, [Value.long (lN (t4I (Fn (itA its (k - 1)).2.1) (N (itA its (k - 1)).2.1) ((itA its (k - 1)).2.2) (r9.1, r9.2)).1), Value.long xreadX, Value.ref soa, Value.ref sna, Value.ref swa, Value.int (nI its.length), Value.ref ri, Value.ref ro, Value.ref rw, Value.int xasked])), (rw, Sum.inr (0, [Value.int (nI (t4I (Fn (itA its (k - 1)).2.1) (N (itA its (k - 1)).2.1) ((itA its (k - 1)).2.2) (r9.1, r9.2)).2.length), Value.ref rwaq_69])), (rwaq_69, Sum.inl (cI, rwkq_69, Sum.inl rwfq_69)), (a_4, Sum.inr (7, [Value.int osg9, Value.int osm9, Value.int 0, Value.ref oca9, Value.ref opa9])), (oca9, Sum.inl (cI, (N (itA its (k - 1)).2.1), Sum.inl ocf9)), (opa9, Sum.inl (cI, 512, Sum.inl opf9))] ++ rest9) H := ⟨hP, hD⟩
          have hP := hPD.1
          have hD := hPD.2
          have he9 : e4I Fn N (itA its (k - 1)) r9 = t4I (Fn (itA its (k - 1)).2.1) (N (itA its (k - 1)).2.1) (itA its (k - 1)).2.2 r9 := by unfold e4I; rw [if_neg y1]
          have hs9 := t4I_ok (V := r9.1) (ws := r9.2) y5 y3 y4 hX1 hX2 hbt
          rw [show ((r9.1, r9.2) : Nat × List Nat) = r9 from rfl, ← he9] at hs9
          have hsu : (nI (t4I (Fn (itA its (k - 1)).2.1) (N (itA its (k - 1)).2.1) ((itA its (k - 1)).2.2) (r9.1, r9.2)).2.length : Int32) = nI (e4I Fn N (itA its (k - 1)) r9).2.length := by rw [he9]
          rw [hsu] at hP hD
          have hPD : my_PD (dC, dI) vwCl A ([(ro, Sum.inr (0, [Value.int ron, Value.ref roa])), (roa, Sum.inl (cI, rok, Sum.inl rof)), (soa, Sum.inl (cO, 600, Sum.inr (Sum.inr (Sum.inr (Sum.inr sof))))), (sna, Sum.inl (cI, 600, Sum.inl snf)), (swa, Sum.inl (cI, 600, Sum.inl swf)), (co, Sum.inr (5, [Value.long (lN (t4I (Fn (itA its (k - 1)).2.1) (N (itA its (k - 1)).2.1) ((itA its (k - 1)).2.2) (r9.1, r9.2)).1), Value.long xreadX, Value.ref soa, Value.ref sna, Value.ref swa, Value.int (nI its.length), Value.ref ri, Value.ref ro, Value.ref rw, Value.int xasked])), (rw, Sum.inr (0, [Value.int (nI (e4I Fn N (itA its (k - 1)) r9).2.length), Value.ref rwaq_69])), (rwaq_69, Sum.inl (cI, rwkq_69, Sum.inl rwfq_69)), (a_4, Sum.inr (7, [Value.int osg9, Value.int osm9, Value.int 0, Value.ref oca9, Value.ref opa9])), (oca9, Sum.inl (cI, (N (itA its (k - 1)).2.1), Sum.inl ocf9)), (opa9, Sum.inl (cI, 512, Sum.inl opf9))] ++ rest9) H := ⟨hP, hD⟩
          have hP := hPD.1
          have hD := hPD.2
          have hsu : (lN (t4I (Fn (itA its (k - 1)).2.1) (N (itA its (k - 1)).2.1) ((itA its (k - 1)).2.2) (r9.1, r9.2)).1 : Int64) = lN (e4I Fn N (itA its (k - 1)) r9).1 := by rw [he9]
          rw [hsu] at hP hD
          have hPD : my_PD (dC, dI) vwCl A ([(ro, Sum.inr (0, [Value.int ron, Value.ref roa])), (roa, Sum.inl (cI, rok, Sum.inl rof)), (soa, Sum.inl (cO, 600, Sum.inr (Sum.inr (Sum.inr (Sum.inr sof))))), (sna, Sum.inl (cI, 600, Sum.inl snf)), (swa, Sum.inl (cI, 600, Sum.inl swf)), (co, Sum.inr (5, [Value.long (lN (e4I Fn N (itA its (k - 1)) r9).1), Value.long xreadX, Value.ref soa, Value.ref sna, Value.ref swa, Value.int (nI its.length), Value.ref ri, Value.ref ro, Value.ref rw, Value.int xasked])), (rw, Sum.inr (0, [Value.int (nI (e4I Fn N (itA its (k - 1)) r9).2.length), Value.ref rwaq_69])), (rwaq_69, Sum.inl (cI, rwkq_69, Sum.inl rwfq_69)), (a_4, Sum.inr (7, [Value.int osg9, Value.int osm9, Value.int 0, Value.ref oca9, Value.ref opa9])), (oca9, Sum.inl (cI, (N (itA its (k - 1)).2.1), Sum.inl ocf9)), (opa9, Sum.inl (cI, 512, Sum.inl opf9))] ++ rest9) H := ⟨hP, hD⟩
          have hP := hPD.1
          have hD := hPD.2
          have hP := pm_P (hP.part [5, 6, 7, 0, 1, 2, 3, 4, 8, 9, 10] rfl : va_P (dC, dI) vwCl ([(co, Sum.inr (5, [Value.long (lN (e4I Fn N (itA its (k - 1)) r9).1), Value.long xreadX, Value.ref soa, Value.ref sna, Value.ref swa, Value.int (nI its.length), Value.ref ri, Value.ref ro, Value.ref rw, Value.int xasked])), (rw, Sum.inr (0, [Value.int (nI (e4I Fn N (itA its (k - 1)) r9).2.length), Value.ref rwaq_69])), (rwaq_69, Sum.inl (cI, rwkq_69, Sum.inl rwfq_69)), (ro, Sum.inr (0, [Value.int ron, Value.ref roa])), (roa, Sum.inl (cI, rok, Sum.inl rof)), (soa, Sum.inl (cO, 600, Sum.inr (Sum.inr (Sum.inr (Sum.inr sof))))), (sna, Sum.inl (cI, 600, Sum.inl snf)), (swa, Sum.inl (cI, 600, Sum.inl swf)), (a_4, Sum.inr (7, [Value.int osg9, Value.int osm9, Value.int 0, Value.ref oca9, Value.ref opa9])), (oca9, Sum.inl (cI, (N (itA its (k - 1)).2.1), Sum.inl ocf9)), (opa9, Sum.inl (cI, 512, Sum.inl opf9))] ++ rest9) H) (od_out [(co, Sum.inr (5, [Value.long (lN (e4I Fn N (itA its (k - 1)) r9).1), Value.long xreadX, Value.ref soa, Value.ref sna, Value.ref swa, Value.int (nI its.length), Value.ref ri, Value.ref ro, Value.ref rw, Value.int xasked])), (rw, Sum.inr (0, [Value.int (nI (e4I Fn N (itA its (k - 1)) r9).2.length), Value.ref rwaq_69])), (rwaq_69, Sum.inl (cI, rwkq_69, Sum.inl rwfq_69)), (ro, Sum.inr (0, [Value.int ron, Value.ref roa])), (roa, Sum.inl (cI, rok, Sum.inl rof)), (soa, Sum.inl (cO, 600, Sum.inr (Sum.inr (Sum.inr (Sum.inr sof))))), (sna, Sum.inl (cI, 600, Sum.inl snf)), (swa, Sum.inl (cI, 600, Sum.inl swf))] hpm9).symm
          have hD := pm_D (hD.part [5, 6, 7, 0, 1, 2, 3, 4, 8, 9, 10] (by decide +kernel) rfl : va_D A ([(co, Sum.inr (5, [Value.long (lN (e4I Fn N (itA its (k - 1)) r9).1), Value.long xreadX, Value.ref soa, Value.ref sna, Value.ref swa, Value.int (nI its.length), Value.ref ri, Value.ref ro, Value.ref rw, Value.int xasked])), (rw, Sum.inr (0, [Value.int (nI (e4I Fn N (itA its (k - 1)) r9).2.length), Value.ref rwaq_69])), (rwaq_69, Sum.inl (cI, rwkq_69, Sum.inl rwfq_69)), (ro, Sum.inr (0, [Value.int ron, Value.ref roa])), (roa, Sum.inl (cI, rok, Sum.inl rof)), (soa, Sum.inl (cO, 600, Sum.inr (Sum.inr (Sum.inr (Sum.inr sof))))), (sna, Sum.inl (cI, 600, Sum.inl snf)), (swa, Sum.inl (cI, 600, Sum.inl swf)), (a_4, Sum.inr (7, [Value.int osg9, Value.int osm9, Value.int 0, Value.ref oca9, Value.ref opa9])), (oca9, Sum.inl (cI, (N (itA its (k - 1)).2.1), Sum.inl ocf9)), (opa9, Sum.inl (cI, 512, Sum.inl opf9))] ++ rest9)) (od_out [(co, Sum.inr (5, [Value.long (lN (e4I Fn N (itA its (k - 1)) r9).1), Value.long xreadX, Value.ref soa, Value.ref sna, Value.ref swa, Value.int (nI its.length), Value.ref ri, Value.ref ro, Value.ref rw, Value.int xasked])), (rw, Sum.inr (0, [Value.int (nI (e4I Fn N (itA its (k - 1)) r9).2.length), Value.ref rwaq_69])), (rwaq_69, Sum.inl (cI, rwkq_69, Sum.inl rwfq_69)), (ro, Sum.inr (0, [Value.int ron, Value.ref roa])), (roa, Sum.inl (cI, rok, Sum.inl rof)), (soa, Sum.inl (cO, 600, Sum.inr (Sum.inr (Sum.inr (Sum.inr sof))))), (sna, Sum.inl (cI, 600, Sum.inl snf)), (swa, Sum.inl (cI, 600, Sum.inl swf))] hpm9).symm
          have hPD : my_PD (dC, dI) vwCl A ([(co, Sum.inr (5, [Value.long (lN (e4I Fn N (itA its (k - 1)) r9).1), Value.long xreadX, Value.ref soa, Value.ref sna, Value.ref swa, Value.int (nI its.length), Value.ref ri, Value.ref ro, Value.ref rw, Value.int xasked])), (rw, Sum.inr (0, [Value.int (nI (e4I Fn N (itA its (k - 1)) r9).2.length), Value.ref rwaq_69])), (rwaq_69, Sum.inl (cI, rwkq_69, Sum.inl rwfq_69)), (ro, Sum.inr (0, [Value.int ron, Value.ref roa])), (roa, Sum.inl (cI, rok, Sum.inl rof)), (soa, Sum.inl (cO, 600, Sum.inr (Sum.inr (Sum.inr (Sum.inr sof))))), (sna, Sum.inl (cI, 600, Sum.inl snf)), (swa, Sum.inl (cI, 600, Sum.inl swf))] ++ pl) H := ⟨hP, hD⟩
          have hP := hPD.1
          have hD := hPD.2
          obtain ⟨v_9, ev_9⟩ : ∃ y : Int32, y = (nI (k - 1)) + (-1) := ⟨_, rfl⟩
          refine lv_iinc (v := v_9) (lv' := [(1, Value.int v_9), (0, Value.ref co)]) hx hb d_Stacked_closeMessage_72 hl (k := 0) rfl (by rw [ev_9]; rfl) (by decide) rfl (fun ls hl => ?_)
          refine lv_goto (tgt := 24) hx hb d_Stacked_closeMessage_75 (by decide) ?_
          exact ih9_24 _ (by first | omega | (omega)) v_9 (k - 1) (e4I Fn N (itA its (k - 1)) r9) rwaq_69 rwkq_69 rwfq_69 (d9 + d_69) rfl (by rw [ev_9, show nI (k - 1) + (-1) + 1 = nI (k - 1) from by rw [Int32.add_assoc, show (-1 : Int32) + 1 = 0 from by decide, Int32.add_zero]]) (by omega) (by rw [hE9, show e4N Fn N its k r9 = e4N Fn N its (k - 1 + 1) r9 by rw [Nat.sub_add_cancel hj0], e4N]) (hs9.1) (hs9.2.1) (by have z9 := hs9.2.2.1; omega) (hs9.2.2.2) (by rw [he9]; exact hrw_69) (by rw [he9]; exact hGrw_69) (by omega) H locs ls (hP.part [3, 4, 5, 6, 7, 1, 2, 0] rfl) (hD.part [3, 4, 5, 6, 7, 1, 2, 0] (by decide +kernel) rfl) hS (lv_sub hl [0, 1] rfl)
  exact J_24 _ v_2 its.length (512, []) rwa rwk rwf (0 : Nat) rfl (by rw [ev_2, min600 rfl hki ev_1, Int32.sub_add_cancel]) (Nat.le_refl _) (rfl) (by decide) (by decide) (by show 0 + _ ≤ _; omega) (fun x h => absurd h List.not_mem_nil) (hr_4) (fun i h => absurd h (Nat.not_lt_zero i)) (by omega) H locs ls (hP.part [0, 1, 2, 3, 4, 5, 6, 7] rfl) (hD.part [0, 1, 2, 3, 4, 5, 6, 7] (by decide +kernel) rfl) hS (lv_sub hl [0, 1] rfl)
end
section
theorem has_no {n : Nat} {i : Int32} (h : i < 0 ∨ nI n ≤ i) : ¬ (0 ≤ i ∧ i < nI n) := fun q => h.elim (fun z => absurd z (Int32.not_lt.mpr q.1)) (fun z => absurd q.2 (Int32.not_lt.mpr z))
/-- a VALUE of so many bits -/
def okB (bm : Nat) (v b : Int32) : Prop := ∃ vv bb, 1 ≤ bb ∧ bb ≤ bm ∧ vv < 2 ^ bb ∧ v = nI vv ∧ b = nI bb
theorem okB_of {bm : Nat} {v b x : Int32} (hbm : bm ≤ 12) (h1 : 1 ≤ b ∧ b ≤ nI bm) (h2 : ¬ v < 0) (ex : x = (1 : Int32) <<< (b &&& 31)) (h3 : v < x) : okB bm v b := by
  obtain ⟨bb, q1, q2, rfl⟩ := in_of2 (a := 1) (b := bm) (by decide) (by omega) h1
  rw [shl1 bb (by omega)] at ex
  obtain ⟨vv, hv, rfl⟩ := nI_of h2
  have hp : 2 ^ bb ≤ 2 ^ 12 := Nat.pow_le_pow_right (by decide) (by omega)
  rw [ex, Int32.lt_iff_toInt_lt, nI_toInt hv, nI_toInt (by omega)] at h3
  exact ⟨vv, bb, q1, q2, by omega, rfl, rfl⟩
theorem wid_1 {bm : Nat} {v : Int32} (h1 : ¬ v < 1) (h2 : ¬ nI bm < v) : (1 : Int32) = if 1 ≤ v ∧ v ≤ nI bm then 1 else 0 := by rw [if_pos ⟨Int32.not_lt.mp h1, Int32.not_lt.mp h2⟩]
theorem wid_0a {bm : Nat} {v : Int32} (h1 : v < 1) : (0 : Int32) = if 1 ≤ v ∧ v ≤ nI bm then 1 else 0 := by rw [if_neg (fun h => absurd h1 (Int32.not_lt.mpr h.1))]
theorem wid_0b {bm : Nat} {v : Int32} (h1 : nI bm < v) : (0 : Int32) = if 1 ≤ v ∧ v ≤ nI bm then 1 else 0 := by rw [if_neg (fun h => absurd h1 (Int32.not_lt.mpr h.2))]
theorem bd_up {C : Nat → Nat} {n t c B : Nat} (h : bd C n B) (hc : c ≤ B) : bd (upN C t c) n B := fun k hk => by
  by_cases e : k = t
  · subst e; rw [upN_s]; exact hc
  · rw [upN_n _ e]; exact h k hk
/-- byte k of an int -/
def oB (v : Int32) (k : Nat) : Nat := v.toBitVec.toNat / 256 ^ k % 256
theorem oB_lt (v : Int32) (k : Nat) : oB v k < 256 := Nat.mod_lt _ (by decide)
theorem oB_u (v : Int32) : ∀ k, k < 4 → ∀ x : Int32, x = nI (8 * k) → ((v.toUInt32 >>> (x.toUInt32 &&& Int32.toUInt32 31)).toInt32 &&& 255) = nI (oB v k) := by
  intro k hk x ex
  subst ex
  have e : ((v.toUInt32 >>> ((nI (8 * k)).toUInt32 &&& Int32.toUInt32 31)).toInt32).toBitVec = v.toBitVec >>> (8 * k) := by
    have hk' : k = 0 ∨ k = 1 ∨ k = 2 ∨ k = 3 := by omega
    rcases hk' with h | h | h | h <;> subst h <;> rfl
  apply Int32.toBitVec_inj.mp
  rw [Int32.toBitVec_and, e]
  apply BitVec.eq_of_toNat_eq
  rw [BitVec.toNat_and, BitVec.toNat_ushiftRight]
  show _ &&& 255 = (BitVec.ofNat 32 (oB v k)).toNat
  rw [BitVec.toNat_ofNat, Nat.mod_eq_of_lt (Nat.lt_of_lt_of_le (oB_lt v k) (by decide)), show (255 : Nat) = 2 ^ 8 - 1 from rfl, Nat.and_two_pow_sub_one_eq_mod, Nat.shiftRight_eq_div_pow]
  unfold oB
  rw [Nat.pow_mul]
theorem I_nn {i : Int32} (h : ¬ i < 0) : 0 ≤ i.toInt := by rw [Int32.lt_iff_toInt_lt] at h; have e0 : (0 : Int32).toInt = 0 := rfl; omega
theorem I_ng {i : Int32} (h : i < 0) : i.toInt < 0 := by rw [Int32.lt_iff_toInt_lt] at h; have e0 : (0 : Int32).toInt = 0 := rfl; omega
theorem tk_st {os : List Nat} {j : Nat} (h : j < os.length) : os.take j ++ [os.getD j 0] = os.take (j + 1) := by
  rw [List.take_add_one, List.getElem?_eq_getElem h, List.getD_eq_getElem?_getD, List.getElem?_eq_getElem h]
  rfl
theorem nx_xor (a b : Nat) : nI a ^^^ nI b = nI (a ^^^ b) := by
  apply Int32.toBitVec_inj.1
  show BitVec.ofNat 32 a ^^^ BitVec.ofNat 32 b = BitVec.ofNat 32 (a ^^^ b)
  apply BitVec.eq_of_getLsbD_eq
  intro i hi
  simp [hi]
end
section
set_option maxHeartbeats 2000000 in
set_option maxRecDepth 100000 in
theorem f_Model_hasSign (l : Launch) (dC : Nat → ClassId) (dI : Nat → Nat → Nat) (cI cM cO : ClassId) (sz : Nat) (mo : Nat) (ka : Nat) (oo : Nat) (o2 : Nat) (kl : Nat) (kf : Nat → Int32) (ii : Int32) (hkl : kl ≤ 64) : MetI l y_Model_hasSign (Cond.code y_Model_hasSign prog_5_method_2_code 2 (some .boolean) :: gw) ({ frames := 0, cells := 0, slots := 0, locals := 0 } : Room) (dC, dI) vwCl (kT cI cM cO) [Value.ref mo, Value.int ii] [(mo, Sum.inr (8, [Value.ref ka, Value.ref oo, Value.ref o2])), (ka, Sum.inl (cI, kl, Sum.inl kf))] sz (fun (r : Int32) (u : Unit) => r = if 0 ≤ ii ∧ ii < nI kl then 1 else 0) (fun (u : Unit) => [(mo, Sum.inr (8, [Value.ref ka, Value.ref oo, Value.ref o2])), (ka, Sum.inl (cI, kl, Sum.inl kf))]) 0 0 := by
  refine my_ofI (cc := prog_5_method_2_code) (n := 2) (ret := (some .boolean)) (by decide) rfl (Nat.le_of_ble_eq_true rfl) ?_
  intro p e s m args below meth c R Q A ls H locs hx hb hr hts hown hlocks hml hnm hR hQ hA hl hP hK hN hD hS
  have hg : ∀ w ∈ gw, w.before args s = true := fun w h => hts w (List.mem_cons_of_mem _ h)
  have hown : s.vm.findClass "RangeCoders$Model" = some m.cls := hown
  have hl : lv_has ls 2 [(0, Value.ref mo), (1, Value.int ii)] := hl
  refine lv_iload_n hx hb d_Model_hasSign_0 rfl (lv_at hl 1 rfl) ?_
  refine lv_if_lt (tgt := 17) hx hb d_Model_hasSign_1 (by decide) (fun c_1 => ?_) (fun c_1 => ?_)
  · refine lv_iconst (v := 0) hx hb d_Model_hasSign_17 (by decide) ?_
    exact my_iret (v := 0) hx hb hr (rfl) hlocks hQ hK hS (Nat.le_refl _) (Nat.le_refl _) () (has_0a c_1) (hP.sub [0, 1] rfl) (hD.sub [0, 1] (by decide +kernel) rfl) d_Model_hasSign_18
  · refine lv_iload_n hx hb d_Model_hasSign_4 rfl (lv_at hl 1 rfl) ?_
    refine lv_aload_n hx hb d_Model_hasSign_5 rfl (lv_at hl 0 rfl) ?_
    refine va_get (D := (dC, dI)) (ci := 8) (v := .ref ka) (C := "RangeCoders$Model") (T := T_Model) (N := 3) hx hb hg in_Model hown hK hP 0 rfl rfl 0 (by decide) (hg _ k340) (fun _ h9 => h9) rfl d_Model_hasSign_6 ?_
    refine va_alen hx hb hK hP 1 0 rfl rfl (v := nI kl) rfl d_Model_hasSign_9 ?_
    refine lv_icmp_ge (tgt := 17) hx hb d_Model_hasSign_10 (by decide) (fun c_2 => ?_) (fun c_2 => ?_)
    · refine lv_iconst (v := 0) hx hb d_Model_hasSign_17 (by decide) ?_
      exact my_iret (v := 0) hx hb hr (rfl) hlocks hQ hK hS (Nat.le_refl _) (Nat.le_refl _) () (has_0b c_2) (hP.sub [0, 1] rfl) (hD.sub [0, 1] (by decide +kernel) rfl) d_Model_hasSign_18
    · refine lv_iconst (v := 1) hx hb d_Model_hasSign_13 (by decide) ?_
      refine lv_goto (tgt := 18) hx hb d_Model_hasSign_14 (by decide) ?_
      exact my_iret (v := 1) hx hb hr (rfl) hlocks hQ hK hS (Nat.le_refl _) (Nat.le_refl _) () (has_1 c_1 c_2) (hP.sub [0, 1] rfl) (hD.sub [0, 1] (by decide +kernel) rfl) d_Model_hasSign_18
set_option maxHeartbeats 2000000 in
set_option maxRecDepth 100000 in
theorem f_RC_countA (l : Launch) (dC : Nat → ClassId) (dI : Nat → Nat → Nat) (cI cM cO : ClassId) (sz : Nat) (rc : Nat) (ma : Nat) (k : Nat) (fit : Int32) (fen : Int32) (frd : Int32) (fbd : Int32) (fir : Int32) (mf : Nat → Option Nat) (co : Nat) (mm : Int32) (ss : Int32) (vv : Int32) (hbad : mm < 0 ∨ nI k ≤ mm) : MetI l y_RC_count (Cond.code y_RC_count prog_1_method_3_code 6 (some .int) :: gw) ({ frames := 1, cells := 0, slots := 0, locals := 21 } : Room) (dC, dI) vwCl (kT cI cM cO) [Value.ref rc, Value.int mm, Value.int ss, Value.int vv] [(rc, Sum.inr (6, [Value.ref co, Value.ref ma, Value.int (nI k), Value.int fit, Value.int fen, Value.int frd, Value.int fbd, Value.int fir])), (ma, Sum.inl (cM, 8, Sum.inr (Sum.inr (Sum.inr (Sum.inr mf)))))] sz (fun (r : Int32) (u : Unit) => r = -1) (fun (u : Unit) => [(rc, Sum.inr (6, [Value.ref co, Value.ref ma, Value.int (nI k), Value.int fit, Value.int fen, Value.int frd, Value.int fbd, Value.int fir])), (ma, Sum.inl (cM, 8, Sum.inr (Sum.inr (Sum.inr (Sum.inr mf)))))]) 0 0 := by
  refine my_ofI (cc := prog_1_method_3_code) (n := 6) (ret := (some .int)) (by decide) rfl (Nat.le_of_ble_eq_true rfl) ?_
  intro p e s m args below meth c R Q A ls H locs hx hb hr hts hown hlocks hml hnm hR hQ hA hl hP hK hN hD hS
  have hg : ∀ w ∈ gw, w.before args s = true := fun w h => hts w (List.mem_cons_of_mem _ h)
  have hown : s.vm.findClass "RangeCoders" = some m.cls := hown
  have hl : lv_has ls 6 [(0, Value.ref rc), (1, Value.int mm), (2, Value.int ss), (3, Value.int vv)] := hl
  refine lv_aload_n hx hb d_RC_count_0 rfl (lv_at hl 0 rfl) ?_
  refine lv_iload_n hx hb d_RC_count_1 rfl (lv_at hl 1 rfl) ?_
  refine my_cq (wr := []) (va_runV (As := [Value.int mm]) (rest := []) ⟨hx, hb, hml, hown, hts⟩ (c_RC_modelAtA l dC dI cI cM cO H.size rc ma k fit fen frd fbd fir mf co mm (by first | assumption | omega)) (cwV 1 hts (my_gV k412 k414 ks3 k1 k415) rfl rfl rfl cu_RC_modelAt_1 ⟨by rw [hR]; exact Nat.le_of_ble_eq_true rfl, by rw [hR]; exact Nat.le_of_ble_eq_true rfl⟩) (my_preV hK hN (hP.sub [0, 1] rfl) (hD.sub [0, 1] (by decide +kernel) rfl) 0 rfl rfl) rfl rfl hl.1 rfl (lv_room (Nat.le_of_ble_eq_true rfl)) d_RC_count_2 ⟨by rw [hR]; exact Nat.le_of_ble_eq_true rfl, by rw [hR]; exact Nat.le_of_ble_eq_true rfl⟩) hP hD hS hA [0, 1] [] rfl rfl (by decide +kernel) (by decide +kernel) (fun r_2 u9 H locs hw_2 hP hD hS => ?_)
  have hr_2 : r_2 = none := hw_2
  have hPD : my_PD (dC, dI) vwCl A [(rc, Sum.inr (6, [Value.ref co, Value.ref ma, Value.int (nI k), Value.int fit, Value.int fen, Value.int frd, Value.int fbd, Value.int fir])), (ma, Sum.inl (cM, 8, Sum.inr (Sum.inr (Sum.inr (Sum.inr mf)))))] H := ⟨hP, hD⟩
  have hP := hPD.1
  have hD := hPD.2
  subst hr_2
  refine W.eq (g2 := F0 m 5 ls [Value.null]) rfl ?_
  refine lv_astoreN (lv' := [(4, Value.null), (0, Value.ref rc), (1, Value.int mm), (2, Value.int ss), (3, Value.int vv)]) hx hb d_RC_count_5 hl (by decide) rfl (fun ls hl => ?_)
  refine lv_aloadN hx hb d_RC_count_7 (lv_at hl 0 rfl) ?_
  refine lv_ifnullN (tgt := 21) hx hb d_RC_count_9 (by decide) ?_
  refine lv_iconst (v := (-1)) hx hb d_RC_count_21 (by decide) ?_
  exact my_iret (v := (-1)) hx hb hr (rfl) hlocks hQ hK hS (Nat.le_refl _) (Nat.le_refl _) () (rfl) (hP.sub [0, 1] rfl) (hD.sub [0, 1] (by decide +kernel) rfl) d_RC_count_22
set_option maxHeartbeats 2000000 in
set_option maxRecDepth 100000 in
theorem f_RC_putA (l : Launch) (dC : Nat → ClassId) (dI : Nat → Nat → Nat) (cI cM cO : ClassId) (sz : Nat) (rc : Nat) (ma : Nat) (k : Nat) (fit : Int32) (fen : Int32) (frd : Int32) (fbd : Int32) (fir : Int32) (mf : Nat → Option Nat) (co : Nat) (mm : Int32) (ss : Int32) (hbad : mm < 0 ∨ nI k ≤ mm) : MetI l y_RC_put (Cond.code y_RC_put prog_1_method_4_code 4 (some .int) :: gw) ({ frames := 1, cells := 0, slots := 0, locals := 21 } : Room) (dC, dI) vwCl (kT cI cM cO) [Value.ref rc, Value.int mm, Value.int ss] [(rc, Sum.inr (6, [Value.ref co, Value.ref ma, Value.int (nI k), Value.int fit, Value.int fen, Value.int frd, Value.int fbd, Value.int fir])), (ma, Sum.inl (cM, 8, Sum.inr (Sum.inr (Sum.inr (Sum.inr mf)))))] sz (fun (r : Int32) (u : Unit) => r = -1) (fun (u : Unit) => [(rc, Sum.inr (6, [Value.ref co, Value.ref ma, Value.int (nI k), Value.int fit, Value.int fen, Value.int frd, Value.int fbd, Value.int fir])), (ma, Sum.inl (cM, 8, Sum.inr (Sum.inr (Sum.inr (Sum.inr mf)))))]) 0 0 := by
  refine my_ofI (cc := prog_1_method_4_code) (n := 4) (ret := (some .int)) (by decide) rfl (Nat.le_of_ble_eq_true rfl) ?_
  intro p e s m args below meth c R Q A ls H locs hx hb hr hts hown hlocks hml hnm hR hQ hA hl hP hK hN hD hS
  have hg : ∀ w ∈ gw, w.before args s = true := fun w h => hts w (List.mem_cons_of_mem _ h)
  have hown : s.vm.findClass "RangeCoders" = some m.cls := hown
  have hl : lv_has ls 4 [(0, Value.ref rc), (1, Value.int mm), (2, Value.int ss)] := hl
  refine lv_aload_n hx hb d_RC_put_0 rfl (lv_at hl 0 rfl) ?_
  refine lv_iload_n hx hb d_RC_put_1 rfl (lv_at hl 1 rfl) ?_
  refine my_cq (wr := []) (va_runV (As := [Value.int mm]) (rest := []) ⟨hx, hb, hml, hown, hts⟩ (c_RC_modelAtA l dC dI cI cM cO H.size rc ma k fit fen frd fbd fir mf co mm (by first | assumption | omega)) (cwV 1 hts (my_gV k412 k414 ks3 k1 k415) rfl rfl rfl cu_RC_modelAt_1 ⟨by rw [hR]; exact Nat.le_of_ble_eq_true rfl, by rw [hR]; exact Nat.le_of_ble_eq_true rfl⟩) (my_preV hK hN (hP.sub [0, 1] rfl) (hD.sub [0, 1] (by decide +kernel) rfl) 0 rfl rfl) rfl rfl hl.1 rfl (lv_room (Nat.le_of_ble_eq_true rfl)) d_RC_put_2 ⟨by rw [hR]; exact Nat.le_of_ble_eq_true rfl, by rw [hR]; exact Nat.le_of_ble_eq_true rfl⟩) hP hD hS hA [0, 1] [] rfl rfl (by decide +kernel) (by decide +kernel) (fun r_2 u9 H locs hw_2 hP hD hS => ?_)
  have hr_2 : r_2 = none := hw_2
  have hPD : my_PD (dC, dI) vwCl A [(rc, Sum.inr (6, [Value.ref co, Value.ref ma, Value.int (nI k), Value.int fit, Value.int fen, Value.int frd, Value.int fbd, Value.int fir])), (ma, Sum.inl (cM, 8, Sum.inr (Sum.inr (Sum.inr (Sum.inr mf)))))] H := ⟨hP, hD⟩
  have hP := hPD.1
  have hD := hPD.2
  subst hr_2
  refine W.eq (g2 := F0 m 5 ls [Value.null]) rfl ?_
  refine lv_astore_nN (lv' := [(3, Value.null), (0, Value.ref rc), (1, Value.int mm), (2, Value.int ss)]) hx hb d_RC_put_5 rfl hl (by decide) rfl (fun ls hl => ?_)
  refine lv_aload_nN hx hb d_RC_put_6 rfl (lv_at hl 0 rfl) ?_
  refine lv_ifnullN (tgt := 18) hx hb d_RC_put_7 (by decide) ?_
  refine lv_iconst (v := (-1)) hx hb d_RC_put_18 (by decide) ?_
  exact my_iret (v := (-1)) hx hb hr (rfl) hlocks hQ hK hS (Nat.le_refl _) (Nat.le_refl _) () (rfl) (hP.sub [0, 1] rfl) (hD.sub [0, 1] (by decide +kernel) rfl) d_RC_put_19
set_option maxHeartbeats 2000000 in
set_option maxRecDepth 100000 in
theorem f_RC_chanceA (l : Launch) (dC : Nat → ClassId) (dI : Nat → Nat → Nat) (cI cM cO : ClassId) (sz : Nat) (rc : Nat) (ma : Nat) (k : Nat) (fit : Int32) (fen : Int32) (frd : Int32) (fbd : Int32) (fir : Int32) (mf : Nat → Option Nat) (co : Nat) (mm : Int32) (ss : Int32) (hbad : mm < 0 ∨ nI k ≤ mm) : MetI l y_RC_chance (Cond.code y_RC_chance prog_1_method_17_code 4 (some .int) :: gw) ({ frames := 1, cells := 0, slots := 0, locals := 21 } : Room) (dC, dI) vwCl (kT cI cM cO) [Value.ref rc, Value.int mm, Value.int ss] [(rc, Sum.inr (6, [Value.ref co, Value.ref ma, Value.int (nI k), Value.int fit, Value.int fen, Value.int frd, Value.int fbd, Value.int fir])), (ma, Sum.inl (cM, 8, Sum.inr (Sum.inr (Sum.inr (Sum.inr mf)))))] sz (fun (r : Int32) (u : Unit) => r = -1) (fun (u : Unit) => [(rc, Sum.inr (6, [Value.ref co, Value.ref ma, Value.int (nI k), Value.int fit, Value.int fen, Value.int frd, Value.int fbd, Value.int fir])), (ma, Sum.inl (cM, 8, Sum.inr (Sum.inr (Sum.inr (Sum.inr mf)))))]) 0 0 := by
  refine my_ofI (cc := prog_1_method_17_code) (n := 4) (ret := (some .int)) (by decide) rfl (Nat.le_of_ble_eq_true rfl) ?_
  intro p e s m args below meth c R Q A ls H locs hx hb hr hts hown hlocks hml hnm hR hQ hA hl hP hK hN hD hS
  have hg : ∀ w ∈ gw, w.before args s = true := fun w h => hts w (List.mem_cons_of_mem _ h)
  have hown : s.vm.findClass "RangeCoders" = some m.cls := hown
  have hl : lv_has ls 4 [(0, Value.ref rc), (1, Value.int mm), (2, Value.int ss)] := hl
  refine lv_aload_n hx hb d_RC_chance_0 rfl (lv_at hl 0 rfl) ?_
  refine lv_iload_n hx hb d_RC_chance_1 rfl (lv_at hl 1 rfl) ?_
  refine my_cq (wr := []) (va_runV (As := [Value.int mm]) (rest := []) ⟨hx, hb, hml, hown, hts⟩ (c_RC_modelAtA l dC dI cI cM cO H.size rc ma k fit fen frd fbd fir mf co mm (by first | assumption | omega)) (cwV 1 hts (my_gV k412 k414 ks3 k1 k415) rfl rfl rfl cu_RC_modelAt_1 ⟨by rw [hR]; exact Nat.le_of_ble_eq_true rfl, by rw [hR]; exact Nat.le_of_ble_eq_true rfl⟩) (my_preV hK hN (hP.sub [0, 1] rfl) (hD.sub [0, 1] (by decide +kernel) rfl) 0 rfl rfl) rfl rfl hl.1 rfl (lv_room (Nat.le_of_ble_eq_true rfl)) d_RC_chance_2 ⟨by rw [hR]; exact Nat.le_of_ble_eq_true rfl, by rw [hR]; exact Nat.le_of_ble_eq_true rfl⟩) hP hD hS hA [0, 1] [] rfl rfl (by decide +kernel) (by decide +kernel) (fun r_2 u9 H locs hw_2 hP hD hS => ?_)
  have hr_2 : r_2 = none := hw_2
  have hPD : my_PD (dC, dI) vwCl A [(rc, Sum.inr (6, [Value.ref co, Value.ref ma, Value.int (nI k), Value.int fit, Value.int fen, Value.int frd, Value.int fbd, Value.int fir])), (ma, Sum.inl (cM, 8, Sum.inr (Sum.inr (Sum.inr (Sum.inr mf)))))] H := ⟨hP, hD⟩
  have hP := hPD.1
  have hD := hPD.2
  subst hr_2
  refine W.eq (g2 := F0 m 5 ls [Value.null]) rfl ?_
  refine lv_astore_nN (lv' := [(3, Value.null), (0, Value.ref rc), (1, Value.int mm), (2, Value.int ss)]) hx hb d_RC_chance_5 rfl hl (by decide) rfl (fun ls hl => ?_)
  refine lv_aload_nN hx hb d_RC_chance_6 rfl (lv_at hl 0 rfl) ?_
  refine lv_ifnullN (tgt := 21) hx hb d_RC_chance_7 (by decide) ?_
  refine lv_iconst (v := (-1)) hx hb d_RC_chance_21 (by decide) ?_
  exact my_iret (v := (-1)) hx hb hr (rfl) hlocks hQ hK hS (Nat.le_refl _) (Nat.le_refl _) () (rfl) (hP.sub [0, 1] rfl) (hD.sub [0, 1] (by decide +kernel) rfl) d_RC_chance_22
set_option maxHeartbeats 2000000 in
set_option maxRecDepth 100000 in
theorem f_RC_countS (l : Launch) (dC : Nat → ClassId) (dI : Nat → Nat → Nat) (cI cM cO : ClassId) (sz : Nat) (rc : Nat) (ma : Nat) (k : Nat) (fit : Int32) (fen : Int32) (frd : Int32) (fbd : Int32) (fir : Int32) (mf : Nat → Option Nat) (co : Nat) (j : Nat) (mo : Nat) (o2 : Nat) (oo : Nat) (ka : Nat) (kl : Nat) (kf : Nat → Int32) (ss : Int32) (vv : Int32) (hk8 : k ≤ 8) (hj : j < k) (hmf : mf j = some mo) (hkl : kl ≤ 64) (hno : ss < 0 ∨ nI kl ≤ ss) : MetI l y_RC_count (Cond.code y_RC_count prog_1_method_3_code 6 (some .int) :: gw) ({ frames := 1, cells := 0, slots := 0, locals := 21 } : Room) (dC, dI) vwCl (kT cI cM cO) [Value.ref rc, Value.int (nI j), Value.int ss, Value.int vv] [(rc, Sum.inr (6, [Value.ref co, Value.ref ma, Value.int (nI k), Value.int fit, Value.int fen, Value.int frd, Value.int fbd, Value.int fir])), (ma, Sum.inl (cM, 8, Sum.inr (Sum.inr (Sum.inr (Sum.inr mf))))), (mo, Sum.inr (8, [Value.ref ka, Value.ref oo, Value.ref o2])), (ka, Sum.inl (cI, kl, Sum.inl kf))] sz (fun (r : Int32) (u : Unit) => r = -1) (fun (u : Unit) => [(rc, Sum.inr (6, [Value.ref co, Value.ref ma, Value.int (nI k), Value.int fit, Value.int fen, Value.int frd, Value.int fbd, Value.int fir])), (ma, Sum.inl (cM, 8, Sum.inr (Sum.inr (Sum.inr (Sum.inr mf))))), (mo, Sum.inr (8, [Value.ref ka, Value.ref oo, Value.ref o2])), (ka, Sum.inl (cI, kl, Sum.inl kf))]) 0 0 := by
  refine my_ofI (cc := prog_1_method_3_code) (n := 6) (ret := (some .int)) (by decide) rfl (Nat.le_of_ble_eq_true rfl) ?_
  intro p e s m args below meth c R Q A ls H locs hx hb hr hts hown hlocks hml hnm hR hQ hA hl hP hK hN hD hS
  have hg : ∀ w ∈ gw, w.before args s = true := fun w h => hts w (List.mem_cons_of_mem _ h)
  have hown : s.vm.findClass "RangeCoders" = some m.cls := hown
  have hl : lv_has ls 6 [(0, Value.ref rc), (1, Value.int (nI j)), (2, Value.int ss), (3, Value.int vv)] := hl
  refine lv_aload_n hx hb d_RC_count_0 rfl (lv_at hl 0 rfl) ?_
  refine lv_iload_n hx hb d_RC_count_1 rfl (lv_at hl 1 rfl) ?_
  refine my_cq (wr := [(mo, Sum.inr (8, [Value.ref ka, Value.ref oo, Value.ref o2])), (ka, Sum.inl (cI, kl, Sum.inl kf))]) (va_runV (As := [Value.int (nI j)]) (rest := []) ⟨hx, hb, hml, hown, hts⟩ (c_RC_modelAtB l dC dI cI cM cO H.size rc ma k fit fen frd fbd fir mf co j mo (by first | assumption | omega) (by first | assumption | omega) (by first | assumption | omega)) (cwV 1 hts (my_gV k412 k414 ks3 k1 k415) rfl rfl rfl cu_RC_modelAt_1 ⟨by rw [hR]; exact Nat.le_of_ble_eq_true rfl, by rw [hR]; exact Nat.le_of_ble_eq_true rfl⟩) (my_preV hK hN (hP.sub [0, 1] rfl) (hD.sub [0, 1] (by decide +kernel) rfl) 0 rfl rfl) rfl rfl hl.1 rfl (lv_room (Nat.le_of_ble_eq_true rfl)) d_RC_count_2 ⟨by rw [hR]; exact Nat.le_of_ble_eq_true rfl, by rw [hR]; exact Nat.le_of_ble_eq_true rfl⟩) hP hD hS hA [0, 1] [2, 3] rfl rfl (by decide +kernel) (by decide +kernel) (fun r_2 u9 H locs hw_2 hP hD hS => ?_)
  have hr_2 : r_2 = some mo := hw_2
  have hPD : my_PD (dC, dI) vwCl A [(mo, Sum.inr (8, [Value.ref ka, Value.ref oo, Value.ref o2])), (ka, Sum.inl (cI, kl, Sum.inl kf)), (rc, Sum.inr (6, [Value.ref co, Value.ref ma, Value.int (nI k), Value.int fit, Value.int fen, Value.int frd, Value.int fbd, Value.int fir])), (ma, Sum.inl (cM, 8, Sum.inr (Sum.inr (Sum.inr (Sum.inr mf)))))] H := ⟨hP, hD⟩
  have hP := hPD.1
  have hD := hPD.2
  subst hr_2
  refine W.eq (g2 := F0 m 5 ls [Value.ref mo]) rfl ?_
  refine lv_astore (lv' := [(4, Value.ref mo), (0, Value.ref rc), (1, Value.int (nI j)), (2, Value.int ss), (3, Value.int vv)]) hx hb d_RC_count_5 hl (by decide) rfl (fun ls hl => ?_)
  refine lv_aload hx hb d_RC_count_7 (lv_at hl 0 rfl) ?_
  refine lv_ifnull hx hb d_RC_count_9 ?_
  refine lv_aload hx hb d_RC_count_12 (lv_at hl 0 rfl) ?_
  refine lv_iload_n hx hb d_RC_count_14 rfl (lv_at hl 3 rfl) ?_
  refine my_ci (wr := [(rc, Sum.inr (6, [Value.ref co, Value.ref ma, Value.int (nI k), Value.int fit, Value.int fen, Value.int frd, Value.int fbd, Value.int fir])), (ma, Sum.inl (cM, 8, Sum.inr (Sum.inr (Sum.inr (Sum.inr mf)))))]) (va_runV (As := [Value.int ss]) (rest := []) ⟨hx, hb, hml, hown, hts⟩ (f_Model_hasSign l dC dI cI cM cO H.size mo ka oo o2 kl kf ss (by first | assumption | omega)) (cwV 1 hts (my_gV k416 k417 k418 k13 k419) rfl rfl rfl cu_Model_hasSign_1 ⟨by rw [hR]; exact Nat.le_of_ble_eq_true rfl, by rw [hR]; exact Nat.le_of_ble_eq_true rfl⟩) (my_preV hK hN (hP.sub [0, 1] rfl) (hD.sub [0, 1] (by decide +kernel) rfl) 0 rfl rfl) rfl rfl hl.1 rfl (lv_room (Nat.le_of_ble_eq_true rfl)) d_RC_count_15 ⟨by rw [hR]; exact Nat.le_of_ble_eq_true rfl, by rw [hR]; exact Nat.le_of_ble_eq_true rfl⟩) hP hD hS hA [0, 1] [2, 3] rfl rfl (by decide +kernel) (by decide +kernel) (fun r_15 u9 H locs hw_15 hP hD hS => ?_)
  have hr_15 : r_15 = if 0 ≤ ss ∧ ss < nI kl then 1 else 0 := hw_15
  have hPD : my_PD (dC, dI) vwCl A [(rc, Sum.inr (6, [Value.ref co, Value.ref ma, Value.int (nI k), Value.int fit, Value.int fen, Value.int frd, Value.int fbd, Value.int fir])), (ma, Sum.inl (cM, 8, Sum.inr (Sum.inr (Sum.inr (Sum.inr mf))))), (mo, Sum.inr (8, [Value.ref ka, Value.ref oo, Value.ref o2])), (ka, Sum.inl (cI, kl, Sum.inl kf))] H := ⟨hP, hD⟩
  have hP := hPD.1
  have hD := hPD.2
  refine lv_if_ne (tgt := 23) hx hb d_RC_count_18 (by decide) (fun c_1 => ?_) (fun c_1 => ?_)
  · exact absurd (one_ne hr_15 c_1) (has_no hno)
  · refine lv_iconst (v := (-1)) hx hb d_RC_count_21 (by decide) ?_
    exact my_iret (v := (-1)) hx hb hr (rfl) hlocks hQ hK hS (Nat.le_refl _) (Nat.le_refl _) () (rfl) (hP.sub [0, 1, 2, 3] rfl) (hD.sub [0, 1, 2, 3] (by decide +kernel) rfl) d_RC_count_22
set_option maxHeartbeats 2000000 in
set_option maxRecDepth 100000 in
theorem f_RC_putS (l : Launch) (dC : Nat → ClassId) (dI : Nat → Nat → Nat) (cI cM cO : ClassId) (sz : Nat) (rc : Nat) (ma : Nat) (k : Nat) (fit : Int32) (fen : Int32) (frd : Int32) (fbd : Int32) (fir : Int32) (mf : Nat → Option Nat) (co : Nat) (j : Nat) (mo : Nat) (o2 : Nat) (oo : Nat) (ka : Nat) (kl : Nat) (kf : Nat → Int32) (ss : Int32) (hk8 : k ≤ 8) (hj : j < k) (hmf : mf j = some mo) (hkl : kl ≤ 64) (hno : ss < 0 ∨ nI kl ≤ ss) : MetI l y_RC_put (Cond.code y_RC_put prog_1_method_4_code 4 (some .int) :: gw) ({ frames := 1, cells := 0, slots := 0, locals := 21 } : Room) (dC, dI) vwCl (kT cI cM cO) [Value.ref rc, Value.int (nI j), Value.int ss] [(rc, Sum.inr (6, [Value.ref co, Value.ref ma, Value.int (nI k), Value.int fit, Value.int fen, Value.int frd, Value.int fbd, Value.int fir])), (ma, Sum.inl (cM, 8, Sum.inr (Sum.inr (Sum.inr (Sum.inr mf))))), (mo, Sum.inr (8, [Value.ref ka, Value.ref oo, Value.ref o2])), (ka, Sum.inl (cI, kl, Sum.inl kf))] sz (fun (r : Int32) (u : Unit) => r = -1) (fun (u : Unit) => [(rc, Sum.inr (6, [Value.ref co, Value.ref ma, Value.int (nI k), Value.int fit, Value.int fen, Value.int frd, Value.int fbd, Value.int fir])), (ma, Sum.inl (cM, 8, Sum.inr (Sum.inr (Sum.inr (Sum.inr mf))))), (mo, Sum.inr (8, [Value.ref ka, Value.ref oo, Value.ref o2])), (ka, Sum.inl (cI, kl, Sum.inl kf))]) 0 0 := by
  refine my_ofI (cc := prog_1_method_4_code) (n := 4) (ret := (some .int)) (by decide) rfl (Nat.le_of_ble_eq_true rfl) ?_
  intro p e s m args below meth c R Q A ls H locs hx hb hr hts hown hlocks hml hnm hR hQ hA hl hP hK hN hD hS
  have hg : ∀ w ∈ gw, w.before args s = true := fun w h => hts w (List.mem_cons_of_mem _ h)
  have hown : s.vm.findClass "RangeCoders" = some m.cls := hown
  have hl : lv_has ls 4 [(0, Value.ref rc), (1, Value.int (nI j)), (2, Value.int ss)] := hl
  refine lv_aload_n hx hb d_RC_put_0 rfl (lv_at hl 0 rfl) ?_
  refine lv_iload_n hx hb d_RC_put_1 rfl (lv_at hl 1 rfl) ?_
  refine my_cq (wr := [(mo, Sum.inr (8, [Value.ref ka, Value.ref oo, Value.ref o2])), (ka, Sum.inl (cI, kl, Sum.inl kf))]) (va_runV (As := [Value.int (nI j)]) (rest := []) ⟨hx, hb, hml, hown, hts⟩ (c_RC_modelAtB l dC dI cI cM cO H.size rc ma k fit fen frd fbd fir mf co j mo (by first | assumption | omega) (by first | assumption | omega) (by first | assumption | omega)) (cwV 1 hts (my_gV k412 k414 ks3 k1 k415) rfl rfl rfl cu_RC_modelAt_1 ⟨by rw [hR]; exact Nat.le_of_ble_eq_true rfl, by rw [hR]; exact Nat.le_of_ble_eq_true rfl⟩) (my_preV hK hN (hP.sub [0, 1] rfl) (hD.sub [0, 1] (by decide +kernel) rfl) 0 rfl rfl) rfl rfl hl.1 rfl (lv_room (Nat.le_of_ble_eq_true rfl)) d_RC_put_2 ⟨by rw [hR]; exact Nat.le_of_ble_eq_true rfl, by rw [hR]; exact Nat.le_of_ble_eq_true rfl⟩) hP hD hS hA [0, 1] [2, 3] rfl rfl (by decide +kernel) (by decide +kernel) (fun r_2 u9 H locs hw_2 hP hD hS => ?_)
  have hr_2 : r_2 = some mo := hw_2
  have hPD : my_PD (dC, dI) vwCl A [(mo, Sum.inr (8, [Value.ref ka, Value.ref oo, Value.ref o2])), (ka, Sum.inl (cI, kl, Sum.inl kf)), (rc, Sum.inr (6, [Value.ref co, Value.ref ma, Value.int (nI k), Value.int fit, Value.int fen, Value.int frd, Value.int fbd, Value.int fir])), (ma, Sum.inl (cM, 8, Sum.inr (Sum.inr (Sum.inr (Sum.inr mf)))))] H := ⟨hP, hD⟩
  have hP := hPD.1
  have hD := hPD.2
  subst hr_2
  refine W.eq (g2 := F0 m 5 ls [Value.ref mo]) rfl ?_
  refine lv_astore_n (lv' := [(3, Value.ref mo), (0, Value.ref rc), (1, Value.int (nI j)), (2, Value.int ss)]) hx hb d_RC_put_5 rfl hl (by decide) rfl (fun ls hl => ?_)
  refine lv_aload_n hx hb d_RC_put_6 rfl (lv_at hl 0 rfl) ?_
  refine lv_ifnull hx hb d_RC_put_7 ?_
  refine lv_aload_n hx hb d_RC_put_10 rfl (lv_at hl 0 rfl) ?_
  refine lv_iload_n hx hb d_RC_put_11 rfl (lv_at hl 3 rfl) ?_
  refine my_ci (wr := [(rc, Sum.inr (6, [Value.ref co, Value.ref ma, Value.int (nI k), Value.int fit, Value.int fen, Value.int frd, Value.int fbd, Value.int fir])), (ma, Sum.inl (cM, 8, Sum.inr (Sum.inr (Sum.inr (Sum.inr mf)))))]) (va_runV (As := [Value.int ss]) (rest := []) ⟨hx, hb, hml, hown, hts⟩ (f_Model_hasSign l dC dI cI cM cO H.size mo ka oo o2 kl kf ss (by first | assumption | omega)) (cwV 1 hts (my_gV k416 k417 k418 k13 k419) rfl rfl rfl cu_Model_hasSign_1 ⟨by rw [hR]; exact Nat.le_of_ble_eq_true rfl, by rw [hR]; exact Nat.le_of_ble_eq_true rfl⟩) (my_preV hK hN (hP.sub [0, 1] rfl) (hD.sub [0, 1] (by decide +kernel) rfl) 0 rfl rfl) rfl rfl hl.1 rfl (lv_room (Nat.le_of_ble_eq_true rfl)) d_RC_put_12 ⟨by rw [hR]; exact Nat.le_of_ble_eq_true rfl, by rw [hR]; exact Nat.le_of_ble_eq_true rfl⟩) hP hD hS hA [0, 1] [2, 3] rfl rfl (by decide +kernel) (by decide +kernel) (fun r_12 u9 H locs hw_12 hP hD hS => ?_)
  have hr_12 : r_12 = if 0 ≤ ss ∧ ss < nI kl then 1 else 0 := hw_12
  have hPD : my_PD (dC, dI) vwCl A [(rc, Sum.inr (6, [Value.ref co, Value.ref ma, Value.int (nI k), Value.int fit, Value.int fen, Value.int frd, Value.int fbd, Value.int fir])), (ma, Sum.inl (cM, 8, Sum.inr (Sum.inr (Sum.inr (Sum.inr mf))))), (mo, Sum.inr (8, [Value.ref ka, Value.ref oo, Value.ref o2])), (ka, Sum.inl (cI, kl, Sum.inl kf))] H := ⟨hP, hD⟩
  have hP := hPD.1
  have hD := hPD.2
  refine lv_if_ne (tgt := 20) hx hb d_RC_put_15 (by decide) (fun c_1 => ?_) (fun c_1 => ?_)
  · exact absurd (one_ne hr_12 c_1) (has_no hno)
  · refine lv_iconst (v := (-1)) hx hb d_RC_put_18 (by decide) ?_
    exact my_iret (v := (-1)) hx hb hr (rfl) hlocks hQ hK hS (Nat.le_refl _) (Nat.le_refl _) () (rfl) (hP.sub [0, 1, 2, 3] rfl) (hD.sub [0, 1, 2, 3] (by decide +kernel) rfl) d_RC_put_19
set_option maxHeartbeats 2000000 in
set_option maxRecDepth 100000 in
theorem f_RC_countV (l : Launch) (dC : Nat → ClassId) (dI : Nat → Nat → Nat) (cI cM cO : ClassId) (sz : Nat) (rc : Nat) (ma : Nat) (k : Nat) (fit : Int32) (fen : Int32) (frd : Int32) (fbd : Int32) (fir : Int32) (mf : Nat → Option Nat) (co : Nat) (j : Nat) (mo : Nat) (o2 : Nat) (oo : Nat) (ka : Nat) (kl : Nat) (kf : Nat → Int32) (t : Nat) (vv : Int32) (hk8 : k ≤ 8) (hj : j < k) (hmf : mf j = some mo) (hkl : kl ≤ 64) (ht : t < kl) (hvv : vv < 0 ∨ 4095 < vv) : MetI l y_RC_count (Cond.code y_RC_count prog_1_method_3_code 6 (some .int) :: gw) ({ frames := 1, cells := 0, slots := 0, locals := 21 } : Room) (dC, dI) vwCl (kT cI cM cO) [Value.ref rc, Value.int (nI j), Value.int (nI t), Value.int vv] [(rc, Sum.inr (6, [Value.ref co, Value.ref ma, Value.int (nI k), Value.int fit, Value.int fen, Value.int frd, Value.int fbd, Value.int fir])), (ma, Sum.inl (cM, 8, Sum.inr (Sum.inr (Sum.inr (Sum.inr mf))))), (mo, Sum.inr (8, [Value.ref ka, Value.ref oo, Value.ref o2])), (ka, Sum.inl (cI, kl, Sum.inl kf))] sz (fun (r : Int32) (u : Unit) => r = -2) (fun (u : Unit) => [(rc, Sum.inr (6, [Value.ref co, Value.ref ma, Value.int (nI k), Value.int fit, Value.int fen, Value.int frd, Value.int fbd, Value.int fir])), (ma, Sum.inl (cM, 8, Sum.inr (Sum.inr (Sum.inr (Sum.inr mf))))), (mo, Sum.inr (8, [Value.ref ka, Value.ref oo, Value.ref o2])), (ka, Sum.inl (cI, kl, Sum.inl kf))]) 0 0 := by
  refine my_ofI (cc := prog_1_method_3_code) (n := 6) (ret := (some .int)) (by decide) rfl (Nat.le_of_ble_eq_true rfl) ?_
  intro p e s m args below meth c R Q A ls H locs hx hb hr hts hown hlocks hml hnm hR hQ hA hl hP hK hN hD hS
  have hg : ∀ w ∈ gw, w.before args s = true := fun w h => hts w (List.mem_cons_of_mem _ h)
  have hown : s.vm.findClass "RangeCoders" = some m.cls := hown
  have hl : lv_has ls 6 [(0, Value.ref rc), (1, Value.int (nI j)), (2, Value.int (nI t)), (3, Value.int vv)] := hl
  refine lv_aload_n hx hb d_RC_count_0 rfl (lv_at hl 0 rfl) ?_
  refine lv_iload_n hx hb d_RC_count_1 rfl (lv_at hl 1 rfl) ?_
  refine my_cq (wr := [(mo, Sum.inr (8, [Value.ref ka, Value.ref oo, Value.ref o2])), (ka, Sum.inl (cI, kl, Sum.inl kf))]) (va_runV (As := [Value.int (nI j)]) (rest := []) ⟨hx, hb, hml, hown, hts⟩ (c_RC_modelAtB l dC dI cI cM cO H.size rc ma k fit fen frd fbd fir mf co j mo (by first | assumption | omega) (by first | assumption | omega) (by first | assumption | omega)) (cwV 1 hts (my_gV k412 k414 ks3 k1 k415) rfl rfl rfl cu_RC_modelAt_1 ⟨by rw [hR]; exact Nat.le_of_ble_eq_true rfl, by rw [hR]; exact Nat.le_of_ble_eq_true rfl⟩) (my_preV hK hN (hP.sub [0, 1] rfl) (hD.sub [0, 1] (by decide +kernel) rfl) 0 rfl rfl) rfl rfl hl.1 rfl (lv_room (Nat.le_of_ble_eq_true rfl)) d_RC_count_2 ⟨by rw [hR]; exact Nat.le_of_ble_eq_true rfl, by rw [hR]; exact Nat.le_of_ble_eq_true rfl⟩) hP hD hS hA [0, 1] [2, 3] rfl rfl (by decide +kernel) (by decide +kernel) (fun r_2 u9 H locs hw_2 hP hD hS => ?_)
  have hr_2 : r_2 = some mo := hw_2
  have hPD : my_PD (dC, dI) vwCl A [(mo, Sum.inr (8, [Value.ref ka, Value.ref oo, Value.ref o2])), (ka, Sum.inl (cI, kl, Sum.inl kf)), (rc, Sum.inr (6, [Value.ref co, Value.ref ma, Value.int (nI k), Value.int fit, Value.int fen, Value.int frd, Value.int fbd, Value.int fir])), (ma, Sum.inl (cM, 8, Sum.inr (Sum.inr (Sum.inr (Sum.inr mf)))))] H := ⟨hP, hD⟩
  have hP := hPD.1
  have hD := hPD.2
  subst hr_2
  refine W.eq (g2 := F0 m 5 ls [Value.ref mo]) rfl ?_
  refine lv_astore (lv' := [(4, Value.ref mo), (0, Value.ref rc), (1, Value.int (nI j)), (2, Value.int (nI t)), (3, Value.int vv)]) hx hb d_RC_count_5 hl (by decide) rfl (fun ls hl => ?_)
  refine lv_aload hx hb d_RC_count_7 (lv_at hl 0 rfl) ?_
  refine lv_ifnull hx hb d_RC_count_9 ?_
  refine lv_aload hx hb d_RC_count_12 (lv_at hl 0 rfl) ?_
  refine lv_iload_n hx hb d_RC_count_14 rfl (lv_at hl 3 rfl) ?_
  refine my_ci (wr := [(rc, Sum.inr (6, [Value.ref co, Value.ref ma, Value.int (nI k), Value.int fit, Value.int fen, Value.int frd, Value.int fbd, Value.int fir])), (ma, Sum.inl (cM, 8, Sum.inr (Sum.inr (Sum.inr (Sum.inr mf)))))]) (va_runV (As := [Value.int (nI t)]) (rest := []) ⟨hx, hb, hml, hown, hts⟩ (f_Model_hasSign l dC dI cI cM cO H.size mo ka oo o2 kl kf (nI t) (by first | assumption | omega)) (cwV 1 hts (my_gV k416 k417 k418 k13 k419) rfl rfl rfl cu_Model_hasSign_1 ⟨by rw [hR]; exact Nat.le_of_ble_eq_true rfl, by rw [hR]; exact Nat.le_of_ble_eq_true rfl⟩) (my_preV hK hN (hP.sub [0, 1] rfl) (hD.sub [0, 1] (by decide +kernel) rfl) 0 rfl rfl) rfl rfl hl.1 rfl (lv_room (Nat.le_of_ble_eq_true rfl)) d_RC_count_15 ⟨by rw [hR]; exact Nat.le_of_ble_eq_true rfl, by rw [hR]; exact Nat.le_of_ble_eq_true rfl⟩) hP hD hS hA [0, 1] [2, 3] rfl rfl (by decide +kernel) (by decide +kernel) (fun r_15 u9 H locs hw_15 hP hD hS => ?_)
  have hr_15 : r_15 = if 0 ≤ (nI t) ∧ (nI t) < nI kl then 1 else 0 := hw_15
  have hPD : my_PD (dC, dI) vwCl A [(rc, Sum.inr (6, [Value.ref co, Value.ref ma, Value.int (nI k), Value.int fit, Value.int fen, Value.int frd, Value.int fbd, Value.int fir])), (ma, Sum.inl (cM, 8, Sum.inr (Sum.inr (Sum.inr (Sum.inr mf))))), (mo, Sum.inr (8, [Value.ref ka, Value.ref oo, Value.ref o2])), (ka, Sum.inl (cI, kl, Sum.inl kf))] H := ⟨hP, hD⟩
  have hP := hPD.1
  have hD := hPD.2
  refine lv_if_ne (tgt := 23) hx hb d_RC_count_18 (by decide) (fun c_1 => ?_) (fun c_1 => ?_)
  · refine lv_iload_n hx hb d_RC_count_23 rfl (lv_at hl 4 rfl) ?_
    refine lv_if_lt (tgt := 34) hx hb d_RC_count_24 (by decide) (fun c_2 => ?_) (fun c_2 => ?_)
    · refine lv_bipush (v := (-2)) hx hb d_RC_count_34 (by decide) ?_
      exact my_iret (v := (-2)) hx hb hr (rfl) hlocks hQ hK hS (Nat.le_refl _) (Nat.le_refl _) () (rfl) (hP.sub [0, 1, 2, 3] rfl) (hD.sub [0, 1, 2, 3] (by decide +kernel) rfl) d_RC_count_36
    · refine lv_iload_n hx hb d_RC_count_27 rfl (lv_at hl 4 rfl) ?_
      refine lv_sipush (v := 4095) hx hb d_RC_count_28 (by decide) ?_
      refine lv_icmp_le (tgt := 37) hx hb d_RC_count_31 (by decide) (fun c_3 => ?_) (fun c_3 => ?_)
      · exact absurd hvv (fun h9 => h9.elim c_2 (fun q9 => absurd c_3 (Int32.not_le.mpr q9)))
      · refine lv_bipush (v := (-2)) hx hb d_RC_count_34 (by decide) ?_
        exact my_iret (v := (-2)) hx hb hr (rfl) hlocks hQ hK hS (Nat.le_refl _) (Nat.le_refl _) () (rfl) (hP.sub [0, 1, 2, 3] rfl) (hD.sub [0, 1, 2, 3] (by decide +kernel) rfl) d_RC_count_36
  · exact absurd (has_in ht (by omega)) (one_eq hr_15 c_1)
set_option maxHeartbeats 2000000 in
set_option maxRecDepth 100000 in
theorem f_RC_countN (l : Launch) (dC : Nat → ClassId) (dI : Nat → Nat → Nat) (cI cM cO : ClassId) (sz : Nat) (rc : Nat) (ma : Nat) (k : Nat) (fit : Int32) (fen : Int32) (frd : Int32) (fbd : Int32) (fir : Int32) (mf : Nat → Option Nat) (co : Nat) (j : Nat) (mo : Nat) (o2 : Nat) (oo : Nat) (ka : Nat) (kl : Nat) (kf : Nat → Int32) (t : Nat) (c9 : Nat) (hk8 : k ≤ 8) (hj : j < k) (hmf : mf j = some mo) (hkl : kl ≤ 64) (ht : t < kl) (hc : c9 ≤ 4095) (hnn : (0 < fit ∧ fen = 0) ∨ ¬ frd = 0) : MetI l y_RC_count (Cond.code y_RC_count prog_1_method_3_code 6 (some .int) :: gw) ({ frames := 1, cells := 0, slots := 0, locals := 21 } : Room) (dC, dI) vwCl (kT cI cM cO) [Value.ref rc, Value.int (nI j), Value.int (nI t), Value.int (nI c9)] [(rc, Sum.inr (6, [Value.ref co, Value.ref ma, Value.int (nI k), Value.int fit, Value.int fen, Value.int frd, Value.int fbd, Value.int fir])), (ma, Sum.inl (cM, 8, Sum.inr (Sum.inr (Sum.inr (Sum.inr mf))))), (mo, Sum.inr (8, [Value.ref ka, Value.ref oo, Value.ref o2])), (ka, Sum.inl (cI, kl, Sum.inl kf))] sz (fun (r : Int32) (u : Unit) => r = -3) (fun (u : Unit) => [(rc, Sum.inr (6, [Value.ref co, Value.ref ma, Value.int (nI k), Value.int fit, Value.int fen, Value.int frd, Value.int fbd, Value.int fir])), (ma, Sum.inl (cM, 8, Sum.inr (Sum.inr (Sum.inr (Sum.inr mf))))), (mo, Sum.inr (8, [Value.ref ka, Value.ref oo, Value.ref o2])), (ka, Sum.inl (cI, kl, Sum.inl kf))]) 0 0 := by
  refine my_ofI (cc := prog_1_method_3_code) (n := 6) (ret := (some .int)) (by decide) rfl (Nat.le_of_ble_eq_true rfl) ?_
  intro p e s m args below meth c R Q A ls H locs hx hb hr hts hown hlocks hml hnm hR hQ hA hl hP hK hN hD hS
  have hg : ∀ w ∈ gw, w.before args s = true := fun w h => hts w (List.mem_cons_of_mem _ h)
  have hown : s.vm.findClass "RangeCoders" = some m.cls := hown
  have hl : lv_has ls 6 [(0, Value.ref rc), (1, Value.int (nI j)), (2, Value.int (nI t)), (3, Value.int (nI c9))] := hl
  refine lv_aload_n hx hb d_RC_count_0 rfl (lv_at hl 0 rfl) ?_
  refine lv_iload_n hx hb d_RC_count_1 rfl (lv_at hl 1 rfl) ?_
  refine my_cq (wr := [(mo, Sum.inr (8, [Value.ref ka, Value.ref oo, Value.ref o2])), (ka, Sum.inl (cI, kl, Sum.inl kf))]) (va_runV (As := [Value.int (nI j)]) (rest := []) ⟨hx, hb, hml, hown, hts⟩ (c_RC_modelAtB l dC dI cI cM cO H.size rc ma k fit fen frd fbd fir mf co j mo (by first | assumption | omega) (by first | assumption | omega) (by first | assumption | omega)) (cwV 1 hts (my_gV k412 k414 ks3 k1 k415) rfl rfl rfl cu_RC_modelAt_1 ⟨by rw [hR]; exact Nat.le_of_ble_eq_true rfl, by rw [hR]; exact Nat.le_of_ble_eq_true rfl⟩) (my_preV hK hN (hP.sub [0, 1] rfl) (hD.sub [0, 1] (by decide +kernel) rfl) 0 rfl rfl) rfl rfl hl.1 rfl (lv_room (Nat.le_of_ble_eq_true rfl)) d_RC_count_2 ⟨by rw [hR]; exact Nat.le_of_ble_eq_true rfl, by rw [hR]; exact Nat.le_of_ble_eq_true rfl⟩) hP hD hS hA [0, 1] [2, 3] rfl rfl (by decide +kernel) (by decide +kernel) (fun r_2 u9 H locs hw_2 hP hD hS => ?_)
  have hr_2 : r_2 = some mo := hw_2
  have hPD : my_PD (dC, dI) vwCl A [(mo, Sum.inr (8, [Value.ref ka, Value.ref oo, Value.ref o2])), (ka, Sum.inl (cI, kl, Sum.inl kf)), (rc, Sum.inr (6, [Value.ref co, Value.ref ma, Value.int (nI k), Value.int fit, Value.int fen, Value.int frd, Value.int fbd, Value.int fir])), (ma, Sum.inl (cM, 8, Sum.inr (Sum.inr (Sum.inr (Sum.inr mf)))))] H := ⟨hP, hD⟩
  have hP := hPD.1
  have hD := hPD.2
  subst hr_2
  refine W.eq (g2 := F0 m 5 ls [Value.ref mo]) rfl ?_
  refine lv_astore (lv' := [(4, Value.ref mo), (0, Value.ref rc), (1, Value.int (nI j)), (2, Value.int (nI t)), (3, Value.int (nI c9))]) hx hb d_RC_count_5 hl (by decide) rfl (fun ls hl => ?_)
  refine lv_aload hx hb d_RC_count_7 (lv_at hl 0 rfl) ?_
  refine lv_ifnull hx hb d_RC_count_9 ?_
  refine lv_aload hx hb d_RC_count_12 (lv_at hl 0 rfl) ?_
  refine lv_iload_n hx hb d_RC_count_14 rfl (lv_at hl 3 rfl) ?_
  refine my_ci (wr := [(rc, Sum.inr (6, [Value.ref co, Value.ref ma, Value.int (nI k), Value.int fit, Value.int fen, Value.int frd, Value.int fbd, Value.int fir])), (ma, Sum.inl (cM, 8, Sum.inr (Sum.inr (Sum.inr (Sum.inr mf)))))]) (va_runV (As := [Value.int (nI t)]) (rest := []) ⟨hx, hb, hml, hown, hts⟩ (f_Model_hasSign l dC dI cI cM cO H.size mo ka oo o2 kl kf (nI t) (by first | assumption | omega)) (cwV 1 hts (my_gV k416 k417 k418 k13 k419) rfl rfl rfl cu_Model_hasSign_1 ⟨by rw [hR]; exact Nat.le_of_ble_eq_true rfl, by rw [hR]; exact Nat.le_of_ble_eq_true rfl⟩) (my_preV hK hN (hP.sub [0, 1] rfl) (hD.sub [0, 1] (by decide +kernel) rfl) 0 rfl rfl) rfl rfl hl.1 rfl (lv_room (Nat.le_of_ble_eq_true rfl)) d_RC_count_15 ⟨by rw [hR]; exact Nat.le_of_ble_eq_true rfl, by rw [hR]; exact Nat.le_of_ble_eq_true rfl⟩) hP hD hS hA [0, 1] [2, 3] rfl rfl (by decide +kernel) (by decide +kernel) (fun r_15 u9 H locs hw_15 hP hD hS => ?_)
  have hr_15 : r_15 = if 0 ≤ (nI t) ∧ (nI t) < nI kl then 1 else 0 := hw_15
  have hPD : my_PD (dC, dI) vwCl A [(rc, Sum.inr (6, [Value.ref co, Value.ref ma, Value.int (nI k), Value.int fit, Value.int fen, Value.int frd, Value.int fbd, Value.int fir])), (ma, Sum.inl (cM, 8, Sum.inr (Sum.inr (Sum.inr (Sum.inr mf))))), (mo, Sum.inr (8, [Value.ref ka, Value.ref oo, Value.ref o2])), (ka, Sum.inl (cI, kl, Sum.inl kf))] H := ⟨hP, hD⟩
  have hP := hPD.1
  have hD := hPD.2
  refine lv_if_ne (tgt := 23) hx hb d_RC_count_18 (by decide) (fun c_1 => ?_) (fun c_1 => ?_)
  · refine lv_iload_n hx hb d_RC_count_23 rfl (lv_at hl 4 rfl) ?_
    refine lv_if_lt (tgt := 34) hx hb d_RC_count_24 (by decide) (fun c_2 => ?_) (fun c_2 => ?_)
    · exact absurd c_2 (nI_pos (by omega))
    · refine lv_iload_n hx hb d_RC_count_27 rfl (lv_at hl 4 rfl) ?_
      refine lv_sipush (v := 4095) hx hb d_RC_count_28 (by decide) ?_
      refine lv_icmp_le (tgt := 37) hx hb d_RC_count_31 (by decide) (fun c_3 => ?_) (fun c_3 => ?_)
      · refine lv_aload_n hx hb d_RC_count_37 rfl (lv_at hl 1 rfl) ?_
        refine va_get (D := (dC, dI)) (ci := 6) (v := .int fit) (C := "RangeCoders") (T := T_RC) (N := 8) hx hb hg in_RC hown hK hP 0 rfl rfl 3 (by decide) (hg _ k261) (fun _ h9 => h9) rfl d_RC_count_38 ?_
        refine lv_if_le (tgt := 51) hx hb d_RC_count_41 (by decide) (fun c_4 => ?_) (fun c_4 => ?_)
        · refine lv_aload_n hx hb d_RC_count_51 rfl (lv_at hl 1 rfl) ?_
          refine va_get (D := (dC, dI)) (ci := 6) (v := .int frd) (C := "RangeCoders") (T := T_RC) (N := 8) hx hb hg in_RC hown hK hP 0 rfl rfl 5 (by decide) (hg _ k263) (fun _ h9 => h9) rfl d_RC_count_52 ?_
          refine lv_if_eq (tgt := 61) hx hb d_RC_count_55 (by decide) (fun c_5 => ?_) (fun c_5 => ?_)
          · exact absurd hnn (fun h9 => h9.elim (fun q9 => absurd q9.1 (Int32.not_lt.mpr c_4)) (fun q9 => q9 c_5))
          · refine lv_bipush (v := (-3)) hx hb d_RC_count_58 (by decide) ?_
            exact my_iret (v := (-3)) hx hb hr (rfl) hlocks hQ hK hS (Nat.le_refl _) (Nat.le_refl _) () (rfl) (hP.sub [0, 1, 2, 3] rfl) (hD.sub [0, 1, 2, 3] (by decide +kernel) rfl) d_RC_count_60
        · refine lv_aload_n hx hb d_RC_count_44 rfl (lv_at hl 1 rfl) ?_
          refine va_get (D := (dC, dI)) (ci := 6) (v := .int fen) (C := "RangeCoders") (T := T_RC) (N := 8) hx hb hg in_RC hown hK hP 0 rfl rfl 4 (by decide) (hg _ k262) (fun _ h9 => h9) rfl d_RC_count_45 ?_
          refine lv_if_eq (tgt := 58) hx hb d_RC_count_48 (by decide) (fun c_6 => ?_) (fun c_6 => ?_)
          · refine lv_bipush (v := (-3)) hx hb d_RC_count_58 (by decide) ?_
            exact my_iret (v := (-3)) hx hb hr (rfl) hlocks hQ hK hS (Nat.le_refl _) (Nat.le_refl _) () (rfl) (hP.sub [0, 1, 2, 3] rfl) (hD.sub [0, 1, 2, 3] (by decide +kernel) rfl) d_RC_count_60
          · refine lv_aload_n hx hb d_RC_count_51 rfl (lv_at hl 1 rfl) ?_
            refine va_get (D := (dC, dI)) (ci := 6) (v := .int frd) (C := "RangeCoders") (T := T_RC) (N := 8) hx hb hg in_RC hown hK hP 0 rfl rfl 5 (by decide) (hg _ k263) (fun _ h9 => h9) rfl d_RC_count_52 ?_
            refine lv_if_eq (tgt := 61) hx hb d_RC_count_55 (by decide) (fun c_7 => ?_) (fun c_7 => ?_)
            · exact absurd hnn (fun h9 => h9.elim (fun q9 => c_6 q9.2) (fun q9 => q9 c_7))
            · refine lv_bipush (v := (-3)) hx hb d_RC_count_58 (by decide) ?_
              exact my_iret (v := (-3)) hx hb hr (rfl) hlocks hQ hK hS (Nat.le_refl _) (Nat.le_refl _) () (rfl) (hP.sub [0, 1, 2, 3] rfl) (hD.sub [0, 1, 2, 3] (by decide +kernel) rfl) d_RC_count_60
      · exact absurd (nI_le (b := 4095) hc (by decide)) c_3
  · exact absurd (has_in ht (by omega)) (one_eq hr_15 c_1)
set_option maxHeartbeats 2000000 in
set_option maxRecDepth 100000 in
theorem f_RC_countE (l : Launch) (dC : Nat → ClassId) (dI : Nat → Nat → Nat) (cI cM cO : ClassId) (sz : Nat) (rc : Nat) (ma : Nat) (k : Nat) (fit : Int32) (fen : Int32) (frd : Int32) (fbd : Int32) (fir : Int32) (mf : Nat → Option Nat) (co : Nat) (j : Nat) (mo : Nat) (o2 : Nat) (oo : Nat) (ka : Nat) (kl : Nat) (kf : Nat → Int32) (t : Nat) (c9 : Nat) (hk8 : k ≤ 8) (hj : j < k) (hmf : mf j = some mo) (hkl : kl ≤ 64) (ht : t < kl) (hc : c9 ≤ 4095) (hen : ¬ fen = 0) (hrd : frd = 0) : MetI l y_RC_count (Cond.code y_RC_count prog_1_method_3_code 6 (some .int) :: gw) ({ frames := 1, cells := 0, slots := 0, locals := 21 } : Room) (dC, dI) vwCl (kT cI cM cO) [Value.ref rc, Value.int (nI j), Value.int (nI t), Value.int (nI c9)] [(rc, Sum.inr (6, [Value.ref co, Value.ref ma, Value.int (nI k), Value.int fit, Value.int fen, Value.int frd, Value.int fbd, Value.int fir])), (ma, Sum.inl (cM, 8, Sum.inr (Sum.inr (Sum.inr (Sum.inr mf))))), (mo, Sum.inr (8, [Value.ref ka, Value.ref oo, Value.ref o2])), (ka, Sum.inl (cI, kl, Sum.inl kf))] sz (fun (r : Int32) (u : (Nat → Int32)) => r = kf t ∧ u = upd kf t (nI c9)) (fun (u : (Nat → Int32)) => [(rc, Sum.inr (6, [Value.ref co, Value.ref ma, Value.int (nI k), Value.int fit, Value.int fen, Value.int frd, Value.int fbd, Value.int fir])), (ma, Sum.inl (cM, 8, Sum.inr (Sum.inr (Sum.inr (Sum.inr mf))))), (mo, Sum.inr (8, [Value.ref ka, Value.ref oo, Value.ref o2])), (ka, Sum.inl (cI, kl, Sum.inl u))]) 0 0 := by
  refine my_ofI (cc := prog_1_method_3_code) (n := 6) (ret := (some .int)) (by decide) rfl (Nat.le_of_ble_eq_true rfl) ?_
  intro p e s m args below meth c R Q A ls H locs hx hb hr hts hown hlocks hml hnm hR hQ hA hl hP hK hN hD hS
  have hg : ∀ w ∈ gw, w.before args s = true := fun w h => hts w (List.mem_cons_of_mem _ h)
  have hown : s.vm.findClass "RangeCoders" = some m.cls := hown
  have hl : lv_has ls 6 [(0, Value.ref rc), (1, Value.int (nI j)), (2, Value.int (nI t)), (3, Value.int (nI c9))] := hl
  refine lv_aload_n hx hb d_RC_count_0 rfl (lv_at hl 0 rfl) ?_
  refine lv_iload_n hx hb d_RC_count_1 rfl (lv_at hl 1 rfl) ?_
  refine my_cq (wr := [(mo, Sum.inr (8, [Value.ref ka, Value.ref oo, Value.ref o2])), (ka, Sum.inl (cI, kl, Sum.inl kf))]) (va_runV (As := [Value.int (nI j)]) (rest := []) ⟨hx, hb, hml, hown, hts⟩ (c_RC_modelAtB l dC dI cI cM cO H.size rc ma k fit fen frd fbd fir mf co j mo (by first | assumption | omega) (by first | assumption | omega) (by first | assumption | omega)) (cwV 1 hts (my_gV k412 k414 ks3 k1 k415) rfl rfl rfl cu_RC_modelAt_1 ⟨by rw [hR]; exact Nat.le_of_ble_eq_true rfl, by rw [hR]; exact Nat.le_of_ble_eq_true rfl⟩) (my_preV hK hN (hP.sub [0, 1] rfl) (hD.sub [0, 1] (by decide +kernel) rfl) 0 rfl rfl) rfl rfl hl.1 rfl (lv_room (Nat.le_of_ble_eq_true rfl)) d_RC_count_2 ⟨by rw [hR]; exact Nat.le_of_ble_eq_true rfl, by rw [hR]; exact Nat.le_of_ble_eq_true rfl⟩) hP hD hS hA [0, 1] [2, 3] rfl rfl (by decide +kernel) (by decide +kernel) (fun r_2 u9 H locs hw_2 hP hD hS => ?_)
  have hr_2 : r_2 = some mo := hw_2
  have hPD : my_PD (dC, dI) vwCl A [(mo, Sum.inr (8, [Value.ref ka, Value.ref oo, Value.ref o2])), (ka, Sum.inl (cI, kl, Sum.inl kf)), (rc, Sum.inr (6, [Value.ref co, Value.ref ma, Value.int (nI k), Value.int fit, Value.int fen, Value.int frd, Value.int fbd, Value.int fir])), (ma, Sum.inl (cM, 8, Sum.inr (Sum.inr (Sum.inr (Sum.inr mf)))))] H := ⟨hP, hD⟩
  have hP := hPD.1
  have hD := hPD.2
  subst hr_2
  refine W.eq (g2 := F0 m 5 ls [Value.ref mo]) rfl ?_
  refine lv_astore (lv' := [(4, Value.ref mo), (0, Value.ref rc), (1, Value.int (nI j)), (2, Value.int (nI t)), (3, Value.int (nI c9))]) hx hb d_RC_count_5 hl (by decide) rfl (fun ls hl => ?_)
  refine lv_aload hx hb d_RC_count_7 (lv_at hl 0 rfl) ?_
  refine lv_ifnull hx hb d_RC_count_9 ?_
  refine lv_aload hx hb d_RC_count_12 (lv_at hl 0 rfl) ?_
  refine lv_iload_n hx hb d_RC_count_14 rfl (lv_at hl 3 rfl) ?_
  refine my_ci (wr := [(rc, Sum.inr (6, [Value.ref co, Value.ref ma, Value.int (nI k), Value.int fit, Value.int fen, Value.int frd, Value.int fbd, Value.int fir])), (ma, Sum.inl (cM, 8, Sum.inr (Sum.inr (Sum.inr (Sum.inr mf)))))]) (va_runV (As := [Value.int (nI t)]) (rest := []) ⟨hx, hb, hml, hown, hts⟩ (f_Model_hasSign l dC dI cI cM cO H.size mo ka oo o2 kl kf (nI t) (by first | assumption | omega)) (cwV 1 hts (my_gV k416 k417 k418 k13 k419) rfl rfl rfl cu_Model_hasSign_1 ⟨by rw [hR]; exact Nat.le_of_ble_eq_true rfl, by rw [hR]; exact Nat.le_of_ble_eq_true rfl⟩) (my_preV hK hN (hP.sub [0, 1] rfl) (hD.sub [0, 1] (by decide +kernel) rfl) 0 rfl rfl) rfl rfl hl.1 rfl (lv_room (Nat.le_of_ble_eq_true rfl)) d_RC_count_15 ⟨by rw [hR]; exact Nat.le_of_ble_eq_true rfl, by rw [hR]; exact Nat.le_of_ble_eq_true rfl⟩) hP hD hS hA [0, 1] [2, 3] rfl rfl (by decide +kernel) (by decide +kernel) (fun r_15 u9 H locs hw_15 hP hD hS => ?_)
  have hr_15 : r_15 = if 0 ≤ (nI t) ∧ (nI t) < nI kl then 1 else 0 := hw_15
  have hPD : my_PD (dC, dI) vwCl A [(rc, Sum.inr (6, [Value.ref co, Value.ref ma, Value.int (nI k), Value.int fit, Value.int fen, Value.int frd, Value.int fbd, Value.int fir])), (ma, Sum.inl (cM, 8, Sum.inr (Sum.inr (Sum.inr (Sum.inr mf))))), (mo, Sum.inr (8, [Value.ref ka, Value.ref oo, Value.ref o2])), (ka, Sum.inl (cI, kl, Sum.inl kf))] H := ⟨hP, hD⟩
  have hP := hPD.1
  have hD := hPD.2
  refine lv_if_ne (tgt := 23) hx hb d_RC_count_18 (by decide) (fun c_1 => ?_) (fun c_1 => ?_)
  · refine lv_iload_n hx hb d_RC_count_23 rfl (lv_at hl 4 rfl) ?_
    refine lv_if_lt (tgt := 34) hx hb d_RC_count_24 (by decide) (fun c_2 => ?_) (fun c_2 => ?_)
    · exact absurd c_2 (nI_pos (by omega))
    · refine lv_iload_n hx hb d_RC_count_27 rfl (lv_at hl 4 rfl) ?_
      refine lv_sipush (v := 4095) hx hb d_RC_count_28 (by decide) ?_
      refine lv_icmp_le (tgt := 37) hx hb d_RC_count_31 (by decide) (fun c_3 => ?_) (fun c_3 => ?_)
      · refine lv_aload_n hx hb d_RC_count_37 rfl (lv_at hl 1 rfl) ?_
        refine va_get (D := (dC, dI)) (ci := 6) (v := .int fit) (C := "RangeCoders") (T := T_RC) (N := 8) hx hb hg in_RC hown hK hP 0 rfl rfl 3 (by decide) (hg _ k261) (fun _ h9 => h9) rfl d_RC_count_38 ?_
        refine lv_if_le (tgt := 51) hx hb d_RC_count_41 (by decide) (fun c_4 => ?_) (fun c_4 => ?_)
        · refine lv_aload_n hx hb d_RC_count_51 rfl (lv_at hl 1 rfl) ?_
          refine va_get (D := (dC, dI)) (ci := 6) (v := .int frd) (C := "RangeCoders") (T := T_RC) (N := 8) hx hb hg in_RC hown hK hP 0 rfl rfl 5 (by decide) (hg _ k263) (fun _ h9 => h9) rfl d_RC_count_52 ?_
          refine lv_if_eq (tgt := 61) hx hb d_RC_count_55 (by decide) (fun c_5 => ?_) (fun c_5 => ?_)
          · refine lv_aload hx hb d_RC_count_61 (lv_at hl 0 rfl) ?_
            refine va_get (D := (dC, dI)) (ci := 8) (v := .ref ka) (C := "RangeCoders$Model") (T := T_Model) (N := 3) hx hb hg in_Model hown hK hP 2 rfl rfl 0 (by decide) (hg _ k341) (fun _ h9 => h9) rfl d_RC_count_63 ?_
            refine lv_iload_n hx hb d_RC_count_66 rfl (lv_at hl 3 rfl) ?_
            refine va_iald hx hb hK hP 3 0 rfl rfl (vp_in_nI ht (by omega)) d_RC_count_67 ?_
            refine lv_topi (fun v_6 ev_6 => ?_)
            refine lv_istore (lv' := [(5, Value.int v_6), (4, Value.ref mo), (0, Value.ref rc), (1, Value.int (nI j)), (2, Value.int (nI t)), (3, Value.int (nI c9))]) hx hb d_RC_count_68 hl (by decide) rfl (fun ls hl => ?_)
            refine lv_aload hx hb d_RC_count_70 (lv_at hl 1 rfl) ?_
            refine va_get (D := (dC, dI)) (ci := 8) (v := .ref ka) (C := "RangeCoders$Model") (T := T_Model) (N := 3) hx hb hg in_Model hown hK hP 2 rfl rfl 0 (by decide) (hg _ k341) (fun _ h9 => h9) rfl d_RC_count_72 ?_
            refine lv_iload_n hx hb d_RC_count_75 rfl (lv_at hl 4 rfl) ?_
            refine lv_iload_n hx hb d_RC_count_76 rfl (lv_at hl 5 rfl) ?_
            refine va_iast hx hb hK hP hD hS 3 0 rfl rfl (vp_in_nI ht (by omega)) d_RC_count_77 (fun H locs hP hD hS => ?_)
            have hPD : my_PD (dC, dI) vwCl A [(rc, Sum.inr (6, [Value.ref co, Value.ref ma, Value.int (nI k), Value.int fit, Value.int fen, Value.int frd, Value.int fbd, Value.int fir])), (ma, Sum.inl (cM, 8, Sum.inr (Sum.inr (Sum.inr (Sum.inr mf))))), (mo, Sum.inr (8, [Value.ref ka, Value.ref oo, Value.ref o2])), (ka, Sum.inl (cI, kl, Sum.inl (upd kf (nI t).toNatClampNeg (nI c9))))] H := ⟨hP, hD⟩
            have hP := hPD.1
            have hD := hPD.2
            refine lv_aload_n hx hb d_RC_count_78 rfl (lv_at hl 2 rfl) ?_
            refine va_get (D := (dC, dI)) (ci := 6) (v := .int fen) (C := "RangeCoders") (T := T_RC) (N := 8) hx hb hg in_RC hown hK hP 0 rfl rfl 4 (by decide) (hg _ k262) (fun _ h9 => h9) rfl d_RC_count_79 ?_
            refine lv_if_ne (tgt := 102) hx hb d_RC_count_82 (by decide) (fun c_7 => ?_) (fun c_7 => ?_)
            · refine lv_iload hx hb d_RC_count_102 (lv_at hl 0 rfl) ?_
              exact my_iret (v := v_6) hx hb hr (rfl) hlocks hQ hK hS (Nat.le_refl _) (Nat.le_refl _) (upd kf (nI t).toNatClampNeg (nI c9)) (⟨by rw [ev_6, nI_clamp (by omega)], by rw [nI_clamp (by omega)]⟩) (hP.sub [0, 1, 2, 3] rfl) (hD.sub [0, 1, 2, 3] (by decide +kernel) rfl) d_RC_count_104
            · exact absurd c_7 hen
          · exact absurd hrd c_5
        · refine lv_aload_n hx hb d_RC_count_44 rfl (lv_at hl 1 rfl) ?_
          refine va_get (D := (dC, dI)) (ci := 6) (v := .int fen) (C := "RangeCoders") (T := T_RC) (N := 8) hx hb hg in_RC hown hK hP 0 rfl rfl 4 (by decide) (hg _ k262) (fun _ h9 => h9) rfl d_RC_count_45 ?_
          refine lv_if_eq (tgt := 58) hx hb d_RC_count_48 (by decide) (fun c_8 => ?_) (fun c_8 => ?_)
          · exact absurd c_8 hen
          · refine lv_aload_n hx hb d_RC_count_51 rfl (lv_at hl 1 rfl) ?_
            refine va_get (D := (dC, dI)) (ci := 6) (v := .int frd) (C := "RangeCoders") (T := T_RC) (N := 8) hx hb hg in_RC hown hK hP 0 rfl rfl 5 (by decide) (hg _ k263) (fun _ h9 => h9) rfl d_RC_count_52 ?_
            refine lv_if_eq (tgt := 61) hx hb d_RC_count_55 (by decide) (fun c_9 => ?_) (fun c_9 => ?_)
            · refine lv_aload hx hb d_RC_count_61 (lv_at hl 0 rfl) ?_
              refine va_get (D := (dC, dI)) (ci := 8) (v := .ref ka) (C := "RangeCoders$Model") (T := T_Model) (N := 3) hx hb hg in_Model hown hK hP 2 rfl rfl 0 (by decide) (hg _ k341) (fun _ h9 => h9) rfl d_RC_count_63 ?_
              refine lv_iload_n hx hb d_RC_count_66 rfl (lv_at hl 3 rfl) ?_
              refine va_iald hx hb hK hP 3 0 rfl rfl (vp_in_nI ht (by omega)) d_RC_count_67 ?_
              refine lv_topi (fun v_10 ev_10 => ?_)
              refine lv_istore (lv' := [(5, Value.int v_10), (4, Value.ref mo), (0, Value.ref rc), (1, Value.int (nI j)), (2, Value.int (nI t)), (3, Value.int (nI c9))]) hx hb d_RC_count_68 hl (by decide) rfl (fun ls hl => ?_)
              refine lv_aload hx hb d_RC_count_70 (lv_at hl 1 rfl) ?_
              refine va_get (D := (dC, dI)) (ci := 8) (v := .ref ka) (C := "RangeCoders$Model") (T := T_Model) (N := 3) hx hb hg in_Model hown hK hP 2 rfl rfl 0 (by decide) (hg _ k341) (fun _ h9 => h9) rfl d_RC_count_72 ?_
              refine lv_iload_n hx hb d_RC_count_75 rfl (lv_at hl 4 rfl) ?_
              refine lv_iload_n hx hb d_RC_count_76 rfl (lv_at hl 5 rfl) ?_
              refine va_iast hx hb hK hP hD hS 3 0 rfl rfl (vp_in_nI ht (by omega)) d_RC_count_77 (fun H locs hP hD hS => ?_)
              have hPD : my_PD (dC, dI) vwCl A [(rc, Sum.inr (6, [Value.ref co, Value.ref ma, Value.int (nI k), Value.int fit, Value.int fen, Value.int frd, Value.int fbd, Value.int fir])), (ma, Sum.inl (cM, 8, Sum.inr (Sum.inr (Sum.inr (Sum.inr mf))))), (mo, Sum.inr (8, [Value.ref ka, Value.ref oo, Value.ref o2])), (ka, Sum.inl (cI, kl, Sum.inl (upd kf (nI t).toNatClampNeg (nI c9))))] H := ⟨hP, hD⟩
              have hP := hPD.1
              have hD := hPD.2
              refine lv_aload_n hx hb d_RC_count_78 rfl (lv_at hl 2 rfl) ?_
              refine va_get (D := (dC, dI)) (ci := 6) (v := .int fen) (C := "RangeCoders") (T := T_RC) (N := 8) hx hb hg in_RC hown hK hP 0 rfl rfl 4 (by decide) (hg _ k262) (fun _ h9 => h9) rfl d_RC_count_79 ?_
              refine lv_if_ne (tgt := 102) hx hb d_RC_count_82 (by decide) (fun c_11 => ?_) (fun c_11 => ?_)
              · refine lv_iload hx hb d_RC_count_102 (lv_at hl 0 rfl) ?_
                exact my_iret (v := v_10) hx hb hr (rfl) hlocks hQ hK hS (Nat.le_refl _) (Nat.le_refl _) (upd kf (nI t).toNatClampNeg (nI c9)) (⟨by rw [ev_10, nI_clamp (by omega)], by rw [nI_clamp (by omega)]⟩) (hP.sub [0, 1, 2, 3] rfl) (hD.sub [0, 1, 2, 3] (by decide +kernel) rfl) d_RC_count_104
              · exact absurd c_11 hen
            · exact absurd hrd c_9
      · exact absurd (nI_le (b := 4095) hc (by decide)) c_3
  · exact absurd (has_in ht (by omega)) (one_eq hr_15 c_1)
set_option maxHeartbeats 2000000 in
set_option maxRecDepth 100000 in
theorem f_RC_putE (l : Launch) (dC : Nat → ClassId) (dI : Nat → Nat → Nat) (cI cM cO : ClassId) (sz : Nat) (rc : Nat) (ma : Nat) (k : Nat) (fit : Int32) (fen : Int32) (frd : Int32) (fbd : Int32) (fir : Int32) (mf : Nat → Option Nat) (co : Nat) (j : Nat) (mo : Nat) (o2 : Nat) (oo : Nat) (ka : Nat) (kl : Nat) (kf : Nat → Int32) (t : Nat) (hk8 : k ≤ 8) (hj : j < k) (hmf : mf j = some mo) (hkl : kl ≤ 64) (ht : t < kl) (hen : ¬ fen = 0) : MetI l y_RC_put (Cond.code y_RC_put prog_1_method_4_code 4 (some .int) :: gw) ({ frames := 1, cells := 0, slots := 0, locals := 21 } : Room) (dC, dI) vwCl (kT cI cM cO) [Value.ref rc, Value.int (nI j), Value.int (nI t)] [(rc, Sum.inr (6, [Value.ref co, Value.ref ma, Value.int (nI k), Value.int fit, Value.int fen, Value.int frd, Value.int fbd, Value.int fir])), (ma, Sum.inl (cM, 8, Sum.inr (Sum.inr (Sum.inr (Sum.inr mf))))), (mo, Sum.inr (8, [Value.ref ka, Value.ref oo, Value.ref o2])), (ka, Sum.inl (cI, kl, Sum.inl kf))] sz (fun (r : Int32) (u : Unit) => r = -3) (fun (u : Unit) => [(rc, Sum.inr (6, [Value.ref co, Value.ref ma, Value.int (nI k), Value.int fit, Value.int fen, Value.int frd, Value.int fbd, Value.int fir])), (ma, Sum.inl (cM, 8, Sum.inr (Sum.inr (Sum.inr (Sum.inr mf))))), (mo, Sum.inr (8, [Value.ref ka, Value.ref oo, Value.ref o2])), (ka, Sum.inl (cI, kl, Sum.inl kf))]) 0 0 := by
  refine my_ofI (cc := prog_1_method_4_code) (n := 4) (ret := (some .int)) (by decide) rfl (Nat.le_of_ble_eq_true rfl) ?_
  intro p e s m args below meth c R Q A ls H locs hx hb hr hts hown hlocks hml hnm hR hQ hA hl hP hK hN hD hS
  have hg : ∀ w ∈ gw, w.before args s = true := fun w h => hts w (List.mem_cons_of_mem _ h)
  have hown : s.vm.findClass "RangeCoders" = some m.cls := hown
  have hl : lv_has ls 4 [(0, Value.ref rc), (1, Value.int (nI j)), (2, Value.int (nI t))] := hl
  refine lv_aload_n hx hb d_RC_put_0 rfl (lv_at hl 0 rfl) ?_
  refine lv_iload_n hx hb d_RC_put_1 rfl (lv_at hl 1 rfl) ?_
  refine my_cq (wr := [(mo, Sum.inr (8, [Value.ref ka, Value.ref oo, Value.ref o2])), (ka, Sum.inl (cI, kl, Sum.inl kf))]) (va_runV (As := [Value.int (nI j)]) (rest := []) ⟨hx, hb, hml, hown, hts⟩ (c_RC_modelAtB l dC dI cI cM cO H.size rc ma k fit fen frd fbd fir mf co j mo (by first | assumption | omega) (by first | assumption | omega) (by first | assumption | omega)) (cwV 1 hts (my_gV k412 k414 ks3 k1 k415) rfl rfl rfl cu_RC_modelAt_1 ⟨by rw [hR]; exact Nat.le_of_ble_eq_true rfl, by rw [hR]; exact Nat.le_of_ble_eq_true rfl⟩) (my_preV hK hN (hP.sub [0, 1] rfl) (hD.sub [0, 1] (by decide +kernel) rfl) 0 rfl rfl) rfl rfl hl.1 rfl (lv_room (Nat.le_of_ble_eq_true rfl)) d_RC_put_2 ⟨by rw [hR]; exact Nat.le_of_ble_eq_true rfl, by rw [hR]; exact Nat.le_of_ble_eq_true rfl⟩) hP hD hS hA [0, 1] [2, 3] rfl rfl (by decide +kernel) (by decide +kernel) (fun r_2 u9 H locs hw_2 hP hD hS => ?_)
  have hr_2 : r_2 = some mo := hw_2
  have hPD : my_PD (dC, dI) vwCl A [(mo, Sum.inr (8, [Value.ref ka, Value.ref oo, Value.ref o2])), (ka, Sum.inl (cI, kl, Sum.inl kf)), (rc, Sum.inr (6, [Value.ref co, Value.ref ma, Value.int (nI k), Value.int fit, Value.int fen, Value.int frd, Value.int fbd, Value.int fir])), (ma, Sum.inl (cM, 8, Sum.inr (Sum.inr (Sum.inr (Sum.inr mf)))))] H := ⟨hP, hD⟩
  have hP := hPD.1
  have hD := hPD.2
  subst hr_2
  refine W.eq (g2 := F0 m 5 ls [Value.ref mo]) rfl ?_
  refine lv_astore_n (lv' := [(3, Value.ref mo), (0, Value.ref rc), (1, Value.int (nI j)), (2, Value.int (nI t))]) hx hb d_RC_put_5 rfl hl (by decide) rfl (fun ls hl => ?_)
  refine lv_aload_n hx hb d_RC_put_6 rfl (lv_at hl 0 rfl) ?_
  refine lv_ifnull hx hb d_RC_put_7 ?_
  refine lv_aload_n hx hb d_RC_put_10 rfl (lv_at hl 0 rfl) ?_
  refine lv_iload_n hx hb d_RC_put_11 rfl (lv_at hl 3 rfl) ?_
  refine my_ci (wr := [(rc, Sum.inr (6, [Value.ref co, Value.ref ma, Value.int (nI k), Value.int fit, Value.int fen, Value.int frd, Value.int fbd, Value.int fir])), (ma, Sum.inl (cM, 8, Sum.inr (Sum.inr (Sum.inr (Sum.inr mf)))))]) (va_runV (As := [Value.int (nI t)]) (rest := []) ⟨hx, hb, hml, hown, hts⟩ (f_Model_hasSign l dC dI cI cM cO H.size mo ka oo o2 kl kf (nI t) (by first | assumption | omega)) (cwV 1 hts (my_gV k416 k417 k418 k13 k419) rfl rfl rfl cu_Model_hasSign_1 ⟨by rw [hR]; exact Nat.le_of_ble_eq_true rfl, by rw [hR]; exact Nat.le_of_ble_eq_true rfl⟩) (my_preV hK hN (hP.sub [0, 1] rfl) (hD.sub [0, 1] (by decide +kernel) rfl) 0 rfl rfl) rfl rfl hl.1 rfl (lv_room (Nat.le_of_ble_eq_true rfl)) d_RC_put_12 ⟨by rw [hR]; exact Nat.le_of_ble_eq_true rfl, by rw [hR]; exact Nat.le_of_ble_eq_true rfl⟩) hP hD hS hA [0, 1] [2, 3] rfl rfl (by decide +kernel) (by decide +kernel) (fun r_12 u9 H locs hw_12 hP hD hS => ?_)
  have hr_12 : r_12 = if 0 ≤ (nI t) ∧ (nI t) < nI kl then 1 else 0 := hw_12
  have hPD : my_PD (dC, dI) vwCl A [(rc, Sum.inr (6, [Value.ref co, Value.ref ma, Value.int (nI k), Value.int fit, Value.int fen, Value.int frd, Value.int fbd, Value.int fir])), (ma, Sum.inl (cM, 8, Sum.inr (Sum.inr (Sum.inr (Sum.inr mf))))), (mo, Sum.inr (8, [Value.ref ka, Value.ref oo, Value.ref o2])), (ka, Sum.inl (cI, kl, Sum.inl kf))] H := ⟨hP, hD⟩
  have hP := hPD.1
  have hD := hPD.2
  refine lv_if_ne (tgt := 20) hx hb d_RC_put_15 (by decide) (fun c_1 => ?_) (fun c_1 => ?_)
  · refine lv_aload_n hx hb d_RC_put_20 rfl (lv_at hl 1 rfl) ?_
    refine va_get (D := (dC, dI)) (ci := 6) (v := .int fen) (C := "RangeCoders") (T := T_RC) (N := 8) hx hb hg in_RC hown hK hP 0 rfl rfl 4 (by decide) (hg _ k262) (fun _ h9 => h9) rfl d_RC_put_21 ?_
    refine lv_if_ne (tgt := 42) hx hb d_RC_put_24 (by decide) (fun c_2 => ?_) (fun c_2 => ?_)
    · refine lv_bipush (v := (-3)) hx hb d_RC_put_42 (by decide) ?_
      exact my_iret (v := (-3)) hx hb hr (rfl) hlocks hQ hK hS (Nat.le_refl _) (Nat.le_refl _) () (rfl) (hP.sub [0, 1, 2, 3] rfl) (hD.sub [0, 1, 2, 3] (by decide +kernel) rfl) d_RC_put_44
    · exact absurd c_2 hen
  · exact absurd (has_in ht (by omega)) (one_eq hr_12 c_1)
set_option maxHeartbeats 2000000 in
set_option maxRecDepth 100000 in
theorem f_RC_endA (l : Launch) (dC : Nat → ClassId) (dI : Nat → Nat → Nat) (cI cM cO : ClassId) (sz : Nat) (rc : Nat) (ma : Nat) (k : Nat) (fit : Int32) (fen : Int32) (frd : Int32) (fbd : Int32) (fir : Int32) (mf : Nat → Option Nat) (co : Nat) (hen : ¬ fen = 0) : MetI l y_RC_end (Cond.code y_RC_end prog_1_method_6_code 1 (some .int) :: gw) ({ frames := 0, cells := 0, slots := 0, locals := 0 } : Room) (dC, dI) vwCl (kT cI cM cO) [Value.ref rc] [(rc, Sum.inr (6, [Value.ref co, Value.ref ma, Value.int (nI k), Value.int fit, Value.int fen, Value.int frd, Value.int fbd, Value.int fir]))] sz (fun (r : Int32) (u : Unit) => r = -3) (fun (u : Unit) => [(rc, Sum.inr (6, [Value.ref co, Value.ref ma, Value.int (nI k), Value.int fit, Value.int fen, Value.int frd, Value.int fbd, Value.int fir]))]) 0 0 := by
  refine my_ofI (cc := prog_1_method_6_code) (n := 1) (ret := (some .int)) (by decide) rfl (Nat.le_of_ble_eq_true rfl) ?_
  intro p e s m args below meth c R Q A ls H locs hx hb hr hts hown hlocks hml hnm hR hQ hA hl hP hK hN hD hS
  have hg : ∀ w ∈ gw, w.before args s = true := fun w h => hts w (List.mem_cons_of_mem _ h)
  have hown : s.vm.findClass "RangeCoders" = some m.cls := hown
  have hl : lv_has ls 1 [(0, Value.ref rc)] := hl
  refine lv_aload_n hx hb d_RC_end_0 rfl (lv_at hl 0 rfl) ?_
  refine va_get (D := (dC, dI)) (ci := 6) (v := .int fen) (C := "RangeCoders") (T := T_RC) (N := 8) hx hb hg in_RC hown hK hP 0 rfl rfl 4 (by decide) (hg _ k262) (fun _ h9 => h9) rfl d_RC_end_1 ?_
  refine lv_if_eq (tgt := 10) hx hb d_RC_end_4 (by decide) (fun c_1 => ?_) (fun c_1 => ?_)
  · exact absurd c_1 hen
  · refine lv_bipush (v := (-3)) hx hb d_RC_end_7 (by decide) ?_
    exact my_iret (v := (-3)) hx hb hr (rfl) hlocks hQ hK hS (Nat.le_refl _) (Nat.le_refl _) () (rfl) (hP.sub [0] rfl) (hD.sub [0] (by decide +kernel) rfl) d_RC_end_9
set_option maxHeartbeats 2000000 in
set_option maxRecDepth 100000 in
theorem f_Odds_hasNo (l : Launch) (dC : Nat → ClassId) (dI : Nat → Nat → Nat) (cI cM cO : ClassId) (sz : Nat) (oo : Nat) (osg : Int32) (ofc : Int32) (oca : Nat) (opa : Nat) (n : Nat) (ocf : Nat → Int32) (opl : Nat) (opf : Nat → Int32) (osm : Int32) (ii : Int32) (hn : n ≤ 64) (hpl : opl ≤ 512) (hno : ii < ofc ∨ ii < 0 ∨ nI n ≤ ii) : MetI l y_Odds_hasCell (Cond.code y_Odds_hasCell prog_7_method_2_code 2 (some .boolean) :: gw) ({ frames := 0, cells := 0, slots := 0, locals := 0 } : Room) (dC, dI) vwCl (kT cI cM cO) [Value.ref oo, Value.int ii] [(oo, Sum.inr (7, [Value.int osg, Value.int osm, Value.int ofc, Value.ref oca, Value.ref opa])), (oca, Sum.inl (cI, n, Sum.inl ocf)), (opa, Sum.inl (cI, opl, Sum.inl opf))] sz (fun (r : Int32) (u : Unit) => r = 0) (fun (u : Unit) => [(oo, Sum.inr (7, [Value.int osg, Value.int osm, Value.int ofc, Value.ref oca, Value.ref opa])), (oca, Sum.inl (cI, n, Sum.inl ocf)), (opa, Sum.inl (cI, opl, Sum.inl opf))]) 0 0 := by
  refine my_ofI (cc := prog_7_method_2_code) (n := 2) (ret := (some .boolean)) (by decide) rfl (Nat.le_of_ble_eq_true rfl) ?_
  intro p e s m args below meth c R Q A ls H locs hx hb hr hts hown hlocks hml hnm hR hQ hA hl hP hK hN hD hS
  have hg : ∀ w ∈ gw, w.before args s = true := fun w h => hts w (List.mem_cons_of_mem _ h)
  have hown : s.vm.findClass "RangeCoders$Odds" = some m.cls := hown
  have hl : lv_has ls 2 [(0, Value.ref oo), (1, Value.int ii)] := hl
  refine lv_iload_n hx hb d_Odds_hasCell_0 rfl (lv_at hl 1 rfl) ?_
  refine lv_aload_n hx hb d_Odds_hasCell_1 rfl (lv_at hl 0 rfl) ?_
  refine va_get (D := (dC, dI)) (ci := 7) (v := .int ofc) (C := "RangeCoders$Odds") (T := T_Odds) (N := 5) hx hb hg in_Odds hown hK hP 0 rfl rfl 2 (by decide) (hg _ k308) (fun _ h9 => h9) rfl d_Odds_hasCell_2 ?_
  refine lv_icmp_lt (tgt := 25) hx hb d_Odds_hasCell_5 (by decide) (fun c_1 => ?_) (fun c_1 => ?_)
  · refine lv_iconst (v := 0) hx hb d_Odds_hasCell_25 (by decide) ?_
    exact my_iret (v := 0) hx hb hr (rfl) hlocks hQ hK hS (Nat.le_refl _) (Nat.le_refl _) () (rfl) (hP.sub [0, 1, 2] rfl) (hD.sub [0, 1, 2] (by decide +kernel) rfl) d_Odds_hasCell_26
  · refine lv_iload_n hx hb d_Odds_hasCell_8 rfl (lv_at hl 1 rfl) ?_
    refine lv_if_lt (tgt := 25) hx hb d_Odds_hasCell_9 (by decide) (fun c_2 => ?_) (fun c_2 => ?_)
    · refine lv_iconst (v := 0) hx hb d_Odds_hasCell_25 (by decide) ?_
      exact my_iret (v := 0) hx hb hr (rfl) hlocks hQ hK hS (Nat.le_refl _) (Nat.le_refl _) () (rfl) (hP.sub [0, 1, 2] rfl) (hD.sub [0, 1, 2] (by decide +kernel) rfl) d_Odds_hasCell_26
    · refine lv_iload_n hx hb d_Odds_hasCell_12 rfl (lv_at hl 1 rfl) ?_
      refine lv_aload_n hx hb d_Odds_hasCell_13 rfl (lv_at hl 0 rfl) ?_
      refine va_get (D := (dC, dI)) (ci := 7) (v := .ref oca) (C := "RangeCoders$Odds") (T := T_Odds) (N := 5) hx hb hg in_Odds hown hK hP 0 rfl rfl 3 (by decide) (hg _ k309) (fun _ h9 => h9) rfl d_Odds_hasCell_14 ?_
      refine va_alen hx hb hK hP 1 0 rfl rfl (v := nI n) rfl d_Odds_hasCell_17 ?_
      refine lv_icmp_ge (tgt := 25) hx hb d_Odds_hasCell_18 (by decide) (fun c_3 => ?_) (fun c_3 => ?_)
      · refine lv_iconst (v := 0) hx hb d_Odds_hasCell_25 (by decide) ?_
        exact my_iret (v := 0) hx hb hr (rfl) hlocks hQ hK hS (Nat.le_refl _) (Nat.le_refl _) () (rfl) (hP.sub [0, 1, 2] rfl) (hD.sub [0, 1, 2] (by decide +kernel) rfl) d_Odds_hasCell_26
      · exact absurd hno (fun h9 => h9.elim c_1 (fun h8 => h8.elim c_2 c_3))
set_option maxHeartbeats 2000000 in
set_option maxRecDepth 100000 in
theorem f_RC_chanceS (l : Launch) (dC : Nat → ClassId) (dI : Nat → Nat → Nat) (cI cM cO : ClassId) (sz : Nat) (rc : Nat) (ma : Nat) (k : Nat) (fit : Int32) (fen : Int32) (frd : Int32) (fbd : Int32) (fir : Int32) (mf : Nat → Option Nat) (co : Nat) (j : Nat) (mo : Nat) (o2 : Nat) (ka : Nat) (kl : Nat) (kf : Nat → Int32) (oo : Nat) (osg : Int32) (ofc : Int32) (oca : Nat) (opa : Nat) (n : Nat) (ocf : Nat → Int32) (opl : Nat) (opf : Nat → Int32) (osm : Int32) (ss : Int32) (hk8 : k ≤ 8) (hj : j < k) (hmf : mf j = some mo) (hkl : kl ≤ 64) (hn : n ≤ 64) (hpl : opl ≤ 512) (hno : ss < ofc ∨ ss < 0 ∨ nI n ≤ ss) : MetI l y_RC_chance (Cond.code y_RC_chance prog_1_method_17_code 4 (some .int) :: gw) ({ frames := 1, cells := 0, slots := 0, locals := 21 } : Room) (dC, dI) vwCl (kT cI cM cO) [Value.ref rc, Value.int (nI j), Value.int ss] [(rc, Sum.inr (6, [Value.ref co, Value.ref ma, Value.int (nI k), Value.int fit, Value.int fen, Value.int frd, Value.int fbd, Value.int fir])), (ma, Sum.inl (cM, 8, Sum.inr (Sum.inr (Sum.inr (Sum.inr mf))))), (mo, Sum.inr (8, [Value.ref ka, Value.ref oo, Value.ref o2])), (ka, Sum.inl (cI, kl, Sum.inl kf)), (oo, Sum.inr (7, [Value.int osg, Value.int osm, Value.int ofc, Value.ref oca, Value.ref opa])), (oca, Sum.inl (cI, n, Sum.inl ocf)), (opa, Sum.inl (cI, opl, Sum.inl opf))] sz (fun (r : Int32) (u : Unit) => r = -1) (fun (u : Unit) => [(rc, Sum.inr (6, [Value.ref co, Value.ref ma, Value.int (nI k), Value.int fit, Value.int fen, Value.int frd, Value.int fbd, Value.int fir])), (ma, Sum.inl (cM, 8, Sum.inr (Sum.inr (Sum.inr (Sum.inr mf))))), (mo, Sum.inr (8, [Value.ref ka, Value.ref oo, Value.ref o2])), (ka, Sum.inl (cI, kl, Sum.inl kf)), (oo, Sum.inr (7, [Value.int osg, Value.int osm, Value.int ofc, Value.ref oca, Value.ref opa])), (oca, Sum.inl (cI, n, Sum.inl ocf)), (opa, Sum.inl (cI, opl, Sum.inl opf))]) 0 0 := by
  refine my_ofI (cc := prog_1_method_17_code) (n := 4) (ret := (some .int)) (by decide) rfl (Nat.le_of_ble_eq_true rfl) ?_
  intro p e s m args below meth c R Q A ls H locs hx hb hr hts hown hlocks hml hnm hR hQ hA hl hP hK hN hD hS
  have hg : ∀ w ∈ gw, w.before args s = true := fun w h => hts w (List.mem_cons_of_mem _ h)
  have hown : s.vm.findClass "RangeCoders" = some m.cls := hown
  have hl : lv_has ls 4 [(0, Value.ref rc), (1, Value.int (nI j)), (2, Value.int ss)] := hl
  refine lv_aload_n hx hb d_RC_chance_0 rfl (lv_at hl 0 rfl) ?_
  refine lv_iload_n hx hb d_RC_chance_1 rfl (lv_at hl 1 rfl) ?_
  refine my_cq (wr := [(mo, Sum.inr (8, [Value.ref ka, Value.ref oo, Value.ref o2])), (ka, Sum.inl (cI, kl, Sum.inl kf)), (oo, Sum.inr (7, [Value.int osg, Value.int osm, Value.int ofc, Value.ref oca, Value.ref opa])), (oca, Sum.inl (cI, n, Sum.inl ocf)), (opa, Sum.inl (cI, opl, Sum.inl opf))]) (va_runV (As := [Value.int (nI j)]) (rest := []) ⟨hx, hb, hml, hown, hts⟩ (c_RC_modelAtB l dC dI cI cM cO H.size rc ma k fit fen frd fbd fir mf co j mo (by first | assumption | omega) (by first | assumption | omega) (by first | assumption | omega)) (cwV 1 hts (my_gV k412 k414 ks3 k1 k415) rfl rfl rfl cu_RC_modelAt_1 ⟨by rw [hR]; exact Nat.le_of_ble_eq_true rfl, by rw [hR]; exact Nat.le_of_ble_eq_true rfl⟩) (my_preV hK hN (hP.sub [0, 1] rfl) (hD.sub [0, 1] (by decide +kernel) rfl) 0 rfl rfl) rfl rfl hl.1 rfl (lv_room (Nat.le_of_ble_eq_true rfl)) d_RC_chance_2 ⟨by rw [hR]; exact Nat.le_of_ble_eq_true rfl, by rw [hR]; exact Nat.le_of_ble_eq_true rfl⟩) hP hD hS hA [0, 1] [2, 3, 4, 5, 6] rfl rfl (by decide +kernel) (by decide +kernel) (fun r_2 u9 H locs hw_2 hP hD hS => ?_)
  have hr_2 : r_2 = some mo := hw_2
  have hPD : my_PD (dC, dI) vwCl A [(mo, Sum.inr (8, [Value.ref ka, Value.ref oo, Value.ref o2])), (ka, Sum.inl (cI, kl, Sum.inl kf)), (oo, Sum.inr (7, [Value.int osg, Value.int osm, Value.int ofc, Value.ref oca, Value.ref opa])), (oca, Sum.inl (cI, n, Sum.inl ocf)), (opa, Sum.inl (cI, opl, Sum.inl opf)), (rc, Sum.inr (6, [Value.ref co, Value.ref ma, Value.int (nI k), Value.int fit, Value.int fen, Value.int frd, Value.int fbd, Value.int fir])), (ma, Sum.inl (cM, 8, Sum.inr (Sum.inr (Sum.inr (Sum.inr mf)))))] H := ⟨hP, hD⟩
  have hP := hPD.1
  have hD := hPD.2
  subst hr_2
  refine W.eq (g2 := F0 m 5 ls [Value.ref mo]) rfl ?_
  refine lv_astore_n (lv' := [(3, Value.ref mo), (0, Value.ref rc), (1, Value.int (nI j)), (2, Value.int ss)]) hx hb d_RC_chance_5 rfl hl (by decide) rfl (fun ls hl => ?_)
  refine lv_aload_n hx hb d_RC_chance_6 rfl (lv_at hl 0 rfl) ?_
  refine lv_ifnull hx hb d_RC_chance_7 ?_
  refine lv_aload_n hx hb d_RC_chance_10 rfl (lv_at hl 0 rfl) ?_
  refine va_get (D := (dC, dI)) (ci := 8) (v := .ref oo) (C := "RangeCoders$Model") (T := T_Model) (N := 3) hx hb hg in_Model hown hK hP 0 rfl rfl 1 (by decide) (hg _ k343) (fun _ h9 => h9) rfl d_RC_chance_11 ?_
  refine lv_iload_n hx hb d_RC_chance_14 rfl (lv_at hl 3 rfl) ?_
  refine my_ci (wr := [(mo, Sum.inr (8, [Value.ref ka, Value.ref oo, Value.ref o2])), (ka, Sum.inl (cI, kl, Sum.inl kf)), (rc, Sum.inr (6, [Value.ref co, Value.ref ma, Value.int (nI k), Value.int fit, Value.int fen, Value.int frd, Value.int fbd, Value.int fir])), (ma, Sum.inl (cM, 8, Sum.inr (Sum.inr (Sum.inr (Sum.inr mf)))))]) (va_runV (As := [Value.int ss]) (rest := []) ⟨hx, hb, hml, hown, hts⟩ (f_Odds_hasNo l dC dI cI cM cO H.size oo osg ofc oca opa n ocf opl opf osm ss (by first | assumption | omega) (by first | assumption | omega) (by first | assumption | omega)) (cwV 1 hts (my_gV k912 k397 k398 k14 k399) rfl rfl rfl cu_Odds_hasCell_1 ⟨by rw [hR]; exact Nat.le_of_ble_eq_true rfl, by rw [hR]; exact Nat.le_of_ble_eq_true rfl⟩) (my_preV hK hN (hP.sub [2, 3, 4] rfl) (hD.sub [2, 3, 4] (by decide +kernel) rfl) 0 rfl rfl) rfl rfl hl.1 rfl (lv_room (Nat.le_of_ble_eq_true rfl)) d_RC_chance_15 ⟨by rw [hR]; exact Nat.le_of_ble_eq_true rfl, by rw [hR]; exact Nat.le_of_ble_eq_true rfl⟩) hP hD hS hA [2, 3, 4] [0, 1, 5, 6] rfl rfl (by decide +kernel) (by decide +kernel) (fun r_15 u9 H locs hw_15 hP hD hS => ?_)
  have hr_15 : r_15 = 0 := hw_15
  have hPD : my_PD (dC, dI) vwCl A [(mo, Sum.inr (8, [Value.ref ka, Value.ref oo, Value.ref o2])), (ka, Sum.inl (cI, kl, Sum.inl kf)), (rc, Sum.inr (6, [Value.ref co, Value.ref ma, Value.int (nI k), Value.int fit, Value.int fen, Value.int frd, Value.int fbd, Value.int fir])), (ma, Sum.inl (cM, 8, Sum.inr (Sum.inr (Sum.inr (Sum.inr mf))))), (oo, Sum.inr (7, [Value.int osg, Value.int osm, Value.int ofc, Value.ref oca, Value.ref opa])), (oca, Sum.inl (cI, n, Sum.inl ocf)), (opa, Sum.inl (cI, opl, Sum.inl opf))] H := ⟨hP, hD⟩
  have hP := hPD.1
  have hD := hPD.2
  refine lv_if_ne (tgt := 23) hx hb d_RC_chance_18 (by decide) (fun c_1 => ?_) (fun c_1 => ?_)
  · exact absurd hr_15 c_1
  · refine lv_iconst (v := (-1)) hx hb d_RC_chance_21 (by decide) ?_
    exact my_iret (v := (-1)) hx hb hr (rfl) hlocks hQ hK hS (Nat.le_refl _) (Nat.le_refl _) () (rfl) (hP.sub [2, 3, 0, 1, 4, 5, 6] rfl) (hD.sub [2, 3, 0, 1, 4, 5, 6] (by decide +kernel) rfl) d_RC_chance_22
set_option maxHeartbeats 2000000 in
set_option maxRecDepth 100000 in
theorem f_RC_chanceL (l : Launch) (dC : Nat → ClassId) (dI : Nat → Nat → Nat) (cI cM cO : ClassId) (sz : Nat) (rc : Nat) (ma : Nat) (k : Nat) (fit : Int32) (fen : Int32) (frd : Int32) (fbd : Int32) (fir : Int32) (mf : Nat → Option Nat) (co : Nat) (j : Nat) (mo : Nat) (o2 : Nat) (ka : Nat) (kl : Nat) (kf : Nat → Int32) (oo : Nat) (osg : Int32) (ofc : Int32) (oca : Nat) (opa : Nat) (n : Nat) (ocf : Nat → Int32) (opl : Nat) (opf : Nat → Int32) (osm : Int32) (t : Nat) (hk8 : k ≤ 8) (hj : j < k) (hmf : mf j = some mo) (hkl : kl ≤ 64) (hn : n ≤ 64) (hpl : opl ≤ 512) (ht : t < n) (hfc : ofc ≤ nI t) : MetI l y_RC_chance (Cond.code y_RC_chance prog_1_method_17_code 4 (some .int) :: gw) ({ frames := 2, cells := 0, slots := 0, locals := 42 } : Room) (dC, dI) vwCl (kT cI cM cO) [Value.ref rc, Value.int (nI j), Value.int (nI t)] [(rc, Sum.inr (6, [Value.ref co, Value.ref ma, Value.int (nI k), Value.int fit, Value.int fen, Value.int frd, Value.int fbd, Value.int fir])), (ma, Sum.inl (cM, 8, Sum.inr (Sum.inr (Sum.inr (Sum.inr mf))))), (mo, Sum.inr (8, [Value.ref ka, Value.ref oo, Value.ref o2])), (ka, Sum.inl (cI, kl, Sum.inl kf)), (oo, Sum.inr (7, [Value.int osg, Value.int osm, Value.int ofc, Value.ref oca, Value.ref opa])), (oca, Sum.inl (cI, n, Sum.inl ocf)), (opa, Sum.inl (cI, opl, Sum.inl opf))] sz (fun (r : Int32) (u : Unit) => r = ocf t) (fun (u : Unit) => [(rc, Sum.inr (6, [Value.ref co, Value.ref ma, Value.int (nI k), Value.int fit, Value.int fen, Value.int frd, Value.int fbd, Value.int fir])), (ma, Sum.inl (cM, 8, Sum.inr (Sum.inr (Sum.inr (Sum.inr mf))))), (mo, Sum.inr (8, [Value.ref ka, Value.ref oo, Value.ref o2])), (ka, Sum.inl (cI, kl, Sum.inl kf)), (oo, Sum.inr (7, [Value.int osg, Value.int osm, Value.int ofc, Value.ref oca, Value.ref opa])), (oca, Sum.inl (cI, n, Sum.inl ocf)), (opa, Sum.inl (cI, opl, Sum.inl opf))]) 0 0 := by
  refine my_ofI (cc := prog_1_method_17_code) (n := 4) (ret := (some .int)) (by decide) rfl (Nat.le_of_ble_eq_true rfl) ?_
  intro p e s m args below meth c R Q A ls H locs hx hb hr hts hown hlocks hml hnm hR hQ hA hl hP hK hN hD hS
  have hg : ∀ w ∈ gw, w.before args s = true := fun w h => hts w (List.mem_cons_of_mem _ h)
  have hown : s.vm.findClass "RangeCoders" = some m.cls := hown
  have hl : lv_has ls 4 [(0, Value.ref rc), (1, Value.int (nI j)), (2, Value.int (nI t))] := hl
  refine lv_aload_n hx hb d_RC_chance_0 rfl (lv_at hl 0 rfl) ?_
  refine lv_iload_n hx hb d_RC_chance_1 rfl (lv_at hl 1 rfl) ?_
  refine my_cq (wr := [(mo, Sum.inr (8, [Value.ref ka, Value.ref oo, Value.ref o2])), (ka, Sum.inl (cI, kl, Sum.inl kf)), (oo, Sum.inr (7, [Value.int osg, Value.int osm, Value.int ofc, Value.ref oca, Value.ref opa])), (oca, Sum.inl (cI, n, Sum.inl ocf)), (opa, Sum.inl (cI, opl, Sum.inl opf))]) (va_runV (As := [Value.int (nI j)]) (rest := []) ⟨hx, hb, hml, hown, hts⟩ (c_RC_modelAtB l dC dI cI cM cO H.size rc ma k fit fen frd fbd fir mf co j mo (by first | assumption | omega) (by first | assumption | omega) (by first | assumption | omega)) (cwV 1 hts (my_gV k412 k414 ks3 k1 k415) rfl rfl rfl cu_RC_modelAt_1 ⟨by rw [hR]; exact Nat.le_of_ble_eq_true rfl, by rw [hR]; exact Nat.le_of_ble_eq_true rfl⟩) (my_preV hK hN (hP.sub [0, 1] rfl) (hD.sub [0, 1] (by decide +kernel) rfl) 0 rfl rfl) rfl rfl hl.1 rfl (lv_room (Nat.le_of_ble_eq_true rfl)) d_RC_chance_2 ⟨by rw [hR]; exact Nat.le_of_ble_eq_true rfl, by rw [hR]; exact Nat.le_of_ble_eq_true rfl⟩) hP hD hS hA [0, 1] [2, 3, 4, 5, 6] rfl rfl (by decide +kernel) (by decide +kernel) (fun r_2 u9 H locs hw_2 hP hD hS => ?_)
  have hr_2 : r_2 = some mo := hw_2
  have hPD : my_PD (dC, dI) vwCl A [(mo, Sum.inr (8, [Value.ref ka, Value.ref oo, Value.ref o2])), (ka, Sum.inl (cI, kl, Sum.inl kf)), (oo, Sum.inr (7, [Value.int osg, Value.int osm, Value.int ofc, Value.ref oca, Value.ref opa])), (oca, Sum.inl (cI, n, Sum.inl ocf)), (opa, Sum.inl (cI, opl, Sum.inl opf)), (rc, Sum.inr (6, [Value.ref co, Value.ref ma, Value.int (nI k), Value.int fit, Value.int fen, Value.int frd, Value.int fbd, Value.int fir])), (ma, Sum.inl (cM, 8, Sum.inr (Sum.inr (Sum.inr (Sum.inr mf)))))] H := ⟨hP, hD⟩
  have hP := hPD.1
  have hD := hPD.2
  subst hr_2
  refine W.eq (g2 := F0 m 5 ls [Value.ref mo]) rfl ?_
  refine lv_astore_n (lv' := [(3, Value.ref mo), (0, Value.ref rc), (1, Value.int (nI j)), (2, Value.int (nI t))]) hx hb d_RC_chance_5 rfl hl (by decide) rfl (fun ls hl => ?_)
  refine lv_aload_n hx hb d_RC_chance_6 rfl (lv_at hl 0 rfl) ?_
  refine lv_ifnull hx hb d_RC_chance_7 ?_
  refine lv_aload_n hx hb d_RC_chance_10 rfl (lv_at hl 0 rfl) ?_
  refine va_get (D := (dC, dI)) (ci := 8) (v := .ref oo) (C := "RangeCoders$Model") (T := T_Model) (N := 3) hx hb hg in_Model hown hK hP 0 rfl rfl 1 (by decide) (hg _ k343) (fun _ h9 => h9) rfl d_RC_chance_11 ?_
  refine lv_iload_n hx hb d_RC_chance_14 rfl (lv_at hl 3 rfl) ?_
  refine my_ci (wr := [(mo, Sum.inr (8, [Value.ref ka, Value.ref oo, Value.ref o2])), (ka, Sum.inl (cI, kl, Sum.inl kf)), (rc, Sum.inr (6, [Value.ref co, Value.ref ma, Value.int (nI k), Value.int fit, Value.int fen, Value.int frd, Value.int fbd, Value.int fir])), (ma, Sum.inl (cM, 8, Sum.inr (Sum.inr (Sum.inr (Sum.inr mf)))))]) (va_runV (As := [Value.int (nI t)]) (rest := []) ⟨hx, hb, hml, hown, hts⟩ (f_Odds_hasCell l dC dI cI cM cO H.size oo osg ofc oca opa n ocf opl opf osm t (by first | assumption | omega) (by first | assumption | omega) (by first | assumption | omega) (by first | assumption | omega)) (cwV 1 hts (my_gV k912 k397 k398 k14 k399) rfl rfl rfl cu_Odds_hasCell_1 ⟨by rw [hR]; exact Nat.le_of_ble_eq_true rfl, by rw [hR]; exact Nat.le_of_ble_eq_true rfl⟩) (my_preV hK hN (hP.sub [2, 3, 4] rfl) (hD.sub [2, 3, 4] (by decide +kernel) rfl) 0 rfl rfl) rfl rfl hl.1 rfl (lv_room (Nat.le_of_ble_eq_true rfl)) d_RC_chance_15 ⟨by rw [hR]; exact Nat.le_of_ble_eq_true rfl, by rw [hR]; exact Nat.le_of_ble_eq_true rfl⟩) hP hD hS hA [2, 3, 4] [0, 1, 5, 6] rfl rfl (by decide +kernel) (by decide +kernel) (fun r_15 u9 H locs hw_15 hP hD hS => ?_)
  have hr_15 : r_15 = 1 := hw_15
  have hPD : my_PD (dC, dI) vwCl A [(mo, Sum.inr (8, [Value.ref ka, Value.ref oo, Value.ref o2])), (ka, Sum.inl (cI, kl, Sum.inl kf)), (rc, Sum.inr (6, [Value.ref co, Value.ref ma, Value.int (nI k), Value.int fit, Value.int fen, Value.int frd, Value.int fbd, Value.int fir])), (ma, Sum.inl (cM, 8, Sum.inr (Sum.inr (Sum.inr (Sum.inr mf))))), (oo, Sum.inr (7, [Value.int osg, Value.int osm, Value.int ofc, Value.ref oca, Value.ref opa])), (oca, Sum.inl (cI, n, Sum.inl ocf)), (opa, Sum.inl (cI, opl, Sum.inl opf))] H := ⟨hP, hD⟩
  have hP := hPD.1
  have hD := hPD.2
  refine lv_if_ne (tgt := 23) hx hb d_RC_chance_18 (by decide) (fun c_1 => ?_) (fun c_1 => ?_)
  · refine lv_aload_n hx hb d_RC_chance_23 rfl (lv_at hl 0 rfl) ?_
    refine va_get (D := (dC, dI)) (ci := 8) (v := .ref oo) (C := "RangeCoders$Model") (T := T_Model) (N := 3) hx hb hg in_Model hown hK hP 0 rfl rfl 1 (by decide) (hg _ k343) (fun _ h9 => h9) rfl d_RC_chance_24 ?_
    refine lv_iload_n hx hb d_RC_chance_27 rfl (lv_at hl 3 rfl) ?_
    refine my_ci (wr := [(mo, Sum.inr (8, [Value.ref ka, Value.ref oo, Value.ref o2])), (ka, Sum.inl (cI, kl, Sum.inl kf)), (rc, Sum.inr (6, [Value.ref co, Value.ref ma, Value.int (nI k), Value.int fit, Value.int fen, Value.int frd, Value.int fbd, Value.int fir])), (ma, Sum.inl (cM, 8, Sum.inr (Sum.inr (Sum.inr (Sum.inr mf)))))]) (va_runV (As := [Value.int (nI t)]) (rest := []) ⟨hx, hb, hml, hown, hts⟩ (f_Odds_at l dC dI cI cM cO H.size oo osg ofc oca opa n ocf opl opf osm t (by first | assumption | omega) (by first | assumption | omega) (by first | assumption | omega) (by first | assumption | omega)) (cwV 1 hts (my_gV k913 k436 k437 k14 k438) rfl rfl rfl cu_Odds_at_1 ⟨by rw [hR]; exact Nat.le_of_ble_eq_true rfl, by rw [hR]; exact Nat.le_of_ble_eq_true rfl⟩) (my_preV hK hN (hP.sub [4, 5, 6] rfl) (hD.sub [4, 5, 6] (by decide +kernel) rfl) 0 rfl rfl) rfl rfl hl.1 rfl (lv_room (Nat.le_of_ble_eq_true rfl)) d_RC_chance_28 ⟨by rw [hR]; exact Nat.le_of_ble_eq_true rfl, by rw [hR]; exact Nat.le_of_ble_eq_true rfl⟩) hP hD hS hA [4, 5, 6] [0, 1, 2, 3] rfl rfl (by decide +kernel) (by decide +kernel) (fun r_28 u9 H locs hw_28 hP hD hS => ?_)
    have hr_28 : r_28 = ocf t := hw_28
    have hPD : my_PD (dC, dI) vwCl A [(mo, Sum.inr (8, [Value.ref ka, Value.ref oo, Value.ref o2])), (ka, Sum.inl (cI, kl, Sum.inl kf)), (rc, Sum.inr (6, [Value.ref co, Value.ref ma, Value.int (nI k), Value.int fit, Value.int fen, Value.int frd, Value.int fbd, Value.int fir])), (ma, Sum.inl (cM, 8, Sum.inr (Sum.inr (Sum.inr (Sum.inr mf))))), (oo, Sum.inr (7, [Value.int osg, Value.int osm, Value.int ofc, Value.ref oca, Value.ref opa])), (oca, Sum.inl (cI, n, Sum.inl ocf)), (opa, Sum.inl (cI, opl, Sum.inl opf))] H := ⟨hP, hD⟩
    have hP := hPD.1
    have hD := hPD.2
    exact my_iret (v := r_28) hx hb hr (rfl) hlocks hQ hK hS (Nat.le_refl _) (Nat.le_refl _) () (hr_28) (hP.sub [2, 3, 0, 1, 4, 5, 6] rfl) (hD.sub [2, 3, 0, 1, 4, 5, 6] (by decide +kernel) rfl) d_RC_chance_31
  · exact absurd (hr_15.symm.trans c_1) (by decide)
end
section
set_option maxHeartbeats 2000000 in
set_option maxRecDepth 100000 in
theorem f_Bits_hasWidth (l : Launch) (dC : Nat → ClassId) (dI : Nat → Nat → Nat) (cI cM cO : ClassId) (sz : Nat) (co : Nat) (xshift : Int32) (xkeptCode : Int64) (xkeptRange : Int64) (xkeptAsked : Int32) (xcache : Int32) (xpending : Int32) (xlow : Int64) (xrange : Int64) (xcode : Int64) (xreadLow : Int64) (xreadRange : Int64) (ri : Nat) (ro : Nat) (rw : Nat) (xasked : Int32) (wd : Int32) : MetI l y_Coder_hasWidth (Cond.code y_Coder_hasWidth prog_4_method_13_code 2 (some .boolean) :: gw) ({ frames := 0, cells := 0, slots := 0, locals := 0 } : Room) (dC, dI) vwCl (kT cI cM cO) [Value.ref co, Value.int wd] [(co, Sum.inr (3, [Value.int xshift, Value.long xkeptCode, Value.long xkeptRange, Value.int xkeptAsked, Value.int xcache, Value.int xpending, Value.long xlow, Value.long xrange, Value.long xcode, Value.long xreadLow, Value.long xreadRange, Value.ref ri, Value.ref ro, Value.ref rw, Value.int xasked]))] sz (fun (r : Int32) (u : Unit) => r = if 1 ≤ wd ∧ wd ≤ nI 12 then 1 else 0) (fun (u : Unit) => [(co, Sum.inr (3, [Value.int xshift, Value.long xkeptCode, Value.long xkeptRange, Value.int xkeptAsked, Value.int xcache, Value.int xpending, Value.long xlow, Value.long xrange, Value.long xcode, Value.long xreadLow, Value.long xreadRange, Value.ref ri, Value.ref ro, Value.ref rw, Value.int xasked]))]) 0 0 := by
  refine my_ofI (cc := prog_4_method_13_code) (n := 2) (ret := (some .boolean)) (by decide) rfl (Nat.le_of_ble_eq_true rfl) ?_
  intro p e s m args below meth c R Q A ls H locs hx hb hr hts hown hlocks hml hnm hR hQ hA hl hP hK hN hD hS
  have hg : ∀ w ∈ gw, w.before args s = true := fun w h => hts w (List.mem_cons_of_mem _ h)
  have hown : s.vm.findClass "RangeCoders$Coder" = some m.cls := hown
  have hl : lv_has ls 2 [(0, Value.ref co), (1, Value.int wd)] := hl
  refine lv_iload_n hx hb d_Coder_hasWidth_0 rfl (lv_at hl 1 rfl) ?_
  refine lv_iconst (v := 1) hx hb d_Coder_hasWidth_1 (by decide) ?_
  refine lv_icmp_lt (tgt := 15) hx hb d_Coder_hasWidth_2 (by decide) (fun c_1 => ?_) (fun c_1 => ?_)
  · refine lv_iconst (v := 0) hx hb d_Coder_hasWidth_15 (by decide) ?_
    exact my_iret (v := 0) hx hb hr (rfl) hlocks hQ hK hS (Nat.le_refl _) (Nat.le_refl _) () (wid_0a c_1) (hP.sub [0] rfl) (hD.sub [0] (by decide +kernel) rfl) d_Coder_hasWidth_16
  · refine lv_iload_n hx hb d_Coder_hasWidth_5 rfl (lv_at hl 1 rfl) ?_
    refine lv_bipush (v := 12) hx hb d_Coder_hasWidth_6 (by decide) ?_
    refine lv_icmp_gt (tgt := 15) hx hb d_Coder_hasWidth_8 (by decide) (fun c_2 => ?_) (fun c_2 => ?_)
    · refine lv_iconst (v := 0) hx hb d_Coder_hasWidth_15 (by decide) ?_
      exact my_iret (v := 0) hx hb hr (rfl) hlocks hQ hK hS (Nat.le_refl _) (Nat.le_refl _) () (wid_0b c_2) (hP.sub [0] rfl) (hD.sub [0] (by decide +kernel) rfl) d_Coder_hasWidth_16
    · refine lv_iconst (v := 1) hx hb d_Coder_hasWidth_11 (by decide) ?_
      refine lv_goto (tgt := 16) hx hb d_Coder_hasWidth_12 (by decide) ?_
      exact my_iret (v := 1) hx hb hr (rfl) hlocks hQ hK hS (Nat.le_refl _) (Nat.le_refl _) () (wid_1 c_1 c_2) (hP.sub [0] rfl) (hD.sub [0] (by decide +kernel) rfl) d_Coder_hasWidth_16
set_option maxHeartbeats 2000000 in
set_option maxRecDepth 100000 in
theorem f_RC_bitsW_Bits (l : Launch) (dC : Nat → ClassId) (dI : Nat → Nat → Nat) (cI cM cO : ClassId) (sz : Nat) (rc : Nat) (ma : Nat) (k : Nat) (fit : Int32) (fen : Int32) (frd : Int32) (fbd : Int32) (fir : Int32) (mf : Nat → Option Nat) (co : Nat) (xshift : Int32) (xkeptCode : Int64) (xkeptRange : Int64) (xkeptAsked : Int32) (xcache : Int32) (xpending : Int32) (xlow : Int64) (xrange : Int64) (xcode : Int64) (xreadLow : Int64) (xreadRange : Int64) (ri : Nat) (ro : Nat) (rw : Nat) (xasked : Int32) (vv : Int32) (wd : Int32) (hbad : ¬ okB 12 vv wd) : MetI l y_RC_bits (Cond.code y_RC_bits prog_1_method_5_code 3 (some .int) :: gw) ({ frames := 1, cells := 0, slots := 0, locals := 21 } : Room) (dC, dI) vwCl (kT cI cM cO) [Value.ref rc, Value.int vv, Value.int wd] [(rc, Sum.inr (6, [Value.ref co, Value.ref ma, Value.int (nI k), Value.int fit, Value.int fen, Value.int frd, Value.int fbd, Value.int fir])), (co, Sum.inr (3, [Value.int xshift, Value.long xkeptCode, Value.long xkeptRange, Value.int xkeptAsked, Value.int xcache, Value.int xpending, Value.long xlow, Value.long xrange, Value.long xcode, Value.long xreadLow, Value.long xreadRange, Value.ref ri, Value.ref ro, Value.ref rw, Value.int xasked]))] sz (fun (r : Int32) (u : Unit) => r = -2) (fun (u : Unit) => [(rc, Sum.inr (6, [Value.ref co, Value.ref ma, Value.int (nI k), Value.int fit, Value.int fen, Value.int frd, Value.int fbd, Value.int fir])), (co, Sum.inr (3, [Value.int xshift, Value.long xkeptCode, Value.long xkeptRange, Value.int xkeptAsked, Value.int xcache, Value.int xpending, Value.long xlow, Value.long xrange, Value.long xcode, Value.long xreadLow, Value.long xreadRange, Value.ref ri, Value.ref ro, Value.ref rw, Value.int xasked]))]) 0 0 := by
  refine my_ofI (cc := prog_1_method_5_code) (n := 3) (ret := (some .int)) (by decide) rfl (Nat.le_of_ble_eq_true rfl) ?_
  intro p e s m args below meth c R Q A ls H locs hx hb hr hts hown hlocks hml hnm hR hQ hA hl hP hK hN hD hS
  have hg : ∀ w ∈ gw, w.before args s = true := fun w h => hts w (List.mem_cons_of_mem _ h)
  have hown : s.vm.findClass "RangeCoders" = some m.cls := hown
  have hl : lv_has ls 3 [(0, Value.ref rc), (1, Value.int vv), (2, Value.int wd)] := hl
  refine lv_aload_n hx hb d_RC_bits_0 rfl (lv_at hl 0 rfl) ?_
  refine va_get (D := (dC, dI)) (ci := 6) (v := .ref co) (C := "RangeCoders") (T := T_RC) (N := 8) hx hb hg in_RC hown hK hP 0 rfl rfl 0 (by decide) (hg _ k258) (fun _ h9 => h9) rfl d_RC_bits_1 ?_
  refine lv_iload_n hx hb d_RC_bits_4 rfl (lv_at hl 2 rfl) ?_
  refine my_ci (wr := [(rc, Sum.inr (6, [Value.ref co, Value.ref ma, Value.int (nI k), Value.int fit, Value.int fen, Value.int frd, Value.int fbd, Value.int fir]))]) (va_runU (As := [Value.int wd]) (rest := []) ⟨hx, hb, hml, hown, hts⟩ (f_Bits_hasWidth l dC dI cI cM cO H.size co xshift xkeptCode xkeptRange xkeptAsked xcache xpending xlow xrange xcode xreadLow xreadRange ri ro rw xasked wd) (va_cwU 1 hts (my_gU k543 k545 k546 k544 k3 k553) rfl rfl rfl rfl (by decide +kernel) ⟨by rw [hR]; exact Nat.le_of_ble_eq_true rfl, by rw [hR]; exact Nat.le_of_ble_eq_true rfl⟩) (my_preV hK hN (hP.sub [1] rfl) (hD.sub [1] (by decide +kernel) rfl) 0 rfl rfl) rfl rfl hl.1 rfl (lv_room (Nat.le_of_ble_eq_true rfl)) d_RC_bits_5 ⟨by rw [hR]; exact Nat.le_of_ble_eq_true rfl, by rw [hR]; exact Nat.le_of_ble_eq_true rfl⟩) hP hD hS hA [1] [0] rfl rfl (by decide +kernel) (by decide +kernel) (fun r_5 u9 H locs hw_5 hP hD hS => ?_)
  have hr_5 : r_5 = if 1 ≤ wd ∧ wd ≤ nI 12 then 1 else 0 := hw_5
  have hPD : my_PD (dC, dI) vwCl A [(rc, Sum.inr (6, [Value.ref co, Value.ref ma, Value.int (nI k), Value.int fit, Value.int fen, Value.int frd, Value.int fbd, Value.int fir])), (co, Sum.inr (3, [Value.int xshift, Value.long xkeptCode, Value.long xkeptRange, Value.int xkeptAsked, Value.int xcache, Value.int xpending, Value.long xlow, Value.long xrange, Value.long xcode, Value.long xreadLow, Value.long xreadRange, Value.ref ri, Value.ref ro, Value.ref rw, Value.int xasked]))] H := ⟨hP, hD⟩
  have hP := hPD.1
  have hD := hPD.2
  refine lv_if_eq (tgt := 22) hx hb d_RC_bits_8 (by decide) (fun c_1 => ?_) (fun c_1 => ?_)
  · refine lv_bipush (v := (-2)) hx hb d_RC_bits_22 (by decide) ?_
    exact my_iret (v := (-2)) hx hb hr (rfl) hlocks hQ hK hS (Nat.le_refl _) (Nat.le_refl _) () (rfl) (hP.sub [0, 1] rfl) (hD.sub [0, 1] (by decide +kernel) rfl) d_RC_bits_24
  · refine lv_iload_n hx hb d_RC_bits_11 rfl (lv_at hl 1 rfl) ?_
    refine lv_if_lt (tgt := 22) hx hb d_RC_bits_12 (by decide) (fun c_2 => ?_) (fun c_2 => ?_)
    · refine lv_bipush (v := (-2)) hx hb d_RC_bits_22 (by decide) ?_
      exact my_iret (v := (-2)) hx hb hr (rfl) hlocks hQ hK hS (Nat.le_refl _) (Nat.le_refl _) () (rfl) (hP.sub [0, 1] rfl) (hD.sub [0, 1] (by decide +kernel) rfl) d_RC_bits_24
    · refine lv_iload_n hx hb d_RC_bits_15 rfl (lv_at hl 1 rfl) ?_
      refine lv_iconst (v := 1) hx hb d_RC_bits_16 (by decide) ?_
      refine lv_iload_n hx hb d_RC_bits_17 rfl (lv_at hl 2 rfl) ?_
      refine lv_ishl hx hb d_RC_bits_18 ?_
      refine lv_topi (fun v_3 ev_3 => ?_)
      refine lv_icmp_lt (tgt := 25) hx hb d_RC_bits_19 (by decide) (fun c_4 => ?_) (fun c_4 => ?_)
      · exact absurd (okB_of (by decide) (one_ne hr_5 c_1) c_2 ev_3 c_4) hbad
      · refine lv_bipush (v := (-2)) hx hb d_RC_bits_22 (by decide) ?_
        exact my_iret (v := (-2)) hx hb hr (rfl) hlocks hQ hK hS (Nat.le_refl _) (Nat.le_refl _) () (rfl) (hP.sub [0, 1] rfl) (hD.sub [0, 1] (by decide +kernel) rfl) d_RC_bits_24
set_option maxHeartbeats 2000000 in
set_option maxRecDepth 100000 in
theorem f_RC_bitsE_Bits (l : Launch) (dC : Nat → ClassId) (dI : Nat → Nat → Nat) (cI cM cO : ClassId) (sz : Nat) (rc : Nat) (ma : Nat) (k : Nat) (fit : Int32) (fen : Int32) (frd : Int32) (fbd : Int32) (fir : Int32) (mf : Nat → Option Nat) (co : Nat) (xshift : Int32) (xkeptCode : Int64) (xkeptRange : Int64) (xkeptAsked : Int32) (xcache : Int32) (xpending : Int32) (xlow : Int64) (xrange : Int64) (xcode : Int64) (xreadLow : Int64) (xreadRange : Int64) (ri : Nat) (ro : Nat) (rw : Nat) (xasked : Int32) (v : Nat) (b : Nat) (hb1 : 1 ≤ b) (hb2 : b ≤ 12) (hv : v < 2 ^ b) (hen : ¬ fen = 0) : MetI l y_RC_bits (Cond.code y_RC_bits prog_1_method_5_code 3 (some .int) :: gw) ({ frames := 1, cells := 0, slots := 0, locals := 21 } : Room) (dC, dI) vwCl (kT cI cM cO) [Value.ref rc, Value.int (nI v), Value.int (nI b)] [(rc, Sum.inr (6, [Value.ref co, Value.ref ma, Value.int (nI k), Value.int fit, Value.int fen, Value.int frd, Value.int fbd, Value.int fir])), (co, Sum.inr (3, [Value.int xshift, Value.long xkeptCode, Value.long xkeptRange, Value.int xkeptAsked, Value.int xcache, Value.int xpending, Value.long xlow, Value.long xrange, Value.long xcode, Value.long xreadLow, Value.long xreadRange, Value.ref ri, Value.ref ro, Value.ref rw, Value.int xasked]))] sz (fun (r : Int32) (u : Unit) => r = -3) (fun (u : Unit) => [(rc, Sum.inr (6, [Value.ref co, Value.ref ma, Value.int (nI k), Value.int fit, Value.int fen, Value.int frd, Value.int fbd, Value.int fir])), (co, Sum.inr (3, [Value.int xshift, Value.long xkeptCode, Value.long xkeptRange, Value.int xkeptAsked, Value.int xcache, Value.int xpending, Value.long xlow, Value.long xrange, Value.long xcode, Value.long xreadLow, Value.long xreadRange, Value.ref ri, Value.ref ro, Value.ref rw, Value.int xasked]))]) 0 0 := by
  refine my_ofI (cc := prog_1_method_5_code) (n := 3) (ret := (some .int)) (by decide) rfl (Nat.le_of_ble_eq_true rfl) ?_
  intro p e s m args below meth c R Q A ls H locs hx hb hr hts hown hlocks hml hnm hR hQ hA hl hP hK hN hD hS
  have hg : ∀ w ∈ gw, w.before args s = true := fun w h => hts w (List.mem_cons_of_mem _ h)
  have hown : s.vm.findClass "RangeCoders" = some m.cls := hown
  have hl : lv_has ls 3 [(0, Value.ref rc), (1, Value.int (nI v)), (2, Value.int (nI b))] := hl
  have hpw : 2 ^ b ≤ 2 ^ 12 := Nat.pow_le_pow_right (by decide) (by omega)
  have hpw0 : 0 < 2 ^ b := Nat.pow_pos (by decide)
  refine lv_aload_n hx hb d_RC_bits_0 rfl (lv_at hl 0 rfl) ?_
  refine va_get (D := (dC, dI)) (ci := 6) (v := .ref co) (C := "RangeCoders") (T := T_RC) (N := 8) hx hb hg in_RC hown hK hP 0 rfl rfl 0 (by decide) (hg _ k258) (fun _ h9 => h9) rfl d_RC_bits_1 ?_
  refine lv_iload_n hx hb d_RC_bits_4 rfl (lv_at hl 2 rfl) ?_
  refine my_ci (wr := [(rc, Sum.inr (6, [Value.ref co, Value.ref ma, Value.int (nI k), Value.int fit, Value.int fen, Value.int frd, Value.int fbd, Value.int fir]))]) (va_runU (As := [Value.int (nI b)]) (rest := []) ⟨hx, hb, hml, hown, hts⟩ (f_Bits_hasWidth l dC dI cI cM cO H.size co xshift xkeptCode xkeptRange xkeptAsked xcache xpending xlow xrange xcode xreadLow xreadRange ri ro rw xasked (nI b)) (va_cwU 1 hts (my_gU k543 k545 k546 k544 k3 k553) rfl rfl rfl rfl (by decide +kernel) ⟨by rw [hR]; exact Nat.le_of_ble_eq_true rfl, by rw [hR]; exact Nat.le_of_ble_eq_true rfl⟩) (my_preV hK hN (hP.sub [1] rfl) (hD.sub [1] (by decide +kernel) rfl) 0 rfl rfl) rfl rfl hl.1 rfl (lv_room (Nat.le_of_ble_eq_true rfl)) d_RC_bits_5 ⟨by rw [hR]; exact Nat.le_of_ble_eq_true rfl, by rw [hR]; exact Nat.le_of_ble_eq_true rfl⟩) hP hD hS hA [1] [0] rfl rfl (by decide +kernel) (by decide +kernel) (fun r_5 u9 H locs hw_5 hP hD hS => ?_)
  have hr_5 : r_5 = if 1 ≤ (nI b) ∧ (nI b) ≤ nI 12 then 1 else 0 := hw_5
  have hPD : my_PD (dC, dI) vwCl A [(rc, Sum.inr (6, [Value.ref co, Value.ref ma, Value.int (nI k), Value.int fit, Value.int fen, Value.int frd, Value.int fbd, Value.int fir])), (co, Sum.inr (3, [Value.int xshift, Value.long xkeptCode, Value.long xkeptRange, Value.int xkeptAsked, Value.int xcache, Value.int xpending, Value.long xlow, Value.long xrange, Value.long xcode, Value.long xreadLow, Value.long xreadRange, Value.ref ri, Value.ref ro, Value.ref rw, Value.int xasked]))] H := ⟨hP, hD⟩
  have hP := hPD.1
  have hD := hPD.2
  refine lv_if_eq (tgt := 22) hx hb d_RC_bits_8 (by decide) (fun c_1 => ?_) (fun c_1 => ?_)
  · exact absurd (show 1 ≤ nI b ∧ nI b ≤ nI 12 from ⟨nI_le (a := 1) hb1 (by omega), nI_le hb2 (by decide)⟩) (one_eq hr_5 c_1)
  · refine lv_iload_n hx hb d_RC_bits_11 rfl (lv_at hl 1 rfl) ?_
    refine lv_if_lt (tgt := 22) hx hb d_RC_bits_12 (by decide) (fun c_2 => ?_) (fun c_2 => ?_)
    · exact absurd c_2 (nI_pos (by omega))
    · refine lv_iload_n hx hb d_RC_bits_15 rfl (lv_at hl 1 rfl) ?_
      refine lv_iconst (v := 1) hx hb d_RC_bits_16 (by decide) ?_
      refine lv_iload_n hx hb d_RC_bits_17 rfl (lv_at hl 2 rfl) ?_
      refine lv_ishl hx hb d_RC_bits_18 ?_
      refine lv_topi (fun v_3 ev_3 => ?_)
      have z9 : v_3 = nI (2 ^ b) := by rw [ev_3]; exact shl1 b (by omega)
      subst z9
      refine lv_icmp_lt (tgt := 25) hx hb d_RC_bits_19 (by decide) (fun c_4 => ?_) (fun c_4 => ?_)
      · refine lv_aload_n hx hb d_RC_bits_25 rfl (lv_at hl 0 rfl) ?_
        refine va_get (D := (dC, dI)) (ci := 6) (v := .int fen) (C := "RangeCoders") (T := T_RC) (N := 8) hx hb hg in_RC hown hK hP 0 rfl rfl 4 (by decide) (hg _ k262) (fun _ h9 => h9) rfl d_RC_bits_26 ?_
        refine lv_if_eq (tgt := 35) hx hb d_RC_bits_29 (by decide) (fun c_5 => ?_) (fun c_5 => ?_)
        · exact absurd c_5 hen
        · refine lv_bipush (v := (-3)) hx hb d_RC_bits_32 (by decide) ?_
          exact my_iret (v := (-3)) hx hb hr (rfl) hlocks hQ hK hS (Nat.le_refl _) (Nat.le_refl _) () (rfl) (hP.sub [0, 1] rfl) (hD.sub [0, 1] (by decide +kernel) rfl) d_RC_bits_34
      · exact absurd (nI_lt hv (by omega)) c_4
set_option maxHeartbeats 2000000 in
set_option maxRecDepth 100000 in
theorem f_RC_bitsR_Bits (l : Launch) (dC : Nat → ClassId) (dI : Nat → Nat → Nat) (cI cM cO : ClassId) (sz : Nat) (rc : Nat) (ma : Nat) (k : Nat) (frd : Int32) (fbd : Int32) (fir : Int32) (mf : Nat → Option Nat) (co : Nat) (xshift : Int32) (xkeptCode : Int64) (xkeptRange : Int64) (xkeptAsked : Int32) (xcache : Int32) (xpending : Int32) (xlow : Int64) (xrange : Int64) (xcode : Int64) (xreadLow : Int64) (xreadRange : Int64) (ri : Nat) (ro : Nat) (rw : Nat) (xasked : Int32) (v : Nat) (b : Nat) (ki : Nat) (hb1 : 1 ≤ b) (hb2 : b ≤ 12) (hv : v < 2 ^ b) (hk6 : ki = 600) : MetI l y_RC_bits (Cond.code y_RC_bits prog_1_method_5_code 3 (some .int) :: gw) ({ frames := 1, cells := 0, slots := 0, locals := 21 } : Room) (dC, dI) vwCl (kT cI cM cO) [Value.ref rc, Value.int (nI v), Value.int (nI b)] [(rc, Sum.inr (6, [Value.ref co, Value.ref ma, Value.int (nI k), Value.int (nI ki), Value.int 0, Value.int frd, Value.int fbd, Value.int fir])), (co, Sum.inr (3, [Value.int xshift, Value.long xkeptCode, Value.long xkeptRange, Value.int xkeptAsked, Value.int xcache, Value.int xpending, Value.long xlow, Value.long xrange, Value.long xcode, Value.long xreadLow, Value.long xreadRange, Value.ref ri, Value.ref ro, Value.ref rw, Value.int xasked]))] sz (fun (r : Int32) (u : Unit) => r = -4) (fun (u : Unit) => [(rc, Sum.inr (6, [Value.ref co, Value.ref ma, Value.int (nI k), Value.int (nI ki), Value.int 0, Value.int frd, Value.int fbd, Value.int fir])), (co, Sum.inr (3, [Value.int xshift, Value.long xkeptCode, Value.long xkeptRange, Value.int xkeptAsked, Value.int xcache, Value.int xpending, Value.long xlow, Value.long xrange, Value.long xcode, Value.long xreadLow, Value.long xreadRange, Value.ref ri, Value.ref ro, Value.ref rw, Value.int xasked]))]) 0 0 := by
  refine my_ofI (cc := prog_1_method_5_code) (n := 3) (ret := (some .int)) (by decide) rfl (Nat.le_of_ble_eq_true rfl) ?_
  intro p e s m args below meth c R Q A ls H locs hx hb hr hts hown hlocks hml hnm hR hQ hA hl hP hK hN hD hS
  have hg : ∀ w ∈ gw, w.before args s = true := fun w h => hts w (List.mem_cons_of_mem _ h)
  have hown : s.vm.findClass "RangeCoders" = some m.cls := hown
  have hl : lv_has ls 3 [(0, Value.ref rc), (1, Value.int (nI v)), (2, Value.int (nI b))] := hl
  have hpw : 2 ^ b ≤ 2 ^ 12 := Nat.pow_le_pow_right (by decide) (by omega)
  have hpw0 : 0 < 2 ^ b := Nat.pow_pos (by decide)
  refine lv_aload_n hx hb d_RC_bits_0 rfl (lv_at hl 0 rfl) ?_
  refine va_get (D := (dC, dI)) (ci := 6) (v := .ref co) (C := "RangeCoders") (T := T_RC) (N := 8) hx hb hg in_RC hown hK hP 0 rfl rfl 0 (by decide) (hg _ k258) (fun _ h9 => h9) rfl d_RC_bits_1 ?_
  refine lv_iload_n hx hb d_RC_bits_4 rfl (lv_at hl 2 rfl) ?_
  refine my_ci (wr := [(rc, Sum.inr (6, [Value.ref co, Value.ref ma, Value.int (nI k), Value.int (nI ki), Value.int 0, Value.int frd, Value.int fbd, Value.int fir]))]) (va_runU (As := [Value.int (nI b)]) (rest := []) ⟨hx, hb, hml, hown, hts⟩ (f_Bits_hasWidth l dC dI cI cM cO H.size co xshift xkeptCode xkeptRange xkeptAsked xcache xpending xlow xrange xcode xreadLow xreadRange ri ro rw xasked (nI b)) (va_cwU 1 hts (my_gU k543 k545 k546 k544 k3 k553) rfl rfl rfl rfl (by decide +kernel) ⟨by rw [hR]; exact Nat.le_of_ble_eq_true rfl, by rw [hR]; exact Nat.le_of_ble_eq_true rfl⟩) (my_preV hK hN (hP.sub [1] rfl) (hD.sub [1] (by decide +kernel) rfl) 0 rfl rfl) rfl rfl hl.1 rfl (lv_room (Nat.le_of_ble_eq_true rfl)) d_RC_bits_5 ⟨by rw [hR]; exact Nat.le_of_ble_eq_true rfl, by rw [hR]; exact Nat.le_of_ble_eq_true rfl⟩) hP hD hS hA [1] [0] rfl rfl (by decide +kernel) (by decide +kernel) (fun r_5 u9 H locs hw_5 hP hD hS => ?_)
  have hr_5 : r_5 = if 1 ≤ (nI b) ∧ (nI b) ≤ nI 12 then 1 else 0 := hw_5
  have hPD : my_PD (dC, dI) vwCl A [(rc, Sum.inr (6, [Value.ref co, Value.ref ma, Value.int (nI k), Value.int (nI ki), Value.int 0, Value.int frd, Value.int fbd, Value.int fir])), (co, Sum.inr (3, [Value.int xshift, Value.long xkeptCode, Value.long xkeptRange, Value.int xkeptAsked, Value.int xcache, Value.int xpending, Value.long xlow, Value.long xrange, Value.long xcode, Value.long xreadLow, Value.long xreadRange, Value.ref ri, Value.ref ro, Value.ref rw, Value.int xasked]))] H := ⟨hP, hD⟩
  have hP := hPD.1
  have hD := hPD.2
  refine lv_if_eq (tgt := 22) hx hb d_RC_bits_8 (by decide) (fun c_1 => ?_) (fun c_1 => ?_)
  · exact absurd (show 1 ≤ nI b ∧ nI b ≤ nI 12 from ⟨nI_le (a := 1) hb1 (by omega), nI_le hb2 (by decide)⟩) (one_eq hr_5 c_1)
  · refine lv_iload_n hx hb d_RC_bits_11 rfl (lv_at hl 1 rfl) ?_
    refine lv_if_lt (tgt := 22) hx hb d_RC_bits_12 (by decide) (fun c_2 => ?_) (fun c_2 => ?_)
    · exact absurd c_2 (nI_pos (by omega))
    · refine lv_iload_n hx hb d_RC_bits_15 rfl (lv_at hl 1 rfl) ?_
      refine lv_iconst (v := 1) hx hb d_RC_bits_16 (by decide) ?_
      refine lv_iload_n hx hb d_RC_bits_17 rfl (lv_at hl 2 rfl) ?_
      refine lv_ishl hx hb d_RC_bits_18 ?_
      refine lv_topi (fun v_3 ev_3 => ?_)
      have z9 : v_3 = nI (2 ^ b) := by rw [ev_3]; exact shl1 b (by omega)
      subst z9
      refine lv_icmp_lt (tgt := 25) hx hb d_RC_bits_19 (by decide) (fun c_4 => ?_) (fun c_4 => ?_)
      · refine lv_aload_n hx hb d_RC_bits_25 rfl (lv_at hl 0 rfl) ?_
        refine va_get (D := (dC, dI)) (ci := 6) (v := .int 0) (C := "RangeCoders") (T := T_RC) (N := 8) hx hb hg in_RC hown hK hP 0 rfl rfl 4 (by decide) (hg _ k262) (fun _ h9 => h9) rfl d_RC_bits_26 ?_
        refine lv_if_eq (tgt := 35) hx hb d_RC_bits_29 (by decide) (fun c_5 => ?_) (fun c_5 => ?_)
        · refine lv_aload_n hx hb d_RC_bits_35 rfl (lv_at hl 0 rfl) ?_
          refine va_get (D := (dC, dI)) (ci := 6) (v := .int (nI ki)) (C := "RangeCoders") (T := T_RC) (N := 8) hx hb hg in_RC hown hK hP 0 rfl rfl 3 (by decide) (hg _ k261) (fun _ h9 => h9) rfl d_RC_bits_36 ?_
          refine lv_sipush (v := 600) hx hb d_RC_bits_39 (by decide) ?_
          refine lv_icmp_lt (tgt := 48) hx hb d_RC_bits_42 (by decide) (fun c_6 => ?_) (fun c_6 => ?_)
          · exact absurd c_6 (by rw [hk6]; decide)
          · refine lv_bipush (v := (-4)) hx hb d_RC_bits_45 (by decide) ?_
            exact my_iret (v := (-4)) hx hb hr (rfl) hlocks hQ hK hS (Nat.le_refl _) (Nat.le_refl _) () (rfl) (hP.sub [0, 1] rfl) (hD.sub [0, 1] (by decide +kernel) rfl) d_RC_bits_47
        · exact absurd (by decide) c_5
      · exact absurd (nI_lt hv (by omega)) c_4
set_option maxHeartbeats 2000000 in
set_option maxRecDepth 100000 in
theorem f_RC_bitsL_Bits (l : Launch) (dC : Nat → ClassId) (dI : Nat → Nat → Nat) (cI cM cO : ClassId) (sz : Nat) (sl : Nat) (rc : Nat) (ma : Nat) (k : Nat) (frd : Int32) (fbd : Int32) (fir : Int32) (mf : Nat → Option Nat) (co : Nat) (xshift : Int32) (xkeptCode : Int64) (xkeptRange : Int64) (xkeptAsked : Int32) (xcode : Int64) (xreadLow : Int64) (xreadRange : Int64) (ri : Nat) (ro : Nat) (rw : Nat) (xasked : Int32) (Rg : Nat) (L : Nat) (ca : Option Nat) (Pn : Nat) (rwa : Nat) (rwk : Nat) (rwf : Nat → Int32) (bs : List Nat) (v : Nat) (b : Nat) (ki : Nat) (hki : ki < 600) (hb1 : 1 ≤ b) (hb2 : b ≤ 12) (hv : v < 2 ^ b) (hE : eInv (Rg, L, ca, Pn, bs)) (hrw : rOk (nI bs.length) rwk) (hGrw : gIs rwf bs) (hN9 : bs.length + Pn + 20 ≤ 7900) : MetIg l y_RC_bits (Cond.code y_RC_bits prog_1_method_5_code 3 (some .int) :: gw) ({ frames := 7, cells := rPh rwk, slots := rPh rwk, locals := 169 } : Room) (dC, dI) vwCl (kT cI cM cO) [Value.ref rc, Value.int (nI v), Value.int (nI b)] [(rc, Sum.inr (6, [Value.ref co, Value.ref ma, Value.int (nI k), Value.int (nI ki), Value.int 0, Value.int frd, Value.int fbd, Value.int fir])), (co, Sum.inr (3, [Value.int xshift, Value.long xkeptCode, Value.long xkeptRange, Value.int xkeptAsked, Value.int (caI ca), Value.int (nI Pn), Value.long (lN L), Value.long (lN Rg), Value.long xcode, Value.long xreadLow, Value.long xreadRange, Value.ref ri, Value.ref ro, Value.ref rw, Value.int xasked])), (rw, Sum.inr (0, [Value.int (nI bs.length), Value.ref rwa])), (rwa, Sum.inl (cI, rwk, Sum.inl rwf))] sz sl (fun (r : Int32) (u : Nat × Nat × (Nat → Int32)) => r = nI (ki + 1) ∧ rOk (nI (eB (vbN v b (Rg, L, ca, Pn, bs))).length) u.2.1 ∧ gIs u.2.2 (eB (vbN v b (Rg, L, ca, Pn, bs)))) (fun (u : Nat × Nat × (Nat → Int32)) => [(rc, Sum.inr (6, [Value.ref co, Value.ref ma, Value.int (nI k), Value.int (nI (ki + 1)), Value.int 0, Value.int frd, Value.int fbd, Value.int fir])), (co, Sum.inr (3, [Value.int xshift, Value.long xkeptCode, Value.long xkeptRange, Value.int xkeptAsked, Value.int (caI (eC (vbN v b (Rg, L, ca, Pn, bs)))), Value.int (nI (eP (vbN v b (Rg, L, ca, Pn, bs)))), Value.long (lN (eL (vbN v b (Rg, L, ca, Pn, bs)))), Value.long (lN (eR (vbN v b (Rg, L, ca, Pn, bs)))), Value.long xcode, Value.long xreadLow, Value.long xreadRange, Value.ref ri, Value.ref ro, Value.ref rw, Value.int xasked])), (rw, Sum.inr (0, [Value.int (nI (eB (vbN v b (Rg, L, ca, Pn, bs))).length), Value.ref u.1])), (u.1, Sum.inl (cI, u.2.1, Sum.inl u.2.2))]) (rPh rwk) (fun (u : Nat × Nat × (Nat → Int32)) => rPh u.2.1) := by
  refine my_ofIg (cc := prog_1_method_5_code) (n := 3) (ret := (some .int)) (by decide) rfl (Nat.le_of_ble_eq_true rfl) ?_
  intro p e s m args below meth c R Q A ls H locs hx hb hr hts hown hlocks hml hnm hR hQ hA hl hP hK hN hD hS
  have hg : ∀ w ∈ gw, w.before args s = true := fun w h => hts w (List.mem_cons_of_mem _ h)
  have hown : s.vm.findClass "RangeCoders" = some m.cls := hown
  have hl : lv_has ls 3 [(0, Value.ref rc), (1, Value.int (nI v)), (2, Value.int (nI b))] := hl
  have hltw := rOk_lt hrw
  have hpw : 2 ^ b ≤ 2 ^ 12 := Nat.pow_le_pow_right (by decide) (by omega)
  have hpw0 : 0 < 2 ^ b := Nat.pow_pos (by decide)
  refine lv_aload_n hx hb d_RC_bits_0 rfl (lv_at hl 0 rfl) ?_
  refine va_get (D := (dC, dI)) (ci := 6) (v := .ref co) (C := "RangeCoders") (T := T_RC) (N := 8) hx hb hg in_RC hown hK hP 0 rfl rfl 0 (by decide) (hg _ k258) (fun _ h9 => h9) rfl d_RC_bits_1 ?_
  refine lv_iload_n hx hb d_RC_bits_4 rfl (lv_at hl 2 rfl) ?_
  refine my_ci (wr := [(rc, Sum.inr (6, [Value.ref co, Value.ref ma, Value.int (nI k), Value.int (nI ki), Value.int 0, Value.int frd, Value.int fbd, Value.int fir])), (rw, Sum.inr (0, [Value.int (nI bs.length), Value.ref rwa])), (rwa, Sum.inl (cI, rwk, Sum.inl rwf))]) (va_runU (As := [Value.int (nI b)]) (rest := []) ⟨hx, hb, hml, hown, hts⟩ (f_Bits_hasWidth l dC dI cI cM cO H.size co xshift xkeptCode xkeptRange xkeptAsked (caI ca) (nI Pn) (lN L) (lN Rg) xcode xreadLow xreadRange ri ro rw xasked (nI b)) (va_cwU 1 hts (my_gU k543 k545 k546 k544 k3 k553) rfl rfl rfl rfl (by decide +kernel) ⟨by rw [hR]; exact Nat.le_of_ble_eq_true rfl, by rw [hR]; exact Nat.le_of_ble_eq_true rfl⟩) (my_preV hK hN (hP.sub [1] rfl) (hD.sub [1] (by decide +kernel) rfl) 0 rfl rfl) rfl rfl hl.1 rfl (lv_room (Nat.le_of_ble_eq_true rfl)) d_RC_bits_5 ⟨by rw [hR]; exact (show 0 + 0 ≤ (rPh rwk) by omega), by rw [hR]; exact (show 0 + 0 ≤ (rPh rwk) by omega)⟩) hP hD hS hA [1] [0, 2, 3] rfl rfl (by decide +kernel) (by decide +kernel) (fun r_5 u9 H locs hw_5 hP hD hS => ?_)
  have hr_5 : r_5 = if 1 ≤ (nI b) ∧ (nI b) ≤ nI 12 then 1 else 0 := hw_5
  have hPD : my_PD (dC, dI) vwCl A [(rc, Sum.inr (6, [Value.ref co, Value.ref ma, Value.int (nI k), Value.int (nI ki), Value.int 0, Value.int frd, Value.int fbd, Value.int fir])), (rw, Sum.inr (0, [Value.int (nI bs.length), Value.ref rwa])), (rwa, Sum.inl (cI, rwk, Sum.inl rwf)), (co, Sum.inr (3, [Value.int xshift, Value.long xkeptCode, Value.long xkeptRange, Value.int xkeptAsked, Value.int (caI ca), Value.int (nI Pn), Value.long (lN L), Value.long (lN Rg), Value.long xcode, Value.long xreadLow, Value.long xreadRange, Value.ref ri, Value.ref ro, Value.ref rw, Value.int xasked]))] H := ⟨hP, hD⟩
  have hP := hPD.1
  have hD := hPD.2
  refine lv_if_eq (tgt := 22) hx hb d_RC_bits_8 (by decide) (fun c_1 => ?_) (fun c_1 => ?_)
  · exact absurd (show 1 ≤ nI b ∧ nI b ≤ nI 12 from ⟨nI_le (a := 1) hb1 (by omega), nI_le hb2 (by decide)⟩) (one_eq hr_5 c_1)
  · refine lv_iload_n hx hb d_RC_bits_11 rfl (lv_at hl 1 rfl) ?_
    refine lv_if_lt (tgt := 22) hx hb d_RC_bits_12 (by decide) (fun c_2 => ?_) (fun c_2 => ?_)
    · exact absurd c_2 (nI_pos (by omega))
    · refine lv_iload_n hx hb d_RC_bits_15 rfl (lv_at hl 1 rfl) ?_
      refine lv_iconst (v := 1) hx hb d_RC_bits_16 (by decide) ?_
      refine lv_iload_n hx hb d_RC_bits_17 rfl (lv_at hl 2 rfl) ?_
      refine lv_ishl hx hb d_RC_bits_18 ?_
      refine lv_topi (fun v_3 ev_3 => ?_)
      have z9 : v_3 = nI (2 ^ b) := by rw [ev_3]; exact shl1 b (by omega)
      subst z9
      refine lv_icmp_lt (tgt := 25) hx hb d_RC_bits_19 (by decide) (fun c_4 => ?_) (fun c_4 => ?_)
      · refine lv_aload_n hx hb d_RC_bits_25 rfl (lv_at hl 0 rfl) ?_
        refine va_get (D := (dC, dI)) (ci := 6) (v := .int 0) (C := "RangeCoders") (T := T_RC) (N := 8) hx hb hg in_RC hown hK hP 0 rfl rfl 4 (by decide) (hg _ k262) (fun _ h9 => h9) rfl d_RC_bits_26 ?_
        refine lv_if_eq (tgt := 35) hx hb d_RC_bits_29 (by decide) (fun c_5 => ?_) (fun c_5 => ?_)
        · refine lv_aload_n hx hb d_RC_bits_35 rfl (lv_at hl 0 rfl) ?_
          refine va_get (D := (dC, dI)) (ci := 6) (v := .int (nI ki)) (C := "RangeCoders") (T := T_RC) (N := 8) hx hb hg in_RC hown hK hP 0 rfl rfl 3 (by decide) (hg _ k261) (fun _ h9 => h9) rfl d_RC_bits_36 ?_
          refine lv_sipush (v := 600) hx hb d_RC_bits_39 (by decide) ?_
          refine lv_icmp_lt (tgt := 48) hx hb d_RC_bits_42 (by decide) (fun c_6 => ?_) (fun c_6 => ?_)
          · refine lv_aload_n hx hb d_RC_bits_48 rfl (lv_at hl 0 rfl) ?_
            refine va_get (D := (dC, dI)) (ci := 6) (v := .ref co) (C := "RangeCoders") (T := T_RC) (N := 8) hx hb hg in_RC hown hK hP 0 rfl rfl 0 (by decide) (hg _ k258) (fun _ h9 => h9) rfl d_RC_bits_49 ?_
            refine lv_iload_n hx hb d_RC_bits_52 rfl (lv_at hl 1 rfl) ?_
            refine lv_iload_n hx hb d_RC_bits_53 rfl (lv_at hl 2 rfl) ?_
            refine my_cvg (wr := [(rc, Sum.inr (6, [Value.ref co, Value.ref ma, Value.int (nI k), Value.int (nI ki), Value.int 0, Value.int frd, Value.int fbd, Value.int fir]))]) (va_runU (As := [Value.int (nI v), Value.int (nI b)]) (rest := []) ⟨hx, hb, hml, hown, hts⟩ (f_Bits_writeValue l dC dI cI cM cO H.size (hSl H) co xshift xkeptCode xkeptRange xkeptAsked xcode xreadLow xreadRange ri ro rw xasked Rg L ca Pn rwa rwk rwf bs v b (hb1) (hb2) (by omega) (by first | assumption | omega) (by first | assumption | omega) (by first | assumption | omega) (by first | assumption | omega)) (va_cwA 2 hts (my_gU k554 k556 k557 k558 k8 k559) rfl rfl rfl (hN.1 _ j555 rfl) (by decide +kernel) ⟨by rw [hR]; exact Nat.le_of_ble_eq_true rfl, by rw [hR]; exact Nat.le_of_ble_eq_true rfl⟩) (my_preVg hK hN (hP.sub [3, 1, 2] rfl) (hD.sub [3, 1, 2] (by decide +kernel) rfl) 0 rfl rfl) rfl rfl hl.1 rfl (lv_room (Nat.le_of_ble_eq_true rfl)) d_RC_bits_54 ⟨by rw [hR]; exact (show 0 + (rPh rwk) ≤ (rPh rwk) by omega), by rw [hR]; exact (show 0 + (rPh rwk) ≤ (rPh rwk) by omega)⟩) hP hD hS hA [3, 1, 2] [0] rfl rfl (by decide +kernel) (by decide +kernel) (fun u9 d_54 H locs hd_54 hw_54 hP hD hS => ?_)
            obtain ⟨rwaq_54, rwkq_54, rwfq_54⟩ := u9
            obtain ⟨hrw_54, hGrw_54⟩ : rOk (nI (eB (vbN v b (Rg, L, ca, Pn, bs))).length) rwkq_54 ∧ gIs rwfq_54 (eB (vbN v b (Rg, L, ca, Pn, bs))) := hw_54
            have hd_54 : d_54 + (rPh rwkq_54) ≤ (rPh rwk) := hd_54
            have hPD : my_PD (dC, dI) vwCl A [(rc, Sum.inr (6, [Value.ref co, Value.ref ma, Value.int (nI k), Value.int (nI ki), Value.int 0, Value.int frd, Value.int fbd, Value.int fir])), (co, Sum.inr (3, [Value.int xshift, Value.long xkeptCode, Value.long xkeptRange, Value.int xkeptAsked, Value.int (caI (eC (vbN v b (Rg, L, ca, Pn, bs)))), Value.int (nI (eP (vbN v b (Rg, L, ca, Pn, bs)))), Value.long (lN (eL (vbN v b (Rg, L, ca, Pn, bs)))), Value.long (lN (eR (vbN v b (Rg, L, ca, Pn, bs)))), Value.long xcode, Value.long xreadLow, Value.long xreadRange, Value.ref ri, Value.ref ro, Value.ref rw, Value.int xasked])), (rw, Sum.inr (0, [Value.int (nI (eB (vbN v b (Rg, L, ca, Pn, bs))).length), Value.ref rwaq_54])), (rwaq_54, Sum.inl (cI, rwkq_54, Sum.inl rwfq_54))] H := ⟨hP, hD⟩
            have hP := hPD.1
            have hD := hPD.2
            refine lv_aload_n hx hb d_RC_bits_57 rfl (lv_at hl 0 rfl) ?_
            refine lv_dup hx hb d_RC_bits_58 rfl ?_
            refine va_get (D := (dC, dI)) (ci := 6) (v := .int (nI ki)) (C := "RangeCoders") (T := T_RC) (N := 8) hx hb hg in_RC hown hK hP 0 rfl rfl 3 (by decide) (hg _ k261) (fun _ h9 => h9) rfl d_RC_bits_59 ?_
            refine lv_iconst (v := 1) hx hb d_RC_bits_62 (by decide) ?_
            refine lv_iadd hx hb d_RC_bits_63 ?_
            refine lv_topi (fun v_7 ev_7 => ?_)
            have z9 : v_7 = nI (ki + 1) := by rw [ev_7]; exact nI_1 _
            subst z9
            refine va_put (D := (dC, dI)) (ci := 6) (v := .int (nI (ki + 1))) (ty := .int) (C := "RangeCoders") (T := T_RC) (N := 8) hx hb hg in_RC t_RC o_RC n_RC hown hK hP hD hS 0 rfl rfl 3 (by decide) (hg _ k261) (fun _ h9 => h9) rfl (o_RC 3 (by decide)) rfl rfl (Nat.le_of_ble_eq_true rfl) d_RC_bits_64 (fun H locs hP hD hS => ?_)
            have hPD : my_PD (dC, dI) vwCl A [(rc, Sum.inr (6, [Value.ref co, Value.ref ma, Value.int (nI k), Value.int (nI (ki + 1)), Value.int 0, Value.int frd, Value.int fbd, Value.int fir])), (co, Sum.inr (3, [Value.int xshift, Value.long xkeptCode, Value.long xkeptRange, Value.int xkeptAsked, Value.int (caI (eC (vbN v b (Rg, L, ca, Pn, bs)))), Value.int (nI (eP (vbN v b (Rg, L, ca, Pn, bs)))), Value.long (lN (eL (vbN v b (Rg, L, ca, Pn, bs)))), Value.long (lN (eR (vbN v b (Rg, L, ca, Pn, bs)))), Value.long xcode, Value.long xreadLow, Value.long xreadRange, Value.ref ri, Value.ref ro, Value.ref rw, Value.int xasked])), (rw, Sum.inr (0, [Value.int (nI (eB (vbN v b (Rg, L, ca, Pn, bs))).length), Value.ref rwaq_54])), (rwaq_54, Sum.inl (cI, rwkq_54, Sum.inl rwfq_54))] H := ⟨hP, hD⟩
            have hP := hPD.1
            have hD := hPD.2
            refine lv_aload_n hx hb d_RC_bits_67 rfl (lv_at hl 0 rfl) ?_
            refine va_get (D := (dC, dI)) (ci := 6) (v := .int (nI (ki + 1))) (C := "RangeCoders") (T := T_RC) (N := 8) hx hb hg in_RC hown hK hP 0 rfl rfl 3 (by decide) (hg _ k261) (fun _ h9 => h9) rfl d_RC_bits_68 ?_
            exact my_iretg (v := (nI (ki + 1))) hx hb hr (rfl) hlocks hQ hK hS (rwaq_54, rwkq_54, rwfq_54) (show (0 + d_54) + (rPh rwkq_54) ≤ (rPh rwk) by omega) (show (0 + d_54) + (rPh rwkq_54) ≤ (rPh rwk) by omega) (⟨rfl, hrw_54, hGrw_54⟩) (hP.sub [0, 1, 2, 3] rfl) (hD.sub [0, 1, 2, 3] (by decide +kernel) rfl) d_RC_bits_71
          · exact absurd (nI_lt (b := 600) hki (by decide)) c_6
        · exact absurd (by decide) c_5
      · exact absurd (nI_lt hv (by omega)) c_4
set_option maxHeartbeats 2000000 in
set_option maxRecDepth 100000 in
theorem f_RC_putR_Bits (l : Launch) (dC : Nat → ClassId) (dI : Nat → Nat → Nat) (cI cM cO : ClassId) (sz : Nat) (rc : Nat) (ma : Nat) (k : Nat) (frd : Int32) (fbd : Int32) (fir : Int32) (mf : Nat → Option Nat) (co : Nat) (xshift : Int32) (xkeptCode : Int64) (xkeptRange : Int64) (xkeptAsked : Int32) (xcache : Int32) (xpending : Int32) (xlow : Int64) (xrange : Int64) (xcode : Int64) (xreadLow : Int64) (xreadRange : Int64) (ri : Nat) (ro : Nat) (rw : Nat) (xasked : Int32) (j : Nat) (mo : Nat) (o2 : Nat) (ka : Nat) (kl : Nat) (kf : Nat → Int32) (oo : Nat) (osg : Int32) (ofc : Int32) (oca : Nat) (opa : Nat) (n : Nat) (ocf : Nat → Int32) (opl : Nat) (opf : Nat → Int32) (osm : Int32) (ki : Nat) (t : Nat) (hk8 : k ≤ 8) (hj : j < k) (hmf : mf j = some mo) (hkl : kl ≤ 64) (ht : t < kl) (hk6 : ki = 600) : MetI l y_RC_put (Cond.code y_RC_put prog_1_method_4_code 4 (some .int) :: gw) ({ frames := 1, cells := 0, slots := 0, locals := 22 } : Room) (dC, dI) vwCl (kT cI cM cO) [Value.ref rc, Value.int (nI j), Value.int (nI t)] [(rc, Sum.inr (6, [Value.ref co, Value.ref ma, Value.int (nI k), Value.int (nI ki), Value.int 0, Value.int frd, Value.int fbd, Value.int fir])), (ma, Sum.inl (cM, 8, Sum.inr (Sum.inr (Sum.inr (Sum.inr mf))))), (co, Sum.inr (3, [Value.int xshift, Value.long xkeptCode, Value.long xkeptRange, Value.int xkeptAsked, Value.int xcache, Value.int xpending, Value.long xlow, Value.long xrange, Value.long xcode, Value.long xreadLow, Value.long xreadRange, Value.ref ri, Value.ref ro, Value.ref rw, Value.int xasked])), (mo, Sum.inr (8, [Value.ref ka, Value.ref oo, Value.ref o2])), (ka, Sum.inl (cI, kl, Sum.inl kf)), (oo, Sum.inr (7, [Value.int osg, Value.int osm, Value.int ofc, Value.ref oca, Value.ref opa])), (oca, Sum.inl (cI, n, Sum.inl ocf)), (opa, Sum.inl (cI, opl, Sum.inl opf))] sz (fun (r : Int32) (u : Unit) => r = -4) (fun (u : Unit) => [(rc, Sum.inr (6, [Value.ref co, Value.ref ma, Value.int (nI k), Value.int (nI ki), Value.int 0, Value.int frd, Value.int fbd, Value.int fir])), (ma, Sum.inl (cM, 8, Sum.inr (Sum.inr (Sum.inr (Sum.inr mf))))), (co, Sum.inr (3, [Value.int xshift, Value.long xkeptCode, Value.long xkeptRange, Value.int xkeptAsked, Value.int xcache, Value.int xpending, Value.long xlow, Value.long xrange, Value.long xcode, Value.long xreadLow, Value.long xreadRange, Value.ref ri, Value.ref ro, Value.ref rw, Value.int xasked])), (mo, Sum.inr (8, [Value.ref ka, Value.ref oo, Value.ref o2])), (ka, Sum.inl (cI, kl, Sum.inl kf)), (oo, Sum.inr (7, [Value.int osg, Value.int osm, Value.int ofc, Value.ref oca, Value.ref opa])), (oca, Sum.inl (cI, n, Sum.inl ocf)), (opa, Sum.inl (cI, opl, Sum.inl opf))]) 0 0 := by
  refine my_ofI (cc := prog_1_method_4_code) (n := 4) (ret := (some .int)) (by decide) rfl (Nat.le_of_ble_eq_true rfl) ?_
  intro p e s m args below meth c R Q A ls H locs hx hb hr hts hown hlocks hml hnm hR hQ hA hl hP hK hN hD hS
  have hg : ∀ w ∈ gw, w.before args s = true := fun w h => hts w (List.mem_cons_of_mem _ h)
  have hown : s.vm.findClass "RangeCoders" = some m.cls := hown
  have hl : lv_has ls 4 [(0, Value.ref rc), (1, Value.int (nI j)), (2, Value.int (nI t))] := hl
  refine lv_aload_n hx hb d_RC_put_0 rfl (lv_at hl 0 rfl) ?_
  refine lv_iload_n hx hb d_RC_put_1 rfl (lv_at hl 1 rfl) ?_
  refine my_cq (wr := [(co, Sum.inr (3, [Value.int xshift, Value.long xkeptCode, Value.long xkeptRange, Value.int xkeptAsked, Value.int xcache, Value.int xpending, Value.long xlow, Value.long xrange, Value.long xcode, Value.long xreadLow, Value.long xreadRange, Value.ref ri, Value.ref ro, Value.ref rw, Value.int xasked])), (mo, Sum.inr (8, [Value.ref ka, Value.ref oo, Value.ref o2])), (ka, Sum.inl (cI, kl, Sum.inl kf)), (oo, Sum.inr (7, [Value.int osg, Value.int osm, Value.int ofc, Value.ref oca, Value.ref opa])), (oca, Sum.inl (cI, n, Sum.inl ocf)), (opa, Sum.inl (cI, opl, Sum.inl opf))]) (va_runV (As := [Value.int (nI j)]) (rest := []) ⟨hx, hb, hml, hown, hts⟩ (c_RC_modelAtB l dC dI cI cM cO H.size rc ma k (nI ki) 0 frd fbd fir mf co j mo (by first | assumption | omega) (by first | assumption | omega) (by first | assumption | omega)) (cwV 1 hts (my_gV k412 k414 ks3 k1 k415) rfl rfl rfl cu_RC_modelAt_1 ⟨by rw [hR]; exact Nat.le_of_ble_eq_true rfl, by rw [hR]; exact Nat.le_of_ble_eq_true rfl⟩) (my_preV hK hN (hP.sub [0, 1] rfl) (hD.sub [0, 1] (by decide +kernel) rfl) 0 rfl rfl) rfl rfl hl.1 rfl (lv_room (Nat.le_of_ble_eq_true rfl)) d_RC_put_2 ⟨by rw [hR]; exact Nat.le_of_ble_eq_true rfl, by rw [hR]; exact Nat.le_of_ble_eq_true rfl⟩) hP hD hS hA [0, 1] [2, 3, 4, 5, 6, 7] rfl rfl (by decide +kernel) (by decide +kernel) (fun r_2 u9 H locs hw_2 hP hD hS => ?_)
  have hr_2 : r_2 = some mo := hw_2
  have hPD : my_PD (dC, dI) vwCl A [(co, Sum.inr (3, [Value.int xshift, Value.long xkeptCode, Value.long xkeptRange, Value.int xkeptAsked, Value.int xcache, Value.int xpending, Value.long xlow, Value.long xrange, Value.long xcode, Value.long xreadLow, Value.long xreadRange, Value.ref ri, Value.ref ro, Value.ref rw, Value.int xasked])), (mo, Sum.inr (8, [Value.ref ka, Value.ref oo, Value.ref o2])), (ka, Sum.inl (cI, kl, Sum.inl kf)), (oo, Sum.inr (7, [Value.int osg, Value.int osm, Value.int ofc, Value.ref oca, Value.ref opa])), (oca, Sum.inl (cI, n, Sum.inl ocf)), (opa, Sum.inl (cI, opl, Sum.inl opf)), (rc, Sum.inr (6, [Value.ref co, Value.ref ma, Value.int (nI k), Value.int (nI ki), Value.int 0, Value.int frd, Value.int fbd, Value.int fir])), (ma, Sum.inl (cM, 8, Sum.inr (Sum.inr (Sum.inr (Sum.inr mf)))))] H := ⟨hP, hD⟩
  have hP := hPD.1
  have hD := hPD.2
  subst hr_2
  refine W.eq (g2 := F0 m 5 ls [Value.ref mo]) rfl ?_
  refine lv_astore_n (lv' := [(3, Value.ref mo), (0, Value.ref rc), (1, Value.int (nI j)), (2, Value.int (nI t))]) hx hb d_RC_put_5 rfl hl (by decide) rfl (fun ls hl => ?_)
  refine lv_aload_n hx hb d_RC_put_6 rfl (lv_at hl 0 rfl) ?_
  refine lv_ifnull hx hb d_RC_put_7 ?_
  refine lv_aload_n hx hb d_RC_put_10 rfl (lv_at hl 0 rfl) ?_
  refine lv_iload_n hx hb d_RC_put_11 rfl (lv_at hl 3 rfl) ?_
  refine my_ci (wr := [(co, Sum.inr (3, [Value.int xshift, Value.long xkeptCode, Value.long xkeptRange, Value.int xkeptAsked, Value.int xcache, Value.int xpending, Value.long xlow, Value.long xrange, Value.long xcode, Value.long xreadLow, Value.long xreadRange, Value.ref ri, Value.ref ro, Value.ref rw, Value.int xasked])), (oo, Sum.inr (7, [Value.int osg, Value.int osm, Value.int ofc, Value.ref oca, Value.ref opa])), (oca, Sum.inl (cI, n, Sum.inl ocf)), (opa, Sum.inl (cI, opl, Sum.inl opf)), (rc, Sum.inr (6, [Value.ref co, Value.ref ma, Value.int (nI k), Value.int (nI ki), Value.int 0, Value.int frd, Value.int fbd, Value.int fir])), (ma, Sum.inl (cM, 8, Sum.inr (Sum.inr (Sum.inr (Sum.inr mf)))))]) (va_runV (As := [Value.int (nI t)]) (rest := []) ⟨hx, hb, hml, hown, hts⟩ (f_Model_hasSign l dC dI cI cM cO H.size mo ka oo o2 kl kf (nI t) (by first | assumption | omega)) (cwV 1 hts (my_gV k416 k417 k418 k13 k419) rfl rfl rfl cu_Model_hasSign_1 ⟨by rw [hR]; exact Nat.le_of_ble_eq_true rfl, by rw [hR]; exact Nat.le_of_ble_eq_true rfl⟩) (my_preV hK hN (hP.sub [1, 2] rfl) (hD.sub [1, 2] (by decide +kernel) rfl) 0 rfl rfl) rfl rfl hl.1 rfl (lv_room (Nat.le_of_ble_eq_true rfl)) d_RC_put_12 ⟨by rw [hR]; exact Nat.le_of_ble_eq_true rfl, by rw [hR]; exact Nat.le_of_ble_eq_true rfl⟩) hP hD hS hA [1, 2] [0, 3, 4, 5, 6, 7] rfl rfl (by decide +kernel) (by decide +kernel) (fun r_12 u9 H locs hw_12 hP hD hS => ?_)
  have hr_12 : r_12 = if 0 ≤ (nI t) ∧ (nI t) < nI kl then 1 else 0 := hw_12
  have hPD : my_PD (dC, dI) vwCl A [(co, Sum.inr (3, [Value.int xshift, Value.long xkeptCode, Value.long xkeptRange, Value.int xkeptAsked, Value.int xcache, Value.int xpending, Value.long xlow, Value.long xrange, Value.long xcode, Value.long xreadLow, Value.long xreadRange, Value.ref ri, Value.ref ro, Value.ref rw, Value.int xasked])), (oo, Sum.inr (7, [Value.int osg, Value.int osm, Value.int ofc, Value.ref oca, Value.ref opa])), (oca, Sum.inl (cI, n, Sum.inl ocf)), (opa, Sum.inl (cI, opl, Sum.inl opf)), (rc, Sum.inr (6, [Value.ref co, Value.ref ma, Value.int (nI k), Value.int (nI ki), Value.int 0, Value.int frd, Value.int fbd, Value.int fir])), (ma, Sum.inl (cM, 8, Sum.inr (Sum.inr (Sum.inr (Sum.inr mf))))), (mo, Sum.inr (8, [Value.ref ka, Value.ref oo, Value.ref o2])), (ka, Sum.inl (cI, kl, Sum.inl kf))] H := ⟨hP, hD⟩
  have hP := hPD.1
  have hD := hPD.2
  refine lv_if_ne (tgt := 20) hx hb d_RC_put_15 (by decide) (fun c_1 => ?_) (fun c_1 => ?_)
  · refine lv_aload_n hx hb d_RC_put_20 rfl (lv_at hl 1 rfl) ?_
    refine va_get (D := (dC, dI)) (ci := 6) (v := .int 0) (C := "RangeCoders") (T := T_RC) (N := 8) hx hb hg in_RC hown hK hP 4 rfl rfl 4 (by decide) (hg _ k262) (fun _ h9 => h9) rfl d_RC_put_21 ?_
    refine lv_if_ne (tgt := 42) hx hb d_RC_put_24 (by decide) (fun c_2 => ?_) (fun c_2 => ?_)
    · exact absurd rfl c_2
    · refine lv_aload_n hx hb d_RC_put_27 rfl (lv_at hl 1 rfl) ?_
      refine va_get (D := (dC, dI)) (ci := 6) (v := .ref co) (C := "RangeCoders") (T := T_RC) (N := 8) hx hb hg in_RC hown hK hP 4 rfl rfl 0 (by decide) (hg _ k258) (fun _ h9 => h9) rfl d_RC_put_28 ?_
      refine lv_aload_n hx hb d_RC_put_31 rfl (lv_at hl 0 rfl) ?_
      refine va_get (D := (dC, dI)) (ci := 8) (v := .ref oo) (C := "RangeCoders$Model") (T := T_Model) (N := 3) hx hb hg in_Model hown hK hP 6 rfl rfl 1 (by decide) (hg _ k343) (fun _ h9 => h9) rfl d_RC_put_32 ?_
      refine lv_iload_n hx hb d_RC_put_35 rfl (lv_at hl 3 rfl) ?_
      refine my_ci (wr := [(rc, Sum.inr (6, [Value.ref co, Value.ref ma, Value.int (nI k), Value.int (nI ki), Value.int 0, Value.int frd, Value.int fbd, Value.int fir])), (ma, Sum.inl (cM, 8, Sum.inr (Sum.inr (Sum.inr (Sum.inr mf))))), (mo, Sum.inr (8, [Value.ref ka, Value.ref oo, Value.ref o2])), (ka, Sum.inl (cI, kl, Sum.inl kf))]) (va_runU (As := [Value.ref oo, Value.int (nI t)]) (rest := []) ⟨hx, hb, hml, hown, hts⟩ (f_Bits_canWrite l dC dI cI cM cO H.size co xshift xkeptCode xkeptRange xkeptAsked xcache xpending xlow xrange xcode xreadLow xreadRange ri ro rw xasked oo osg ofc oca opa n ocf opl opf osm (nI t)) (va_cwO 2 hts (my_gO k424 k426 k425 k427 k428 k8 k429) rfl rfl rfl (List.mem_cons_of_mem _ k434) (by decide +kernel) ⟨by rw [hR]; exact Nat.le_of_ble_eq_true rfl, by rw [hR]; exact Nat.le_of_ble_eq_true rfl⟩) (my_preV hK hN (hP.sub [0, 1, 2, 3] rfl) (hD.sub [0, 1, 2, 3] (by decide +kernel) rfl) 0 rfl rfl) rfl rfl hl.1 rfl (lv_room (Nat.le_of_ble_eq_true rfl)) d_RC_put_36 ⟨by rw [hR]; exact Nat.le_of_ble_eq_true rfl, by rw [hR]; exact Nat.le_of_ble_eq_true rfl⟩) hP hD hS hA [0, 1, 2, 3] [4, 5, 6, 7] rfl rfl (by decide +kernel) (by decide +kernel) (fun r_36 u9 H locs hw_36 hP hD hS => ?_)
      have hr_36 : r_36 = 1 := hw_36
      have hPD : my_PD (dC, dI) vwCl A [(rc, Sum.inr (6, [Value.ref co, Value.ref ma, Value.int (nI k), Value.int (nI ki), Value.int 0, Value.int frd, Value.int fbd, Value.int fir])), (ma, Sum.inl (cM, 8, Sum.inr (Sum.inr (Sum.inr (Sum.inr mf))))), (mo, Sum.inr (8, [Value.ref ka, Value.ref oo, Value.ref o2])), (ka, Sum.inl (cI, kl, Sum.inl kf)), (co, Sum.inr (3, [Value.int xshift, Value.long xkeptCode, Value.long xkeptRange, Value.int xkeptAsked, Value.int xcache, Value.int xpending, Value.long xlow, Value.long xrange, Value.long xcode, Value.long xreadLow, Value.long xreadRange, Value.ref ri, Value.ref ro, Value.ref rw, Value.int xasked])), (oo, Sum.inr (7, [Value.int osg, Value.int osm, Value.int ofc, Value.ref oca, Value.ref opa])), (oca, Sum.inl (cI, n, Sum.inl ocf)), (opa, Sum.inl (cI, opl, Sum.inl opf))] H := ⟨hP, hD⟩
      have hP := hPD.1
      have hD := hPD.2
      refine lv_if_ne (tgt := 45) hx hb d_RC_put_39 (by decide) (fun c_3 => ?_) (fun c_3 => ?_)
      · refine lv_aload_n hx hb d_RC_put_45 rfl (lv_at hl 1 rfl) ?_
        refine va_get (D := (dC, dI)) (ci := 6) (v := .int (nI ki)) (C := "RangeCoders") (T := T_RC) (N := 8) hx hb hg in_RC hown hK hP 0 rfl rfl 3 (by decide) (hg _ k261) (fun _ h9 => h9) rfl d_RC_put_46 ?_
        refine lv_sipush (v := 600) hx hb d_RC_put_49 (by decide) ?_
        refine lv_icmp_lt (tgt := 58) hx hb d_RC_put_52 (by decide) (fun c_4 => ?_) (fun c_4 => ?_)
        · exact absurd c_4 (by rw [hk6]; decide)
        · refine lv_bipush (v := (-4)) hx hb d_RC_put_55 (by decide) ?_
          exact my_iret (v := (-4)) hx hb hr (rfl) hlocks hQ hK hS (Nat.le_refl _) (Nat.le_refl _) () (rfl) (hP.sub [0, 1, 4, 2, 3, 5, 6, 7] rfl) (hD.sub [0, 1, 4, 2, 3, 5, 6, 7] (by decide +kernel) rfl) d_RC_put_57
      · exact absurd (hr_36.symm.trans c_3) (by decide)
  · exact absurd (has_in ht (by omega)) (one_eq hr_12 c_1)
set_option maxHeartbeats 2000000 in
set_option maxRecDepth 100000 in
theorem f_RC_putL_Bits (l : Launch) (dC : Nat → ClassId) (dI : Nat → Nat → Nat) (cI cM cO : ClassId) (sz : Nat) (sl : Nat) (rc : Nat) (ma : Nat) (k : Nat) (frd : Int32) (fbd : Int32) (fir : Int32) (mf : Nat → Option Nat) (co : Nat) (xkeptCode : Int64) (xkeptRange : Int64) (xkeptAsked : Int32) (xcode : Int64) (xreadLow : Int64) (xreadRange : Int64) (ri : Nat) (ro : Nat) (rw : Nat) (xasked : Int32) (Rg : Nat) (L : Nat) (ca : Option Nat) (Pn : Nat) (rwa : Nat) (rwk : Nat) (rwf : Nat → Int32) (bs : List Nat) (j : Nat) (mo : Nat) (o2 : Nat) (ka : Nat) (kf : Nat → Int32) (oo : Nat) (ofc : Int32) (oca : Nat) (opa : Nat) (n : Nat) (ocf : Nat → Int32) (opl : Nat) (opf : Nat → Int32) (osm : Int32) (sg : Nat) (C : Nat → Nat) (sh : Nat) (lv : Nat) (t : Nat) (ki : Nat) (hki : ki < 600) (hk8 : k ≤ 8) (hj : j < k) (hmf : mf j = some mo) (hn : n ≤ 64) (hpl : opl ≤ 512) (hs9 : 2 ≤ sg) (hs8 : sg ≤ 64) (hlv : lv = lev sg) (hnl : n = 2 ^ lv) (ht : t < sg) (hofc : ofc = 1) (hf : tbI ocf n C) (hC : ∀ k, k < 64 → 1 ≤ C k ∧ C k ≤ 2047) (hs1 : 1 ≤ sh) (hs2 : sh ≤ 10) (hE : eInv (Rg, L, ca, Pn, bs)) (hrw : rOk (nI bs.length) rwk) (hGrw : gIs rwf bs) (hN9 : bs.length + Pn + 20 ≤ 7900) : MetIg l y_RC_put (Cond.code y_RC_put prog_1_method_4_code 4 (some .int) :: gw) ({ frames := 8, cells := rPh rwk, slots := rPh rwk, locals := 196 } : Room) (dC, dI) vwCl (kT cI cM cO) [Value.ref rc, Value.int (nI j), Value.int (nI t)] [(rc, Sum.inr (6, [Value.ref co, Value.ref ma, Value.int (nI k), Value.int (nI ki), Value.int 0, Value.int frd, Value.int fbd, Value.int fir])), (ma, Sum.inl (cM, 8, Sum.inr (Sum.inr (Sum.inr (Sum.inr mf))))), (co, Sum.inr (3, [Value.int (nI sh), Value.long xkeptCode, Value.long xkeptRange, Value.int xkeptAsked, Value.int (caI ca), Value.int (nI Pn), Value.long (lN L), Value.long (lN Rg), Value.long xcode, Value.long xreadLow, Value.long xreadRange, Value.ref ri, Value.ref ro, Value.ref rw, Value.int xasked])), (rw, Sum.inr (0, [Value.int (nI bs.length), Value.ref rwa])), (rwa, Sum.inl (cI, rwk, Sum.inl rwf)), (mo, Sum.inr (8, [Value.ref ka, Value.ref oo, Value.ref o2])), (ka, Sum.inl (cI, sg, Sum.inl kf)), (oo, Sum.inr (7, [Value.int (nI sg), Value.int osm, Value.int ofc, Value.ref oca, Value.ref opa])), (oca, Sum.inl (cI, n, Sum.inl ocf)), (opa, Sum.inl (cI, opl, Sum.inl opf))] sz sl (fun (r : Int32) (u : Nat × Nat × (Nat → Int32) × Int32 × (Nat → Int32)) => r = nI (ki + 1) ∧ rOk (nI (eB ((spN sh t lv 1 (Rg, L, ca, Pn, bs) C).1)).length) u.2.1 ∧ gIs u.2.2.1 (eB ((spN sh t lv 1 (Rg, L, ca, Pn, bs) C).1)) ∧ tbI u.2.2.2.2 n (spN sh t lv 1 (Rg, L, ca, Pn, bs) C).2) (fun (u : Nat × Nat × (Nat → Int32) × Int32 × (Nat → Int32)) => [(rc, Sum.inr (6, [Value.ref co, Value.ref ma, Value.int (nI k), Value.int (nI (ki + 1)), Value.int 0, Value.int frd, Value.int fbd, Value.int fir])), (ma, Sum.inl (cM, 8, Sum.inr (Sum.inr (Sum.inr (Sum.inr mf))))), (co, Sum.inr (3, [Value.int (nI sh), Value.long xkeptCode, Value.long xkeptRange, Value.int xkeptAsked, Value.int (caI (eC ((spN sh t lv 1 (Rg, L, ca, Pn, bs) C).1))), Value.int (nI (eP ((spN sh t lv 1 (Rg, L, ca, Pn, bs) C).1))), Value.long (lN (eL ((spN sh t lv 1 (Rg, L, ca, Pn, bs) C).1))), Value.long (lN (eR ((spN sh t lv 1 (Rg, L, ca, Pn, bs) C).1))), Value.long xcode, Value.long xreadLow, Value.long xreadRange, Value.ref ri, Value.ref ro, Value.ref rw, Value.int xasked])), (rw, Sum.inr (0, [Value.int (nI (eB ((spN sh t lv 1 (Rg, L, ca, Pn, bs) C).1)).length), Value.ref u.1])), (u.1, Sum.inl (cI, u.2.1, Sum.inl u.2.2.1)), (mo, Sum.inr (8, [Value.ref ka, Value.ref oo, Value.ref o2])), (ka, Sum.inl (cI, sg, Sum.inl kf)), (oo, Sum.inr (7, [Value.int (nI sg), Value.int u.2.2.2.1, Value.int ofc, Value.ref oca, Value.ref opa])), (oca, Sum.inl (cI, n, Sum.inl u.2.2.2.2)), (opa, Sum.inl (cI, opl, Sum.inl opf))]) (rPh rwk) (fun (u : Nat × Nat × (Nat → Int32) × Int32 × (Nat → Int32)) => rPh u.2.1) := by
  refine my_ofIg (cc := prog_1_method_4_code) (n := 4) (ret := (some .int)) (by decide) rfl (Nat.le_of_ble_eq_true rfl) ?_
  intro p e s m args below meth c R Q A ls H locs hx hb hr hts hown hlocks hml hnm hR hQ hA hl hP hK hN hD hS
  have hg : ∀ w ∈ gw, w.before args s = true := fun w h => hts w (List.mem_cons_of_mem _ h)
  have hown : s.vm.findClass "RangeCoders" = some m.cls := hown
  have hl : lv_has ls 4 [(0, Value.ref rc), (1, Value.int (nI j)), (2, Value.int (nI t))] := hl
  have hltw := rOk_lt hrw
  refine lv_aload_n hx hb d_RC_put_0 rfl (lv_at hl 0 rfl) ?_
  refine lv_iload_n hx hb d_RC_put_1 rfl (lv_at hl 1 rfl) ?_
  refine my_cq (wr := [(co, Sum.inr (3, [Value.int (nI sh), Value.long xkeptCode, Value.long xkeptRange, Value.int xkeptAsked, Value.int (caI ca), Value.int (nI Pn), Value.long (lN L), Value.long (lN Rg), Value.long xcode, Value.long xreadLow, Value.long xreadRange, Value.ref ri, Value.ref ro, Value.ref rw, Value.int xasked])), (rw, Sum.inr (0, [Value.int (nI bs.length), Value.ref rwa])), (rwa, Sum.inl (cI, rwk, Sum.inl rwf)), (mo, Sum.inr (8, [Value.ref ka, Value.ref oo, Value.ref o2])), (ka, Sum.inl (cI, sg, Sum.inl kf)), (oo, Sum.inr (7, [Value.int (nI sg), Value.int osm, Value.int ofc, Value.ref oca, Value.ref opa])), (oca, Sum.inl (cI, n, Sum.inl ocf)), (opa, Sum.inl (cI, opl, Sum.inl opf))]) (va_runV (As := [Value.int (nI j)]) (rest := []) ⟨hx, hb, hml, hown, hts⟩ (c_RC_modelAtB l dC dI cI cM cO H.size rc ma k (nI ki) 0 frd fbd fir mf co j mo (by first | assumption | omega) (by first | assumption | omega) (by first | assumption | omega)) (cwV 1 hts (my_gV k412 k414 ks3 k1 k415) rfl rfl rfl cu_RC_modelAt_1 ⟨by rw [hR]; exact Nat.le_of_ble_eq_true rfl, by rw [hR]; exact Nat.le_of_ble_eq_true rfl⟩) (my_preV hK hN (hP.sub [0, 1] rfl) (hD.sub [0, 1] (by decide +kernel) rfl) 0 rfl rfl) rfl rfl hl.1 rfl (lv_room (Nat.le_of_ble_eq_true rfl)) d_RC_put_2 ⟨by rw [hR]; exact (show 0 + 0 ≤ (rPh rwk) by omega), by rw [hR]; exact (show 0 + 0 ≤ (rPh rwk) by omega)⟩) hP hD hS hA [0, 1] [2, 3, 4, 5, 6, 7, 8, 9] rfl rfl (by decide +kernel) (by decide +kernel) (fun r_2 u9 H locs hw_2 hP hD hS => ?_)
  have hr_2 : r_2 = some mo := hw_2
  have hPD : my_PD (dC, dI) vwCl A [(co, Sum.inr (3, [Value.int (nI sh), Value.long xkeptCode, Value.long xkeptRange, Value.int xkeptAsked, Value.int (caI ca), Value.int (nI Pn), Value.long (lN L), Value.long (lN Rg), Value.long xcode, Value.long xreadLow, Value.long xreadRange, Value.ref ri, Value.ref ro, Value.ref rw, Value.int xasked])), (rw, Sum.inr (0, [Value.int (nI bs.length), Value.ref rwa])), (rwa, Sum.inl (cI, rwk, Sum.inl rwf)), (mo, Sum.inr (8, [Value.ref ka, Value.ref oo, Value.ref o2])), (ka, Sum.inl (cI, sg, Sum.inl kf)), (oo, Sum.inr (7, [Value.int (nI sg), Value.int osm, Value.int ofc, Value.ref oca, Value.ref opa])), (oca, Sum.inl (cI, n, Sum.inl ocf)), (opa, Sum.inl (cI, opl, Sum.inl opf)), (rc, Sum.inr (6, [Value.ref co, Value.ref ma, Value.int (nI k), Value.int (nI ki), Value.int 0, Value.int frd, Value.int fbd, Value.int fir])), (ma, Sum.inl (cM, 8, Sum.inr (Sum.inr (Sum.inr (Sum.inr mf)))))] H := ⟨hP, hD⟩
  have hP := hPD.1
  have hD := hPD.2
  subst hr_2
  refine W.eq (g2 := F0 m 5 ls [Value.ref mo]) rfl ?_
  refine lv_astore_n (lv' := [(3, Value.ref mo), (0, Value.ref rc), (1, Value.int (nI j)), (2, Value.int (nI t))]) hx hb d_RC_put_5 rfl hl (by decide) rfl (fun ls hl => ?_)
  refine lv_aload_n hx hb d_RC_put_6 rfl (lv_at hl 0 rfl) ?_
  refine lv_ifnull hx hb d_RC_put_7 ?_
  refine lv_aload_n hx hb d_RC_put_10 rfl (lv_at hl 0 rfl) ?_
  refine lv_iload_n hx hb d_RC_put_11 rfl (lv_at hl 3 rfl) ?_
  refine my_ci (wr := [(co, Sum.inr (3, [Value.int (nI sh), Value.long xkeptCode, Value.long xkeptRange, Value.int xkeptAsked, Value.int (caI ca), Value.int (nI Pn), Value.long (lN L), Value.long (lN Rg), Value.long xcode, Value.long xreadLow, Value.long xreadRange, Value.ref ri, Value.ref ro, Value.ref rw, Value.int xasked])), (rw, Sum.inr (0, [Value.int (nI bs.length), Value.ref rwa])), (rwa, Sum.inl (cI, rwk, Sum.inl rwf)), (oo, Sum.inr (7, [Value.int (nI sg), Value.int osm, Value.int ofc, Value.ref oca, Value.ref opa])), (oca, Sum.inl (cI, n, Sum.inl ocf)), (opa, Sum.inl (cI, opl, Sum.inl opf)), (rc, Sum.inr (6, [Value.ref co, Value.ref ma, Value.int (nI k), Value.int (nI ki), Value.int 0, Value.int frd, Value.int fbd, Value.int fir])), (ma, Sum.inl (cM, 8, Sum.inr (Sum.inr (Sum.inr (Sum.inr mf)))))]) (va_runV (As := [Value.int (nI t)]) (rest := []) ⟨hx, hb, hml, hown, hts⟩ (f_Model_hasSign l dC dI cI cM cO H.size mo ka oo o2 sg kf (nI t) (hs8)) (cwV 1 hts (my_gV k416 k417 k418 k13 k419) rfl rfl rfl cu_Model_hasSign_1 ⟨by rw [hR]; exact Nat.le_of_ble_eq_true rfl, by rw [hR]; exact Nat.le_of_ble_eq_true rfl⟩) (my_preV hK hN (hP.sub [3, 4] rfl) (hD.sub [3, 4] (by decide +kernel) rfl) 0 rfl rfl) rfl rfl hl.1 rfl (lv_room (Nat.le_of_ble_eq_true rfl)) d_RC_put_12 ⟨by rw [hR]; exact (show 0 + 0 ≤ (rPh rwk) by omega), by rw [hR]; exact (show 0 + 0 ≤ (rPh rwk) by omega)⟩) hP hD hS hA [3, 4] [0, 1, 2, 5, 6, 7, 8, 9] rfl rfl (by decide +kernel) (by decide +kernel) (fun r_12 u9 H locs hw_12 hP hD hS => ?_)
  have hr_12 : r_12 = if 0 ≤ (nI t) ∧ (nI t) < nI sg then 1 else 0 := hw_12
  have hPD : my_PD (dC, dI) vwCl A [(co, Sum.inr (3, [Value.int (nI sh), Value.long xkeptCode, Value.long xkeptRange, Value.int xkeptAsked, Value.int (caI ca), Value.int (nI Pn), Value.long (lN L), Value.long (lN Rg), Value.long xcode, Value.long xreadLow, Value.long xreadRange, Value.ref ri, Value.ref ro, Value.ref rw, Value.int xasked])), (rw, Sum.inr (0, [Value.int (nI bs.length), Value.ref rwa])), (rwa, Sum.inl (cI, rwk, Sum.inl rwf)), (oo, Sum.inr (7, [Value.int (nI sg), Value.int osm, Value.int ofc, Value.ref oca, Value.ref opa])), (oca, Sum.inl (cI, n, Sum.inl ocf)), (opa, Sum.inl (cI, opl, Sum.inl opf)), (rc, Sum.inr (6, [Value.ref co, Value.ref ma, Value.int (nI k), Value.int (nI ki), Value.int 0, Value.int frd, Value.int fbd, Value.int fir])), (ma, Sum.inl (cM, 8, Sum.inr (Sum.inr (Sum.inr (Sum.inr mf))))), (mo, Sum.inr (8, [Value.ref ka, Value.ref oo, Value.ref o2])), (ka, Sum.inl (cI, sg, Sum.inl kf))] H := ⟨hP, hD⟩
  have hP := hPD.1
  have hD := hPD.2
  refine lv_if_ne (tgt := 20) hx hb d_RC_put_15 (by decide) (fun c_1 => ?_) (fun c_1 => ?_)
  · refine lv_aload_n hx hb d_RC_put_20 rfl (lv_at hl 1 rfl) ?_
    refine va_get (D := (dC, dI)) (ci := 6) (v := .int 0) (C := "RangeCoders") (T := T_RC) (N := 8) hx hb hg in_RC hown hK hP 6 rfl rfl 4 (by decide) (hg _ k262) (fun _ h9 => h9) rfl d_RC_put_21 ?_
    refine lv_if_ne (tgt := 42) hx hb d_RC_put_24 (by decide) (fun c_2 => ?_) (fun c_2 => ?_)
    · exact absurd rfl c_2
    · refine lv_aload_n hx hb d_RC_put_27 rfl (lv_at hl 1 rfl) ?_
      refine va_get (D := (dC, dI)) (ci := 6) (v := .ref co) (C := "RangeCoders") (T := T_RC) (N := 8) hx hb hg in_RC hown hK hP 6 rfl rfl 0 (by decide) (hg _ k258) (fun _ h9 => h9) rfl d_RC_put_28 ?_
      refine lv_aload_n hx hb d_RC_put_31 rfl (lv_at hl 0 rfl) ?_
      refine va_get (D := (dC, dI)) (ci := 8) (v := .ref oo) (C := "RangeCoders$Model") (T := T_Model) (N := 3) hx hb hg in_Model hown hK hP 8 rfl rfl 1 (by decide) (hg _ k343) (fun _ h9 => h9) rfl d_RC_put_32 ?_
      refine lv_iload_n hx hb d_RC_put_35 rfl (lv_at hl 3 rfl) ?_
      refine my_ci (wr := [(rw, Sum.inr (0, [Value.int (nI bs.length), Value.ref rwa])), (rwa, Sum.inl (cI, rwk, Sum.inl rwf)), (rc, Sum.inr (6, [Value.ref co, Value.ref ma, Value.int (nI k), Value.int (nI ki), Value.int 0, Value.int frd, Value.int fbd, Value.int fir])), (ma, Sum.inl (cM, 8, Sum.inr (Sum.inr (Sum.inr (Sum.inr mf))))), (mo, Sum.inr (8, [Value.ref ka, Value.ref oo, Value.ref o2])), (ka, Sum.inl (cI, sg, Sum.inl kf))]) (va_runU (As := [Value.ref oo, Value.int (nI t)]) (rest := []) ⟨hx, hb, hml, hown, hts⟩ (f_Bits_canWrite l dC dI cI cM cO H.size co (nI sh) xkeptCode xkeptRange xkeptAsked (caI ca) (nI Pn) (lN L) (lN Rg) xcode xreadLow xreadRange ri ro rw xasked oo (nI sg) ofc oca opa n ocf opl opf osm (nI t)) (va_cwO 2 hts (my_gO k424 k426 k425 k427 k428 k8 k429) rfl rfl rfl (List.mem_cons_of_mem _ k434) (by decide +kernel) ⟨by rw [hR]; exact Nat.le_of_ble_eq_true rfl, by rw [hR]; exact Nat.le_of_ble_eq_true rfl⟩) (my_preV hK hN (hP.sub [0, 3, 4, 5] rfl) (hD.sub [0, 3, 4, 5] (by decide +kernel) rfl) 0 rfl rfl) rfl rfl hl.1 rfl (lv_room (Nat.le_of_ble_eq_true rfl)) d_RC_put_36 ⟨by rw [hR]; exact (show 0 + 0 ≤ (rPh rwk) by omega), by rw [hR]; exact (show 0 + 0 ≤ (rPh rwk) by omega)⟩) hP hD hS hA [0, 3, 4, 5] [1, 2, 6, 7, 8, 9] rfl rfl (by decide +kernel) (by decide +kernel) (fun r_36 u9 H locs hw_36 hP hD hS => ?_)
      have hr_36 : r_36 = 1 := hw_36
      have hPD : my_PD (dC, dI) vwCl A [(rw, Sum.inr (0, [Value.int (nI bs.length), Value.ref rwa])), (rwa, Sum.inl (cI, rwk, Sum.inl rwf)), (rc, Sum.inr (6, [Value.ref co, Value.ref ma, Value.int (nI k), Value.int (nI ki), Value.int 0, Value.int frd, Value.int fbd, Value.int fir])), (ma, Sum.inl (cM, 8, Sum.inr (Sum.inr (Sum.inr (Sum.inr mf))))), (mo, Sum.inr (8, [Value.ref ka, Value.ref oo, Value.ref o2])), (ka, Sum.inl (cI, sg, Sum.inl kf)), (co, Sum.inr (3, [Value.int (nI sh), Value.long xkeptCode, Value.long xkeptRange, Value.int xkeptAsked, Value.int (caI ca), Value.int (nI Pn), Value.long (lN L), Value.long (lN Rg), Value.long xcode, Value.long xreadLow, Value.long xreadRange, Value.ref ri, Value.ref ro, Value.ref rw, Value.int xasked])), (oo, Sum.inr (7, [Value.int (nI sg), Value.int osm, Value.int ofc, Value.ref oca, Value.ref opa])), (oca, Sum.inl (cI, n, Sum.inl ocf)), (opa, Sum.inl (cI, opl, Sum.inl opf))] H := ⟨hP, hD⟩
      have hP := hPD.1
      have hD := hPD.2
      refine lv_if_ne (tgt := 45) hx hb d_RC_put_39 (by decide) (fun c_3 => ?_) (fun c_3 => ?_)
      · refine lv_aload_n hx hb d_RC_put_45 rfl (lv_at hl 1 rfl) ?_
        refine va_get (D := (dC, dI)) (ci := 6) (v := .int (nI ki)) (C := "RangeCoders") (T := T_RC) (N := 8) hx hb hg in_RC hown hK hP 2 rfl rfl 3 (by decide) (hg _ k261) (fun _ h9 => h9) rfl d_RC_put_46 ?_
        refine lv_sipush (v := 600) hx hb d_RC_put_49 (by decide) ?_
        refine lv_icmp_lt (tgt := 58) hx hb d_RC_put_52 (by decide) (fun c_4 => ?_) (fun c_4 => ?_)
        · refine lv_aload_n hx hb d_RC_put_58 rfl (lv_at hl 1 rfl) ?_
          refine va_get (D := (dC, dI)) (ci := 6) (v := .ref co) (C := "RangeCoders") (T := T_RC) (N := 8) hx hb hg in_RC hown hK hP 2 rfl rfl 0 (by decide) (hg _ k258) (fun _ h9 => h9) rfl d_RC_put_59 ?_
          refine lv_aload_n hx hb d_RC_put_62 rfl (lv_at hl 0 rfl) ?_
          refine va_get (D := (dC, dI)) (ci := 8) (v := .ref oo) (C := "RangeCoders$Model") (T := T_Model) (N := 3) hx hb hg in_Model hown hK hP 4 rfl rfl 1 (by decide) (hg _ k343) (fun _ h9 => h9) rfl d_RC_put_63 ?_
          refine lv_iload_n hx hb d_RC_put_66 rfl (lv_at hl 3 rfl) ?_
          refine my_cvg (wr := [(rc, Sum.inr (6, [Value.ref co, Value.ref ma, Value.int (nI k), Value.int (nI ki), Value.int 0, Value.int frd, Value.int fbd, Value.int fir])), (ma, Sum.inl (cM, 8, Sum.inr (Sum.inr (Sum.inr (Sum.inr mf))))), (mo, Sum.inr (8, [Value.ref ka, Value.ref oo, Value.ref o2])), (ka, Sum.inl (cI, sg, Sum.inl kf))]) (va_runU (As := [Value.ref oo, Value.int (nI t)]) (rest := []) ⟨hx, hb, hml, hown, hts⟩ (f_Bits_writeSign l dC dI cI cM cO H.size (hSl H) co xkeptCode xkeptRange xkeptAsked xcode xreadLow xreadRange ri ro rw xasked Rg L ca Pn rwa rwk rwf bs oo ofc oca opa n ocf opl opf osm sg t C sh lv (by first | assumption | omega) (by first | assumption | omega) (by first | assumption | omega) (by first | assumption | omega) (by first | assumption | omega) (by first | assumption | omega) (by first | assumption | omega) (by first | assumption | omega) (by first | assumption | omega) (by first | assumption | omega) (by first | assumption | omega) (by first | assumption | omega) (by first | assumption | omega) (by first | assumption | omega) (by first | assumption | omega) (by first | assumption | omega)) (va_cwA 2 hts (my_gU k439 k441 k442 k443 k8 k444) rfl rfl rfl (hN.1 _ j440 rfl) (by decide +kernel) ⟨by rw [hR]; exact Nat.le_of_ble_eq_true rfl, by rw [hR]; exact Nat.le_of_ble_eq_true rfl⟩) (my_preVg hK hN (hP.sub [6, 0, 1, 7, 8, 9] rfl) (hD.sub [6, 0, 1, 7, 8, 9] (by decide +kernel) rfl) 0 rfl rfl) rfl rfl hl.1 rfl (lv_room (Nat.le_of_ble_eq_true rfl)) d_RC_put_67 ⟨by rw [hR]; exact (show 0 + (rPh rwk) ≤ (rPh rwk) by omega), by rw [hR]; exact (show 0 + (rPh rwk) ≤ (rPh rwk) by omega)⟩) hP hD hS hA [6, 0, 1, 7, 8, 9] [2, 3, 4, 5] rfl rfl (by decide +kernel) (by decide +kernel) (fun u9 d_67 H locs hd_67 hw_67 hP hD hS => ?_)
          obtain ⟨rwaq_67, rwkq_67, rwfq_67, osmq_67, ocfq_67⟩ := u9
          obtain ⟨hrw_67, hGrw_67, hf_67⟩ : rOk (nI (eB (spN sh t lv 1 (Rg, L, ca, Pn, bs) C).1).length) rwkq_67 ∧ gIs rwfq_67 (eB (spN sh t lv 1 (Rg, L, ca, Pn, bs) C).1) ∧ tbI ocfq_67 n (spN sh t lv 1 (Rg, L, ca, Pn, bs) C).2 := hw_67
          have hd_67 : d_67 + (rPh rwkq_67) ≤ (rPh rwk) := hd_67
          have hPD : my_PD (dC, dI) vwCl A [(rc, Sum.inr (6, [Value.ref co, Value.ref ma, Value.int (nI k), Value.int (nI ki), Value.int 0, Value.int frd, Value.int fbd, Value.int fir])), (ma, Sum.inl (cM, 8, Sum.inr (Sum.inr (Sum.inr (Sum.inr mf))))), (mo, Sum.inr (8, [Value.ref ka, Value.ref oo, Value.ref o2])), (ka, Sum.inl (cI, sg, Sum.inl kf)), (co, Sum.inr (3, [Value.int (nI sh), Value.long xkeptCode, Value.long xkeptRange, Value.int xkeptAsked, Value.int (caI (eC ((spN sh t lv 1 (Rg, L, ca, Pn, bs) C).1))), Value.int (nI (eP ((spN sh t lv 1 (Rg, L, ca, Pn, bs) C).1))), Value.long (lN (eL ((spN sh t lv 1 (Rg, L, ca, Pn, bs) C).1))), Value.long (lN (eR ((spN sh t lv 1 (Rg, L, ca, Pn, bs) C).1))), Value.long xcode, Value.long xreadLow, Value.long xreadRange, Value.ref ri, Value.ref ro, Value.ref rw, Value.int xasked])), (rw, Sum.inr (0, [Value.int (nI (eB (spN sh t lv 1 (Rg, L, ca, Pn, bs) C).1).length), Value.ref rwaq_67])), (rwaq_67, Sum.inl (cI, rwkq_67, Sum.inl rwfq_67)), (oo, Sum.inr (7, [Value.int (nI sg), Value.int osmq_67, Value.int ofc, Value.ref oca, Value.ref opa])), (oca, Sum.inl (cI, n, Sum.inl ocfq_67)), (opa, Sum.inl (cI, opl, Sum.inl opf))] H := ⟨hP, hD⟩
          have hP := hPD.1
          have hD := hPD.2
          refine lv_aload_n hx hb d_RC_put_70 rfl (lv_at hl 1 rfl) ?_
          refine lv_dup hx hb d_RC_put_71 rfl ?_
          refine va_get (D := (dC, dI)) (ci := 6) (v := .int (nI ki)) (C := "RangeCoders") (T := T_RC) (N := 8) hx hb hg in_RC hown hK hP 0 rfl rfl 3 (by decide) (hg _ k261) (fun _ h9 => h9) rfl d_RC_put_72 ?_
          refine lv_iconst (v := 1) hx hb d_RC_put_75 (by decide) ?_
          refine lv_iadd hx hb d_RC_put_76 ?_
          refine lv_topi (fun v_5 ev_5 => ?_)
          have z9 : v_5 = nI (ki + 1) := by rw [ev_5]; exact nI_1 _
          subst z9
          refine va_put (D := (dC, dI)) (ci := 6) (v := .int (nI (ki + 1))) (ty := .int) (C := "RangeCoders") (T := T_RC) (N := 8) hx hb hg in_RC t_RC o_RC n_RC hown hK hP hD hS 0 rfl rfl 3 (by decide) (hg _ k261) (fun _ h9 => h9) rfl (o_RC 3 (by decide)) rfl rfl (Nat.le_of_ble_eq_true rfl) d_RC_put_77 (fun H locs hP hD hS => ?_)
          have hPD : my_PD (dC, dI) vwCl A [(rc, Sum.inr (6, [Value.ref co, Value.ref ma, Value.int (nI k), Value.int (nI (ki + 1)), Value.int 0, Value.int frd, Value.int fbd, Value.int fir])), (ma, Sum.inl (cM, 8, Sum.inr (Sum.inr (Sum.inr (Sum.inr mf))))), (mo, Sum.inr (8, [Value.ref ka, Value.ref oo, Value.ref o2])), (ka, Sum.inl (cI, sg, Sum.inl kf)), (co, Sum.inr (3, [Value.int (nI sh), Value.long xkeptCode, Value.long xkeptRange, Value.int xkeptAsked, Value.int (caI (eC ((spN sh t lv 1 (Rg, L, ca, Pn, bs) C).1))), Value.int (nI (eP ((spN sh t lv 1 (Rg, L, ca, Pn, bs) C).1))), Value.long (lN (eL ((spN sh t lv 1 (Rg, L, ca, Pn, bs) C).1))), Value.long (lN (eR ((spN sh t lv 1 (Rg, L, ca, Pn, bs) C).1))), Value.long xcode, Value.long xreadLow, Value.long xreadRange, Value.ref ri, Value.ref ro, Value.ref rw, Value.int xasked])), (rw, Sum.inr (0, [Value.int (nI (eB (spN sh t lv 1 (Rg, L, ca, Pn, bs) C).1).length), Value.ref rwaq_67])), (rwaq_67, Sum.inl (cI, rwkq_67, Sum.inl rwfq_67)), (oo, Sum.inr (7, [Value.int (nI sg), Value.int osmq_67, Value.int ofc, Value.ref oca, Value.ref opa])), (oca, Sum.inl (cI, n, Sum.inl ocfq_67)), (opa, Sum.inl (cI, opl, Sum.inl opf))] H := ⟨hP, hD⟩
          have hP := hPD.1
          have hD := hPD.2
          refine lv_aload_n hx hb d_RC_put_80 rfl (lv_at hl 1 rfl) ?_
          refine va_get (D := (dC, dI)) (ci := 6) (v := .int (nI (ki + 1))) (C := "RangeCoders") (T := T_RC) (N := 8) hx hb hg in_RC hown hK hP 0 rfl rfl 3 (by decide) (hg _ k261) (fun _ h9 => h9) rfl d_RC_put_81 ?_
          exact my_iretg (v := (nI (ki + 1))) hx hb hr (rfl) hlocks hQ hK hS (rwaq_67, rwkq_67, rwfq_67, osmq_67, ocfq_67) (show (0 + d_67) + (rPh rwkq_67) ≤ (rPh rwk) by omega) (show (0 + d_67) + (rPh rwkq_67) ≤ (rPh rwk) by omega) (⟨rfl, hrw_67, hGrw_67, hf_67⟩) (hP.sub [0, 1, 4, 5, 6, 2, 3, 7, 8, 9] rfl) (hD.sub [0, 1, 4, 5, 6, 2, 3, 7, 8, 9] (by decide +kernel) rfl) d_RC_put_84
        · exact absurd (nI_lt (b := 600) hki (by decide)) c_4
      · exact absurd (hr_36.symm.trans c_3) (by decide)
  · exact absurd (has_in ht (by omega)) (one_eq hr_12 c_1)
set_option maxHeartbeats 2000000 in
set_option maxRecDepth 100000 in
theorem f_RC_countL_Bits (l : Launch) (dC : Nat → ClassId) (dI : Nat → Nat → Nat) (cI cM cO : ClassId) (sz : Nat) (rc : Nat) (ma : Nat) (k : Nat) (fit : Int32) (frd : Int32) (fbd : Int32) (fir : Int32) (mf : Nat → Option Nat) (co : Nat) (xshift : Int32) (xkeptCode : Int64) (xkeptRange : Int64) (xkeptAsked : Int32) (xcache : Int32) (xpending : Int32) (xlow : Int64) (xrange : Int64) (xcode : Int64) (xreadLow : Int64) (xreadRange : Int64) (ri : Nat) (ro : Nat) (rw : Nat) (xasked : Int32) (j : Nat) (mo : Nat) (o2 : Nat) (ka : Nat) (kl : Nat) (kf : Nat → Int32) (oo : Nat) (osg : Int32) (ofc : Int32) (oca : Nat) (opa : Nat) (n : Nat) (ocf : Nat → Int32) (opl : Nat) (opf : Nat → Int32) (osm : Int32) (C : Nat → Nat) (c9 : Nat) (t : Nat) (hk8 : k ≤ 8) (hj : j < k) (hmf : mf j = some mo) (hkl : kl ≤ 64) (hn : n ≤ 64) (hpl : opl ≤ 512) (ht : t < kl) (hc : c9 ≤ 4095) (hfi : ¬ 0 < fit) (hrd : frd = 0) (hk : tbI kf kl C) : MetI l y_RC_count (Cond.code y_RC_count prog_1_method_3_code 6 (some .int) :: gw) ({ frames := 3, cells := 0, slots := 0, locals := 66 } : Room) (dC, dI) vwCl (kT cI cM cO) [Value.ref rc, Value.int (nI j), Value.int (nI t), Value.int (nI c9)] [(rc, Sum.inr (6, [Value.ref co, Value.ref ma, Value.int (nI k), Value.int fit, Value.int 0, Value.int frd, Value.int fbd, Value.int fir])), (ma, Sum.inl (cM, 8, Sum.inr (Sum.inr (Sum.inr (Sum.inr mf))))), (co, Sum.inr (3, [Value.int xshift, Value.long xkeptCode, Value.long xkeptRange, Value.int xkeptAsked, Value.int xcache, Value.int xpending, Value.long xlow, Value.long xrange, Value.long xcode, Value.long xreadLow, Value.long xreadRange, Value.ref ri, Value.ref ro, Value.ref rw, Value.int xasked])), (mo, Sum.inr (8, [Value.ref ka, Value.ref oo, Value.ref o2])), (ka, Sum.inl (cI, kl, Sum.inl kf)), (oo, Sum.inr (7, [Value.int osg, Value.int osm, Value.int ofc, Value.ref oca, Value.ref opa])), (oca, Sum.inl (cI, n, Sum.inl ocf)), (opa, Sum.inl (cI, opl, Sum.inl opf))] sz (fun (r : Int32) (u : (Nat → Int32) × (Nat → Int32)) => r = nI (C t) ∧ u.1 = upd kf t (nI c9) ∧ tbI u.2 n (fun _ => 1024)) (fun (u : (Nat → Int32) × (Nat → Int32)) => [(rc, Sum.inr (6, [Value.ref co, Value.ref ma, Value.int (nI k), Value.int fit, Value.int 0, Value.int frd, Value.int fbd, Value.int fir])), (ma, Sum.inl (cM, 8, Sum.inr (Sum.inr (Sum.inr (Sum.inr mf))))), (co, Sum.inr (3, [Value.int xshift, Value.long xkeptCode, Value.long xkeptRange, Value.int xkeptAsked, Value.int xcache, Value.int xpending, Value.long xlow, Value.long xrange, Value.long xcode, Value.long xreadLow, Value.long xreadRange, Value.ref ri, Value.ref ro, Value.ref rw, Value.int xasked])), (mo, Sum.inr (8, [Value.ref ka, Value.ref oo, Value.ref o2])), (ka, Sum.inl (cI, kl, Sum.inl u.1)), (oo, Sum.inr (7, [Value.int osg, Value.int (nI (1024 * n)), Value.int ofc, Value.ref oca, Value.ref opa])), (oca, Sum.inl (cI, n, Sum.inl u.2)), (opa, Sum.inl (cI, opl, Sum.inl opf))]) 0 0 := by
  refine my_ofI (cc := prog_1_method_3_code) (n := 6) (ret := (some .int)) (by decide) rfl (Nat.le_of_ble_eq_true rfl) ?_
  intro p e s m args below meth c R Q A ls H locs hx hb hr hts hown hlocks hml hnm hR hQ hA hl hP hK hN hD hS
  have hg : ∀ w ∈ gw, w.before args s = true := fun w h => hts w (List.mem_cons_of_mem _ h)
  have hown : s.vm.findClass "RangeCoders" = some m.cls := hown
  have hl : lv_has ls 6 [(0, Value.ref rc), (1, Value.int (nI j)), (2, Value.int (nI t)), (3, Value.int (nI c9))] := hl
  refine lv_aload_n hx hb d_RC_count_0 rfl (lv_at hl 0 rfl) ?_
  refine lv_iload_n hx hb d_RC_count_1 rfl (lv_at hl 1 rfl) ?_
  refine my_cq (wr := [(co, Sum.inr (3, [Value.int xshift, Value.long xkeptCode, Value.long xkeptRange, Value.int xkeptAsked, Value.int xcache, Value.int xpending, Value.long xlow, Value.long xrange, Value.long xcode, Value.long xreadLow, Value.long xreadRange, Value.ref ri, Value.ref ro, Value.ref rw, Value.int xasked])), (mo, Sum.inr (8, [Value.ref ka, Value.ref oo, Value.ref o2])), (ka, Sum.inl (cI, kl, Sum.inl kf)), (oo, Sum.inr (7, [Value.int osg, Value.int osm, Value.int ofc, Value.ref oca, Value.ref opa])), (oca, Sum.inl (cI, n, Sum.inl ocf)), (opa, Sum.inl (cI, opl, Sum.inl opf))]) (va_runV (As := [Value.int (nI j)]) (rest := []) ⟨hx, hb, hml, hown, hts⟩ (c_RC_modelAtB l dC dI cI cM cO H.size rc ma k fit 0 frd fbd fir mf co j mo (by first | assumption | omega) (by first | assumption | omega) (by first | assumption | omega)) (cwV 1 hts (my_gV k412 k414 ks3 k1 k415) rfl rfl rfl cu_RC_modelAt_1 ⟨by rw [hR]; exact Nat.le_of_ble_eq_true rfl, by rw [hR]; exact Nat.le_of_ble_eq_true rfl⟩) (my_preV hK hN (hP.sub [0, 1] rfl) (hD.sub [0, 1] (by decide +kernel) rfl) 0 rfl rfl) rfl rfl hl.1 rfl (lv_room (Nat.le_of_ble_eq_true rfl)) d_RC_count_2 ⟨by rw [hR]; exact Nat.le_of_ble_eq_true rfl, by rw [hR]; exact Nat.le_of_ble_eq_true rfl⟩) hP hD hS hA [0, 1] [2, 3, 4, 5, 6, 7] rfl rfl (by decide +kernel) (by decide +kernel) (fun r_2 u9 H locs hw_2 hP hD hS => ?_)
  have hr_2 : r_2 = some mo := hw_2
  have hPD : my_PD (dC, dI) vwCl A [(co, Sum.inr (3, [Value.int xshift, Value.long xkeptCode, Value.long xkeptRange, Value.int xkeptAsked, Value.int xcache, Value.int xpending, Value.long xlow, Value.long xrange, Value.long xcode, Value.long xreadLow, Value.long xreadRange, Value.ref ri, Value.ref ro, Value.ref rw, Value.int xasked])), (mo, Sum.inr (8, [Value.ref ka, Value.ref oo, Value.ref o2])), (ka, Sum.inl (cI, kl, Sum.inl kf)), (oo, Sum.inr (7, [Value.int osg, Value.int osm, Value.int ofc, Value.ref oca, Value.ref opa])), (oca, Sum.inl (cI, n, Sum.inl ocf)), (opa, Sum.inl (cI, opl, Sum.inl opf)), (rc, Sum.inr (6, [Value.ref co, Value.ref ma, Value.int (nI k), Value.int fit, Value.int 0, Value.int frd, Value.int fbd, Value.int fir])), (ma, Sum.inl (cM, 8, Sum.inr (Sum.inr (Sum.inr (Sum.inr mf)))))] H := ⟨hP, hD⟩
  have hP := hPD.1
  have hD := hPD.2
  subst hr_2
  refine W.eq (g2 := F0 m 5 ls [Value.ref mo]) rfl ?_
  refine lv_astore (lv' := [(4, Value.ref mo), (0, Value.ref rc), (1, Value.int (nI j)), (2, Value.int (nI t)), (3, Value.int (nI c9))]) hx hb d_RC_count_5 hl (by decide) rfl (fun ls hl => ?_)
  refine lv_aload hx hb d_RC_count_7 (lv_at hl 0 rfl) ?_
  refine lv_ifnull hx hb d_RC_count_9 ?_
  refine lv_aload hx hb d_RC_count_12 (lv_at hl 0 rfl) ?_
  refine lv_iload_n hx hb d_RC_count_14 rfl (lv_at hl 3 rfl) ?_
  refine my_ci (wr := [(co, Sum.inr (3, [Value.int xshift, Value.long xkeptCode, Value.long xkeptRange, Value.int xkeptAsked, Value.int xcache, Value.int xpending, Value.long xlow, Value.long xrange, Value.long xcode, Value.long xreadLow, Value.long xreadRange, Value.ref ri, Value.ref ro, Value.ref rw, Value.int xasked])), (oo, Sum.inr (7, [Value.int osg, Value.int osm, Value.int ofc, Value.ref oca, Value.ref opa])), (oca, Sum.inl (cI, n, Sum.inl ocf)), (opa, Sum.inl (cI, opl, Sum.inl opf)), (rc, Sum.inr (6, [Value.ref co, Value.ref ma, Value.int (nI k), Value.int fit, Value.int 0, Value.int frd, Value.int fbd, Value.int fir])), (ma, Sum.inl (cM, 8, Sum.inr (Sum.inr (Sum.inr (Sum.inr mf)))))]) (va_runV (As := [Value.int (nI t)]) (rest := []) ⟨hx, hb, hml, hown, hts⟩ (f_Model_hasSign l dC dI cI cM cO H.size mo ka oo o2 kl kf (nI t) (by first | assumption | omega)) (cwV 1 hts (my_gV k416 k417 k418 k13 k419) rfl rfl rfl cu_Model_hasSign_1 ⟨by rw [hR]; exact Nat.le_of_ble_eq_true rfl, by rw [hR]; exact Nat.le_of_ble_eq_true rfl⟩) (my_preV hK hN (hP.sub [1, 2] rfl) (hD.sub [1, 2] (by decide +kernel) rfl) 0 rfl rfl) rfl rfl hl.1 rfl (lv_room (Nat.le_of_ble_eq_true rfl)) d_RC_count_15 ⟨by rw [hR]; exact Nat.le_of_ble_eq_true rfl, by rw [hR]; exact Nat.le_of_ble_eq_true rfl⟩) hP hD hS hA [1, 2] [0, 3, 4, 5, 6, 7] rfl rfl (by decide +kernel) (by decide +kernel) (fun r_15 u9 H locs hw_15 hP hD hS => ?_)
  have hr_15 : r_15 = if 0 ≤ (nI t) ∧ (nI t) < nI kl then 1 else 0 := hw_15
  have hPD : my_PD (dC, dI) vwCl A [(co, Sum.inr (3, [Value.int xshift, Value.long xkeptCode, Value.long xkeptRange, Value.int xkeptAsked, Value.int xcache, Value.int xpending, Value.long xlow, Value.long xrange, Value.long xcode, Value.long xreadLow, Value.long xreadRange, Value.ref ri, Value.ref ro, Value.ref rw, Value.int xasked])), (oo, Sum.inr (7, [Value.int osg, Value.int osm, Value.int ofc, Value.ref oca, Value.ref opa])), (oca, Sum.inl (cI, n, Sum.inl ocf)), (opa, Sum.inl (cI, opl, Sum.inl opf)), (rc, Sum.inr (6, [Value.ref co, Value.ref ma, Value.int (nI k), Value.int fit, Value.int 0, Value.int frd, Value.int fbd, Value.int fir])), (ma, Sum.inl (cM, 8, Sum.inr (Sum.inr (Sum.inr (Sum.inr mf))))), (mo, Sum.inr (8, [Value.ref ka, Value.ref oo, Value.ref o2])), (ka, Sum.inl (cI, kl, Sum.inl kf))] H := ⟨hP, hD⟩
  have hP := hPD.1
  have hD := hPD.2
  refine lv_if_ne (tgt := 23) hx hb d_RC_count_18 (by decide) (fun c_1 => ?_) (fun c_1 => ?_)
  · refine lv_iload_n hx hb d_RC_count_23 rfl (lv_at hl 4 rfl) ?_
    refine lv_if_lt (tgt := 34) hx hb d_RC_count_24 (by decide) (fun c_2 => ?_) (fun c_2 => ?_)
    · exact absurd c_2 (nI_pos (by omega))
    · refine lv_iload_n hx hb d_RC_count_27 rfl (lv_at hl 4 rfl) ?_
      refine lv_sipush (v := 4095) hx hb d_RC_count_28 (by decide) ?_
      refine lv_icmp_le (tgt := 37) hx hb d_RC_count_31 (by decide) (fun c_3 => ?_) (fun c_3 => ?_)
      · refine lv_aload_n hx hb d_RC_count_37 rfl (lv_at hl 1 rfl) ?_
        refine va_get (D := (dC, dI)) (ci := 6) (v := .int fit) (C := "RangeCoders") (T := T_RC) (N := 8) hx hb hg in_RC hown hK hP 4 rfl rfl 3 (by decide) (hg _ k261) (fun _ h9 => h9) rfl d_RC_count_38 ?_
        refine lv_if_le (tgt := 51) hx hb d_RC_count_41 (by decide) (fun c_4 => ?_) (fun c_4 => ?_)
        · refine lv_aload_n hx hb d_RC_count_51 rfl (lv_at hl 1 rfl) ?_
          refine va_get (D := (dC, dI)) (ci := 6) (v := .int frd) (C := "RangeCoders") (T := T_RC) (N := 8) hx hb hg in_RC hown hK hP 4 rfl rfl 5 (by decide) (hg _ k263) (fun _ h9 => h9) rfl d_RC_count_52 ?_
          refine lv_if_eq (tgt := 61) hx hb d_RC_count_55 (by decide) (fun c_5 => ?_) (fun c_5 => ?_)
          · refine lv_aload hx hb d_RC_count_61 (lv_at hl 0 rfl) ?_
            refine va_get (D := (dC, dI)) (ci := 8) (v := .ref ka) (C := "RangeCoders$Model") (T := T_Model) (N := 3) hx hb hg in_Model hown hK hP 6 rfl rfl 0 (by decide) (hg _ k341) (fun _ h9 => h9) rfl d_RC_count_63 ?_
            refine lv_iload_n hx hb d_RC_count_66 rfl (lv_at hl 3 rfl) ?_
            refine va_iald hx hb hK hP 7 0 rfl rfl (vp_in_nI ht (by omega)) d_RC_count_67 ?_
            refine lv_topi (fun v_6 ev_6 => ?_)
            refine lv_istore (lv' := [(5, Value.int v_6), (4, Value.ref mo), (0, Value.ref rc), (1, Value.int (nI j)), (2, Value.int (nI t)), (3, Value.int (nI c9))]) hx hb d_RC_count_68 hl (by decide) rfl (fun ls hl => ?_)
            refine lv_aload hx hb d_RC_count_70 (lv_at hl 1 rfl) ?_
            refine va_get (D := (dC, dI)) (ci := 8) (v := .ref ka) (C := "RangeCoders$Model") (T := T_Model) (N := 3) hx hb hg in_Model hown hK hP 6 rfl rfl 0 (by decide) (hg _ k341) (fun _ h9 => h9) rfl d_RC_count_72 ?_
            refine lv_iload_n hx hb d_RC_count_75 rfl (lv_at hl 4 rfl) ?_
            refine lv_iload_n hx hb d_RC_count_76 rfl (lv_at hl 5 rfl) ?_
            refine va_iast hx hb hK hP hD hS 7 0 rfl rfl (vp_in_nI ht (by omega)) d_RC_count_77 (fun H locs hP hD hS => ?_)
            have hPD : my_PD (dC, dI) vwCl A [(co, Sum.inr (3, [Value.int xshift, Value.long xkeptCode, Value.long xkeptRange, Value.int xkeptAsked, Value.int xcache, Value.int xpending, Value.long xlow, Value.long xrange, Value.long xcode, Value.long xreadLow, Value.long xreadRange, Value.ref ri, Value.ref ro, Value.ref rw, Value.int xasked])), (oo, Sum.inr (7, [Value.int osg, Value.int osm, Value.int ofc, Value.ref oca, Value.ref opa])), (oca, Sum.inl (cI, n, Sum.inl ocf)), (opa, Sum.inl (cI, opl, Sum.inl opf)), (rc, Sum.inr (6, [Value.ref co, Value.ref ma, Value.int (nI k), Value.int fit, Value.int 0, Value.int frd, Value.int fbd, Value.int fir])), (ma, Sum.inl (cM, 8, Sum.inr (Sum.inr (Sum.inr (Sum.inr mf))))), (mo, Sum.inr (8, [Value.ref ka, Value.ref oo, Value.ref o2])), (ka, Sum.inl (cI, kl, Sum.inl (upd kf (nI t).toNatClampNeg (nI c9))))] H := ⟨hP, hD⟩
            have hP := hPD.1
            have hD := hPD.2
            refine lv_aload_n hx hb d_RC_count_78 rfl (lv_at hl 2 rfl) ?_
            refine va_get (D := (dC, dI)) (ci := 6) (v := .int 0) (C := "RangeCoders") (T := T_RC) (N := 8) hx hb hg in_RC hown hK hP 4 rfl rfl 4 (by decide) (hg _ k262) (fun _ h9 => h9) rfl d_RC_count_79 ?_
            refine lv_if_ne (tgt := 102) hx hb d_RC_count_82 (by decide) (fun c_7 => ?_) (fun c_7 => ?_)
            · exact absurd rfl c_7
            · refine lv_aload_n hx hb d_RC_count_85 rfl (lv_at hl 2 rfl) ?_
              refine va_get (D := (dC, dI)) (ci := 6) (v := .ref co) (C := "RangeCoders") (T := T_RC) (N := 8) hx hb hg in_RC hown hK hP 4 rfl rfl 0 (by decide) (hg _ k258) (fun _ h9 => h9) rfl d_RC_count_86 ?_
              refine lv_aload hx hb d_RC_count_89 (lv_at hl 1 rfl) ?_
              refine va_get (D := (dC, dI)) (ci := 8) (v := .ref oo) (C := "RangeCoders$Model") (T := T_Model) (N := 3) hx hb hg in_Model hown hK hP 6 rfl rfl 1 (by decide) (hg _ k343) (fun _ h9 => h9) rfl d_RC_count_91 ?_
              refine lv_aload hx hb d_RC_count_94 (lv_at hl 1 rfl) ?_
              refine va_get (D := (dC, dI)) (ci := 8) (v := .ref ka) (C := "RangeCoders$Model") (T := T_Model) (N := 3) hx hb hg in_Model hown hK hP 6 rfl rfl 0 (by decide) (hg _ k341) (fun _ h9 => h9) rfl d_RC_count_96 ?_
              refine my_cv (wr := [(rc, Sum.inr (6, [Value.ref co, Value.ref ma, Value.int (nI k), Value.int fit, Value.int 0, Value.int frd, Value.int fbd, Value.int fir])), (ma, Sum.inl (cM, 8, Sum.inr (Sum.inr (Sum.inr (Sum.inr mf))))), (mo, Sum.inr (8, [Value.ref ka, Value.ref oo, Value.ref o2]))]) (va_runU (As := [Value.ref oo, Value.ref ka]) (rest := []) ⟨hx, hb, hml, hown, hts⟩ (f_Bits_prepare l dC dI cI cM cO H.size co xshift xkeptCode xkeptRange xkeptAsked xcache xpending xlow xrange xcode xreadLow xreadRange ri ro rw xasked oo osg ofc oca opa n ocf opl opf osm ka kl (upd kf (nI t).toNatClampNeg (nI c9)) (by first | assumption | omega) (by first | assumption | omega)) (va_cwA 2 hts (my_gU k353 k355 k356 k357 k8 k358) rfl rfl rfl (hN.1 _ j354 rfl) (by decide +kernel) ⟨by rw [hR]; exact Nat.le_of_ble_eq_true rfl, by rw [hR]; exact Nat.le_of_ble_eq_true rfl⟩) (my_preV hK hN (hP.sub [0, 1, 2, 3, 7] rfl) (hD.sub [0, 1, 2, 3, 7] (by decide +kernel) rfl) 0 rfl rfl) rfl rfl hl.1 rfl (lv_room (Nat.le_of_ble_eq_true rfl)) d_RC_count_99 ⟨by rw [hR]; exact Nat.le_of_ble_eq_true rfl, by rw [hR]; exact Nat.le_of_ble_eq_true rfl⟩) hP hD hS hA [0, 1, 2, 3, 7] [4, 5, 6] rfl rfl (by decide +kernel) (by decide +kernel) (fun u9 H locs hw_99 hP hD hS => ?_)
              obtain ⟨ocfq_99, rfl⟩ : ∃ z, z = u9 := ⟨_, rfl⟩
              have hf_99 : tbI ocfq_99 n (fun _ => 1024) := hw_99
              have hPD : my_PD (dC, dI) vwCl A [(rc, Sum.inr (6, [Value.ref co, Value.ref ma, Value.int (nI k), Value.int fit, Value.int 0, Value.int frd, Value.int fbd, Value.int fir])), (ma, Sum.inl (cM, 8, Sum.inr (Sum.inr (Sum.inr (Sum.inr mf))))), (mo, Sum.inr (8, [Value.ref ka, Value.ref oo, Value.ref o2])), (co, Sum.inr (3, [Value.int xshift, Value.long xkeptCode, Value.long xkeptRange, Value.int xkeptAsked, Value.int xcache, Value.int xpending, Value.long xlow, Value.long xrange, Value.long xcode, Value.long xreadLow, Value.long xreadRange, Value.ref ri, Value.ref ro, Value.ref rw, Value.int xasked])), (oo, Sum.inr (7, [Value.int osg, Value.int (nI (1024 * n)), Value.int ofc, Value.ref oca, Value.ref opa])), (oca, Sum.inl (cI, n, Sum.inl ocfq_99)), (opa, Sum.inl (cI, opl, Sum.inl opf)), (ka, Sum.inl (cI, kl, Sum.inl (upd kf (nI t).toNatClampNeg (nI c9))))] H := ⟨hP, hD⟩
              have hP := hPD.1
              have hD := hPD.2
              refine lv_iload hx hb d_RC_count_102 (lv_at hl 0 rfl) ?_
              exact my_iret (v := v_6) hx hb hr (rfl) hlocks hQ hK hS (Nat.le_refl _) (Nat.le_refl _) ((upd kf (nI t).toNatClampNeg (nI c9)), ocfq_99) (⟨by rw [ev_6]; exact tb_rd hk ht (by omega), by rw [nI_clamp (by omega)], hf_99⟩) (hP.sub [0, 1, 3, 2, 7, 4, 5, 6] rfl) (hD.sub [0, 1, 3, 2, 7, 4, 5, 6] (by decide +kernel) rfl) d_RC_count_104
          · exact absurd hrd c_5
        · exact absurd (Int32.not_le.mp c_4) hfi
      · exact absurd (nI_le (b := 4095) hc (by decide)) c_3
  · exact absurd (has_in ht (by omega)) (one_eq hr_15 c_1)
end
section
set_option maxHeartbeats 2000000 in
set_option maxRecDepth 100000 in
theorem f_Carries_hasWidth (l : Launch) (dC : Nat → ClassId) (dI : Nat → Nat → Nat) (cI cM cO : ClassId) (sz : Nat) (co : Nat) (xcache : Int32) (xpending : Int32) (xlow : Int64) (xrange : Int64) (xcode : Int64) (xreadLow : Int64) (xreadRange : Int64) (ri : Nat) (ro : Nat) (rw : Nat) (xasked : Int32) (wd : Int32) : MetI l y_Coder_hasWidth (Cond.code y_Coder_hasWidth prog_4_method_13_code 2 (some .boolean) :: gw) ({ frames := 0, cells := 0, slots := 0, locals := 0 } : Room) (dC, dI) vwCl (kT cI cM cO) [Value.ref co, Value.int wd] [(co, Sum.inr (1, [Value.int xcache, Value.int xpending, Value.long xlow, Value.long xrange, Value.long xcode, Value.long xreadLow, Value.long xreadRange, Value.ref ri, Value.ref ro, Value.ref rw, Value.int xasked]))] sz (fun (r : Int32) (u : Unit) => r = if 1 ≤ wd ∧ wd ≤ nI 12 then 1 else 0) (fun (u : Unit) => [(co, Sum.inr (1, [Value.int xcache, Value.int xpending, Value.long xlow, Value.long xrange, Value.long xcode, Value.long xreadLow, Value.long xreadRange, Value.ref ri, Value.ref ro, Value.ref rw, Value.int xasked]))]) 0 0 := by
  refine my_ofI (cc := prog_4_method_13_code) (n := 2) (ret := (some .boolean)) (by decide) rfl (Nat.le_of_ble_eq_true rfl) ?_
  intro p e s m args below meth c R Q A ls H locs hx hb hr hts hown hlocks hml hnm hR hQ hA hl hP hK hN hD hS
  have hg : ∀ w ∈ gw, w.before args s = true := fun w h => hts w (List.mem_cons_of_mem _ h)
  have hown : s.vm.findClass "RangeCoders$Coder" = some m.cls := hown
  have hl : lv_has ls 2 [(0, Value.ref co), (1, Value.int wd)] := hl
  refine lv_iload_n hx hb d_Coder_hasWidth_0 rfl (lv_at hl 1 rfl) ?_
  refine lv_iconst (v := 1) hx hb d_Coder_hasWidth_1 (by decide) ?_
  refine lv_icmp_lt (tgt := 15) hx hb d_Coder_hasWidth_2 (by decide) (fun c_1 => ?_) (fun c_1 => ?_)
  · refine lv_iconst (v := 0) hx hb d_Coder_hasWidth_15 (by decide) ?_
    exact my_iret (v := 0) hx hb hr (rfl) hlocks hQ hK hS (Nat.le_refl _) (Nat.le_refl _) () (wid_0a c_1) (hP.sub [0] rfl) (hD.sub [0] (by decide +kernel) rfl) d_Coder_hasWidth_16
  · refine lv_iload_n hx hb d_Coder_hasWidth_5 rfl (lv_at hl 1 rfl) ?_
    refine lv_bipush (v := 12) hx hb d_Coder_hasWidth_6 (by decide) ?_
    refine lv_icmp_gt (tgt := 15) hx hb d_Coder_hasWidth_8 (by decide) (fun c_2 => ?_) (fun c_2 => ?_)
    · refine lv_iconst (v := 0) hx hb d_Coder_hasWidth_15 (by decide) ?_
      exact my_iret (v := 0) hx hb hr (rfl) hlocks hQ hK hS (Nat.le_refl _) (Nat.le_refl _) () (wid_0b c_2) (hP.sub [0] rfl) (hD.sub [0] (by decide +kernel) rfl) d_Coder_hasWidth_16
    · refine lv_iconst (v := 1) hx hb d_Coder_hasWidth_11 (by decide) ?_
      refine lv_goto (tgt := 16) hx hb d_Coder_hasWidth_12 (by decide) ?_
      exact my_iret (v := 1) hx hb hr (rfl) hlocks hQ hK hS (Nat.le_refl _) (Nat.le_refl _) () (wid_1 c_1 c_2) (hP.sub [0] rfl) (hD.sub [0] (by decide +kernel) rfl) d_Coder_hasWidth_16
set_option maxHeartbeats 2000000 in
set_option maxRecDepth 100000 in
theorem f_RC_bitsW_Carries (l : Launch) (dC : Nat → ClassId) (dI : Nat → Nat → Nat) (cI cM cO : ClassId) (sz : Nat) (rc : Nat) (ma : Nat) (k : Nat) (fit : Int32) (fen : Int32) (frd : Int32) (fbd : Int32) (fir : Int32) (mf : Nat → Option Nat) (co : Nat) (xcache : Int32) (xpending : Int32) (xlow : Int64) (xrange : Int64) (xcode : Int64) (xreadLow : Int64) (xreadRange : Int64) (ri : Nat) (ro : Nat) (rw : Nat) (xasked : Int32) (vv : Int32) (wd : Int32) (hbad : ¬ okB 12 vv wd) : MetI l y_RC_bits (Cond.code y_RC_bits prog_1_method_5_code 3 (some .int) :: gw) ({ frames := 1, cells := 0, slots := 0, locals := 21 } : Room) (dC, dI) vwCl (kT cI cM cO) [Value.ref rc, Value.int vv, Value.int wd] [(rc, Sum.inr (6, [Value.ref co, Value.ref ma, Value.int (nI k), Value.int fit, Value.int fen, Value.int frd, Value.int fbd, Value.int fir])), (co, Sum.inr (1, [Value.int xcache, Value.int xpending, Value.long xlow, Value.long xrange, Value.long xcode, Value.long xreadLow, Value.long xreadRange, Value.ref ri, Value.ref ro, Value.ref rw, Value.int xasked]))] sz (fun (r : Int32) (u : Unit) => r = -2) (fun (u : Unit) => [(rc, Sum.inr (6, [Value.ref co, Value.ref ma, Value.int (nI k), Value.int fit, Value.int fen, Value.int frd, Value.int fbd, Value.int fir])), (co, Sum.inr (1, [Value.int xcache, Value.int xpending, Value.long xlow, Value.long xrange, Value.long xcode, Value.long xreadLow, Value.long xreadRange, Value.ref ri, Value.ref ro, Value.ref rw, Value.int xasked]))]) 0 0 := by
  refine my_ofI (cc := prog_1_method_5_code) (n := 3) (ret := (some .int)) (by decide) rfl (Nat.le_of_ble_eq_true rfl) ?_
  intro p e s m args below meth c R Q A ls H locs hx hb hr hts hown hlocks hml hnm hR hQ hA hl hP hK hN hD hS
  have hg : ∀ w ∈ gw, w.before args s = true := fun w h => hts w (List.mem_cons_of_mem _ h)
  have hown : s.vm.findClass "RangeCoders" = some m.cls := hown
  have hl : lv_has ls 3 [(0, Value.ref rc), (1, Value.int vv), (2, Value.int wd)] := hl
  refine lv_aload_n hx hb d_RC_bits_0 rfl (lv_at hl 0 rfl) ?_
  refine va_get (D := (dC, dI)) (ci := 6) (v := .ref co) (C := "RangeCoders") (T := T_RC) (N := 8) hx hb hg in_RC hown hK hP 0 rfl rfl 0 (by decide) (hg _ k258) (fun _ h9 => h9) rfl d_RC_bits_1 ?_
  refine lv_iload_n hx hb d_RC_bits_4 rfl (lv_at hl 2 rfl) ?_
  refine my_ci (wr := [(rc, Sum.inr (6, [Value.ref co, Value.ref ma, Value.int (nI k), Value.int fit, Value.int fen, Value.int frd, Value.int fbd, Value.int fir]))]) (va_runU (As := [Value.int wd]) (rest := []) ⟨hx, hb, hml, hown, hts⟩ (f_Carries_hasWidth l dC dI cI cM cO H.size co xcache xpending xlow xrange xcode xreadLow xreadRange ri ro rw xasked wd) (va_cwU 1 hts (my_gU k543 k545 k547 k544 k3 k553) rfl rfl rfl rfl (by decide +kernel) ⟨by rw [hR]; exact Nat.le_of_ble_eq_true rfl, by rw [hR]; exact Nat.le_of_ble_eq_true rfl⟩) (my_preV hK hN (hP.sub [1] rfl) (hD.sub [1] (by decide +kernel) rfl) 0 rfl rfl) rfl rfl hl.1 rfl (lv_room (Nat.le_of_ble_eq_true rfl)) d_RC_bits_5 ⟨by rw [hR]; exact Nat.le_of_ble_eq_true rfl, by rw [hR]; exact Nat.le_of_ble_eq_true rfl⟩) hP hD hS hA [1] [0] rfl rfl (by decide +kernel) (by decide +kernel) (fun r_5 u9 H locs hw_5 hP hD hS => ?_)
  have hr_5 : r_5 = if 1 ≤ wd ∧ wd ≤ nI 12 then 1 else 0 := hw_5
  have hPD : my_PD (dC, dI) vwCl A [(rc, Sum.inr (6, [Value.ref co, Value.ref ma, Value.int (nI k), Value.int fit, Value.int fen, Value.int frd, Value.int fbd, Value.int fir])), (co, Sum.inr (1, [Value.int xcache, Value.int xpending, Value.long xlow, Value.long xrange, Value.long xcode, Value.long xreadLow, Value.long xreadRange, Value.ref ri, Value.ref ro, Value.ref rw, Value.int xasked]))] H := ⟨hP, hD⟩
  have hP := hPD.1
  have hD := hPD.2
  refine lv_if_eq (tgt := 22) hx hb d_RC_bits_8 (by decide) (fun c_1 => ?_) (fun c_1 => ?_)
  · refine lv_bipush (v := (-2)) hx hb d_RC_bits_22 (by decide) ?_
    exact my_iret (v := (-2)) hx hb hr (rfl) hlocks hQ hK hS (Nat.le_refl _) (Nat.le_refl _) () (rfl) (hP.sub [0, 1] rfl) (hD.sub [0, 1] (by decide +kernel) rfl) d_RC_bits_24
  · refine lv_iload_n hx hb d_RC_bits_11 rfl (lv_at hl 1 rfl) ?_
    refine lv_if_lt (tgt := 22) hx hb d_RC_bits_12 (by decide) (fun c_2 => ?_) (fun c_2 => ?_)
    · refine lv_bipush (v := (-2)) hx hb d_RC_bits_22 (by decide) ?_
      exact my_iret (v := (-2)) hx hb hr (rfl) hlocks hQ hK hS (Nat.le_refl _) (Nat.le_refl _) () (rfl) (hP.sub [0, 1] rfl) (hD.sub [0, 1] (by decide +kernel) rfl) d_RC_bits_24
    · refine lv_iload_n hx hb d_RC_bits_15 rfl (lv_at hl 1 rfl) ?_
      refine lv_iconst (v := 1) hx hb d_RC_bits_16 (by decide) ?_
      refine lv_iload_n hx hb d_RC_bits_17 rfl (lv_at hl 2 rfl) ?_
      refine lv_ishl hx hb d_RC_bits_18 ?_
      refine lv_topi (fun v_3 ev_3 => ?_)
      refine lv_icmp_lt (tgt := 25) hx hb d_RC_bits_19 (by decide) (fun c_4 => ?_) (fun c_4 => ?_)
      · exact absurd (okB_of (by decide) (one_ne hr_5 c_1) c_2 ev_3 c_4) hbad
      · refine lv_bipush (v := (-2)) hx hb d_RC_bits_22 (by decide) ?_
        exact my_iret (v := (-2)) hx hb hr (rfl) hlocks hQ hK hS (Nat.le_refl _) (Nat.le_refl _) () (rfl) (hP.sub [0, 1] rfl) (hD.sub [0, 1] (by decide +kernel) rfl) d_RC_bits_24
set_option maxHeartbeats 2000000 in
set_option maxRecDepth 100000 in
theorem f_RC_bitsE_Carries (l : Launch) (dC : Nat → ClassId) (dI : Nat → Nat → Nat) (cI cM cO : ClassId) (sz : Nat) (rc : Nat) (ma : Nat) (k : Nat) (fit : Int32) (fen : Int32) (frd : Int32) (fbd : Int32) (fir : Int32) (mf : Nat → Option Nat) (co : Nat) (xcache : Int32) (xpending : Int32) (xlow : Int64) (xrange : Int64) (xcode : Int64) (xreadLow : Int64) (xreadRange : Int64) (ri : Nat) (ro : Nat) (rw : Nat) (xasked : Int32) (v : Nat) (b : Nat) (hb1 : 1 ≤ b) (hb2 : b ≤ 12) (hv : v < 2 ^ b) (hen : ¬ fen = 0) : MetI l y_RC_bits (Cond.code y_RC_bits prog_1_method_5_code 3 (some .int) :: gw) ({ frames := 1, cells := 0, slots := 0, locals := 21 } : Room) (dC, dI) vwCl (kT cI cM cO) [Value.ref rc, Value.int (nI v), Value.int (nI b)] [(rc, Sum.inr (6, [Value.ref co, Value.ref ma, Value.int (nI k), Value.int fit, Value.int fen, Value.int frd, Value.int fbd, Value.int fir])), (co, Sum.inr (1, [Value.int xcache, Value.int xpending, Value.long xlow, Value.long xrange, Value.long xcode, Value.long xreadLow, Value.long xreadRange, Value.ref ri, Value.ref ro, Value.ref rw, Value.int xasked]))] sz (fun (r : Int32) (u : Unit) => r = -3) (fun (u : Unit) => [(rc, Sum.inr (6, [Value.ref co, Value.ref ma, Value.int (nI k), Value.int fit, Value.int fen, Value.int frd, Value.int fbd, Value.int fir])), (co, Sum.inr (1, [Value.int xcache, Value.int xpending, Value.long xlow, Value.long xrange, Value.long xcode, Value.long xreadLow, Value.long xreadRange, Value.ref ri, Value.ref ro, Value.ref rw, Value.int xasked]))]) 0 0 := by
  refine my_ofI (cc := prog_1_method_5_code) (n := 3) (ret := (some .int)) (by decide) rfl (Nat.le_of_ble_eq_true rfl) ?_
  intro p e s m args below meth c R Q A ls H locs hx hb hr hts hown hlocks hml hnm hR hQ hA hl hP hK hN hD hS
  have hg : ∀ w ∈ gw, w.before args s = true := fun w h => hts w (List.mem_cons_of_mem _ h)
  have hown : s.vm.findClass "RangeCoders" = some m.cls := hown
  have hl : lv_has ls 3 [(0, Value.ref rc), (1, Value.int (nI v)), (2, Value.int (nI b))] := hl
  have hpw : 2 ^ b ≤ 2 ^ 12 := Nat.pow_le_pow_right (by decide) (by omega)
  have hpw0 : 0 < 2 ^ b := Nat.pow_pos (by decide)
  refine lv_aload_n hx hb d_RC_bits_0 rfl (lv_at hl 0 rfl) ?_
  refine va_get (D := (dC, dI)) (ci := 6) (v := .ref co) (C := "RangeCoders") (T := T_RC) (N := 8) hx hb hg in_RC hown hK hP 0 rfl rfl 0 (by decide) (hg _ k258) (fun _ h9 => h9) rfl d_RC_bits_1 ?_
  refine lv_iload_n hx hb d_RC_bits_4 rfl (lv_at hl 2 rfl) ?_
  refine my_ci (wr := [(rc, Sum.inr (6, [Value.ref co, Value.ref ma, Value.int (nI k), Value.int fit, Value.int fen, Value.int frd, Value.int fbd, Value.int fir]))]) (va_runU (As := [Value.int (nI b)]) (rest := []) ⟨hx, hb, hml, hown, hts⟩ (f_Carries_hasWidth l dC dI cI cM cO H.size co xcache xpending xlow xrange xcode xreadLow xreadRange ri ro rw xasked (nI b)) (va_cwU 1 hts (my_gU k543 k545 k547 k544 k3 k553) rfl rfl rfl rfl (by decide +kernel) ⟨by rw [hR]; exact Nat.le_of_ble_eq_true rfl, by rw [hR]; exact Nat.le_of_ble_eq_true rfl⟩) (my_preV hK hN (hP.sub [1] rfl) (hD.sub [1] (by decide +kernel) rfl) 0 rfl rfl) rfl rfl hl.1 rfl (lv_room (Nat.le_of_ble_eq_true rfl)) d_RC_bits_5 ⟨by rw [hR]; exact Nat.le_of_ble_eq_true rfl, by rw [hR]; exact Nat.le_of_ble_eq_true rfl⟩) hP hD hS hA [1] [0] rfl rfl (by decide +kernel) (by decide +kernel) (fun r_5 u9 H locs hw_5 hP hD hS => ?_)
  have hr_5 : r_5 = if 1 ≤ (nI b) ∧ (nI b) ≤ nI 12 then 1 else 0 := hw_5
  have hPD : my_PD (dC, dI) vwCl A [(rc, Sum.inr (6, [Value.ref co, Value.ref ma, Value.int (nI k), Value.int fit, Value.int fen, Value.int frd, Value.int fbd, Value.int fir])), (co, Sum.inr (1, [Value.int xcache, Value.int xpending, Value.long xlow, Value.long xrange, Value.long xcode, Value.long xreadLow, Value.long xreadRange, Value.ref ri, Value.ref ro, Value.ref rw, Value.int xasked]))] H := ⟨hP, hD⟩
  have hP := hPD.1
  have hD := hPD.2
  refine lv_if_eq (tgt := 22) hx hb d_RC_bits_8 (by decide) (fun c_1 => ?_) (fun c_1 => ?_)
  · exact absurd (show 1 ≤ nI b ∧ nI b ≤ nI 12 from ⟨nI_le (a := 1) hb1 (by omega), nI_le hb2 (by decide)⟩) (one_eq hr_5 c_1)
  · refine lv_iload_n hx hb d_RC_bits_11 rfl (lv_at hl 1 rfl) ?_
    refine lv_if_lt (tgt := 22) hx hb d_RC_bits_12 (by decide) (fun c_2 => ?_) (fun c_2 => ?_)
    · exact absurd c_2 (nI_pos (by omega))
    · refine lv_iload_n hx hb d_RC_bits_15 rfl (lv_at hl 1 rfl) ?_
      refine lv_iconst (v := 1) hx hb d_RC_bits_16 (by decide) ?_
      refine lv_iload_n hx hb d_RC_bits_17 rfl (lv_at hl 2 rfl) ?_
      refine lv_ishl hx hb d_RC_bits_18 ?_
      refine lv_topi (fun v_3 ev_3 => ?_)
      have z9 : v_3 = nI (2 ^ b) := by rw [ev_3]; exact shl1 b (by omega)
      subst z9
      refine lv_icmp_lt (tgt := 25) hx hb d_RC_bits_19 (by decide) (fun c_4 => ?_) (fun c_4 => ?_)
      · refine lv_aload_n hx hb d_RC_bits_25 rfl (lv_at hl 0 rfl) ?_
        refine va_get (D := (dC, dI)) (ci := 6) (v := .int fen) (C := "RangeCoders") (T := T_RC) (N := 8) hx hb hg in_RC hown hK hP 0 rfl rfl 4 (by decide) (hg _ k262) (fun _ h9 => h9) rfl d_RC_bits_26 ?_
        refine lv_if_eq (tgt := 35) hx hb d_RC_bits_29 (by decide) (fun c_5 => ?_) (fun c_5 => ?_)
        · exact absurd c_5 hen
        · refine lv_bipush (v := (-3)) hx hb d_RC_bits_32 (by decide) ?_
          exact my_iret (v := (-3)) hx hb hr (rfl) hlocks hQ hK hS (Nat.le_refl _) (Nat.le_refl _) () (rfl) (hP.sub [0, 1] rfl) (hD.sub [0, 1] (by decide +kernel) rfl) d_RC_bits_34
      · exact absurd (nI_lt hv (by omega)) c_4
set_option maxHeartbeats 2000000 in
set_option maxRecDepth 100000 in
theorem f_RC_bitsR_Carries (l : Launch) (dC : Nat → ClassId) (dI : Nat → Nat → Nat) (cI cM cO : ClassId) (sz : Nat) (rc : Nat) (ma : Nat) (k : Nat) (frd : Int32) (fbd : Int32) (fir : Int32) (mf : Nat → Option Nat) (co : Nat) (xcache : Int32) (xpending : Int32) (xlow : Int64) (xrange : Int64) (xcode : Int64) (xreadLow : Int64) (xreadRange : Int64) (ri : Nat) (ro : Nat) (rw : Nat) (xasked : Int32) (v : Nat) (b : Nat) (ki : Nat) (hb1 : 1 ≤ b) (hb2 : b ≤ 12) (hv : v < 2 ^ b) (hk6 : ki = 600) : MetI l y_RC_bits (Cond.code y_RC_bits prog_1_method_5_code 3 (some .int) :: gw) ({ frames := 1, cells := 0, slots := 0, locals := 21 } : Room) (dC, dI) vwCl (kT cI cM cO) [Value.ref rc, Value.int (nI v), Value.int (nI b)] [(rc, Sum.inr (6, [Value.ref co, Value.ref ma, Value.int (nI k), Value.int (nI ki), Value.int 0, Value.int frd, Value.int fbd, Value.int fir])), (co, Sum.inr (1, [Value.int xcache, Value.int xpending, Value.long xlow, Value.long xrange, Value.long xcode, Value.long xreadLow, Value.long xreadRange, Value.ref ri, Value.ref ro, Value.ref rw, Value.int xasked]))] sz (fun (r : Int32) (u : Unit) => r = -4) (fun (u : Unit) => [(rc, Sum.inr (6, [Value.ref co, Value.ref ma, Value.int (nI k), Value.int (nI ki), Value.int 0, Value.int frd, Value.int fbd, Value.int fir])), (co, Sum.inr (1, [Value.int xcache, Value.int xpending, Value.long xlow, Value.long xrange, Value.long xcode, Value.long xreadLow, Value.long xreadRange, Value.ref ri, Value.ref ro, Value.ref rw, Value.int xasked]))]) 0 0 := by
  refine my_ofI (cc := prog_1_method_5_code) (n := 3) (ret := (some .int)) (by decide) rfl (Nat.le_of_ble_eq_true rfl) ?_
  intro p e s m args below meth c R Q A ls H locs hx hb hr hts hown hlocks hml hnm hR hQ hA hl hP hK hN hD hS
  have hg : ∀ w ∈ gw, w.before args s = true := fun w h => hts w (List.mem_cons_of_mem _ h)
  have hown : s.vm.findClass "RangeCoders" = some m.cls := hown
  have hl : lv_has ls 3 [(0, Value.ref rc), (1, Value.int (nI v)), (2, Value.int (nI b))] := hl
  have hpw : 2 ^ b ≤ 2 ^ 12 := Nat.pow_le_pow_right (by decide) (by omega)
  have hpw0 : 0 < 2 ^ b := Nat.pow_pos (by decide)
  refine lv_aload_n hx hb d_RC_bits_0 rfl (lv_at hl 0 rfl) ?_
  refine va_get (D := (dC, dI)) (ci := 6) (v := .ref co) (C := "RangeCoders") (T := T_RC) (N := 8) hx hb hg in_RC hown hK hP 0 rfl rfl 0 (by decide) (hg _ k258) (fun _ h9 => h9) rfl d_RC_bits_1 ?_
  refine lv_iload_n hx hb d_RC_bits_4 rfl (lv_at hl 2 rfl) ?_
  refine my_ci (wr := [(rc, Sum.inr (6, [Value.ref co, Value.ref ma, Value.int (nI k), Value.int (nI ki), Value.int 0, Value.int frd, Value.int fbd, Value.int fir]))]) (va_runU (As := [Value.int (nI b)]) (rest := []) ⟨hx, hb, hml, hown, hts⟩ (f_Carries_hasWidth l dC dI cI cM cO H.size co xcache xpending xlow xrange xcode xreadLow xreadRange ri ro rw xasked (nI b)) (va_cwU 1 hts (my_gU k543 k545 k547 k544 k3 k553) rfl rfl rfl rfl (by decide +kernel) ⟨by rw [hR]; exact Nat.le_of_ble_eq_true rfl, by rw [hR]; exact Nat.le_of_ble_eq_true rfl⟩) (my_preV hK hN (hP.sub [1] rfl) (hD.sub [1] (by decide +kernel) rfl) 0 rfl rfl) rfl rfl hl.1 rfl (lv_room (Nat.le_of_ble_eq_true rfl)) d_RC_bits_5 ⟨by rw [hR]; exact Nat.le_of_ble_eq_true rfl, by rw [hR]; exact Nat.le_of_ble_eq_true rfl⟩) hP hD hS hA [1] [0] rfl rfl (by decide +kernel) (by decide +kernel) (fun r_5 u9 H locs hw_5 hP hD hS => ?_)
  have hr_5 : r_5 = if 1 ≤ (nI b) ∧ (nI b) ≤ nI 12 then 1 else 0 := hw_5
  have hPD : my_PD (dC, dI) vwCl A [(rc, Sum.inr (6, [Value.ref co, Value.ref ma, Value.int (nI k), Value.int (nI ki), Value.int 0, Value.int frd, Value.int fbd, Value.int fir])), (co, Sum.inr (1, [Value.int xcache, Value.int xpending, Value.long xlow, Value.long xrange, Value.long xcode, Value.long xreadLow, Value.long xreadRange, Value.ref ri, Value.ref ro, Value.ref rw, Value.int xasked]))] H := ⟨hP, hD⟩
  have hP := hPD.1
  have hD := hPD.2
  refine lv_if_eq (tgt := 22) hx hb d_RC_bits_8 (by decide) (fun c_1 => ?_) (fun c_1 => ?_)
  · exact absurd (show 1 ≤ nI b ∧ nI b ≤ nI 12 from ⟨nI_le (a := 1) hb1 (by omega), nI_le hb2 (by decide)⟩) (one_eq hr_5 c_1)
  · refine lv_iload_n hx hb d_RC_bits_11 rfl (lv_at hl 1 rfl) ?_
    refine lv_if_lt (tgt := 22) hx hb d_RC_bits_12 (by decide) (fun c_2 => ?_) (fun c_2 => ?_)
    · exact absurd c_2 (nI_pos (by omega))
    · refine lv_iload_n hx hb d_RC_bits_15 rfl (lv_at hl 1 rfl) ?_
      refine lv_iconst (v := 1) hx hb d_RC_bits_16 (by decide) ?_
      refine lv_iload_n hx hb d_RC_bits_17 rfl (lv_at hl 2 rfl) ?_
      refine lv_ishl hx hb d_RC_bits_18 ?_
      refine lv_topi (fun v_3 ev_3 => ?_)
      have z9 : v_3 = nI (2 ^ b) := by rw [ev_3]; exact shl1 b (by omega)
      subst z9
      refine lv_icmp_lt (tgt := 25) hx hb d_RC_bits_19 (by decide) (fun c_4 => ?_) (fun c_4 => ?_)
      · refine lv_aload_n hx hb d_RC_bits_25 rfl (lv_at hl 0 rfl) ?_
        refine va_get (D := (dC, dI)) (ci := 6) (v := .int 0) (C := "RangeCoders") (T := T_RC) (N := 8) hx hb hg in_RC hown hK hP 0 rfl rfl 4 (by decide) (hg _ k262) (fun _ h9 => h9) rfl d_RC_bits_26 ?_
        refine lv_if_eq (tgt := 35) hx hb d_RC_bits_29 (by decide) (fun c_5 => ?_) (fun c_5 => ?_)
        · refine lv_aload_n hx hb d_RC_bits_35 rfl (lv_at hl 0 rfl) ?_
          refine va_get (D := (dC, dI)) (ci := 6) (v := .int (nI ki)) (C := "RangeCoders") (T := T_RC) (N := 8) hx hb hg in_RC hown hK hP 0 rfl rfl 3 (by decide) (hg _ k261) (fun _ h9 => h9) rfl d_RC_bits_36 ?_
          refine lv_sipush (v := 600) hx hb d_RC_bits_39 (by decide) ?_
          refine lv_icmp_lt (tgt := 48) hx hb d_RC_bits_42 (by decide) (fun c_6 => ?_) (fun c_6 => ?_)
          · exact absurd c_6 (by rw [hk6]; decide)
          · refine lv_bipush (v := (-4)) hx hb d_RC_bits_45 (by decide) ?_
            exact my_iret (v := (-4)) hx hb hr (rfl) hlocks hQ hK hS (Nat.le_refl _) (Nat.le_refl _) () (rfl) (hP.sub [0, 1] rfl) (hD.sub [0, 1] (by decide +kernel) rfl) d_RC_bits_47
        · exact absurd (by decide) c_5
      · exact absurd (nI_lt hv (by omega)) c_4
set_option maxHeartbeats 2000000 in
set_option maxRecDepth 100000 in
theorem f_RC_bitsL_Carries (l : Launch) (dC : Nat → ClassId) (dI : Nat → Nat → Nat) (cI cM cO : ClassId) (sz : Nat) (sl : Nat) (rc : Nat) (ma : Nat) (k : Nat) (frd : Int32) (fbd : Int32) (fir : Int32) (mf : Nat → Option Nat) (co : Nat) (xcode : Int64) (xreadLow : Int64) (xreadRange : Int64) (ri : Nat) (ro : Nat) (rw : Nat) (xasked : Int32) (Rg : Nat) (L : Nat) (ca : Option Nat) (Pn : Nat) (rwa : Nat) (rwk : Nat) (rwf : Nat → Int32) (bs : List Nat) (v : Nat) (b : Nat) (ki : Nat) (hki : ki < 600) (hb1 : 1 ≤ b) (hb2 : b ≤ 12) (hv : v < 2 ^ b) (hE : eInv (Rg, L, ca, Pn, bs)) (hrw : rOk (nI bs.length) rwk) (hGrw : gIs rwf bs) (hN9 : bs.length + Pn + 20 ≤ 7900) : MetIg l y_RC_bits (Cond.code y_RC_bits prog_1_method_5_code 3 (some .int) :: gw) ({ frames := 8, cells := rPh rwk, slots := rPh rwk, locals := 193 } : Room) (dC, dI) vwCl (kT cI cM cO) [Value.ref rc, Value.int (nI v), Value.int (nI b)] [(rc, Sum.inr (6, [Value.ref co, Value.ref ma, Value.int (nI k), Value.int (nI ki), Value.int 0, Value.int frd, Value.int fbd, Value.int fir])), (co, Sum.inr (1, [Value.int (caI ca), Value.int (nI Pn), Value.long (lN L), Value.long (lN Rg), Value.long xcode, Value.long xreadLow, Value.long xreadRange, Value.ref ri, Value.ref ro, Value.ref rw, Value.int xasked])), (rw, Sum.inr (0, [Value.int (nI bs.length), Value.ref rwa])), (rwa, Sum.inl (cI, rwk, Sum.inl rwf))] sz sl (fun (r : Int32) (u : Nat × Nat × (Nat → Int32)) => r = nI (ki + 1) ∧ rOk (nI (eB (wdS (Rg / 2 ^ b * 1, L + Rg / 2 ^ b * v, ca, Pn, bs))).length) u.2.1 ∧ gIs u.2.2 (eB (wdS (Rg / 2 ^ b * 1, L + Rg / 2 ^ b * v, ca, Pn, bs)))) (fun (u : Nat × Nat × (Nat → Int32)) => [(rc, Sum.inr (6, [Value.ref co, Value.ref ma, Value.int (nI k), Value.int (nI (ki + 1)), Value.int 0, Value.int frd, Value.int fbd, Value.int fir])), (co, Sum.inr (1, [Value.int (caI (eC (wdS (Rg / 2 ^ b * 1, L + Rg / 2 ^ b * v, ca, Pn, bs)))), Value.int (nI (eP (wdS (Rg / 2 ^ b * 1, L + Rg / 2 ^ b * v, ca, Pn, bs)))), Value.long (lN (eL (wdS (Rg / 2 ^ b * 1, L + Rg / 2 ^ b * v, ca, Pn, bs)))), Value.long (lN (eR (wdS (Rg / 2 ^ b * 1, L + Rg / 2 ^ b * v, ca, Pn, bs)))), Value.long xcode, Value.long xreadLow, Value.long xreadRange, Value.ref ri, Value.ref ro, Value.ref rw, Value.int xasked])), (rw, Sum.inr (0, [Value.int (nI (eB (wdS (Rg / 2 ^ b * 1, L + Rg / 2 ^ b * v, ca, Pn, bs))).length), Value.ref u.1])), (u.1, Sum.inl (cI, u.2.1, Sum.inl u.2.2))]) (rPh rwk) (fun (u : Nat × Nat × (Nat → Int32)) => rPh u.2.1) := by
  refine my_ofIg (cc := prog_1_method_5_code) (n := 3) (ret := (some .int)) (by decide) rfl (Nat.le_of_ble_eq_true rfl) ?_
  intro p e s m args below meth c R Q A ls H locs hx hb hr hts hown hlocks hml hnm hR hQ hA hl hP hK hN hD hS
  have hg : ∀ w ∈ gw, w.before args s = true := fun w h => hts w (List.mem_cons_of_mem _ h)
  have hown : s.vm.findClass "RangeCoders" = some m.cls := hown
  have hl : lv_has ls 3 [(0, Value.ref rc), (1, Value.int (nI v)), (2, Value.int (nI b))] := hl
  have hltw := rOk_lt hrw
  have hpw : 2 ^ b ≤ 2 ^ 12 := Nat.pow_le_pow_right (by decide) (by omega)
  have hpw0 : 0 < 2 ^ b := Nat.pow_pos (by decide)
  refine lv_aload_n hx hb d_RC_bits_0 rfl (lv_at hl 0 rfl) ?_
  refine va_get (D := (dC, dI)) (ci := 6) (v := .ref co) (C := "RangeCoders") (T := T_RC) (N := 8) hx hb hg in_RC hown hK hP 0 rfl rfl 0 (by decide) (hg _ k258) (fun _ h9 => h9) rfl d_RC_bits_1 ?_
  refine lv_iload_n hx hb d_RC_bits_4 rfl (lv_at hl 2 rfl) ?_
  refine my_ci (wr := [(rc, Sum.inr (6, [Value.ref co, Value.ref ma, Value.int (nI k), Value.int (nI ki), Value.int 0, Value.int frd, Value.int fbd, Value.int fir])), (rw, Sum.inr (0, [Value.int (nI bs.length), Value.ref rwa])), (rwa, Sum.inl (cI, rwk, Sum.inl rwf))]) (va_runU (As := [Value.int (nI b)]) (rest := []) ⟨hx, hb, hml, hown, hts⟩ (f_Carries_hasWidth l dC dI cI cM cO H.size co (caI ca) (nI Pn) (lN L) (lN Rg) xcode xreadLow xreadRange ri ro rw xasked (nI b)) (va_cwU 1 hts (my_gU k543 k545 k547 k544 k3 k553) rfl rfl rfl rfl (by decide +kernel) ⟨by rw [hR]; exact Nat.le_of_ble_eq_true rfl, by rw [hR]; exact Nat.le_of_ble_eq_true rfl⟩) (my_preV hK hN (hP.sub [1] rfl) (hD.sub [1] (by decide +kernel) rfl) 0 rfl rfl) rfl rfl hl.1 rfl (lv_room (Nat.le_of_ble_eq_true rfl)) d_RC_bits_5 ⟨by rw [hR]; exact (show 0 + 0 ≤ (rPh rwk) by omega), by rw [hR]; exact (show 0 + 0 ≤ (rPh rwk) by omega)⟩) hP hD hS hA [1] [0, 2, 3] rfl rfl (by decide +kernel) (by decide +kernel) (fun r_5 u9 H locs hw_5 hP hD hS => ?_)
  have hr_5 : r_5 = if 1 ≤ (nI b) ∧ (nI b) ≤ nI 12 then 1 else 0 := hw_5
  have hPD : my_PD (dC, dI) vwCl A [(rc, Sum.inr (6, [Value.ref co, Value.ref ma, Value.int (nI k), Value.int (nI ki), Value.int 0, Value.int frd, Value.int fbd, Value.int fir])), (rw, Sum.inr (0, [Value.int (nI bs.length), Value.ref rwa])), (rwa, Sum.inl (cI, rwk, Sum.inl rwf)), (co, Sum.inr (1, [Value.int (caI ca), Value.int (nI Pn), Value.long (lN L), Value.long (lN Rg), Value.long xcode, Value.long xreadLow, Value.long xreadRange, Value.ref ri, Value.ref ro, Value.ref rw, Value.int xasked]))] H := ⟨hP, hD⟩
  have hP := hPD.1
  have hD := hPD.2
  refine lv_if_eq (tgt := 22) hx hb d_RC_bits_8 (by decide) (fun c_1 => ?_) (fun c_1 => ?_)
  · exact absurd (show 1 ≤ nI b ∧ nI b ≤ nI 12 from ⟨nI_le (a := 1) hb1 (by omega), nI_le hb2 (by decide)⟩) (one_eq hr_5 c_1)
  · refine lv_iload_n hx hb d_RC_bits_11 rfl (lv_at hl 1 rfl) ?_
    refine lv_if_lt (tgt := 22) hx hb d_RC_bits_12 (by decide) (fun c_2 => ?_) (fun c_2 => ?_)
    · exact absurd c_2 (nI_pos (by omega))
    · refine lv_iload_n hx hb d_RC_bits_15 rfl (lv_at hl 1 rfl) ?_
      refine lv_iconst (v := 1) hx hb d_RC_bits_16 (by decide) ?_
      refine lv_iload_n hx hb d_RC_bits_17 rfl (lv_at hl 2 rfl) ?_
      refine lv_ishl hx hb d_RC_bits_18 ?_
      refine lv_topi (fun v_3 ev_3 => ?_)
      have z9 : v_3 = nI (2 ^ b) := by rw [ev_3]; exact shl1 b (by omega)
      subst z9
      refine lv_icmp_lt (tgt := 25) hx hb d_RC_bits_19 (by decide) (fun c_4 => ?_) (fun c_4 => ?_)
      · refine lv_aload_n hx hb d_RC_bits_25 rfl (lv_at hl 0 rfl) ?_
        refine va_get (D := (dC, dI)) (ci := 6) (v := .int 0) (C := "RangeCoders") (T := T_RC) (N := 8) hx hb hg in_RC hown hK hP 0 rfl rfl 4 (by decide) (hg _ k262) (fun _ h9 => h9) rfl d_RC_bits_26 ?_
        refine lv_if_eq (tgt := 35) hx hb d_RC_bits_29 (by decide) (fun c_5 => ?_) (fun c_5 => ?_)
        · refine lv_aload_n hx hb d_RC_bits_35 rfl (lv_at hl 0 rfl) ?_
          refine va_get (D := (dC, dI)) (ci := 6) (v := .int (nI ki)) (C := "RangeCoders") (T := T_RC) (N := 8) hx hb hg in_RC hown hK hP 0 rfl rfl 3 (by decide) (hg _ k261) (fun _ h9 => h9) rfl d_RC_bits_36 ?_
          refine lv_sipush (v := 600) hx hb d_RC_bits_39 (by decide) ?_
          refine lv_icmp_lt (tgt := 48) hx hb d_RC_bits_42 (by decide) (fun c_6 => ?_) (fun c_6 => ?_)
          · refine lv_aload_n hx hb d_RC_bits_48 rfl (lv_at hl 0 rfl) ?_
            refine va_get (D := (dC, dI)) (ci := 6) (v := .ref co) (C := "RangeCoders") (T := T_RC) (N := 8) hx hb hg in_RC hown hK hP 0 rfl rfl 0 (by decide) (hg _ k258) (fun _ h9 => h9) rfl d_RC_bits_49 ?_
            refine lv_iload_n hx hb d_RC_bits_52 rfl (lv_at hl 1 rfl) ?_
            refine lv_iload_n hx hb d_RC_bits_53 rfl (lv_at hl 2 rfl) ?_
            refine my_cvg (wr := [(rc, Sum.inr (6, [Value.ref co, Value.ref ma, Value.int (nI k), Value.int (nI ki), Value.int 0, Value.int frd, Value.int fbd, Value.int fir]))]) (va_runU (As := [Value.int (nI v), Value.int (nI b)]) (rest := []) ⟨hx, hb, hml, hown, hts⟩ (f_Carries_writeValue l dC dI cI cM cO H.size (hSl H) co xcode xreadLow xreadRange ri ro rw xasked Rg L ca Pn rwa rwk rwf bs v b (hb1) (hb2) (hv) (by first | assumption | omega) (by first | assumption | omega) (by first | assumption | omega) (by first | assumption | omega)) (va_cwA 2 hts (my_gU k554 k556 k560 k561 k4 k562) rfl rfl rfl (hN.1 _ j555 rfl) (by decide +kernel) ⟨by rw [hR]; exact Nat.le_of_ble_eq_true rfl, by rw [hR]; exact Nat.le_of_ble_eq_true rfl⟩) (my_preVg hK hN (hP.sub [3, 1, 2] rfl) (hD.sub [3, 1, 2] (by decide +kernel) rfl) 0 rfl rfl) rfl rfl hl.1 rfl (lv_room (Nat.le_of_ble_eq_true rfl)) d_RC_bits_54 ⟨by rw [hR]; exact (show 0 + (rPh rwk) ≤ (rPh rwk) by omega), by rw [hR]; exact (show 0 + (rPh rwk) ≤ (rPh rwk) by omega)⟩) hP hD hS hA [3, 1, 2] [0] rfl rfl (by decide +kernel) (by decide +kernel) (fun u9 d_54 H locs hd_54 hw_54 hP hD hS => ?_)
            obtain ⟨rwaq_54, rwkq_54, rwfq_54⟩ := u9
            obtain ⟨hrw_54, hGrw_54⟩ : rOk (nI (eB (wdS (Rg / 2 ^ b * 1, L + Rg / 2 ^ b * v, ca, Pn, bs))).length) rwkq_54 ∧ gIs rwfq_54 (eB (wdS (Rg / 2 ^ b * 1, L + Rg / 2 ^ b * v, ca, Pn, bs))) := hw_54
            have hd_54 : d_54 + (rPh rwkq_54) ≤ (rPh rwk) := hd_54
            have hPD : my_PD (dC, dI) vwCl A [(rc, Sum.inr (6, [Value.ref co, Value.ref ma, Value.int (nI k), Value.int (nI ki), Value.int 0, Value.int frd, Value.int fbd, Value.int fir])), (co, Sum.inr (1, [Value.int (caI (eC (wdS (Rg / 2 ^ b * 1, L + Rg / 2 ^ b * v, ca, Pn, bs)))), Value.int (nI (eP (wdS (Rg / 2 ^ b * 1, L + Rg / 2 ^ b * v, ca, Pn, bs)))), Value.long (lN (eL (wdS (Rg / 2 ^ b * 1, L + Rg / 2 ^ b * v, ca, Pn, bs)))), Value.long (lN (eR (wdS (Rg / 2 ^ b * 1, L + Rg / 2 ^ b * v, ca, Pn, bs)))), Value.long xcode, Value.long xreadLow, Value.long xreadRange, Value.ref ri, Value.ref ro, Value.ref rw, Value.int xasked])), (rw, Sum.inr (0, [Value.int (nI (eB (wdS (Rg / 2 ^ b * 1, L + Rg / 2 ^ b * v, ca, Pn, bs))).length), Value.ref rwaq_54])), (rwaq_54, Sum.inl (cI, rwkq_54, Sum.inl rwfq_54))] H := ⟨hP, hD⟩
            have hP := hPD.1
            have hD := hPD.2
            refine lv_aload_n hx hb d_RC_bits_57 rfl (lv_at hl 0 rfl) ?_
            refine lv_dup hx hb d_RC_bits_58 rfl ?_
            refine va_get (D := (dC, dI)) (ci := 6) (v := .int (nI ki)) (C := "RangeCoders") (T := T_RC) (N := 8) hx hb hg in_RC hown hK hP 0 rfl rfl 3 (by decide) (hg _ k261) (fun _ h9 => h9) rfl d_RC_bits_59 ?_
            refine lv_iconst (v := 1) hx hb d_RC_bits_62 (by decide) ?_
            refine lv_iadd hx hb d_RC_bits_63 ?_
            refine lv_topi (fun v_7 ev_7 => ?_)
            have z9 : v_7 = nI (ki + 1) := by rw [ev_7]; exact nI_1 _
            subst z9
            refine va_put (D := (dC, dI)) (ci := 6) (v := .int (nI (ki + 1))) (ty := .int) (C := "RangeCoders") (T := T_RC) (N := 8) hx hb hg in_RC t_RC o_RC n_RC hown hK hP hD hS 0 rfl rfl 3 (by decide) (hg _ k261) (fun _ h9 => h9) rfl (o_RC 3 (by decide)) rfl rfl (Nat.le_of_ble_eq_true rfl) d_RC_bits_64 (fun H locs hP hD hS => ?_)
            have hPD : my_PD (dC, dI) vwCl A [(rc, Sum.inr (6, [Value.ref co, Value.ref ma, Value.int (nI k), Value.int (nI (ki + 1)), Value.int 0, Value.int frd, Value.int fbd, Value.int fir])), (co, Sum.inr (1, [Value.int (caI (eC (wdS (Rg / 2 ^ b * 1, L + Rg / 2 ^ b * v, ca, Pn, bs)))), Value.int (nI (eP (wdS (Rg / 2 ^ b * 1, L + Rg / 2 ^ b * v, ca, Pn, bs)))), Value.long (lN (eL (wdS (Rg / 2 ^ b * 1, L + Rg / 2 ^ b * v, ca, Pn, bs)))), Value.long (lN (eR (wdS (Rg / 2 ^ b * 1, L + Rg / 2 ^ b * v, ca, Pn, bs)))), Value.long xcode, Value.long xreadLow, Value.long xreadRange, Value.ref ri, Value.ref ro, Value.ref rw, Value.int xasked])), (rw, Sum.inr (0, [Value.int (nI (eB (wdS (Rg / 2 ^ b * 1, L + Rg / 2 ^ b * v, ca, Pn, bs))).length), Value.ref rwaq_54])), (rwaq_54, Sum.inl (cI, rwkq_54, Sum.inl rwfq_54))] H := ⟨hP, hD⟩
            have hP := hPD.1
            have hD := hPD.2
            refine lv_aload_n hx hb d_RC_bits_67 rfl (lv_at hl 0 rfl) ?_
            refine va_get (D := (dC, dI)) (ci := 6) (v := .int (nI (ki + 1))) (C := "RangeCoders") (T := T_RC) (N := 8) hx hb hg in_RC hown hK hP 0 rfl rfl 3 (by decide) (hg _ k261) (fun _ h9 => h9) rfl d_RC_bits_68 ?_
            exact my_iretg (v := (nI (ki + 1))) hx hb hr (rfl) hlocks hQ hK hS (rwaq_54, rwkq_54, rwfq_54) (show (0 + d_54) + (rPh rwkq_54) ≤ (rPh rwk) by omega) (show (0 + d_54) + (rPh rwkq_54) ≤ (rPh rwk) by omega) (⟨rfl, hrw_54, hGrw_54⟩) (hP.sub [0, 1, 2, 3] rfl) (hD.sub [0, 1, 2, 3] (by decide +kernel) rfl) d_RC_bits_71
          · exact absurd (nI_lt (b := 600) hki (by decide)) c_6
        · exact absurd (by decide) c_5
      · exact absurd (nI_lt hv (by omega)) c_4
set_option maxHeartbeats 2000000 in
set_option maxRecDepth 100000 in
theorem f_RC_putZ_Carries (l : Launch) (dC : Nat → ClassId) (dI : Nat → Nat → Nat) (cI cM cO : ClassId) (sz : Nat) (rc : Nat) (ma : Nat) (k : Nat) (fit : Int32) (frd : Int32) (fbd : Int32) (fir : Int32) (mf : Nat → Option Nat) (co : Nat) (xcache : Int32) (xpending : Int32) (xlow : Int64) (xrange : Int64) (xcode : Int64) (xreadLow : Int64) (xreadRange : Int64) (ri : Nat) (ro : Nat) (rw : Nat) (xasked : Int32) (j : Nat) (mo : Nat) (o2 : Nat) (ka : Nat) (kf : Nat → Int32) (oo : Nat) (osg : Int32) (ofc : Int32) (oca : Nat) (opa : Nat) (n : Nat) (ocf : Nat → Int32) (opl : Nat) (opf : Nat → Int32) (F : Nat → Nat) (osm : Int32) (t : Nat) (hk8 : k ≤ 8) (hj : j < k) (hmf : mf j = some mo) (hkl : n ≤ 64) (hn : n ≤ 64) (hpl : opl ≤ 512) (hf : tbI ocf n F) (ht : t < n) (hfc : ofc ≤ nI t) (hFb : F t < 2 ^ 31) (hz : F t = 0) : MetI l y_RC_put (Cond.code y_RC_put prog_1_method_4_code 4 (some .int) :: gw) ({ frames := 3, cells := 0, slots := 0, locals := 64 } : Room) (dC, dI) vwCl (kT cI cM cO) [Value.ref rc, Value.int (nI j), Value.int (nI t)] [(rc, Sum.inr (6, [Value.ref co, Value.ref ma, Value.int (nI k), Value.int fit, Value.int 0, Value.int frd, Value.int fbd, Value.int fir])), (ma, Sum.inl (cM, 8, Sum.inr (Sum.inr (Sum.inr (Sum.inr mf))))), (co, Sum.inr (1, [Value.int xcache, Value.int xpending, Value.long xlow, Value.long xrange, Value.long xcode, Value.long xreadLow, Value.long xreadRange, Value.ref ri, Value.ref ro, Value.ref rw, Value.int xasked])), (mo, Sum.inr (8, [Value.ref ka, Value.ref oo, Value.ref o2])), (ka, Sum.inl (cI, n, Sum.inl kf)), (oo, Sum.inr (7, [Value.int osg, Value.int osm, Value.int ofc, Value.ref oca, Value.ref opa])), (oca, Sum.inl (cI, n, Sum.inl ocf)), (opa, Sum.inl (cI, opl, Sum.inl opf))] sz (fun (r : Int32) (u : Unit) => r = -3) (fun (u : Unit) => [(rc, Sum.inr (6, [Value.ref co, Value.ref ma, Value.int (nI k), Value.int fit, Value.int 0, Value.int frd, Value.int fbd, Value.int fir])), (ma, Sum.inl (cM, 8, Sum.inr (Sum.inr (Sum.inr (Sum.inr mf))))), (co, Sum.inr (1, [Value.int xcache, Value.int xpending, Value.long xlow, Value.long xrange, Value.long xcode, Value.long xreadLow, Value.long xreadRange, Value.ref ri, Value.ref ro, Value.ref rw, Value.int xasked])), (mo, Sum.inr (8, [Value.ref ka, Value.ref oo, Value.ref o2])), (ka, Sum.inl (cI, n, Sum.inl kf)), (oo, Sum.inr (7, [Value.int osg, Value.int osm, Value.int ofc, Value.ref oca, Value.ref opa])), (oca, Sum.inl (cI, n, Sum.inl ocf)), (opa, Sum.inl (cI, opl, Sum.inl opf))]) 0 0 := by
  refine my_ofI (cc := prog_1_method_4_code) (n := 4) (ret := (some .int)) (by decide) rfl (Nat.le_of_ble_eq_true rfl) ?_
  intro p e s m args below meth c R Q A ls H locs hx hb hr hts hown hlocks hml hnm hR hQ hA hl hP hK hN hD hS
  have hg : ∀ w ∈ gw, w.before args s = true := fun w h => hts w (List.mem_cons_of_mem _ h)
  have hown : s.vm.findClass "RangeCoders" = some m.cls := hown
  have hl : lv_has ls 4 [(0, Value.ref rc), (1, Value.int (nI j)), (2, Value.int (nI t))] := hl
  refine lv_aload_n hx hb d_RC_put_0 rfl (lv_at hl 0 rfl) ?_
  refine lv_iload_n hx hb d_RC_put_1 rfl (lv_at hl 1 rfl) ?_
  refine my_cq (wr := [(co, Sum.inr (1, [Value.int xcache, Value.int xpending, Value.long xlow, Value.long xrange, Value.long xcode, Value.long xreadLow, Value.long xreadRange, Value.ref ri, Value.ref ro, Value.ref rw, Value.int xasked])), (mo, Sum.inr (8, [Value.ref ka, Value.ref oo, Value.ref o2])), (ka, Sum.inl (cI, n, Sum.inl kf)), (oo, Sum.inr (7, [Value.int osg, Value.int osm, Value.int ofc, Value.ref oca, Value.ref opa])), (oca, Sum.inl (cI, n, Sum.inl ocf)), (opa, Sum.inl (cI, opl, Sum.inl opf))]) (va_runV (As := [Value.int (nI j)]) (rest := []) ⟨hx, hb, hml, hown, hts⟩ (c_RC_modelAtB l dC dI cI cM cO H.size rc ma k fit 0 frd fbd fir mf co j mo (by first | assumption | omega) (by first | assumption | omega) (by first | assumption | omega)) (cwV 1 hts (my_gV k412 k414 ks3 k1 k415) rfl rfl rfl cu_RC_modelAt_1 ⟨by rw [hR]; exact Nat.le_of_ble_eq_true rfl, by rw [hR]; exact Nat.le_of_ble_eq_true rfl⟩) (my_preV hK hN (hP.sub [0, 1] rfl) (hD.sub [0, 1] (by decide +kernel) rfl) 0 rfl rfl) rfl rfl hl.1 rfl (lv_room (Nat.le_of_ble_eq_true rfl)) d_RC_put_2 ⟨by rw [hR]; exact Nat.le_of_ble_eq_true rfl, by rw [hR]; exact Nat.le_of_ble_eq_true rfl⟩) hP hD hS hA [0, 1] [2, 3, 4, 5, 6, 7] rfl rfl (by decide +kernel) (by decide +kernel) (fun r_2 u9 H locs hw_2 hP hD hS => ?_)
  have hr_2 : r_2 = some mo := hw_2
  have hPD : my_PD (dC, dI) vwCl A [(co, Sum.inr (1, [Value.int xcache, Value.int xpending, Value.long xlow, Value.long xrange, Value.long xcode, Value.long xreadLow, Value.long xreadRange, Value.ref ri, Value.ref ro, Value.ref rw, Value.int xasked])), (mo, Sum.inr (8, [Value.ref ka, Value.ref oo, Value.ref o2])), (ka, Sum.inl (cI, n, Sum.inl kf)), (oo, Sum.inr (7, [Value.int osg, Value.int osm, Value.int ofc, Value.ref oca, Value.ref opa])), (oca, Sum.inl (cI, n, Sum.inl ocf)), (opa, Sum.inl (cI, opl, Sum.inl opf)), (rc, Sum.inr (6, [Value.ref co, Value.ref ma, Value.int (nI k), Value.int fit, Value.int 0, Value.int frd, Value.int fbd, Value.int fir])), (ma, Sum.inl (cM, 8, Sum.inr (Sum.inr (Sum.inr (Sum.inr mf)))))] H := ⟨hP, hD⟩
  have hP := hPD.1
  have hD := hPD.2
  subst hr_2
  refine W.eq (g2 := F0 m 5 ls [Value.ref mo]) rfl ?_
  refine lv_astore_n (lv' := [(3, Value.ref mo), (0, Value.ref rc), (1, Value.int (nI j)), (2, Value.int (nI t))]) hx hb d_RC_put_5 rfl hl (by decide) rfl (fun ls hl => ?_)
  refine lv_aload_n hx hb d_RC_put_6 rfl (lv_at hl 0 rfl) ?_
  refine lv_ifnull hx hb d_RC_put_7 ?_
  refine lv_aload_n hx hb d_RC_put_10 rfl (lv_at hl 0 rfl) ?_
  refine lv_iload_n hx hb d_RC_put_11 rfl (lv_at hl 3 rfl) ?_
  refine my_ci (wr := [(co, Sum.inr (1, [Value.int xcache, Value.int xpending, Value.long xlow, Value.long xrange, Value.long xcode, Value.long xreadLow, Value.long xreadRange, Value.ref ri, Value.ref ro, Value.ref rw, Value.int xasked])), (oo, Sum.inr (7, [Value.int osg, Value.int osm, Value.int ofc, Value.ref oca, Value.ref opa])), (oca, Sum.inl (cI, n, Sum.inl ocf)), (opa, Sum.inl (cI, opl, Sum.inl opf)), (rc, Sum.inr (6, [Value.ref co, Value.ref ma, Value.int (nI k), Value.int fit, Value.int 0, Value.int frd, Value.int fbd, Value.int fir])), (ma, Sum.inl (cM, 8, Sum.inr (Sum.inr (Sum.inr (Sum.inr mf)))))]) (va_runV (As := [Value.int (nI t)]) (rest := []) ⟨hx, hb, hml, hown, hts⟩ (f_Model_hasSign l dC dI cI cM cO H.size mo ka oo o2 n kf (nI t) (by first | assumption | omega)) (cwV 1 hts (my_gV k416 k417 k418 k13 k419) rfl rfl rfl cu_Model_hasSign_1 ⟨by rw [hR]; exact Nat.le_of_ble_eq_true rfl, by rw [hR]; exact Nat.le_of_ble_eq_true rfl⟩) (my_preV hK hN (hP.sub [1, 2] rfl) (hD.sub [1, 2] (by decide +kernel) rfl) 0 rfl rfl) rfl rfl hl.1 rfl (lv_room (Nat.le_of_ble_eq_true rfl)) d_RC_put_12 ⟨by rw [hR]; exact Nat.le_of_ble_eq_true rfl, by rw [hR]; exact Nat.le_of_ble_eq_true rfl⟩) hP hD hS hA [1, 2] [0, 3, 4, 5, 6, 7] rfl rfl (by decide +kernel) (by decide +kernel) (fun r_12 u9 H locs hw_12 hP hD hS => ?_)
  have hr_12 : r_12 = if 0 ≤ (nI t) ∧ (nI t) < nI n then 1 else 0 := hw_12
  have hPD : my_PD (dC, dI) vwCl A [(co, Sum.inr (1, [Value.int xcache, Value.int xpending, Value.long xlow, Value.long xrange, Value.long xcode, Value.long xreadLow, Value.long xreadRange, Value.ref ri, Value.ref ro, Value.ref rw, Value.int xasked])), (oo, Sum.inr (7, [Value.int osg, Value.int osm, Value.int ofc, Value.ref oca, Value.ref opa])), (oca, Sum.inl (cI, n, Sum.inl ocf)), (opa, Sum.inl (cI, opl, Sum.inl opf)), (rc, Sum.inr (6, [Value.ref co, Value.ref ma, Value.int (nI k), Value.int fit, Value.int 0, Value.int frd, Value.int fbd, Value.int fir])), (ma, Sum.inl (cM, 8, Sum.inr (Sum.inr (Sum.inr (Sum.inr mf))))), (mo, Sum.inr (8, [Value.ref ka, Value.ref oo, Value.ref o2])), (ka, Sum.inl (cI, n, Sum.inl kf))] H := ⟨hP, hD⟩
  have hP := hPD.1
  have hD := hPD.2
  refine lv_if_ne (tgt := 20) hx hb d_RC_put_15 (by decide) (fun c_1 => ?_) (fun c_1 => ?_)
  · refine lv_aload_n hx hb d_RC_put_20 rfl (lv_at hl 1 rfl) ?_
    refine va_get (D := (dC, dI)) (ci := 6) (v := .int 0) (C := "RangeCoders") (T := T_RC) (N := 8) hx hb hg in_RC hown hK hP 4 rfl rfl 4 (by decide) (hg _ k262) (fun _ h9 => h9) rfl d_RC_put_21 ?_
    refine lv_if_ne (tgt := 42) hx hb d_RC_put_24 (by decide) (fun c_2 => ?_) (fun c_2 => ?_)
    · exact absurd rfl c_2
    · refine lv_aload_n hx hb d_RC_put_27 rfl (lv_at hl 1 rfl) ?_
      refine va_get (D := (dC, dI)) (ci := 6) (v := .ref co) (C := "RangeCoders") (T := T_RC) (N := 8) hx hb hg in_RC hown hK hP 4 rfl rfl 0 (by decide) (hg _ k258) (fun _ h9 => h9) rfl d_RC_put_28 ?_
      refine lv_aload_n hx hb d_RC_put_31 rfl (lv_at hl 0 rfl) ?_
      refine va_get (D := (dC, dI)) (ci := 8) (v := .ref oo) (C := "RangeCoders$Model") (T := T_Model) (N := 3) hx hb hg in_Model hown hK hP 6 rfl rfl 1 (by decide) (hg _ k343) (fun _ h9 => h9) rfl d_RC_put_32 ?_
      refine lv_iload_n hx hb d_RC_put_35 rfl (lv_at hl 3 rfl) ?_
      refine my_ci (wr := [(rc, Sum.inr (6, [Value.ref co, Value.ref ma, Value.int (nI k), Value.int fit, Value.int 0, Value.int frd, Value.int fbd, Value.int fir])), (ma, Sum.inl (cM, 8, Sum.inr (Sum.inr (Sum.inr (Sum.inr mf))))), (mo, Sum.inr (8, [Value.ref ka, Value.ref oo, Value.ref o2])), (ka, Sum.inl (cI, n, Sum.inl kf))]) (va_runU (As := [Value.ref oo, Value.int (nI t)]) (rest := []) ⟨hx, hb, hml, hown, hts⟩ (f_Carries_canWrite l dC dI cI cM cO H.size co xcache xpending xlow xrange xcode xreadLow xreadRange ri ro rw xasked oo osg ofc oca opa n ocf opl opf F osm t (by first | assumption | omega) (by first | assumption | omega) (by first | assumption | omega) (by first | assumption | omega) (by first | assumption | omega) (by first | assumption | omega)) (va_cwU 2 hts (my_gU k424 k426 k430 k425 k3 k434) rfl rfl rfl rfl (by decide +kernel) ⟨by rw [hR]; exact Nat.le_of_ble_eq_true rfl, by rw [hR]; exact Nat.le_of_ble_eq_true rfl⟩) (my_preV hK hN (hP.sub [0, 1, 2, 3] rfl) (hD.sub [0, 1, 2, 3] (by decide +kernel) rfl) 0 rfl rfl) rfl rfl hl.1 rfl (lv_room (Nat.le_of_ble_eq_true rfl)) d_RC_put_36 ⟨by rw [hR]; exact Nat.le_of_ble_eq_true rfl, by rw [hR]; exact Nat.le_of_ble_eq_true rfl⟩) hP hD hS hA [0, 1, 2, 3] [4, 5, 6, 7] rfl rfl (by decide +kernel) (by decide +kernel) (fun r_36 u9 H locs hw_36 hP hD hS => ?_)
      have hr_36 : r_36 = if 0 < F t then 1 else 0 := hw_36
      have hPD : my_PD (dC, dI) vwCl A [(rc, Sum.inr (6, [Value.ref co, Value.ref ma, Value.int (nI k), Value.int fit, Value.int 0, Value.int frd, Value.int fbd, Value.int fir])), (ma, Sum.inl (cM, 8, Sum.inr (Sum.inr (Sum.inr (Sum.inr mf))))), (mo, Sum.inr (8, [Value.ref ka, Value.ref oo, Value.ref o2])), (ka, Sum.inl (cI, n, Sum.inl kf)), (co, Sum.inr (1, [Value.int xcache, Value.int xpending, Value.long xlow, Value.long xrange, Value.long xcode, Value.long xreadLow, Value.long xreadRange, Value.ref ri, Value.ref ro, Value.ref rw, Value.int xasked])), (oo, Sum.inr (7, [Value.int osg, Value.int osm, Value.int ofc, Value.ref oca, Value.ref opa])), (oca, Sum.inl (cI, n, Sum.inl ocf)), (opa, Sum.inl (cI, opl, Sum.inl opf))] H := ⟨hP, hD⟩
      have hP := hPD.1
      have hD := hPD.2
      refine lv_if_ne (tgt := 45) hx hb d_RC_put_39 (by decide) (fun c_3 => ?_) (fun c_3 => ?_)
      · exact absurd (one_ne hr_36 c_3) (by omega)
      · refine lv_bipush (v := (-3)) hx hb d_RC_put_42 (by decide) ?_
        exact my_iret (v := (-3)) hx hb hr (rfl) hlocks hQ hK hS (Nat.le_refl _) (Nat.le_refl _) () (rfl) (hP.sub [0, 1, 4, 2, 3, 5, 6, 7] rfl) (hD.sub [0, 1, 4, 2, 3, 5, 6, 7] (by decide +kernel) rfl) d_RC_put_44
  · exact absurd (has_in ht (by omega)) (one_eq hr_12 c_1)
set_option maxHeartbeats 2000000 in
set_option maxRecDepth 100000 in
theorem f_RC_putR_Carries (l : Launch) (dC : Nat → ClassId) (dI : Nat → Nat → Nat) (cI cM cO : ClassId) (sz : Nat) (rc : Nat) (ma : Nat) (k : Nat) (frd : Int32) (fbd : Int32) (fir : Int32) (mf : Nat → Option Nat) (co : Nat) (xcache : Int32) (xpending : Int32) (xlow : Int64) (xrange : Int64) (xcode : Int64) (xreadLow : Int64) (xreadRange : Int64) (ri : Nat) (ro : Nat) (rw : Nat) (xasked : Int32) (j : Nat) (mo : Nat) (o2 : Nat) (ka : Nat) (kf : Nat → Int32) (oo : Nat) (osg : Int32) (ofc : Int32) (oca : Nat) (opa : Nat) (n : Nat) (ocf : Nat → Int32) (opl : Nat) (opf : Nat → Int32) (F : Nat → Nat) (osm : Int32) (ki : Nat) (t : Nat) (hk8 : k ≤ 8) (hj : j < k) (hmf : mf j = some mo) (hkl : n ≤ 64) (hn : n ≤ 64) (hpl : opl ≤ 512) (hf : tbI ocf n F) (ht : t < n) (hfc : ofc ≤ nI t) (hFb : F t < 2 ^ 31) (hz : 0 < F t) (hk6 : ki = 600) : MetI l y_RC_put (Cond.code y_RC_put prog_1_method_4_code 4 (some .int) :: gw) ({ frames := 3, cells := 0, slots := 0, locals := 64 } : Room) (dC, dI) vwCl (kT cI cM cO) [Value.ref rc, Value.int (nI j), Value.int (nI t)] [(rc, Sum.inr (6, [Value.ref co, Value.ref ma, Value.int (nI k), Value.int (nI ki), Value.int 0, Value.int frd, Value.int fbd, Value.int fir])), (ma, Sum.inl (cM, 8, Sum.inr (Sum.inr (Sum.inr (Sum.inr mf))))), (co, Sum.inr (1, [Value.int xcache, Value.int xpending, Value.long xlow, Value.long xrange, Value.long xcode, Value.long xreadLow, Value.long xreadRange, Value.ref ri, Value.ref ro, Value.ref rw, Value.int xasked])), (mo, Sum.inr (8, [Value.ref ka, Value.ref oo, Value.ref o2])), (ka, Sum.inl (cI, n, Sum.inl kf)), (oo, Sum.inr (7, [Value.int osg, Value.int osm, Value.int ofc, Value.ref oca, Value.ref opa])), (oca, Sum.inl (cI, n, Sum.inl ocf)), (opa, Sum.inl (cI, opl, Sum.inl opf))] sz (fun (r : Int32) (u : Unit) => r = -4) (fun (u : Unit) => [(rc, Sum.inr (6, [Value.ref co, Value.ref ma, Value.int (nI k), Value.int (nI ki), Value.int 0, Value.int frd, Value.int fbd, Value.int fir])), (ma, Sum.inl (cM, 8, Sum.inr (Sum.inr (Sum.inr (Sum.inr mf))))), (co, Sum.inr (1, [Value.int xcache, Value.int xpending, Value.long xlow, Value.long xrange, Value.long xcode, Value.long xreadLow, Value.long xreadRange, Value.ref ri, Value.ref ro, Value.ref rw, Value.int xasked])), (mo, Sum.inr (8, [Value.ref ka, Value.ref oo, Value.ref o2])), (ka, Sum.inl (cI, n, Sum.inl kf)), (oo, Sum.inr (7, [Value.int osg, Value.int osm, Value.int ofc, Value.ref oca, Value.ref opa])), (oca, Sum.inl (cI, n, Sum.inl ocf)), (opa, Sum.inl (cI, opl, Sum.inl opf))]) 0 0 := by
  refine my_ofI (cc := prog_1_method_4_code) (n := 4) (ret := (some .int)) (by decide) rfl (Nat.le_of_ble_eq_true rfl) ?_
  intro p e s m args below meth c R Q A ls H locs hx hb hr hts hown hlocks hml hnm hR hQ hA hl hP hK hN hD hS
  have hg : ∀ w ∈ gw, w.before args s = true := fun w h => hts w (List.mem_cons_of_mem _ h)
  have hown : s.vm.findClass "RangeCoders" = some m.cls := hown
  have hl : lv_has ls 4 [(0, Value.ref rc), (1, Value.int (nI j)), (2, Value.int (nI t))] := hl
  refine lv_aload_n hx hb d_RC_put_0 rfl (lv_at hl 0 rfl) ?_
  refine lv_iload_n hx hb d_RC_put_1 rfl (lv_at hl 1 rfl) ?_
  refine my_cq (wr := [(co, Sum.inr (1, [Value.int xcache, Value.int xpending, Value.long xlow, Value.long xrange, Value.long xcode, Value.long xreadLow, Value.long xreadRange, Value.ref ri, Value.ref ro, Value.ref rw, Value.int xasked])), (mo, Sum.inr (8, [Value.ref ka, Value.ref oo, Value.ref o2])), (ka, Sum.inl (cI, n, Sum.inl kf)), (oo, Sum.inr (7, [Value.int osg, Value.int osm, Value.int ofc, Value.ref oca, Value.ref opa])), (oca, Sum.inl (cI, n, Sum.inl ocf)), (opa, Sum.inl (cI, opl, Sum.inl opf))]) (va_runV (As := [Value.int (nI j)]) (rest := []) ⟨hx, hb, hml, hown, hts⟩ (c_RC_modelAtB l dC dI cI cM cO H.size rc ma k (nI ki) 0 frd fbd fir mf co j mo (by first | assumption | omega) (by first | assumption | omega) (by first | assumption | omega)) (cwV 1 hts (my_gV k412 k414 ks3 k1 k415) rfl rfl rfl cu_RC_modelAt_1 ⟨by rw [hR]; exact Nat.le_of_ble_eq_true rfl, by rw [hR]; exact Nat.le_of_ble_eq_true rfl⟩) (my_preV hK hN (hP.sub [0, 1] rfl) (hD.sub [0, 1] (by decide +kernel) rfl) 0 rfl rfl) rfl rfl hl.1 rfl (lv_room (Nat.le_of_ble_eq_true rfl)) d_RC_put_2 ⟨by rw [hR]; exact Nat.le_of_ble_eq_true rfl, by rw [hR]; exact Nat.le_of_ble_eq_true rfl⟩) hP hD hS hA [0, 1] [2, 3, 4, 5, 6, 7] rfl rfl (by decide +kernel) (by decide +kernel) (fun r_2 u9 H locs hw_2 hP hD hS => ?_)
  have hr_2 : r_2 = some mo := hw_2
  have hPD : my_PD (dC, dI) vwCl A [(co, Sum.inr (1, [Value.int xcache, Value.int xpending, Value.long xlow, Value.long xrange, Value.long xcode, Value.long xreadLow, Value.long xreadRange, Value.ref ri, Value.ref ro, Value.ref rw, Value.int xasked])), (mo, Sum.inr (8, [Value.ref ka, Value.ref oo, Value.ref o2])), (ka, Sum.inl (cI, n, Sum.inl kf)), (oo, Sum.inr (7, [Value.int osg, Value.int osm, Value.int ofc, Value.ref oca, Value.ref opa])), (oca, Sum.inl (cI, n, Sum.inl ocf)), (opa, Sum.inl (cI, opl, Sum.inl opf)), (rc, Sum.inr (6, [Value.ref co, Value.ref ma, Value.int (nI k), Value.int (nI ki), Value.int 0, Value.int frd, Value.int fbd, Value.int fir])), (ma, Sum.inl (cM, 8, Sum.inr (Sum.inr (Sum.inr (Sum.inr mf)))))] H := ⟨hP, hD⟩
  have hP := hPD.1
  have hD := hPD.2
  subst hr_2
  refine W.eq (g2 := F0 m 5 ls [Value.ref mo]) rfl ?_
  refine lv_astore_n (lv' := [(3, Value.ref mo), (0, Value.ref rc), (1, Value.int (nI j)), (2, Value.int (nI t))]) hx hb d_RC_put_5 rfl hl (by decide) rfl (fun ls hl => ?_)
  refine lv_aload_n hx hb d_RC_put_6 rfl (lv_at hl 0 rfl) ?_
  refine lv_ifnull hx hb d_RC_put_7 ?_
  refine lv_aload_n hx hb d_RC_put_10 rfl (lv_at hl 0 rfl) ?_
  refine lv_iload_n hx hb d_RC_put_11 rfl (lv_at hl 3 rfl) ?_
  refine my_ci (wr := [(co, Sum.inr (1, [Value.int xcache, Value.int xpending, Value.long xlow, Value.long xrange, Value.long xcode, Value.long xreadLow, Value.long xreadRange, Value.ref ri, Value.ref ro, Value.ref rw, Value.int xasked])), (oo, Sum.inr (7, [Value.int osg, Value.int osm, Value.int ofc, Value.ref oca, Value.ref opa])), (oca, Sum.inl (cI, n, Sum.inl ocf)), (opa, Sum.inl (cI, opl, Sum.inl opf)), (rc, Sum.inr (6, [Value.ref co, Value.ref ma, Value.int (nI k), Value.int (nI ki), Value.int 0, Value.int frd, Value.int fbd, Value.int fir])), (ma, Sum.inl (cM, 8, Sum.inr (Sum.inr (Sum.inr (Sum.inr mf)))))]) (va_runV (As := [Value.int (nI t)]) (rest := []) ⟨hx, hb, hml, hown, hts⟩ (f_Model_hasSign l dC dI cI cM cO H.size mo ka oo o2 n kf (nI t) (by first | assumption | omega)) (cwV 1 hts (my_gV k416 k417 k418 k13 k419) rfl rfl rfl cu_Model_hasSign_1 ⟨by rw [hR]; exact Nat.le_of_ble_eq_true rfl, by rw [hR]; exact Nat.le_of_ble_eq_true rfl⟩) (my_preV hK hN (hP.sub [1, 2] rfl) (hD.sub [1, 2] (by decide +kernel) rfl) 0 rfl rfl) rfl rfl hl.1 rfl (lv_room (Nat.le_of_ble_eq_true rfl)) d_RC_put_12 ⟨by rw [hR]; exact Nat.le_of_ble_eq_true rfl, by rw [hR]; exact Nat.le_of_ble_eq_true rfl⟩) hP hD hS hA [1, 2] [0, 3, 4, 5, 6, 7] rfl rfl (by decide +kernel) (by decide +kernel) (fun r_12 u9 H locs hw_12 hP hD hS => ?_)
  have hr_12 : r_12 = if 0 ≤ (nI t) ∧ (nI t) < nI n then 1 else 0 := hw_12
  have hPD : my_PD (dC, dI) vwCl A [(co, Sum.inr (1, [Value.int xcache, Value.int xpending, Value.long xlow, Value.long xrange, Value.long xcode, Value.long xreadLow, Value.long xreadRange, Value.ref ri, Value.ref ro, Value.ref rw, Value.int xasked])), (oo, Sum.inr (7, [Value.int osg, Value.int osm, Value.int ofc, Value.ref oca, Value.ref opa])), (oca, Sum.inl (cI, n, Sum.inl ocf)), (opa, Sum.inl (cI, opl, Sum.inl opf)), (rc, Sum.inr (6, [Value.ref co, Value.ref ma, Value.int (nI k), Value.int (nI ki), Value.int 0, Value.int frd, Value.int fbd, Value.int fir])), (ma, Sum.inl (cM, 8, Sum.inr (Sum.inr (Sum.inr (Sum.inr mf))))), (mo, Sum.inr (8, [Value.ref ka, Value.ref oo, Value.ref o2])), (ka, Sum.inl (cI, n, Sum.inl kf))] H := ⟨hP, hD⟩
  have hP := hPD.1
  have hD := hPD.2
  refine lv_if_ne (tgt := 20) hx hb d_RC_put_15 (by decide) (fun c_1 => ?_) (fun c_1 => ?_)
  · refine lv_aload_n hx hb d_RC_put_20 rfl (lv_at hl 1 rfl) ?_
    refine va_get (D := (dC, dI)) (ci := 6) (v := .int 0) (C := "RangeCoders") (T := T_RC) (N := 8) hx hb hg in_RC hown hK hP 4 rfl rfl 4 (by decide) (hg _ k262) (fun _ h9 => h9) rfl d_RC_put_21 ?_
    refine lv_if_ne (tgt := 42) hx hb d_RC_put_24 (by decide) (fun c_2 => ?_) (fun c_2 => ?_)
    · exact absurd rfl c_2
    · refine lv_aload_n hx hb d_RC_put_27 rfl (lv_at hl 1 rfl) ?_
      refine va_get (D := (dC, dI)) (ci := 6) (v := .ref co) (C := "RangeCoders") (T := T_RC) (N := 8) hx hb hg in_RC hown hK hP 4 rfl rfl 0 (by decide) (hg _ k258) (fun _ h9 => h9) rfl d_RC_put_28 ?_
      refine lv_aload_n hx hb d_RC_put_31 rfl (lv_at hl 0 rfl) ?_
      refine va_get (D := (dC, dI)) (ci := 8) (v := .ref oo) (C := "RangeCoders$Model") (T := T_Model) (N := 3) hx hb hg in_Model hown hK hP 6 rfl rfl 1 (by decide) (hg _ k343) (fun _ h9 => h9) rfl d_RC_put_32 ?_
      refine lv_iload_n hx hb d_RC_put_35 rfl (lv_at hl 3 rfl) ?_
      refine my_ci (wr := [(rc, Sum.inr (6, [Value.ref co, Value.ref ma, Value.int (nI k), Value.int (nI ki), Value.int 0, Value.int frd, Value.int fbd, Value.int fir])), (ma, Sum.inl (cM, 8, Sum.inr (Sum.inr (Sum.inr (Sum.inr mf))))), (mo, Sum.inr (8, [Value.ref ka, Value.ref oo, Value.ref o2])), (ka, Sum.inl (cI, n, Sum.inl kf))]) (va_runU (As := [Value.ref oo, Value.int (nI t)]) (rest := []) ⟨hx, hb, hml, hown, hts⟩ (f_Carries_canWrite l dC dI cI cM cO H.size co xcache xpending xlow xrange xcode xreadLow xreadRange ri ro rw xasked oo osg ofc oca opa n ocf opl opf F osm t (by first | assumption | omega) (by first | assumption | omega) (by first | assumption | omega) (by first | assumption | omega) (by first | assumption | omega) (by first | assumption | omega)) (va_cwU 2 hts (my_gU k424 k426 k430 k425 k3 k434) rfl rfl rfl rfl (by decide +kernel) ⟨by rw [hR]; exact Nat.le_of_ble_eq_true rfl, by rw [hR]; exact Nat.le_of_ble_eq_true rfl⟩) (my_preV hK hN (hP.sub [0, 1, 2, 3] rfl) (hD.sub [0, 1, 2, 3] (by decide +kernel) rfl) 0 rfl rfl) rfl rfl hl.1 rfl (lv_room (Nat.le_of_ble_eq_true rfl)) d_RC_put_36 ⟨by rw [hR]; exact Nat.le_of_ble_eq_true rfl, by rw [hR]; exact Nat.le_of_ble_eq_true rfl⟩) hP hD hS hA [0, 1, 2, 3] [4, 5, 6, 7] rfl rfl (by decide +kernel) (by decide +kernel) (fun r_36 u9 H locs hw_36 hP hD hS => ?_)
      have hr_36 : r_36 = if 0 < F t then 1 else 0 := hw_36
      have hPD : my_PD (dC, dI) vwCl A [(rc, Sum.inr (6, [Value.ref co, Value.ref ma, Value.int (nI k), Value.int (nI ki), Value.int 0, Value.int frd, Value.int fbd, Value.int fir])), (ma, Sum.inl (cM, 8, Sum.inr (Sum.inr (Sum.inr (Sum.inr mf))))), (mo, Sum.inr (8, [Value.ref ka, Value.ref oo, Value.ref o2])), (ka, Sum.inl (cI, n, Sum.inl kf)), (co, Sum.inr (1, [Value.int xcache, Value.int xpending, Value.long xlow, Value.long xrange, Value.long xcode, Value.long xreadLow, Value.long xreadRange, Value.ref ri, Value.ref ro, Value.ref rw, Value.int xasked])), (oo, Sum.inr (7, [Value.int osg, Value.int osm, Value.int ofc, Value.ref oca, Value.ref opa])), (oca, Sum.inl (cI, n, Sum.inl ocf)), (opa, Sum.inl (cI, opl, Sum.inl opf))] H := ⟨hP, hD⟩
      have hP := hPD.1
      have hD := hPD.2
      refine lv_if_ne (tgt := 45) hx hb d_RC_put_39 (by decide) (fun c_3 => ?_) (fun c_3 => ?_)
      · refine lv_aload_n hx hb d_RC_put_45 rfl (lv_at hl 1 rfl) ?_
        refine va_get (D := (dC, dI)) (ci := 6) (v := .int (nI ki)) (C := "RangeCoders") (T := T_RC) (N := 8) hx hb hg in_RC hown hK hP 0 rfl rfl 3 (by decide) (hg _ k261) (fun _ h9 => h9) rfl d_RC_put_46 ?_
        refine lv_sipush (v := 600) hx hb d_RC_put_49 (by decide) ?_
        refine lv_icmp_lt (tgt := 58) hx hb d_RC_put_52 (by decide) (fun c_4 => ?_) (fun c_4 => ?_)
        · exact absurd c_4 (by rw [hk6]; decide)
        · refine lv_bipush (v := (-4)) hx hb d_RC_put_55 (by decide) ?_
          exact my_iret (v := (-4)) hx hb hr (rfl) hlocks hQ hK hS (Nat.le_refl _) (Nat.le_refl _) () (rfl) (hP.sub [0, 1, 4, 2, 3, 5, 6, 7] rfl) (hD.sub [0, 1, 4, 2, 3, 5, 6, 7] (by decide +kernel) rfl) d_RC_put_57
      · exact absurd hz (one_eq hr_36 c_3)
  · exact absurd (has_in ht (by omega)) (one_eq hr_12 c_1)
set_option maxHeartbeats 2000000 in
set_option maxRecDepth 100000 in
theorem f_RC_putL_Carries (l : Launch) (dC : Nat → ClassId) (dI : Nat → Nat → Nat) (cI cM cO : ClassId) (sz : Nat) (sl : Nat) (rc : Nat) (ma : Nat) (k : Nat) (frd : Int32) (fbd : Int32) (fir : Int32) (mf : Nat → Option Nat) (co : Nat) (xcode : Int64) (xreadLow : Int64) (xreadRange : Int64) (ri : Nat) (ro : Nat) (rw : Nat) (xasked : Int32) (Rg : Nat) (L : Nat) (ca : Option Nat) (Pn : Nat) (rwa : Nat) (rwk : Nat) (rwf : Nat → Int32) (bs : List Nat) (j : Nat) (mo : Nat) (o2 : Nat) (ka : Nat) (kf : Nat → Int32) (oo : Nat) (osg : Int32) (ofc : Int32) (oca : Nat) (opa : Nat) (n : Nat) (ocf : Nat → Int32) (opl : Nat) (opf : Nat → Int32) (F : Nat → Nat) (t : Nat) (ki : Nat) (hki : ki < 600) (hk8 : k ≤ 8) (hj : j < k) (hmf : mf j = some mo) (hkl : n ≤ 64) (hn : n ≤ 64) (hpl : opl ≤ 512) (hf : tbI ocf n F) (ht : t < n) (hfc : ofc ≤ nI t) (hFt : 0 < F t) (hsum : ns F n ≤ 8192) (hE : eInv (Rg, L, ca, Pn, bs)) (hrw : rOk (nI bs.length) rwk) (hGrw : gIs rwf bs) (hN9 : bs.length + Pn + 20 ≤ 7900) : MetIg l y_RC_put (Cond.code y_RC_put prog_1_method_4_code 4 (some .int) :: gw) ({ frames := 8, cells := rPh rwk, slots := rPh rwk, locals := 193 } : Room) (dC, dI) vwCl (kT cI cM cO) [Value.ref rc, Value.int (nI j), Value.int (nI t)] [(rc, Sum.inr (6, [Value.ref co, Value.ref ma, Value.int (nI k), Value.int (nI ki), Value.int 0, Value.int frd, Value.int fbd, Value.int fir])), (ma, Sum.inl (cM, 8, Sum.inr (Sum.inr (Sum.inr (Sum.inr mf))))), (co, Sum.inr (1, [Value.int (caI ca), Value.int (nI Pn), Value.long (lN L), Value.long (lN Rg), Value.long xcode, Value.long xreadLow, Value.long xreadRange, Value.ref ri, Value.ref ro, Value.ref rw, Value.int xasked])), (rw, Sum.inr (0, [Value.int (nI bs.length), Value.ref rwa])), (rwa, Sum.inl (cI, rwk, Sum.inl rwf)), (mo, Sum.inr (8, [Value.ref ka, Value.ref oo, Value.ref o2])), (ka, Sum.inl (cI, n, Sum.inl kf)), (oo, Sum.inr (7, [Value.int osg, Value.int (nI (ns F n)), Value.int ofc, Value.ref oca, Value.ref opa])), (oca, Sum.inl (cI, n, Sum.inl ocf)), (opa, Sum.inl (cI, opl, Sum.inl opf))] sz sl (fun (r : Int32) (u : Nat × Nat × (Nat → Int32) × (Nat → Int32)) => r = nI (ki + 1) ∧ rOk (nI (eB (wdS (Rg / ns F n * F t, L + Rg / ns F n * ns F t, ca, Pn, bs))).length) u.2.1 ∧ gIs u.2.2.1 (eB (wdS (Rg / ns F n * F t, L + Rg / ns F n * ns F t, ca, Pn, bs))) ∧ tbI u.2.2.2 n (lrn n t F)) (fun (u : Nat × Nat × (Nat → Int32) × (Nat → Int32)) => [(rc, Sum.inr (6, [Value.ref co, Value.ref ma, Value.int (nI k), Value.int (nI (ki + 1)), Value.int 0, Value.int frd, Value.int fbd, Value.int fir])), (ma, Sum.inl (cM, 8, Sum.inr (Sum.inr (Sum.inr (Sum.inr mf))))), (co, Sum.inr (1, [Value.int (caI (eC (wdS (Rg / ns F n * F t, L + Rg / ns F n * ns F t, ca, Pn, bs)))), Value.int (nI (eP (wdS (Rg / ns F n * F t, L + Rg / ns F n * ns F t, ca, Pn, bs)))), Value.long (lN (eL (wdS (Rg / ns F n * F t, L + Rg / ns F n * ns F t, ca, Pn, bs)))), Value.long (lN (eR (wdS (Rg / ns F n * F t, L + Rg / ns F n * ns F t, ca, Pn, bs)))), Value.long xcode, Value.long xreadLow, Value.long xreadRange, Value.ref ri, Value.ref ro, Value.ref rw, Value.int xasked])), (rw, Sum.inr (0, [Value.int (nI (eB (wdS (Rg / ns F n * F t, L + Rg / ns F n * ns F t, ca, Pn, bs))).length), Value.ref u.1])), (u.1, Sum.inl (cI, u.2.1, Sum.inl u.2.2.1)), (mo, Sum.inr (8, [Value.ref ka, Value.ref oo, Value.ref o2])), (ka, Sum.inl (cI, n, Sum.inl kf)), (oo, Sum.inr (7, [Value.int osg, Value.int (nI (ns (lrn n t F) n)), Value.int ofc, Value.ref oca, Value.ref opa])), (oca, Sum.inl (cI, n, Sum.inl u.2.2.2)), (opa, Sum.inl (cI, opl, Sum.inl opf))]) (rPh rwk) (fun (u : Nat × Nat × (Nat → Int32) × (Nat → Int32)) => rPh u.2.1) := by
  refine my_ofIg (cc := prog_1_method_4_code) (n := 4) (ret := (some .int)) (by decide) rfl (Nat.le_of_ble_eq_true rfl) ?_
  intro p e s m args below meth c R Q A ls H locs hx hb hr hts hown hlocks hml hnm hR hQ hA hl hP hK hN hD hS
  have hg : ∀ w ∈ gw, w.before args s = true := fun w h => hts w (List.mem_cons_of_mem _ h)
  have hown : s.vm.findClass "RangeCoders" = some m.cls := hown
  have hl : lv_has ls 4 [(0, Value.ref rc), (1, Value.int (nI j)), (2, Value.int (nI t))] := hl
  have hltw := rOk_lt hrw
  have hgt9 := ns_ge (F := F) ht
  refine lv_aload_n hx hb d_RC_put_0 rfl (lv_at hl 0 rfl) ?_
  refine lv_iload_n hx hb d_RC_put_1 rfl (lv_at hl 1 rfl) ?_
  refine my_cq (wr := [(co, Sum.inr (1, [Value.int (caI ca), Value.int (nI Pn), Value.long (lN L), Value.long (lN Rg), Value.long xcode, Value.long xreadLow, Value.long xreadRange, Value.ref ri, Value.ref ro, Value.ref rw, Value.int xasked])), (rw, Sum.inr (0, [Value.int (nI bs.length), Value.ref rwa])), (rwa, Sum.inl (cI, rwk, Sum.inl rwf)), (mo, Sum.inr (8, [Value.ref ka, Value.ref oo, Value.ref o2])), (ka, Sum.inl (cI, n, Sum.inl kf)), (oo, Sum.inr (7, [Value.int osg, Value.int (nI (ns F n)), Value.int ofc, Value.ref oca, Value.ref opa])), (oca, Sum.inl (cI, n, Sum.inl ocf)), (opa, Sum.inl (cI, opl, Sum.inl opf))]) (va_runV (As := [Value.int (nI j)]) (rest := []) ⟨hx, hb, hml, hown, hts⟩ (c_RC_modelAtB l dC dI cI cM cO H.size rc ma k (nI ki) 0 frd fbd fir mf co j mo (by first | assumption | omega) (by first | assumption | omega) (by first | assumption | omega)) (cwV 1 hts (my_gV k412 k414 ks3 k1 k415) rfl rfl rfl cu_RC_modelAt_1 ⟨by rw [hR]; exact Nat.le_of_ble_eq_true rfl, by rw [hR]; exact Nat.le_of_ble_eq_true rfl⟩) (my_preV hK hN (hP.sub [0, 1] rfl) (hD.sub [0, 1] (by decide +kernel) rfl) 0 rfl rfl) rfl rfl hl.1 rfl (lv_room (Nat.le_of_ble_eq_true rfl)) d_RC_put_2 ⟨by rw [hR]; exact (show 0 + 0 ≤ (rPh rwk) by omega), by rw [hR]; exact (show 0 + 0 ≤ (rPh rwk) by omega)⟩) hP hD hS hA [0, 1] [2, 3, 4, 5, 6, 7, 8, 9] rfl rfl (by decide +kernel) (by decide +kernel) (fun r_2 u9 H locs hw_2 hP hD hS => ?_)
  have hr_2 : r_2 = some mo := hw_2
  have hPD : my_PD (dC, dI) vwCl A [(co, Sum.inr (1, [Value.int (caI ca), Value.int (nI Pn), Value.long (lN L), Value.long (lN Rg), Value.long xcode, Value.long xreadLow, Value.long xreadRange, Value.ref ri, Value.ref ro, Value.ref rw, Value.int xasked])), (rw, Sum.inr (0, [Value.int (nI bs.length), Value.ref rwa])), (rwa, Sum.inl (cI, rwk, Sum.inl rwf)), (mo, Sum.inr (8, [Value.ref ka, Value.ref oo, Value.ref o2])), (ka, Sum.inl (cI, n, Sum.inl kf)), (oo, Sum.inr (7, [Value.int osg, Value.int (nI (ns F n)), Value.int ofc, Value.ref oca, Value.ref opa])), (oca, Sum.inl (cI, n, Sum.inl ocf)), (opa, Sum.inl (cI, opl, Sum.inl opf)), (rc, Sum.inr (6, [Value.ref co, Value.ref ma, Value.int (nI k), Value.int (nI ki), Value.int 0, Value.int frd, Value.int fbd, Value.int fir])), (ma, Sum.inl (cM, 8, Sum.inr (Sum.inr (Sum.inr (Sum.inr mf)))))] H := ⟨hP, hD⟩
  have hP := hPD.1
  have hD := hPD.2
  subst hr_2
  refine W.eq (g2 := F0 m 5 ls [Value.ref mo]) rfl ?_
  refine lv_astore_n (lv' := [(3, Value.ref mo), (0, Value.ref rc), (1, Value.int (nI j)), (2, Value.int (nI t))]) hx hb d_RC_put_5 rfl hl (by decide) rfl (fun ls hl => ?_)
  refine lv_aload_n hx hb d_RC_put_6 rfl (lv_at hl 0 rfl) ?_
  refine lv_ifnull hx hb d_RC_put_7 ?_
  refine lv_aload_n hx hb d_RC_put_10 rfl (lv_at hl 0 rfl) ?_
  refine lv_iload_n hx hb d_RC_put_11 rfl (lv_at hl 3 rfl) ?_
  refine my_ci (wr := [(co, Sum.inr (1, [Value.int (caI ca), Value.int (nI Pn), Value.long (lN L), Value.long (lN Rg), Value.long xcode, Value.long xreadLow, Value.long xreadRange, Value.ref ri, Value.ref ro, Value.ref rw, Value.int xasked])), (rw, Sum.inr (0, [Value.int (nI bs.length), Value.ref rwa])), (rwa, Sum.inl (cI, rwk, Sum.inl rwf)), (oo, Sum.inr (7, [Value.int osg, Value.int (nI (ns F n)), Value.int ofc, Value.ref oca, Value.ref opa])), (oca, Sum.inl (cI, n, Sum.inl ocf)), (opa, Sum.inl (cI, opl, Sum.inl opf)), (rc, Sum.inr (6, [Value.ref co, Value.ref ma, Value.int (nI k), Value.int (nI ki), Value.int 0, Value.int frd, Value.int fbd, Value.int fir])), (ma, Sum.inl (cM, 8, Sum.inr (Sum.inr (Sum.inr (Sum.inr mf)))))]) (va_runV (As := [Value.int (nI t)]) (rest := []) ⟨hx, hb, hml, hown, hts⟩ (f_Model_hasSign l dC dI cI cM cO H.size mo ka oo o2 n kf (nI t) (hkl)) (cwV 1 hts (my_gV k416 k417 k418 k13 k419) rfl rfl rfl cu_Model_hasSign_1 ⟨by rw [hR]; exact Nat.le_of_ble_eq_true rfl, by rw [hR]; exact Nat.le_of_ble_eq_true rfl⟩) (my_preV hK hN (hP.sub [3, 4] rfl) (hD.sub [3, 4] (by decide +kernel) rfl) 0 rfl rfl) rfl rfl hl.1 rfl (lv_room (Nat.le_of_ble_eq_true rfl)) d_RC_put_12 ⟨by rw [hR]; exact (show 0 + 0 ≤ (rPh rwk) by omega), by rw [hR]; exact (show 0 + 0 ≤ (rPh rwk) by omega)⟩) hP hD hS hA [3, 4] [0, 1, 2, 5, 6, 7, 8, 9] rfl rfl (by decide +kernel) (by decide +kernel) (fun r_12 u9 H locs hw_12 hP hD hS => ?_)
  have hr_12 : r_12 = if 0 ≤ (nI t) ∧ (nI t) < nI n then 1 else 0 := hw_12
  have hPD : my_PD (dC, dI) vwCl A [(co, Sum.inr (1, [Value.int (caI ca), Value.int (nI Pn), Value.long (lN L), Value.long (lN Rg), Value.long xcode, Value.long xreadLow, Value.long xreadRange, Value.ref ri, Value.ref ro, Value.ref rw, Value.int xasked])), (rw, Sum.inr (0, [Value.int (nI bs.length), Value.ref rwa])), (rwa, Sum.inl (cI, rwk, Sum.inl rwf)), (oo, Sum.inr (7, [Value.int osg, Value.int (nI (ns F n)), Value.int ofc, Value.ref oca, Value.ref opa])), (oca, Sum.inl (cI, n, Sum.inl ocf)), (opa, Sum.inl (cI, opl, Sum.inl opf)), (rc, Sum.inr (6, [Value.ref co, Value.ref ma, Value.int (nI k), Value.int (nI ki), Value.int 0, Value.int frd, Value.int fbd, Value.int fir])), (ma, Sum.inl (cM, 8, Sum.inr (Sum.inr (Sum.inr (Sum.inr mf))))), (mo, Sum.inr (8, [Value.ref ka, Value.ref oo, Value.ref o2])), (ka, Sum.inl (cI, n, Sum.inl kf))] H := ⟨hP, hD⟩
  have hP := hPD.1
  have hD := hPD.2
  refine lv_if_ne (tgt := 20) hx hb d_RC_put_15 (by decide) (fun c_1 => ?_) (fun c_1 => ?_)
  · refine lv_aload_n hx hb d_RC_put_20 rfl (lv_at hl 1 rfl) ?_
    refine va_get (D := (dC, dI)) (ci := 6) (v := .int 0) (C := "RangeCoders") (T := T_RC) (N := 8) hx hb hg in_RC hown hK hP 6 rfl rfl 4 (by decide) (hg _ k262) (fun _ h9 => h9) rfl d_RC_put_21 ?_
    refine lv_if_ne (tgt := 42) hx hb d_RC_put_24 (by decide) (fun c_2 => ?_) (fun c_2 => ?_)
    · exact absurd rfl c_2
    · refine lv_aload_n hx hb d_RC_put_27 rfl (lv_at hl 1 rfl) ?_
      refine va_get (D := (dC, dI)) (ci := 6) (v := .ref co) (C := "RangeCoders") (T := T_RC) (N := 8) hx hb hg in_RC hown hK hP 6 rfl rfl 0 (by decide) (hg _ k258) (fun _ h9 => h9) rfl d_RC_put_28 ?_
      refine lv_aload_n hx hb d_RC_put_31 rfl (lv_at hl 0 rfl) ?_
      refine va_get (D := (dC, dI)) (ci := 8) (v := .ref oo) (C := "RangeCoders$Model") (T := T_Model) (N := 3) hx hb hg in_Model hown hK hP 8 rfl rfl 1 (by decide) (hg _ k343) (fun _ h9 => h9) rfl d_RC_put_32 ?_
      refine lv_iload_n hx hb d_RC_put_35 rfl (lv_at hl 3 rfl) ?_
      refine my_ci (wr := [(rw, Sum.inr (0, [Value.int (nI bs.length), Value.ref rwa])), (rwa, Sum.inl (cI, rwk, Sum.inl rwf)), (rc, Sum.inr (6, [Value.ref co, Value.ref ma, Value.int (nI k), Value.int (nI ki), Value.int 0, Value.int frd, Value.int fbd, Value.int fir])), (ma, Sum.inl (cM, 8, Sum.inr (Sum.inr (Sum.inr (Sum.inr mf))))), (mo, Sum.inr (8, [Value.ref ka, Value.ref oo, Value.ref o2])), (ka, Sum.inl (cI, n, Sum.inl kf))]) (va_runU (As := [Value.ref oo, Value.int (nI t)]) (rest := []) ⟨hx, hb, hml, hown, hts⟩ (f_Carries_canWrite l dC dI cI cM cO H.size co (caI ca) (nI Pn) (lN L) (lN Rg) xcode xreadLow xreadRange ri ro rw xasked oo osg ofc oca opa n ocf opl opf F (nI (ns F n)) t (by first | assumption | omega) (by first | assumption | omega) (by first | assumption | omega) (by first | assumption | omega) (by first | assumption | omega) (by omega)) (va_cwU 2 hts (my_gU k424 k426 k430 k425 k3 k434) rfl rfl rfl rfl (by decide +kernel) ⟨by rw [hR]; exact Nat.le_of_ble_eq_true rfl, by rw [hR]; exact Nat.le_of_ble_eq_true rfl⟩) (my_preV hK hN (hP.sub [0, 3, 4, 5] rfl) (hD.sub [0, 3, 4, 5] (by decide +kernel) rfl) 0 rfl rfl) rfl rfl hl.1 rfl (lv_room (Nat.le_of_ble_eq_true rfl)) d_RC_put_36 ⟨by rw [hR]; exact (show 0 + 0 ≤ (rPh rwk) by omega), by rw [hR]; exact (show 0 + 0 ≤ (rPh rwk) by omega)⟩) hP hD hS hA [0, 3, 4, 5] [1, 2, 6, 7, 8, 9] rfl rfl (by decide +kernel) (by decide +kernel) (fun r_36 u9 H locs hw_36 hP hD hS => ?_)
      have hr_36 : r_36 = if 0 < F t then 1 else 0 := hw_36
      have hPD : my_PD (dC, dI) vwCl A [(rw, Sum.inr (0, [Value.int (nI bs.length), Value.ref rwa])), (rwa, Sum.inl (cI, rwk, Sum.inl rwf)), (rc, Sum.inr (6, [Value.ref co, Value.ref ma, Value.int (nI k), Value.int (nI ki), Value.int 0, Value.int frd, Value.int fbd, Value.int fir])), (ma, Sum.inl (cM, 8, Sum.inr (Sum.inr (Sum.inr (Sum.inr mf))))), (mo, Sum.inr (8, [Value.ref ka, Value.ref oo, Value.ref o2])), (ka, Sum.inl (cI, n, Sum.inl kf)), (co, Sum.inr (1, [Value.int (caI ca), Value.int (nI Pn), Value.long (lN L), Value.long (lN Rg), Value.long xcode, Value.long xreadLow, Value.long xreadRange, Value.ref ri, Value.ref ro, Value.ref rw, Value.int xasked])), (oo, Sum.inr (7, [Value.int osg, Value.int (nI (ns F n)), Value.int ofc, Value.ref oca, Value.ref opa])), (oca, Sum.inl (cI, n, Sum.inl ocf)), (opa, Sum.inl (cI, opl, Sum.inl opf))] H := ⟨hP, hD⟩
      have hP := hPD.1
      have hD := hPD.2
      refine lv_if_ne (tgt := 45) hx hb d_RC_put_39 (by decide) (fun c_3 => ?_) (fun c_3 => ?_)
      · refine lv_aload_n hx hb d_RC_put_45 rfl (lv_at hl 1 rfl) ?_
        refine va_get (D := (dC, dI)) (ci := 6) (v := .int (nI ki)) (C := "RangeCoders") (T := T_RC) (N := 8) hx hb hg in_RC hown hK hP 2 rfl rfl 3 (by decide) (hg _ k261) (fun _ h9 => h9) rfl d_RC_put_46 ?_
        refine lv_sipush (v := 600) hx hb d_RC_put_49 (by decide) ?_
        refine lv_icmp_lt (tgt := 58) hx hb d_RC_put_52 (by decide) (fun c_4 => ?_) (fun c_4 => ?_)
        · refine lv_aload_n hx hb d_RC_put_58 rfl (lv_at hl 1 rfl) ?_
          refine va_get (D := (dC, dI)) (ci := 6) (v := .ref co) (C := "RangeCoders") (T := T_RC) (N := 8) hx hb hg in_RC hown hK hP 2 rfl rfl 0 (by decide) (hg _ k258) (fun _ h9 => h9) rfl d_RC_put_59 ?_
          refine lv_aload_n hx hb d_RC_put_62 rfl (lv_at hl 0 rfl) ?_
          refine va_get (D := (dC, dI)) (ci := 8) (v := .ref oo) (C := "RangeCoders$Model") (T := T_Model) (N := 3) hx hb hg in_Model hown hK hP 4 rfl rfl 1 (by decide) (hg _ k343) (fun _ h9 => h9) rfl d_RC_put_63 ?_
          refine lv_iload_n hx hb d_RC_put_66 rfl (lv_at hl 3 rfl) ?_
          refine my_cvg (wr := [(rc, Sum.inr (6, [Value.ref co, Value.ref ma, Value.int (nI k), Value.int (nI ki), Value.int 0, Value.int frd, Value.int fbd, Value.int fir])), (ma, Sum.inl (cM, 8, Sum.inr (Sum.inr (Sum.inr (Sum.inr mf))))), (mo, Sum.inr (8, [Value.ref ka, Value.ref oo, Value.ref o2])), (ka, Sum.inl (cI, n, Sum.inl kf))]) (va_runU (As := [Value.ref oo, Value.int (nI t)]) (rest := []) ⟨hx, hb, hml, hown, hts⟩ (f_Carries_writeSign l dC dI cI cM cO H.size (hSl H) co xcode xreadLow xreadRange ri ro rw xasked Rg L ca Pn rwa rwk rwf bs oo osg ofc oca opa n ocf opl opf F t (by first | assumption | omega) (by first | assumption | omega) (by first | assumption | omega) (by first | assumption | omega) (by first | assumption | omega) (by first | assumption | omega) (by first | assumption | omega) (by first | assumption | omega) (by first | assumption | omega) (by first | assumption | omega) (by first | assumption | omega)) (va_cwA 2 hts (my_gU k439 k441 k490 k491 k4 k492) rfl rfl rfl (hN.1 _ j440 rfl) (by decide +kernel) ⟨by rw [hR]; exact Nat.le_of_ble_eq_true rfl, by rw [hR]; exact Nat.le_of_ble_eq_true rfl⟩) (my_preVg hK hN (hP.sub [6, 0, 1, 7, 8, 9] rfl) (hD.sub [6, 0, 1, 7, 8, 9] (by decide +kernel) rfl) 0 rfl rfl) rfl rfl hl.1 rfl (lv_room (Nat.le_of_ble_eq_true rfl)) d_RC_put_67 ⟨by rw [hR]; exact (show 0 + (rPh rwk) ≤ (rPh rwk) by omega), by rw [hR]; exact (show 0 + (rPh rwk) ≤ (rPh rwk) by omega)⟩) hP hD hS hA [6, 0, 1, 7, 8, 9] [2, 3, 4, 5] rfl rfl (by decide +kernel) (by decide +kernel) (fun u9 d_67 H locs hd_67 hw_67 hP hD hS => ?_)
          obtain ⟨rwaq_67, rwkq_67, rwfq_67, ocfq_67⟩ := u9
          obtain ⟨hrw_67, hGrw_67, hf_67⟩ : rOk (nI (eB (wdS (Rg / ns F n * F t, L + Rg / ns F n * ns F t, ca, Pn, bs))).length) rwkq_67 ∧ gIs rwfq_67 (eB (wdS (Rg / ns F n * F t, L + Rg / ns F n * ns F t, ca, Pn, bs))) ∧ tbI ocfq_67 n (lrn n t F) := hw_67
          have hd_67 : d_67 + (rPh rwkq_67) ≤ (rPh rwk) := hd_67
          have hPD : my_PD (dC, dI) vwCl A [(rc, Sum.inr (6, [Value.ref co, Value.ref ma, Value.int (nI k), Value.int (nI ki), Value.int 0, Value.int frd, Value.int fbd, Value.int fir])), (ma, Sum.inl (cM, 8, Sum.inr (Sum.inr (Sum.inr (Sum.inr mf))))), (mo, Sum.inr (8, [Value.ref ka, Value.ref oo, Value.ref o2])), (ka, Sum.inl (cI, n, Sum.inl kf)), (co, Sum.inr (1, [Value.int (caI (eC (wdS (Rg / ns F n * F t, L + Rg / ns F n * ns F t, ca, Pn, bs)))), Value.int (nI (eP (wdS (Rg / ns F n * F t, L + Rg / ns F n * ns F t, ca, Pn, bs)))), Value.long (lN (eL (wdS (Rg / ns F n * F t, L + Rg / ns F n * ns F t, ca, Pn, bs)))), Value.long (lN (eR (wdS (Rg / ns F n * F t, L + Rg / ns F n * ns F t, ca, Pn, bs)))), Value.long xcode, Value.long xreadLow, Value.long xreadRange, Value.ref ri, Value.ref ro, Value.ref rw, Value.int xasked])), (rw, Sum.inr (0, [Value.int (nI (eB (wdS (Rg / ns F n * F t, L + Rg / ns F n * ns F t, ca, Pn, bs))).length), Value.ref rwaq_67])), (rwaq_67, Sum.inl (cI, rwkq_67, Sum.inl rwfq_67)), (oo, Sum.inr (7, [Value.int osg, Value.int (nI (ns (lrn n t F) n)), Value.int ofc, Value.ref oca, Value.ref opa])), (oca, Sum.inl (cI, n, Sum.inl ocfq_67)), (opa, Sum.inl (cI, opl, Sum.inl opf))] H := ⟨hP, hD⟩
          have hP := hPD.1
          have hD := hPD.2
          refine lv_aload_n hx hb d_RC_put_70 rfl (lv_at hl 1 rfl) ?_
          refine lv_dup hx hb d_RC_put_71 rfl ?_
          refine va_get (D := (dC, dI)) (ci := 6) (v := .int (nI ki)) (C := "RangeCoders") (T := T_RC) (N := 8) hx hb hg in_RC hown hK hP 0 rfl rfl 3 (by decide) (hg _ k261) (fun _ h9 => h9) rfl d_RC_put_72 ?_
          refine lv_iconst (v := 1) hx hb d_RC_put_75 (by decide) ?_
          refine lv_iadd hx hb d_RC_put_76 ?_
          refine lv_topi (fun v_5 ev_5 => ?_)
          have z9 : v_5 = nI (ki + 1) := by rw [ev_5]; exact nI_1 _
          subst z9
          refine va_put (D := (dC, dI)) (ci := 6) (v := .int (nI (ki + 1))) (ty := .int) (C := "RangeCoders") (T := T_RC) (N := 8) hx hb hg in_RC t_RC o_RC n_RC hown hK hP hD hS 0 rfl rfl 3 (by decide) (hg _ k261) (fun _ h9 => h9) rfl (o_RC 3 (by decide)) rfl rfl (Nat.le_of_ble_eq_true rfl) d_RC_put_77 (fun H locs hP hD hS => ?_)
          have hPD : my_PD (dC, dI) vwCl A [(rc, Sum.inr (6, [Value.ref co, Value.ref ma, Value.int (nI k), Value.int (nI (ki + 1)), Value.int 0, Value.int frd, Value.int fbd, Value.int fir])), (ma, Sum.inl (cM, 8, Sum.inr (Sum.inr (Sum.inr (Sum.inr mf))))), (mo, Sum.inr (8, [Value.ref ka, Value.ref oo, Value.ref o2])), (ka, Sum.inl (cI, n, Sum.inl kf)), (co, Sum.inr (1, [Value.int (caI (eC (wdS (Rg / ns F n * F t, L + Rg / ns F n * ns F t, ca, Pn, bs)))), Value.int (nI (eP (wdS (Rg / ns F n * F t, L + Rg / ns F n * ns F t, ca, Pn, bs)))), Value.long (lN (eL (wdS (Rg / ns F n * F t, L + Rg / ns F n * ns F t, ca, Pn, bs)))), Value.long (lN (eR (wdS (Rg / ns F n * F t, L + Rg / ns F n * ns F t, ca, Pn, bs)))), Value.long xcode, Value.long xreadLow, Value.long xreadRange, Value.ref ri, Value.ref ro, Value.ref rw, Value.int xasked])), (rw, Sum.inr (0, [Value.int (nI (eB (wdS (Rg / ns F n * F t, L + Rg / ns F n * ns F t, ca, Pn, bs))).length), Value.ref rwaq_67])), (rwaq_67, Sum.inl (cI, rwkq_67, Sum.inl rwfq_67)), (oo, Sum.inr (7, [Value.int osg, Value.int (nI (ns (lrn n t F) n)), Value.int ofc, Value.ref oca, Value.ref opa])), (oca, Sum.inl (cI, n, Sum.inl ocfq_67)), (opa, Sum.inl (cI, opl, Sum.inl opf))] H := ⟨hP, hD⟩
          have hP := hPD.1
          have hD := hPD.2
          refine lv_aload_n hx hb d_RC_put_80 rfl (lv_at hl 1 rfl) ?_
          refine va_get (D := (dC, dI)) (ci := 6) (v := .int (nI (ki + 1))) (C := "RangeCoders") (T := T_RC) (N := 8) hx hb hg in_RC hown hK hP 0 rfl rfl 3 (by decide) (hg _ k261) (fun _ h9 => h9) rfl d_RC_put_81 ?_
          exact my_iretg (v := (nI (ki + 1))) hx hb hr (rfl) hlocks hQ hK hS (rwaq_67, rwkq_67, rwfq_67, ocfq_67) (show (0 + d_67) + (rPh rwkq_67) ≤ (rPh rwk) by omega) (show (0 + d_67) + (rPh rwkq_67) ≤ (rPh rwk) by omega) (⟨rfl, hrw_67, hGrw_67, hf_67⟩) (hP.sub [0, 1, 4, 5, 6, 2, 3, 7, 8, 9] rfl) (hD.sub [0, 1, 4, 5, 6, 2, 3, 7, 8, 9] (by decide +kernel) rfl) d_RC_put_84
        · exact absurd (nI_lt (b := 600) hki (by decide)) c_4
      · exact absurd hFt (one_eq hr_36 c_3)
  · exact absurd (has_in ht (by omega)) (one_eq hr_12 c_1)
set_option maxHeartbeats 2000000 in
set_option maxRecDepth 100000 in
theorem f_RC_countL_Carries (l : Launch) (dC : Nat → ClassId) (dI : Nat → Nat → Nat) (cI cM cO : ClassId) (sz : Nat) (rc : Nat) (ma : Nat) (k : Nat) (fit : Int32) (frd : Int32) (fbd : Int32) (fir : Int32) (mf : Nat → Option Nat) (co : Nat) (xcache : Int32) (xpending : Int32) (xlow : Int64) (xrange : Int64) (xcode : Int64) (xreadLow : Int64) (xreadRange : Int64) (ri : Nat) (ro : Nat) (rw : Nat) (xasked : Int32) (j : Nat) (mo : Nat) (o2 : Nat) (ka : Nat) (kf : Nat → Int32) (oo : Nat) (osg : Int32) (ofc : Int32) (oca : Nat) (opa : Nat) (n : Nat) (ocf : Nat → Int32) (opl : Nat) (opf : Nat → Int32) (osm : Int32) (C : Nat → Nat) (c9 : Nat) (t : Nat) (hk8 : k ≤ 8) (hj : j < k) (hmf : mf j = some mo) (hkl : n ≤ 64) (hn : n ≤ 64) (hpl : opl ≤ 512) (ht : t < n) (hc : c9 ≤ 4095) (hfi : ¬ 0 < fit) (hrd : frd = 0) (hk : tbI kf n C) (hB : bd C n 4095) : MetI l y_RC_count (Cond.code y_RC_count prog_1_method_3_code 6 (some .int) :: gw) ({ frames := 3, cells := 0, slots := 0, locals := 66 } : Room) (dC, dI) vwCl (kT cI cM cO) [Value.ref rc, Value.int (nI j), Value.int (nI t), Value.int (nI c9)] [(rc, Sum.inr (6, [Value.ref co, Value.ref ma, Value.int (nI k), Value.int fit, Value.int 0, Value.int frd, Value.int fbd, Value.int fir])), (ma, Sum.inl (cM, 8, Sum.inr (Sum.inr (Sum.inr (Sum.inr mf))))), (co, Sum.inr (1, [Value.int xcache, Value.int xpending, Value.long xlow, Value.long xrange, Value.long xcode, Value.long xreadLow, Value.long xreadRange, Value.ref ri, Value.ref ro, Value.ref rw, Value.int xasked])), (mo, Sum.inr (8, [Value.ref ka, Value.ref oo, Value.ref o2])), (ka, Sum.inl (cI, n, Sum.inl kf)), (oo, Sum.inr (7, [Value.int osg, Value.int osm, Value.int ofc, Value.ref oca, Value.ref opa])), (oca, Sum.inl (cI, n, Sum.inl ocf)), (opa, Sum.inl (cI, opl, Sum.inl opf))] sz (fun (r : Int32) (u : (Nat → Int32) × (Nat → Int32)) => r = nI (C t) ∧ u.1 = upd kf t (nI c9) ∧ tbI u.2 n (les n (upN C t c9))) (fun (u : (Nat → Int32) × (Nat → Int32)) => [(rc, Sum.inr (6, [Value.ref co, Value.ref ma, Value.int (nI k), Value.int fit, Value.int 0, Value.int frd, Value.int fbd, Value.int fir])), (ma, Sum.inl (cM, 8, Sum.inr (Sum.inr (Sum.inr (Sum.inr mf))))), (co, Sum.inr (1, [Value.int xcache, Value.int xpending, Value.long xlow, Value.long xrange, Value.long xcode, Value.long xreadLow, Value.long xreadRange, Value.ref ri, Value.ref ro, Value.ref rw, Value.int xasked])), (mo, Sum.inr (8, [Value.ref ka, Value.ref oo, Value.ref o2])), (ka, Sum.inl (cI, n, Sum.inl u.1)), (oo, Sum.inr (7, [Value.int osg, Value.int (nI (ns (les n (upN C t c9)) n)), Value.int ofc, Value.ref oca, Value.ref opa])), (oca, Sum.inl (cI, n, Sum.inl u.2)), (opa, Sum.inl (cI, opl, Sum.inl opf))]) 0 0 := by
  refine my_ofI (cc := prog_1_method_3_code) (n := 6) (ret := (some .int)) (by decide) rfl (Nat.le_of_ble_eq_true rfl) ?_
  intro p e s m args below meth c R Q A ls H locs hx hb hr hts hown hlocks hml hnm hR hQ hA hl hP hK hN hD hS
  have hg : ∀ w ∈ gw, w.before args s = true := fun w h => hts w (List.mem_cons_of_mem _ h)
  have hown : s.vm.findClass "RangeCoders" = some m.cls := hown
  have hl : lv_has ls 6 [(0, Value.ref rc), (1, Value.int (nI j)), (2, Value.int (nI t)), (3, Value.int (nI c9))] := hl
  refine lv_aload_n hx hb d_RC_count_0 rfl (lv_at hl 0 rfl) ?_
  refine lv_iload_n hx hb d_RC_count_1 rfl (lv_at hl 1 rfl) ?_
  refine my_cq (wr := [(co, Sum.inr (1, [Value.int xcache, Value.int xpending, Value.long xlow, Value.long xrange, Value.long xcode, Value.long xreadLow, Value.long xreadRange, Value.ref ri, Value.ref ro, Value.ref rw, Value.int xasked])), (mo, Sum.inr (8, [Value.ref ka, Value.ref oo, Value.ref o2])), (ka, Sum.inl (cI, n, Sum.inl kf)), (oo, Sum.inr (7, [Value.int osg, Value.int osm, Value.int ofc, Value.ref oca, Value.ref opa])), (oca, Sum.inl (cI, n, Sum.inl ocf)), (opa, Sum.inl (cI, opl, Sum.inl opf))]) (va_runV (As := [Value.int (nI j)]) (rest := []) ⟨hx, hb, hml, hown, hts⟩ (c_RC_modelAtB l dC dI cI cM cO H.size rc ma k fit 0 frd fbd fir mf co j mo (by first | assumption | omega) (by first | assumption | omega) (by first | assumption | omega)) (cwV 1 hts (my_gV k412 k414 ks3 k1 k415) rfl rfl rfl cu_RC_modelAt_1 ⟨by rw [hR]; exact Nat.le_of_ble_eq_true rfl, by rw [hR]; exact Nat.le_of_ble_eq_true rfl⟩) (my_preV hK hN (hP.sub [0, 1] rfl) (hD.sub [0, 1] (by decide +kernel) rfl) 0 rfl rfl) rfl rfl hl.1 rfl (lv_room (Nat.le_of_ble_eq_true rfl)) d_RC_count_2 ⟨by rw [hR]; exact Nat.le_of_ble_eq_true rfl, by rw [hR]; exact Nat.le_of_ble_eq_true rfl⟩) hP hD hS hA [0, 1] [2, 3, 4, 5, 6, 7] rfl rfl (by decide +kernel) (by decide +kernel) (fun r_2 u9 H locs hw_2 hP hD hS => ?_)
  have hr_2 : r_2 = some mo := hw_2
  have hPD : my_PD (dC, dI) vwCl A [(co, Sum.inr (1, [Value.int xcache, Value.int xpending, Value.long xlow, Value.long xrange, Value.long xcode, Value.long xreadLow, Value.long xreadRange, Value.ref ri, Value.ref ro, Value.ref rw, Value.int xasked])), (mo, Sum.inr (8, [Value.ref ka, Value.ref oo, Value.ref o2])), (ka, Sum.inl (cI, n, Sum.inl kf)), (oo, Sum.inr (7, [Value.int osg, Value.int osm, Value.int ofc, Value.ref oca, Value.ref opa])), (oca, Sum.inl (cI, n, Sum.inl ocf)), (opa, Sum.inl (cI, opl, Sum.inl opf)), (rc, Sum.inr (6, [Value.ref co, Value.ref ma, Value.int (nI k), Value.int fit, Value.int 0, Value.int frd, Value.int fbd, Value.int fir])), (ma, Sum.inl (cM, 8, Sum.inr (Sum.inr (Sum.inr (Sum.inr mf)))))] H := ⟨hP, hD⟩
  have hP := hPD.1
  have hD := hPD.2
  subst hr_2
  refine W.eq (g2 := F0 m 5 ls [Value.ref mo]) rfl ?_
  refine lv_astore (lv' := [(4, Value.ref mo), (0, Value.ref rc), (1, Value.int (nI j)), (2, Value.int (nI t)), (3, Value.int (nI c9))]) hx hb d_RC_count_5 hl (by decide) rfl (fun ls hl => ?_)
  refine lv_aload hx hb d_RC_count_7 (lv_at hl 0 rfl) ?_
  refine lv_ifnull hx hb d_RC_count_9 ?_
  refine lv_aload hx hb d_RC_count_12 (lv_at hl 0 rfl) ?_
  refine lv_iload_n hx hb d_RC_count_14 rfl (lv_at hl 3 rfl) ?_
  refine my_ci (wr := [(co, Sum.inr (1, [Value.int xcache, Value.int xpending, Value.long xlow, Value.long xrange, Value.long xcode, Value.long xreadLow, Value.long xreadRange, Value.ref ri, Value.ref ro, Value.ref rw, Value.int xasked])), (oo, Sum.inr (7, [Value.int osg, Value.int osm, Value.int ofc, Value.ref oca, Value.ref opa])), (oca, Sum.inl (cI, n, Sum.inl ocf)), (opa, Sum.inl (cI, opl, Sum.inl opf)), (rc, Sum.inr (6, [Value.ref co, Value.ref ma, Value.int (nI k), Value.int fit, Value.int 0, Value.int frd, Value.int fbd, Value.int fir])), (ma, Sum.inl (cM, 8, Sum.inr (Sum.inr (Sum.inr (Sum.inr mf)))))]) (va_runV (As := [Value.int (nI t)]) (rest := []) ⟨hx, hb, hml, hown, hts⟩ (f_Model_hasSign l dC dI cI cM cO H.size mo ka oo o2 n kf (nI t) (by first | assumption | omega)) (cwV 1 hts (my_gV k416 k417 k418 k13 k419) rfl rfl rfl cu_Model_hasSign_1 ⟨by rw [hR]; exact Nat.le_of_ble_eq_true rfl, by rw [hR]; exact Nat.le_of_ble_eq_true rfl⟩) (my_preV hK hN (hP.sub [1, 2] rfl) (hD.sub [1, 2] (by decide +kernel) rfl) 0 rfl rfl) rfl rfl hl.1 rfl (lv_room (Nat.le_of_ble_eq_true rfl)) d_RC_count_15 ⟨by rw [hR]; exact Nat.le_of_ble_eq_true rfl, by rw [hR]; exact Nat.le_of_ble_eq_true rfl⟩) hP hD hS hA [1, 2] [0, 3, 4, 5, 6, 7] rfl rfl (by decide +kernel) (by decide +kernel) (fun r_15 u9 H locs hw_15 hP hD hS => ?_)
  have hr_15 : r_15 = if 0 ≤ (nI t) ∧ (nI t) < nI n then 1 else 0 := hw_15
  have hPD : my_PD (dC, dI) vwCl A [(co, Sum.inr (1, [Value.int xcache, Value.int xpending, Value.long xlow, Value.long xrange, Value.long xcode, Value.long xreadLow, Value.long xreadRange, Value.ref ri, Value.ref ro, Value.ref rw, Value.int xasked])), (oo, Sum.inr (7, [Value.int osg, Value.int osm, Value.int ofc, Value.ref oca, Value.ref opa])), (oca, Sum.inl (cI, n, Sum.inl ocf)), (opa, Sum.inl (cI, opl, Sum.inl opf)), (rc, Sum.inr (6, [Value.ref co, Value.ref ma, Value.int (nI k), Value.int fit, Value.int 0, Value.int frd, Value.int fbd, Value.int fir])), (ma, Sum.inl (cM, 8, Sum.inr (Sum.inr (Sum.inr (Sum.inr mf))))), (mo, Sum.inr (8, [Value.ref ka, Value.ref oo, Value.ref o2])), (ka, Sum.inl (cI, n, Sum.inl kf))] H := ⟨hP, hD⟩
  have hP := hPD.1
  have hD := hPD.2
  refine lv_if_ne (tgt := 23) hx hb d_RC_count_18 (by decide) (fun c_1 => ?_) (fun c_1 => ?_)
  · refine lv_iload_n hx hb d_RC_count_23 rfl (lv_at hl 4 rfl) ?_
    refine lv_if_lt (tgt := 34) hx hb d_RC_count_24 (by decide) (fun c_2 => ?_) (fun c_2 => ?_)
    · exact absurd c_2 (nI_pos (by omega))
    · refine lv_iload_n hx hb d_RC_count_27 rfl (lv_at hl 4 rfl) ?_
      refine lv_sipush (v := 4095) hx hb d_RC_count_28 (by decide) ?_
      refine lv_icmp_le (tgt := 37) hx hb d_RC_count_31 (by decide) (fun c_3 => ?_) (fun c_3 => ?_)
      · refine lv_aload_n hx hb d_RC_count_37 rfl (lv_at hl 1 rfl) ?_
        refine va_get (D := (dC, dI)) (ci := 6) (v := .int fit) (C := "RangeCoders") (T := T_RC) (N := 8) hx hb hg in_RC hown hK hP 4 rfl rfl 3 (by decide) (hg _ k261) (fun _ h9 => h9) rfl d_RC_count_38 ?_
        refine lv_if_le (tgt := 51) hx hb d_RC_count_41 (by decide) (fun c_4 => ?_) (fun c_4 => ?_)
        · refine lv_aload_n hx hb d_RC_count_51 rfl (lv_at hl 1 rfl) ?_
          refine va_get (D := (dC, dI)) (ci := 6) (v := .int frd) (C := "RangeCoders") (T := T_RC) (N := 8) hx hb hg in_RC hown hK hP 4 rfl rfl 5 (by decide) (hg _ k263) (fun _ h9 => h9) rfl d_RC_count_52 ?_
          refine lv_if_eq (tgt := 61) hx hb d_RC_count_55 (by decide) (fun c_5 => ?_) (fun c_5 => ?_)
          · refine lv_aload hx hb d_RC_count_61 (lv_at hl 0 rfl) ?_
            refine va_get (D := (dC, dI)) (ci := 8) (v := .ref ka) (C := "RangeCoders$Model") (T := T_Model) (N := 3) hx hb hg in_Model hown hK hP 6 rfl rfl 0 (by decide) (hg _ k341) (fun _ h9 => h9) rfl d_RC_count_63 ?_
            refine lv_iload_n hx hb d_RC_count_66 rfl (lv_at hl 3 rfl) ?_
            refine va_iald hx hb hK hP 7 0 rfl rfl (vp_in_nI ht (by omega)) d_RC_count_67 ?_
            refine lv_topi (fun v_6 ev_6 => ?_)
            refine lv_istore (lv' := [(5, Value.int v_6), (4, Value.ref mo), (0, Value.ref rc), (1, Value.int (nI j)), (2, Value.int (nI t)), (3, Value.int (nI c9))]) hx hb d_RC_count_68 hl (by decide) rfl (fun ls hl => ?_)
            refine lv_aload hx hb d_RC_count_70 (lv_at hl 1 rfl) ?_
            refine va_get (D := (dC, dI)) (ci := 8) (v := .ref ka) (C := "RangeCoders$Model") (T := T_Model) (N := 3) hx hb hg in_Model hown hK hP 6 rfl rfl 0 (by decide) (hg _ k341) (fun _ h9 => h9) rfl d_RC_count_72 ?_
            refine lv_iload_n hx hb d_RC_count_75 rfl (lv_at hl 4 rfl) ?_
            refine lv_iload_n hx hb d_RC_count_76 rfl (lv_at hl 5 rfl) ?_
            refine va_iast hx hb hK hP hD hS 7 0 rfl rfl (vp_in_nI ht (by omega)) d_RC_count_77 (fun H locs hP hD hS => ?_)
            have hPD : my_PD (dC, dI) vwCl A [(co, Sum.inr (1, [Value.int xcache, Value.int xpending, Value.long xlow, Value.long xrange, Value.long xcode, Value.long xreadLow, Value.long xreadRange, Value.ref ri, Value.ref ro, Value.ref rw, Value.int xasked])), (oo, Sum.inr (7, [Value.int osg, Value.int osm, Value.int ofc, Value.ref oca, Value.ref opa])), (oca, Sum.inl (cI, n, Sum.inl ocf)), (opa, Sum.inl (cI, opl, Sum.inl opf)), (rc, Sum.inr (6, [Value.ref co, Value.ref ma, Value.int (nI k), Value.int fit, Value.int 0, Value.int frd, Value.int fbd, Value.int fir])), (ma, Sum.inl (cM, 8, Sum.inr (Sum.inr (Sum.inr (Sum.inr mf))))), (mo, Sum.inr (8, [Value.ref ka, Value.ref oo, Value.ref o2])), (ka, Sum.inl (cI, n, Sum.inl (upd kf (nI t).toNatClampNeg (nI c9))))] H := ⟨hP, hD⟩
            have hP := hPD.1
            have hD := hPD.2
            have hk2 : tbI (upd kf (nI t).toNatClampNeg (nI c9)) n (upN C t c9) := tb_up hk (nI_clamp (by omega)) rfl
            have hB2 : bd (upN C t c9) n 4095 := bd_up hB hc
            refine lv_aload_n hx hb d_RC_count_78 rfl (lv_at hl 2 rfl) ?_
            refine va_get (D := (dC, dI)) (ci := 6) (v := .int 0) (C := "RangeCoders") (T := T_RC) (N := 8) hx hb hg in_RC hown hK hP 4 rfl rfl 4 (by decide) (hg _ k262) (fun _ h9 => h9) rfl d_RC_count_79 ?_
            refine lv_if_ne (tgt := 102) hx hb d_RC_count_82 (by decide) (fun c_7 => ?_) (fun c_7 => ?_)
            · exact absurd rfl c_7
            · refine lv_aload_n hx hb d_RC_count_85 rfl (lv_at hl 2 rfl) ?_
              refine va_get (D := (dC, dI)) (ci := 6) (v := .ref co) (C := "RangeCoders") (T := T_RC) (N := 8) hx hb hg in_RC hown hK hP 4 rfl rfl 0 (by decide) (hg _ k258) (fun _ h9 => h9) rfl d_RC_count_86 ?_
              refine lv_aload hx hb d_RC_count_89 (lv_at hl 1 rfl) ?_
              refine va_get (D := (dC, dI)) (ci := 8) (v := .ref oo) (C := "RangeCoders$Model") (T := T_Model) (N := 3) hx hb hg in_Model hown hK hP 6 rfl rfl 1 (by decide) (hg _ k343) (fun _ h9 => h9) rfl d_RC_count_91 ?_
              refine lv_aload hx hb d_RC_count_94 (lv_at hl 1 rfl) ?_
              refine va_get (D := (dC, dI)) (ci := 8) (v := .ref ka) (C := "RangeCoders$Model") (T := T_Model) (N := 3) hx hb hg in_Model hown hK hP 6 rfl rfl 0 (by decide) (hg _ k341) (fun _ h9 => h9) rfl d_RC_count_96 ?_
              refine my_cv (wr := [(rc, Sum.inr (6, [Value.ref co, Value.ref ma, Value.int (nI k), Value.int fit, Value.int 0, Value.int frd, Value.int fbd, Value.int fir])), (ma, Sum.inl (cM, 8, Sum.inr (Sum.inr (Sum.inr (Sum.inr mf))))), (mo, Sum.inr (8, [Value.ref ka, Value.ref oo, Value.ref o2]))]) (va_runU (As := [Value.ref oo, Value.ref ka]) (rest := []) ⟨hx, hb, hml, hown, hts⟩ (f_Carries_prepare l dC dI cI cM cO H.size co xcache xpending xlow xrange xcode xreadLow xreadRange ri ro rw xasked oo osg ofc oca opa n ocf opl opf osm ka (upd kf (nI t).toNatClampNeg (nI c9)) (upN C t c9) (by first | assumption | omega) (by first | assumption | omega) (hk2) (hB2)) (va_cwA 2 hts (my_gU k353 k355 k364 k365 k4 k366) rfl rfl rfl (hN.1 _ j354 rfl) (by decide +kernel) ⟨by rw [hR]; exact Nat.le_of_ble_eq_true rfl, by rw [hR]; exact Nat.le_of_ble_eq_true rfl⟩) (my_preV hK hN (hP.sub [0, 1, 2, 3, 7] rfl) (hD.sub [0, 1, 2, 3, 7] (by decide +kernel) rfl) 0 rfl rfl) rfl rfl hl.1 rfl (lv_room (Nat.le_of_ble_eq_true rfl)) d_RC_count_99 ⟨by rw [hR]; exact Nat.le_of_ble_eq_true rfl, by rw [hR]; exact Nat.le_of_ble_eq_true rfl⟩) hP hD hS hA [0, 1, 2, 3, 7] [4, 5, 6] rfl rfl (by decide +kernel) (by decide +kernel) (fun u9 H locs hw_99 hP hD hS => ?_)
              obtain ⟨ocfq_99, rfl⟩ : ∃ z, z = u9 := ⟨_, rfl⟩
              have hf_99 : tbI ocfq_99 n (les n (upN C t c9)) := hw_99
              have hPD : my_PD (dC, dI) vwCl A [(rc, Sum.inr (6, [Value.ref co, Value.ref ma, Value.int (nI k), Value.int fit, Value.int 0, Value.int frd, Value.int fbd, Value.int fir])), (ma, Sum.inl (cM, 8, Sum.inr (Sum.inr (Sum.inr (Sum.inr mf))))), (mo, Sum.inr (8, [Value.ref ka, Value.ref oo, Value.ref o2])), (co, Sum.inr (1, [Value.int xcache, Value.int xpending, Value.long xlow, Value.long xrange, Value.long xcode, Value.long xreadLow, Value.long xreadRange, Value.ref ri, Value.ref ro, Value.ref rw, Value.int xasked])), (oo, Sum.inr (7, [Value.int osg, Value.int (nI (ns (les n (upN C t c9)) n)), Value.int ofc, Value.ref oca, Value.ref opa])), (oca, Sum.inl (cI, n, Sum.inl ocfq_99)), (opa, Sum.inl (cI, opl, Sum.inl opf)), (ka, Sum.inl (cI, n, Sum.inl (upd kf (nI t).toNatClampNeg (nI c9))))] H := ⟨hP, hD⟩
              have hP := hPD.1
              have hD := hPD.2
              refine lv_iload hx hb d_RC_count_102 (lv_at hl 0 rfl) ?_
              exact my_iret (v := v_6) hx hb hr (rfl) hlocks hQ hK hS (Nat.le_refl _) (Nat.le_refl _) ((upd kf (nI t).toNatClampNeg (nI c9)), ocfq_99) (⟨by rw [ev_6]; exact tb_rd hk ht (by omega), by rw [nI_clamp (by omega)], hf_99⟩) (hP.sub [0, 1, 3, 2, 7, 4, 5, 6] rfl) (hD.sub [0, 1, 3, 2, 7, 4, 5, 6] (by decide +kernel) rfl) d_RC_count_104
          · exact absurd hrd c_5
        · exact absurd (Int32.not_le.mp c_4) hfi
      · exact absurd (nI_le (b := 4095) hc (by decide)) c_3
  · exact absurd (has_in ht (by omega)) (one_eq hr_15 c_1)
end
