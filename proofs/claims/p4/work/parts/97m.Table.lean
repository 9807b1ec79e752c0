set_option maxHeartbeats 2000000 in
set_option maxRecDepth 100000 in
theorem f_Table_stackValue (l : Launch) (dC : Nat → ClassId) (dI : Nat → Nat → Nat) (cI cM cO : ClassId) (sz : Nat) (sl : Nat) (co : Nat) (xx : Int64) (xreadX : Int64) (soa : Nat) (sna : Nat) (swa : Nat) (xkept : Int32) (ri : Nat) (ro : Nat) (rw : Nat) (xasked : Int32) (rwa : Nat) (rwk : Nat) (rwf : Nat → Int32) (ws : List Nat) (v : Nat) (b : Nat) (hbw : b ≤ 12) (hv : v < 65536) (hrw : rOk (nI ws.length) rwk) (hGrw : gIs rwf ws) (hN9 : ws.length + 12 ≤ 8000) : MetVg l y_Table_stackValue (Cond.code y_Table_stackValue prog_12_method_8_code 4 none :: gw) ({ frames := 3, cells := rPh rwk, slots := rPh rwk, locals := 83 } : Room) (dC, dI) vwCl (kT cI cM cO) [Value.ref co, Value.int (nI v), Value.int (nI b)] [(co, Sum.inr (5, [Value.long xx, Value.long xreadX, Value.ref soa, Value.ref sna, Value.ref swa, Value.int xkept, Value.ref ri, Value.ref ro, Value.ref rw, Value.int xasked])), (rw, Sum.inr (0, [Value.int (nI ws.length), Value.ref rwa])), (rwa, Sum.inl (cI, rwk, Sum.inl rwf))] sz sl (fun (u : Nat × Nat × (Nat → Int32)) => rOk (nI (ws ++ bvL v b).length) u.2.1 ∧ gIs u.2.2 (ws ++ bvL v b)) (fun (u : Nat × Nat × (Nat → Int32)) => [(co, Sum.inr (5, [Value.long xx, Value.long xreadX, Value.ref soa, Value.ref sna, Value.ref swa, Value.int xkept, Value.ref ri, Value.ref ro, Value.ref rw, Value.int xasked])), (rw, Sum.inr (0, [Value.int (nI (ws ++ bvL v b).length), Value.ref u.1])), (u.1, Sum.inl (cI, u.2.1, Sum.inl u.2.2))]) (rPh rwk) (fun (u : Nat × Nat × (Nat → Int32)) => rPh u.2.1) := by
  refine my_ofVg (cc := prog_12_method_8_code) (n := 4) (ret := none) (by decide) rfl (Nat.le_of_ble_eq_true rfl) ?_
  intro p e s m args below meth c R Q A ls H locs hx hb hr hts hown hlocks hml hnm hR hQ hA hl hP hK hN hD hS
  have hg : ∀ w ∈ gw, w.before args s = true := fun w h => hts w (List.mem_cons_of_mem _ h)
  have hown : s.vm.findClass "RangeCoders$Table" = some m.cls := hown
  have hl : lv_has ls 4 [(0, Value.ref co), (1, Value.int (nI v)), (2, Value.int (nI b))] := hl
  have hltw := rOk_lt hrw
  refine lv_iconst (v := 0) hx hb d_Table_stackValue_0 (by decide) ?_
  refine lv_istore_n (lv' := [(3, Value.int 0), (0, Value.ref co), (1, Value.int (nI v)), (2, Value.int (nI b))]) hx hb d_Table_stackValue_1 rfl hl (by decide) rfl (fun ls hl => ?_)
  have J_2 : ∀ (n9_2 : Nat) (j : Nat) (b9 : List Nat) (rwa9 : Nat) (rwk9 : Nat) (rwf9 : Nat → Int32) (d9 : Nat) (hn9_2 : b - j = n9_2) (hj : j ≤ b) (hb9 : b9 = ws ++ bvL v j) (hr9 : rOk (nI b9.length) rwk9) (hg9 : gIs rwf9 b9) (hd9 : d9 + rPh rwk9 ≤ rPh rwk) (H : Heap) (locs : List Loc) (ls : Array Slot), va_P (dC, dI) vwCl [(co, Sum.inr (5, [Value.long xx, Value.long xreadX, Value.ref soa, Value.ref sna, Value.ref swa, Value.int xkept, Value.ref ri, Value.ref ro, Value.ref rw, Value.int xasked])), (rw, Sum.inr (0, [Value.int (nI b9.length), Value.ref rwa9])), (rwa9, Sum.inl (cI, rwk9, Sum.inl rwf9))] H → va_D A [(co, Sum.inr (5, [Value.long xx, Value.long xreadX, Value.ref soa, Value.ref sna, Value.ref swa, Value.int xkept, Value.ref ri, Value.ref ro, Value.ref rw, Value.int xasked])), (rw, Sum.inr (0, [Value.int (nI b9.length), Value.ref rwa9])), (rwa9, Sum.inl (cI, rwk9, Sum.inl rwf9))] → va_S A s.heap H locs → lv_has ls 4 [(3, Value.int (nI j)), (0, Value.ref co), (1, Value.int (nI v)), (2, Value.int (nI b))] → W p l e R s m args below meth c H locs d9 d9 Q (F0 m 2 ls []) := by
    intro n9_2
    induction n9_2 using Nat.strongRecOn with
    | ind n9_2 ih9_2 =>
      intro j b9 rwa9 rwk9 rwf9 d9 hn9_2 hj hb9 hr9 hg9 hd9 H locs ls hP hD hS hl
      have hbl : b9.length = ws.length + j := by rw [hb9, List.length_append, bvL_len]
      refine lv_iload_n hx hb d_Table_stackValue_2 rfl (lv_at hl 0 rfl) ?_
      refine lv_iload_n hx hb d_Table_stackValue_3 rfl (lv_at hl 3 rfl) ?_
      refine lv_icmp_ge (tgt := 25) hx hb d_Table_stackValue_4 (by decide) (fun c_1 => ?_) (fun c_1 => ?_)
      · have hj3 : b = j := by have := nI_ge' (by omega) (by omega) c_1; omega
        subst hj3
        have hP : va_P (dC, dI) vwCl [(co, Sum.inr (5, [Value.long xx, Value.long xreadX, Value.ref soa, Value.ref sna, Value.ref swa, Value.int xkept, Value.ref ri, Value.ref ro, Value.ref rw, Value.int xasked])), (rw, Sum.inr (0, [Value.int (nI b9.length), Value.ref rwa9])), (rwa9, Sum.inl (cI, rwk9, Sum.inl rwf9))] H := hP
        have hD : va_D A [(co, Sum.inr (5, [Value.long xx, Value.long xreadX, Value.ref soa, Value.ref sna, Value.ref swa, Value.int xkept, Value.ref ri, Value.ref ro, Value.ref rw, Value.int xasked])), (rw, Sum.inr (0, [Value.int (nI b9.length), Value.ref rwa9])), (rwa9, Sum.inl (cI, rwk9, Sum.inl rwf9))] := hD
        have z9 : b9 = ws ++ bvL v b := hb9
        subst z9
        exact my_vretg hx hb hr hlocks hQ hK hS (rwa9, rwk9, rwf9) (show d9 + (rPh rwk9) ≤ (rPh rwk) by omega) (show d9 + (rPh rwk9) ≤ (rPh rwk) by omega) (⟨hr9, hg9⟩) (hP.sub [0, 1, 2] rfl) (hD.sub [0, 1, 2] (by decide +kernel) rfl) d_Table_stackValue_25
      · have hj2 : j < b := nI_lt' (by omega) c_1
        have hvl : v / 2 ^ j ≤ v := Nat.div_le_self _ _
        refine lv_aload_n hx hb d_Table_stackValue_7 rfl (lv_at hl 1 rfl) ?_
        refine va_get (D := (dC, dI)) (ci := 5) (v := .ref rw) (C := "RangeCoders$Table") (T := T_Table) (N := 10) hx hb hg in_Table hown hK hP 0 rfl rfl 8 (by decide) (hg _ k120) (fun x9 h9 => u_same (hg _ k121) x9 h9) rfl d_Table_stackValue_8 ?_
        refine lv_iload_n hx hb d_Table_stackValue_11 rfl (lv_at hl 2 rfl) ?_
        refine lv_iload_n hx hb d_Table_stackValue_12 rfl (lv_at hl 0 rfl) ?_
        refine lv_iushr hx hb d_Table_stackValue_13 rfl ?_
        refine lv_topi (fun v_2 ev_2 => ?_)
        refine lv_iconst (v := 1) hx hb d_Table_stackValue_14 (by decide) ?_
        refine lv_iand hx hb d_Table_stackValue_15 ?_
        refine lv_topi (fun v_3 ev_3 => ?_)
        have z9 : v_3 = nI (v / 2 ^ j % 2) := by subst_vars; rw [I_ushr (by omega) (by omega)]; exact I_and1 (by omega)
        subst z9
        refine my_cvg (wr := [(co, Sum.inr (5, [Value.long xx, Value.long xreadX, Value.ref soa, Value.ref sna, Value.ref swa, Value.int xkept, Value.ref ri, Value.ref ro, Value.ref rw, Value.int xasked]))]) (va_runV (As := [Value.int (nI (v / 2 ^ j % 2))]) (rest := []) ⟨hx, hb, hml, hown, hts⟩ (f_Row_add l dC dI cI cM cO H.size (hSl H) rw rwa9 rwk9 rwf9 b9 (v / 2 ^ j % 2) (hr9) (hg9) (by omega)) (cwV 1 hts (my_gV k629 k473 k474 k6 k475) rfl rfl rfl (by decide +kernel) ⟨by rw [hR]; exact Nat.le_of_ble_eq_true rfl, by rw [hR]; exact Nat.le_of_ble_eq_true rfl⟩) (my_preVg hK hN (hP.sub [1, 2] rfl) (hD.sub [1, 2] (by decide +kernel) rfl) 0 rfl rfl) rfl rfl hl.1 rfl (lv_room (Nat.le_of_ble_eq_true rfl)) d_Table_stackValue_16 ⟨by rw [hR]; exact (show d9 + (rPh rwk9) ≤ (rPh rwk) by omega), by rw [hR]; exact (show d9 + (rPh rwk9) ≤ (rPh rwk) by omega)⟩) hP hD hS hA [1, 2] [0] rfl rfl (by decide +kernel) (by decide +kernel) (fun u9 d_16 H locs hd_16 hw_16 hP hD hS => ?_)
        obtain ⟨rraq_16, rrkq_16, rrfq_16⟩ := u9
        obtain ⟨hrr_16, hGrr_16⟩ : rOk (nI (b9 ++ [(v / 2 ^ j % 2)]).length) rrkq_16 ∧ gIs rrfq_16 (b9 ++ [(v / 2 ^ j % 2)]) := hw_16
        have hd_16 : d_16 + (rPh rrkq_16) ≤ (rPh rwk9) := hd_16
        have hP : va_P (dC, dI) vwCl [(co, Sum.inr (5, [Value.long xx, Value.long xreadX, Value.ref soa, Value.ref sna, Value.ref swa, Value.int xkept, Value.ref ri, Value.ref ro, Value.ref rw, Value.int xasked])), (rw, Sum.inr (0, [Value.int (nI (b9 ++ [(v / 2 ^ j % 2)]).length), Value.ref rraq_16])), (rraq_16, Sum.inl (cI, rrkq_16, Sum.inl rrfq_16))] H := hP
        have hD : va_D A [(co, Sum.inr (5, [Value.long xx, Value.long xreadX, Value.ref soa, Value.ref sna, Value.ref swa, Value.int xkept, Value.ref ri, Value.ref ro, Value.ref rw, Value.int xasked])), (rw, Sum.inr (0, [Value.int (nI (b9 ++ [(v / 2 ^ j % 2)]).length), Value.ref rraq_16])), (rraq_16, Sum.inl (cI, rrkq_16, Sum.inl rrfq_16))] := hD
        obtain ⟨v_4, ev_4⟩ : ∃ y : Int32, y = (nI j) + (1) := ⟨_, rfl⟩
        refine lv_iinc (v := v_4) (lv' := [(3, Value.int v_4), (0, Value.ref co), (1, Value.int (nI v)), (2, Value.int (nI b))]) hx hb d_Table_stackValue_19 hl (k := 0) rfl (by rw [ev_4]; rfl) (by decide) rfl (fun ls hl => ?_)
        have z9 : v_4 = nI (j + 1) := by rw [ev_4]; exact nI_1 _
        subst z9
        refine lv_goto (tgt := 2) hx hb d_Table_stackValue_22 (by decide) ?_
        exact ih9_2 _ (by first | omega | (omega)) (j + 1) (b9 ++ [v / 2 ^ j % 2]) rraq_16 rrkq_16 rrfq_16 (d9 + d_16) rfl (by omega) (by rw [hb9, bvL, List.append_assoc]) (hrr_16) (hGrr_16) (by omega) H locs ls (hP.sub [0, 1, 2] rfl) (hD.sub [0, 1, 2] (by decide +kernel) rfl) hS (lv_sub hl [0, 1, 2, 3] rfl)
  exact J_2 _ (0 : Nat) ws rwa rwk rwf (0 : Nat) rfl (Nat.zero_le _) (by rw [bvL, List.append_nil]) (hrw) (hGrw) (by omega) H locs ls (hP.sub [0, 1, 2] rfl) (hD.sub [0, 1, 2] (by decide +kernel) rfl) hS (lv_sub hl [0, 1, 2, 3] rfl)
set_option maxHeartbeats 2000000 in
set_option maxRecDepth 100000 in
theorem f_Table_stackSign (l : Launch) (dC : Nat → ClassId) (dI : Nat → Nat → Nat) (cI cM cO : ClassId) (sz : Nat) (sl : Nat) (co : Nat) (xreadX : Int64) (soa : Nat) (sna : Nat) (swa : Nat) (xkept : Int32) (ri : Nat) (ro : Nat) (rw : Nat) (xasked : Int32) (rwa : Nat) (rwk : Nat) (rwf : Nat → Int32) (ws : List Nat) (oo : Nat) (osg : Int32) (ofc : Int32) (oca : Nat) (opa : Nat) (n : Nat) (ocf : Nat → Int32) (opf : Nat → Int32) (F : Nat → Nat) (osm : Int32) (t : Nat) (V : Nat) (hn : n ≤ 64) (hf : tbI ocf n F) (ht : t < n) (hfc : ofc ≤ nI t) (hFt : 0 < F t) (hsum : ns F n = 512) (hop : tbI opf 512 (plc F n)) (hV0 : 512 ≤ V) (hV1 : V < 1024) (hrw : rOk (nI ws.length) rwk) (hGrw : gIs rwf ws) (hN9 : ws.length + 12 ≤ 8000) : MetVg l y_Table_stackSign (Cond.code y_Table_stackSign prog_12_method_7_code 5 none :: gw) ({ frames := 3, cells := rPh rwk, slots := rPh rwk, locals := 83 } : Room) (dC, dI) vwCl (kT cI cM cO) [Value.ref co, Value.ref oo, Value.int (nI t)] [(co, Sum.inr (5, [Value.long (lN V), Value.long xreadX, Value.ref soa, Value.ref sna, Value.ref swa, Value.int xkept, Value.ref ri, Value.ref ro, Value.ref rw, Value.int xasked])), (rw, Sum.inr (0, [Value.int (nI ws.length), Value.ref rwa])), (rwa, Sum.inl (cI, rwk, Sum.inl rwf)), (oo, Sum.inr (7, [Value.int osg, Value.int osm, Value.int ofc, Value.ref oca, Value.ref opa])), (oca, Sum.inl (cI, n, Sum.inl ocf)), (opa, Sum.inl (cI, 512, Sum.inl opf))] sz sl (fun (u : Nat × Nat × (Nat → Int32)) => rOk (nI ((t4I F n t (V, ws)).2).length) u.2.1 ∧ gIs u.2.2 ((t4I F n t (V, ws)).2)) (fun (u : Nat × Nat × (Nat → Int32)) => [(co, Sum.inr (5, [Value.long (lN (t4I F n t (V, ws)).1), Value.long xreadX, Value.ref soa, Value.ref sna, Value.ref swa, Value.int xkept, Value.ref ri, Value.ref ro, Value.ref rw, Value.int xasked])), (rw, Sum.inr (0, [Value.int (nI (t4I F n t (V, ws)).2.length), Value.ref u.1])), (u.1, Sum.inl (cI, u.2.1, Sum.inl u.2.2)), (oo, Sum.inr (7, [Value.int osg, Value.int osm, Value.int ofc, Value.ref oca, Value.ref opa])), (oca, Sum.inl (cI, n, Sum.inl ocf)), (opa, Sum.inl (cI, 512, Sum.inl opf))]) (rPh rwk) (fun (u : Nat × Nat × (Nat → Int32)) => rPh u.2.1) := by
  refine my_ofVg (cc := prog_12_method_7_code) (n := 5) (ret := none) (by decide) rfl (Nat.le_of_ble_eq_true rfl) ?_
  intro p e s m args below meth c R Q A ls H locs hx hb hr hts hown hlocks hml hnm hR hQ hA hl hP hK hN hD hS
  have hg : ∀ w ∈ gw, w.before args s = true := fun w h => hts w (List.mem_cons_of_mem _ h)
  have hown : s.vm.findClass "RangeCoders$Table" = some m.cls := hown
  have hl : lv_has ls 5 [(0, Value.ref co), (1, Value.ref oo), (2, Value.int (nI t))] := hl
  have hltw := rOk_lt hrw
  have hng := ns_ge (F := F) ht
  refine lv_aload_n hx hb d_Table_stackSign_0 rfl (lv_at hl 1 rfl) ?_
  refine lv_iload_n hx hb d_Table_stackSign_1 rfl (lv_at hl 2 rfl) ?_
  refine my_ci (wr := [(co, Sum.inr (5, [Value.long (lN V), Value.long xreadX, Value.ref soa, Value.ref sna, Value.ref swa, Value.int xkept, Value.ref ri, Value.ref ro, Value.ref rw, Value.int xasked])), (rw, Sum.inr (0, [Value.int (nI ws.length), Value.ref rwa])), (rwa, Sum.inl (cI, rwk, Sum.inl rwf))]) (va_runV (As := [Value.int (nI t)]) (rest := []) ⟨hx, hb, hml, hown, hts⟩ (f_Odds_at l dC dI cI cM cO H.size oo osg ofc oca opa n ocf 512 opf osm t (by first | assumption | omega) (by decide) (by first | assumption | omega) (by first | assumption | omega)) (cwV 1 hts (my_gV k641 k436 k437 k14 k438) rfl rfl rfl (by decide +kernel) ⟨by rw [hR]; exact Nat.le_of_ble_eq_true rfl, by rw [hR]; exact Nat.le_of_ble_eq_true rfl⟩) (my_preV hK hN (hP.sub [3, 4, 5] rfl) (hD.sub [3, 4, 5] (by decide +kernel) rfl) 0 rfl rfl) rfl rfl hl.1 rfl (lv_room (Nat.le_of_ble_eq_true rfl)) d_Table_stackSign_2 ⟨by rw [hR]; exact (show 0 + 0 ≤ (rPh rwk) by omega), by rw [hR]; exact (show 0 + 0 ≤ (rPh rwk) by omega)⟩) hP hD hS hA [3, 4, 5] [0, 1, 2] rfl rfl (by decide +kernel) (by decide +kernel) (fun r_2 u9 H locs hw_2 hP hD hS => ?_)
  have hr_2 : r_2 = ocf t := hw_2
  have hP : va_P (dC, dI) vwCl [(co, Sum.inr (5, [Value.long (lN V), Value.long xreadX, Value.ref soa, Value.ref sna, Value.ref swa, Value.int xkept, Value.ref ri, Value.ref ro, Value.ref rw, Value.int xasked])), (rw, Sum.inr (0, [Value.int (nI ws.length), Value.ref rwa])), (rwa, Sum.inl (cI, rwk, Sum.inl rwf)), (oo, Sum.inr (7, [Value.int osg, Value.int osm, Value.int ofc, Value.ref oca, Value.ref opa])), (oca, Sum.inl (cI, n, Sum.inl ocf)), (opa, Sum.inl (cI, 512, Sum.inl opf))] H := hP
  have hD : va_D A [(co, Sum.inr (5, [Value.long (lN V), Value.long xreadX, Value.ref soa, Value.ref sna, Value.ref swa, Value.int xkept, Value.ref ri, Value.ref ro, Value.ref rw, Value.int xasked])), (rw, Sum.inr (0, [Value.int (nI ws.length), Value.ref rwa])), (rwa, Sum.inl (cI, rwk, Sum.inl rwf)), (oo, Sum.inr (7, [Value.int osg, Value.int osm, Value.int ofc, Value.ref oca, Value.ref opa])), (oca, Sum.inl (cI, n, Sum.inl ocf)), (opa, Sum.inl (cI, 512, Sum.inl opf))] := hD
  rw [hf t ht] at hr_2
  have z9 : r_2 = nI (F t) := hr_2
  subst z9
  refine lv_istore_n (lv' := [(3, Value.int (nI (F t))), (0, Value.ref co), (1, Value.ref oo), (2, Value.int (nI t))]) hx hb d_Table_stackSign_5 rfl hl (by decide) rfl (fun ls hl => ?_)
  refine lv_iconst (v := 0) hx hb d_Table_stackSign_6 (by decide) ?_
  refine lv_istore (lv' := [(4, Value.int 0), (3, Value.int (nI (F t))), (0, Value.ref co), (1, Value.ref oo), (2, Value.int (nI t))]) hx hb d_Table_stackSign_7 hl (by decide) rfl (fun ls hl => ?_)
  have J_9 : ∀ (n9_9 : Nat) (e9 : Nat × List Nat) (k9 : Nat) (rwa9 : Nat) (rwk9 : Nat) (rwf9 : Nat → Int32) (d9 : Nat) (hn9_9 : k9 = n9_9) (hE9 : t4N (F t) 10 (V, ws) = t4N (F t) k9 e9) (hk1 : k9 ≤ 10) (hf9 : F t ≤ e9.1) (hx9 : e9.1 < 2 ^ k9) (hx8 : e9.1 < 1024) (hM9 : e9.2.length + k9 ≤ ws.length + 10) (hr9 : rOk (nI e9.2.length) rwk9) (hg9 : gIs rwf9 e9.2) (hd9 : d9 + rPh rwk9 ≤ rPh rwk) (H : Heap) (locs : List Loc) (ls : Array Slot), va_P (dC, dI) vwCl [(co, Sum.inr (5, [Value.long (lN e9.1), Value.long xreadX, Value.ref soa, Value.ref sna, Value.ref swa, Value.int xkept, Value.ref ri, Value.ref ro, Value.ref rw, Value.int xasked])), (rw, Sum.inr (0, [Value.int (nI e9.2.length), Value.ref rwa9])), (rwa9, Sum.inl (cI, rwk9, Sum.inl rwf9)), (oo, Sum.inr (7, [Value.int osg, Value.int osm, Value.int ofc, Value.ref oca, Value.ref opa])), (oca, Sum.inl (cI, n, Sum.inl ocf)), (opa, Sum.inl (cI, 512, Sum.inl opf))] H → va_D A [(co, Sum.inr (5, [Value.long (lN e9.1), Value.long xreadX, Value.ref soa, Value.ref sna, Value.ref swa, Value.int xkept, Value.ref ri, Value.ref ro, Value.ref rw, Value.int xasked])), (rw, Sum.inr (0, [Value.int (nI e9.2.length), Value.ref rwa9])), (rwa9, Sum.inl (cI, rwk9, Sum.inl rwf9)), (oo, Sum.inr (7, [Value.int osg, Value.int osm, Value.int ofc, Value.ref oca, Value.ref opa])), (oca, Sum.inl (cI, n, Sum.inl ocf)), (opa, Sum.inl (cI, 512, Sum.inl opf))] → va_S A s.heap H locs → lv_has ls 5 [(4, Value.int (nI (10 - k9))), (3, Value.int (nI (F t))), (0, Value.ref co), (1, Value.ref oo), (2, Value.int (nI t))] → W p l e R s m args below meth c H locs d9 d9 Q (F0 m 9 ls []) := by
    intro n9_9
    induction n9_9 using Nat.strongRecOn with
    | ind n9_9 ih9_9 =>
      intro e9 k9 rwa9 rwk9 rwf9 d9 hn9_9 hE9 hk1 hf9 hx9 hx8 hM9 hr9 hg9 hd9 H locs ls hP hD hS hl
      have hk0 : 1 ≤ k9 := by
        rcases Nat.eq_zero_or_pos k9 with z | z
        · subst z; have : e9.1 < 1 := hx9; omega
        · exact z
      refine lv_iload hx hb d_Table_stackSign_9 (lv_at hl 0 rfl) ?_
      refine lv_bipush (v := 9) hx hb d_Table_stackSign_11 (by decide) ?_
      refine lv_icmp_gt (tgt := 60) hx hb d_Table_stackSign_13 (by decide) (fun c_1 => ?_) (fun c_1 => ?_)
      · exact absurd c_1 (Int32.not_lt.mpr (nI_le (b := 9) (show 10 - k9 ≤ 9 by omega) (by decide)))
      · refine lv_aload_n hx hb d_Table_stackSign_16 rfl (lv_at hl 2 rfl) ?_
        refine va_get (D := (dC, dI)) (ci := 5) (v := .long (lN e9.1)) (C := "RangeCoders$Table") (T := T_Table) (N := 10) hx hb hg in_Table hown hK hP 0 rfl rfl 0 (by decide) (hg _ k213) (fun x9 h9 => u_same (hg _ k214) x9 h9) rfl d_Table_stackSign_17 ?_
        refine lv_ldc2 (v := 2) hx hb hown (hg _ k642) d_Table_stackSign_20 ?_
        refine lv_iload_n hx hb d_Table_stackSign_23 rfl (lv_at hl 1 rfl) ?_
        refine lv_i2l hx hb d_Table_stackSign_24 rfl ?_
        refine lv_topl (fun v_2 ev_2 => ?_)
        refine lv_lmul hx hb d_Table_stackSign_25 ?_
        refine lv_topl (fun v_3 ev_3 => ?_)
        have z9 : v_3 = lN (2 * F t) := by subst_vars; rw [nI_l (by omega)]; exact lN_mul 2 (F t)
        subst z9
        refine W.lcmp hx hb d_Table_stackSign_26 ?_
        refine lv_if_lt (tgt := 60) hx hb d_Table_stackSign_27 (by decide) (fun c_4 => ?_) (fun c_4 => ?_)
        · rw [lg_cmp_lt] at c_4
          have hlt : ¬ 2 * F t ≤ e9.1 := by have q := (L_lt (by omega) (by omega)).mp c_4; omega
          have hx7 : t4N (F t) 10 (V, ws) = e9 := by rw [hE9, t4N_e hlt]
          obtain ⟨hq1, hq2, hq3⟩ := plO_ok (d := e9.1 - F t) hsum ht (by omega)
          have hq4 : cn (plc F n) t (plO F n t (e9.1 - F t)) = e9.1 - F t := by have z9 := hq3; unfold num at z9; rw [hq2] at z9; exact z9
          have hq5 : ∀ p, p < 512 → plc F n p < 64 := fun p _ => Nat.lt_of_lt_of_le (plc_lt hsum) hn
          refine lv_aload_n hx hb d_Table_stackSign_60 rfl (lv_at hl 2 rfl) ?_
          refine lv_sipush (v := 512) hx hb d_Table_stackSign_61 (by decide) ?_
          refine lv_aload_n hx hb d_Table_stackSign_64 rfl (lv_at hl 3 rfl) ?_
          refine lv_iload_n hx hb d_Table_stackSign_65 rfl (lv_at hl 4 rfl) ?_
          refine lv_aload_n hx hb d_Table_stackSign_66 rfl (lv_at hl 2 rfl) ?_
          refine va_get (D := (dC, dI)) (ci := 5) (v := .long (lN e9.1)) (C := "RangeCoders$Table") (T := T_Table) (N := 10) hx hb hg in_Table hown hK hP 0 rfl rfl 0 (by decide) (hg _ k213) (fun x9 h9 => u_same (hg _ k214) x9 h9) rfl d_Table_stackSign_67 ?_
          refine lv_l2i hx hb d_Table_stackSign_70 rfl ?_
          refine lv_topi (fun v_5 ev_5 => ?_)
          refine lv_iload_n hx hb d_Table_stackSign_71 rfl (lv_at hl 1 rfl) ?_
          refine lv_isub hx hb d_Table_stackSign_72 ?_
          refine lv_topi (fun v_6 ev_6 => ?_)
          have z9 : v_6 = nI (e9.1 - F t) := by subst_vars; rw [lN_i]; exact pk_sub hf9
          subst z9
          refine my_ci (wr := [(co, Sum.inr (5, [Value.long (lN e9.1), Value.long xreadX, Value.ref soa, Value.ref sna, Value.ref swa, Value.int xkept, Value.ref ri, Value.ref ro, Value.ref rw, Value.int xasked])), (rw, Sum.inr (0, [Value.int (nI e9.2.length), Value.ref rwa9])), (rwa9, Sum.inl (cI, rwk9, Sum.inl rwf9))]) (va_runV (As := [Value.int (nI t), Value.int (nI (e9.1 - F t))]) (rest := [Value.int 512, Value.ref co]) ⟨hx, hb, hml, hown, hts⟩ (f_Odds_placeOf l dC dI cI cM cO H.size oo osg ofc oca opa n ocf 512 opf osm (plc F n) t (e9.1 - F t) (plO F n t (e9.1 - F t)) (by first | assumption | omega) (by decide) (by first | assumption | omega) (hq5) (by omega) (hq1) (hq2) (hq4)) (cwV 2 hts (my_gV k643 k644 k645 k14 k646) rfl rfl rfl (by decide +kernel) ⟨by rw [hR]; exact Nat.le_of_ble_eq_true rfl, by rw [hR]; exact Nat.le_of_ble_eq_true rfl⟩) (my_preV hK hN (hP.sub [3, 4, 5] rfl) (hD.sub [3, 4, 5] (by decide +kernel) rfl) 0 rfl rfl) rfl rfl hl.1 rfl (lv_room (Nat.le_of_ble_eq_true rfl)) d_Table_stackSign_73 ⟨by rw [hR]; exact (show d9 + 0 ≤ (rPh rwk) by omega), by rw [hR]; exact (show d9 + 0 ≤ (rPh rwk) by omega)⟩) hP hD hS hA [3, 4, 5] [0, 1, 2] rfl rfl (by decide +kernel) (by decide +kernel) (fun r_73 u9 H locs hw_73 hP hD hS => ?_)
          have hr_73 : r_73 = nI (plO F n t (e9.1 - F t)) := hw_73
          have hP : va_P (dC, dI) vwCl [(co, Sum.inr (5, [Value.long (lN e9.1), Value.long xreadX, Value.ref soa, Value.ref sna, Value.ref swa, Value.int xkept, Value.ref ri, Value.ref ro, Value.ref rw, Value.int xasked])), (rw, Sum.inr (0, [Value.int (nI e9.2.length), Value.ref rwa9])), (rwa9, Sum.inl (cI, rwk9, Sum.inl rwf9)), (oo, Sum.inr (7, [Value.int osg, Value.int osm, Value.int ofc, Value.ref oca, Value.ref opa])), (oca, Sum.inl (cI, n, Sum.inl ocf)), (opa, Sum.inl (cI, 512, Sum.inl opf))] H := hP
          have hD : va_D A [(co, Sum.inr (5, [Value.long (lN e9.1), Value.long xreadX, Value.ref soa, Value.ref sna, Value.ref swa, Value.int xkept, Value.ref ri, Value.ref ro, Value.ref rw, Value.int xasked])), (rw, Sum.inr (0, [Value.int (nI e9.2.length), Value.ref rwa9])), (rwa9, Sum.inl (cI, rwk9, Sum.inl rwf9)), (oo, Sum.inr (7, [Value.int osg, Value.int osm, Value.int ofc, Value.ref oca, Value.ref opa])), (oca, Sum.inl (cI, n, Sum.inl ocf)), (opa, Sum.inl (cI, 512, Sum.inl opf))] := hD
          have z9 : r_73 = nI (plO F n t (e9.1 - F t)) := hr_73
          subst z9
          refine lv_iadd hx hb d_Table_stackSign_76 ?_
          refine lv_topi (fun v_7 ev_7 => ?_)
          refine lv_i2l hx hb d_Table_stackSign_77 rfl ?_
          refine lv_topl (fun v_8 ev_8 => ?_)
          have z9 : v_8 = lN (t4I F n t (V, ws)).1 := by unfold t4I; rw [hx7, ev_8, ev_7, show (512 : Int32) + nI (plO F n t (e9.1 - F t)) = nI (512 + plO F n t (e9.1 - F t)) from nI_add 512 _]; exact nI_l (by omega)
          subst z9
          have hsu : (nI e9.2.length : Int32) = nI (t4I F n t (V, ws)).2.length := by unfold t4I; rw [hx7]
          rw [hsu] at hP hD
          have hP : va_P (dC, dI) vwCl [(co, Sum.inr (5, [Value.long (lN e9.1), Value.long xreadX, Value.ref soa, Value.ref sna, Value.ref swa, Value.int xkept, Value.ref ri, Value.ref ro, Value.ref rw, Value.int xasked])), (rw, Sum.inr (0, [Value.int (nI (t4I F n t (V, ws)).2.length), Value.ref rwa9])), (rwa9, Sum.inl (cI, rwk9, Sum.inl rwf9)), (oo, Sum.inr (7, [Value.int osg, Value.int osm, Value.int ofc, Value.ref oca, Value.ref opa])), (oca, Sum.inl (cI, n, Sum.inl ocf)), (opa, Sum.inl (cI, 512, Sum.inl opf))] H := hP
          have hD : va_D A [(co, Sum.inr (5, [Value.long (lN e9.1), Value.long xreadX, Value.ref soa, Value.ref sna, Value.ref swa, Value.int xkept, Value.ref ri, Value.ref ro, Value.ref rw, Value.int xasked])), (rw, Sum.inr (0, [Value.int (nI (t4I F n t (V, ws)).2.length), Value.ref rwa9])), (rwa9, Sum.inl (cI, rwk9, Sum.inl rwf9)), (oo, Sum.inr (7, [Value.int osg, Value.int osm, Value.int ofc, Value.ref oca, Value.ref opa])), (oca, Sum.inl (cI, n, Sum.inl ocf)), (opa, Sum.inl (cI, 512, Sum.inl opf))] := hD
          refine va_put (D := (dC, dI)) (ci := 5) (v := .long (lN (t4I F n t (V, ws)).1)) (ty := .long) (C := "RangeCoders$Table") (T := T_Table) (N := 10) hx hb hg in_Table t_Table o_Table n_Table hown hK hP hD hS 0 rfl rfl 0 (by decide) (hg _ k213) (fun x9 h9 => u_same (hg _ k214) x9 h9) rfl (by decide +kernel) rfl rfl (Nat.le_of_ble_eq_true rfl) d_Table_stackSign_78 (fun H locs hP hD hS => ?_)
          have hP : va_P (dC, dI) vwCl [(co, Sum.inr (5, [Value.long (lN (t4I F n t (V, ws)).1), Value.long xreadX, Value.ref soa, Value.ref sna, Value.ref swa, Value.int xkept, Value.ref ri, Value.ref ro, Value.ref rw, Value.int xasked])), (rw, Sum.inr (0, [Value.int (nI (t4I F n t (V, ws)).2.length), Value.ref rwa9])), (rwa9, Sum.inl (cI, rwk9, Sum.inl rwf9)), (oo, Sum.inr (7, [Value.int osg, Value.int osm, Value.int ofc, Value.ref oca, Value.ref opa])), (oca, Sum.inl (cI, n, Sum.inl ocf)), (opa, Sum.inl (cI, 512, Sum.inl opf))] H := hP
          have hD : va_D A [(co, Sum.inr (5, [Value.long (lN (t4I F n t (V, ws)).1), Value.long xreadX, Value.ref soa, Value.ref sna, Value.ref swa, Value.int xkept, Value.ref ri, Value.ref ro, Value.ref rw, Value.int xasked])), (rw, Sum.inr (0, [Value.int (nI (t4I F n t (V, ws)).2.length), Value.ref rwa9])), (rwa9, Sum.inl (cI, rwk9, Sum.inl rwf9)), (oo, Sum.inr (7, [Value.int osg, Value.int osm, Value.int ofc, Value.ref oca, Value.ref opa])), (oca, Sum.inl (cI, n, Sum.inl ocf)), (opa, Sum.inl (cI, 512, Sum.inl opf))] := hD
          exact my_vretg hx hb hr hlocks hQ hK hS (rwa9, rwk9, rwf9) (show d9 + (rPh rwk9) ≤ (rPh rwk) by omega) (show d9 + (rPh rwk9) ≤ (rPh rwk) by omega) (⟨by unfold t4I; rw [hx7]; exact hr9, by unfold t4I; rw [hx7]; exact hg9⟩) (hP.sub [0, 1, 2, 3, 4, 5] rfl) (hD.sub [0, 1, 2, 3, 4, 5] (by decide +kernel) rfl) d_Table_stackSign_81
        · rw [lg_cmp_lt] at c_4
          have hge : 2 * F t ≤ e9.1 := by
            rcases Nat.lt_or_ge e9.1 (2 * F t) with q | q
            · exact absurd ((L_lt (by omega) (by omega)).mpr q) c_4
            · exact q
          have hk7 := pw_k hx9 (by omega)
          refine lv_aload_n hx hb d_Table_stackSign_30 rfl (lv_at hl 2 rfl) ?_
          refine va_get (D := (dC, dI)) (ci := 5) (v := .ref rw) (C := "RangeCoders$Table") (T := T_Table) (N := 10) hx hb hg in_Table hown hK hP 0 rfl rfl 8 (by decide) (hg _ k120) (fun x9 h9 => u_same (hg _ k121) x9 h9) rfl d_Table_stackSign_31 ?_
          refine lv_aload_n hx hb d_Table_stackSign_34 rfl (lv_at hl 2 rfl) ?_
          refine va_get (D := (dC, dI)) (ci := 5) (v := .long (lN e9.1)) (C := "RangeCoders$Table") (T := T_Table) (N := 10) hx hb hg in_Table hown hK hP 0 rfl rfl 0 (by decide) (hg _ k213) (fun x9 h9 => u_same (hg _ k214) x9 h9) rfl d_Table_stackSign_35 ?_
          refine lv_lconst (v := 1) hx hb d_Table_stackSign_38 (by decide) ?_
          refine lv_land hx hb d_Table_stackSign_39 ?_
          refine lv_topl (fun v_9 ev_9 => ?_)
          refine lv_l2i hx hb d_Table_stackSign_40 rfl ?_
          refine lv_topi (fun v_10 ev_10 => ?_)
          have z9 : v_10 = nI (e9.1 % 2) := by subst_vars; rw [wb_a1 (by omega)]; exact lN_i _
          subst z9
          refine my_cvg (wr := [(co, Sum.inr (5, [Value.long (lN e9.1), Value.long xreadX, Value.ref soa, Value.ref sna, Value.ref swa, Value.int xkept, Value.ref ri, Value.ref ro, Value.ref rw, Value.int xasked])), (oo, Sum.inr (7, [Value.int osg, Value.int osm, Value.int ofc, Value.ref oca, Value.ref opa])), (oca, Sum.inl (cI, n, Sum.inl ocf)), (opa, Sum.inl (cI, 512, Sum.inl opf))]) (va_runV (As := [Value.int (nI (e9.1 % 2))]) (rest := []) ⟨hx, hb, hml, hown, hts⟩ (f_Row_add l dC dI cI cM cO H.size (hSl H) rw rwa9 rwk9 rwf9 e9.2 (e9.1 % 2) (hr9) (hg9) (by omega)) (cwV 1 hts (my_gV k629 k473 k474 k6 k475) rfl rfl rfl (by decide +kernel) ⟨by rw [hR]; exact Nat.le_of_ble_eq_true rfl, by rw [hR]; exact Nat.le_of_ble_eq_true rfl⟩) (my_preVg hK hN (hP.sub [1, 2] rfl) (hD.sub [1, 2] (by decide +kernel) rfl) 0 rfl rfl) rfl rfl hl.1 rfl (lv_room (Nat.le_of_ble_eq_true rfl)) d_Table_stackSign_41 ⟨by rw [hR]; exact (show d9 + (rPh rwk9) ≤ (rPh rwk) by omega), by rw [hR]; exact (show d9 + (rPh rwk9) ≤ (rPh rwk) by omega)⟩) hP hD hS hA [1, 2] [0, 3, 4, 5] rfl rfl (by decide +kernel) (by decide +kernel) (fun u9 d_41 H locs hd_41 hw_41 hP hD hS => ?_)
          obtain ⟨rraq_41, rrkq_41, rrfq_41⟩ := u9
          obtain ⟨hrr_41, hGrr_41⟩ : rOk (nI (e9.2 ++ [(e9.1 % 2)]).length) rrkq_41 ∧ gIs rrfq_41 (e9.2 ++ [(e9.1 % 2)]) := hw_41
          have hd_41 : d_41 + (rPh rrkq_41) ≤ (rPh rwk9) := hd_41
          have hP : va_P (dC, dI) vwCl [(co, Sum.inr (5, [Value.long (lN e9.1), Value.long xreadX, Value.ref soa, Value.ref sna, Value.ref swa, Value.int xkept, Value.ref ri, Value.ref ro, Value.ref rw, Value.int xasked])), (oo, Sum.inr (7, [Value.int osg, Value.int osm, Value.int ofc, Value.ref oca, Value.ref opa])), (oca, Sum.inl (cI, n, Sum.inl ocf)), (opa, Sum.inl (cI, 512, Sum.inl opf)), (rw, Sum.inr (0, [Value.int (nI (e9.2 ++ [(e9.1 % 2)]).length), Value.ref rraq_41])), (rraq_41, Sum.inl (cI, rrkq_41, Sum.inl rrfq_41))] H := hP
          have hD : va_D A [(co, Sum.inr (5, [Value.long (lN e9.1), Value.long xreadX, Value.ref soa, Value.ref sna, Value.ref swa, Value.int xkept, Value.ref ri, Value.ref ro, Value.ref rw, Value.int xasked])), (oo, Sum.inr (7, [Value.int osg, Value.int osm, Value.int ofc, Value.ref oca, Value.ref opa])), (oca, Sum.inl (cI, n, Sum.inl ocf)), (opa, Sum.inl (cI, 512, Sum.inl opf)), (rw, Sum.inr (0, [Value.int (nI (e9.2 ++ [(e9.1 % 2)]).length), Value.ref rraq_41])), (rraq_41, Sum.inl (cI, rrkq_41, Sum.inl rrfq_41))] := hD
          refine lv_aload_n hx hb d_Table_stackSign_44 rfl (lv_at hl 2 rfl) ?_
          refine lv_dup hx hb d_Table_stackSign_45 rfl ?_
          refine va_get (D := (dC, dI)) (ci := 5) (v := .long (lN e9.1)) (C := "RangeCoders$Table") (T := T_Table) (N := 10) hx hb hg in_Table hown hK hP 0 rfl rfl 0 (by decide) (hg _ k213) (fun x9 h9 => u_same (hg _ k214) x9 h9) rfl d_Table_stackSign_46 ?_
          refine lv_iconst (v := 1) hx hb d_Table_stackSign_49 (by decide) ?_
          refine lv_lushr hx hb d_Table_stackSign_50 rfl ?_
          refine lv_topl (fun v_11 ev_11 => ?_)
          have z9 : v_11 = lN (e9.1 / 2) := by rw [ev_11]; exact U_shr1 (by omega)
          subst z9
          refine va_put (D := (dC, dI)) (ci := 5) (v := .long (lN (e9.1 / 2))) (ty := .long) (C := "RangeCoders$Table") (T := T_Table) (N := 10) hx hb hg in_Table t_Table o_Table n_Table hown hK hP hD hS 0 rfl rfl 0 (by decide) (hg _ k213) (fun x9 h9 => u_same (hg _ k214) x9 h9) rfl (by decide +kernel) rfl rfl (Nat.le_of_ble_eq_true rfl) d_Table_stackSign_51 (fun H locs hP hD hS => ?_)
          have hP : va_P (dC, dI) vwCl [(co, Sum.inr (5, [Value.long (lN (e9.1 / 2)), Value.long xreadX, Value.ref soa, Value.ref sna, Value.ref swa, Value.int xkept, Value.ref ri, Value.ref ro, Value.ref rw, Value.int xasked])), (oo, Sum.inr (7, [Value.int osg, Value.int osm, Value.int ofc, Value.ref oca, Value.ref opa])), (oca, Sum.inl (cI, n, Sum.inl ocf)), (opa, Sum.inl (cI, 512, Sum.inl opf)), (rw, Sum.inr (0, [Value.int (nI (e9.2 ++ [(e9.1 % 2)]).length), Value.ref rraq_41])), (rraq_41, Sum.inl (cI, rrkq_41, Sum.inl rrfq_41))] H := hP
          have hD : va_D A [(co, Sum.inr (5, [Value.long (lN (e9.1 / 2)), Value.long xreadX, Value.ref soa, Value.ref sna, Value.ref swa, Value.int xkept, Value.ref ri, Value.ref ro, Value.ref rw, Value.int xasked])), (oo, Sum.inr (7, [Value.int osg, Value.int osm, Value.int ofc, Value.ref oca, Value.ref opa])), (oca, Sum.inl (cI, n, Sum.inl ocf)), (opa, Sum.inl (cI, 512, Sum.inl opf)), (rw, Sum.inr (0, [Value.int (nI (e9.2 ++ [(e9.1 % 2)]).length), Value.ref rraq_41])), (rraq_41, Sum.inl (cI, rrkq_41, Sum.inl rrfq_41))] := hD
          obtain ⟨v_12, ev_12⟩ : ∃ y : Int32, y = (nI (10 - k9)) + (1) := ⟨_, rfl⟩
          refine lv_iinc (v := v_12) (lv' := [(4, Value.int v_12), (3, Value.int (nI (F t))), (0, Value.ref co), (1, Value.ref oo), (2, Value.int (nI t))]) hx hb d_Table_stackSign_54 hl (k := 0) rfl (by rw [ev_12]; rfl) (by decide) rfl (fun ls hl => ?_)
          have z9 : v_12 = nI (10 - (k9 - 1)) := by rw [ev_12, show 10 - (k9 - 1) = 10 - k9 + 1 by omega]; exact nI_1 _
          subst z9
          refine lv_goto (tgt := 9) hx hb d_Table_stackSign_57 (by decide) ?_
          exact ih9_9 _ (by first | omega | (omega)) (e9.1 / 2, e9.2 ++ [e9.1 % 2]) (k9 - 1) rraq_41 rrkq_41 rrfq_41 (d9 + d_41) rfl (by rw [hE9, t4N_s (by omega) hge]) (by omega) (by show F t ≤ e9.1 / 2; omega) (pw_h hx9 (by omega)) (by show e9.1 / 2 < 1024; omega) (by show (e9.2 ++ [_]).length + (k9 - 1) ≤ _; rw [List.length_append, List.length_singleton]; omega) (hrr_41) (hGrr_41) (by omega) H locs ls (hP.sub [0, 4, 5, 1, 2, 3] rfl) (hD.sub [0, 4, 5, 1, 2, 3] (by decide +kernel) rfl) hS (lv_sub hl [0, 1, 2, 3, 4] rfl)
  exact J_9 _ (V, ws) (10 : Nat) rwa rwk rwf (0 : Nat) rfl (rfl) (by decide) (by show F t ≤ V; omega) (hV1) (hV1) (Nat.le_refl _) (hrw) (hGrw) (by omega) H locs ls (hP.sub [0, 1, 2, 3, 4, 5] rfl) (hD.sub [0, 1, 2, 3, 4, 5] (by decide +kernel) rfl) hS (lv_sub hl [0, 1, 2, 3, 4] rfl)
set_option maxHeartbeats 2000000 in
set_option maxRecDepth 100000 in
theorem f_Table_byteOfWritten (l : Launch) (dC : Nat → ClassId) (dI : Nat → Nat → Nat) (cI cM cO : ClassId) (sz : Nat) (co : Nat) (xx : Int64) (xreadX : Int64) (soa : Nat) (sna : Nat) (swa : Nat) (xkept : Int32) (ri : Nat) (ro : Nat) (rw : Nat) (xasked : Int32) (rwa : Nat) (rwk : Nat) (rwf : Nat → Int32) (ws : List Nat) (fm : Nat) (hrw : rOk (nI ws.length) rwk) (hGrw : gIs rwf ws) (hN9 : ws.length ≤ 8000) (hfm : fm ≤ 8000) (hb2 : bt2 ws) : MetI l y_Table_byteOfWritten (Cond.code y_Table_byteOfWritten prog_12_method_13_code 5 (some .int) :: gw) ({ frames := 2, cells := 0, slots := 0, locals := 42 } : Room) (dC, dI) vwCl (kT cI cM cO) [Value.ref co, Value.int (nI fm)] [(co, Sum.inr (5, [Value.long xx, Value.long xreadX, Value.ref soa, Value.ref sna, Value.ref swa, Value.int xkept, Value.ref ri, Value.ref ro, Value.ref rw, Value.int xasked])), (rw, Sum.inr (0, [Value.int (nI ws.length), Value.ref rwa])), (rwa, Sum.inl (cI, rwk, Sum.inl rwf))] sz (fun (r : Int32) (u : Unit) => r = nI (byW ws fm 8)) (fun (u : Unit) => [(co, Sum.inr (5, [Value.long xx, Value.long xreadX, Value.ref soa, Value.ref sna, Value.ref swa, Value.int xkept, Value.ref ri, Value.ref ro, Value.ref rw, Value.int xasked])), (rw, Sum.inr (0, [Value.int (nI ws.length), Value.ref rwa])), (rwa, Sum.inl (cI, rwk, Sum.inl rwf))]) 0 0 := by
  refine my_ofI (cc := prog_12_method_13_code) (n := 5) (ret := (some .int)) (by decide) rfl (Nat.le_of_ble_eq_true rfl) ?_
  intro p e s m args below meth c R Q A ls H locs hx hb hr hts hown hlocks hml hnm hR hQ hA hl hP hK hN hD hS
  have hg : ∀ w ∈ gw, w.before args s = true := fun w h => hts w (List.mem_cons_of_mem _ h)
  have hown : s.vm.findClass "RangeCoders$Table" = some m.cls := hown
  have hl : lv_has ls 5 [(0, Value.ref co), (1, Value.int (nI fm))] := hl
  have hltw := rOk_lt hrw
  refine lv_iconst (v := 0) hx hb d_Table_byteOfWritten_0 (by decide) ?_
  refine lv_istore_n (lv' := [(2, Value.int 0), (0, Value.ref co), (1, Value.int (nI fm))]) hx hb d_Table_byteOfWritten_1 rfl hl (by decide) rfl (fun ls hl => ?_)
  refine lv_iload_n hx hb d_Table_byteOfWritten_2 rfl (lv_at hl 2 rfl) ?_
  refine lv_istore_n (lv' := [(3, Value.int (nI fm)), (2, Value.int 0), (0, Value.ref co), (1, Value.int (nI fm))]) hx hb d_Table_byteOfWritten_3 rfl hl (by decide) rfl (fun ls hl => ?_)
  have J_4 : ∀ (n9_4 : Nat) (j : Nat) (hn9_4 : 8 - j = n9_4) (hj : j ≤ 8) (H : Heap) (locs : List Loc) (ls : Array Slot), va_P (dC, dI) vwCl [(co, Sum.inr (5, [Value.long xx, Value.long xreadX, Value.ref soa, Value.ref sna, Value.ref swa, Value.int xkept, Value.ref ri, Value.ref ro, Value.ref rw, Value.int xasked])), (rw, Sum.inr (0, [Value.int (nI ws.length), Value.ref rwa])), (rwa, Sum.inl (cI, rwk, Sum.inl rwf))] H → va_D A [(co, Sum.inr (5, [Value.long xx, Value.long xreadX, Value.ref soa, Value.ref sna, Value.ref swa, Value.int xkept, Value.ref ri, Value.ref ro, Value.ref rw, Value.int xasked])), (rw, Sum.inr (0, [Value.int (nI ws.length), Value.ref rwa])), (rwa, Sum.inl (cI, rwk, Sum.inl rwf))] → va_S A s.heap H locs → lv_has ls 5 [(3, Value.int (nI (fm + j))), (2, Value.int (nI (byW ws fm j))), (0, Value.ref co), (1, Value.int (nI fm))] → W p l e R s m args below meth c H locs 0 0 Q (F0 m 4 ls []) := by
    intro n9_4
    induction n9_4 using Nat.strongRecOn with
    | ind n9_4 ih9_4 =>
      intro j hn9_4 hj H locs ls hP hD hS hl
      have hbw := byW_lt hb2 fm j
      have hbp : 2 ^ j ≤ 256 := Nat.pow_le_pow_right (n := 2) (by decide) hj
      refine lv_iload_n hx hb d_Table_byteOfWritten_4 rfl (lv_at hl 0 rfl) ?_
      refine lv_iload_n hx hb d_Table_byteOfWritten_5 rfl (lv_at hl 3 rfl) ?_
      refine lv_bipush (v := 8) hx hb d_Table_byteOfWritten_6 (by decide) ?_
      refine lv_iadd hx hb d_Table_byteOfWritten_8 ?_
      refine lv_topi (fun v_1 ev_1 => ?_)
      have z9 : v_1 = nI (fm + 8) := by rw [ev_1]; exact nI_add fm 8
      subst z9
      refine lv_icmp_ge (tgt := 61) hx hb d_Table_byteOfWritten_9 (by decide) (fun c_2 => ?_) (fun c_2 => ?_)
      · have hj3 : j = 8 := by have := nI_ge' (by omega) (by omega) c_2; omega
        refine lv_iload_n hx hb d_Table_byteOfWritten_61 rfl (lv_at hl 1 rfl) ?_
        exact my_iret (v := nI (byW ws fm j)) hx hb hr (rfl) hlocks hQ hK hS (Nat.le_refl _) (Nat.le_refl _) () (by rw [hj3]) (hP.sub [0, 1, 2] rfl) (hD.sub [0, 1, 2] (by decide +kernel) rfl) d_Table_byteOfWritten_62
      · have hj2 : j < 8 := by have := nI_lt' (by omega) c_2; omega
        refine lv_aload_n hx hb d_Table_byteOfWritten_12 rfl (lv_at hl 2 rfl) ?_
        refine va_get (D := (dC, dI)) (ci := 5) (v := .ref rw) (C := "RangeCoders$Table") (T := T_Table) (N := 10) hx hb hg in_Table hown hK hP 0 rfl rfl 8 (by decide) (hg _ k120) (fun x9 h9 => u_same (hg _ k121) x9 h9) rfl d_Table_byteOfWritten_13 ?_
        refine va_get (D := (dC, dI)) (ci := 0) (v := .int (nI ws.length)) (C := "RangeCoders$Row") (T := T_Row) (N := 2) hx hb hg in_Row hown hK hP 1 rfl rfl 0 (by decide) (hg _ k59) (fun _ h9 => h9) rfl d_Table_byteOfWritten_16 ?_
        refine lv_iconst (v := 1) hx hb d_Table_byteOfWritten_19 (by decide) ?_
        refine lv_isub hx hb d_Table_byteOfWritten_20 ?_
        refine lv_topi (fun v_3 ev_3 => ?_)
        refine lv_iload_n hx hb d_Table_byteOfWritten_21 rfl (lv_at hl 0 rfl) ?_
        refine lv_isub hx hb d_Table_byteOfWritten_22 ?_
        refine lv_topi (fun v_4 ev_4 => ?_)
        refine lv_istore (lv' := [(4, Value.int v_4), (3, Value.int (nI (fm + j))), (2, Value.int (nI (byW ws fm j))), (0, Value.ref co), (1, Value.int (nI fm))]) hx hb d_Table_byteOfWritten_23 hl (by decide) rfl (fun ls hl => ?_)
        refine lv_iconst (v := 2) hx hb d_Table_byteOfWritten_25 (by decide) ?_
        refine lv_iload_n hx hb d_Table_byteOfWritten_26 rfl (lv_at hl 2 rfl) ?_
        refine lv_imul hx hb d_Table_byteOfWritten_27 ?_
        refine lv_topi (fun v_5 ev_5 => ?_)
        refine lv_aload_n hx hb d_Table_byteOfWritten_28 rfl (lv_at hl 3 rfl) ?_
        refine va_get (D := (dC, dI)) (ci := 5) (v := .ref rw) (C := "RangeCoders$Table") (T := T_Table) (N := 10) hx hb hg in_Table hown hK hP 0 rfl rfl 8 (by decide) (hg _ k120) (fun x9 h9 => u_same (hg _ k121) x9 h9) rfl d_Table_byteOfWritten_29 ?_
        refine lv_iload hx hb d_Table_byteOfWritten_32 (lv_at hl 0 rfl) ?_
        refine my_ci (wr := [(co, Sum.inr (5, [Value.long xx, Value.long xreadX, Value.ref soa, Value.ref sna, Value.ref swa, Value.int xkept, Value.ref ri, Value.ref ro, Value.ref rw, Value.int xasked]))]) (va_runV (As := [Value.int v_4]) (rest := [Value.int v_5]) ⟨hx, hb, hml, hown, hts⟩ (f_Row_has l dC dI cI cM cO H.size rw rwa rwk rwf ws v_4 (hrw) (hGrw) (by omega)) (cwV 1 hts (my_gV k676 k663 k664 k6 k665) rfl rfl rfl (by decide +kernel) ⟨by rw [hR]; exact Nat.le_of_ble_eq_true rfl, by rw [hR]; exact Nat.le_of_ble_eq_true rfl⟩) (my_preV hK hN (hP.sub [1, 2] rfl) (hD.sub [1, 2] (by decide +kernel) rfl) 0 rfl rfl) rfl rfl hl.1 rfl (lv_room (Nat.le_of_ble_eq_true rfl)) d_Table_byteOfWritten_34 ⟨by rw [hR]; exact Nat.le_of_ble_eq_true rfl, by rw [hR]; exact Nat.le_of_ble_eq_true rfl⟩) hP hD hS hA [1, 2] [0] rfl rfl (by decide +kernel) (by decide +kernel) (fun r_34 u9 H locs hw_34 hP hD hS => ?_)
        obtain ⟨hr_34, hv_34⟩ : (r_34 = if 0 ≤ v_4 ∧ v_4 < nI ws.length then 1 else 0) ∧ (r_34 ≠ 0 → vp_in v_4 rwk) := hw_34
        have hP : va_P (dC, dI) vwCl [(co, Sum.inr (5, [Value.long xx, Value.long xreadX, Value.ref soa, Value.ref sna, Value.ref swa, Value.int xkept, Value.ref ri, Value.ref ro, Value.ref rw, Value.int xasked])), (rw, Sum.inr (0, [Value.int (nI ws.length), Value.ref rwa])), (rwa, Sum.inl (cI, rwk, Sum.inl rwf))] H := hP
        have hD : va_D A [(co, Sum.inr (5, [Value.long xx, Value.long xreadX, Value.ref soa, Value.ref sna, Value.ref swa, Value.int xkept, Value.ref ri, Value.ref ro, Value.ref rw, Value.int xasked])), (rw, Sum.inr (0, [Value.int (nI ws.length), Value.ref rwa])), (rwa, Sum.inl (cI, rwk, Sum.inl rwf))] := hD
        refine lv_if_eq (tgt := 52) hx hb d_Table_byteOfWritten_37 (by decide) (fun c_6 => ?_) (fun c_6 => ?_)
        · refine lv_iconst (v := 0) hx hb d_Table_byteOfWritten_52 (by decide) ?_
          have hx9 : (0 : Int32) = nI (rvB ws (fm + j)) := by rw [rv_0 (by omega) (by omega) (by subst_vars; rfl) (one_eq hr_34 c_6)]; rfl
          refine lv_iadd hx hb d_Table_byteOfWritten_53 ?_
          refine lv_topi (fun v_7 ev_7 => ?_)
          have z9 : v_7 = nI (byW ws fm (j + 1)) := by rw [ev_7, hx9, ev_5, show (2 : Int32) * nI (byW ws fm j) = nI (2 * byW ws fm j) from pk_mul 2 _]; exact nI_add _ _
          subst z9
          refine lv_istore_n (lv' := [(2, Value.int (nI (byW ws fm (j + 1)))), (4, Value.int v_4), (3, Value.int (nI (fm + j))), (0, Value.ref co), (1, Value.int (nI fm))]) hx hb d_Table_byteOfWritten_54 rfl hl (by decide) rfl (fun ls hl => ?_)
          obtain ⟨v_8, ev_8⟩ : ∃ y : Int32, y = (nI (fm + j)) + (1) := ⟨_, rfl⟩
          refine lv_iinc (v := v_8) (lv' := [(3, Value.int v_8), (2, Value.int (nI (byW ws fm (j + 1)))), (4, Value.int v_4), (0, Value.ref co), (1, Value.int (nI fm))]) hx hb d_Table_byteOfWritten_55 hl (k := 2) rfl (by rw [ev_8]; rfl) (by decide) rfl (fun ls hl => ?_)
          have z9 : v_8 = nI (fm + (j + 1)) := by rw [ev_8]; exact nI_1 _
          subst z9
          refine lv_goto (tgt := 4) hx hb d_Table_byteOfWritten_58 (by decide) ?_
          exact ih9_4 _ (by first | omega | (omega)) (j + 1) rfl (by omega) H locs ls (hP.sub [0, 1, 2] rfl) (hD.sub [0, 1, 2] (by decide +kernel) rfl) hS (lv_sub hl [0, 1, 3, 4] rfl)
        · refine lv_aload_n hx hb d_Table_byteOfWritten_40 rfl (lv_at hl 3 rfl) ?_
          refine va_get (D := (dC, dI)) (ci := 5) (v := .ref rw) (C := "RangeCoders$Table") (T := T_Table) (N := 10) hx hb hg in_Table hown hK hP 0 rfl rfl 8 (by decide) (hg _ k120) (fun x9 h9 => u_same (hg _ k121) x9 h9) rfl d_Table_byteOfWritten_41 ?_
          refine lv_iload hx hb d_Table_byteOfWritten_44 (lv_at hl 0 rfl) ?_
          refine my_ci (wr := [(co, Sum.inr (5, [Value.long xx, Value.long xreadX, Value.ref soa, Value.ref sna, Value.ref swa, Value.int xkept, Value.ref ri, Value.ref ro, Value.ref rw, Value.int xasked]))]) (va_runV (As := [Value.int v_4]) (rest := [Value.int v_5]) ⟨hx, hb, hml, hown, hts⟩ (f_Row_at l dC dI cI cM cO H.size rw rwa rwk rwf ws v_4 (hrw) (hGrw) (by omega)) (cwV 1 hts (my_gV k677 k659 k660 k6 k661) rfl rfl rfl (by decide +kernel) ⟨by rw [hR]; exact Nat.le_of_ble_eq_true rfl, by rw [hR]; exact Nat.le_of_ble_eq_true rfl⟩) (my_preV hK hN (hP.sub [1, 2] rfl) (hD.sub [1, 2] (by decide +kernel) rfl) 0 rfl rfl) rfl rfl hl.1 rfl (lv_room (Nat.le_of_ble_eq_true rfl)) d_Table_byteOfWritten_46 ⟨by rw [hR]; exact Nat.le_of_ble_eq_true rfl, by rw [hR]; exact Nat.le_of_ble_eq_true rfl⟩) hP hD hS hA [1, 2] [0] rfl rfl (by decide +kernel) (by decide +kernel) (fun r_46 u9 H locs hw_46 hP hD hS => ?_)
          have hr_46 : r_46 = rAt ws v_4 := hw_46
          have hP : va_P (dC, dI) vwCl [(co, Sum.inr (5, [Value.long xx, Value.long xreadX, Value.ref soa, Value.ref sna, Value.ref swa, Value.int xkept, Value.ref ri, Value.ref ro, Value.ref rw, Value.int xasked])), (rw, Sum.inr (0, [Value.int (nI ws.length), Value.ref rwa])), (rwa, Sum.inl (cI, rwk, Sum.inl rwf))] H := hP
          have hD : va_D A [(co, Sum.inr (5, [Value.long xx, Value.long xreadX, Value.ref soa, Value.ref sna, Value.ref swa, Value.int xkept, Value.ref ri, Value.ref ro, Value.ref rw, Value.int xasked])), (rw, Sum.inr (0, [Value.int (nI ws.length), Value.ref rwa])), (rwa, Sum.inl (cI, rwk, Sum.inl rwf))] := hD
          refine lv_goto (tgt := 53) hx hb d_Table_byteOfWritten_49 (by decide) ?_
          have hx9 : r_46 = nI (rvB ws (fm + j)) := hr_46.trans (rv_1 (by omega) (by omega) (by subst_vars; rfl) (one_ne hr_34 c_6))
          refine lv_iadd hx hb d_Table_byteOfWritten_53 ?_
          refine lv_topi (fun v_9 ev_9 => ?_)
          have z9 : v_9 = nI (byW ws fm (j + 1)) := by rw [ev_9, hx9, ev_5, show (2 : Int32) * nI (byW ws fm j) = nI (2 * byW ws fm j) from pk_mul 2 _]; exact nI_add _ _
          subst z9
          refine lv_istore_n (lv' := [(2, Value.int (nI (byW ws fm (j + 1)))), (4, Value.int v_4), (3, Value.int (nI (fm + j))), (0, Value.ref co), (1, Value.int (nI fm))]) hx hb d_Table_byteOfWritten_54 rfl hl (by decide) rfl (fun ls hl => ?_)
          obtain ⟨v_10, ev_10⟩ : ∃ y : Int32, y = (nI (fm + j)) + (1) := ⟨_, rfl⟩
          refine lv_iinc (v := v_10) (lv' := [(3, Value.int v_10), (2, Value.int (nI (byW ws fm (j + 1)))), (4, Value.int v_4), (0, Value.ref co), (1, Value.int (nI fm))]) hx hb d_Table_byteOfWritten_55 hl (k := 2) rfl (by rw [ev_10]; rfl) (by decide) rfl (fun ls hl => ?_)
          have z9 : v_10 = nI (fm + (j + 1)) := by rw [ev_10]; exact nI_1 _
          subst z9
          refine lv_goto (tgt := 4) hx hb d_Table_byteOfWritten_58 (by decide) ?_
          exact ih9_4 _ (by first | omega | (omega)) (j + 1) rfl (by omega) H locs ls (hP.sub [0, 1, 2] rfl) (hD.sub [0, 1, 2] (by decide +kernel) rfl) hS (lv_sub hl [0, 1, 3, 4] rfl)
  exact J_4 _ (0 : Nat) rfl (by decide) H locs ls (hP.sub [0, 1, 2] rfl) (hD.sub [0, 1, 2] (by decide +kernel) rfl) hS (lv_sub hl [0, 1, 2, 3] rfl)

