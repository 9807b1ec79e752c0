section
/-! FORM 4: the PLACES -/
theorem sgA_eq {F : Nat → Nat} {n s t : Nat} (hs : s < n) (h1 : ns F s ≤ t) (h2 : t < ns F s + F s) : sgA F n t = s := by
  have hm := ns_m1 F hs
  have q := sgA_spec (F := F) (n := n) (u := t) (by omega)
  rcases Nat.lt_trichotomy (sgA F n t) s with z | z | z
  · have := ns_m F (show sgA F n t + 1 ≤ s from z)
    rw [ns] at this
    omega
  · exact z
  · have := ns_m F (show s + 1 ≤ sgA F n t from z)
    rw [ns] at this
    omega
/-- the step at which a PLACE is given -/
def stp (p : Nat) : Nat := p * 363 % 512
theorem stp_at : ∀ j, j < 512 → stp (323 * j % 512) = j := by decide +kernel
theorem at_stp : ∀ p, p < 512 → 323 * stp p % 512 = p := by decide +kernel
/-- the sign that has a PLACE -/
def plc (F : Nat → Nat) (n p : Nat) : Nat := sgA F n (stp p)
/-- of the PLACES ahead of q those of sign x -/
def cn (P : Nat → Nat) (x : Nat) : Nat → Nat
  | 0 => 0
  | q + 1 => if P q = x then cn P x q + 1 else cn P x q
theorem cn_le (P : Nat → Nat) (x : Nat) : ∀ q, cn P x q ≤ q
  | 0 => Nat.le_refl _
  | q + 1 => by
    have := cn_le P x q
    rw [cn]
    split <;> omega
/-- which of its sign's PLACES a PLACE is -/
def num (F : Nat → Nat) (n p : Nat) : Nat := cn (plc F n) (plc F n p) p
def layd (so no : Nat → Int32) (F : Nat → Nat) (n : Nat) : Prop := (∀ p, p < 512 → so p = nI (plc F n p)) ∧ ∀ p, p < 512 → no p = nI (num F n p)
def layt (so : Nat → Int32) (F : Nat → Nat) (n t : Nat) : Prop := ∀ j, j < t → so (323 * j % 512) = nI (sgA F n j)
theorem layt_st {so : Nat → Int32} {F : Nat → Nat} {n t i : Nat} {x : Int32} (h : layt so F n t) (ht : t < 512) (hi : i = 323 * t % 512) (hx : x = nI (sgA F n t)) : layt (upd so i x) F n (t + 1) := by
  intro j hj
  by_cases e : j = t
  · subst e; rw [← hi, pk_us, hx]
  · rw [pk_un (fun z => e ?_)]
    · exact h j (by omega)
    · have a := stp_at j (by omega)
      have b := stp_at t ht
      rw [z, hi, b] at a
      exact a.symm
theorem layt_e {so : Nat → Int32} {F : Nat → Nat} {n : Nat} (h : layt so F n 512) : ∀ p, p < 512 → so p = nI (plc F n p) := by
  intro p hp
  have := h (stp p) (Nat.mod_lt _ (by decide))
  rw [at_stp p hp] at this
  exact this
theorem no_st {no : Nat → Int32} {F : Nat → Nat} {n pp i : Nat} {x : Int32} (h : ∀ z, z < pp → no z = nI (num F n z)) (hi : i = pp) (hx : x = nI (num F n pp)) : ∀ z, z < pp + 1 → upd no i x z = nI (num F n z) := by
  intro z hz
  subst hi
  by_cases e : z = i
  · subst e; rw [pk_us, hx]
  · rw [pk_un e]; exact h z (by omega)
theorem plc_lt {F : Nat → Nat} {n p : Nat} (h : ns F n = 512) : plc F n p < n := (sgA_spec (F := F) (n := n) (u := stp p) (by rw [h]; exact Nat.mod_lt _ (by decide))).1
set_option maxHeartbeats 1000000 in
set_option maxRecDepth 100000 in
/-- lay -/
theorem c_M_lay (l : Launch) (dC : Nat → ClassId) (dI : Nat → Nat → Nat) (cI cM cO : ClassId) (sz : Nat) (o : Nat) (g : Nat → Nat) (fForm : Int32) (fShift : Int32) (fModels : Int32) (fItems : Int32) (fEnded : Int32) (fLow : Int64) (fRange : Int64) (fCache : Int32) (fPend : Int32) (fGoes : Int32) (fOuts : Int32) (fIns : Int32) (fReads : Int32) (fBad : Int32) (fIR : Int32) (fAsk : Int32) (fBAsk : Int32) (fCode : Int64) (fRL : Int64) (fRR : Int64) (fX : Int64) (fWrites : Int32) (fThrown : Int32) (vMany : Nat → Int32) (vSO : Nat → Int32) (vNO : Nat → Int32) (a : Nat) (f : Nat → Int32) (mm : Nat) (n : Nat) (F : Nat → Nat) (hmm : mm < 8) (hn : vMany mm = nI n) (hn2 : n ≤ 64) (hf : sgI f (64 * mm) n F) (hsum : ns F n = 512) : MetV l y_M_lay (Cond.code y_M_lay prog_14_method_33_code 7 none :: gw) ({ frames := 0, cells := 0, slots := 0, locals := 0 } : Room) (dC, dI) vwCl (kT cI cM cO) [Value.ref o, Value.ref a, Value.int (nI mm)] [(o, Sum.inr (9, mO g fForm fShift fModels fItems fEnded fLow fRange fCache fPend fGoes fOuts fIns fReads fBad fIR fAsk fBAsk fCode fRL fRR fX fWrites fThrown)), ((g 0), Sum.inl (cI, 8, Sum.inl vMany)), (a, Sum.inl (cI, 512, Sum.inl f)), ((g 9), Sum.inl (cI, 512, Sum.inl vSO)), ((g 10), Sum.inl (cI, 512, Sum.inl vNO))] sz (fun (u : (Nat → Int32) × (Nat → Int32)) => layd u.1 u.2 F n) (fun (u : (Nat → Int32) × (Nat → Int32)) => [(o, Sum.inr (9, mO g fForm fShift fModels fItems fEnded fLow fRange fCache fPend fGoes fOuts fIns fReads fBad fIR fAsk fBAsk fCode fRL fRR fX fWrites fThrown)), ((g 0), Sum.inl (cI, 8, Sum.inl vMany)), (a, Sum.inl (cI, 512, Sum.inl f)), ((g 9), Sum.inl (cI, 512, Sum.inl u.1)), ((g 10), Sum.inl (cI, 512, Sum.inl u.2))]) 0 0 := by
  refine my_ofV (cc := prog_14_method_33_code) (n := 7) (ret := none) (by decide) rfl (Nat.le_of_ble_eq_true rfl) ?_
  intro p e s m args below meth c R Q A ls H locs hx hb hr hts hown hlocks hml hnm hR hQ hA hl hP hK hN hD hS
  have hg : ∀ w ∈ gw, w.before args s = true := fun w h => hts w (List.mem_cons_of_mem _ h)
  have hown : s.vm.findClass "RangeCodersModel" = some m.cls := hown
  have hl : lv_has ls 7 [(0, Value.ref o), (1, Value.ref a), (2, Value.int (nI mm))] := hl
  refine lv_iconst (v := 0) hx hb d_M_lay_0 (by decide) ?_
  refine lv_istore_n (lv' := [(3, Value.int 0), (0, Value.ref o), (1, Value.ref a), (2, Value.int (nI mm))]) hx hb d_M_lay_1 rfl hl (by decide) rfl (fun ls hl => ?_)
  refine lv_iconst (v := 0) hx hb d_M_lay_2 (by decide) ?_
  refine lv_istore (lv' := [(4, Value.int 0), (3, Value.int 0), (0, Value.ref o), (1, Value.ref a), (2, Value.int (nI mm))]) hx hb d_M_lay_3 hl (by decide) rfl (fun ls hl => ?_)
  have J_5 : ∀ (n9_5 : Nat) (p9 : Int32) (i9 : Int32) (j : Nat) (soK : Nat → Int32) (hn9_5 : n - j = n9_5) (hp : p9 = nI (323 * ns F j % 512)) (hi : i9 = nI j) (hj : j ≤ n) (hlt : layt soK F n (ns F j)) (H : Heap) (locs : List Loc) (ls : Array Slot), va_P (dC, dI) vwCl [(o, Sum.inr (9, mO g fForm fShift fModels fItems fEnded fLow fRange fCache fPend fGoes fOuts fIns fReads fBad fIR fAsk fBAsk fCode fRL fRR fX fWrites fThrown)), ((g 0), Sum.inl (cI, 8, Sum.inl vMany)), (a, Sum.inl (cI, 512, Sum.inl f)), ((g 9), Sum.inl (cI, 512, Sum.inl soK)), ((g 10), Sum.inl (cI, 512, Sum.inl vNO))] H → va_D A [(o, Sum.inr (9, mO g fForm fShift fModels fItems fEnded fLow fRange fCache fPend fGoes fOuts fIns fReads fBad fIR fAsk fBAsk fCode fRL fRR fX fWrites fThrown)), ((g 0), Sum.inl (cI, 8, Sum.inl vMany)), (a, Sum.inl (cI, 512, Sum.inl f)), ((g 9), Sum.inl (cI, 512, Sum.inl soK)), ((g 10), Sum.inl (cI, 512, Sum.inl vNO))] → va_S A s.heap H locs → lv_has ls 7 [(4, Value.int i9), (3, Value.int p9), (0, Value.ref o), (1, Value.ref a), (2, Value.int (nI mm))] → W p l e R s m args below meth c H locs 0 0 Q (F0 m 5 ls []) := by
    intro n9_5
    induction n9_5 using Nat.strongRecOn with
    | ind n9_5 ih9_5 =>
      intro p9 i9 j soK hn9_5 hp hi hj hlt H locs ls hP hD hS hl
      refine lv_iload hx hb d_M_lay_5 (lv_at hl 0 rfl) ?_
      refine lv_aload_n hx hb d_M_lay_7 rfl (lv_at hl 2 rfl) ?_
      refine va_get (D := (dC, dI)) (ci := 9) (v := .ref (g 0)) (C := "RangeCodersModel") (T := T_M) (N := 35) hx hb hg in_M hown hK hP 0 rfl rfl 3 (by decide) (hg _ k955) (fun _ h9 => h9) rfl d_M_lay_8 ?_
      refine lv_iload_n hx hb d_M_lay_11 rfl (lv_at hl 4 rfl) ?_
      refine va_iald hx hb hK hP 1 0 rfl rfl (vp_in_nI hmm (by decide)) d_M_lay_12 ?_
      refine lv_topi (fun v_1 ev_1 => ?_)
      have hv9 : v_1 = nI n := by subst_vars; rw [nI_clamp (by omega)]; exact hn
      refine lv_icmp_ge (tgt := 63) hx hb d_M_lay_13 (by decide) (fun c_2 => ?_) (fun c_2 => ?_)
      · have hj3 : j = n := by
          rcases Nat.lt_or_ge j n with q | q
          · exact absurd c_2 (by rw [hv9, hi]; exact nI_ge q (by omega))
          · omega
        rw [hj3, hsum] at hlt
        have hso := layt_e hlt
        refine lv_iconst (v := 0) hx hb d_M_lay_63 (by decide) ?_
        refine lv_istore (lv' := [(4, Value.int 0), (3, Value.int p9), (0, Value.ref o), (1, Value.ref a), (2, Value.int (nI mm))]) hx hb d_M_lay_64 hl (by decide) rfl (fun ls hl => ?_)
        have J_66 : ∀ (n9_66 : Nat) (i9 : Int32) (pp : Nat) (noK : Nat → Int32) (hn9_66 : 512 - pp = n9_66) (hi : i9 = nI pp) (hpp : pp ≤ 512) (hno : ∀ z, z < pp → noK z = nI (num F n z)) (H : Heap) (locs : List Loc) (ls : Array Slot), va_P (dC, dI) vwCl [(o, Sum.inr (9, mO g fForm fShift fModels fItems fEnded fLow fRange fCache fPend fGoes fOuts fIns fReads fBad fIR fAsk fBAsk fCode fRL fRR fX fWrites fThrown)), ((g 0), Sum.inl (cI, 8, Sum.inl vMany)), (a, Sum.inl (cI, 512, Sum.inl f)), ((g 9), Sum.inl (cI, 512, Sum.inl soK)), ((g 10), Sum.inl (cI, 512, Sum.inl noK))] H → va_D A [(o, Sum.inr (9, mO g fForm fShift fModels fItems fEnded fLow fRange fCache fPend fGoes fOuts fIns fReads fBad fIR fAsk fBAsk fCode fRL fRR fX fWrites fThrown)), ((g 0), Sum.inl (cI, 8, Sum.inl vMany)), (a, Sum.inl (cI, 512, Sum.inl f)), ((g 9), Sum.inl (cI, 512, Sum.inl soK)), ((g 10), Sum.inl (cI, 512, Sum.inl noK))] → va_S A s.heap H locs → lv_has ls 7 [(4, Value.int i9), (0, Value.ref o), (1, Value.ref a), (2, Value.int (nI mm))] → W p l e R s m args below meth c H locs 0 0 Q (F0 m 66 ls []) := by
          intro n9_66
          induction n9_66 using Nat.strongRecOn with
          | ind n9_66 ih9_66 =>
            intro i9 pp noK hn9_66 hi hpp hno H locs ls hP hD hS hl
            refine lv_iload hx hb d_M_lay_66 (lv_at hl 0 rfl) ?_
            refine lv_sipush (v := 512) hx hb d_M_lay_68 (by decide) ?_
            refine lv_icmp_ge (tgt := 136) hx hb d_M_lay_71 (by decide) (fun c_3 => ?_) (fun c_3 => ?_)
            · have hp6 : pp = 512 := by rw [hi] at c_3; have := (nI_cmp (a := 512) (by decide) (by omega)).mp c_3; omega
              exact my_vret hx hb hr hlocks hQ hK hS (Nat.le_refl _) (Nat.le_refl _) (soK, noK) (⟨hso, by rw [← hp6]; exact hno⟩) (hP.sub [0, 1, 2, 3, 4] rfl) (hD.sub [0, 1, 2, 3, 4] (by decide +kernel) rfl) d_M_lay_136
            · have hp5 : pp < 512 := by
                rcases Nat.lt_or_ge pp 512 with z | z
                · exact z
                · exact absurd (by rw [hi]; exact nI_le (a := 512) z (by omega)) c_3
              have hpl := plc_lt (p := pp) hsum
              refine lv_iconst (v := 0) hx hb d_M_lay_74 (by decide) ?_
              refine lv_istore (lv' := [(5, Value.int 0), (4, Value.int i9), (0, Value.ref o), (1, Value.ref a), (2, Value.int (nI mm))]) hx hb d_M_lay_75 hl (by decide) rfl (fun ls hl => ?_)
              refine lv_iconst (v := 0) hx hb d_M_lay_77 (by decide) ?_
              refine lv_istore (lv' := [(6, Value.int 0), (5, Value.int 0), (4, Value.int i9), (0, Value.ref o), (1, Value.ref a), (2, Value.int (nI mm))]) hx hb d_M_lay_78 hl (by decide) rfl (fun ls hl => ?_)
              have J_80 : ∀ (n9_80 : Nat) (n9v : Int32) (q9 : Int32) (qq : Nat) (hn9_80 : pp - qq = n9_80) (hc9 : n9v = nI (cn (plc F n) (plc F n pp) qq)) (hq : q9 = nI qq) (hq1 : qq ≤ pp) (H : Heap) (locs : List Loc) (ls : Array Slot), va_P (dC, dI) vwCl [(o, Sum.inr (9, mO g fForm fShift fModels fItems fEnded fLow fRange fCache fPend fGoes fOuts fIns fReads fBad fIR fAsk fBAsk fCode fRL fRR fX fWrites fThrown)), ((g 0), Sum.inl (cI, 8, Sum.inl vMany)), (a, Sum.inl (cI, 512, Sum.inl f)), ((g 9), Sum.inl (cI, 512, Sum.inl soK)), ((g 10), Sum.inl (cI, 512, Sum.inl noK))] H → va_D A [(o, Sum.inr (9, mO g fForm fShift fModels fItems fEnded fLow fRange fCache fPend fGoes fOuts fIns fReads fBad fIR fAsk fBAsk fCode fRL fRR fX fWrites fThrown)), ((g 0), Sum.inl (cI, 8, Sum.inl vMany)), (a, Sum.inl (cI, 512, Sum.inl f)), ((g 9), Sum.inl (cI, 512, Sum.inl soK)), ((g 10), Sum.inl (cI, 512, Sum.inl noK))] → va_S A s.heap H locs → lv_has ls 7 [(6, Value.int q9), (5, Value.int n9v), (4, Value.int i9), (0, Value.ref o), (1, Value.ref a), (2, Value.int (nI mm))] → W p l e R s m args below meth c H locs 0 0 Q (F0 m 80 ls []) := by
                intro n9_80
                induction n9_80 using Nat.strongRecOn with
                | ind n9_80 ih9_80 =>
                  intro n9v q9 qq hn9_80 hc9 hq hq1 H locs ls hP hD hS hl
                  refine lv_iload hx hb d_M_lay_80 (lv_at hl 0 rfl) ?_
                  refine lv_iload hx hb d_M_lay_82 (lv_at hl 2 rfl) ?_
                  refine lv_icmp_ge (tgt := 121) hx hb d_M_lay_84 (by decide) (fun c_4 => ?_) (fun c_4 => ?_)
                  · have hq3 : qq = pp := by rw [hi, hq] at c_4; have := (nI_cmp (by omega) (by omega)).mp c_4; omega
                    refine lv_aload_n hx hb d_M_lay_121 rfl (lv_at hl 3 rfl) ?_
                    refine va_get (D := (dC, dI)) (ci := 9) (v := .ref (g 10)) (C := "RangeCodersModel") (T := T_M) (N := 35) hx hb hg in_M hown hK hP 0 rfl rfl 31 (by decide) (hg _ k983) (fun _ h9 => h9) rfl d_M_lay_122 ?_
                    refine lv_iload hx hb d_M_lay_125 (lv_at hl 2 rfl) ?_
                    refine lv_iload hx hb d_M_lay_127 (lv_at hl 1 rfl) ?_
                    refine va_iast hx hb hK hP hD hS 4 0 rfl rfl (by rw [hi]; exact vp_in_nI hp5 (by decide)) d_M_lay_129 (fun H locs hP hD hS => ?_)
                    have hPD : my_PD (dC, dI) vwCl A [(o, Sum.inr (9, mO g fForm fShift fModels fItems fEnded fLow fRange fCache fPend fGoes fOuts fIns fReads fBad fIR fAsk fBAsk fCode fRL fRR fX fWrites fThrown)), ((g 0), Sum.inl (cI, 8, Sum.inl vMany)), (a, Sum.inl (cI, 512, Sum.inl f)), ((g 9), Sum.inl (cI, 512, Sum.inl soK)), ((g 10), Sum.inl (cI, 512, Sum.inl (upd noK i9.toNatClampNeg n9v)))] H := ⟨hP, hD⟩
                    have hP := hPD.1
                    have hD := hPD.2
                    obtain ⟨v_5, ev_5⟩ : ∃ y : Int32, y = i9 + (1) := ⟨_, rfl⟩
                    refine lv_iinc (v := v_5) (lv' := [(4, Value.int v_5), (6, Value.int q9), (5, Value.int n9v), (0, Value.ref o), (1, Value.ref a), (2, Value.int (nI mm))]) hx hb d_M_lay_130 hl (k := 2) rfl (by rw [ev_5]; rfl) (by decide) rfl (fun ls hl => ?_)
                    refine lv_goto (tgt := 66) hx hb d_M_lay_133 (by decide) ?_
                    exact ih9_66 _ (by first | omega | (omega)) v_5 (pp + 1) (upd noK i9.toNatClampNeg n9v) rfl (by subst_vars; exact nI_1 _) (by omega) (no_st hno (by rw [hi]; exact nI_clamp (by omega)) (by rw [hc9, hq3]; rfl)) H locs ls (hP.sub [0, 1, 2, 3, 4] rfl) (hD.sub [0, 1, 2, 3, 4] (by decide +kernel) rfl) hS (lv_sub hl [0, 3, 4, 5] rfl)
                  · have hq2 : qq < pp := by
                      rcases Nat.lt_or_ge qq pp with z | z
                      · exact z
                      · exact absurd (by rw [hi, hq]; exact nI_le z (by omega)) c_4
                    have hpq := plc_lt (p := qq) hsum
                    refine lv_aload_n hx hb d_M_lay_87 rfl (lv_at hl 3 rfl) ?_
                    refine va_get (D := (dC, dI)) (ci := 9) (v := .ref (g 9)) (C := "RangeCodersModel") (T := T_M) (N := 35) hx hb hg in_M hown hK hP 0 rfl rfl 30 (by decide) (hg _ k982) (fun _ h9 => h9) rfl d_M_lay_88 ?_
                    refine lv_iload hx hb d_M_lay_91 (lv_at hl 0 rfl) ?_
                    refine va_iald hx hb hK hP 3 0 rfl rfl (by rw [hq]; exact vp_in_nI (by omega) (by decide)) d_M_lay_93 ?_
                    refine lv_topi (fun v_6 ev_6 => ?_)
                    have z9 : v_6 = nI (plc F n qq) := by subst_vars; rw [nI_clamp (by omega)]; exact hso _ (by omega)
                    subst z9
                    refine lv_aload_n hx hb d_M_lay_94 rfl (lv_at hl 3 rfl) ?_
                    refine va_get (D := (dC, dI)) (ci := 9) (v := .ref (g 9)) (C := "RangeCodersModel") (T := T_M) (N := 35) hx hb hg in_M hown hK hP 0 rfl rfl 30 (by decide) (hg _ k982) (fun _ h9 => h9) rfl d_M_lay_95 ?_
                    refine lv_iload hx hb d_M_lay_98 (lv_at hl 2 rfl) ?_
                    refine va_iald hx hb hK hP 3 0 rfl rfl (by rw [hi]; exact vp_in_nI hp5 (by decide)) d_M_lay_100 ?_
                    refine lv_topi (fun v_7 ev_7 => ?_)
                    have z9 : v_7 = nI (plc F n pp) := by subst_vars; rw [nI_clamp (by omega)]; exact hso _ (by omega)
                    subst z9
                    refine lv_icmp_ne (tgt := 111) hx hb d_M_lay_101 (by decide) (fun c_8 => ?_) (fun c_8 => ?_)
                    · refine lv_iload hx hb d_M_lay_111 (lv_at hl 1 rfl) ?_
                      have hcn : n9v = nI (cn (plc F n) (plc F n pp) (qq + 1)) := by
                        rw [cn, if_neg (fun z => c_8 (by rw [z]))]
                        exact hc9
                      refine lv_istore (lv' := [(5, Value.int n9v), (6, Value.int q9), (4, Value.int i9), (0, Value.ref o), (1, Value.ref a), (2, Value.int (nI mm))]) hx hb d_M_lay_113 hl (by decide) rfl (fun ls hl => ?_)
                      obtain ⟨v_9, ev_9⟩ : ∃ y : Int32, y = q9 + (1) := ⟨_, rfl⟩
                      refine lv_iinc (v := v_9) (lv' := [(6, Value.int v_9), (5, Value.int n9v), (4, Value.int i9), (0, Value.ref o), (1, Value.ref a), (2, Value.int (nI mm))]) hx hb d_M_lay_115 hl (k := 1) rfl (by rw [ev_9]; rfl) (by decide) rfl (fun ls hl => ?_)
                      refine lv_goto (tgt := 80) hx hb d_M_lay_118 (by decide) ?_
                      exact ih9_80 _ (by first | omega | (omega)) n9v v_9 (qq + 1) rfl (hcn) (by subst_vars; exact nI_1 qq) (by omega) H locs ls (hP.sub [0, 1, 2, 3, 4] rfl) (hD.sub [0, 1, 2, 3, 4] (by decide +kernel) rfl) hS (lv_sub hl [0, 1, 2, 3, 4, 5] rfl)
                    · refine lv_iload hx hb d_M_lay_104 (lv_at hl 1 rfl) ?_
                      refine lv_iconst (v := 1) hx hb d_M_lay_106 (by decide) ?_
                      refine lv_iadd hx hb d_M_lay_107 ?_
                      refine lv_topi (fun v_10 ev_10 => ?_)
                      refine lv_goto (tgt := 113) hx hb d_M_lay_108 (by decide) ?_
                      have hcn : v_10 = nI (cn (plc F n) (plc F n pp) (qq + 1)) := by
                        rw [cn, if_pos ((nI_eq (by omega) (by omega)).mp c_8)]
                        subst_vars
                        exact nI_1 _
                      refine lv_istore (lv' := [(5, Value.int v_10), (6, Value.int q9), (4, Value.int i9), (0, Value.ref o), (1, Value.ref a), (2, Value.int (nI mm))]) hx hb d_M_lay_113 hl (by decide) rfl (fun ls hl => ?_)
                      obtain ⟨v_11, ev_11⟩ : ∃ y : Int32, y = q9 + (1) := ⟨_, rfl⟩
                      refine lv_iinc (v := v_11) (lv' := [(6, Value.int v_11), (5, Value.int v_10), (4, Value.int i9), (0, Value.ref o), (1, Value.ref a), (2, Value.int (nI mm))]) hx hb d_M_lay_115 hl (k := 1) rfl (by rw [ev_11]; rfl) (by decide) rfl (fun ls hl => ?_)
                      refine lv_goto (tgt := 80) hx hb d_M_lay_118 (by decide) ?_
                      exact ih9_80 _ (by first | omega | (omega)) v_10 v_11 (qq + 1) rfl (hcn) (by subst_vars; exact nI_1 qq) (by omega) H locs ls (hP.sub [0, 1, 2, 3, 4] rfl) (hD.sub [0, 1, 2, 3, 4] (by decide +kernel) rfl) hS (lv_sub hl [0, 1, 2, 3, 4, 5] rfl)
              exact J_80 _ 0 0 0 rfl (rfl) (rfl) (Nat.zero_le _) H locs ls (hP.sub [0, 1, 2, 3, 4] rfl) (hD.sub [0, 1, 2, 3, 4] (by decide +kernel) rfl) hS (lv_sub hl [0, 1, 2, 3, 4, 5] rfl)
        exact J_66 _ 0 0 vNO rfl (rfl) (Nat.zero_le _) (fun _ z => absurd z (Nat.not_lt_zero _)) H locs ls (hP.sub [0, 1, 2, 3, 4] rfl) (hD.sub [0, 1, 2, 3, 4] (by decide +kernel) rfl) hS (lv_sub hl [0, 2, 3, 4] rfl)
      · have hj2 : j < n := by
          rcases Nat.lt_or_ge j n with q | q
          · exact q
          · exact absurd (by rw [hv9, hi]; exact nI_le q (by omega)) c_2
        refine lv_iconst (v := 0) hx hb d_M_lay_16 (by decide) ?_
        refine lv_istore (lv' := [(5, Value.int 0), (4, Value.int i9), (3, Value.int p9), (0, Value.ref o), (1, Value.ref a), (2, Value.int (nI mm))]) hx hb d_M_lay_17 hl (by decide) rfl (fun ls hl => ?_)
        have J_19 : ∀ (n9_19 : Nat) (p8 : Int32) (k9 : Int32) (k : Nat) (soJ : Nat → Int32) (hn9_19 : F j - k = n9_19) (hp2 : p8 = nI (323 * (ns F j + k) % 512)) (hk : k9 = nI k) (hk1 : k ≤ F j) (hl2 : layt soJ F n (ns F j + k)) (H : Heap) (locs : List Loc) (ls : Array Slot), va_P (dC, dI) vwCl [(o, Sum.inr (9, mO g fForm fShift fModels fItems fEnded fLow fRange fCache fPend fGoes fOuts fIns fReads fBad fIR fAsk fBAsk fCode fRL fRR fX fWrites fThrown)), ((g 0), Sum.inl (cI, 8, Sum.inl vMany)), (a, Sum.inl (cI, 512, Sum.inl f)), ((g 9), Sum.inl (cI, 512, Sum.inl soJ)), ((g 10), Sum.inl (cI, 512, Sum.inl vNO))] H → va_D A [(o, Sum.inr (9, mO g fForm fShift fModels fItems fEnded fLow fRange fCache fPend fGoes fOuts fIns fReads fBad fIR fAsk fBAsk fCode fRL fRR fX fWrites fThrown)), ((g 0), Sum.inl (cI, 8, Sum.inl vMany)), (a, Sum.inl (cI, 512, Sum.inl f)), ((g 9), Sum.inl (cI, 512, Sum.inl soJ)), ((g 10), Sum.inl (cI, 512, Sum.inl vNO))] → va_S A s.heap H locs → lv_has ls 7 [(5, Value.int k9), (3, Value.int p8), (4, Value.int i9), (0, Value.ref o), (1, Value.ref a), (2, Value.int (nI mm))] → W p l e R s m args below meth c H locs 0 0 Q (F0 m 19 ls []) := by
          intro n9_19
          induction n9_19 using Nat.strongRecOn with
          | ind n9_19 ih9_19 =>
            intro p8 k9 k soJ hn9_19 hp2 hk hk1 hl2 H locs ls hP hD hS hl
            refine lv_iload hx hb d_M_lay_19 (lv_at hl 0 rfl) ?_
            refine lv_aload_n hx hb d_M_lay_21 rfl (lv_at hl 4 rfl) ?_
            refine lv_bipush (v := 64) hx hb d_M_lay_22 (by decide) ?_
            refine lv_iload_n hx hb d_M_lay_24 rfl (lv_at hl 5 rfl) ?_
            refine lv_imul hx hb d_M_lay_25 ?_
            refine lv_topi (fun v_12 ev_12 => ?_)
            refine lv_iload hx hb d_M_lay_26 (lv_at hl 2 rfl) ?_
            refine lv_iadd hx hb d_M_lay_28 ?_
            refine lv_topi (fun v_13 ev_13 => ?_)
            have hix : v_13 = nI (64 * mm + j) := by subst_vars; exact ix64
            refine va_iald hx hb hK hP 2 0 rfl rfl (by rw [hix]; exact vp_in_nI (by omega) (by decide)) d_M_lay_29 ?_
            refine lv_topi (fun v_14 ev_14 => ?_)
            have hFv : v_14 = nI (F j) := by rw [ev_14, hix, nI_clamp (by omega)]; exact hf j hj2
            have hm1 := ns_m1 F hj2
            refine lv_icmp_ge (tgt := 57) hx hb d_M_lay_30 (by decide) (fun c_15 => ?_) (fun c_15 => ?_)
            · have hk3 : ns F j + k = ns F (j + 1) := by
                rw [hFv, hk] at c_15
                have := (nI_cmp (by omega) (by omega)).mp c_15
                rw [ns]; omega
              obtain ⟨v_16, ev_16⟩ : ∃ y : Int32, y = i9 + (1) := ⟨_, rfl⟩
              refine lv_iinc (v := v_16) (lv' := [(4, Value.int v_16), (5, Value.int k9), (3, Value.int p8), (0, Value.ref o), (1, Value.ref a), (2, Value.int (nI mm))]) hx hb d_M_lay_57 hl (k := 2) rfl (by rw [ev_16]; rfl) (by decide) rfl (fun ls hl => ?_)
              refine lv_goto (tgt := 5) hx hb d_M_lay_60 (by decide) ?_
              exact ih9_5 _ (by first | omega | (omega)) p8 v_16 (j + 1) soJ rfl (by rw [hp2, hk3]) (by subst_vars; exact nI_1 j) (by omega) (by rw [hk3] at hl2; exact hl2) H locs ls (hP.sub [0, 1, 2, 3, 4] rfl) (hD.sub [0, 1, 2, 3, 4] (by decide +kernel) rfl) hS (lv_sub hl [0, 2, 3, 4, 5] rfl)
            · have hk2 : k < F j := by
                rcases Nat.lt_or_ge k (F j) with z | z
                · exact z
                · exact absurd (by rw [hFv, hk]; exact nI_le z (by omega)) c_15
              have hm5 := Nat.mod_lt (323 * (ns F j + k)) (show 0 < 512 by decide)
              refine lv_aload_n hx hb d_M_lay_33 rfl (lv_at hl 3 rfl) ?_
              refine va_get (D := (dC, dI)) (ci := 9) (v := .ref (g 9)) (C := "RangeCodersModel") (T := T_M) (N := 35) hx hb hg in_M hown hK hP 0 rfl rfl 30 (by decide) (hg _ k982) (fun _ h9 => h9) rfl d_M_lay_34 ?_
              refine lv_iload_n hx hb d_M_lay_37 rfl (lv_at hl 1 rfl) ?_
              refine lv_iload hx hb d_M_lay_38 (lv_at hl 2 rfl) ?_
              refine va_iast hx hb hK hP hD hS 3 0 rfl rfl (by rw [hp2]; exact vp_in_nI hm5 (by decide)) d_M_lay_40 (fun H locs hP hD hS => ?_)
              have hPD : my_PD (dC, dI) vwCl A [(o, Sum.inr (9, mO g fForm fShift fModels fItems fEnded fLow fRange fCache fPend fGoes fOuts fIns fReads fBad fIR fAsk fBAsk fCode fRL fRR fX fWrites fThrown)), ((g 0), Sum.inl (cI, 8, Sum.inl vMany)), (a, Sum.inl (cI, 512, Sum.inl f)), ((g 9), Sum.inl (cI, 512, Sum.inl (upd soJ p8.toNatClampNeg i9))), ((g 10), Sum.inl (cI, 512, Sum.inl vNO))] H := ⟨hP, hD⟩
              have hP := hPD.1
              have hD := hPD.2
              refine lv_iload_n hx hb d_M_lay_41 rfl (lv_at hl 1 rfl) ?_
              refine lv_sipush (v := 323) hx hb d_M_lay_42 (by decide) ?_
              refine lv_iadd hx hb d_M_lay_45 ?_
              refine lv_topi (fun v_17 ev_17 => ?_)
              refine lv_sipush (v := 512) hx hb d_M_lay_46 (by decide) ?_
              refine lv_irem hx hb d_M_lay_49 (by decide) ?_
              refine lv_topi (fun v_18 ev_18 => ?_)
              have hpn : v_18 = nI (323 * (ns F j + (k + 1)) % 512) := by
                subst_vars
                rw [show nI (323 * (ns F j + k) % 512) + 323 = nI (323 * (ns F j + k) % 512 + 323) from nI_add _ 323]
                refine (pk_rem (d := 512) (by omega) (by decide) (by decide)).trans ?_
                congr 1
                omega
              refine lv_istore_n (lv' := [(3, Value.int v_18), (5, Value.int k9), (4, Value.int i9), (0, Value.ref o), (1, Value.ref a), (2, Value.int (nI mm))]) hx hb d_M_lay_50 rfl hl (by decide) rfl (fun ls hl => ?_)
              obtain ⟨v_19, ev_19⟩ : ∃ y : Int32, y = k9 + (1) := ⟨_, rfl⟩
              refine lv_iinc (v := v_19) (lv' := [(5, Value.int v_19), (3, Value.int v_18), (4, Value.int i9), (0, Value.ref o), (1, Value.ref a), (2, Value.int (nI mm))]) hx hb d_M_lay_51 hl (k := 1) rfl (by rw [ev_19]; rfl) (by decide) rfl (fun ls hl => ?_)
              refine lv_goto (tgt := 19) hx hb d_M_lay_54 (by decide) ?_
              exact ih9_19 _ (by first | omega | (omega)) v_18 v_19 (k + 1) (upd soJ p8.toNatClampNeg i9) rfl (hpn) (by subst_vars; exact nI_1 k) (by omega) (layt_st (t := ns F j + k) hl2 (by omega) (by rw [hp2]; exact nI_clamp (by omega)) (by rw [hi, sgA_eq (s := j) hj2 (Nat.le_add_right _ _) (by omega)])) H locs ls (hP.sub [0, 1, 2, 3, 4] rfl) (hD.sub [0, 1, 2, 3, 4] (by decide +kernel) rfl) hS (lv_sub hl [0, 1, 2, 3, 4, 5] rfl)
        exact J_19 _ p9 0 0 soK rfl (hp) (rfl) (Nat.zero_le _) (hlt) H locs ls (hP.sub [0, 1, 2, 3, 4] rfl) (hD.sub [0, 1, 2, 3, 4] (by decide +kernel) rfl) hS (lv_sub hl [0, 2, 1, 3, 4, 5] rfl)
  exact J_5 _ 0 0 0 vSO rfl (rfl) (rfl) (Nat.zero_le _) (fun _ z => absurd z (Nat.not_lt_zero _)) H locs ls (hP.sub [0, 1, 2, 3, 4] rfl) (hD.sub [0, 1, 2, 3, 4] (by decide +kernel) rfl) hS (lv_sub hl [0, 1, 2, 3, 4] rfl)
end
section
/-! FORM 4: a sign is read -/
def tbN (is : List Nat) : Nat → Nat × Nat → Nat × Nat
  | 0, r => r
  | k + 1, r => if r.1 < 512 then tbN is k (2 * r.1 + biA is r.2, r.2 + 1) else r
def tbS (is : List Nat) (r : Nat × Nat) : Nat × Nat := tbN is 10 r
theorem tbN_e {is : List Nat} {k : Nat} {r : Nat × Nat} (h : ¬ r.1 < 512) : tbN is k r = r := by
  cases k with
  | zero => rfl
  | succ k => rw [tbN, if_neg h]
theorem tbN_s {is : List Nat} {k : Nat} {r : Nat × Nat} (h0 : 0 < k) (h : r.1 < 512) : tbN is k r = tbN is (k - 1) (2 * r.1 + biA is r.2, r.2 + 1) := by
  cases k with
  | zero => omega
  | succ k => rw [tbN, if_pos h]; rfl
theorem tb_k {k x : Nat} (hk : 1 ≤ k) (hk2 : k ≤ 10) (h : 2 ^ (10 - k) ≤ x) (hx : x < 512) : 1 < k := by
  rcases Nat.lt_or_ge 1 k with z | z
  · exact z
  · have e : k = 1 := by omega
    subst e
    omega
theorem tb_s {k x b : Nat} (hk : 1 < k) (hk2 : k ≤ 10) (h : 2 ^ (10 - k) ≤ x) : 2 ^ (10 - (k - 1)) ≤ 2 * x + b := by
  have e : 2 ^ (10 - (k - 1)) = 2 * 2 ^ (10 - k) := by rw [show 10 - (k - 1) = (10 - k) + 1 by omega, Nat.pow_succ, Nat.mul_comm]
  omega
def gt4 (is : List Nat) (n : Nat) (F : Nat → Nat) (X t : Nat) : Option Nat × (Nat × Nat) := if ns F n = 0 then (none, (X, t)) else (some (plc F n (X - 512)), tbS is (F (plc F n (X - 512)) + num F n (X - 512), t))
set_option maxHeartbeats 1000000 in
set_option maxRecDepth 100000 in
/-- getTabled -/
theorem c_M_getTabled (l : Launch) (dC : Nat → ClassId) (dI : Nat → Nat → Nat) (cI cM cO : ClassId) (sz : Nat) (o : Nat) (g : Nat → Nat) (fForm : Int32) (fShift : Int32) (fModels : Int32) (fItems : Int32) (fEnded : Int32) (fLow : Int64) (fRange : Int64) (fCache : Int32) (fPend : Int32) (fGoes : Int32) (fOuts : Int32) (fReads : Int32) (fBad : Int32) (fIR : Int32) (fCode : Int64) (fRL : Int64) (fRR : Int64) (fWrites : Int32) (fThrown : Int32) (vMany : Nat → Int32) (vThen : Nat → Int32) (vIn : Nat → Int32) (vSO : Nat → Int32) (vNO : Nat → Int32) (mm : Nat) (n : Nat) (F : Nat → Nat) (X : Nat) (t : Nat) (is : List Nat) (hmm : mm < 8) (hn : vMany mm = nI n) (hn2 : n ≤ 64) (hIn : gIs vIn is) (hlen : is.length ≤ 6000) (hoct : oct is) (ht : t < 800000) (hf : sgI vThen (64 * mm) n F) (hsum : ns F n = 0 ∨ ns F n = 512) (hX0 : 512 ≤ X) (hX1 : X < 1024) (hFp : ns F n = 512 → 0 < F (plc F n (X - 512))) : MetI l y_M_getTabled (Cond.code y_M_getTabled prog_14_method_55_code 4 (some .int) :: gw) ({ frames := 1, cells := 0, slots := 0, locals := 26 } : Room) (dC, dI) vwCl (kT cI cM cO) [Value.ref o, Value.int (nI mm)] [(o, Sum.inr (9, mO g fForm fShift fModels fItems fEnded fLow fRange fCache fPend fGoes fOuts (nI is.length) fReads fBad fIR (nI ((t + 7) / 8)) (nI t) fCode fRL fRR (lN X) fWrites fThrown)), ((g 0), Sum.inl (cI, 8, Sum.inl vMany)), ((g 3), Sum.inl (cI, 512, Sum.inl vThen)), ((g 8), Sum.inl (cI, 6000, Sum.inl vIn)), ((g 9), Sum.inl (cI, 512, Sum.inl vSO)), ((g 10), Sum.inl (cI, 512, Sum.inl vNO))] sz (fun (r : Int32) (u : (Nat → Int32) × (Nat → Int32)) => r = oI (gt4 is n F X t).1) (fun (u : (Nat → Int32) × (Nat → Int32)) => [(o, Sum.inr (9, mO g fForm fShift fModels fItems fEnded fLow fRange fCache fPend fGoes fOuts (nI is.length) fReads fBad fIR (nI (((gt4 is n F X t).2.2 + 7) / 8)) (nI (gt4 is n F X t).2.2) fCode fRL fRR (lN (gt4 is n F X t).2.1) fWrites fThrown)), ((g 0), Sum.inl (cI, 8, Sum.inl vMany)), ((g 3), Sum.inl (cI, 512, Sum.inl vThen)), ((g 8), Sum.inl (cI, 6000, Sum.inl vIn)), ((g 9), Sum.inl (cI, 512, Sum.inl u.1)), ((g 10), Sum.inl (cI, 512, Sum.inl u.2))]) 0 0 := by
  refine my_ofI (cc := prog_14_method_55_code) (n := 4) (ret := (some .int)) (by decide) rfl (Nat.le_of_ble_eq_true rfl) ?_
  intro p e s m args below meth c R Q A ls H locs hx hb hr hts hown hlocks hml hnm hR hQ hA hl hP hK hN hD hS
  have hg : ∀ w ∈ gw, w.before args s = true := fun w h => hts w (List.mem_cons_of_mem _ h)
  have hown : s.vm.findClass "RangeCodersModel" = some m.cls := hown
  have hl : lv_has ls 4 [(0, Value.ref o), (1, Value.int (nI mm))] := hl
  refine lv_aload_n hx hb d_M_getTabled_0 rfl (lv_at hl 0 rfl) ?_
  refine lv_aload_n hx hb d_M_getTabled_1 rfl (lv_at hl 0 rfl) ?_
  refine va_get (D := (dC, dI)) (ci := 9) (v := .ref (g 3)) (C := "RangeCodersModel") (T := T_M) (N := 35) hx hb hg in_M hown hK hP 0 rfl rfl 6 (by decide) (hg _ k958) (fun _ h9 => h9) rfl d_M_getTabled_2 ?_
  refine lv_iload_n hx hb d_M_getTabled_5 rfl (lv_at hl 1 rfl) ?_
  refine my_ci (wr := [((g 8), Sum.inl (cI, 6000, Sum.inl vIn)), ((g 9), Sum.inl (cI, 512, Sum.inl vSO)), ((g 10), Sum.inl (cI, 512, Sum.inl vNO))]) (va_runV (As := [Value.ref (g 3), Value.int (nI mm)]) (rest := []) ⟨hx, hb, hml, hown, hts⟩ (c_M_sum l dC dI cI cM cO H.size o g fForm fShift fModels fItems fEnded fLow fRange fCache fPend fGoes fOuts (nI is.length) fReads fBad fIR (nI ((t + 7) / 8)) (nI t) fCode fRL fRR (lN X) fWrites fThrown vMany (g 3) vThen mm n F (by assumption) (by assumption) (by assumption) (hf)) (cwV 2 hts (my_gV k936 k938 ks21 k12 k939) rfl rfl rfl cu_M_sum_2 ⟨by rw [hR]; exact Nat.le_of_ble_eq_true rfl, by rw [hR]; exact Nat.le_of_ble_eq_true rfl⟩) (my_preV hK hN (hP.sub [0, 1, 2] rfl) (hD.sub [0, 1, 2] (by decide +kernel) rfl) 0 rfl rfl) rfl rfl hl.1 rfl (lv_room (Nat.le_of_ble_eq_true rfl)) d_M_getTabled_6 ⟨by rw [hR]; exact Nat.le_of_ble_eq_true rfl, by rw [hR]; exact Nat.le_of_ble_eq_true rfl⟩) hP hD hS hA [0, 1, 2] [3, 4, 5] rfl rfl (by decide +kernel) (by decide +kernel) (fun r_6 u9 H locs hw_6 hP hD hS => ?_)
  have hw_6 : r_6 = nI (ns F n) := hw_6
  have hPD : my_PD (dC, dI) vwCl A [((g 8), Sum.inl (cI, 6000, Sum.inl vIn)), ((g 9), Sum.inl (cI, 512, Sum.inl vSO)), ((g 10), Sum.inl (cI, 512, Sum.inl vNO)), (o, Sum.inr (9, mO g fForm fShift fModels fItems fEnded fLow fRange fCache fPend fGoes fOuts (nI is.length) fReads fBad fIR (nI ((t + 7) / 8)) (nI t) fCode fRL fRR (lN X) fWrites fThrown)), ((g 0), Sum.inl (cI, 8, Sum.inl vMany)), ((g 3), Sum.inl (cI, 512, Sum.inl vThen))] H := ⟨hP, hD⟩
  have hP := hPD.1
  have hD := hPD.2
  refine lv_if_ne (tgt := 14) hx hb d_M_getTabled_9 (by decide) (fun c_1 => ?_) (fun c_1 => ?_)
  · have hnz : ¬ ns F n = 0 := fun z => c_1 (by rw [hw_6, z]; rfl)
    have h51 : ns F n = 512 := by omega
    have hpl := plc_lt (p := X - 512) h51
    have hFl := ns_ge (F := F) hpl
    have hFq := hFp h51
    have hnm : num F n (X - 512) ≤ X - 512 := cn_le _ _ _
    have hxx0 : gt4 is n F X t = (some (plc F n (X - 512)), tbS is (F (plc F n (X - 512)) + num F n (X - 512), t)) := by unfold gt4; rw [if_neg hnz]
    refine lv_aload_n hx hb d_M_getTabled_14 rfl (lv_at hl 0 rfl) ?_
    refine lv_aload_n hx hb d_M_getTabled_15 rfl (lv_at hl 0 rfl) ?_
    refine va_get (D := (dC, dI)) (ci := 9) (v := .ref (g 3)) (C := "RangeCodersModel") (T := T_M) (N := 35) hx hb hg in_M hown hK hP 3 rfl rfl 6 (by decide) (hg _ k958) (fun _ h9 => h9) rfl d_M_getTabled_16 ?_
    refine lv_iload_n hx hb d_M_getTabled_19 rfl (lv_at hl 1 rfl) ?_
    refine my_cv (wr := [((g 8), Sum.inl (cI, 6000, Sum.inl vIn))]) (va_runV (As := [Value.ref (g 3), Value.int (nI mm)]) (rest := []) ⟨hx, hb, hml, hown, hts⟩ (c_M_lay l dC dI cI cM cO H.size o g fForm fShift fModels fItems fEnded fLow fRange fCache fPend fGoes fOuts (nI is.length) fReads fBad fIR (nI ((t + 7) / 8)) (nI t) fCode fRL fRR (lN X) fWrites fThrown vMany vSO vNO (g 3) vThen mm n F (by assumption) (by assumption) (by assumption) (hf) (h51)) (cwV 2 hts (my_gV k1165 k1167 ks43 k12 k1168) rfl rfl rfl cu_M_lay_2 ⟨by rw [hR]; exact Nat.le_of_ble_eq_true rfl, by rw [hR]; exact Nat.le_of_ble_eq_true rfl⟩) (my_preV hK hN (hP.sub [3, 4, 5, 1, 2] rfl) (hD.sub [3, 4, 5, 1, 2] (by decide +kernel) rfl) 0 rfl rfl) rfl rfl hl.1 rfl (lv_room (Nat.le_of_ble_eq_true rfl)) d_M_getTabled_20 ⟨by rw [hR]; exact Nat.le_of_ble_eq_true rfl, by rw [hR]; exact Nat.le_of_ble_eq_true rfl⟩) hP hD hS hA [3, 4, 5, 1, 2] [0] rfl rfl (by decide +kernel) (by decide +kernel) (fun u9 H locs hw_20 hP hD hS => ?_)
    obtain ⟨so2_20, no2_20⟩ := u9
    have hw_20 : layd so2_20 no2_20 F n := hw_20
    have hPD : my_PD (dC, dI) vwCl A [((g 8), Sum.inl (cI, 6000, Sum.inl vIn)), (o, Sum.inr (9, mO g fForm fShift fModels fItems fEnded fLow fRange fCache fPend fGoes fOuts (nI is.length) fReads fBad fIR (nI ((t + 7) / 8)) (nI t) fCode fRL fRR (lN X) fWrites fThrown)), ((g 0), Sum.inl (cI, 8, Sum.inl vMany)), ((g 3), Sum.inl (cI, 512, Sum.inl vThen)), ((g 9), Sum.inl (cI, 512, Sum.inl so2_20)), ((g 10), Sum.inl (cI, 512, Sum.inl no2_20))] H := ⟨hP, hD⟩
    have hP := hPD.1
    have hD := hPD.2
    refine lv_aload_n hx hb d_M_getTabled_23 rfl (lv_at hl 0 rfl) ?_
    refine va_get (D := (dC, dI)) (ci := 9) (v := .long (lN X)) (C := "RangeCodersModel") (T := T_M) (N := 35) hx hb hg in_M hown hK hP 1 rfl rfl 29 (by decide) (hg _ k981) (fun _ h9 => h9) rfl d_M_getTabled_24 ?_
    refine lv_l2i hx hb d_M_getTabled_27 rfl ?_
    refine lv_topi (fun v_2 ev_2 => ?_)
    refine lv_sipush (v := 512) hx hb d_M_getTabled_28 (by decide) ?_
    refine lv_isub hx hb d_M_getTabled_31 ?_
    refine lv_topi (fun v_3 ev_3 => ?_)
    have z9 : v_3 = nI (X - 512) := by subst_vars; rw [lN_i]; exact pk_sub (b := 512) hX0
    subst z9
    refine lv_istore_n (lv' := [(2, Value.int (nI (X - 512))), (0, Value.ref o), (1, Value.int (nI mm))]) hx hb d_M_getTabled_32 rfl hl (by decide) rfl (fun ls hl => ?_)
    refine lv_aload_n hx hb d_M_getTabled_33 rfl (lv_at hl 1 rfl) ?_
    refine va_get (D := (dC, dI)) (ci := 9) (v := .ref (g 9)) (C := "RangeCodersModel") (T := T_M) (N := 35) hx hb hg in_M hown hK hP 1 rfl rfl 30 (by decide) (hg _ k982) (fun _ h9 => h9) rfl d_M_getTabled_34 ?_
    refine lv_iload_n hx hb d_M_getTabled_37 rfl (lv_at hl 0 rfl) ?_
    refine va_iald hx hb hK hP 4 0 rfl rfl (vp_in_nI (by omega) (by decide)) d_M_getTabled_38 ?_
    refine lv_topi (fun v_4 ev_4 => ?_)
    have z9 : v_4 = nI (plc F n (X - 512)) := by subst_vars; rw [nI_clamp (by omega)]; exact hw_20.1 _ (by omega)
    subst z9
    refine lv_istore_n (lv' := [(3, Value.int (nI (plc F n (X - 512)))), (2, Value.int (nI (X - 512))), (0, Value.ref o), (1, Value.int (nI mm))]) hx hb d_M_getTabled_39 rfl hl (by decide) rfl (fun ls hl => ?_)
    refine lv_aload_n hx hb d_M_getTabled_40 rfl (lv_at hl 2 rfl) ?_
    refine lv_aload_n hx hb d_M_getTabled_41 rfl (lv_at hl 2 rfl) ?_
    refine va_get (D := (dC, dI)) (ci := 9) (v := .ref (g 3)) (C := "RangeCodersModel") (T := T_M) (N := 35) hx hb hg in_M hown hK hP 1 rfl rfl 6 (by decide) (hg _ k958) (fun _ h9 => h9) rfl d_M_getTabled_42 ?_
    refine lv_bipush (v := 64) hx hb d_M_getTabled_45 (by decide) ?_
    refine lv_iload_n hx hb d_M_getTabled_47 rfl (lv_at hl 3 rfl) ?_
    refine lv_imul hx hb d_M_getTabled_48 ?_
    refine lv_topi (fun v_5 ev_5 => ?_)
    refine lv_iload_n hx hb d_M_getTabled_49 rfl (lv_at hl 0 rfl) ?_
    refine lv_iadd hx hb d_M_getTabled_50 ?_
    refine lv_topi (fun v_6 ev_6 => ?_)
    have hix : v_6 = nI (64 * mm + plc F n (X - 512)) := by subst_vars; exact ix64
    refine va_iald hx hb hK hP 3 0 rfl rfl (by rw [hix]; exact vp_in_nI (by omega) (by decide)) d_M_getTabled_51 ?_
    refine lv_topi (fun v_7 ev_7 => ?_)
    have z9 : v_7 = nI (F (plc F n (X - 512))) := by subst_vars; rw [nI_clamp (by omega)]; exact hf _ hpl
    subst z9
    refine lv_aload_n hx hb d_M_getTabled_52 rfl (lv_at hl 2 rfl) ?_
    refine va_get (D := (dC, dI)) (ci := 9) (v := .ref (g 10)) (C := "RangeCodersModel") (T := T_M) (N := 35) hx hb hg in_M hown hK hP 1 rfl rfl 31 (by decide) (hg _ k983) (fun _ h9 => h9) rfl d_M_getTabled_53 ?_
    refine lv_iload_n hx hb d_M_getTabled_56 rfl (lv_at hl 1 rfl) ?_
    refine va_iald hx hb hK hP 5 0 rfl rfl (vp_in_nI (by omega) (by decide)) d_M_getTabled_57 ?_
    refine lv_topi (fun v_8 ev_8 => ?_)
    refine lv_iadd hx hb d_M_getTabled_58 ?_
    refine lv_topi (fun v_9 ev_9 => ?_)
    refine lv_i2l hx hb d_M_getTabled_59 rfl ?_
    refine lv_topl (fun v_10 ev_10 => ?_)
    have z9 : v_10 = lN (F (plc F n (X - 512)) + num F n (X - 512)) := by subst_vars; rw [nI_clamp (by omega), hw_20.2 _ (by omega), nI_add]; exact nI_l (by omega)
    subst z9
    refine va_put (D := (dC, dI)) (ci := 9) (v := .long (lN (F (plc F n (X - 512)) + num F n (X - 512)))) (ty := .long) (C := "RangeCodersModel") (T := T_M) (N := 35) hx hb hg in_M t_M o_M n_M hown hK hP hD hS 1 rfl rfl 29 (by decide) (hg _ k981) (fun _ h9 => h9) rfl (o_M 29 (by decide)) rfl rfl (Nat.le_of_ble_eq_true rfl) d_M_getTabled_60 (fun H locs hP hD hS => ?_)
    have hPD : my_PD (dC, dI) vwCl A [((g 8), Sum.inl (cI, 6000, Sum.inl vIn)), (o, Sum.inr (9, mO g fForm fShift fModels fItems fEnded fLow fRange fCache fPend fGoes fOuts (nI is.length) fReads fBad fIR (nI ((t + 7) / 8)) (nI t) fCode fRL fRR (lN (F (plc F n (X - 512)) + num F n (X - 512))) fWrites fThrown)), ((g 0), Sum.inl (cI, 8, Sum.inl vMany)), ((g 3), Sum.inl (cI, 512, Sum.inl vThen)), ((g 9), Sum.inl (cI, 512, Sum.inl so2_20)), ((g 10), Sum.inl (cI, 512, Sum.inl no2_20))] H := ⟨hP, hD⟩
    have hP := hPD.1
    have hD := hPD.2
    have J_63 : ∀ (n9_63 : Nat) (r9 : Nat × Nat) (k9 : Nat) (hn9_63 : k9 = n9_63) (hE9 : tbS is (F (plc F n (X - 512)) + num F n (X - 512), t) = tbN is k9 r9) (hk1 : 1 ≤ k9) (hk2 : k9 ≤ 10) (hx1 : 2 ^ (10 - k9) ≤ r9.1) (hx2 : r9.1 < 1024) (ht9 : r9.2 + k9 ≤ t + 10) (H : Heap) (locs : List Loc) (ls : Array Slot), va_P (dC, dI) vwCl [((g 8), Sum.inl (cI, 6000, Sum.inl vIn)), (o, Sum.inr (9, mO g fForm fShift fModels fItems fEnded fLow fRange fCache fPend fGoes fOuts (nI is.length) fReads fBad fIR (nI ((r9.2 + 7) / 8)) (nI r9.2) fCode fRL fRR (lN r9.1) fWrites fThrown)), ((g 0), Sum.inl (cI, 8, Sum.inl vMany)), ((g 3), Sum.inl (cI, 512, Sum.inl vThen)), ((g 9), Sum.inl (cI, 512, Sum.inl so2_20)), ((g 10), Sum.inl (cI, 512, Sum.inl no2_20))] H → va_D A [((g 8), Sum.inl (cI, 6000, Sum.inl vIn)), (o, Sum.inr (9, mO g fForm fShift fModels fItems fEnded fLow fRange fCache fPend fGoes fOuts (nI is.length) fReads fBad fIR (nI ((r9.2 + 7) / 8)) (nI r9.2) fCode fRL fRR (lN r9.1) fWrites fThrown)), ((g 0), Sum.inl (cI, 8, Sum.inl vMany)), ((g 3), Sum.inl (cI, 512, Sum.inl vThen)), ((g 9), Sum.inl (cI, 512, Sum.inl so2_20)), ((g 10), Sum.inl (cI, 512, Sum.inl no2_20))] → va_S A s.heap H locs → lv_has ls 4 [(3, Value.int (nI (plc F n (X - 512)))), (0, Value.ref o)] → W p l e R s m args below meth c H locs 0 0 Q (F0 m 63 ls []) := by
      intro n9_63
      induction n9_63 using Nat.strongRecOn with
      | ind n9_63 ih9_63 =>
        intro r9 k9 hn9_63 hE9 hk1 hk2 hx1 hx2 ht9 H locs ls hP hD hS hl
        refine lv_aload_n hx hb d_M_getTabled_63 rfl (lv_at hl 1 rfl) ?_
        refine va_get (D := (dC, dI)) (ci := 9) (v := .long (lN r9.1)) (C := "RangeCodersModel") (T := T_M) (N := 35) hx hb hg in_M hown hK hP 1 rfl rfl 29 (by decide) (hg _ k981) (fun _ h9 => h9) rfl d_M_getTabled_64 ?_
        refine lv_ldc2 (v := 512) hx hb hown (hg _ k1160) d_M_getTabled_67 ?_
        refine W.lcmp hx hb d_M_getTabled_70 ?_
        refine lv_if_ge (tgt := 95) hx hb d_M_getTabled_71 (by decide) (fun c_11 => ?_) (fun c_11 => ?_)
        · rw [lg_cmp_ge] at c_11
          have hge : ¬ r9.1 < 512 := by have z := (L_le (a := 512) (by decide) (by omega)).mp c_11; omega
          have hxx : gt4 is n F X t = (some (plc F n (X - 512)), r9) := by rw [hxx0, hE9, tbN_e hge]
          refine lv_iload_n hx hb d_M_getTabled_95 rfl (lv_at hl 0 rfl) ?_
          exact my_iret (v := (nI (plc F n (X - 512)))) hx hb hr (rfl) hlocks hQ hK hS (Nat.le_refl _) (Nat.le_refl _) (so2_20, no2_20) (by rw [hxx]; rfl) (by rw [hxx]; exact (hP.sub [1, 2, 3, 0, 4, 5] rfl)) (by rw [hxx]; exact (hD.sub [1, 2, 3, 0, 4, 5] (by decide +kernel) rfl)) d_M_getTabled_96
        · rw [lg_cmp_ge] at c_11
          have hlt : r9.1 < 512 := by
            rcases Nat.lt_or_ge r9.1 512 with z | z
            · exact z
            · exact absurd ((L_le (a := 512) (by decide) (by omega)).mpr z) c_11
          have hk3 := tb_k hk1 hk2 hx1 hlt
          have hbi := biA_lt is r9.2
          refine lv_aload_n hx hb d_M_getTabled_74 rfl (lv_at hl 1 rfl) ?_
          refine lv_ldc2 (v := 2) hx hb hown (hg _ k1169) d_M_getTabled_75 ?_
          refine lv_aload_n hx hb d_M_getTabled_78 rfl (lv_at hl 1 rfl) ?_
          refine va_get (D := (dC, dI)) (ci := 9) (v := .long (lN r9.1)) (C := "RangeCodersModel") (T := T_M) (N := 35) hx hb hg in_M hown hK hP 1 rfl rfl 29 (by decide) (hg _ k981) (fun _ h9 => h9) rfl d_M_getTabled_79 ?_
          refine lv_lmul hx hb d_M_getTabled_82 ?_
          refine lv_topl (fun v_12 ev_12 => ?_)
          refine lv_aload_n hx hb d_M_getTabled_83 rfl (lv_at hl 1 rfl) ?_
          refine my_ci (wr := [((g 0), Sum.inl (cI, 8, Sum.inl vMany)), ((g 3), Sum.inl (cI, 512, Sum.inl vThen)), ((g 9), Sum.inl (cI, 512, Sum.inl so2_20)), ((g 10), Sum.inl (cI, 512, Sum.inl no2_20))]) (va_runV (As := []) (rest := [Value.long v_12, Value.ref o]) ⟨hx, hb, hml, hown, hts⟩ (c_M_nextBit l dC dI cI cM cO H.size o g fForm fShift fModels fItems fEnded fLow fRange fCache fPend fGoes fOuts fReads fBad fIR fCode fRL fRR (lN r9.1) fWrites fThrown vIn is r9.2 (nI ((r9.2 + 7) / 8)) (hIn) (by assumption) (by assumption) (by omega)) (cwV 0 hts (my_gV k1198 k1200 ks46 k12 k1201) rfl rfl rfl cu_M_nextBit_0 ⟨by rw [hR]; exact Nat.le_of_ble_eq_true rfl, by rw [hR]; exact Nat.le_of_ble_eq_true rfl⟩) (my_preV hK hN (hP.sub [1, 0] rfl) (hD.sub [1, 0] (by decide +kernel) rfl) 0 rfl rfl) rfl rfl hl.1 rfl (lv_room (Nat.le_of_ble_eq_true rfl)) d_M_getTabled_84 ⟨by rw [hR]; exact Nat.le_of_ble_eq_true rfl, by rw [hR]; exact Nat.le_of_ble_eq_true rfl⟩) hP hD hS hA [1, 0] [2, 3, 4, 5] rfl rfl (by decide +kernel) (by decide +kernel) (fun r_84 u9 H locs hw_84 hP hD hS => ?_)
          have hw_84 : r_84 = nI (biA is r9.2) := hw_84
          have hPD : my_PD (dC, dI) vwCl A [((g 0), Sum.inl (cI, 8, Sum.inl vMany)), ((g 3), Sum.inl (cI, 512, Sum.inl vThen)), ((g 9), Sum.inl (cI, 512, Sum.inl so2_20)), ((g 10), Sum.inl (cI, 512, Sum.inl no2_20)), (o, Sum.inr (9, mO g fForm fShift fModels fItems fEnded fLow fRange fCache fPend fGoes fOuts (nI is.length) fReads fBad fIR (nI ((r9.2 + 8) / 8)) (nI (r9.2 + 1)) fCode fRL fRR (lN r9.1) fWrites fThrown)), ((g 8), Sum.inl (cI, 6000, Sum.inl vIn))] H := ⟨hP, hD⟩
          have hP := hPD.1
          have hD := hPD.2
          refine lv_i2l hx hb d_M_getTabled_87 rfl ?_
          refine lv_topl (fun v_13 ev_13 => ?_)
          refine lv_ladd hx hb d_M_getTabled_88 ?_
          refine lv_topl (fun v_14 ev_14 => ?_)
          have z9 : v_14 = lN (2 * r9.1 + biA is r9.2) := by subst_vars; rw [show (2 : Int64) * lN r9.1 = lN (2 * r9.1) from lN_mul 2 _, nI_l (by omega), lN_add]
          subst z9
          refine va_put (D := (dC, dI)) (ci := 9) (v := .long (lN (2 * r9.1 + biA is r9.2))) (ty := .long) (C := "RangeCodersModel") (T := T_M) (N := 35) hx hb hg in_M t_M o_M n_M hown hK hP hD hS 4 rfl rfl 29 (by decide) (hg _ k981) (fun _ h9 => h9) rfl (o_M 29 (by decide)) rfl rfl (Nat.le_of_ble_eq_true rfl) d_M_getTabled_89 (fun H locs hP hD hS => ?_)
          have hPD : my_PD (dC, dI) vwCl A [((g 0), Sum.inl (cI, 8, Sum.inl vMany)), ((g 3), Sum.inl (cI, 512, Sum.inl vThen)), ((g 9), Sum.inl (cI, 512, Sum.inl so2_20)), ((g 10), Sum.inl (cI, 512, Sum.inl no2_20)), (o, Sum.inr (9, mO g fForm fShift fModels fItems fEnded fLow fRange fCache fPend fGoes fOuts (nI is.length) fReads fBad fIR (nI ((r9.2 + 8) / 8)) (nI (r9.2 + 1)) fCode fRL fRR (lN (2 * r9.1 + biA is r9.2)) fWrites fThrown)), ((g 8), Sum.inl (cI, 6000, Sum.inl vIn))] H := ⟨hP, hD⟩
          have hP := hPD.1
          have hD := hPD.2
          refine lv_goto (tgt := 63) hx hb d_M_getTabled_92 (by decide) ?_
          exact ih9_63 _ (by first | omega | (omega)) (2 * r9.1 + biA is r9.2, r9.2 + 1) (k9 - 1) rfl (by rw [hE9, tbN_s (by omega) hlt]) (by omega) (by omega) (tb_s hk3 hk2 hx1) (by show 2 * r9.1 + biA is r9.2 < 1024; omega) (by show r9.2 + 1 + _ ≤ _; omega) H locs ls (hP.sub [5, 4, 0, 1, 2, 3] rfl) (hD.sub [5, 4, 0, 1, 2, 3] (by decide +kernel) rfl) hS (lv_sub hl [0, 1] rfl)
    exact J_63 _ (F (plc F n (X - 512)) + num F n (X - 512), t) 10 rfl (rfl) (by decide) (by decide) (by show 1 ≤ F (plc F n (X - 512)) + num F n (X - 512); omega) (by show F (plc F n (X - 512)) + num F n (X - 512) < 1024; omega) (by show t + 10 ≤ _; omega) H locs ls (hP.sub [0, 1, 2, 3, 4, 5] rfl) (hD.sub [0, 1, 2, 3, 4, 5] (by decide +kernel) rfl) hS (lv_sub hl [0, 2] rfl)
  · have hz : ns F n = 0 := (nI_eq (b := 0) (by omega) (by decide)).mp (by rw [← hw_6]; exact c_1)
    have hxx : gt4 is n F X t = (none, (X, t)) := by unfold gt4; rw [if_pos hz]
    refine lv_iconst (v := (-1)) hx hb d_M_getTabled_12 (by decide) ?_
    exact my_iret (v := (-1)) hx hb hr (rfl) hlocks hQ hK hS (Nat.le_refl _) (Nat.le_refl _) (vSO, vNO) (by rw [hxx]; rfl) (by rw [hxx]; exact (hP.sub [3, 4, 5, 0, 1, 2] rfl)) (by rw [hxx]; exact (hD.sub [3, 4, 5, 0, 1, 2] (by decide +kernel) rfl)) d_M_getTabled_13
end
section
/-! ITEMS that are kept, and FORM 3's end -/
abbrev It : Type := Nat × Nat × Nat
def itM (it : It) : Int32 := if it.1 = 0 then -nI it.2.1 else nI it.2.1
def itW (it : It) : Int32 := nI it.2.2
abbrev itA (its : List It) (i : Nat) : It := its.getD i (0, 0, 0)
def itIs (f g : Nat → Int32) (its : List It) : Prop := ∀ i, i < its.length → f i = itM (itA its i) ∧ g i = itW (itA its i)
def itF (M : Nat) (Fn : Nat → Nat → Nat) (it : It) : Nat := if it.1 = 0 then M / 2 ^ it.2.1 else Fn it.2.1 it.2.2
def itC (M : Nat) (Fn : Nat → Nat → Nat) (it : It) : Nat := if it.1 = 0 then M / 2 ^ it.2.1 * it.2.2 else ns (Fn it.2.1) it.2.2
/-- what holds of an item of form 3 -/
def it3 (vNow : Nat → Int32) (N : Nat → Nat) (Fn : Nat → Nat → Nat) (it : It) : Prop := (it.1 = 0 ∧ 1 ≤ it.2.1 ∧ it.2.1 ≤ 12 ∧ it.2.2 < 2 ^ it.2.1) ∨ (¬ it.1 = 0 ∧ it.2.1 < 8 ∧ N it.2.1 ≤ 64 ∧ it.2.2 < N it.2.1 ∧ 0 < Fn it.2.1 it.2.2 ∧ ns (Fn it.2.1) (N it.2.1) = 4096 ∧ sgI vNow (64 * it.2.1) (N it.2.1) (Fn it.2.1))
theorem it3_b {vNow : Nat → Int32} {N : Nat → Nat} {Fn : Nat → Nat → Nat} {it : It} (h : it3 vNow N Fn it) : 0 < itF 4096 Fn it ∧ itC 4096 Fn it + itF 4096 Fn it ≤ 4096 := by
  unfold itF itC
  rcases h with ⟨h0, h1, h2, h3⟩ | ⟨h0, h1, h2, h3, h4, h5, h6⟩
  · rw [if_pos h0, if_pos h0]
    have hp : 2 ^ it.2.1 ≤ 4096 := Nat.le_trans (Nat.pow_le_pow_right (n := 2) (by decide) h2) (by decide)
    have a : 0 < 4096 / 2 ^ it.2.1 := Nat.div_pos hp (Nat.pow_pos (by decide))
    refine ⟨a, ?_⟩
    have b : 4096 / 2 ^ it.2.1 * (it.2.2 + 1) ≤ 4096 / 2 ^ it.2.1 * 2 ^ it.2.1 := Nat.mul_le_mul_left _ h3
    have c := Nat.div_mul_le_self 4096 (2 ^ it.2.1)
    rw [Nat.mul_add, Nat.mul_one] at b
    omega
  · rw [if_neg h0, if_neg h0]
    have := ns_m1 (Fn it.2.1) h3
    omega
/-- bytes that are WRITTEN as X is too large for f -/
def s3N (f : Nat) : Nat → Nat × List Nat → Nat × List Nat
  | 0, r => r
  | k + 1, r => if f * 524288 ≤ r.1 then s3N f k (r.1 / 256, r.2 ++ [r.1 % 256]) else r
theorem s3N_e {f k : Nat} {r : Nat × List Nat} (h : ¬ f * 524288 ≤ r.1) : s3N f k r = r := by
  cases k with
  | zero => rfl
  | succ k => rw [s3N, if_neg h]
theorem s3N_s {f k : Nat} {r : Nat × List Nat} (h0 : 0 < k) (h : f * 524288 ≤ r.1) : s3N f k r = s3N f (k - 1) (r.1 / 256, r.2 ++ [r.1 % 256]) := by
  cases k with
  | zero => omega
  | succ k => rw [s3N, if_pos h]; rfl
def s3I (f c : Nat) (r : Nat × List Nat) : Nat × List Nat := ((s3N f 8 r).1 / f * 4096 + (s3N f 8 r).1 % f + c, (s3N f 8 r).2)
def e3N (Fn : Nat → Nat → Nat) (its : List It) : Nat → Nat × List Nat → Nat × List Nat
  | 0, r => r
  | k + 1, r => e3N Fn its k (s3I (itF 4096 Fn (itA its k)) (itC 4096 Fn (itA its k)) r)
def xb (k : Nat) : Nat := if k = 8 then 2147483648 else if k = 7 then 8388608 else 32768
def b4 (X : Nat) : Nat → List Nat
  | 0 => []
  | k + 1 => X % 256 :: b4 (X / 256) k
/-- what FORM 3 has WRITTEN at its end -/
def e3S (Fn : Nat → Nat → Nat) (its : List It) : List Nat := (e3N Fn its its.length (8388608, [])).2 ++ b4 (e3N Fn its its.length (8388608, [])).1 4
theorem s3_fin {f c X : Nat} (hf : 0 < f) (h1 : f * 2048 ≤ X) (h2 : X < f * 524288) (hc : c + f ≤ 4096) : 8388608 ≤ X / f * 4096 + X % f + c ∧ X / f * 4096 + X % f + c < 2147483648 := by
  have a : 2048 ≤ X / f := (Nat.le_div_iff_mul_le hf).mpr (by rw [Nat.mul_comm]; exact h1)
  have b : X / f < 524288 := (Nat.div_lt_iff_lt_mul hf).mpr (by rw [Nat.mul_comm]; exact h2)
  have d := Nat.mod_lt X hf
  omega
end
section
theorem itM_neg {vNow : Nat → Int32} {N : Nat → Nat} {Fn : Nat → Nat → Nat} {it : It} (h : it3 vNow N Fn it) : ¬ 0 ≤ itM it ↔ it.1 = 0 := by
  unfold itM
  rcases h with ⟨h0, h1, h2, h3⟩ | ⟨h0, h1, h2, h3, h4, h5, h6⟩
  · rw [if_pos h0]
    refine ⟨fun _ => h0, fun _ => ?_⟩
    have hb : it.2.1 = 1 ∨ it.2.1 = 2 ∨ it.2.1 = 3 ∨ it.2.1 = 4 ∨ it.2.1 = 5 ∨ it.2.1 = 6 ∨ it.2.1 = 7 ∨ it.2.1 = 8 ∨ it.2.1 = 9 ∨ it.2.1 = 10 ∨ it.2.1 = 11 ∨ it.2.1 = 12 := by omega
    rcases hb with e | e | e | e | e | e | e | e | e | e | e | e <;> rw [e] <;> decide
  · rw [if_neg h0]
    exact ⟨fun z => absurd (nI_pos' (by omega)) z, fun z => absurd z h0⟩
theorem itM_ng {it : It} (h : it.1 = 0) : -itM it = nI it.2.1 := by
  unfold itM
  rw [if_pos h]
  exact Int32.neg_neg
theorem xb_k {k x f : Nat} (h6 : 6 ≤ k) (hk : k ≤ 8) (hf : 0 < f) (h : x < xb k) (h2 : f * 524288 ≤ x) : 6 < k := by
  rcases Nat.lt_or_ge 6 k with z | z
  · exact z
  · have e : k = 6 := by omega
    subst e
    have : xb 6 = 32768 := by decide
    omega
theorem xb_s {k x : Nat} (h6 : 6 < k) (hk : k ≤ 8) (h : x < xb k) : x / 256 < xb (k - 1) := by
  have e : k = 7 ∨ k = 8 := by omega
  rcases e with e | e <;> subst e
  · have a : xb 7 = 8388608 := by decide
    have b : xb (7 - 1) = 32768 := by decide
    omega
  · have a : xb 8 = 2147483648 := by decide
    have b : xb (8 - 1) = 8388608 := by decide
    omega
theorem xb_le {k : Nat} : xb k ≤ 2147483648 := by unfold xb; repeat (first | omega | split)
theorem rv_st {W b9 B : List Nat} {k : Nat} (hk : 0 < k) (hk2 : k ≤ W.length) (h : b9 ++ ((W.take k).reverse.map (· % 256)) = B) : b9 ++ [W.getD (k - 1) 0 % 256] ++ ((W.take (k - 1)).reverse.map (· % 256)) = B := by
  rw [← h]
  obtain ⟨q, rfl⟩ : ∃ q, k = q + 1 := ⟨k - 1, by omega⟩
  have hq : q < W.length := by omega
  have e : W.take (q + 1) = W.take q ++ [W[q]'hq] := by rw [List.take_add_one, List.getElem?_eq_getElem hq]; rfl
  have e2 : W.getD q 0 = W[q]'hq := by rw [List.getD_eq_getElem?_getD, List.getElem?_eq_getElem hq]; rfl
  rw [Nat.add_sub_cancel, e, e2, List.reverse_append, List.map_append, List.append_assoc]
  rfl
theorem oct_nil : oct [] := fun i => by simp
theorem oct_add {xs : List Nat} {x : Nat} (h : oct xs) (hx : x < 256) : oct (xs ++ [x]) := by
  intro i
  unfold byA
  rcases Nat.lt_or_ge i xs.length with q | q
  · have := h i
    unfold byA at this
    rw [List.getD_eq_getElem?_getD, List.getElem?_append_left q, ← List.getD_eq_getElem?_getD]; exact this
  · rcases Nat.eq_or_lt_of_le q with e | e
    · rw [← e]; simp [List.getD_eq_getElem?_getD]; exact hx
    · rw [List.getD_eq_getElem?_getD, List.getElem?_eq_none (by rw [List.length_append, List.length_singleton]; omega)]; decide
set_option maxHeartbeats 20000000 in
set_option maxRecDepth 100000 in
/-- endStack -/
theorem c_M_endStack (l : Launch) (dC : Nat → ClassId) (dI : Nat → Nat → Nat) (cI cM cO : ClassId) (sz : Nat) (o : Nat) (g : Nat → Nat) (fForm : Int32) (fShift : Int32) (fModels : Int32) (fEnded : Int32) (fLow : Int64) (fRange : Int64) (fCache : Int32) (fPend : Int32) (fOuts : Int32) (fIns : Int32) (fReads : Int32) (fBad : Int32) (fIR : Int32) (fAsk : Int32) (fBAsk : Int32) (fCode : Int64) (fRL : Int64) (fRR : Int64) (fX : Int64) (fWrites : Int32) (fThrown : Int32) (vNow : Nat → Int32) (vIM : Nat → Int32) (vIW : Nat → Int32) (vGoing : Nat → Int32) (vWr : Nat → Int32) (its : List It) (bs : List Nat) (N : Nat → Nat) (Fn : Nat → Nat → Nat) (hit : itIs vIM vIW its) (hok : ∀ i, i < its.length → it3 vNow N Fn (itA its i)) (hlen : its.length ≤ 600) (hG : gIs vGoing bs) (hbs : bs.length ≤ 5000) : MetV l y_M_endStack (Cond.code y_M_endStack prog_14_method_32_code 10 none :: gw) ({ frames := 1, cells := 0, slots := 0, locals := 25 } : Room) (dC, dI) vwCl (kT cI cM cO) [Value.ref o] [(o, Sum.inr (9, mO g fForm fShift fModels (nI its.length) fEnded fLow fRange fCache fPend (nI bs.length) fOuts fIns fReads fBad fIR fAsk fBAsk fCode fRL fRR fX fWrites fThrown)), ((g 2), Sum.inl (cI, 512, Sum.inl vNow)), ((g 4), Sum.inl (cI, 600, Sum.inl vIM)), ((g 5), Sum.inl (cI, 600, Sum.inl vIW)), ((g 6), Sum.inl (cI, 9000, Sum.inl vGoing)), ((g 11), Sum.inl (cI, 20000, Sum.inl vWr))] sz (fun (u : (Nat → Int32) × (Nat → Int32)) => gIs u.1 (bs ++ (e3S Fn its).reverse.map (· % 256))) (fun (u : (Nat → Int32) × (Nat → Int32)) => [(o, Sum.inr (9, mO g fForm fShift fModels (nI its.length) fEnded fLow fRange fCache fPend (nI (bs ++ (e3S Fn its).reverse.map (· % 256)).length) fOuts fIns fReads fBad fIR fAsk fBAsk fCode fRL fRR fX (nI (e3S Fn its).length) fThrown)), ((g 2), Sum.inl (cI, 512, Sum.inl vNow)), ((g 4), Sum.inl (cI, 600, Sum.inl vIM)), ((g 5), Sum.inl (cI, 600, Sum.inl vIW)), ((g 6), Sum.inl (cI, 9000, Sum.inl u.1)), ((g 11), Sum.inl (cI, 20000, Sum.inl u.2))]) 0 0 := by
  refine my_ofV (cc := prog_14_method_32_code) (n := 10) (ret := none) (by decide) rfl (Nat.le_of_ble_eq_true rfl) ?_
  intro p e s m args below meth c R Q A ls H locs hx hb hr hts hown hlocks hml hnm hR hQ hA hl hP hK hN hD hS
  have hg : ∀ w ∈ gw, w.before args s = true := fun w h => hts w (List.mem_cons_of_mem _ h)
  have hown : s.vm.findClass "RangeCodersModel" = some m.cls := hown
  replace hl : lv_has ls 10 [(0, Value.ref o)] := hl
  refine lv_aload_n hx hb d_M_endStack_0 rfl (lv_at hl 0 rfl) ?_
  refine lv_iconst (v := 0) hx hb d_M_endStack_1 (by decide) ?_
  refine W.eq (g2 := F0 m 2 ls [Value.int (nI ([] : List Nat).length), Value.ref o]) rfl ?_
  refine va_put (D := (dC, dI)) (ci := 9) (v := .int (nI ([] : List Nat).length)) (ty := .int) (C := "RangeCodersModel") (T := T_M) (N := 35) hx hb hg in_M t_M o_M n_M hown hK hP hD hS 0 rfl rfl 33 (by decide) (hg _ k985) (fun _ h9 => h9) rfl (o_M 33 (by decide)) rfl rfl (Nat.le_of_ble_eq_true rfl) d_M_endStack_2 (fun _ _ _ _ _ => ?_)
  clear hP hD hS
  rename_i H locs hP hD hS
  have hPD : my_PD (dC, dI) vwCl A [(o, Sum.inr (9, mO g fForm fShift fModels (nI its.length) fEnded fLow fRange fCache fPend (nI bs.length) fOuts fIns fReads fBad fIR fAsk fBAsk fCode fRL fRR fX (nI ([] : List Nat).length) fThrown)), ((g 2), Sum.inl (cI, 512, Sum.inl vNow)), ((g 4), Sum.inl (cI, 600, Sum.inl vIM)), ((g 5), Sum.inl (cI, 600, Sum.inl vIW)), ((g 6), Sum.inl (cI, 9000, Sum.inl vGoing)), ((g 11), Sum.inl (cI, 20000, Sum.inl vWr))] H := ⟨hP, hD⟩
  clear hP hD
  have hP := hPD.1
  have hD := hPD.2
  clear hPD
  refine lv_ldc2 (v := 8388608) hx hb hown (hg _ k1155) d_M_endStack_5 ?_
  refine W.eq (g2 := F0 m 8 ls [Value.long (lN 8388608)]) rfl ?_
  refine lv_lstore_n (lv' := [(1, Value.long (lN 8388608)), (0, Value.ref o)]) hx hb d_M_endStack_8 rfl hl (by decide) rfl (fun _ _ => ?_)
  clear hl
  rename_i ls hl
  refine lv_aload_n hx hb d_M_endStack_9 rfl (lv_at hl 1 rfl) ?_
  refine va_get (D := (dC, dI)) (ci := 9) (v := .int (nI its.length)) (C := "RangeCodersModel") (T := T_M) (N := 35) hx hb hg in_M hown hK hP 0 rfl rfl 7 (by decide) (hg _ k959) (fun _ h9 => h9) rfl d_M_endStack_10 ?_
  refine lv_iconst (v := 1) hx hb d_M_endStack_13 (by decide) ?_
  refine lv_isub hx hb d_M_endStack_14 ?_
  refine lv_topi (fun v_1 ev_1 => ?_)
  refine lv_istore_n (lv' := [(3, Value.int v_1), (1, Value.long (lN 8388608)), (0, Value.ref o)]) hx hb d_M_endStack_15 rfl hl (by decide) rfl (fun _ _ => ?_)
  clear hl
  rename_i ls hl
  have J_16 : ∀ (n9_16 : Nat) (i9 : Int32) (k : Nat) (r9 : Nat × List Nat) (vK : Nat → Int32) (hn9_16 : k = n9_16) (hi : i9 + 1 = nI k) (hk : k ≤ its.length) (hE9 : e3N Fn its its.length (8388608, []) = e3N Fn its k r9) (hX1 : 8388608 ≤ r9.1) (hX2 : r9.1 < 2147483648) (hgw : gIs vK r9.2) (hlw : r9.2.length + 2 * k ≤ 2 * its.length) (hob : oct r9.2) (H : Heap) (locs : List Loc) (ls : Array Slot), va_P (dC, dI) vwCl [(o, Sum.inr (9, mO g fForm fShift fModels (nI its.length) fEnded fLow fRange fCache fPend (nI bs.length) fOuts fIns fReads fBad fIR fAsk fBAsk fCode fRL fRR fX (nI r9.2.length) fThrown)), ((g 2), Sum.inl (cI, 512, Sum.inl vNow)), ((g 4), Sum.inl (cI, 600, Sum.inl vIM)), ((g 5), Sum.inl (cI, 600, Sum.inl vIW)), ((g 6), Sum.inl (cI, 9000, Sum.inl vGoing)), ((g 11), Sum.inl (cI, 20000, Sum.inl vK))] H → va_D A [(o, Sum.inr (9, mO g fForm fShift fModels (nI its.length) fEnded fLow fRange fCache fPend (nI bs.length) fOuts fIns fReads fBad fIR fAsk fBAsk fCode fRL fRR fX (nI r9.2.length) fThrown)), ((g 2), Sum.inl (cI, 512, Sum.inl vNow)), ((g 4), Sum.inl (cI, 600, Sum.inl vIM)), ((g 5), Sum.inl (cI, 600, Sum.inl vIW)), ((g 6), Sum.inl (cI, 9000, Sum.inl vGoing)), ((g 11), Sum.inl (cI, 20000, Sum.inl vK))] → va_S A s.heap H locs → lv_has ls 10 [(3, Value.int i9), (1, Value.long (lN r9.1)), (0, Value.ref o)] → W p l e R s m args below meth c H locs 0 0 Q (F0 m 16 ls []) := by
    intro n9_16
    induction n9_16 using Nat.strongRecOn with
    | ind n9_16 ih9_16 =>
      intro i9 k r9 vK hn9_16 hi hk hE9 hX1 hX2 hgw hlw hob H locs ls hP hD hS hl
      refine lv_iload_n hx hb d_M_endStack_16 rfl (lv_at hl 0 rfl) ?_
      refine lv_if_lt (tgt := 162) hx hb d_M_endStack_17 (by decide) (fun c_2 => ?_) (fun c_2 => ?_)
      · have hk0 : k = 0 := by
          rcases Nat.eq_zero_or_pos k with z | z
          · exact z
          · exact absurd (show i9 < 0 from c_2) (by rw [show i9 = nI (k - 1) from by rw [← Int32.add_sub_cancel (a := i9) (b := 1), hi]; exact pk_sub (b := 1) z]; exact nI_pos (by omega))
        refine lv_iconst (v := 0) hx hb d_M_endStack_162 (by decide) ?_
        refine lv_istore_n (lv' := [(3, Value.int 0), (1, Value.long (lN r9.1)), (0, Value.ref o)]) hx hb d_M_endStack_163 rfl hl (by decide) rfl (fun _ _ => ?_)
        clear hl
        rename_i ls hl
        have J_164 : ∀ (n9_164 : Nat) (i9 : Int32) (jj : Nat) (x4 : Nat) (w4 : List Nat) (vJ : Nat → Int32) (hn9_164 : 4 - jj = n9_164) (hi : i9 = nI jj) (hjj : jj ≤ 4) (hE4 : e3S Fn its = w4 ++ b4 x4 (4 - jj)) (hx4 : x4 < 2147483648) (hg4 : gIs vJ w4) (hl4 : w4.length ≤ 1200 + jj) (hob4 : oct w4) (H : Heap) (locs : List Loc) (ls : Array Slot), va_P (dC, dI) vwCl [(o, Sum.inr (9, mO g fForm fShift fModels (nI its.length) fEnded fLow fRange fCache fPend (nI bs.length) fOuts fIns fReads fBad fIR fAsk fBAsk fCode fRL fRR fX (nI w4.length) fThrown)), ((g 2), Sum.inl (cI, 512, Sum.inl vNow)), ((g 4), Sum.inl (cI, 600, Sum.inl vIM)), ((g 5), Sum.inl (cI, 600, Sum.inl vIW)), ((g 6), Sum.inl (cI, 9000, Sum.inl vGoing)), ((g 11), Sum.inl (cI, 20000, Sum.inl vJ))] H → va_D A [(o, Sum.inr (9, mO g fForm fShift fModels (nI its.length) fEnded fLow fRange fCache fPend (nI bs.length) fOuts fIns fReads fBad fIR fAsk fBAsk fCode fRL fRR fX (nI w4.length) fThrown)), ((g 2), Sum.inl (cI, 512, Sum.inl vNow)), ((g 4), Sum.inl (cI, 600, Sum.inl vIM)), ((g 5), Sum.inl (cI, 600, Sum.inl vIW)), ((g 6), Sum.inl (cI, 9000, Sum.inl vGoing)), ((g 11), Sum.inl (cI, 20000, Sum.inl vJ))] → va_S A s.heap H locs → lv_has ls 10 [(3, Value.int i9), (1, Value.long (lN x4)), (0, Value.ref o)] → W p l e R s m args below meth c H locs 0 0 Q (F0 m 164 ls []) := by
          intro n9_164
          induction n9_164 using Nat.strongRecOn with
          | ind n9_164 ih9_164 =>
            intro i9 jj x4 w4 vJ hn9_164 hi hjj hE4 hx4 hg4 hl4 hob4 H locs ls hP hD hS hl
            refine lv_iload_n hx hb d_M_endStack_164 rfl (lv_at hl 0 rfl) ?_
            refine lv_iconst (v := 4) hx hb d_M_endStack_165 (by decide) ?_
            refine lv_icmp_ge (tgt := 205) hx hb d_M_endStack_166 (by decide) (fun c_3 => ?_) (fun c_3 => ?_)
            · have hj4 : jj = 4 := by rw [hi] at c_3; have := (nI_cmp (a := 4) (by decide) (by omega)).mp c_3; omega
              have hW : e3S Fn its = w4 := by rw [hE4, hj4]; simp [b4]
              refine lv_aload_n hx hb d_M_endStack_205 rfl (lv_at hl 2 rfl) ?_
              refine va_get (D := (dC, dI)) (ci := 9) (v := .int (nI w4.length)) (C := "RangeCodersModel") (T := T_M) (N := 35) hx hb hg in_M hown hK hP 0 rfl rfl 33 (by decide) (hg _ k985) (fun _ h9 => h9) rfl d_M_endStack_206 ?_
              refine lv_iconst (v := 1) hx hb d_M_endStack_209 (by decide) ?_
              refine lv_isub hx hb d_M_endStack_210 ?_
              refine lv_topi (fun v_4 ev_4 => ?_)
              refine lv_istore_n (lv' := [(3, Value.int v_4), (1, Value.long (lN x4)), (0, Value.ref o)]) hx hb d_M_endStack_211 rfl hl (by decide) rfl (fun _ _ => ?_)
              clear hl
              rename_i ls hl
              have J_212 : ∀ (n9_212 : Nat) (i9 : Int32) (kk : Nat) (b9 : List Nat) (vG : Nat → Int32) (hn9_212 : kk = n9_212) (hi : i9 + 1 = nI kk) (hkk : kk ≤ w4.length) (hE2 : b9 ++ ((e3S Fn its).take kk).reverse.map (· % 256) = bs ++ (e3S Fn its).reverse.map (· % 256)) (hg2 : gIs vG b9) (hl2 : b9.length + kk ≤ 5000 + w4.length) (H : Heap) (locs : List Loc) (ls : Array Slot), va_P (dC, dI) vwCl [(o, Sum.inr (9, mO g fForm fShift fModels (nI its.length) fEnded fLow fRange fCache fPend (nI b9.length) fOuts fIns fReads fBad fIR fAsk fBAsk fCode fRL fRR fX (nI w4.length) fThrown)), ((g 2), Sum.inl (cI, 512, Sum.inl vNow)), ((g 4), Sum.inl (cI, 600, Sum.inl vIM)), ((g 5), Sum.inl (cI, 600, Sum.inl vIW)), ((g 6), Sum.inl (cI, 9000, Sum.inl vG)), ((g 11), Sum.inl (cI, 20000, Sum.inl vJ))] H → va_D A [(o, Sum.inr (9, mO g fForm fShift fModels (nI its.length) fEnded fLow fRange fCache fPend (nI b9.length) fOuts fIns fReads fBad fIR fAsk fBAsk fCode fRL fRR fX (nI w4.length) fThrown)), ((g 2), Sum.inl (cI, 512, Sum.inl vNow)), ((g 4), Sum.inl (cI, 600, Sum.inl vIM)), ((g 5), Sum.inl (cI, 600, Sum.inl vIW)), ((g 6), Sum.inl (cI, 9000, Sum.inl vG)), ((g 11), Sum.inl (cI, 20000, Sum.inl vJ))] → va_S A s.heap H locs → lv_has ls 10 [(3, Value.int i9), (0, Value.ref o)] → W p l e R s m args below meth c H locs 0 0 Q (F0 m 212 ls []) := by
                intro n9_212
                induction n9_212 using Nat.strongRecOn with
                | ind n9_212 ih9_212 =>
                  intro i9 kk b9 vG hn9_212 hi hkk hE2 hg2 hl2 H locs ls hP hD hS hl
                  refine lv_iload_n hx hb d_M_endStack_212 rfl (lv_at hl 0 rfl) ?_
                  refine lv_if_lt (tgt := 232) hx hb d_M_endStack_213 (by decide) (fun c_5 => ?_) (fun c_5 => ?_)
                  · have hk00 : kk = 0 := by
                      rcases Nat.eq_zero_or_pos kk with z | z
                      · exact z
                      · exact absurd (show i9 < 0 from c_5) (by rw [show i9 = nI (kk - 1) from by rw [← Int32.add_sub_cancel (a := i9) (b := 1), hi]; exact pk_sub (b := 1) z]; exact nI_pos (by omega))
                    have z9 : b9 = bs ++ (e3S Fn its).reverse.map (· % 256) := by rw [← hE2, hk00]; simp
                    subst z9
                    have z9 : w4 = e3S Fn its := hW.symm
                    subst z9
                    exact my_vret hx hb hr hlocks hQ hK hS (Nat.le_refl _) (Nat.le_refl _) (vG, vJ) (hg2) (hP.sub [0, 1, 2, 3, 4, 5] rfl) (hD.sub [0, 1, 2, 3, 4, 5] (by decide +kernel) rfl) d_M_endStack_232
                  · have hkp : 0 < kk := by
                      rcases Nat.eq_zero_or_pos kk with z | z
                      · subst z; exact absurd (show i9 < 0 by rw [show i9 = -1 from by rw [← Int32.add_sub_cancel (a := i9) (b := 1), hi]; rfl]; decide) c_5
                      · exact z
                    have hi9 : i9 = nI (kk - 1) := by rw [← Int32.add_sub_cancel (a := i9) (b := 1), hi]; exact pk_sub (b := 1) hkp
                    refine lv_aload_n hx hb d_M_endStack_216 rfl (lv_at hl 1 rfl) ?_
                    refine lv_aload_n hx hb d_M_endStack_217 rfl (lv_at hl 1 rfl) ?_
                    refine va_get (D := (dC, dI)) (ci := 9) (v := .ref (g 11)) (C := "RangeCodersModel") (T := T_M) (N := 35) hx hb hg in_M hown hK hP 0 rfl rfl 32 (by decide) (hg _ k984) (fun _ h9 => h9) rfl d_M_endStack_218 ?_
                    refine lv_iload_n hx hb d_M_endStack_221 rfl (lv_at hl 0 rfl) ?_
                    refine va_iald hx hb hK hP 5 0 rfl rfl (by rw [hi9]; exact vp_in_nI (by omega) (by decide)) d_M_endStack_222 ?_
                    refine lv_topi (fun v_6 ev_6 => ?_)
                    have z9 : v_6 = nI (byA w4 (kk - 1)) := by rw [ev_6, hi9, nI_clamp (by omega)]; exact hg4 _ (by omega)
                    subst z9
                    refine my_cv (wr := [((g 2), Sum.inl (cI, 512, Sum.inl vNow)), ((g 4), Sum.inl (cI, 600, Sum.inl vIM)), ((g 5), Sum.inl (cI, 600, Sum.inl vIW)), ((g 11), Sum.inl (cI, 20000, Sum.inl vJ))]) (va_runV (As := [Value.int (nI (byA w4 (kk - 1)))]) (rest := []) ⟨hx, hb, hml, hown, hts⟩ (c_M_write l dC dI cI cM cO H.size o g fForm fShift fModels (nI its.length) fEnded fLow fRange fCache fPend fOuts fIns fReads fBad fIR fAsk fBAsk fCode fRL fRR fX (nI w4.length) fThrown vG b9 (byA w4 (kk - 1)) (hg2) (by omega) (by have := hob4 (kk - 1); omega)) (cwV 1 hts (my_gV k1107 k1109 ks32 k12 k1110) rfl rfl rfl cu_M_write_1 ⟨by rw [hR]; exact Nat.le_of_ble_eq_true rfl, by rw [hR]; exact Nat.le_of_ble_eq_true rfl⟩) (my_preV hK hN (hP.sub [0, 4] rfl) (hD.sub [0, 4] (by decide +kernel) rfl) 0 rfl rfl) rfl rfl hl.1 rfl (lv_room (Nat.le_of_ble_eq_true rfl)) d_M_endStack_223 ⟨by rw [hR]; exact Nat.le_of_ble_eq_true rfl, by rw [hR]; exact Nat.le_of_ble_eq_true rfl⟩) hP hD hS hA [0, 4] [1, 2, 3, 5] rfl rfl (by decide +kernel) (by decide +kernel) (fun u9 _ _ hw_223 _ _ _ => ?_)
                    clear hP hD hS
                    rename_i H locs hP hD hS
                    obtain ⟨v2_223, rfl⟩ : ∃ z, z = u9 := ⟨_, rfl⟩
                    have hw_223 : gIs v2_223 (b9 ++ [(byA w4 (kk - 1)) % 256]) := hw_223
                    have hPD : my_PD (dC, dI) vwCl A [((g 2), Sum.inl (cI, 512, Sum.inl vNow)), ((g 4), Sum.inl (cI, 600, Sum.inl vIM)), ((g 5), Sum.inl (cI, 600, Sum.inl vIW)), ((g 11), Sum.inl (cI, 20000, Sum.inl vJ)), (o, Sum.inr (9, mO g fForm fShift fModels (nI its.length) fEnded fLow fRange fCache fPend (nI (b9 ++ [(byA w4 (kk - 1)) % 256]).length) fOuts fIns fReads fBad fIR fAsk fBAsk fCode fRL fRR fX (nI w4.length) fThrown)), ((g 6), Sum.inl (cI, 9000, Sum.inl v2_223))] H := ⟨hP, hD⟩
                    clear hP hD
                    have hP := hPD.1
                    have hD := hPD.2
                    clear hPD
                    obtain ⟨v_7, ev_7⟩ : ∃ y : Int32, y = i9 + (-1) := ⟨_, rfl⟩
                    refine lv_iinc (v := v_7) (lv' := [(3, Value.int v_7), (0, Value.ref o)]) hx hb d_M_endStack_226 hl (k := 0) rfl (by rw [ev_7]; rfl) (by decide) rfl (fun _ _ => ?_)
                    clear hl
                    rename_i ls hl
                    refine lv_goto (tgt := 212) hx hb d_M_endStack_229 (by decide) ?_
                    exact ih9_212 _ (by first | omega | (omega)) v_7 (kk - 1) (b9 ++ [(byA w4 (kk - 1)) % 256]) v2_223 rfl (by rw [ev_7, Int32.add_assoc, show (-1 : Int32) + 1 = 0 from by decide, Int32.add_zero]; exact hi9) (by omega) (by have z := rv_st hkp (by rw [hW]; exact hkk) hE2; rw [hW] at z ⊢; exact z) (hw_223) (by rw [List.length_append, List.length_singleton]; omega) H locs ls (hP.sub [4, 0, 1, 2, 5, 3] rfl) (hD.sub [4, 0, 1, 2, 5, 3] (by decide +kernel) rfl) hS (lv_sub hl [0, 1] rfl)
              exact J_212 _ v_4 w4.length bs vGoing rfl (by rw [ev_4, Int32.sub_add_cancel]) (Nat.le_refl _) (by rw [hW, List.take_length]) (hG) (by omega) H locs ls (hP.sub [0, 1, 2, 3, 4, 5] rfl) (hD.sub [0, 1, 2, 3, 4, 5] (by decide +kernel) rfl) hS (lv_sub hl [0, 2] rfl)
            · have hj4 : jj < 4 := by
                rcases Nat.lt_or_ge jj 4 with z | z
                · exact z
                · exact absurd (by rw [hi]; exact nI_le (a := 4) z (by omega)) c_3
              refine lv_aload_n hx hb d_M_endStack_169 rfl (lv_at hl 2 rfl) ?_
              refine va_get (D := (dC, dI)) (ci := 9) (v := .ref (g 11)) (C := "RangeCodersModel") (T := T_M) (N := 35) hx hb hg in_M hown hK hP 0 rfl rfl 32 (by decide) (hg _ k984) (fun _ h9 => h9) rfl d_M_endStack_170 ?_
              refine lv_aload_n hx hb d_M_endStack_173 rfl (lv_at hl 2 rfl) ?_
              refine va_get (D := (dC, dI)) (ci := 9) (v := .int (nI w4.length)) (C := "RangeCodersModel") (T := T_M) (N := 35) hx hb hg in_M hown hK hP 0 rfl rfl 33 (by decide) (hg _ k985) (fun _ h9 => h9) rfl d_M_endStack_174 ?_
              refine lv_lload_n hx hb d_M_endStack_177 rfl (lv_at hl 1 rfl) ?_
              refine lv_ldc2 (v := 255) hx hb hown (hg _ k1111) d_M_endStack_178 ?_
              refine lv_land hx hb d_M_endStack_181 ?_
              refine lv_topl (fun v_8 ev_8 => ?_)
              refine lv_l2i hx hb d_M_endStack_182 rfl ?_
              refine lv_topi (fun v_9 ev_9 => ?_)
              have hval : v_9 = nI (x4 % 256) := by rw [ev_9, ev_8, L_and8 (by omega)]; exact lN_i _
              refine va_iast hx hb hK hP hD hS 5 0 rfl rfl (vp_in_nI (by omega) (by decide)) d_M_endStack_183 (fun _ _ _ _ _ => ?_)
              clear hP hD hS
              rename_i H locs hP hD hS
              have hPD : my_PD (dC, dI) vwCl A [(o, Sum.inr (9, mO g fForm fShift fModels (nI its.length) fEnded fLow fRange fCache fPend (nI bs.length) fOuts fIns fReads fBad fIR fAsk fBAsk fCode fRL fRR fX (nI w4.length) fThrown)), ((g 2), Sum.inl (cI, 512, Sum.inl vNow)), ((g 4), Sum.inl (cI, 600, Sum.inl vIM)), ((g 5), Sum.inl (cI, 600, Sum.inl vIW)), ((g 6), Sum.inl (cI, 9000, Sum.inl vGoing)), ((g 11), Sum.inl (cI, 20000, Sum.inl (upd vJ (nI w4.length).toNatClampNeg v_9)))] H := ⟨hP, hD⟩
              clear hP hD
              have hP := hPD.1
              have hD := hPD.2
              clear hPD
              refine lv_aload_n hx hb d_M_endStack_184 rfl (lv_at hl 2 rfl) ?_
              refine lv_dup hx hb d_M_endStack_185 rfl ?_
              refine va_get (D := (dC, dI)) (ci := 9) (v := .int (nI w4.length)) (C := "RangeCodersModel") (T := T_M) (N := 35) hx hb hg in_M hown hK hP 0 rfl rfl 33 (by decide) (hg _ k985) (fun _ h9 => h9) rfl d_M_endStack_186 ?_
              refine lv_iconst (v := 1) hx hb d_M_endStack_189 (by decide) ?_
              refine lv_iadd hx hb d_M_endStack_190 ?_
              refine lv_topi (fun v_10 ev_10 => ?_)
              have z9 : v_10 = nI (w4 ++ [x4 % 256]).length := by rw [ev_10, List.length_append]; exact nI_1 _
              subst z9
              refine va_put (D := (dC, dI)) (ci := 9) (v := .int (nI (w4 ++ [x4 % 256]).length)) (ty := .int) (C := "RangeCodersModel") (T := T_M) (N := 35) hx hb hg in_M t_M o_M n_M hown hK hP hD hS 0 rfl rfl 33 (by decide) (hg _ k985) (fun _ h9 => h9) rfl (o_M 33 (by decide)) rfl rfl (Nat.le_of_ble_eq_true rfl) d_M_endStack_191 (fun _ _ _ _ _ => ?_)
              clear hP hD hS
              rename_i H locs hP hD hS
              have hPD : my_PD (dC, dI) vwCl A [(o, Sum.inr (9, mO g fForm fShift fModels (nI its.length) fEnded fLow fRange fCache fPend (nI bs.length) fOuts fIns fReads fBad fIR fAsk fBAsk fCode fRL fRR fX (nI (w4 ++ [x4 % 256]).length) fThrown)), ((g 2), Sum.inl (cI, 512, Sum.inl vNow)), ((g 4), Sum.inl (cI, 600, Sum.inl vIM)), ((g 5), Sum.inl (cI, 600, Sum.inl vIW)), ((g 6), Sum.inl (cI, 9000, Sum.inl vGoing)), ((g 11), Sum.inl (cI, 20000, Sum.inl (upd vJ (nI w4.length).toNatClampNeg v_9)))] H := ⟨hP, hD⟩
              clear hP hD
              have hP := hPD.1
              have hD := hPD.2
              clear hPD
              refine lv_lload_n hx hb d_M_endStack_194 rfl (lv_at hl 1 rfl) ?_
              refine lv_bipush (v := 8) hx hb d_M_endStack_195 (by decide) ?_
              refine lv_lshr hx hb d_M_endStack_197 rfl ?_
              refine lv_topl (fun v_11 ev_11 => ?_)
              have z9 : v_11 = lN (x4 / 256) := by rw [ev_11]; exact L_shr8 (by omega)
              subst z9
              refine lv_lstore_n (lv' := [(1, Value.long (lN (x4 / 256))), (3, Value.int i9), (0, Value.ref o)]) hx hb d_M_endStack_198 rfl hl (by decide) rfl (fun _ _ => ?_)
              clear hl
              rename_i ls hl
              obtain ⟨v_12, ev_12⟩ : ∃ y : Int32, y = i9 + (1) := ⟨_, rfl⟩
              refine lv_iinc (v := v_12) (lv' := [(3, Value.int v_12), (1, Value.long (lN (x4 / 256))), (0, Value.ref o)]) hx hb d_M_endStack_199 hl (k := 1) rfl (by rw [ev_12]; rfl) (by decide) rfl (fun _ _ => ?_)
              clear hl
              rename_i ls hl
              refine lv_goto (tgt := 164) hx hb d_M_endStack_202 (by decide) ?_
              exact ih9_164 _ (by first | omega | (omega)) v_12 (jj + 1) (x4 / 256) (w4 ++ [x4 % 256]) (upd vJ (nI w4.length).toNatClampNeg v_9) rfl (by rw [ev_12, hi]; exact nI_1 _) (by omega) (by rw [hE4, show 4 - jj = (4 - (jj + 1)) + 1 by omega, b4, List.append_assoc]; rfl) (by omega) (gIs_up hg4 (nI_clamp (by omega)) hval) (by rw [List.length_append, List.length_singleton]; omega) (oct_add hob4 (Nat.mod_lt _ (by decide))) H locs ls (hP.sub [0, 1, 2, 3, 4, 5] rfl) (hD.sub [0, 1, 2, 3, 4, 5] (by decide +kernel) rfl) hS (lv_sub hl [0, 1, 2] rfl)
        exact J_164 _ 0 0 r9.1 r9.2 vK rfl (rfl) (Nat.zero_le _) (by unfold e3S; rw [hE9, hk0]; rfl) (hX2) (hgw) (by omega) (hob) H locs ls (hP.sub [0, 1, 2, 3, 4, 5] rfl) (hD.sub [0, 1, 2, 3, 4, 5] (by decide +kernel) rfl) hS (lv_sub hl [0, 1, 2] rfl)
      · have hk0 : 1 ≤ k := by
          rcases Nat.eq_zero_or_pos k with z | z
          · subst z; exact absurd (show i9 < 0 by rw [show i9 = -1 from by rw [← Int32.add_sub_cancel (a := i9) (b := 1), hi]; rfl]; decide) c_2
          · exact z
        have hi9 : i9 = nI (k - 1) := by rw [← Int32.add_sub_cancel (a := i9) (b := 1), hi]; exact pk_sub (b := 1) hk0
        have hitk := hit (k - 1) (by omega)
        have hokk := hok (k - 1) (by omega)
        have hb3 := it3_b hokk
        obtain ⟨ff, hff⟩ : ∃ z, z = itF 4096 Fn (itA its (k - 1)) := ⟨_, rfl⟩
        obtain ⟨cc, hcc⟩ : ∃ z, z = itC 4096 Fn (itA its (k - 1)) := ⟨_, rfl⟩
        rw [← hff, ← hcc] at hb3
        obtain ⟨hf0, hcf⟩ := hb3
        refine lv_aload_n hx hb d_M_endStack_20 rfl (lv_at hl 2 rfl) ?_
        refine va_get (D := (dC, dI)) (ci := 9) (v := .ref (g 4)) (C := "RangeCodersModel") (T := T_M) (N := 35) hx hb hg in_M hown hK hP 0 rfl rfl 8 (by decide) (hg _ k960) (fun _ h9 => h9) rfl d_M_endStack_21 ?_
        refine lv_iload_n hx hb d_M_endStack_24 rfl (lv_at hl 0 rfl) ?_
        refine va_iald hx hb hK hP 2 0 rfl rfl (by rw [hi9]; exact vp_in_nI (by omega) (by decide)) d_M_endStack_25 ?_
        refine lv_topi (fun v_13 ev_13 => ?_)
        have z9 : v_13 = itM (itA its (k - 1)) := by rw [ev_13, hi9, nI_clamp (by omega)]; exact hitk.1
        subst z9
        refine lv_istore (lv' := [(4, Value.int (itM (itA its (k - 1)))), (3, Value.int i9), (1, Value.long (lN r9.1)), (0, Value.ref o)]) hx hb d_M_endStack_26 hl (by decide) rfl (fun _ _ => ?_)
        clear hl
        rename_i ls hl
        refine lv_aload_n hx hb d_M_endStack_28 rfl (lv_at hl 3 rfl) ?_
        refine va_get (D := (dC, dI)) (ci := 9) (v := .ref (g 5)) (C := "RangeCodersModel") (T := T_M) (N := 35) hx hb hg in_M hown hK hP 0 rfl rfl 9 (by decide) (hg _ k961) (fun _ h9 => h9) rfl d_M_endStack_29 ?_
        refine lv_iload_n hx hb d_M_endStack_32 rfl (lv_at hl 1 rfl) ?_
        refine va_iald hx hb hK hP 3 0 rfl rfl (by rw [hi9]; exact vp_in_nI (by omega) (by decide)) d_M_endStack_33 ?_
        refine lv_topi (fun v_14 ev_14 => ?_)
        have z9 : v_14 = nI (itA its (k - 1)).2.2 := by rw [ev_14, hi9, nI_clamp (by omega)]; exact hitk.2
        subst z9
        refine lv_istore (lv' := [(5, Value.int (nI (itA its (k - 1)).2.2)), (4, Value.int (itM (itA its (k - 1)))), (3, Value.int i9), (1, Value.long (lN r9.1)), (0, Value.ref o)]) hx hb d_M_endStack_34 hl (by decide) rfl (fun _ _ => ?_)
        clear hl
        rename_i ls hl
        have J_97 : ∀ (n9_97 : Nat) (r8 : Nat × List Nat) (vJ : Nat → Int32) (k8 : Nat) (hn9_97 : k8 = n9_97) (hE8 : s3N ff 8 r9 = s3N ff k8 r8) (hk6 : 6 ≤ k8) (hk8 : k8 ≤ 8) (hx8 : r8.1 < xb k8) (hlow : ff * 2048 ≤ r8.1) (hgw8 : gIs vJ r8.2) (hlw8 : r8.2.length + k8 ≤ r9.2.length + 8) (hob8 : oct r8.2) (H : Heap) (locs : List Loc) (ls : Array Slot), va_P (dC, dI) vwCl [(o, Sum.inr (9, mO g fForm fShift fModels (nI its.length) fEnded fLow fRange fCache fPend (nI bs.length) fOuts fIns fReads fBad fIR fAsk fBAsk fCode fRL fRR fX (nI r8.2.length) fThrown)), ((g 2), Sum.inl (cI, 512, Sum.inl vNow)), ((g 4), Sum.inl (cI, 600, Sum.inl vIM)), ((g 5), Sum.inl (cI, 600, Sum.inl vIW)), ((g 6), Sum.inl (cI, 9000, Sum.inl vGoing)), ((g 11), Sum.inl (cI, 20000, Sum.inl vJ))] H → va_D A [(o, Sum.inr (9, mO g fForm fShift fModels (nI its.length) fEnded fLow fRange fCache fPend (nI bs.length) fOuts fIns fReads fBad fIR fAsk fBAsk fCode fRL fRR fX (nI r8.2.length) fThrown)), ((g 2), Sum.inl (cI, 512, Sum.inl vNow)), ((g 4), Sum.inl (cI, 600, Sum.inl vIM)), ((g 5), Sum.inl (cI, 600, Sum.inl vIW)), ((g 6), Sum.inl (cI, 9000, Sum.inl vGoing)), ((g 11), Sum.inl (cI, 20000, Sum.inl vJ))] → va_S A s.heap H locs → lv_has ls 10 [(8, Value.long (lN cc)), (6, Value.long (lN ff)), (1, Value.long (lN r8.1)), (3, Value.int i9), (0, Value.ref o)] → W p l e R s m args below meth c H locs 0 0 Q (F0 m 97 ls []) := by
          intro n9_97
          induction n9_97 using Nat.strongRecOn with
          | ind n9_97 ih9_97 =>
            intro r8 vJ k8 hn9_97 hE8 hk6 hk8 hx8 hlow hgw8 hlw8 hob8 H locs ls hP hD hS hl
            have hxl := xb_le (k := k8)
            refine lv_lload_n hx hb d_M_endStack_97 rfl (lv_at hl 2 rfl) ?_
            refine lv_lload hx hb d_M_endStack_98 (lv_at hl 1 rfl) ?_
            refine lv_bipush (v := 19) hx hb d_M_endStack_100 (by decide) ?_
            refine lv_lshl hx hb d_M_endStack_102 rfl ?_
            refine lv_topl (fun v_15 ev_15 => ?_)
            have hshl : v_15 = lN (ff * 524288) := by rw [ev_15]; exact L_shl19 _
            refine W.lcmp hx hb d_M_endStack_103 ?_
            refine lv_if_lt (tgt := 140) hx hb d_M_endStack_104 (by decide) (fun c_16 => ?_) (fun c_16 => ?_)
            · rw [lg_cmp_lt] at c_16
              have hge : ¬ ff * 524288 ≤ r8.1 := by
                intro z
                have hc9 := c_16
                rw [hshl] at hc9
                have := (L_lt (by omega) (by omega)).mp hc9
                omega
              have hdl : r8.1 / ff ≤ r8.1 := Nat.div_le_self _ _
              have hml := Nat.mod_lt r8.1 hf0
              have hr62 : r8.1 < 2 ^ 63 := by omega
              have hf62 : ff < 2 ^ 63 := by omega
              refine lv_lload_n hx hb d_M_endStack_140 rfl (lv_at hl 2 rfl) ?_
              refine lv_lload hx hb d_M_endStack_141 (lv_at hl 1 rfl) ?_
              refine lv_ldiv hx hb d_M_endStack_143 (fun z => absurd ((pk_lEQ (b := 0) (by omega) (by decide)).mp z) (by omega)) ?_
              refine lv_topl (fun v_17 ev_17 => ?_)
              have z9 : v_17 = lN (r8.1 / ff) := by rw [ev_17]; exact pk_lDiv hr62 hf0 hf62
              subst z9
              refine lv_bipush (v := 12) hx hb d_M_endStack_144 (by decide) ?_
              refine lv_lshl hx hb d_M_endStack_146 rfl ?_
              refine lv_topl (fun v_18 ev_18 => ?_)
              have z9 : v_18 = lN (r8.1 / ff * 4096) := by rw [ev_18]; exact L_shl12 _
              subst z9
              refine lv_lload_n hx hb d_M_endStack_147 rfl (lv_at hl 2 rfl) ?_
              refine lv_lload hx hb d_M_endStack_148 (lv_at hl 1 rfl) ?_
              refine lv_lrem hx hb d_M_endStack_150 (fun z => absurd ((pk_lEQ (b := 0) (by omega) (by decide)).mp z) (by omega)) ?_
              refine lv_topl (fun v_19 ev_19 => ?_)
              have z9 : v_19 = lN (r8.1 % ff) := by rw [ev_19]; exact pk_lRem hr62 hf0 hf62
              subst z9
              refine lv_ladd hx hb d_M_endStack_151 ?_
              refine lv_topl (fun v_20 ev_20 => ?_)
              have z9 : v_20 = lN (r8.1 / ff * 4096 + r8.1 % ff) := by rw [ev_20]; exact lN_add _ _
              subst z9
              refine lv_lload hx hb d_M_endStack_152 (lv_at hl 0 rfl) ?_
              refine lv_ladd hx hb d_M_endStack_154 ?_
              refine lv_topl (fun v_21 ev_21 => ?_)
              have z9 : v_21 = lN (r8.1 / ff * 4096 + r8.1 % ff + cc) := by rw [ev_21]; exact lN_add _ _
              subst z9
              refine lv_lstore_n (lv' := [(1, Value.long (lN (r8.1 / ff * 4096 + r8.1 % ff + cc))), (8, Value.long (lN cc)), (6, Value.long (lN ff)), (3, Value.int i9), (0, Value.ref o)]) hx hb d_M_endStack_155 rfl hl (by decide) rfl (fun _ _ => ?_)
              clear hl
              rename_i ls hl
              obtain ⟨v_22, ev_22⟩ : ∃ y : Int32, y = i9 + (-1) := ⟨_, rfl⟩
              refine lv_iinc (v := v_22) (lv' := [(3, Value.int v_22), (1, Value.long (lN (r8.1 / ff * 4096 + r8.1 % ff + cc))), (8, Value.long (lN cc)), (6, Value.long (lN ff)), (0, Value.ref o)]) hx hb d_M_endStack_156 hl (k := 3) rfl (by rw [ev_22]; rfl) (by decide) rfl (fun _ _ => ?_)
              clear hl
              rename_i ls hl
              refine lv_goto (tgt := 16) hx hb d_M_endStack_159 (by decide) ?_
              exact ih9_16 _ (by first | omega | (omega)) v_22 (k - 1) (r8.1 / ff * 4096 + r8.1 % ff + cc, r8.2) vJ rfl (by rw [ev_22, Int32.add_assoc, show (-1 : Int32) + 1 = 0 from by decide, Int32.add_zero]; exact hi9) (by omega) (by rw [hE9, show e3N Fn its k r9 = e3N Fn its (k - 1 + 1) r9 by rw [Nat.sub_add_cancel hk0], e3N]; unfold s3I; rw [← hff, ← hcc, hE8, s3N_e hge]) ((s3_fin hf0 hlow (by omega) hcf).1) ((s3_fin hf0 hlow (by omega) hcf).2) (hgw8) (by show r8.2.length + _ ≤ _; omega) (hob8) H locs ls (hP.sub [0, 1, 2, 3, 4, 5] rfl) (hD.sub [0, 1, 2, 3, 4, 5] (by decide +kernel) rfl) hS (lv_sub hl [0, 1, 4] rfl)
            · rw [lg_cmp_lt] at c_16
              have hge2 : ff * 524288 ≤ r8.1 := by
                rcases Nat.lt_or_ge r8.1 (ff * 524288) with z | z
                · exact absurd (by rw [hshl]; exact (L_lt (by omega) (by omega)).mpr z) c_16
                · exact z
              have hk7 := xb_k hk6 hk8 hf0 hx8 hge2
              refine lv_aload_n hx hb d_M_endStack_107 rfl (lv_at hl 4 rfl) ?_
              refine va_get (D := (dC, dI)) (ci := 9) (v := .ref (g 11)) (C := "RangeCodersModel") (T := T_M) (N := 35) hx hb hg in_M hown hK hP 0 rfl rfl 32 (by decide) (hg _ k984) (fun _ h9 => h9) rfl d_M_endStack_108 ?_
              refine lv_aload_n hx hb d_M_endStack_111 rfl (lv_at hl 4 rfl) ?_
              refine va_get (D := (dC, dI)) (ci := 9) (v := .int (nI r8.2.length)) (C := "RangeCodersModel") (T := T_M) (N := 35) hx hb hg in_M hown hK hP 0 rfl rfl 33 (by decide) (hg _ k985) (fun _ h9 => h9) rfl d_M_endStack_112 ?_
              refine lv_lload_n hx hb d_M_endStack_115 rfl (lv_at hl 2 rfl) ?_
              refine lv_ldc2 (v := 255) hx hb hown (hg _ k1111) d_M_endStack_116 ?_
              refine lv_land hx hb d_M_endStack_119 ?_
              refine lv_topl (fun v_23 ev_23 => ?_)
              refine lv_l2i hx hb d_M_endStack_120 rfl ?_
              refine lv_topi (fun v_24 ev_24 => ?_)
              have hval : v_24 = nI (r8.1 % 256) := by rw [ev_24, ev_23, L_and8 (by omega)]; exact lN_i _
              refine va_iast hx hb hK hP hD hS 5 0 rfl rfl (vp_in_nI (by omega) (by decide)) d_M_endStack_121 (fun _ _ _ _ _ => ?_)
              clear hP hD hS
              rename_i H locs hP hD hS
              have hPD : my_PD (dC, dI) vwCl A [(o, Sum.inr (9, mO g fForm fShift fModels (nI its.length) fEnded fLow fRange fCache fPend (nI bs.length) fOuts fIns fReads fBad fIR fAsk fBAsk fCode fRL fRR fX (nI r8.2.length) fThrown)), ((g 2), Sum.inl (cI, 512, Sum.inl vNow)), ((g 4), Sum.inl (cI, 600, Sum.inl vIM)), ((g 5), Sum.inl (cI, 600, Sum.inl vIW)), ((g 6), Sum.inl (cI, 9000, Sum.inl vGoing)), ((g 11), Sum.inl (cI, 20000, Sum.inl (upd vJ (nI r8.2.length).toNatClampNeg v_24)))] H := ⟨hP, hD⟩
              clear hP hD
              have hP := hPD.1
              have hD := hPD.2
              clear hPD
              refine lv_aload_n hx hb d_M_endStack_122 rfl (lv_at hl 4 rfl) ?_
              refine lv_dup hx hb d_M_endStack_123 rfl ?_
              refine va_get (D := (dC, dI)) (ci := 9) (v := .int (nI r8.2.length)) (C := "RangeCodersModel") (T := T_M) (N := 35) hx hb hg in_M hown hK hP 0 rfl rfl 33 (by decide) (hg _ k985) (fun _ h9 => h9) rfl d_M_endStack_124 ?_
              refine lv_iconst (v := 1) hx hb d_M_endStack_127 (by decide) ?_
              refine lv_iadd hx hb d_M_endStack_128 ?_
              refine lv_topi (fun v_25 ev_25 => ?_)
              have z9 : v_25 = nI (r8.2 ++ [r8.1 % 256]).length := by rw [ev_25, List.length_append]; exact nI_1 _
              subst z9
              refine va_put (D := (dC, dI)) (ci := 9) (v := .int (nI (r8.2 ++ [r8.1 % 256]).length)) (ty := .int) (C := "RangeCodersModel") (T := T_M) (N := 35) hx hb hg in_M t_M o_M n_M hown hK hP hD hS 0 rfl rfl 33 (by decide) (hg _ k985) (fun _ h9 => h9) rfl (o_M 33 (by decide)) rfl rfl (Nat.le_of_ble_eq_true rfl) d_M_endStack_129 (fun _ _ _ _ _ => ?_)
              clear hP hD hS
              rename_i H locs hP hD hS
              have hPD : my_PD (dC, dI) vwCl A [(o, Sum.inr (9, mO g fForm fShift fModels (nI its.length) fEnded fLow fRange fCache fPend (nI bs.length) fOuts fIns fReads fBad fIR fAsk fBAsk fCode fRL fRR fX (nI (r8.2 ++ [r8.1 % 256]).length) fThrown)), ((g 2), Sum.inl (cI, 512, Sum.inl vNow)), ((g 4), Sum.inl (cI, 600, Sum.inl vIM)), ((g 5), Sum.inl (cI, 600, Sum.inl vIW)), ((g 6), Sum.inl (cI, 9000, Sum.inl vGoing)), ((g 11), Sum.inl (cI, 20000, Sum.inl (upd vJ (nI r8.2.length).toNatClampNeg v_24)))] H := ⟨hP, hD⟩
              clear hP hD
              have hP := hPD.1
              have hD := hPD.2
              clear hPD
              refine lv_lload_n hx hb d_M_endStack_132 rfl (lv_at hl 2 rfl) ?_
              refine lv_bipush (v := 8) hx hb d_M_endStack_133 (by decide) ?_
              refine lv_lshr hx hb d_M_endStack_135 rfl ?_
              refine lv_topl (fun v_26 ev_26 => ?_)
              have z9 : v_26 = lN (r8.1 / 256) := by rw [ev_26]; exact L_shr8 (by omega)
              subst z9
              refine lv_lstore_n (lv' := [(1, Value.long (lN (r8.1 / 256))), (8, Value.long (lN cc)), (6, Value.long (lN ff)), (3, Value.int i9), (0, Value.ref o)]) hx hb d_M_endStack_136 rfl hl (by decide) rfl (fun _ _ => ?_)
              clear hl
              rename_i ls hl
              refine lv_goto (tgt := 97) hx hb d_M_endStack_137 (by decide) ?_
              exact ih9_97 _ (by first | omega | (omega)) (r8.1 / 256, r8.2 ++ [r8.1 % 256]) (upd vJ (nI r8.2.length).toNatClampNeg v_24) (k8 - 1) rfl (by rw [hE8, s3N_s (by omega) hge2]) (by omega) (by omega) (xb_s hk7 hk8 hx8) (by show ff * 2048 ≤ r8.1 / 256; omega) (gIs_up hgw8 (nI_clamp (by omega)) hval) (by show (r8.2 ++ [r8.1 % 256]).length + _ ≤ _; rw [List.length_append, List.length_singleton]; omega) (oct_add hob8 (Nat.mod_lt _ (by decide))) H locs ls (hP.sub [0, 1, 2, 3, 4, 5] rfl) (hD.sub [0, 1, 2, 3, 4, 5] (by decide +kernel) rfl) hS (lv_sub hl [1, 2, 0, 3, 4] rfl)
        refine lv_iload hx hb d_M_endStack_36 (lv_at hl 1 rfl) ?_
        refine lv_if_ge (tgt := 52) hx hb d_M_endStack_38 (by decide) (fun c_27 => ?_) (fun c_27 => ?_)
        · have hkd : ¬ (itA its (k - 1)).1 = 0 := fun z => absurd c_27 ((itM_neg hokk).mpr z)
          obtain ⟨hd1, hd2, hd3, hd4, hd5, hd6⟩ : (itA its (k - 1)).2.1 < 8 ∧ N (itA its (k - 1)).2.1 ≤ 64 ∧ (itA its (k - 1)).2.2 < N (itA its (k - 1)).2.1 ∧ 0 < Fn (itA its (k - 1)).2.1 (itA its (k - 1)).2.2 ∧ ns (Fn (itA its (k - 1)).2.1) (N (itA its (k - 1)).2.1) = 4096 ∧ sgI vNow (64 * (itA its (k - 1)).2.1) (N (itA its (k - 1)).2.1) (Fn (itA its (k - 1)).2.1) := hokk.elim (fun z => absurd z.1 hkd) (fun z => z.2)
          have hmI : itM (itA its (k - 1)) = nI (itA its (k - 1)).2.1 := by unfold itM; rw [if_neg hkd]
          have hns := ns_m (Fn (itA its (k - 1)).2.1) (Nat.le_of_lt hd3)
          have hng := ns_ge (F := Fn (itA its (k - 1)).2.1) hd3
          rw [hmI] at hl
          refine lv_aload_n hx hb d_M_endStack_52 rfl (lv_at hl 4 rfl) ?_
          refine va_get (D := (dC, dI)) (ci := 9) (v := .ref (g 2)) (C := "RangeCodersModel") (T := T_M) (N := 35) hx hb hg in_M hown hK hP 0 rfl rfl 5 (by decide) (hg _ k957) (fun _ h9 => h9) rfl d_M_endStack_53 ?_
          refine lv_bipush (v := 64) hx hb d_M_endStack_56 (by decide) ?_
          refine lv_iload hx hb d_M_endStack_58 (lv_at hl 1 rfl) ?_
          refine lv_imul hx hb d_M_endStack_60 ?_
          refine lv_topi (fun v_28 ev_28 => ?_)
          refine lv_iload hx hb d_M_endStack_61 (lv_at hl 0 rfl) ?_
          refine lv_iadd hx hb d_M_endStack_63 ?_
          refine lv_topi (fun v_29 ev_29 => ?_)
          have hix : v_29 = nI (64 * (itA its (k - 1)).2.1 + (itA its (k - 1)).2.2) := by rw [ev_29, ev_28]; exact ix64
          refine va_iald hx hb hK hP 1 0 rfl rfl (by rw [hix]; exact vp_in_nI (by omega) (by decide)) d_M_endStack_64 ?_
          refine lv_topi (fun v_30 ev_30 => ?_)
          refine lv_i2l hx hb d_M_endStack_65 rfl ?_
          refine lv_topl (fun v_31 ev_31 => ?_)
          have z9 : v_31 = lN ff := by rw [hff]; unfold itF; rw [if_neg hkd, ev_31, ev_30, hix, nI_clamp (by omega), hd6 _ hd3]; exact nI_l (by omega)
          subst z9
          refine lv_lstore (lv' := [(6, Value.long (lN ff)), (5, Value.int (nI (itA its (k - 1)).2.2)), (4, Value.int (nI (itA its (k - 1)).2.1)), (3, Value.int i9), (1, Value.long (lN r9.1)), (0, Value.ref o)]) hx hb d_M_endStack_66 hl (by decide) rfl (fun _ _ => ?_)
          clear hl
          rename_i ls hl
          refine lv_iload hx hb d_M_endStack_68 (lv_at hl 2 rfl) ?_
          refine lv_if_ge (tgt := 82) hx hb d_M_endStack_70 (by decide) (fun c_32 => ?_) (fun c_32 => ?_)
          · refine lv_aload_n hx hb d_M_endStack_82 rfl (lv_at hl 5 rfl) ?_
            refine lv_aload_n hx hb d_M_endStack_83 rfl (lv_at hl 5 rfl) ?_
            refine va_get (D := (dC, dI)) (ci := 9) (v := .ref (g 2)) (C := "RangeCodersModel") (T := T_M) (N := 35) hx hb hg in_M hown hK hP 0 rfl rfl 5 (by decide) (hg _ k957) (fun _ h9 => h9) rfl d_M_endStack_84 ?_
            refine lv_iload hx hb d_M_endStack_87 (lv_at hl 2 rfl) ?_
            refine lv_iload hx hb d_M_endStack_89 (lv_at hl 1 rfl) ?_
            refine my_ci (wr := [((g 4), Sum.inl (cI, 600, Sum.inl vIM)), ((g 5), Sum.inl (cI, 600, Sum.inl vIW)), ((g 6), Sum.inl (cI, 9000, Sum.inl vGoing)), ((g 11), Sum.inl (cI, 20000, Sum.inl vK))]) (va_runV (As := [Value.ref (g 2), Value.int (nI (itA its (k - 1)).2.1), Value.int (nI (itA its (k - 1)).2.2)]) (rest := []) ⟨hx, hb, hml, hown, hts⟩ (c_M_before l dC dI cI cM cO H.size o g fForm fShift fModels (nI its.length) fEnded fLow fRange fCache fPend (nI bs.length) fOuts fIns fReads fBad fIR fAsk fBAsk fCode fRL fRR fX (nI r9.2.length) fThrown (g 2) vNow ((itA its (k - 1)).2.1) ((itA its (k - 1)).2.2) (Fn (itA its (k - 1)).2.1) (hd1) (by omega) (sgI_w hd6 (Nat.le_of_lt hd3))) (cwV 3 hts (my_gV k1089 k1091 ks28 k12 k1092) rfl rfl rfl cu_M_before_3 ⟨by rw [hR]; exact Nat.le_of_ble_eq_true rfl, by rw [hR]; exact Nat.le_of_ble_eq_true rfl⟩) (my_preV hK hN (hP.sub [0, 1] rfl) (hD.sub [0, 1] (by decide +kernel) rfl) 0 rfl rfl) rfl rfl hl.1 rfl (lv_room (Nat.le_of_ble_eq_true rfl)) d_M_endStack_91 ⟨by rw [hR]; exact Nat.le_of_ble_eq_true rfl, by rw [hR]; exact Nat.le_of_ble_eq_true rfl⟩) hP hD hS hA [0, 1] [2, 3, 4, 5] rfl rfl (by decide +kernel) (by decide +kernel) (fun r_91 u9 _ _ hw_91 _ _ _ => ?_)
            clear hP hD hS
            rename_i H locs hP hD hS
            have hw_91 : r_91 = nI (ns (Fn (itA its (k - 1)).2.1) ((itA its (k - 1)).2.2)) := hw_91
            have hPD : my_PD (dC, dI) vwCl A [((g 4), Sum.inl (cI, 600, Sum.inl vIM)), ((g 5), Sum.inl (cI, 600, Sum.inl vIW)), ((g 6), Sum.inl (cI, 9000, Sum.inl vGoing)), ((g 11), Sum.inl (cI, 20000, Sum.inl vK)), (o, Sum.inr (9, mO g fForm fShift fModels (nI its.length) fEnded fLow fRange fCache fPend (nI bs.length) fOuts fIns fReads fBad fIR fAsk fBAsk fCode fRL fRR fX (nI r9.2.length) fThrown)), ((g 2), Sum.inl (cI, 512, Sum.inl vNow))] H := ⟨hP, hD⟩
            clear hP hD
            have hP := hPD.1
            have hD := hPD.2
            clear hPD
            refine lv_i2l hx hb d_M_endStack_94 rfl ?_
            refine lv_topl (fun v_33 ev_33 => ?_)
            have z9 : v_33 = lN cc := by rw [hcc]; unfold itC; rw [if_neg hkd, ev_33, hw_91]; exact nI_l (by omega)
            subst z9
            refine lv_lstore (lv' := [(8, Value.long (lN cc)), (6, Value.long (lN ff)), (5, Value.int (nI (itA its (k - 1)).2.2)), (4, Value.int (nI (itA its (k - 1)).2.1)), (3, Value.int i9), (1, Value.long (lN r9.1)), (0, Value.ref o)]) hx hb d_M_endStack_95 hl (by decide) rfl (fun _ _ => ?_)
            clear hl
            rename_i ls hl
            exact J_97 _ r9 vK 8 rfl (rfl) (by decide) (by decide) (by show r9.1 < xb 8; exact hX2) (by omega) (hgw) (by omega) (hob) H locs ls (hP.sub [4, 5, 0, 1, 2, 3] rfl) (hD.sub [4, 5, 0, 1, 2, 3] (by decide +kernel) rfl) hS (lv_sub hl [0, 1, 5, 4, 6] rfl)
          · exact absurd (nI_pos' (by omega)) c_32
        · have hkd : (itA its (k - 1)).1 = 0 := (itM_neg hokk).mp c_27
          refine lv_sipush (v := 4096) hx hb d_M_endStack_41 (by decide) ?_
          refine lv_iload hx hb d_M_endStack_44 (lv_at hl 1 rfl) ?_
          refine lv_ineg hx hb d_M_endStack_46 ?_
          refine lv_topi (fun v_34 ev_34 => ?_)
          refine lv_ishr hx hb d_M_endStack_47 ?_
          refine lv_topi (fun v_35 ev_35 => ?_)
          refine lv_i2l hx hb d_M_endStack_48 rfl ?_
          refine lv_topl (fun v_36 ev_36 => ?_)
          refine lv_goto (tgt := 66) hx hb d_M_endStack_49 (by decide) ?_
          have z9 : v_36 = lN ff := by rw [hff]; unfold itF; rw [if_pos hkd, ev_36, ev_35, ev_34, itM_ng hkd, show (4096 : Int32) = nI 4096 from rfl, I_shr (by decide) (by rcases hokk with z | z; exact (by have := z.2.2.1; omega); exact absurd hkd z.1)]; exact nI_l (Nat.lt_of_le_of_lt (Nat.div_le_self _ _) (by decide))
          subst z9
          refine lv_lstore (lv' := [(6, Value.long (lN ff)), (5, Value.int (nI (itA its (k - 1)).2.2)), (4, Value.int (itM (itA its (k - 1)))), (3, Value.int i9), (1, Value.long (lN r9.1)), (0, Value.ref o)]) hx hb d_M_endStack_66 hl (by decide) rfl (fun _ _ => ?_)
          clear hl
          rename_i ls hl
          refine lv_iload hx hb d_M_endStack_68 (lv_at hl 2 rfl) ?_
          refine lv_if_ge (tgt := 82) hx hb d_M_endStack_70 (by decide) (fun c_37 => ?_) (fun c_37 => ?_)
          · exact absurd c_37 ((itM_neg hokk).mpr hkd)
          · refine lv_lload hx hb d_M_endStack_73 (lv_at hl 0 rfl) ?_
            refine lv_iload hx hb d_M_endStack_75 (lv_at hl 1 rfl) ?_
            refine lv_i2l hx hb d_M_endStack_77 rfl ?_
            refine lv_topl (fun v_38 ev_38 => ?_)
            refine lv_lmul hx hb d_M_endStack_78 ?_
            refine lv_topl (fun v_39 ev_39 => ?_)
            refine lv_goto (tgt := 95) hx hb d_M_endStack_79 (by decide) ?_
            have z9 : v_39 = lN cc := by rw [hcc]; unfold itC; rw [if_pos hkd, ev_39, ev_38, nI_l (by rcases hokk with z | z; exact Nat.lt_trans z.2.2.2 (Nat.lt_of_le_of_lt (Nat.pow_le_pow_right (n := 2) (by decide) z.2.2.1) (by decide)); exact absurd hkd z.1), lN_mul, hff]; unfold itF; rw [if_pos hkd]
            subst z9
            refine lv_lstore (lv' := [(8, Value.long (lN cc)), (6, Value.long (lN ff)), (5, Value.int (nI (itA its (k - 1)).2.2)), (4, Value.int (itM (itA its (k - 1)))), (3, Value.int i9), (1, Value.long (lN r9.1)), (0, Value.ref o)]) hx hb d_M_endStack_95 hl (by decide) rfl (fun _ _ => ?_)
            clear hl
            rename_i ls hl
            exact J_97 _ r9 vK 8 rfl (rfl) (by decide) (by decide) (by show r9.1 < xb 8; exact hX2) (by omega) (hgw) (by omega) (hob) H locs ls (hP.sub [0, 1, 2, 3, 4, 5] rfl) (hD.sub [0, 1, 2, 3, 4, 5] (by decide +kernel) rfl) hS (lv_sub hl [0, 1, 5, 4, 6] rfl)
  exact J_16 _ v_1 its.length (8388608, []) vWr rfl (by rw [ev_1, Int32.sub_add_cancel]) (Nat.le_refl _) (rfl) (by decide) (by decide) (fun _ z => absurd z (Nat.not_lt_zero _)) (by show 0 + _ ≤ _; omega) (oct_nil) H locs ls (hP.sub [0, 1, 2, 3, 4, 5] rfl) (hD.sub [0, 1, 2, 3, 4, 5] (by decide +kernel) rfl) hS (lv_sub hl [0, 1, 2] rfl)
end
section
/-! GROWTH: how much a call has made, told by the heap behind it -/
/-- all slots of a heap -/
def hSl (H : Heap) : Nat := H.foldl (fun n c => n + c.slots.size) 0
section GR1
variable {p : Program} {l : Launch} {e : Env} {R : Room} {s : State} {m : MethodId} {args : Array Value} {below : List Frame} {meth : Method} {c : Code} {H : Heap} {locs : List Loc} {cells slots : Nat} {Q : State → Prop}
theorem gr_sl {T : State} (X : Stand p l e R s m args below meth c T locs cells slots) : hSl T.heap = hSl s.heap + ((T.heap.toList.drop s.heap.size).map (·.slots.size)).sum := by
  have h0 : s.slotsTrue = true := by
    have h := X.room
    simp only [State.hasRoom, Bool.and_eq_true] at h
    exact h.2
  have h1 := X.book
  have e0 : s.slotsUsed = hSl s.heap := eq_of_beq h0
  have e1 : T.slotsUsed = hSl T.heap := eq_of_beq h1
  have h2 : T.slotsUsed = s.slotsUsed + ((T.heap.toList.drop s.heap.size).map (·.slots.size)).sum := X.same.2.2.2.1
  rw [← e0, ← e1]
  exact h2
/-- what the count says of the heap -/
theorem W.know {g : JFrame} (k : H.size ≤ s.heap.size + cells → hSl H ≤ hSl s.heap + slots → W p l e R s m args below meth c H locs cells slots Q g) : W p l e R s m args below meth c H locs cells slots Q g := by
  intro T hT X
  have h1 : H.size ≤ s.heap.size + cells := by rw [← hT]; exact X.same.2.2.1
  have h2 : hSl H ≤ hSl s.heap + slots := by
    have h3 := gr_sl X
    have h4 : ((T.heap.toList.drop s.heap.size).map (·.slots.size)).sum ≤ slots := X.same.2.2.2.2.1
    rw [← hT, h3]
    omega
  exact k h1 h2 T hT X
/-- a smaller count, where the heap says so -/
theorem W.tight {g : JFrame} {cells' slots' : Nat} (h1 : H.size ≤ s.heap.size + cells') (h2 : hSl H ≤ hSl s.heap + slots') (k : W p l e R s m args below meth c H locs cells' slots' Q g) : W p l e R s m args below meth c H locs cells slots Q g := by
  intro T hT X
  have h3 := gr_sl X
  refine k T hT { X with same := ⟨X.same.1, X.same.2.1, by subst hT; exact h1, X.same.2.2.2.1, ?_, X.same.2.2.2.2.2⟩ }
  show ((T.heap.toList.drop s.heap.size).map (·.slots.size)).sum ≤ slots'
  rw [hT] at h3
  rw [hT]
  omega
end GR1
def my_Pg (D : va_G) (cl : List vw_C) (tys : List (ClassId × FieldType)) (wc : va_W) (sz sl : Nat) (U : State) : Prop := my_P D cl tys wc sz U ∧ hSl U.heap = sl
def my_Bg {S : Type} (D : va_G) (cl : List vw_C) (tys : List (ClassId × FieldType)) (w1 : S → va_W) (A : Nat → Prop) (sz sl f0 : Nat) (ph : S → Nat) (u : S) (t : State) : Prop := my_B D cl tys w1 A u t ∧ t.heap.size + ph u ≤ sz + f0 ∧ hSl t.heap + ph u ≤ sl + f0
abbrev MetIg {S : Type} (l : Launch) (y : MethodName) (ws : List Cond) (rm : Room) (D : va_G) (cl : List vw_C) (tys : List (ClassId × FieldType)) (av : List Value) (wc : va_W) (sz sl : Nat) (post : Int32 → S → Prop) (w1 : S → va_W) (f0 : Nat) (ph : S → Nat) : Prop :=
  Met l y ws rm (va_Pc av (my_Pg D cl tys wc sz sl)) (va_Qi post (my_Bg D cl tys w1 (va_A wc sz) sz sl f0 ph) (va_A wc sz)) f0 f0 (va_A wc sz)
abbrev MetVg {S : Type} (l : Launch) (y : MethodName) (ws : List Cond) (rm : Room) (D : va_G) (cl : List vw_C) (tys : List (ClassId × FieldType)) (av : List Value) (wc : va_W) (sz sl : Nat) (post : S → Prop) (w1 : S → va_W) (f0 : Nat) (ph : S → Nat) : Prop :=
  Met l y ws rm (va_Pc av (my_Pg D cl tys wc sz sl)) (va_Qv post (my_Bg D cl tys w1 (va_A wc sz) sz sl f0 ph) (va_A wc sz)) f0 f0 (va_A wc sz)
abbrev MetQg {S : Type} (l : Launch) (y : MethodName) (ws : List Cond) (rm : Room) (D : va_G) (cl : List vw_C) (tys : List (ClassId × FieldType)) (av : List Value) (wc : va_W) (sz sl : Nat) (post : Option Nat → S → Prop) (w1 : S → va_W) (f0 : Nat) (ph : S → Nat) : Prop :=
  Met l y ws rm (va_Pc av (my_Pg D cl tys wc sz sl)) (va_Qq post (my_Bg D cl tys w1 (va_A wc sz) sz sl f0 ph) (va_A wc sz)) f0 f0 (va_A wc sz)
theorem my_ofg {l : Launch} {y : MethodName} {ws ws' : List Cond} {rm : Room} {D : va_G} {cl : List vw_C} {tys : List (ClassId × FieldType)} {av : List Value} {wc : va_W} {sz sl mc ms n : Nat} {cc : ByteArray} {ret : Option FieldType} {QF : (Nat → Prop) → Nat → Nat → Array Value → State → Outcome → State → Prop}
    (hy : plainName y.cls = true) (hw : ws = Cond.code y cc n ret :: ws') (hn : (lg_sl av).length ≤ n)
    (body : ∀ (p : Program) (e : Env) (s : State) (m : MethodId) (args : Array Value) (below : List Frame) (meth : Method) (c : Code) (R : Room) (Q : State → Prop) (A : Nat → Prop) (ls : Array Slot) (H : Heap) (locs : List Loc), p.tables.exec = Jvm.exec → c.code = cc → meth.sig.returnType = ret → (∀ w ∈ ws, w.before args s = true) → s.vm.findClass y.cls = some m.cls → meth.locks = false → c.maxLocals = n → meth.name = y.name → R = rm → Q = MQ below (QF A s.heap.size (hSl s.heap)) args s mc ms A → (∀ q : Nat, s.heap.size ≤ q → A q) → lv_has ls n (lv_args 0 av) → va_P D cl wc H → va_K D cl tys s → nw s → va_D A wc → va_S A s.heap H locs → W p l e R s m args below meth c H locs 0 0 Q (F0 m 0 ls [])) :
    Met l y ws rm (va_Pc av (my_Pg D cl tys wc sz sl)) (QF (va_A wc sz) sz sl) mc ms (va_A wc sz) := by
  refine Met.ofW (cc := cc) (maxL := n) (ret := ret) hy hw ?_
  intro p e s m args below meth c s₁ B hml hv
  obtain ⟨ha, ⟨hsz, hP, ⟨hK, hN⟩, hD0⟩, hsl⟩ := hv
  subst hsz
  subst hsl
  refine W.eq (g2 := F0 m 0 ((lg_sl av ++ List.replicate (n - (lg_sl av).length) Slot.unset).toArray) []) (by rw [ha]; exact lg_entry_eq m av n) ?_
  exact body p e s m args below meth c _ _ (va_A wc s.heap.size) _ _ _ B.exec B.bytes B.returns (atoms_spec (ws := ws) B.pre) (findClass_of_methodNamed B.named) B.notSynchronized hml (name_of_methodNamed B.named B.method).1 rfl rfl (fun q h => Or.inr h) (lv_entry av hn) hP hK hN hD0.self va_S.rf
theorem my_ofIg {S : Type} {l : Launch} {y : MethodName} {ws ws' : List Cond} {rm : Room} {D : va_G} {cl : List vw_C} {tys : List (ClassId × FieldType)} {av : List Value} {wc : va_W} {sz sl f0 n : Nat} {cc : ByteArray} {ret : Option FieldType} {post : Int32 → S → Prop} {w1 : S → va_W} {ph : S → Nat}
    (hy : plainName y.cls = true) (hw : ws = Cond.code y cc n ret :: ws') (hn : (lg_sl av).length ≤ n)
    (body : ∀ (p : Program) (e : Env) (s : State) (m : MethodId) (args : Array Value) (below : List Frame) (meth : Method) (c : Code) (R : Room) (Q : State → Prop) (A : Nat → Prop) (ls : Array Slot) (H : Heap) (locs : List Loc), p.tables.exec = Jvm.exec → c.code = cc → meth.sig.returnType = ret → (∀ w ∈ ws, w.before args s = true) → s.vm.findClass y.cls = some m.cls → meth.locks = false → c.maxLocals = n → meth.name = y.name → R = rm → Q = MQ below (va_Qi post (my_Bg D cl tys w1 A s.heap.size (hSl s.heap) f0 ph) A) args s f0 f0 A → (∀ q : Nat, s.heap.size ≤ q → A q) → lv_has ls n (lv_args 0 av) → va_P D cl wc H → va_K D cl tys s → nw s → va_D A wc → va_S A s.heap H locs → W p l e R s m args below meth c H locs 0 0 Q (F0 m 0 ls [])) :
    MetIg l y ws rm D cl tys av wc sz sl post w1 f0 ph := my_ofg (QF := fun A sz sl => va_Qi post (my_Bg D cl tys w1 A sz sl f0 ph) A) hy hw hn body
theorem my_ofVg {S : Type} {l : Launch} {y : MethodName} {ws ws' : List Cond} {rm : Room} {D : va_G} {cl : List vw_C} {tys : List (ClassId × FieldType)} {av : List Value} {wc : va_W} {sz sl f0 n : Nat} {cc : ByteArray} {ret : Option FieldType} {post : S → Prop} {w1 : S → va_W} {ph : S → Nat}
    (hy : plainName y.cls = true) (hw : ws = Cond.code y cc n ret :: ws') (hn : (lg_sl av).length ≤ n)
    (body : ∀ (p : Program) (e : Env) (s : State) (m : MethodId) (args : Array Value) (below : List Frame) (meth : Method) (c : Code) (R : Room) (Q : State → Prop) (A : Nat → Prop) (ls : Array Slot) (H : Heap) (locs : List Loc), p.tables.exec = Jvm.exec → c.code = cc → meth.sig.returnType = ret → (∀ w ∈ ws, w.before args s = true) → s.vm.findClass y.cls = some m.cls → meth.locks = false → c.maxLocals = n → meth.name = y.name → R = rm → Q = MQ below (va_Qv post (my_Bg D cl tys w1 A s.heap.size (hSl s.heap) f0 ph) A) args s f0 f0 A → (∀ q : Nat, s.heap.size ≤ q → A q) → lv_has ls n (lv_args 0 av) → va_P D cl wc H → va_K D cl tys s → nw s → va_D A wc → va_S A s.heap H locs → W p l e R s m args below meth c H locs 0 0 Q (F0 m 0 ls [])) :
    MetVg l y ws rm D cl tys av wc sz sl post w1 f0 ph := my_ofg (QF := fun A sz sl => va_Qv post (my_Bg D cl tys w1 A sz sl f0 ph) A) hy hw hn body
theorem my_ofQg {S : Type} {l : Launch} {y : MethodName} {ws ws' : List Cond} {rm : Room} {D : va_G} {cl : List vw_C} {tys : List (ClassId × FieldType)} {av : List Value} {wc : va_W} {sz sl f0 n : Nat} {cc : ByteArray} {ret : Option FieldType} {post : Option Nat → S → Prop} {w1 : S → va_W} {ph : S → Nat}
    (hy : plainName y.cls = true) (hw : ws = Cond.code y cc n ret :: ws') (hn : (lg_sl av).length ≤ n)
    (body : ∀ (p : Program) (e : Env) (s : State) (m : MethodId) (args : Array Value) (below : List Frame) (meth : Method) (c : Code) (R : Room) (Q : State → Prop) (A : Nat → Prop) (ls : Array Slot) (H : Heap) (locs : List Loc), p.tables.exec = Jvm.exec → c.code = cc → meth.sig.returnType = ret → (∀ w ∈ ws, w.before args s = true) → s.vm.findClass y.cls = some m.cls → meth.locks = false → c.maxLocals = n → meth.name = y.name → R = rm → Q = MQ below (va_Qq post (my_Bg D cl tys w1 A s.heap.size (hSl s.heap) f0 ph) A) args s f0 f0 A → (∀ q : Nat, s.heap.size ≤ q → A q) → lv_has ls n (lv_args 0 av) → va_P D cl wc H → va_K D cl tys s → nw s → va_D A wc → va_S A s.heap H locs → W p l e R s m args below meth c H locs 0 0 Q (F0 m 0 ls [])) :
    MetQg l y ws rm D cl tys av wc sz sl post w1 f0 ph := my_ofg (QF := fun A sz sl => va_Qq post (my_Bg D cl tys w1 A sz sl f0 ph) A) hy hw hn body
section MYG
variable {p : Program} {l : Launch} {e : Env} {R : Room} {s : State} {m : MethodId} {args : Array Value} {below : List Frame} {meth : Method} {c : Code} {H : Heap} {locs : List Loc} {cells slots : Nat} {Q : State → Prop}
variable {cc : ByteArray} {pc : Nat} {ls : Array Slot} {rest st0 : List Value} {D : va_G} {cl : List vw_C} {tys : List (ClassId × FieldType)} {A : Nat → Prop} {f0 : Nat} {a : Array Value}
theorem my_iretg {S : Type} {post : Int32 → S → Prop} {w1 : S → va_W} {ph : S → Nat} {v : Int32} {rt : FieldType} (hx : p.tables.exec = Jvm.exec) (hb : c.code = cc) (hr : meth.sig.returnType = some rt) (hn : narrow rt (.int v) = .int v) (hlocks : meth.locks = false) (hQ : Q = MQ below (va_Qi post (my_Bg D cl tys w1 A s.heap.size (hSl s.heap) f0 ph) A) args s f0 f0 A) (hK : va_K D cl tys s) (hS : va_S A s.heap H locs) (u : S) (hc : cells + ph u ≤ f0) (hsl : slots + ph u ≤ f0) (hp : post v u) (hP : va_P D cl (w1 u) H) (hD : va_D A (w1 u)) (hdg : decode cc pc = .ok (.ireturn, 1)) : W p l e R s m args below meth c H locs cells slots Q (F0 m pc ls [Value.int v]) := by
  subst hQ
  refine W.know (fun k1 k2 => ?_)
  refine W.widen (show cells ≤ f0 by omega) (show slots ≤ f0 by omega) ?_
  exact W.zret (v := v) hx hb hr hn (fun t ht hW => ⟨⟨v, u, rfl, hp, ⟨by rw [ht]; exact hP, va_K.moved hW.alike hK, hD⟩, by rw [ht]; omega, by rw [ht]; omega⟩, hS.F ht⟩) hS.2.2 hdg hlocks
theorem my_vretg {S : Type} {post : S → Prop} {w1 : S → va_W} {ph : S → Nat} (hx : p.tables.exec = Jvm.exec) (hb : c.code = cc) (hr : meth.sig.returnType = none) (hlocks : meth.locks = false) (hQ : Q = MQ below (va_Qv post (my_Bg D cl tys w1 A s.heap.size (hSl s.heap) f0 ph) A) args s f0 f0 A) (hK : va_K D cl tys s) (hS : va_S A s.heap H locs) (u : S) (hc : cells + ph u ≤ f0) (hsl : slots + ph u ≤ f0) (hp : post u) (hP : va_P D cl (w1 u) H) (hD : va_D A (w1 u)) (hdg : decode cc pc = .ok (.return_, 1)) : W p l e R s m args below meth c H locs cells slots Q (F0 m pc ls []) := by
  subst hQ
  refine W.know (fun k1 k2 => ?_)
  refine W.widen (show cells ≤ f0 by omega) (show slots ≤ f0 by omega) ?_
  exact W.vret hx hb hr (fun t ht hW => ⟨⟨u, rfl, hp, ⟨by rw [ht]; exact hP, va_K.moved hW.alike hK, hD⟩, by rw [ht]; omega, by rw [ht]; omega⟩, hS.F ht⟩) hS.2.2 hdg hlocks
theorem my_qretg {S : Type} {post : Option Nat → S → Prop} {w1 : S → va_W} {ph : S → Nat} {v : Option Nat} {rt : FieldType} (hx : p.tables.exec = Jvm.exec) (hb : c.code = cc) (hr : meth.sig.returnType = some rt) (hrt : (∃ n, rt = .object n) ∨ ∃ t, rt = .array t) (hlocks : meth.locks = false) (hQ : Q = MQ below (va_Qq post (my_Bg D cl tys w1 A s.heap.size (hSl s.heap) f0 ph) A) args s f0 f0 A) (hK : va_K D cl tys s) (hS : va_S A s.heap H locs) (u : S) (hc : cells + ph u ≤ f0) (hsl : slots + ph u ≤ f0) (hp : post v u) (hP : va_P D cl (w1 u) H) (hD : va_D A (w1 u)) (hdg : decode cc pc = .ok (.areturn, 1)) : W p l e R s m args below meth c H locs cells slots Q (F0 m pc ls [va_rf v]) := by
  subst hQ
  refine W.know (fun k1 k2 => ?_)
  refine W.widen (show cells ≤ f0 by omega) (show slots ≤ f0 by omega) ?_
  exact W.aret (v := va_rf v) hx hb hr hrt (va_rf_or v) (fun t ht hW => ⟨⟨v, u, rfl, hp, ⟨by rw [ht]; exact hP, va_K.moved hW.alike hK, hD⟩, by rw [ht]; omega, by rw [ht]; omega⟩, hS.F ht⟩) hS.2.2 hdg hlocks
theorem my_preg {wc : va_W} {As : List Value} (hK : va_K D cl tys s) (hN : nw s) (hPc : va_P D cl wc H) (hDc : va_D A wc) : FrameBlind (va_Pc As (my_Pg D cl tys wc H.size (hSl H))) ∧ ∀ U : State, U.heap = H → s.WarmedH U.vm → va_Pc As (my_Pg D cl tys wc H.size (hSl H)) As.toArray U :=
  ⟨fun a U g mk q => ⟨q.1, ⟨q.2.1.1, q.2.1.2.1, ⟨va_K.moved (u := U) (U := U.calling g mk a) (Vm.Alike.refl U.vm) q.2.1.2.2.1.1, nw.same (s := U) (U := U.calling g mk a) rfl q.2.1.2.2.1.2⟩, q.2.1.2.2.2⟩, q.2.2⟩, fun U hU hW => ⟨rfl, ⟨by rw [hU], by rw [hU]; exact hPc, ⟨va_K.moved hW.alike hK, nw.warm hW hN⟩, hDc.weaken (fun _ _ _ _ => trivial)⟩, by rw [hU]⟩⟩
theorem my_preVg {wc : va_W} {As : List Value} {b : Nat} {ci : Nat} {fs : List Value} {C9 : String} {T9 : u_T} {N9 : Nat} (hK : va_K D cl tys s) (hN : nw s) (hPc : va_P D cl wc H) (hDc : va_D A wc) (q0 : Nat) (h0 : wc[q0]? = some (b, Sum.inr (ci, fs))) (hc : cl[ci]? = some (C9, T9, N9)) : PreV s H C9 b (va_Pc (.ref b :: As) (my_Pg D cl tys wc H.size (hSl H))) As :=
  ⟨(my_preg (As := .ref b :: As) hK hN hPc hDc).1, va_recv hK hPc (ci := ci) (q0 := q0) hc h0, (my_preg (As := .ref b :: As) hK hN hPc hDc).2⟩
theorem my_freeT {X wc pl : va_W} (hD : va_D A (X ++ pl)) (hS : va_S A s.heap H locs) (hA : ∀ q : Nat, s.heap.size ≤ q → A q) (isC : List Nat) (hC : isC.map (fun i => X[i]?) = wc.map some) : ∀ q, va_A wc H.size q → A q := by
  intro q h
  rcases h with ⟨k, e, h⟩ | h
  · have h2 := va_part (pl := pl) isC hC k (q, e) (by rw [List.getElem?_append_left (by exact (List.getElem?_eq_some_iff.mp h).1)]; exact h)
    exact hD.2 _ (q, e) h2
  · exact hA q (Nat.le_trans hS.1 h)
theorem my_cigt {S : Type} {post : Int32 → S → Prop} {w1 : S → va_W} {ph : S → Nat} {X wc wr pl : va_W} (hr : va_Run p l e R s m args below meth c H locs cells slots f0 f0 (F0 m pc ls st0) rest (va_Qi post (my_Bg D cl tys w1 (va_A wc H.size) H.size (hSl H) f0 ph) (va_A wc H.size) a) (va_A wc H.size)) (hP : va_P D cl (X ++ pl) H) (hD : va_D A (X ++ pl)) (hS : va_S A s.heap H locs) (hA : ∀ q : Nat, s.heap.size ≤ q → A q) (isC isR : List Nat) (hC : isC.map (fun i => X[i]?) = wc.map some) (hR : isR.map (fun i => X[i]?) = wr.map some) (hn : va_nd isR = true) (hdis : ∀ i ∈ isR, i ∉ isC)
    (kk : ∀ (r : Int32) (u : S) (d : Nat) (H1 : Heap) (locs1 : List Loc), d + ph u ≤ f0 → post r u → va_P D cl ((wr ++ w1 u) ++ pl) H1 → va_D A ((wr ++ w1 u) ++ pl) → va_S A s.heap H1 locs1 → W p l e R s m args below meth c H1 locs1 (cells + d) (slots + d) Q (F0 m (pc + 3) ls (.int r :: rest))) : W p l e R s m args below meth c H locs cells slots Q (F0 m pc ls st0) := by
  refine W.know (fun k1 k2 => ?_)
  have hFc : ∀ q, va_A wc H.size q → A q := my_freeT hD hS hA isC hC
  refine va_calli hr hS (fun q _ h => hFc q h) hFc (fun r u t H1 locs1 ht hvm hw hB hz1 hk1 hS1 => ?_)
  obtain ⟨⟨hP1, hK1, hD1⟩, g1, g2⟩ := hB
  rw [ht] at hP1 g1 g2
  obtain ⟨hP2, hD2⟩ := va_joinQ hP hD isC isR hC hR hn hdis hk1 hFc hP1 hD1
  refine W.tight (cells' := cells + (f0 - ph u)) (slots' := slots + (f0 - ph u)) (by omega) (by omega) ?_
  exact kk r u (f0 - ph u) H1 locs1 (by omega) hw hP2 hD2 hS1
theorem my_cit {S : Type} {post : Int32 → S → Prop} {w1 : S → va_W} {mc ms : Nat} {X wc wr pl : va_W} (hr : va_Run p l e R s m args below meth c H locs cells slots mc ms (F0 m pc ls st0) rest (va_Qi post (my_B D cl tys w1 (va_A wc H.size)) (va_A wc H.size) a) (va_A wc H.size)) (hP : va_P D cl (X ++ pl) H) (hD : va_D A (X ++ pl)) (hS : va_S A s.heap H locs) (hA : ∀ q : Nat, s.heap.size ≤ q → A q) (isC isR : List Nat) (hC : isC.map (fun i => X[i]?) = wc.map some) (hR : isR.map (fun i => X[i]?) = wr.map some) (hn : va_nd isR = true) (hdis : ∀ i ∈ isR, i ∉ isC)
    (kk : ∀ (r : Int32) (u : S) (H1 : Heap) (locs1 : List Loc), post r u → va_P D cl ((wr ++ w1 u) ++ pl) H1 → va_D A ((wr ++ w1 u) ++ pl) → va_S A s.heap H1 locs1 → W p l e R s m args below meth c H1 locs1 (cells + mc) (slots + ms) Q (F0 m (pc + 3) ls (.int r :: rest))) : W p l e R s m args below meth c H locs cells slots Q (F0 m pc ls st0) := by
  have hFc : ∀ q, va_A wc H.size q → A q := my_freeT hD hS hA isC hC
  refine va_calli hr hS (fun q _ h => hFc q h) hFc (fun r u t H1 locs1 ht hvm hw hB hz1 hk1 hS1 => ?_)
  obtain ⟨hP1, hK1, hD1⟩ := hB
  rw [ht] at hP1
  obtain ⟨hP2, hD2⟩ := va_joinQ hP hD isC isR hC hR hn hdis hk1 hFc hP1 hD1
  exact kk r u H1 locs1 hw hP2 hD2 hS1
theorem my_clt {S : Type} {post : Int64 → S → Prop} {w1 : S → va_W} {mc ms : Nat} {X wc wr pl : va_W} (hr : va_Run p l e R s m args below meth c H locs cells slots mc ms (F0 m pc ls st0) rest (va_Ql post (my_B D cl tys w1 (va_A wc H.size)) (va_A wc H.size) a) (va_A wc H.size)) (hP : va_P D cl (X ++ pl) H) (hD : va_D A (X ++ pl)) (hS : va_S A s.heap H locs) (hA : ∀ q : Nat, s.heap.size ≤ q → A q) (isC isR : List Nat) (hC : isC.map (fun i => X[i]?) = wc.map some) (hR : isR.map (fun i => X[i]?) = wr.map some) (hn : va_nd isR = true) (hdis : ∀ i ∈ isR, i ∉ isC)
    (kk : ∀ (r : Int64) (u : S) (H1 : Heap) (locs1 : List Loc), post r u → va_P D cl ((wr ++ w1 u) ++ pl) H1 → va_D A ((wr ++ w1 u) ++ pl) → va_S A s.heap H1 locs1 → W p l e R s m args below meth c H1 locs1 (cells + mc) (slots + ms) Q (F0 m (pc + 3) ls (.long r :: rest))) : W p l e R s m args below meth c H locs cells slots Q (F0 m pc ls st0) := by
  have hFc : ∀ q, va_A wc H.size q → A q := my_freeT hD hS hA isC hC
  refine va_calll hr hS (fun q _ h => hFc q h) hFc (fun r u t H1 locs1 ht hvm hw hB hz1 hk1 hS1 => ?_)
  obtain ⟨hP1, hK1, hD1⟩ := hB
  rw [ht] at hP1
  obtain ⟨hP2, hD2⟩ := va_joinQ hP hD isC isR hC hR hn hdis hk1 hFc hP1 hD1
  exact kk r u H1 locs1 hw hP2 hD2 hS1
theorem my_cvg {S : Type} {post : S → Prop} {w1 : S → va_W} {ph : S → Nat} {ws wc wr : va_W} (hr : va_Run p l e R s m args below meth c H locs cells slots f0 f0 (F0 m pc ls st0) rest (va_Qv post (my_Bg D cl tys w1 (va_A wc H.size) H.size (hSl H) f0 ph) (va_A wc H.size) a) (va_A wc H.size)) (hP : va_P D cl ws H) (hD : va_D A ws) (hS : va_S A s.heap H locs) (hA : ∀ q : Nat, s.heap.size ≤ q → A q) (isC isR : List Nat) (hC : isC.map (fun i => ws[i]?) = wc.map some) (hR : isR.map (fun i => ws[i]?) = wr.map some) (hn : va_nd isR = true) (hdis : ∀ i ∈ isR, i ∉ isC)
    (kk : ∀ (u : S) (d : Nat) (H1 : Heap) (locs1 : List Loc), d + ph u ≤ f0 → post u → va_P D cl (wr ++ w1 u) H1 → va_D A (wr ++ w1 u) → va_S A s.heap H1 locs1 → W p l e R s m args below meth c H1 locs1 (cells + d) (slots + d) Q (F0 m (pc + 3) ls rest)) : W p l e R s m args below meth c H locs cells slots Q (F0 m pc ls st0) := by
  refine W.know (fun k1 k2 => ?_)
  have hFc : ∀ q, va_A wc H.size q → A q := va_free (wc := wc) hD hS hA isC hC
  refine va_callv hr hS (fun q _ h => hFc q h) hFc (fun u t H1 locs1 ht hvm hw hB hz1 hk1 hS1 => ?_)
  obtain ⟨⟨hP1, hK1, hD1⟩, g1, g2⟩ := hB
  rw [ht] at hP1 g1 g2
  obtain ⟨hP2, hD2⟩ := va_join hP hD isC isR hC hR hn hdis hk1 hFc hP1 hD1
  refine W.tight (cells' := cells + (f0 - ph u)) (slots' := slots + (f0 - ph u)) (by omega) (by omega) ?_
  exact kk u (f0 - ph u) H1 locs1 (by omega) hw hP2 hD2 hS1
theorem my_cvgt {S : Type} {post : S → Prop} {w1 : S → va_W} {ph : S → Nat} {X wc wr pl : va_W} (hr : va_Run p l e R s m args below meth c H locs cells slots f0 f0 (F0 m pc ls st0) rest (va_Qv post (my_Bg D cl tys w1 (va_A wc H.size) H.size (hSl H) f0 ph) (va_A wc H.size) a) (va_A wc H.size)) (hP : va_P D cl (X ++ pl) H) (hD : va_D A (X ++ pl)) (hS : va_S A s.heap H locs) (hA : ∀ q : Nat, s.heap.size ≤ q → A q) (isC isR : List Nat) (hC : isC.map (fun i => X[i]?) = wc.map some) (hR : isR.map (fun i => X[i]?) = wr.map some) (hn : va_nd isR = true) (hdis : ∀ i ∈ isR, i ∉ isC)
    (kk : ∀ (u : S) (d : Nat) (H1 : Heap) (locs1 : List Loc), d + ph u ≤ f0 → post u → va_P D cl ((wr ++ w1 u) ++ pl) H1 → va_D A ((wr ++ w1 u) ++ pl) → va_S A s.heap H1 locs1 → W p l e R s m args below meth c H1 locs1 (cells + d) (slots + d) Q (F0 m (pc + 3) ls rest)) : W p l e R s m args below meth c H locs cells slots Q (F0 m pc ls st0) := by
  refine W.know (fun k1 k2 => ?_)
  have hFc : ∀ q, va_A wc H.size q → A q := my_freeT hD hS hA isC hC
  refine va_callv hr hS (fun q _ h => hFc q h) hFc (fun u t H1 locs1 ht hvm hw hB hz1 hk1 hS1 => ?_)
  obtain ⟨⟨hP1, hK1, hD1⟩, g1, g2⟩ := hB
  rw [ht] at hP1 g1 g2
  obtain ⟨hP2, hD2⟩ := va_joinQ hP hD isC isR hC hR hn hdis hk1 hFc hP1 hD1
  refine W.tight (cells' := cells + (f0 - ph u)) (slots' := slots + (f0 - ph u)) (by omega) (by omega) ?_
  exact kk u (f0 - ph u) H1 locs1 (by omega) hw hP2 hD2 hS1
theorem my_cvt {S : Type} {post : S → Prop} {w1 : S → va_W} {mc ms : Nat} {X wc wr pl : va_W} (hr : va_Run p l e R s m args below meth c H locs cells slots mc ms (F0 m pc ls st0) rest (va_Qv post (my_B D cl tys w1 (va_A wc H.size)) (va_A wc H.size) a) (va_A wc H.size)) (hP : va_P D cl (X ++ pl) H) (hD : va_D A (X ++ pl)) (hS : va_S A s.heap H locs) (hA : ∀ q : Nat, s.heap.size ≤ q → A q) (isC isR : List Nat) (hC : isC.map (fun i => X[i]?) = wc.map some) (hR : isR.map (fun i => X[i]?) = wr.map some) (hn : va_nd isR = true) (hdis : ∀ i ∈ isR, i ∉ isC)
    (kk : ∀ (u : S) (H1 : Heap) (locs1 : List Loc), post u → va_P D cl ((wr ++ w1 u) ++ pl) H1 → va_D A ((wr ++ w1 u) ++ pl) → va_S A s.heap H1 locs1 → W p l e R s m args below meth c H1 locs1 (cells + mc) (slots + ms) Q (F0 m (pc + 3) ls rest)) : W p l e R s m args below meth c H locs cells slots Q (F0 m pc ls st0) := by
  have hFc : ∀ q, va_A wc H.size q → A q := my_freeT hD hS hA isC hC
  refine va_callv hr hS (fun q _ h => hFc q h) hFc (fun u t H1 locs1 ht hvm hw hB hz1 hk1 hS1 => ?_)
  obtain ⟨hP1, hK1, hD1⟩ := hB
  rw [ht] at hP1
  obtain ⟨hP2, hD2⟩ := va_joinQ hP hD isC isR hC hR hn hdis hk1 hFc hP1 hD1
  exact kk u H1 locs1 hw hP2 hD2 hS1
theorem my_cqg {S : Type} {post : Option Nat → S → Prop} {w1 : S → va_W} {ph : S → Nat} {ws wc wr : va_W} (hr : va_Run p l e R s m args below meth c H locs cells slots f0 f0 (F0 m pc ls st0) rest (va_Qq post (my_Bg D cl tys w1 (va_A wc H.size) H.size (hSl H) f0 ph) (va_A wc H.size) a) (va_A wc H.size)) (hP : va_P D cl ws H) (hD : va_D A ws) (hS : va_S A s.heap H locs) (hA : ∀ q : Nat, s.heap.size ≤ q → A q) (isC isR : List Nat) (hC : isC.map (fun i => ws[i]?) = wc.map some) (hR : isR.map (fun i => ws[i]?) = wr.map some) (hn : va_nd isR = true) (hdis : ∀ i ∈ isR, i ∉ isC)
    (kk : ∀ (r : Option Nat) (u : S) (d : Nat) (H1 : Heap) (locs1 : List Loc), d + ph u ≤ f0 → post r u → va_P D cl (wr ++ w1 u) H1 → va_D A (wr ++ w1 u) → va_S A s.heap H1 locs1 → W p l e R s m args below meth c H1 locs1 (cells + d) (slots + d) Q (F0 m (pc + 3) ls (va_rf r :: rest))) : W p l e R s m args below meth c H locs cells slots Q (F0 m pc ls st0) := by
  refine W.know (fun k1 k2 => ?_)
  have hFc : ∀ q, va_A wc H.size q → A q := va_free (wc := wc) hD hS hA isC hC
  refine va_callq hr hS (fun q _ h => hFc q h) hFc (fun r u t H1 locs1 ht hvm hw hB hz1 hk1 hS1 => ?_)
  obtain ⟨⟨hP1, hK1, hD1⟩, g1, g2⟩ := hB
  rw [ht] at hP1 g1 g2
  obtain ⟨hP2, hD2⟩ := va_join hP hD isC isR hC hR hn hdis hk1 hFc hP1 hD1
  refine W.tight (cells' := cells + (f0 - ph u)) (slots' := slots + (f0 - ph u)) (by omega) (by omega) ?_
  exact kk r u (f0 - ph u) H1 locs1 (by omega) hw hP2 hD2 hS1
end MYG
theorem my_gU {y0 y : MethodName} {b0 b : ByteArray} {n0 n : Nat} {r0 r : Option FieldType} {x : MethodName} {own C owner : String} {idx : Nat} (h0 : Cond.methodLink own idx x ∈ gw) (h1 : Cond.sameMethod x.cls owner x.name x.desc ∈ gw) (h2 : Cond.selects C x y ∈ gw) (h3 : Cond.instanceMethod y ∈ gw) (h4 : Cond.initialized y.cls ∈ gw) (h5 : Cond.code y b n r ∈ gw) : GoodIn (Cond.code y0 b0 n0 r0 :: gw) (va_wsU own idx C owner x y (Cond.code y b n r :: gw)) := by
  intro w hw
  have hw' : w ∈ gw := by
    unfold va_wsU at hw
    simp only [List.cons_append, List.nil_append, List.mem_cons] at hw
    rcases hw with rfl | rfl | rfl | rfl | rfl | rfl | h
    · exact h0
    · exact h1
    · exact h2
    · exact h3
    · exact h4
    · exact h5
    · exact h
  exact ⟨List.mem_cons_of_mem _ hw', (gw_good w hw').2⟩
theorem my_gO {y0 y : MethodName} {b0 b : ByteArray} {n0 n : Nat} {r0 r : Option FieldType} {x : MethodName} {own C owner : String} {idx : Nat} (h0 : Cond.methodLink own idx x ∈ gw) (h1 : Cond.sameMethod x.cls owner x.name x.desc ∈ gw) (h2 : Cond.instanceMethod ⟨owner, x.name, x.desc⟩ ∈ gw) (h3 : Cond.selects C x y ∈ gw) (h4 : Cond.instanceMethod y ∈ gw) (h5 : Cond.initialized y.cls ∈ gw) (h6 : Cond.code y b n r ∈ gw) : GoodIn (Cond.code y0 b0 n0 r0 :: gw) (va_wsO own idx C owner x y (Cond.code y b n r :: gw)) := by
  intro w hw
  have hw' : w ∈ gw := by
    unfold va_wsO at hw
    simp only [List.cons_append, List.nil_append, List.mem_cons] at hw
    rcases hw with rfl | rfl | rfl | rfl | rfl | rfl | rfl | h
    · exact h0
    · exact h1
    · exact h2
    · exact h3
    · exact h4
    · exact h5
    · exact h6
    · exact h
  exact ⟨List.mem_cons_of_mem _ hw', (gw_good w hw').2⟩
theorem my_gSU {y0 y : MethodName} {b0 b : ByteArray} {n0 n : Nat} {r0 r : Option FieldType} {own : String} {idx : Nat} (h0 : Cond.methodLink own idx y ∈ gw) (h1 : Cond.sameMethod y.cls y.cls y.name y.desc ∈ gw) (h2 : Cond.superclass own y.cls ∈ gw) (h3 : Cond.instanceMethod y ∈ gw) (h4 : Cond.initialized y.cls ∈ gw) (h5 : Cond.code y b n r ∈ gw) : GoodIn (Cond.code y0 b0 n0 r0 :: gw) (va_wsSU own idx y (Cond.code y b n r :: gw)) := by
  intro w hw
  have hw' : w ∈ gw := by
    unfold va_wsSU at hw
    simp only [List.cons_append, List.nil_append, List.mem_cons] at hw
    rcases hw with rfl | rfl | rfl | rfl | rfl | rfl | h
    · exact h0
    · exact h1
    · exact h2
    · exact h3
    · exact h4
    · exact h5
    · exact h
  exact ⟨List.mem_cons_of_mem _ hw', (gw_good w hw').2⟩
/-! numbers -/
theorem I_up {i j v : Int32} (h : ¬ j ≤ i) (ev : v = i + 1) : v.toInt = i.toInt + 1 ∧ i.toInt < j.toInt := by
  subst ev
  rw [Int32.le_iff_toInt_le] at h
  have := Int32.toInt_lt j
  have := Int32.le_toInt i
  rw [Int32.toInt_add]
  have e1 : (1 : Int32).toInt = 1 := rfl
  rw [e1]
  have e2 : (i.toInt + 1).bmod (2 ^ 32) = i.toInt + 1 := by
    apply Int.bmod_eq_of_le <;> omega
  rw [e2]
  omega
theorem I_dn {i v : Int32} (h : ¬ i < 0) (ev : v = i + (-1)) : v.toInt = i.toInt - 1 ∧ 0 ≤ i.toInt := by
  subst ev
  rw [Int32.lt_iff_toInt_lt] at h
  have e0 : (0 : Int32).toInt = 0 := rfl
  rw [e0] at h
  have := Int32.toInt_lt i
  rw [Int32.toInt_add]
  have e1 : (-1 : Int32).toInt = -1 := rfl
  rw [e1]
  have e2 : (i.toInt + -1).bmod (2 ^ 32) = i.toInt + -1 := by
    apply Int.bmod_eq_of_le <;> omega
  rw [e2]
  omega
theorem I_dnp {i v : Int32} (h : ¬ i ≤ 0) (ev : v = i + (-1)) : v.toInt = i.toInt - 1 ∧ 0 < i.toInt := by
  rw [Int32.le_iff_toInt_le] at h
  have e0 : (0 : Int32).toInt = 0 := rfl
  rw [e0] at h
  have z := I_dn (i := i) (v := v) (by rw [Int32.lt_iff_toInt_lt, e0]; omega) ev
  omega
theorem I_in {i : Int32} {n : Nat} (hn : n < 2 ^ 31) (h0 : 0 ≤ i.toInt) (h1 : ¬ nI n ≤ i) : vp_in i n := by
  refine in_of' hn ?_ h1
  rw [Int32.le_iff_toInt_le]
  exact h0
theorem I_in' {i : Int32} {n : Nat} (hn : n < 2 ^ 31) (h0 : ¬ i < 0) (h1 : ¬ nI n ≤ i) : vp_in i n := by
  refine I_in hn ?_ h1
  rw [Int32.lt_iff_toInt_lt] at h0
  have e0 : (0 : Int32).toInt = 0 := rfl
  rw [e0] at h0
  omega
theorem I_nz {t : Int32} (h : ¬ t ≤ 0) : t ≠ 0 := fun e => h (by rw [e]; decide)
theorem L_nz {t : Int64} (h : ¬ t ≤ 0) : t ≠ 0 := fun e => h (by rw [e]; decide)
theorem L_nzi {t : Int32} (h : ¬ t ≤ 0) : t.toInt64 ≠ 0 := by
  intro h1
  have h2 : t.toInt64.toInt = (0 : Int64).toInt := by rw [h1]
  rw [Int32.toInt_toInt64] at h2
  have e0 : (0 : Int64).toInt = 0 := rfl
  rw [e0] at h2
  apply h
  rw [Int32.le_iff_toInt_le]
  have e1 : (0 : Int32).toInt = 0 := rfl
  rw [e1]
  omega
/-- a row: so many of so much room -/
def rOk (n : Int32) (cap : Nat) : Prop := 0 ≤ n.toInt ∧ n.toInt ≤ cap ∧ 1 ≤ cap ∧ cap ≤ 16384
/-- what a row may still make -/
def rPh (cap : Nat) : Nat := 32768 - 2 * cap
theorem rOk_0 {n : Int32} {cap : Nat} (h : rOk n cap) : rOk 0 cap := ⟨by decide, by have := h.2.2.1; have e : (0 : Int32).toInt = 0 := rfl; omega, h.2.2⟩
theorem rPh_2 {cap : Nat} (h1 : 1 ≤ cap) (h : cap < 8192) : 1 + rPh (2 * cap) ≤ rPh cap ∧ 2 * cap + rPh (2 * cap) ≤ rPh cap := by
  unfold rPh
  omega
theorem I_nzp {t : Int32} (h : 0 < t) : ¬ t = 0 := fun e => by rw [e] at h; exact absurd h (by decide)
theorem I_up9 {i v : Int32} (h : ¬ (9 : Int32) < i) (ev : v = i + 1) : v.toInt = i.toInt + 1 ∧ i.toInt < 10 := by
  have e9 : (9 : Int32).toInt = 9 := rfl
  have e10 : (10 : Int32).toInt = 10 := rfl
  rw [Int32.lt_iff_toInt_lt, e9] at h
  have z := I_up (i := i) (j := 10) (v := v) (by rw [Int32.le_iff_toInt_le, e10]; omega) ev
  rw [e10] at z
  exact z
theorem I_dn8 {i v : Int32} (h : ¬ i < 0) (ev : v = i + (-8)) : v.toInt = i.toInt - 8 ∧ 0 ≤ i.toInt := by
  subst ev
  rw [Int32.lt_iff_toInt_lt] at h
  have e0 : (0 : Int32).toInt = 0 := rfl
  rw [e0] at h
  have := Int32.toInt_lt i
  rw [Int32.toInt_add]
  have e1 : (-8 : Int32).toInt = -8 := rfl
  rw [e1]
  have e2 : (i.toInt + -8).bmod (2 ^ 32) = i.toInt + -8 := by
    apply Int.bmod_eq_of_le <;> omega
  rw [e2]
  omega
theorem I_lenz {i : Int32} {n : Nat} (hn : n < 2 ^ 31) (h0 : ¬ i < 0) (h1 : ¬ nI n ≤ i) : ¬ nI n = 0 := by
  intro h2
  rw [h2] at h1
  rw [Int32.lt_iff_toInt_lt] at h0
  rw [Int32.le_iff_toInt_le] at h1
  omega
theorem rw_dbl (k : Nat) : nI k * 2 = nI (2 * k) := by
  rw [show (2 : Int32) = nI 2 from rfl, Nat.mul_comm 2 k]
  exact pk_mul k 2
theorem nI_inj {a b : Nat} (ha : a < 2 ^ 31) (hb : b < 2 ^ 31) (h : nI a = nI b) : a = b := by
  have h1 : (nI a).toInt = (nI b).toInt := by rw [h]
  rw [nI_toInt ha, nI_toInt hb] at h1
  omega
theorem rOk_2 {n : Int32} {cap : Nat} (h : rOk n cap) (h1 : cap < 8192) : rOk n (2 * cap) := by
  obtain ⟨a, b, c, d⟩ := h
  exact ⟨a, by omega, by omega, by omega⟩
theorem rOk_lt {n : Int32} {cap : Nat} (h : rOk n cap) : cap ≤ 16384 ∧ 1 ≤ cap := ⟨h.2.2.2, h.2.2.1⟩
theorem rw_lt {cap : Nat} (hc : cap ≤ 16384) (h : ¬ (8192 : Int32) ≤ nI cap) : cap < 8192 := by
  rw [Int32.le_iff_toInt_le, nI_toInt (by omega)] at h
  have e : (8192 : Int32).toInt = 8192 := rfl
  rw [e] at h
  omega
section TLS
variable {D : va_G} {cl : List vw_C} {X cx pl : va_W} {H : Heap} {A : Nat → Prop}
theorem my_dubT (h : va_D A (X ++ pl)) (is : List Nat) (hn : va_nd is = true) (hs : is.map (fun i => X[i]?) = cx.map some) : va_D A cx := by
  have h2 := h.part is hn hs
  refine ⟨fun i j p q hi hj e => h2.1 i j p q ?_ ?_ e, fun k q hk => h2.2 k q ?_⟩
  · rw [List.getElem?_append_left (List.getElem?_eq_some_iff.mp hi).1]; exact hi
  · rw [List.getElem?_append_left (List.getElem?_eq_some_iff.mp hj).1]; exact hj
  · rw [List.getElem?_append_left (List.getElem?_eq_some_iff.mp hk).1]; exact hk
end TLS
theorem my_cwS2 {R : Room} {s : State} {args : Array Value} {own : String} {index maxL mc ms : Nat} {y : MethodName} {bytes : ByteArray} {ret : Option FieldType} {Ts ws ws' : List Cond} {rm : Room} (n : Nat) (ht : ∀ w ∈ Ts, w.before args s = true) (hG : GoodIn Ts ws) (hw : ws = Cond.code y bytes maxL ret :: ws') (hrc : rm.cells = mc) (hrs : rm.slots = ms) (hini : (Cond.initialized y.cls).before args s = true) (hl : (Cond.methodLink own index y).before args s = true) (hst : (Cond.static y).before args s = true)
    (hd : y.cls ≠ "java/lang/invoke/MethodHandle" ∧ y.cls ≠ "java/lang/invoke/VarHandle" ∧ (parseMethodDescriptor y.desc).map (fun d => d.parameters.length) = some n) (hR : rm.frames + 1 ≤ R.frames ∧ 8 + (maxL + 11) + rm.locals ≤ R.locals) :
    CallB R s args own index y bytes maxL ret ws rm mc ms n ∧ (Cond.static y).before args s = true := ⟨callB_of n ht hG hw hrc hrs hini hl hd hR, hst⟩
end
section
theorem d_RC_init_0 : decode prog_1_method_1_code 0 = .ok (.aload_n 0, 1) := by decide +kernel
theorem d_RC_init_1 : decode prog_1_method_1_code 1 = .ok (.invokespecial 1, 3) := by decide +kernel
theorem d_RC_init_4 : decode prog_1_method_1_code 4 = .ok (.aload_n 0, 1) := by decide +kernel
theorem d_RC_init_5 : decode prog_1_method_1_code 5 = .ok (.bipush 8, 2) := by decide +kernel
theorem d_RC_init_7 : decode prog_1_method_1_code 7 = .ok (.anewarray 9, 3) := by decide +kernel
theorem d_RC_init_10 : decode prog_1_method_1_code 10 = .ok (.putfield 11, 3) := by decide +kernel
theorem d_RC_init_13 : decode prog_1_method_1_code 13 = .ok (.aload_n 0, 1) := by decide +kernel
theorem d_RC_init_14 : decode prog_1_method_1_code 14 = .ok (.iload_n 1, 1) := by decide +kernel
theorem d_RC_init_15 : decode prog_1_method_1_code 15 = .ok (.iconst 0, 1) := by decide +kernel
theorem d_RC_init_16 : decode prog_1_method_1_code 16 = .ok (.iconst 4, 1) := by decide +kernel
theorem d_RC_init_17 : decode prog_1_method_1_code 17 = .ok (.invokestatic 15, 3) := by decide +kernel
theorem d_RC_init_20 : decode prog_1_method_1_code 20 = .ok (.iload_n 2, 1) := by decide +kernel
theorem d_RC_init_21 : decode prog_1_method_1_code 21 = .ok (.iconst 1, 1) := by decide +kernel
theorem d_RC_init_22 : decode prog_1_method_1_code 22 = .ok (.bipush 10, 2) := by decide +kernel
theorem d_RC_init_24 : decode prog_1_method_1_code 24 = .ok (.invokestatic 15, 3) := by decide +kernel
theorem d_RC_init_27 : decode prog_1_method_1_code 27 = .ok (.invokestatic 19, 3) := by decide +kernel
theorem d_RC_init_30 : decode prog_1_method_1_code 30 = .ok (.putfield 23, 3) := by decide +kernel
theorem d_RC_init_33 : decode prog_1_method_1_code 33 = .ok (.return_, 1) := by decide +kernel
theorem d_RC_nearest_0 : decode prog_1_method_18_code 0 = .ok (.iload_n 1, 1) := by decide +kernel
theorem d_RC_nearest_1 : decode prog_1_method_18_code 1 = .ok (.iload_n 2, 1) := by decide +kernel
theorem d_RC_nearest_2 : decode prog_1_method_18_code 2 = .ok (.iload_n 0, 1) := by decide +kernel
theorem d_RC_nearest_3 : decode prog_1_method_18_code 3 = .ok (.invokestatic 165, 3) := by decide +kernel
theorem d_RC_nearest_6 : decode prog_1_method_18_code 6 = .ok (.invokestatic 114, 3) := by decide +kernel
theorem d_RC_nearest_9 : decode prog_1_method_18_code 9 = .ok (.ireturn, 1) := by decide +kernel
theorem d_RC_coderOf_0 : decode prog_1_method_19_code 0 = .ok (.iload_n 0, 1) := by decide +kernel
theorem d_RC_coderOf_1 : decode prog_1_method_19_code 1 = .ok (.tableswitch 64 0 3 #[31, 39, 47, 56], 31) := by decide +kernel
theorem d_RC_coderOf_32 : decode prog_1_method_19_code 32 = .ok (.new 168, 3) := by decide +kernel
theorem d_RC_coderOf_35 : decode prog_1_method_19_code 35 = .ok (.dup, 1) := by decide +kernel
theorem d_RC_coderOf_36 : decode prog_1_method_19_code 36 = .ok (.invokespecial 170, 3) := by decide +kernel
theorem d_RC_coderOf_39 : decode prog_1_method_19_code 39 = .ok (.areturn, 1) := by decide +kernel
theorem d_RC_coderOf_40 : decode prog_1_method_19_code 40 = .ok (.new 171, 3) := by decide +kernel
theorem d_RC_coderOf_43 : decode prog_1_method_19_code 43 = .ok (.dup, 1) := by decide +kernel
theorem d_RC_coderOf_44 : decode prog_1_method_19_code 44 = .ok (.invokespecial 173, 3) := by decide +kernel
theorem d_RC_coderOf_47 : decode prog_1_method_19_code 47 = .ok (.areturn, 1) := by decide +kernel
theorem d_RC_coderOf_48 : decode prog_1_method_19_code 48 = .ok (.new 174, 3) := by decide +kernel
theorem d_RC_coderOf_51 : decode prog_1_method_19_code 51 = .ok (.dup, 1) := by decide +kernel
theorem d_RC_coderOf_52 : decode prog_1_method_19_code 52 = .ok (.iload_n 1, 1) := by decide +kernel
theorem d_RC_coderOf_53 : decode prog_1_method_19_code 53 = .ok (.invokespecial 176, 3) := by decide +kernel
theorem d_RC_coderOf_56 : decode prog_1_method_19_code 56 = .ok (.areturn, 1) := by decide +kernel
theorem d_RC_coderOf_57 : decode prog_1_method_19_code 57 = .ok (.new 178, 3) := by decide +kernel
theorem d_RC_coderOf_60 : decode prog_1_method_19_code 60 = .ok (.dup, 1) := by decide +kernel
theorem d_RC_coderOf_61 : decode prog_1_method_19_code 61 = .ok (.invokespecial 180, 3) := by decide +kernel
theorem d_RC_coderOf_64 : decode prog_1_method_19_code 64 = .ok (.areturn, 1) := by decide +kernel
theorem d_RC_coderOf_65 : decode prog_1_method_19_code 65 = .ok (.new 181, 3) := by decide +kernel
theorem d_RC_coderOf_68 : decode prog_1_method_19_code 68 = .ok (.dup, 1) := by decide +kernel
theorem d_RC_coderOf_69 : decode prog_1_method_19_code 69 = .ok (.invokespecial 183, 3) := by decide +kernel
theorem d_RC_coderOf_72 : decode prog_1_method_19_code 72 = .ok (.areturn, 1) := by decide +kernel
theorem d_Carries_init_0 : decode prog_3_method_1_code 0 = .ok (.aload_n 0, 1) := by decide +kernel
theorem d_Carries_init_1 : decode prog_3_method_1_code 1 = .ok (.invokespecial 3, 3) := by decide +kernel
theorem d_Carries_init_4 : decode prog_3_method_1_code 4 = .ok (.aload_n 0, 1) := by decide +kernel
theorem d_Carries_init_5 : decode prog_3_method_1_code 5 = .ok (.iconst (-1), 1) := by decide +kernel
theorem d_Carries_init_6 : decode prog_3_method_1_code 6 = .ok (.putfield 9, 3) := by decide +kernel
theorem d_Carries_init_9 : decode prog_3_method_1_code 9 = .ok (.return_, 1) := by decide +kernel
theorem d_Ranged_init_0 : decode prog_8_method_1_code 0 = .ok (.aload_n 0, 1) := by decide +kernel
theorem d_Ranged_init_1 : decode prog_8_method_1_code 1 = .ok (.invokespecial 3, 3) := by decide +kernel
theorem d_Ranged_init_4 : decode prog_8_method_1_code 4 = .ok (.aload_n 0, 1) := by decide +kernel
theorem d_Ranged_init_5 : decode prog_8_method_1_code 5 = .ok (.ldc2_w 9, 3) := by decide +kernel
theorem d_Ranged_init_8 : decode prog_8_method_1_code 8 = .ok (.putfield 11, 3) := by decide +kernel
theorem d_Ranged_init_11 : decode prog_8_method_1_code 11 = .ok (.return_, 1) := by decide +kernel
theorem d_Coder_init_0 : decode prog_4_method_1_code 0 = .ok (.aload_n 0, 1) := by decide +kernel
theorem d_Coder_init_1 : decode prog_4_method_1_code 1 = .ok (.invokespecial 1, 3) := by decide +kernel
theorem d_Coder_init_4 : decode prog_4_method_1_code 4 = .ok (.aload_n 0, 1) := by decide +kernel
theorem d_Coder_init_5 : decode prog_4_method_1_code 5 = .ok (.new 7, 3) := by decide +kernel
theorem d_Coder_init_8 : decode prog_4_method_1_code 8 = .ok (.dup, 1) := by decide +kernel
theorem d_Coder_init_9 : decode prog_4_method_1_code 9 = .ok (.invokespecial 9, 3) := by decide +kernel
theorem d_Coder_init_12 : decode prog_4_method_1_code 12 = .ok (.putfield 10, 3) := by decide +kernel
theorem d_Coder_init_15 : decode prog_4_method_1_code 15 = .ok (.aload_n 0, 1) := by decide +kernel
theorem d_Coder_init_16 : decode prog_4_method_1_code 16 = .ok (.new 7, 3) := by decide +kernel
theorem d_Coder_init_19 : decode prog_4_method_1_code 19 = .ok (.dup, 1) := by decide +kernel
theorem d_Coder_init_20 : decode prog_4_method_1_code 20 = .ok (.invokespecial 9, 3) := by decide +kernel
theorem d_Coder_init_23 : decode prog_4_method_1_code 23 = .ok (.putfield 16, 3) := by decide +kernel
theorem d_Coder_init_26 : decode prog_4_method_1_code 26 = .ok (.aload_n 0, 1) := by decide +kernel
theorem d_Coder_init_27 : decode prog_4_method_1_code 27 = .ok (.new 7, 3) := by decide +kernel
theorem d_Coder_init_30 : decode prog_4_method_1_code 30 = .ok (.dup, 1) := by decide +kernel
theorem d_Coder_init_31 : decode prog_4_method_1_code 31 = .ok (.invokespecial 9, 3) := by decide +kernel
theorem d_Coder_init_34 : decode prog_4_method_1_code 34 = .ok (.putfield 19, 3) := by decide +kernel
theorem d_Coder_init_37 : decode prog_4_method_1_code 37 = .ok (.return_, 1) := by decide +kernel
theorem d_Row_init_0 : decode prog_9_method_1_code 0 = .ok (.aload_n 0, 1) := by decide +kernel
theorem d_Row_init_1 : decode prog_9_method_1_code 1 = .ok (.invokespecial 3, 3) := by decide +kernel
theorem d_Row_init_4 : decode prog_9_method_1_code 4 = .ok (.aload_n 0, 1) := by decide +kernel
theorem d_Row_init_5 : decode prog_9_method_1_code 5 = .ok (.bipush 64, 2) := by decide +kernel
theorem d_Row_init_7 : decode prog_9_method_1_code 7 = .ok (.newarray .int, 2) := by decide +kernel
theorem d_Row_init_9 : decode prog_9_method_1_code 9 = .ok (.putfield 11, 3) := by decide +kernel
theorem d_Row_init_12 : decode prog_9_method_1_code 12 = .ok (.return_, 1) := by decide +kernel
theorem d_NoCarries_init_0 : decode prog_6_method_1_code 0 = .ok (.aload_n 0, 1) := by decide +kernel
theorem d_NoCarries_init_1 : decode prog_6_method_1_code 1 = .ok (.invokespecial 3, 3) := by decide +kernel
theorem d_NoCarries_init_4 : decode prog_6_method_1_code 4 = .ok (.return_, 1) := by decide +kernel
theorem d_Bits_init_0 : decode prog_2_method_1_code 0 = .ok (.aload_n 0, 1) := by decide +kernel
theorem d_Bits_init_1 : decode prog_2_method_1_code 1 = .ok (.invokespecial 5, 3) := by decide +kernel
theorem d_Bits_init_4 : decode prog_2_method_1_code 4 = .ok (.aload_n 0, 1) := by decide +kernel
theorem d_Bits_init_5 : decode prog_2_method_1_code 5 = .ok (.iload_n 1, 1) := by decide +kernel
theorem d_Bits_init_6 : decode prog_2_method_1_code 6 = .ok (.putfield 11, 3) := by decide +kernel
theorem d_Bits_init_9 : decode prog_2_method_1_code 9 = .ok (.return_, 1) := by decide +kernel
theorem d_Stack_init_0 : decode prog_10_method_1_code 0 = .ok (.aload_n 0, 1) := by decide +kernel
theorem d_Stack_init_1 : decode prog_10_method_1_code 1 = .ok (.invokespecial 5, 3) := by decide +kernel
theorem d_Stack_init_4 : decode prog_10_method_1_code 4 = .ok (.return_, 1) := by decide +kernel
theorem d_Stacked_init_0 : decode prog_11_method_1_code 0 = .ok (.aload_n 0, 1) := by decide +kernel
theorem d_Stacked_init_1 : decode prog_11_method_1_code 1 = .ok (.invokespecial 3, 3) := by decide +kernel
theorem d_Stacked_init_4 : decode prog_11_method_1_code 4 = .ok (.aload_n 0, 1) := by decide +kernel
theorem d_Stacked_init_5 : decode prog_11_method_1_code 5 = .ok (.sipush 600, 3) := by decide +kernel
theorem d_Stacked_init_8 : decode prog_11_method_1_code 8 = .ok (.anewarray 9, 3) := by decide +kernel
theorem d_Stacked_init_11 : decode prog_11_method_1_code 11 = .ok (.putfield 11, 3) := by decide +kernel
theorem d_Stacked_init_14 : decode prog_11_method_1_code 14 = .ok (.aload_n 0, 1) := by decide +kernel
theorem d_Stacked_init_15 : decode prog_11_method_1_code 15 = .ok (.sipush 600, 3) := by decide +kernel
theorem d_Stacked_init_18 : decode prog_11_method_1_code 18 = .ok (.newarray .int, 2) := by decide +kernel
theorem d_Stacked_init_20 : decode prog_11_method_1_code 20 = .ok (.putfield 17, 3) := by decide +kernel
theorem d_Stacked_init_23 : decode prog_11_method_1_code 23 = .ok (.aload_n 0, 1) := by decide +kernel
theorem d_Stacked_init_24 : decode prog_11_method_1_code 24 = .ok (.sipush 600, 3) := by decide +kernel
theorem d_Stacked_init_27 : decode prog_11_method_1_code 27 = .ok (.newarray .int, 2) := by decide +kernel
theorem d_Stacked_init_29 : decode prog_11_method_1_code 29 = .ok (.putfield 21, 3) := by decide +kernel
theorem d_Stacked_init_32 : decode prog_11_method_1_code 32 = .ok (.return_, 1) := by decide +kernel
theorem d_Table_init_0 : decode prog_12_method_1_code 0 = .ok (.aload_n 0, 1) := by decide +kernel
theorem d_Table_init_1 : decode prog_12_method_1_code 1 = .ok (.invokespecial 5, 3) := by decide +kernel
theorem d_Table_init_4 : decode prog_12_method_1_code 4 = .ok (.return_, 1) := by decide +kernel
theorem d_RC_model_0 : decode prog_1_method_2_code 0 = .ok (.iload_n 1, 1) := by decide +kernel
theorem d_RC_model_1 : decode prog_1_method_2_code 1 = .ok (.iconst 2, 1) := by decide +kernel
theorem d_RC_model_2 : decode prog_1_method_2_code 2 = .ok (.if_icmp .lt 9, 3) := by decide +kernel
theorem d_RC_model_5 : decode prog_1_method_2_code 5 = .ok (.iload_n 1, 1) := by decide +kernel
theorem d_RC_model_6 : decode prog_1_method_2_code 6 = .ok (.bipush 64, 2) := by decide +kernel
theorem d_RC_model_8 : decode prog_1_method_2_code 8 = .ok (.if_icmp .le 6, 3) := by decide +kernel
theorem d_RC_model_11 : decode prog_1_method_2_code 11 = .ok (.bipush (-2), 2) := by decide +kernel
theorem d_RC_model_13 : decode prog_1_method_2_code 13 = .ok (.ireturn, 1) := by decide +kernel
theorem d_RC_model_14 : decode prog_1_method_2_code 14 = .ok (.aload_n 0, 1) := by decide +kernel
theorem d_RC_model_15 : decode prog_1_method_2_code 15 = .ok (.getfield 27, 3) := by decide +kernel
theorem d_RC_model_18 : decode prog_1_method_2_code 18 = .ok (.bipush 8, 2) := by decide +kernel
theorem d_RC_model_20 : decode prog_1_method_2_code 20 = .ok (.if_icmp .lt 6, 3) := by decide +kernel
theorem d_RC_model_23 : decode prog_1_method_2_code 23 = .ok (.bipush (-4), 2) := by decide +kernel
theorem d_RC_model_25 : decode prog_1_method_2_code 25 = .ok (.ireturn, 1) := by decide +kernel
theorem d_RC_model_26 : decode prog_1_method_2_code 26 = .ok (.new 9, 3) := by decide +kernel
theorem d_RC_model_29 : decode prog_1_method_2_code 29 = .ok (.dup, 1) := by decide +kernel
theorem d_RC_model_30 : decode prog_1_method_2_code 30 = .ok (.iload_n 1, 1) := by decide +kernel
theorem d_RC_model_31 : decode prog_1_method_2_code 31 = .ok (.aload_n 0, 1) := by decide +kernel
theorem d_RC_model_32 : decode prog_1_method_2_code 32 = .ok (.getfield 23, 3) := by decide +kernel
theorem d_RC_model_35 : decode prog_1_method_2_code 35 = .ok (.iload_n 1, 1) := by decide +kernel
theorem d_RC_model_36 : decode prog_1_method_2_code 36 = .ok (.invokevirtual 31, 3) := by decide +kernel
theorem d_RC_model_39 : decode prog_1_method_2_code 39 = .ok (.aload_n 0, 1) := by decide +kernel
theorem d_RC_model_40 : decode prog_1_method_2_code 40 = .ok (.getfield 23, 3) := by decide +kernel
theorem d_RC_model_43 : decode prog_1_method_2_code 43 = .ok (.iload_n 1, 1) := by decide +kernel
theorem d_RC_model_44 : decode prog_1_method_2_code 44 = .ok (.invokevirtual 31, 3) := by decide +kernel
theorem d_RC_model_47 : decode prog_1_method_2_code 47 = .ok (.invokespecial 37, 3) := by decide +kernel
theorem d_RC_model_50 : decode prog_1_method_2_code 50 = .ok (.astore_n 2, 1) := by decide +kernel
theorem d_RC_model_51 : decode prog_1_method_2_code 51 = .ok (.aload_n 0, 1) := by decide +kernel
theorem d_RC_model_52 : decode prog_1_method_2_code 52 = .ok (.getfield 23, 3) := by decide +kernel
theorem d_RC_model_55 : decode prog_1_method_2_code 55 = .ok (.aload_n 2, 1) := by decide +kernel
theorem d_RC_model_56 : decode prog_1_method_2_code 56 = .ok (.getfield 40, 3) := by decide +kernel
theorem d_RC_model_59 : decode prog_1_method_2_code 59 = .ok (.aload_n 2, 1) := by decide +kernel
theorem d_RC_model_60 : decode prog_1_method_2_code 60 = .ok (.getfield 44, 3) := by decide +kernel
theorem d_RC_model_63 : decode prog_1_method_2_code 63 = .ok (.invokevirtual 48, 3) := by decide +kernel
theorem d_RC_model_66 : decode prog_1_method_2_code 66 = .ok (.aload_n 0, 1) := by decide +kernel
theorem d_RC_model_67 : decode prog_1_method_2_code 67 = .ok (.getfield 23, 3) := by decide +kernel
theorem d_RC_model_70 : decode prog_1_method_2_code 70 = .ok (.aload_n 2, 1) := by decide +kernel
theorem d_RC_model_71 : decode prog_1_method_2_code 71 = .ok (.getfield 52, 3) := by decide +kernel
theorem d_RC_model_74 : decode prog_1_method_2_code 74 = .ok (.aload_n 2, 1) := by decide +kernel
theorem d_RC_model_75 : decode prog_1_method_2_code 75 = .ok (.getfield 44, 3) := by decide +kernel
theorem d_RC_model_78 : decode prog_1_method_2_code 78 = .ok (.invokevirtual 48, 3) := by decide +kernel
theorem d_RC_model_81 : decode prog_1_method_2_code 81 = .ok (.aload_n 0, 1) := by decide +kernel
theorem d_RC_model_82 : decode prog_1_method_2_code 82 = .ok (.getfield 11, 3) := by decide +kernel
theorem d_RC_model_85 : decode prog_1_method_2_code 85 = .ok (.aload_n 0, 1) := by decide +kernel
theorem d_RC_model_86 : decode prog_1_method_2_code 86 = .ok (.getfield 27, 3) := by decide +kernel
theorem d_RC_model_89 : decode prog_1_method_2_code 89 = .ok (.aload_n 2, 1) := by decide +kernel
theorem d_RC_model_90 : decode prog_1_method_2_code 90 = .ok (.aastore, 1) := by decide +kernel
theorem d_RC_model_91 : decode prog_1_method_2_code 91 = .ok (.aload_n 0, 1) := by decide +kernel
theorem d_RC_model_92 : decode prog_1_method_2_code 92 = .ok (.dup, 1) := by decide +kernel
theorem d_RC_model_93 : decode prog_1_method_2_code 93 = .ok (.getfield 27, 3) := by decide +kernel
theorem d_RC_model_96 : decode prog_1_method_2_code 96 = .ok (.iconst 1, 1) := by decide +kernel
theorem d_RC_model_97 : decode prog_1_method_2_code 97 = .ok (.iadd, 1) := by decide +kernel
theorem d_RC_model_98 : decode prog_1_method_2_code 98 = .ok (.putfield 27, 3) := by decide +kernel
theorem d_RC_model_101 : decode prog_1_method_2_code 101 = .ok (.aload_n 0, 1) := by decide +kernel
theorem d_RC_model_102 : decode prog_1_method_2_code 102 = .ok (.getfield 27, 3) := by decide +kernel
theorem d_RC_model_105 : decode prog_1_method_2_code 105 = .ok (.iconst 1, 1) := by decide +kernel
theorem d_RC_model_106 : decode prog_1_method_2_code 106 = .ok (.isub, 1) := by decide +kernel
theorem d_RC_model_107 : decode prog_1_method_2_code 107 = .ok (.ireturn, 1) := by decide +kernel
theorem d_Bits_newOdds_0 : decode prog_2_method_2_code 0 = .ok (.new 15, 3) := by decide +kernel
theorem d_Bits_newOdds_3 : decode prog_2_method_2_code 3 = .ok (.dup, 1) := by decide +kernel
theorem d_Bits_newOdds_4 : decode prog_2_method_2_code 4 = .ok (.iload_n 1, 1) := by decide +kernel
theorem d_Bits_newOdds_5 : decode prog_2_method_2_code 5 = .ok (.iconst 1, 1) := by decide +kernel
theorem d_Bits_newOdds_6 : decode prog_2_method_2_code 6 = .ok (.iconst 1, 1) := by decide +kernel
theorem d_Bits_newOdds_7 : decode prog_2_method_2_code 7 = .ok (.iload_n 1, 1) := by decide +kernel
theorem d_Bits_newOdds_8 : decode prog_2_method_2_code 8 = .ok (.invokestatic 17, 3) := by decide +kernel
theorem d_Bits_newOdds_11 : decode prog_2_method_2_code 11 = .ok (.ishl, 1) := by decide +kernel
theorem d_Bits_newOdds_12 : decode prog_2_method_2_code 12 = .ok (.iconst 0, 1) := by decide +kernel
theorem d_Bits_newOdds_13 : decode prog_2_method_2_code 13 = .ok (.invokespecial 21, 3) := by decide +kernel
theorem d_Bits_newOdds_16 : decode prog_2_method_2_code 16 = .ok (.areturn, 1) := by decide +kernel
theorem d_Bits_levelsOf_0 : decode prog_2_method_9_code 0 = .ok (.iconst 1, 1) := by decide +kernel
theorem d_Bits_levelsOf_1 : decode prog_2_method_9_code 1 = .ok (.istore_n 1, 1) := by decide +kernel
theorem d_Bits_levelsOf_2 : decode prog_2_method_9_code 2 = .ok (.iload_n 1, 1) := by decide +kernel
theorem d_Bits_levelsOf_3 : decode prog_2_method_9_code 3 = .ok (.bipush 6, 2) := by decide +kernel
theorem d_Bits_levelsOf_5 : decode prog_2_method_9_code 5 = .ok (.if_icmp .ge 16, 3) := by decide +kernel
theorem d_Bits_levelsOf_8 : decode prog_2_method_9_code 8 = .ok (.iconst 1, 1) := by decide +kernel
theorem d_Bits_levelsOf_9 : decode prog_2_method_9_code 9 = .ok (.iload_n 1, 1) := by decide +kernel
theorem d_Bits_levelsOf_10 : decode prog_2_method_9_code 10 = .ok (.ishl, 1) := by decide +kernel
theorem d_Bits_levelsOf_11 : decode prog_2_method_9_code 11 = .ok (.iload_n 0, 1) := by decide +kernel
theorem d_Bits_levelsOf_12 : decode prog_2_method_9_code 12 = .ok (.if_icmp .ge 9, 3) := by decide +kernel
theorem d_Bits_levelsOf_15 : decode prog_2_method_9_code 15 = .ok (.iinc 1 1, 3) := by decide +kernel
theorem d_Bits_levelsOf_18 : decode prog_2_method_9_code 18 = .ok (.goto (-16), 3) := by decide +kernel
theorem d_Bits_levelsOf_21 : decode prog_2_method_9_code 21 = .ok (.iload_n 1, 1) := by decide +kernel
theorem d_Bits_levelsOf_22 : decode prog_2_method_9_code 22 = .ok (.ireturn, 1) := by decide +kernel
theorem d_Odds_init_0 : decode prog_7_method_1_code 0 = .ok (.aload_n 0, 1) := by decide +kernel
theorem d_Odds_init_1 : decode prog_7_method_1_code 1 = .ok (.invokespecial 3, 3) := by decide +kernel
theorem d_Odds_init_4 : decode prog_7_method_1_code 4 = .ok (.aload_n 0, 1) := by decide +kernel
theorem d_Odds_init_5 : decode prog_7_method_1_code 5 = .ok (.iload_n 1, 1) := by decide +kernel
theorem d_Odds_init_6 : decode prog_7_method_1_code 6 = .ok (.putfield 9, 3) := by decide +kernel
theorem d_Odds_init_9 : decode prog_7_method_1_code 9 = .ok (.aload_n 0, 1) := by decide +kernel
theorem d_Odds_init_10 : decode prog_7_method_1_code 10 = .ok (.iload_n 2, 1) := by decide +kernel
theorem d_Odds_init_11 : decode prog_7_method_1_code 11 = .ok (.putfield 15, 3) := by decide +kernel
theorem d_Odds_init_14 : decode prog_7_method_1_code 14 = .ok (.aload_n 0, 1) := by decide +kernel
theorem d_Odds_init_15 : decode prog_7_method_1_code 15 = .ok (.iload_n 3, 1) := by decide +kernel
theorem d_Odds_init_16 : decode prog_7_method_1_code 16 = .ok (.ifCond .lt 7, 3) := by decide +kernel
theorem d_Odds_init_19 : decode prog_7_method_1_code 19 = .ok (.iload_n 3, 1) := by decide +kernel
theorem d_Odds_init_20 : decode prog_7_method_1_code 20 = .ok (.goto 4, 3) := by decide +kernel
theorem d_Odds_init_24 : decode prog_7_method_1_code 24 = .ok (.newarray .int, 2) := by decide +kernel
theorem d_Odds_init_26 : decode prog_7_method_1_code 26 = .ok (.putfield 18, 3) := by decide +kernel
theorem d_Odds_init_29 : decode prog_7_method_1_code 29 = .ok (.aload_n 0, 1) := by decide +kernel
theorem d_Odds_init_30 : decode prog_7_method_1_code 30 = .ok (.iload 4, 2) := by decide +kernel
theorem d_Odds_init_32 : decode prog_7_method_1_code 32 = .ok (.ifCond .lt 8, 3) := by decide +kernel
theorem d_Odds_init_35 : decode prog_7_method_1_code 35 = .ok (.iload 4, 2) := by decide +kernel
theorem d_Odds_init_37 : decode prog_7_method_1_code 37 = .ok (.goto 4, 3) := by decide +kernel
theorem d_Odds_init_41 : decode prog_7_method_1_code 41 = .ok (.newarray .int, 2) := by decide +kernel
theorem d_Odds_init_43 : decode prog_7_method_1_code 43 = .ok (.putfield 22, 3) := by decide +kernel
theorem d_Odds_init_46 : decode prog_7_method_1_code 46 = .ok (.return_, 1) := by decide +kernel
theorem d_Table_newOdds_0 : decode prog_12_method_2_code 0 = .ok (.new 11, 3) := by decide +kernel
theorem d_Table_newOdds_3 : decode prog_12_method_2_code 3 = .ok (.dup, 1) := by decide +kernel
theorem d_Table_newOdds_4 : decode prog_12_method_2_code 4 = .ok (.iload_n 1, 1) := by decide +kernel
theorem d_Table_newOdds_5 : decode prog_12_method_2_code 5 = .ok (.iconst 0, 1) := by decide +kernel
theorem d_Table_newOdds_6 : decode prog_12_method_2_code 6 = .ok (.iload_n 1, 1) := by decide +kernel
theorem d_Table_newOdds_7 : decode prog_12_method_2_code 7 = .ok (.sipush 512, 3) := by decide +kernel
theorem d_Table_newOdds_10 : decode prog_12_method_2_code 10 = .ok (.invokespecial 13, 3) := by decide +kernel
theorem d_Table_newOdds_13 : decode prog_12_method_2_code 13 = .ok (.areturn, 1) := by decide +kernel
theorem d_Coder_newOdds_0 : decode prog_4_method_11_code 0 = .ok (.new 22, 3) := by decide +kernel
theorem d_Coder_newOdds_3 : decode prog_4_method_11_code 3 = .ok (.dup, 1) := by decide +kernel
theorem d_Coder_newOdds_4 : decode prog_4_method_11_code 4 = .ok (.iload_n 1, 1) := by decide +kernel
theorem d_Coder_newOdds_5 : decode prog_4_method_11_code 5 = .ok (.iconst 0, 1) := by decide +kernel
theorem d_Coder_newOdds_6 : decode prog_4_method_11_code 6 = .ok (.iload_n 1, 1) := by decide +kernel
theorem d_Coder_newOdds_7 : decode prog_4_method_11_code 7 = .ok (.iconst 0, 1) := by decide +kernel
theorem d_Coder_newOdds_8 : decode prog_4_method_11_code 8 = .ok (.invokespecial 24, 3) := by decide +kernel
theorem d_Coder_newOdds_11 : decode prog_4_method_11_code 11 = .ok (.areturn, 1) := by decide +kernel
theorem d_Model_init_0 : decode prog_5_method_1_code 0 = .ok (.aload_n 0, 1) := by decide +kernel
theorem d_Model_init_1 : decode prog_5_method_1_code 1 = .ok (.invokespecial 1, 3) := by decide +kernel
theorem d_Model_init_4 : decode prog_5_method_1_code 4 = .ok (.aload_n 0, 1) := by decide +kernel
theorem d_Model_init_5 : decode prog_5_method_1_code 5 = .ok (.iload_n 1, 1) := by decide +kernel
theorem d_Model_init_6 : decode prog_5_method_1_code 6 = .ok (.ifCond .lt 7, 3) := by decide +kernel
theorem d_Model_init_9 : decode prog_5_method_1_code 9 = .ok (.iload_n 1, 1) := by decide +kernel
theorem d_Model_init_10 : decode prog_5_method_1_code 10 = .ok (.goto 4, 3) := by decide +kernel
theorem d_Model_init_14 : decode prog_5_method_1_code 14 = .ok (.newarray .int, 2) := by decide +kernel
theorem d_Model_init_16 : decode prog_5_method_1_code 16 = .ok (.putfield 7, 3) := by decide +kernel
theorem d_Model_init_19 : decode prog_5_method_1_code 19 = .ok (.aload_n 0, 1) := by decide +kernel
theorem d_Model_init_20 : decode prog_5_method_1_code 20 = .ok (.getfield 7, 3) := by decide +kernel
theorem d_Model_init_23 : decode prog_5_method_1_code 23 = .ok (.iconst 1, 1) := by decide +kernel
theorem d_Model_init_24 : decode prog_5_method_1_code 24 = .ok (.invokestatic 13, 3) := by decide +kernel
theorem d_Model_init_27 : decode prog_5_method_1_code 27 = .ok (.aload_n 0, 1) := by decide +kernel
theorem d_Model_init_28 : decode prog_5_method_1_code 28 = .ok (.aload_n 2, 1) := by decide +kernel
theorem d_Model_init_29 : decode prog_5_method_1_code 29 = .ok (.putfield 19, 3) := by decide +kernel
theorem d_Model_init_32 : decode prog_5_method_1_code 32 = .ok (.aload_n 0, 1) := by decide +kernel
theorem d_Model_init_33 : decode prog_5_method_1_code 33 = .ok (.aload_n 3, 1) := by decide +kernel
theorem d_Model_init_34 : decode prog_5_method_1_code 34 = .ok (.putfield 23, 3) := by decide +kernel
theorem d_Model_init_37 : decode prog_5_method_1_code 37 = .ok (.return_, 1) := by decide +kernel
theorem d_Bits_prepare_0 : decode prog_2_method_3_code 0 = .ok (.aload_n 1, 1) := by decide +kernel
theorem d_Bits_prepare_1 : decode prog_2_method_3_code 1 = .ok (.sipush 1024, 3) := by decide +kernel
theorem d_Bits_prepare_4 : decode prog_2_method_3_code 4 = .ok (.invokevirtual 24, 3) := by decide +kernel
theorem d_Bits_prepare_7 : decode prog_2_method_3_code 7 = .ok (.return_, 1) := by decide +kernel
theorem d_Odds_fill_0 : decode prog_7_method_5_code 0 = .ok (.aload_n 0, 1) := by decide +kernel
theorem d_Odds_fill_1 : decode prog_7_method_5_code 1 = .ok (.getfield 18, 3) := by decide +kernel
theorem d_Odds_fill_4 : decode prog_7_method_5_code 4 = .ok (.iload_n 1, 1) := by decide +kernel
theorem d_Odds_fill_5 : decode prog_7_method_5_code 5 = .ok (.invokestatic 32, 3) := by decide +kernel
theorem d_Odds_fill_8 : decode prog_7_method_5_code 8 = .ok (.aload_n 0, 1) := by decide +kernel
theorem d_Odds_fill_9 : decode prog_7_method_5_code 9 = .ok (.iload_n 1, 1) := by decide +kernel
theorem d_Odds_fill_10 : decode prog_7_method_5_code 10 = .ok (.aload_n 0, 1) := by decide +kernel
theorem d_Odds_fill_11 : decode prog_7_method_5_code 11 = .ok (.getfield 18, 3) := by decide +kernel
theorem d_Odds_fill_14 : decode prog_7_method_5_code 14 = .ok (.arraylength, 1) := by decide +kernel
theorem d_Odds_fill_15 : decode prog_7_method_5_code 15 = .ok (.imul, 1) := by decide +kernel
theorem d_Odds_fill_16 : decode prog_7_method_5_code 16 = .ok (.putfield 29, 3) := by decide +kernel
theorem d_Odds_fill_19 : decode prog_7_method_5_code 19 = .ok (.return_, 1) := by decide +kernel
theorem d_Ranged_prepare_0 : decode prog_8_method_5_code 0 = .ok (.aload_n 1, 1) := by decide +kernel
theorem d_Ranged_prepare_1 : decode prog_8_method_5_code 1 = .ok (.aload_n 2, 1) := by decide +kernel
theorem d_Ranged_prepare_2 : decode prog_8_method_5_code 2 = .ok (.invokevirtual 17, 3) := by decide +kernel
theorem d_Ranged_prepare_5 : decode prog_8_method_5_code 5 = .ok (.return_, 1) := by decide +kernel
theorem d_Odds_fromCounts_0 : decode prog_7_method_6_code 0 = .ok (.aload_n 0, 1) := by decide +kernel
theorem d_Odds_fromCounts_1 : decode prog_7_method_6_code 1 = .ok (.aload_n 1, 1) := by decide +kernel
theorem d_Odds_fromCounts_2 : decode prog_7_method_6_code 2 = .ok (.invokevirtual 38, 3) := by decide +kernel
theorem d_Odds_fromCounts_5 : decode prog_7_method_6_code 5 = .ok (.iconst 0, 1) := by decide +kernel
theorem d_Odds_fromCounts_6 : decode prog_7_method_6_code 6 = .ok (.istore_n 2, 1) := by decide +kernel
theorem d_Odds_fromCounts_7 : decode prog_7_method_6_code 7 = .ok (.iload_n 2, 1) := by decide +kernel
theorem d_Odds_fromCounts_8 : decode prog_7_method_6_code 8 = .ok (.bipush 32, 2) := by decide +kernel
theorem d_Odds_fromCounts_10 : decode prog_7_method_6_code 10 = .ok (.if_icmp .ge 23, 3) := by decide +kernel
theorem d_Odds_fromCounts_13 : decode prog_7_method_6_code 13 = .ok (.aload_n 0, 1) := by decide +kernel
theorem d_Odds_fromCounts_14 : decode prog_7_method_6_code 14 = .ok (.getfield 29, 3) := by decide +kernel
theorem d_Odds_fromCounts_17 : decode prog_7_method_6_code 17 = .ok (.sipush 8192, 3) := by decide +kernel
theorem d_Odds_fromCounts_20 : decode prog_7_method_6_code 20 = .ok (.if_icmp .le 13, 3) := by decide +kernel
theorem d_Odds_fromCounts_23 : decode prog_7_method_6_code 23 = .ok (.aload_n 0, 1) := by decide +kernel
theorem d_Odds_fromCounts_24 : decode prog_7_method_6_code 24 = .ok (.invokevirtual 42, 3) := by decide +kernel
theorem d_Odds_fromCounts_27 : decode prog_7_method_6_code 27 = .ok (.iinc 2 1, 3) := by decide +kernel
theorem d_Odds_fromCounts_30 : decode prog_7_method_6_code 30 = .ok (.goto (-23), 3) := by decide +kernel
theorem d_Odds_fromCounts_33 : decode prog_7_method_6_code 33 = .ok (.return_, 1) := by decide +kernel
theorem d_Odds_copyCounts_0 : decode prog_7_method_15_code 0 = .ok (.aload_n 0, 1) := by decide +kernel
theorem d_Odds_copyCounts_1 : decode prog_7_method_15_code 1 = .ok (.iconst 0, 1) := by decide +kernel
theorem d_Odds_copyCounts_2 : decode prog_7_method_15_code 2 = .ok (.putfield 29, 3) := by decide +kernel
theorem d_Odds_copyCounts_5 : decode prog_7_method_15_code 5 = .ok (.iconst 0, 1) := by decide +kernel
theorem d_Odds_copyCounts_6 : decode prog_7_method_15_code 6 = .ok (.istore_n 2, 1) := by decide +kernel
theorem d_Odds_copyCounts_7 : decode prog_7_method_15_code 7 = .ok (.iload_n 2, 1) := by decide +kernel
theorem d_Odds_copyCounts_8 : decode prog_7_method_15_code 8 = .ok (.aload_n 0, 1) := by decide +kernel
theorem d_Odds_copyCounts_9 : decode prog_7_method_15_code 9 = .ok (.getfield 18, 3) := by decide +kernel
theorem d_Odds_copyCounts_12 : decode prog_7_method_15_code 12 = .ok (.arraylength, 1) := by decide +kernel
theorem d_Odds_copyCounts_13 : decode prog_7_method_15_code 13 = .ok (.if_icmp .ge 36, 3) := by decide +kernel
theorem d_Odds_copyCounts_16 : decode prog_7_method_15_code 16 = .ok (.iload_n 2, 1) := by decide +kernel
theorem d_Odds_copyCounts_17 : decode prog_7_method_15_code 17 = .ok (.aload_n 1, 1) := by decide +kernel
theorem d_Odds_copyCounts_18 : decode prog_7_method_15_code 18 = .ok (.arraylength, 1) := by decide +kernel
theorem d_Odds_copyCounts_19 : decode prog_7_method_15_code 19 = .ok (.if_icmp .ge 30, 3) := by decide +kernel
theorem d_Odds_copyCounts_22 : decode prog_7_method_15_code 22 = .ok (.aload_n 0, 1) := by decide +kernel
theorem d_Odds_copyCounts_23 : decode prog_7_method_15_code 23 = .ok (.getfield 18, 3) := by decide +kernel
theorem d_Odds_copyCounts_26 : decode prog_7_method_15_code 26 = .ok (.iload_n 2, 1) := by decide +kernel
theorem d_Odds_copyCounts_27 : decode prog_7_method_15_code 27 = .ok (.aload_n 1, 1) := by decide +kernel
theorem d_Odds_copyCounts_28 : decode prog_7_method_15_code 28 = .ok (.iload_n 2, 1) := by decide +kernel
theorem d_Odds_copyCounts_29 : decode prog_7_method_15_code 29 = .ok (.iaload, 1) := by decide +kernel
theorem d_Odds_copyCounts_30 : decode prog_7_method_15_code 30 = .ok (.iastore, 1) := by decide +kernel
theorem d_Odds_copyCounts_31 : decode prog_7_method_15_code 31 = .ok (.aload_n 0, 1) := by decide +kernel
theorem d_Odds_copyCounts_32 : decode prog_7_method_15_code 32 = .ok (.dup, 1) := by decide +kernel
theorem d_Odds_copyCounts_33 : decode prog_7_method_15_code 33 = .ok (.getfield 29, 3) := by decide +kernel
theorem d_Odds_copyCounts_36 : decode prog_7_method_15_code 36 = .ok (.aload_n 1, 1) := by decide +kernel
theorem d_Odds_copyCounts_37 : decode prog_7_method_15_code 37 = .ok (.iload_n 2, 1) := by decide +kernel
theorem d_Odds_copyCounts_38 : decode prog_7_method_15_code 38 = .ok (.iaload, 1) := by decide +kernel
theorem d_Odds_copyCounts_39 : decode prog_7_method_15_code 39 = .ok (.iadd, 1) := by decide +kernel
theorem d_Odds_copyCounts_40 : decode prog_7_method_15_code 40 = .ok (.putfield 29, 3) := by decide +kernel
theorem d_Odds_copyCounts_43 : decode prog_7_method_15_code 43 = .ok (.iinc 2 1, 3) := by decide +kernel
theorem d_Odds_copyCounts_46 : decode prog_7_method_15_code 46 = .ok (.goto (-39), 3) := by decide +kernel
theorem d_Odds_copyCounts_49 : decode prog_7_method_15_code 49 = .ok (.return_, 1) := by decide +kernel
theorem d_Odds_halve_0 : decode prog_7_method_16_code 0 = .ok (.aload_n 0, 1) := by decide +kernel
theorem d_Odds_halve_1 : decode prog_7_method_16_code 1 = .ok (.iconst 0, 1) := by decide +kernel
theorem d_Odds_halve_2 : decode prog_7_method_16_code 2 = .ok (.putfield 29, 3) := by decide +kernel
theorem d_Odds_halve_5 : decode prog_7_method_16_code 5 = .ok (.iconst 0, 1) := by decide +kernel
theorem d_Odds_halve_6 : decode prog_7_method_16_code 6 = .ok (.istore_n 1, 1) := by decide +kernel
theorem d_Odds_halve_7 : decode prog_7_method_16_code 7 = .ok (.iload_n 1, 1) := by decide +kernel
theorem d_Odds_halve_8 : decode prog_7_method_16_code 8 = .ok (.aload_n 0, 1) := by decide +kernel
theorem d_Odds_halve_9 : decode prog_7_method_16_code 9 = .ok (.getfield 18, 3) := by decide +kernel
theorem d_Odds_halve_12 : decode prog_7_method_16_code 12 = .ok (.arraylength, 1) := by decide +kernel
theorem d_Odds_halve_13 : decode prog_7_method_16_code 13 = .ok (.if_icmp .ge 40, 3) := by decide +kernel
theorem d_Odds_halve_16 : decode prog_7_method_16_code 16 = .ok (.aload_n 0, 1) := by decide +kernel
theorem d_Odds_halve_17 : decode prog_7_method_16_code 17 = .ok (.getfield 18, 3) := by decide +kernel
theorem d_Odds_halve_20 : decode prog_7_method_16_code 20 = .ok (.iload_n 1, 1) := by decide +kernel
theorem d_Odds_halve_21 : decode prog_7_method_16_code 21 = .ok (.aload_n 0, 1) := by decide +kernel
theorem d_Odds_halve_22 : decode prog_7_method_16_code 22 = .ok (.getfield 18, 3) := by decide +kernel
theorem d_Odds_halve_25 : decode prog_7_method_16_code 25 = .ok (.iload_n 1, 1) := by decide +kernel
theorem d_Odds_halve_26 : decode prog_7_method_16_code 26 = .ok (.iaload, 1) := by decide +kernel
theorem d_Odds_halve_27 : decode prog_7_method_16_code 27 = .ok (.iconst 1, 1) := by decide +kernel
theorem d_Odds_halve_28 : decode prog_7_method_16_code 28 = .ok (.iadd, 1) := by decide +kernel
theorem d_Odds_halve_29 : decode prog_7_method_16_code 29 = .ok (.iconst 2, 1) := by decide +kernel
theorem d_Odds_halve_30 : decode prog_7_method_16_code 30 = .ok (.idiv, 1) := by decide +kernel
theorem d_Odds_halve_31 : decode prog_7_method_16_code 31 = .ok (.iastore, 1) := by decide +kernel
theorem d_Odds_halve_32 : decode prog_7_method_16_code 32 = .ok (.aload_n 0, 1) := by decide +kernel
theorem d_Odds_halve_33 : decode prog_7_method_16_code 33 = .ok (.dup, 1) := by decide +kernel
theorem d_Odds_halve_34 : decode prog_7_method_16_code 34 = .ok (.getfield 29, 3) := by decide +kernel
theorem d_Odds_halve_37 : decode prog_7_method_16_code 37 = .ok (.aload_n 0, 1) := by decide +kernel
theorem d_Odds_halve_38 : decode prog_7_method_16_code 38 = .ok (.getfield 18, 3) := by decide +kernel
theorem d_Odds_halve_41 : decode prog_7_method_16_code 41 = .ok (.iload_n 1, 1) := by decide +kernel
theorem d_Odds_halve_42 : decode prog_7_method_16_code 42 = .ok (.iaload, 1) := by decide +kernel
theorem d_Odds_halve_43 : decode prog_7_method_16_code 43 = .ok (.iadd, 1) := by decide +kernel
theorem d_Odds_halve_44 : decode prog_7_method_16_code 44 = .ok (.putfield 29, 3) := by decide +kernel
theorem d_Odds_halve_47 : decode prog_7_method_16_code 47 = .ok (.iinc 1 1, 3) := by decide +kernel
theorem d_Odds_halve_50 : decode prog_7_method_16_code 50 = .ok (.goto (-43), 3) := by decide +kernel
theorem d_Odds_halve_53 : decode prog_7_method_16_code 53 = .ok (.return_, 1) := by decide +kernel
theorem d_Stack_prepare_0 : decode prog_10_method_2_code 0 = .ok (.aload_n 1, 1) := by decide +kernel
theorem d_Stack_prepare_1 : decode prog_10_method_2_code 1 = .ok (.sipush 4096, 3) := by decide +kernel
theorem d_Stack_prepare_4 : decode prog_10_method_2_code 4 = .ok (.aload_n 2, 1) := by decide +kernel
theorem d_Stack_prepare_5 : decode prog_10_method_2_code 5 = .ok (.invokevirtual 11, 3) := by decide +kernel
theorem d_Stack_prepare_8 : decode prog_10_method_2_code 8 = .ok (.return_, 1) := by decide +kernel
theorem d_Odds_scaleTo_0 : decode prog_7_method_10_code 0 = .ok (.aload_n 0, 1) := by decide +kernel
theorem d_Odds_scaleTo_1 : decode prog_7_method_10_code 1 = .ok (.aload_n 2, 1) := by decide +kernel
theorem d_Odds_scaleTo_2 : decode prog_7_method_10_code 2 = .ok (.invokevirtual 38, 3) := by decide +kernel
theorem d_Odds_scaleTo_5 : decode prog_7_method_10_code 5 = .ok (.aload_n 0, 1) := by decide +kernel
theorem d_Odds_scaleTo_6 : decode prog_7_method_10_code 6 = .ok (.getfield 29, 3) := by decide +kernel
theorem d_Odds_scaleTo_9 : decode prog_7_method_10_code 9 = .ok (.istore_n 3, 1) := by decide +kernel
theorem d_Odds_scaleTo_10 : decode prog_7_method_10_code 10 = .ok (.iload_n 3, 1) := by decide +kernel
theorem d_Odds_scaleTo_11 : decode prog_7_method_10_code 11 = .ok (.ifCond .gt 4, 3) := by decide +kernel
theorem d_Odds_scaleTo_14 : decode prog_7_method_10_code 14 = .ok (.return_, 1) := by decide +kernel
theorem d_Odds_scaleTo_15 : decode prog_7_method_10_code 15 = .ok (.aload_n 0, 1) := by decide +kernel
theorem d_Odds_scaleTo_16 : decode prog_7_method_10_code 16 = .ok (.iconst 0, 1) := by decide +kernel
theorem d_Odds_scaleTo_17 : decode prog_7_method_10_code 17 = .ok (.putfield 29, 3) := by decide +kernel
theorem d_Odds_scaleTo_20 : decode prog_7_method_10_code 20 = .ok (.iconst 0, 1) := by decide +kernel
theorem d_Odds_scaleTo_21 : decode prog_7_method_10_code 21 = .ok (.istore 4, 2) := by decide +kernel
theorem d_Odds_scaleTo_23 : decode prog_7_method_10_code 23 = .ok (.iload 4, 2) := by decide +kernel
theorem d_Odds_scaleTo_25 : decode prog_7_method_10_code 25 = .ok (.aload_n 0, 1) := by decide +kernel
theorem d_Odds_scaleTo_26 : decode prog_7_method_10_code 26 = .ok (.getfield 18, 3) := by decide +kernel
theorem d_Odds_scaleTo_29 : decode prog_7_method_10_code 29 = .ok (.arraylength, 1) := by decide +kernel
theorem d_Odds_scaleTo_30 : decode prog_7_method_10_code 30 = .ok (.if_icmp .ge 61, 3) := by decide +kernel
theorem d_Odds_scaleTo_33 : decode prog_7_method_10_code 33 = .ok (.aload_n 0, 1) := by decide +kernel
theorem d_Odds_scaleTo_34 : decode prog_7_method_10_code 34 = .ok (.getfield 18, 3) := by decide +kernel
theorem d_Odds_scaleTo_37 : decode prog_7_method_10_code 37 = .ok (.iload 4, 2) := by decide +kernel
theorem d_Odds_scaleTo_39 : decode prog_7_method_10_code 39 = .ok (.aload_n 0, 1) := by decide +kernel
theorem d_Odds_scaleTo_40 : decode prog_7_method_10_code 40 = .ok (.getfield 18, 3) := by decide +kernel
theorem d_Odds_scaleTo_43 : decode prog_7_method_10_code 43 = .ok (.iload 4, 2) := by decide +kernel
theorem d_Odds_scaleTo_45 : decode prog_7_method_10_code 45 = .ok (.iaload, 1) := by decide +kernel
theorem d_Odds_scaleTo_46 : decode prog_7_method_10_code 46 = .ok (.ifCond .ne 7, 3) := by decide +kernel
theorem d_Odds_scaleTo_49 : decode prog_7_method_10_code 49 = .ok (.iconst 0, 1) := by decide +kernel
theorem d_Odds_scaleTo_50 : decode prog_7_method_10_code 50 = .ok (.goto 18, 3) := by decide +kernel
theorem d_Odds_scaleTo_53 : decode prog_7_method_10_code 53 = .ok (.iconst 1, 1) := by decide +kernel
theorem d_Odds_scaleTo_54 : decode prog_7_method_10_code 54 = .ok (.aload_n 0, 1) := by decide +kernel
theorem d_Odds_scaleTo_55 : decode prog_7_method_10_code 55 = .ok (.getfield 18, 3) := by decide +kernel
theorem d_Odds_scaleTo_58 : decode prog_7_method_10_code 58 = .ok (.iload 4, 2) := by decide +kernel
theorem d_Odds_scaleTo_60 : decode prog_7_method_10_code 60 = .ok (.iaload, 1) := by decide +kernel
theorem d_Odds_scaleTo_61 : decode prog_7_method_10_code 61 = .ok (.iload_n 1, 1) := by decide +kernel
theorem d_Odds_scaleTo_62 : decode prog_7_method_10_code 62 = .ok (.imul, 1) := by decide +kernel
theorem d_Odds_scaleTo_63 : decode prog_7_method_10_code 63 = .ok (.iload_n 3, 1) := by decide +kernel
theorem d_Odds_scaleTo_64 : decode prog_7_method_10_code 64 = .ok (.idiv, 1) := by decide +kernel
theorem d_Odds_scaleTo_65 : decode prog_7_method_10_code 65 = .ok (.invokestatic 49, 3) := by decide +kernel
theorem d_Odds_scaleTo_68 : decode prog_7_method_10_code 68 = .ok (.iastore, 1) := by decide +kernel
theorem d_Odds_scaleTo_69 : decode prog_7_method_10_code 69 = .ok (.aload_n 0, 1) := by decide +kernel
theorem d_Odds_scaleTo_70 : decode prog_7_method_10_code 70 = .ok (.dup, 1) := by decide +kernel
theorem d_Odds_scaleTo_71 : decode prog_7_method_10_code 71 = .ok (.getfield 29, 3) := by decide +kernel
theorem d_Odds_scaleTo_74 : decode prog_7_method_10_code 74 = .ok (.aload_n 0, 1) := by decide +kernel
theorem d_Odds_scaleTo_75 : decode prog_7_method_10_code 75 = .ok (.getfield 18, 3) := by decide +kernel
theorem d_Odds_scaleTo_78 : decode prog_7_method_10_code 78 = .ok (.iload 4, 2) := by decide +kernel
theorem d_Odds_scaleTo_80 : decode prog_7_method_10_code 80 = .ok (.iaload, 1) := by decide +kernel
theorem d_Odds_scaleTo_81 : decode prog_7_method_10_code 81 = .ok (.iadd, 1) := by decide +kernel
theorem d_Odds_scaleTo_82 : decode prog_7_method_10_code 82 = .ok (.putfield 29, 3) := by decide +kernel
theorem d_Odds_scaleTo_85 : decode prog_7_method_10_code 85 = .ok (.iinc 4 1, 3) := by decide +kernel
theorem d_Odds_scaleTo_88 : decode prog_7_method_10_code 88 = .ok (.goto (-65), 3) := by decide +kernel
theorem d_Odds_scaleTo_91 : decode prog_7_method_10_code 91 = .ok (.aload_n 0, 1) := by decide +kernel
theorem d_Odds_scaleTo_92 : decode prog_7_method_10_code 92 = .ok (.getfield 29, 3) := by decide +kernel
theorem d_Odds_scaleTo_95 : decode prog_7_method_10_code 95 = .ok (.iload_n 1, 1) := by decide +kernel
theorem d_Odds_scaleTo_96 : decode prog_7_method_10_code 96 = .ok (.isub, 1) := by decide +kernel
theorem d_Odds_scaleTo_97 : decode prog_7_method_10_code 97 = .ok (.istore 4, 2) := by decide +kernel
theorem d_Odds_scaleTo_99 : decode prog_7_method_10_code 99 = .ok (.iload 4, 2) := by decide +kernel
theorem d_Odds_scaleTo_101 : decode prog_7_method_10_code 101 = .ok (.ifCond .le 18, 3) := by decide +kernel
theorem d_Odds_scaleTo_104 : decode prog_7_method_10_code 104 = .ok (.aload_n 0, 1) := by decide +kernel
theorem d_Odds_scaleTo_105 : decode prog_7_method_10_code 105 = .ok (.aload_n 0, 1) := by decide +kernel
theorem d_Odds_scaleTo_106 : decode prog_7_method_10_code 106 = .ok (.invokevirtual 55, 3) := by decide +kernel
theorem d_Odds_scaleTo_109 : decode prog_7_method_10_code 109 = .ok (.iconst (-1), 1) := by decide +kernel
theorem d_Odds_scaleTo_110 : decode prog_7_method_10_code 110 = .ok (.invokevirtual 45, 3) := by decide +kernel
theorem d_Odds_scaleTo_113 : decode prog_7_method_10_code 113 = .ok (.iinc 4 (-1), 3) := by decide +kernel
theorem d_Odds_scaleTo_116 : decode prog_7_method_10_code 116 = .ok (.goto (-17), 3) := by decide +kernel
theorem d_Odds_scaleTo_119 : decode prog_7_method_10_code 119 = .ok (.aload_n 0, 1) := by decide +kernel
theorem d_Odds_scaleTo_120 : decode prog_7_method_10_code 120 = .ok (.aload_n 0, 1) := by decide +kernel
theorem d_Odds_scaleTo_121 : decode prog_7_method_10_code 121 = .ok (.invokevirtual 55, 3) := by decide +kernel
theorem d_Odds_scaleTo_124 : decode prog_7_method_10_code 124 = .ok (.iload_n 1, 1) := by decide +kernel
theorem d_Odds_scaleTo_125 : decode prog_7_method_10_code 125 = .ok (.aload_n 0, 1) := by decide +kernel
theorem d_Odds_scaleTo_126 : decode prog_7_method_10_code 126 = .ok (.getfield 29, 3) := by decide +kernel
theorem d_Odds_scaleTo_129 : decode prog_7_method_10_code 129 = .ok (.isub, 1) := by decide +kernel
theorem d_Odds_scaleTo_130 : decode prog_7_method_10_code 130 = .ok (.invokevirtual 45, 3) := by decide +kernel
theorem d_Odds_scaleTo_133 : decode prog_7_method_10_code 133 = .ok (.return_, 1) := by decide +kernel
theorem d_Odds_greatest_0 : decode prog_7_method_17_code 0 = .ok (.iconst 0, 1) := by decide +kernel
theorem d_Odds_greatest_1 : decode prog_7_method_17_code 1 = .ok (.istore_n 1, 1) := by decide +kernel
theorem d_Odds_greatest_2 : decode prog_7_method_17_code 2 = .ok (.iconst 1, 1) := by decide +kernel
theorem d_Odds_greatest_3 : decode prog_7_method_17_code 3 = .ok (.istore_n 2, 1) := by decide +kernel
theorem d_Odds_greatest_4 : decode prog_7_method_17_code 4 = .ok (.iload_n 2, 1) := by decide +kernel
theorem d_Odds_greatest_5 : decode prog_7_method_17_code 5 = .ok (.aload_n 0, 1) := by decide +kernel
theorem d_Odds_greatest_6 : decode prog_7_method_17_code 6 = .ok (.getfield 18, 3) := by decide +kernel
theorem d_Odds_greatest_9 : decode prog_7_method_17_code 9 = .ok (.arraylength, 1) := by decide +kernel
theorem d_Odds_greatest_10 : decode prog_7_method_17_code 10 = .ok (.if_icmp .ge 26, 3) := by decide +kernel
theorem d_Odds_greatest_13 : decode prog_7_method_17_code 13 = .ok (.aload_n 0, 1) := by decide +kernel
theorem d_Odds_greatest_14 : decode prog_7_method_17_code 14 = .ok (.getfield 18, 3) := by decide +kernel
theorem d_Odds_greatest_17 : decode prog_7_method_17_code 17 = .ok (.iload_n 2, 1) := by decide +kernel
theorem d_Odds_greatest_18 : decode prog_7_method_17_code 18 = .ok (.iaload, 1) := by decide +kernel
theorem d_Odds_greatest_19 : decode prog_7_method_17_code 19 = .ok (.aload_n 0, 1) := by decide +kernel
theorem d_Odds_greatest_20 : decode prog_7_method_17_code 20 = .ok (.getfield 18, 3) := by decide +kernel
theorem d_Odds_greatest_23 : decode prog_7_method_17_code 23 = .ok (.iload_n 1, 1) := by decide +kernel
theorem d_Odds_greatest_24 : decode prog_7_method_17_code 24 = .ok (.iaload, 1) := by decide +kernel
theorem d_Odds_greatest_25 : decode prog_7_method_17_code 25 = .ok (.if_icmp .le 5, 3) := by decide +kernel
theorem d_Odds_greatest_28 : decode prog_7_method_17_code 28 = .ok (.iload_n 2, 1) := by decide +kernel
theorem d_Odds_greatest_29 : decode prog_7_method_17_code 29 = .ok (.istore_n 1, 1) := by decide +kernel
theorem d_Odds_greatest_30 : decode prog_7_method_17_code 30 = .ok (.iinc 2 1, 3) := by decide +kernel
theorem d_Odds_greatest_33 : decode prog_7_method_17_code 33 = .ok (.goto (-29), 3) := by decide +kernel
theorem d_Odds_greatest_36 : decode prog_7_method_17_code 36 = .ok (.iload_n 1, 1) := by decide +kernel
theorem d_Odds_greatest_37 : decode prog_7_method_17_code 37 = .ok (.ireturn, 1) := by decide +kernel
theorem d_Odds_grow_0 : decode prog_7_method_4_code 0 = .ok (.aload_n 0, 1) := by decide +kernel
theorem d_Odds_grow_1 : decode prog_7_method_4_code 1 = .ok (.iload_n 1, 1) := by decide +kernel
theorem d_Odds_grow_2 : decode prog_7_method_4_code 2 = .ok (.invokevirtual 25, 3) := by decide +kernel
theorem d_Odds_grow_5 : decode prog_7_method_4_code 5 = .ok (.ifCond .eq 23, 3) := by decide +kernel
theorem d_Odds_grow_8 : decode prog_7_method_4_code 8 = .ok (.aload_n 0, 1) := by decide +kernel
theorem d_Odds_grow_9 : decode prog_7_method_4_code 9 = .ok (.getfield 18, 3) := by decide +kernel
theorem d_Odds_grow_12 : decode prog_7_method_4_code 12 = .ok (.iload_n 1, 1) := by decide +kernel
theorem d_Odds_grow_13 : decode prog_7_method_4_code 13 = .ok (.dup2, 1) := by decide +kernel
theorem d_Odds_grow_14 : decode prog_7_method_4_code 14 = .ok (.iaload, 1) := by decide +kernel
theorem d_Odds_grow_15 : decode prog_7_method_4_code 15 = .ok (.iload_n 2, 1) := by decide +kernel
theorem d_Odds_grow_16 : decode prog_7_method_4_code 16 = .ok (.iadd, 1) := by decide +kernel
theorem d_Odds_grow_17 : decode prog_7_method_4_code 17 = .ok (.iastore, 1) := by decide +kernel
theorem d_Odds_grow_18 : decode prog_7_method_4_code 18 = .ok (.aload_n 0, 1) := by decide +kernel
theorem d_Odds_grow_19 : decode prog_7_method_4_code 19 = .ok (.dup, 1) := by decide +kernel
theorem d_Odds_grow_20 : decode prog_7_method_4_code 20 = .ok (.getfield 29, 3) := by decide +kernel
theorem d_Odds_grow_23 : decode prog_7_method_4_code 23 = .ok (.iload_n 2, 1) := by decide +kernel
theorem d_Odds_grow_24 : decode prog_7_method_4_code 24 = .ok (.iadd, 1) := by decide +kernel
theorem d_Odds_grow_25 : decode prog_7_method_4_code 25 = .ok (.putfield 29, 3) := by decide +kernel
theorem d_Odds_grow_28 : decode prog_7_method_4_code 28 = .ok (.return_, 1) := by decide +kernel
theorem d_Odds_hasCell_0 : decode prog_7_method_2_code 0 = .ok (.iload_n 1, 1) := by decide +kernel
theorem d_Odds_hasCell_1 : decode prog_7_method_2_code 1 = .ok (.aload_n 0, 1) := by decide +kernel
theorem d_Odds_hasCell_2 : decode prog_7_method_2_code 2 = .ok (.getfield 15, 3) := by decide +kernel
theorem d_Odds_hasCell_5 : decode prog_7_method_2_code 5 = .ok (.if_icmp .lt 20, 3) := by decide +kernel
theorem d_Odds_hasCell_8 : decode prog_7_method_2_code 8 = .ok (.iload_n 1, 1) := by decide +kernel
theorem d_Odds_hasCell_9 : decode prog_7_method_2_code 9 = .ok (.ifCond .lt 16, 3) := by decide +kernel
theorem d_Odds_hasCell_12 : decode prog_7_method_2_code 12 = .ok (.iload_n 1, 1) := by decide +kernel
theorem d_Odds_hasCell_13 : decode prog_7_method_2_code 13 = .ok (.aload_n 0, 1) := by decide +kernel
theorem d_Odds_hasCell_14 : decode prog_7_method_2_code 14 = .ok (.getfield 18, 3) := by decide +kernel
theorem d_Odds_hasCell_17 : decode prog_7_method_2_code 17 = .ok (.arraylength, 1) := by decide +kernel
theorem d_Odds_hasCell_18 : decode prog_7_method_2_code 18 = .ok (.if_icmp .ge 7, 3) := by decide +kernel
theorem d_Odds_hasCell_21 : decode prog_7_method_2_code 21 = .ok (.iconst 1, 1) := by decide +kernel
theorem d_Odds_hasCell_22 : decode prog_7_method_2_code 22 = .ok (.goto 4, 3) := by decide +kernel
theorem d_Odds_hasCell_25 : decode prog_7_method_2_code 25 = .ok (.iconst 0, 1) := by decide +kernel
theorem d_Odds_hasCell_26 : decode prog_7_method_2_code 26 = .ok (.ireturn, 1) := by decide +kernel
theorem d_Table_prepare_0 : decode prog_12_method_3_code 0 = .ok (.aload_n 1, 1) := by decide +kernel
theorem d_Table_prepare_1 : decode prog_12_method_3_code 1 = .ok (.sipush 512, 3) := by decide +kernel
theorem d_Table_prepare_4 : decode prog_12_method_3_code 4 = .ok (.aload_n 2, 1) := by decide +kernel
theorem d_Table_prepare_5 : decode prog_12_method_3_code 5 = .ok (.invokevirtual 16, 3) := by decide +kernel
theorem d_Table_prepare_8 : decode prog_12_method_3_code 8 = .ok (.aload_n 1, 1) := by decide +kernel
theorem d_Table_prepare_9 : decode prog_12_method_3_code 9 = .ok (.invokevirtual 20, 3) := by decide +kernel
theorem d_Table_prepare_12 : decode prog_12_method_3_code 12 = .ok (.return_, 1) := by decide +kernel
theorem d_Odds_spread_0 : decode prog_7_method_11_code 0 = .ok (.iconst 0, 1) := by decide +kernel
theorem d_Odds_spread_1 : decode prog_7_method_11_code 1 = .ok (.istore_n 1, 1) := by decide +kernel
theorem d_Odds_spread_2 : decode prog_7_method_11_code 2 = .ok (.iconst 0, 1) := by decide +kernel
theorem d_Odds_spread_3 : decode prog_7_method_11_code 3 = .ok (.istore_n 2, 1) := by decide +kernel
theorem d_Odds_spread_4 : decode prog_7_method_11_code 4 = .ok (.iload_n 2, 1) := by decide +kernel
theorem d_Odds_spread_5 : decode prog_7_method_11_code 5 = .ok (.aload_n 0, 1) := by decide +kernel
theorem d_Odds_spread_6 : decode prog_7_method_11_code 6 = .ok (.getfield 18, 3) := by decide +kernel
theorem d_Odds_spread_9 : decode prog_7_method_11_code 9 = .ok (.arraylength, 1) := by decide +kernel
theorem d_Odds_spread_10 : decode prog_7_method_11_code 10 = .ok (.if_icmp .ge 59, 3) := by decide +kernel
theorem d_Odds_spread_13 : decode prog_7_method_11_code 13 = .ok (.iconst 0, 1) := by decide +kernel
theorem d_Odds_spread_14 : decode prog_7_method_11_code 14 = .ok (.istore_n 3, 1) := by decide +kernel
theorem d_Odds_spread_15 : decode prog_7_method_11_code 15 = .ok (.iload_n 3, 1) := by decide +kernel
theorem d_Odds_spread_16 : decode prog_7_method_11_code 16 = .ok (.aload_n 0, 1) := by decide +kernel
theorem d_Odds_spread_17 : decode prog_7_method_11_code 17 = .ok (.getfield 18, 3) := by decide +kernel
theorem d_Odds_spread_20 : decode prog_7_method_11_code 20 = .ok (.iload_n 2, 1) := by decide +kernel
theorem d_Odds_spread_21 : decode prog_7_method_11_code 21 = .ok (.iaload, 1) := by decide +kernel
theorem d_Odds_spread_22 : decode prog_7_method_11_code 22 = .ok (.if_icmp .ge 41, 3) := by decide +kernel
theorem d_Odds_spread_25 : decode prog_7_method_11_code 25 = .ok (.iload_n 1, 1) := by decide +kernel
theorem d_Odds_spread_26 : decode prog_7_method_11_code 26 = .ok (.ifCond .lt 31, 3) := by decide +kernel
theorem d_Odds_spread_29 : decode prog_7_method_11_code 29 = .ok (.iload_n 1, 1) := by decide +kernel
theorem d_Odds_spread_30 : decode prog_7_method_11_code 30 = .ok (.aload_n 0, 1) := by decide +kernel
theorem d_Odds_spread_31 : decode prog_7_method_11_code 31 = .ok (.getfield 22, 3) := by decide +kernel
theorem d_Odds_spread_34 : decode prog_7_method_11_code 34 = .ok (.arraylength, 1) := by decide +kernel
theorem d_Odds_spread_35 : decode prog_7_method_11_code 35 = .ok (.if_icmp .ge 22, 3) := by decide +kernel
theorem d_Odds_spread_38 : decode prog_7_method_11_code 38 = .ok (.aload_n 0, 1) := by decide +kernel
theorem d_Odds_spread_39 : decode prog_7_method_11_code 39 = .ok (.getfield 22, 3) := by decide +kernel
theorem d_Odds_spread_42 : decode prog_7_method_11_code 42 = .ok (.iload_n 1, 1) := by decide +kernel
theorem d_Odds_spread_43 : decode prog_7_method_11_code 43 = .ok (.iload_n 2, 1) := by decide +kernel
theorem d_Odds_spread_44 : decode prog_7_method_11_code 44 = .ok (.iastore, 1) := by decide +kernel
theorem d_Odds_spread_45 : decode prog_7_method_11_code 45 = .ok (.iload_n 1, 1) := by decide +kernel
theorem d_Odds_spread_46 : decode prog_7_method_11_code 46 = .ok (.sipush 323, 3) := by decide +kernel
theorem d_Odds_spread_49 : decode prog_7_method_11_code 49 = .ok (.iadd, 1) := by decide +kernel
theorem d_Odds_spread_50 : decode prog_7_method_11_code 50 = .ok (.aload_n 0, 1) := by decide +kernel
theorem d_Odds_spread_51 : decode prog_7_method_11_code 51 = .ok (.getfield 22, 3) := by decide +kernel
theorem d_Odds_spread_54 : decode prog_7_method_11_code 54 = .ok (.arraylength, 1) := by decide +kernel
theorem d_Odds_spread_55 : decode prog_7_method_11_code 55 = .ok (.irem, 1) := by decide +kernel
theorem d_Odds_spread_56 : decode prog_7_method_11_code 56 = .ok (.istore_n 1, 1) := by decide +kernel
theorem d_Odds_spread_57 : decode prog_7_method_11_code 57 = .ok (.iinc 3 1, 3) := by decide +kernel
theorem d_Odds_spread_60 : decode prog_7_method_11_code 60 = .ok (.goto (-45), 3) := by decide +kernel
theorem d_Odds_spread_63 : decode prog_7_method_11_code 63 = .ok (.iinc 2 1, 3) := by decide +kernel
theorem d_Odds_spread_66 : decode prog_7_method_11_code 66 = .ok (.goto (-62), 3) := by decide +kernel
theorem d_Odds_spread_69 : decode prog_7_method_11_code 69 = .ok (.return_, 1) := by decide +kernel
theorem d_RC_count_0 : decode prog_1_method_3_code 0 = .ok (.aload_n 0, 1) := by decide +kernel
theorem d_RC_count_1 : decode prog_1_method_3_code 1 = .ok (.iload_n 1, 1) := by decide +kernel
theorem d_RC_count_2 : decode prog_1_method_3_code 2 = .ok (.invokevirtual 55, 3) := by decide +kernel
theorem d_RC_count_5 : decode prog_1_method_3_code 5 = .ok (.astore 4, 2) := by decide +kernel
theorem d_RC_count_7 : decode prog_1_method_3_code 7 = .ok (.aload 4, 2) := by decide +kernel
theorem d_RC_count_9 : decode prog_1_method_3_code 9 = .ok (.ifnull 12, 3) := by decide +kernel
theorem d_RC_count_12 : decode prog_1_method_3_code 12 = .ok (.aload 4, 2) := by decide +kernel
theorem d_RC_count_14 : decode prog_1_method_3_code 14 = .ok (.iload_n 2, 1) := by decide +kernel
theorem d_RC_count_15 : decode prog_1_method_3_code 15 = .ok (.invokevirtual 59, 3) := by decide +kernel
theorem d_RC_count_18 : decode prog_1_method_3_code 18 = .ok (.ifCond .ne 5, 3) := by decide +kernel
theorem d_RC_count_21 : decode prog_1_method_3_code 21 = .ok (.iconst (-1), 1) := by decide +kernel
theorem d_RC_count_22 : decode prog_1_method_3_code 22 = .ok (.ireturn, 1) := by decide +kernel
theorem d_RC_count_23 : decode prog_1_method_3_code 23 = .ok (.iload_n 3, 1) := by decide +kernel
theorem d_RC_count_24 : decode prog_1_method_3_code 24 = .ok (.ifCond .lt 10, 3) := by decide +kernel
theorem d_RC_count_27 : decode prog_1_method_3_code 27 = .ok (.iload_n 3, 1) := by decide +kernel
theorem d_RC_count_28 : decode prog_1_method_3_code 28 = .ok (.sipush 4095, 3) := by decide +kernel
theorem d_RC_count_31 : decode prog_1_method_3_code 31 = .ok (.if_icmp .le 6, 3) := by decide +kernel
theorem d_RC_count_34 : decode prog_1_method_3_code 34 = .ok (.bipush (-2), 2) := by decide +kernel
theorem d_RC_count_36 : decode prog_1_method_3_code 36 = .ok (.ireturn, 1) := by decide +kernel
theorem d_RC_count_37 : decode prog_1_method_3_code 37 = .ok (.aload_n 0, 1) := by decide +kernel
theorem d_RC_count_38 : decode prog_1_method_3_code 38 = .ok (.getfield 63, 3) := by decide +kernel
theorem d_RC_count_41 : decode prog_1_method_3_code 41 = .ok (.ifCond .le 10, 3) := by decide +kernel
theorem d_RC_count_44 : decode prog_1_method_3_code 44 = .ok (.aload_n 0, 1) := by decide +kernel
theorem d_RC_count_45 : decode prog_1_method_3_code 45 = .ok (.getfield 66, 3) := by decide +kernel
theorem d_RC_count_48 : decode prog_1_method_3_code 48 = .ok (.ifCond .eq 10, 3) := by decide +kernel
theorem d_RC_count_51 : decode prog_1_method_3_code 51 = .ok (.aload_n 0, 1) := by decide +kernel
theorem d_RC_count_52 : decode prog_1_method_3_code 52 = .ok (.getfield 70, 3) := by decide +kernel
theorem d_RC_count_55 : decode prog_1_method_3_code 55 = .ok (.ifCond .eq 6, 3) := by decide +kernel
theorem d_RC_count_58 : decode prog_1_method_3_code 58 = .ok (.bipush (-3), 2) := by decide +kernel
theorem d_RC_count_60 : decode prog_1_method_3_code 60 = .ok (.ireturn, 1) := by decide +kernel
theorem d_RC_count_61 : decode prog_1_method_3_code 61 = .ok (.aload 4, 2) := by decide +kernel
theorem d_RC_count_63 : decode prog_1_method_3_code 63 = .ok (.getfield 44, 3) := by decide +kernel
theorem d_RC_count_66 : decode prog_1_method_3_code 66 = .ok (.iload_n 2, 1) := by decide +kernel
theorem d_RC_count_67 : decode prog_1_method_3_code 67 = .ok (.iaload, 1) := by decide +kernel
theorem d_RC_count_68 : decode prog_1_method_3_code 68 = .ok (.istore 5, 2) := by decide +kernel
theorem d_RC_count_70 : decode prog_1_method_3_code 70 = .ok (.aload 4, 2) := by decide +kernel
theorem d_RC_count_72 : decode prog_1_method_3_code 72 = .ok (.getfield 44, 3) := by decide +kernel
theorem d_RC_count_75 : decode prog_1_method_3_code 75 = .ok (.iload_n 2, 1) := by decide +kernel
theorem d_RC_count_76 : decode prog_1_method_3_code 76 = .ok (.iload_n 3, 1) := by decide +kernel
theorem d_RC_count_77 : decode prog_1_method_3_code 77 = .ok (.iastore, 1) := by decide +kernel
theorem d_RC_count_78 : decode prog_1_method_3_code 78 = .ok (.aload_n 0, 1) := by decide +kernel
theorem d_RC_count_79 : decode prog_1_method_3_code 79 = .ok (.getfield 66, 3) := by decide +kernel
theorem d_RC_count_82 : decode prog_1_method_3_code 82 = .ok (.ifCond .ne 20, 3) := by decide +kernel
theorem d_RC_count_85 : decode prog_1_method_3_code 85 = .ok (.aload_n 0, 1) := by decide +kernel
theorem d_RC_count_86 : decode prog_1_method_3_code 86 = .ok (.getfield 23, 3) := by decide +kernel
theorem d_RC_count_89 : decode prog_1_method_3_code 89 = .ok (.aload 4, 2) := by decide +kernel
theorem d_RC_count_91 : decode prog_1_method_3_code 91 = .ok (.getfield 40, 3) := by decide +kernel
theorem d_RC_count_94 : decode prog_1_method_3_code 94 = .ok (.aload 4, 2) := by decide +kernel
theorem d_RC_count_96 : decode prog_1_method_3_code 96 = .ok (.getfield 44, 3) := by decide +kernel
theorem d_RC_count_99 : decode prog_1_method_3_code 99 = .ok (.invokevirtual 48, 3) := by decide +kernel
theorem d_RC_count_102 : decode prog_1_method_3_code 102 = .ok (.iload 5, 2) := by decide +kernel
theorem d_RC_count_104 : decode prog_1_method_3_code 104 = .ok (.ireturn, 1) := by decide +kernel
theorem d_RC_modelAt_0 : decode prog_1_method_20_code 0 = .ok (.iload_n 1, 1) := by decide +kernel
theorem d_RC_modelAt_1 : decode prog_1_method_20_code 1 = .ok (.ifCond .lt 20, 3) := by decide +kernel
theorem d_RC_modelAt_4 : decode prog_1_method_20_code 4 = .ok (.iload_n 1, 1) := by decide +kernel
theorem d_RC_modelAt_5 : decode prog_1_method_20_code 5 = .ok (.aload_n 0, 1) := by decide +kernel
theorem d_RC_modelAt_6 : decode prog_1_method_20_code 6 = .ok (.getfield 27, 3) := by decide +kernel
theorem d_RC_modelAt_9 : decode prog_1_method_20_code 9 = .ok (.if_icmp .ge 12, 3) := by decide +kernel
theorem d_RC_modelAt_12 : decode prog_1_method_20_code 12 = .ok (.aload_n 0, 1) := by decide +kernel
theorem d_RC_modelAt_13 : decode prog_1_method_20_code 13 = .ok (.getfield 11, 3) := by decide +kernel
theorem d_RC_modelAt_16 : decode prog_1_method_20_code 16 = .ok (.iload_n 1, 1) := by decide +kernel
theorem d_RC_modelAt_17 : decode prog_1_method_20_code 17 = .ok (.aaload, 1) := by decide +kernel
theorem d_RC_modelAt_18 : decode prog_1_method_20_code 18 = .ok (.goto 4, 3) := by decide +kernel
theorem d_RC_modelAt_21 : decode prog_1_method_20_code 21 = .ok (.aconst_null, 1) := by decide +kernel
theorem d_RC_modelAt_22 : decode prog_1_method_20_code 22 = .ok (.areturn, 1) := by decide +kernel
theorem d_Model_hasSign_0 : decode prog_5_method_2_code 0 = .ok (.iload_n 1, 1) := by decide +kernel
theorem d_Model_hasSign_1 : decode prog_5_method_2_code 1 = .ok (.ifCond .lt 16, 3) := by decide +kernel
theorem d_Model_hasSign_4 : decode prog_5_method_2_code 4 = .ok (.iload_n 1, 1) := by decide +kernel
theorem d_Model_hasSign_5 : decode prog_5_method_2_code 5 = .ok (.aload_n 0, 1) := by decide +kernel
theorem d_Model_hasSign_6 : decode prog_5_method_2_code 6 = .ok (.getfield 7, 3) := by decide +kernel
theorem d_Model_hasSign_9 : decode prog_5_method_2_code 9 = .ok (.arraylength, 1) := by decide +kernel
theorem d_Model_hasSign_10 : decode prog_5_method_2_code 10 = .ok (.if_icmp .ge 7, 3) := by decide +kernel
theorem d_Model_hasSign_13 : decode prog_5_method_2_code 13 = .ok (.iconst 1, 1) := by decide +kernel
theorem d_Model_hasSign_14 : decode prog_5_method_2_code 14 = .ok (.goto 4, 3) := by decide +kernel
theorem d_Model_hasSign_17 : decode prog_5_method_2_code 17 = .ok (.iconst 0, 1) := by decide +kernel
theorem d_Model_hasSign_18 : decode prog_5_method_2_code 18 = .ok (.ireturn, 1) := by decide +kernel
theorem d_RC_put_0 : decode prog_1_method_4_code 0 = .ok (.aload_n 0, 1) := by decide +kernel
theorem d_RC_put_1 : decode prog_1_method_4_code 1 = .ok (.iload_n 1, 1) := by decide +kernel
theorem d_RC_put_2 : decode prog_1_method_4_code 2 = .ok (.invokevirtual 55, 3) := by decide +kernel
theorem d_RC_put_5 : decode prog_1_method_4_code 5 = .ok (.astore_n 3, 1) := by decide +kernel
theorem d_RC_put_6 : decode prog_1_method_4_code 6 = .ok (.aload_n 3, 1) := by decide +kernel
theorem d_RC_put_7 : decode prog_1_method_4_code 7 = .ok (.ifnull 11, 3) := by decide +kernel
theorem d_RC_put_10 : decode prog_1_method_4_code 10 = .ok (.aload_n 3, 1) := by decide +kernel
theorem d_RC_put_11 : decode prog_1_method_4_code 11 = .ok (.iload_n 2, 1) := by decide +kernel
theorem d_RC_put_12 : decode prog_1_method_4_code 12 = .ok (.invokevirtual 59, 3) := by decide +kernel
theorem d_RC_put_15 : decode prog_1_method_4_code 15 = .ok (.ifCond .ne 5, 3) := by decide +kernel
theorem d_RC_put_18 : decode prog_1_method_4_code 18 = .ok (.iconst (-1), 1) := by decide +kernel
theorem d_RC_put_19 : decode prog_1_method_4_code 19 = .ok (.ireturn, 1) := by decide +kernel
theorem d_RC_put_20 : decode prog_1_method_4_code 20 = .ok (.aload_n 0, 1) := by decide +kernel
theorem d_RC_put_21 : decode prog_1_method_4_code 21 = .ok (.getfield 66, 3) := by decide +kernel
theorem d_RC_put_24 : decode prog_1_method_4_code 24 = .ok (.ifCond .ne 18, 3) := by decide +kernel
theorem d_RC_put_27 : decode prog_1_method_4_code 27 = .ok (.aload_n 0, 1) := by decide +kernel
theorem d_RC_put_28 : decode prog_1_method_4_code 28 = .ok (.getfield 23, 3) := by decide +kernel
theorem d_RC_put_31 : decode prog_1_method_4_code 31 = .ok (.aload_n 3, 1) := by decide +kernel
theorem d_RC_put_32 : decode prog_1_method_4_code 32 = .ok (.getfield 40, 3) := by decide +kernel
theorem d_RC_put_35 : decode prog_1_method_4_code 35 = .ok (.iload_n 2, 1) := by decide +kernel
theorem d_RC_put_36 : decode prog_1_method_4_code 36 = .ok (.invokevirtual 73, 3) := by decide +kernel
theorem d_RC_put_39 : decode prog_1_method_4_code 39 = .ok (.ifCond .ne 6, 3) := by decide +kernel
theorem d_RC_put_42 : decode prog_1_method_4_code 42 = .ok (.bipush (-3), 2) := by decide +kernel
theorem d_RC_put_44 : decode prog_1_method_4_code 44 = .ok (.ireturn, 1) := by decide +kernel
theorem d_RC_put_45 : decode prog_1_method_4_code 45 = .ok (.aload_n 0, 1) := by decide +kernel
theorem d_RC_put_46 : decode prog_1_method_4_code 46 = .ok (.getfield 63, 3) := by decide +kernel
theorem d_RC_put_49 : decode prog_1_method_4_code 49 = .ok (.sipush 600, 3) := by decide +kernel
theorem d_RC_put_52 : decode prog_1_method_4_code 52 = .ok (.if_icmp .lt 6, 3) := by decide +kernel
theorem d_RC_put_55 : decode prog_1_method_4_code 55 = .ok (.bipush (-4), 2) := by decide +kernel
theorem d_RC_put_57 : decode prog_1_method_4_code 57 = .ok (.ireturn, 1) := by decide +kernel
theorem d_RC_put_58 : decode prog_1_method_4_code 58 = .ok (.aload_n 0, 1) := by decide +kernel
theorem d_RC_put_59 : decode prog_1_method_4_code 59 = .ok (.getfield 23, 3) := by decide +kernel
theorem d_RC_put_62 : decode prog_1_method_4_code 62 = .ok (.aload_n 3, 1) := by decide +kernel
theorem d_RC_put_63 : decode prog_1_method_4_code 63 = .ok (.getfield 40, 3) := by decide +kernel
theorem d_RC_put_66 : decode prog_1_method_4_code 66 = .ok (.iload_n 2, 1) := by decide +kernel
theorem d_RC_put_67 : decode prog_1_method_4_code 67 = .ok (.invokevirtual 77, 3) := by decide +kernel
theorem d_RC_put_70 : decode prog_1_method_4_code 70 = .ok (.aload_n 0, 1) := by decide +kernel
theorem d_RC_put_71 : decode prog_1_method_4_code 71 = .ok (.dup, 1) := by decide +kernel
theorem d_RC_put_72 : decode prog_1_method_4_code 72 = .ok (.getfield 63, 3) := by decide +kernel
theorem d_RC_put_75 : decode prog_1_method_4_code 75 = .ok (.iconst 1, 1) := by decide +kernel
theorem d_RC_put_76 : decode prog_1_method_4_code 76 = .ok (.iadd, 1) := by decide +kernel
theorem d_RC_put_77 : decode prog_1_method_4_code 77 = .ok (.putfield 63, 3) := by decide +kernel
theorem d_RC_put_80 : decode prog_1_method_4_code 80 = .ok (.aload_n 0, 1) := by decide +kernel
theorem d_RC_put_81 : decode prog_1_method_4_code 81 = .ok (.getfield 63, 3) := by decide +kernel
theorem d_RC_put_84 : decode prog_1_method_4_code 84 = .ok (.ireturn, 1) := by decide +kernel
theorem d_Bits_canWrite_0 : decode prog_2_method_4_code 0 = .ok (.iconst 1, 1) := by decide +kernel
theorem d_Bits_canWrite_1 : decode prog_2_method_4_code 1 = .ok (.ireturn, 1) := by decide +kernel
theorem d_Coder_canWrite_0 : decode prog_4_method_12_code 0 = .ok (.aload_n 1, 1) := by decide +kernel
theorem d_Coder_canWrite_1 : decode prog_4_method_12_code 1 = .ok (.iload_n 2, 1) := by decide +kernel
theorem d_Coder_canWrite_2 : decode prog_4_method_12_code 2 = .ok (.invokevirtual 27, 3) := by decide +kernel
theorem d_Coder_canWrite_5 : decode prog_4_method_12_code 5 = .ok (.ifCond .le 7, 3) := by decide +kernel
theorem d_Coder_canWrite_8 : decode prog_4_method_12_code 8 = .ok (.iconst 1, 1) := by decide +kernel
theorem d_Coder_canWrite_9 : decode prog_4_method_12_code 9 = .ok (.goto 4, 3) := by decide +kernel
theorem d_Coder_canWrite_12 : decode prog_4_method_12_code 12 = .ok (.iconst 0, 1) := by decide +kernel
theorem d_Coder_canWrite_13 : decode prog_4_method_12_code 13 = .ok (.ireturn, 1) := by decide +kernel
theorem d_Odds_at_0 : decode prog_7_method_3_code 0 = .ok (.aload_n 0, 1) := by decide +kernel
theorem d_Odds_at_1 : decode prog_7_method_3_code 1 = .ok (.iload_n 1, 1) := by decide +kernel
theorem d_Odds_at_2 : decode prog_7_method_3_code 2 = .ok (.invokevirtual 25, 3) := by decide +kernel
theorem d_Odds_at_5 : decode prog_7_method_3_code 5 = .ok (.ifCond .eq 12, 3) := by decide +kernel
theorem d_Odds_at_8 : decode prog_7_method_3_code 8 = .ok (.aload_n 0, 1) := by decide +kernel
theorem d_Odds_at_9 : decode prog_7_method_3_code 9 = .ok (.getfield 18, 3) := by decide +kernel
theorem d_Odds_at_12 : decode prog_7_method_3_code 12 = .ok (.iload_n 1, 1) := by decide +kernel
theorem d_Odds_at_13 : decode prog_7_method_3_code 13 = .ok (.iaload, 1) := by decide +kernel
theorem d_Odds_at_14 : decode prog_7_method_3_code 14 = .ok (.goto 4, 3) := by decide +kernel
theorem d_Odds_at_17 : decode prog_7_method_3_code 17 = .ok (.iconst 0, 1) := by decide +kernel
theorem d_Odds_at_18 : decode prog_7_method_3_code 18 = .ok (.ireturn, 1) := by decide +kernel
theorem d_Bits_writeSign_0 : decode prog_2_method_5_code 0 = .ok (.iconst 1, 1) := by decide +kernel
theorem d_Bits_writeSign_1 : decode prog_2_method_5_code 1 = .ok (.istore_n 3, 1) := by decide +kernel
theorem d_Bits_writeSign_2 : decode prog_2_method_5_code 2 = .ok (.aload_n 1, 1) := by decide +kernel
theorem d_Bits_writeSign_3 : decode prog_2_method_5_code 3 = .ok (.getfield 28, 3) := by decide +kernel
theorem d_Bits_writeSign_6 : decode prog_2_method_5_code 6 = .ok (.invokestatic 17, 3) := by decide +kernel
theorem d_Bits_writeSign_9 : decode prog_2_method_5_code 9 = .ok (.iconst 1, 1) := by decide +kernel
theorem d_Bits_writeSign_10 : decode prog_2_method_5_code 10 = .ok (.isub, 1) := by decide +kernel
theorem d_Bits_writeSign_11 : decode prog_2_method_5_code 11 = .ok (.istore 4, 2) := by decide +kernel
theorem d_Bits_writeSign_13 : decode prog_2_method_5_code 13 = .ok (.iload 4, 2) := by decide +kernel
theorem d_Bits_writeSign_15 : decode prog_2_method_5_code 15 = .ok (.ifCond .lt 32, 3) := by decide +kernel
theorem d_Bits_writeSign_18 : decode prog_2_method_5_code 18 = .ok (.iload_n 2, 1) := by decide +kernel
theorem d_Bits_writeSign_19 : decode prog_2_method_5_code 19 = .ok (.iload 4, 2) := by decide +kernel
theorem d_Bits_writeSign_21 : decode prog_2_method_5_code 21 = .ok (.iushr, 1) := by decide +kernel
theorem d_Bits_writeSign_22 : decode prog_2_method_5_code 22 = .ok (.iconst 1, 1) := by decide +kernel
theorem d_Bits_writeSign_23 : decode prog_2_method_5_code 23 = .ok (.iand, 1) := by decide +kernel
theorem d_Bits_writeSign_24 : decode prog_2_method_5_code 24 = .ok (.istore 5, 2) := by decide +kernel
theorem d_Bits_writeSign_26 : decode prog_2_method_5_code 26 = .ok (.aload_n 0, 1) := by decide +kernel
theorem d_Bits_writeSign_27 : decode prog_2_method_5_code 27 = .ok (.aload_n 1, 1) := by decide +kernel
theorem d_Bits_writeSign_28 : decode prog_2_method_5_code 28 = .ok (.iload_n 3, 1) := by decide +kernel
theorem d_Bits_writeSign_29 : decode prog_2_method_5_code 29 = .ok (.iload 5, 2) := by decide +kernel
theorem d_Bits_writeSign_31 : decode prog_2_method_5_code 31 = .ok (.invokevirtual 31, 3) := by decide +kernel
theorem d_Bits_writeSign_34 : decode prog_2_method_5_code 34 = .ok (.iconst 2, 1) := by decide +kernel
theorem d_Bits_writeSign_35 : decode prog_2_method_5_code 35 = .ok (.iload_n 3, 1) := by decide +kernel
theorem d_Bits_writeSign_36 : decode prog_2_method_5_code 36 = .ok (.imul, 1) := by decide +kernel
theorem d_Bits_writeSign_37 : decode prog_2_method_5_code 37 = .ok (.iload 5, 2) := by decide +kernel
theorem d_Bits_writeSign_39 : decode prog_2_method_5_code 39 = .ok (.iadd, 1) := by decide +kernel
theorem d_Bits_writeSign_40 : decode prog_2_method_5_code 40 = .ok (.istore_n 3, 1) := by decide +kernel
theorem d_Bits_writeSign_41 : decode prog_2_method_5_code 41 = .ok (.iinc 4 (-1), 3) := by decide +kernel
theorem d_Bits_writeSign_44 : decode prog_2_method_5_code 44 = .ok (.goto (-31), 3) := by decide +kernel
theorem d_Bits_writeSign_47 : decode prog_2_method_5_code 47 = .ok (.return_, 1) := by decide +kernel
theorem d_Bits_writeBit_0 : decode prog_2_method_10_code 0 = .ok (.aload_n 0, 1) := by decide +kernel
theorem d_Bits_writeBit_1 : decode prog_2_method_10_code 1 = .ok (.getfield 35, 3) := by decide +kernel
theorem d_Bits_writeBit_4 : decode prog_2_method_10_code 4 = .ok (.bipush 11, 2) := by decide +kernel
theorem d_Bits_writeBit_6 : decode prog_2_method_10_code 6 = .ok (.lushr, 1) := by decide +kernel
theorem d_Bits_writeBit_7 : decode prog_2_method_10_code 7 = .ok (.aload_n 1, 1) := by decide +kernel
theorem d_Bits_writeBit_8 : decode prog_2_method_10_code 8 = .ok (.iload_n 2, 1) := by decide +kernel
theorem d_Bits_writeBit_9 : decode prog_2_method_10_code 9 = .ok (.invokevirtual 65, 3) := by decide +kernel
theorem d_Bits_writeBit_12 : decode prog_2_method_10_code 12 = .ok (.i2l, 1) := by decide +kernel
theorem d_Bits_writeBit_13 : decode prog_2_method_10_code 13 = .ok (.lmul, 1) := by decide +kernel
theorem d_Bits_writeBit_14 : decode prog_2_method_10_code 14 = .ok (.lstore 4, 2) := by decide +kernel
theorem d_Bits_writeBit_16 : decode prog_2_method_10_code 16 = .ok (.iload_n 3, 1) := by decide +kernel
theorem d_Bits_writeBit_17 : decode prog_2_method_10_code 17 = .ok (.ifCond .ne 12, 3) := by decide +kernel
theorem d_Bits_writeBit_20 : decode prog_2_method_10_code 20 = .ok (.aload_n 0, 1) := by decide +kernel
theorem d_Bits_writeBit_21 : decode prog_2_method_10_code 21 = .ok (.lload 4, 2) := by decide +kernel
theorem d_Bits_writeBit_23 : decode prog_2_method_10_code 23 = .ok (.putfield 35, 3) := by decide +kernel
theorem d_Bits_writeBit_26 : decode prog_2_method_10_code 26 = .ok (.goto 25, 3) := by decide +kernel
theorem d_Bits_writeBit_29 : decode prog_2_method_10_code 29 = .ok (.aload_n 0, 1) := by decide +kernel
theorem d_Bits_writeBit_30 : decode prog_2_method_10_code 30 = .ok (.dup, 1) := by decide +kernel
theorem d_Bits_writeBit_31 : decode prog_2_method_10_code 31 = .ok (.getfield 39, 3) := by decide +kernel
theorem d_Bits_writeBit_34 : decode prog_2_method_10_code 34 = .ok (.lload 4, 2) := by decide +kernel
theorem d_Bits_writeBit_36 : decode prog_2_method_10_code 36 = .ok (.ladd, 1) := by decide +kernel
theorem d_Bits_writeBit_37 : decode prog_2_method_10_code 37 = .ok (.putfield 39, 3) := by decide +kernel
theorem d_Bits_writeBit_40 : decode prog_2_method_10_code 40 = .ok (.aload_n 0, 1) := by decide +kernel
theorem d_Bits_writeBit_41 : decode prog_2_method_10_code 41 = .ok (.dup, 1) := by decide +kernel
theorem d_Bits_writeBit_42 : decode prog_2_method_10_code 42 = .ok (.getfield 35, 3) := by decide +kernel
theorem d_Bits_writeBit_45 : decode prog_2_method_10_code 45 = .ok (.lload 4, 2) := by decide +kernel
theorem d_Bits_writeBit_47 : decode prog_2_method_10_code 47 = .ok (.lsub, 1) := by decide +kernel
theorem d_Bits_writeBit_48 : decode prog_2_method_10_code 48 = .ok (.putfield 35, 3) := by decide +kernel
theorem d_Bits_writeBit_51 : decode prog_2_method_10_code 51 = .ok (.aload_n 0, 1) := by decide +kernel
theorem d_Bits_writeBit_52 : decode prog_2_method_10_code 52 = .ok (.aload_n 1, 1) := by decide +kernel
theorem d_Bits_writeBit_53 : decode prog_2_method_10_code 53 = .ok (.iload_n 2, 1) := by decide +kernel
theorem d_Bits_writeBit_54 : decode prog_2_method_10_code 54 = .ok (.iload_n 3, 1) := by decide +kernel
theorem d_Bits_writeBit_55 : decode prog_2_method_10_code 55 = .ok (.invokevirtual 68, 3) := by decide +kernel
theorem d_Bits_writeBit_58 : decode prog_2_method_10_code 58 = .ok (.aload_n 0, 1) := by decide +kernel
theorem d_Bits_writeBit_59 : decode prog_2_method_10_code 59 = .ok (.invokevirtual 42, 3) := by decide +kernel
theorem d_Bits_writeBit_62 : decode prog_2_method_10_code 62 = .ok (.return_, 1) := by decide +kernel
theorem d_Bits_adapt_0 : decode prog_2_method_12_code 0 = .ok (.aload_n 1, 1) := by decide +kernel
theorem d_Bits_adapt_1 : decode prog_2_method_12_code 1 = .ok (.iload_n 2, 1) := by decide +kernel
theorem d_Bits_adapt_2 : decode prog_2_method_12_code 2 = .ok (.invokevirtual 65, 3) := by decide +kernel
theorem d_Bits_adapt_5 : decode prog_2_method_12_code 5 = .ok (.istore 4, 2) := by decide +kernel
theorem d_Bits_adapt_7 : decode prog_2_method_12_code 7 = .ok (.aload_n 1, 1) := by decide +kernel
theorem d_Bits_adapt_8 : decode prog_2_method_12_code 8 = .ok (.iload_n 2, 1) := by decide +kernel
theorem d_Bits_adapt_9 : decode prog_2_method_12_code 9 = .ok (.iload_n 3, 1) := by decide +kernel
theorem d_Bits_adapt_10 : decode prog_2_method_12_code 10 = .ok (.ifCond .ne 17, 3) := by decide +kernel
theorem d_Bits_adapt_13 : decode prog_2_method_12_code 13 = .ok (.sipush 2048, 3) := by decide +kernel
theorem d_Bits_adapt_16 : decode prog_2_method_12_code 16 = .ok (.iload 4, 2) := by decide +kernel
theorem d_Bits_adapt_18 : decode prog_2_method_12_code 18 = .ok (.isub, 1) := by decide +kernel
theorem d_Bits_adapt_19 : decode prog_2_method_12_code 19 = .ok (.aload_n 0, 1) := by decide +kernel
theorem d_Bits_adapt_20 : decode prog_2_method_12_code 20 = .ok (.getfield 11, 3) := by decide +kernel
theorem d_Bits_adapt_23 : decode prog_2_method_12_code 23 = .ok (.ishr, 1) := by decide +kernel
theorem d_Bits_adapt_24 : decode prog_2_method_12_code 24 = .ok (.goto 11, 3) := by decide +kernel
theorem d_Bits_adapt_27 : decode prog_2_method_12_code 27 = .ok (.iload 4, 2) := by decide +kernel
theorem d_Bits_adapt_29 : decode prog_2_method_12_code 29 = .ok (.aload_n 0, 1) := by decide +kernel
theorem d_Bits_adapt_30 : decode prog_2_method_12_code 30 = .ok (.getfield 11, 3) := by decide +kernel
theorem d_Bits_adapt_33 : decode prog_2_method_12_code 33 = .ok (.ishr, 1) := by decide +kernel
theorem d_Bits_adapt_34 : decode prog_2_method_12_code 34 = .ok (.ineg, 1) := by decide +kernel
theorem d_Bits_adapt_35 : decode prog_2_method_12_code 35 = .ok (.invokevirtual 71, 3) := by decide +kernel
theorem d_Bits_adapt_38 : decode prog_2_method_12_code 38 = .ok (.return_, 1) := by decide +kernel
theorem d_Carries_widen_0 : decode prog_3_method_6_code 0 = .ok (.iconst 0, 1) := by decide +kernel
theorem d_Carries_widen_1 : decode prog_3_method_6_code 1 = .ok (.istore_n 1, 1) := by decide +kernel
theorem d_Carries_widen_2 : decode prog_3_method_6_code 2 = .ok (.iload_n 1, 1) := by decide +kernel
theorem d_Carries_widen_3 : decode prog_3_method_6_code 3 = .ok (.bipush 8, 2) := by decide +kernel
theorem d_Carries_widen_5 : decode prog_3_method_6_code 5 = .ok (.if_icmp .ge 39, 3) := by decide +kernel
theorem d_Carries_widen_8 : decode prog_3_method_6_code 8 = .ok (.aload_n 0, 1) := by decide +kernel
theorem d_Carries_widen_9 : decode prog_3_method_6_code 9 = .ok (.getfield 21, 3) := by decide +kernel
theorem d_Carries_widen_12 : decode prog_3_method_6_code 12 = .ok (.ldc2_w 43, 3) := by decide +kernel
theorem d_Carries_widen_15 : decode prog_3_method_6_code 15 = .ok (.lcmp, 1) := by decide +kernel
theorem d_Carries_widen_16 : decode prog_3_method_6_code 16 = .ok (.ifCond .ge 28, 3) := by decide +kernel
theorem d_Carries_widen_19 : decode prog_3_method_6_code 19 = .ok (.aload_n 0, 1) := by decide +kernel
theorem d_Carries_widen_20 : decode prog_3_method_6_code 20 = .ok (.aload_n 0, 1) := by decide +kernel
theorem d_Carries_widen_21 : decode prog_3_method_6_code 21 = .ok (.getfield 21, 3) := by decide +kernel
theorem d_Carries_widen_24 : decode prog_3_method_6_code 24 = .ok (.bipush 8, 2) := by decide +kernel
theorem d_Carries_widen_26 : decode prog_3_method_6_code 26 = .ok (.lshl, 1) := by decide +kernel
theorem d_Carries_widen_27 : decode prog_3_method_6_code 27 = .ok (.ldc2_w 45, 3) := by decide +kernel
theorem d_Carries_widen_30 : decode prog_3_method_6_code 30 = .ok (.land, 1) := by decide +kernel
theorem d_Carries_widen_31 : decode prog_3_method_6_code 31 = .ok (.putfield 21, 3) := by decide +kernel
theorem d_Carries_widen_34 : decode prog_3_method_6_code 34 = .ok (.aload_n 0, 1) := by decide +kernel
theorem d_Carries_widen_35 : decode prog_3_method_6_code 35 = .ok (.invokevirtual 40, 3) := by decide +kernel
theorem d_Carries_widen_38 : decode prog_3_method_6_code 38 = .ok (.iinc 1 1, 3) := by decide +kernel
theorem d_Carries_widen_41 : decode prog_3_method_6_code 41 = .ok (.goto (-39), 3) := by decide +kernel
theorem d_Carries_widen_44 : decode prog_3_method_6_code 44 = .ok (.return_, 1) := by decide +kernel
theorem d_Carries_shiftLow_0 : decode prog_3_method_8_code 0 = .ok (.aload_n 0, 1) := by decide +kernel
theorem d_Carries_shiftLow_1 : decode prog_3_method_8_code 1 = .ok (.getfield 25, 3) := by decide +kernel
theorem d_Carries_shiftLow_4 : decode prog_3_method_8_code 4 = .ok (.ldc2_w 51, 3) := by decide +kernel
theorem d_Carries_shiftLow_7 : decode prog_3_method_8_code 7 = .ok (.lcmp, 1) := by decide +kernel
theorem d_Carries_shiftLow_8 : decode prog_3_method_8_code 8 = .ok (.ifCond .lt 14, 3) := by decide +kernel
theorem d_Carries_shiftLow_11 : decode prog_3_method_8_code 11 = .ok (.aload_n 0, 1) := by decide +kernel
theorem d_Carries_shiftLow_12 : decode prog_3_method_8_code 12 = .ok (.getfield 25, 3) := by decide +kernel
theorem d_Carries_shiftLow_15 : decode prog_3_method_8_code 15 = .ok (.ldc2_w 45, 3) := by decide +kernel
theorem d_Carries_shiftLow_18 : decode prog_3_method_8_code 18 = .ok (.lcmp, 1) := by decide +kernel
theorem d_Carries_shiftLow_19 : decode prog_3_method_8_code 19 = .ok (.ifCond .le 34, 3) := by decide +kernel
theorem d_Carries_shiftLow_22 : decode prog_3_method_8_code 22 = .ok (.aload_n 0, 1) := by decide +kernel
theorem d_Carries_shiftLow_23 : decode prog_3_method_8_code 23 = .ok (.aload_n 0, 1) := by decide +kernel
theorem d_Carries_shiftLow_24 : decode prog_3_method_8_code 24 = .ok (.getfield 25, 3) := by decide +kernel
theorem d_Carries_shiftLow_27 : decode prog_3_method_8_code 27 = .ok (.bipush 32, 2) := by decide +kernel
theorem d_Carries_shiftLow_29 : decode prog_3_method_8_code 29 = .ok (.lushr, 1) := by decide +kernel
theorem d_Carries_shiftLow_30 : decode prog_3_method_8_code 30 = .ok (.l2i, 1) := by decide +kernel
theorem d_Carries_shiftLow_31 : decode prog_3_method_8_code 31 = .ok (.invokevirtual 53, 3) := by decide +kernel
theorem d_Carries_shiftLow_34 : decode prog_3_method_8_code 34 = .ok (.aload_n 0, 1) := by decide +kernel
theorem d_Carries_shiftLow_35 : decode prog_3_method_8_code 35 = .ok (.aload_n 0, 1) := by decide +kernel
theorem d_Carries_shiftLow_36 : decode prog_3_method_8_code 36 = .ok (.getfield 25, 3) := by decide +kernel
theorem d_Carries_shiftLow_39 : decode prog_3_method_8_code 39 = .ok (.bipush 24, 2) := by decide +kernel
theorem d_Carries_shiftLow_41 : decode prog_3_method_8_code 41 = .ok (.lushr, 1) := by decide +kernel
theorem d_Carries_shiftLow_42 : decode prog_3_method_8_code 42 = .ok (.l2i, 1) := by decide +kernel
theorem d_Carries_shiftLow_43 : decode prog_3_method_8_code 43 = .ok (.sipush 255, 3) := by decide +kernel
theorem d_Carries_shiftLow_46 : decode prog_3_method_8_code 46 = .ok (.iand, 1) := by decide +kernel
theorem d_Carries_shiftLow_47 : decode prog_3_method_8_code 47 = .ok (.putfield 9, 3) := by decide +kernel
theorem d_Carries_shiftLow_50 : decode prog_3_method_8_code 50 = .ok (.goto 13, 3) := by decide +kernel
theorem d_Carries_shiftLow_53 : decode prog_3_method_8_code 53 = .ok (.aload_n 0, 1) := by decide +kernel
theorem d_Carries_shiftLow_54 : decode prog_3_method_8_code 54 = .ok (.dup, 1) := by decide +kernel
theorem d_Carries_shiftLow_55 : decode prog_3_method_8_code 55 = .ok (.getfield 18, 3) := by decide +kernel
theorem d_Carries_shiftLow_58 : decode prog_3_method_8_code 58 = .ok (.iconst 1, 1) := by decide +kernel
theorem d_Carries_shiftLow_59 : decode prog_3_method_8_code 59 = .ok (.iadd, 1) := by decide +kernel
theorem d_Carries_shiftLow_60 : decode prog_3_method_8_code 60 = .ok (.putfield 18, 3) := by decide +kernel
theorem d_Carries_shiftLow_63 : decode prog_3_method_8_code 63 = .ok (.aload_n 0, 1) := by decide +kernel
theorem d_Carries_shiftLow_64 : decode prog_3_method_8_code 64 = .ok (.aload_n 0, 1) := by decide +kernel
theorem d_Carries_shiftLow_65 : decode prog_3_method_8_code 65 = .ok (.getfield 25, 3) := by decide +kernel
theorem d_Carries_shiftLow_68 : decode prog_3_method_8_code 68 = .ok (.bipush 8, 2) := by decide +kernel
theorem d_Carries_shiftLow_70 : decode prog_3_method_8_code 70 = .ok (.lshl, 1) := by decide +kernel
theorem d_Carries_shiftLow_71 : decode prog_3_method_8_code 71 = .ok (.ldc2_w 45, 3) := by decide +kernel
theorem d_Carries_shiftLow_74 : decode prog_3_method_8_code 74 = .ok (.land, 1) := by decide +kernel
theorem d_Carries_shiftLow_75 : decode prog_3_method_8_code 75 = .ok (.putfield 25, 3) := by decide +kernel
theorem d_Carries_shiftLow_78 : decode prog_3_method_8_code 78 = .ok (.return_, 1) := by decide +kernel
theorem d_Carries_writeWaiting_0 : decode prog_3_method_9_code 0 = .ok (.aload_n 0, 1) := by decide +kernel
theorem d_Carries_writeWaiting_1 : decode prog_3_method_9_code 1 = .ok (.getfield 9, 3) := by decide +kernel
theorem d_Carries_writeWaiting_4 : decode prog_3_method_9_code 4 = .ok (.iconst (-1), 1) := by decide +kernel
theorem d_Carries_writeWaiting_5 : decode prog_3_method_9_code 5 = .ok (.if_icmp .eq 20, 3) := by decide +kernel
theorem d_Carries_writeWaiting_8 : decode prog_3_method_9_code 8 = .ok (.aload_n 0, 1) := by decide +kernel
theorem d_Carries_writeWaiting_9 : decode prog_3_method_9_code 9 = .ok (.getfield 57, 3) := by decide +kernel
theorem d_Carries_writeWaiting_12 : decode prog_3_method_9_code 12 = .ok (.aload_n 0, 1) := by decide +kernel
theorem d_Carries_writeWaiting_13 : decode prog_3_method_9_code 13 = .ok (.getfield 9, 3) := by decide +kernel
theorem d_Carries_writeWaiting_16 : decode prog_3_method_9_code 16 = .ok (.iload_n 1, 1) := by decide +kernel
theorem d_Carries_writeWaiting_17 : decode prog_3_method_9_code 17 = .ok (.iadd, 1) := by decide +kernel
theorem d_Carries_writeWaiting_18 : decode prog_3_method_9_code 18 = .ok (.sipush 255, 3) := by decide +kernel
theorem d_Carries_writeWaiting_21 : decode prog_3_method_9_code 21 = .ok (.iand, 1) := by decide +kernel
theorem d_Carries_writeWaiting_22 : decode prog_3_method_9_code 22 = .ok (.invokevirtual 61, 3) := by decide +kernel
theorem d_Carries_writeWaiting_25 : decode prog_3_method_9_code 25 = .ok (.iconst 0, 1) := by decide +kernel
theorem d_Carries_writeWaiting_26 : decode prog_3_method_9_code 26 = .ok (.istore_n 2, 1) := by decide +kernel
theorem d_Carries_writeWaiting_27 : decode prog_3_method_9_code 27 = .ok (.iload_n 2, 1) := by decide +kernel
theorem d_Carries_writeWaiting_28 : decode prog_3_method_9_code 28 = .ok (.aload_n 0, 1) := by decide +kernel
theorem d_Carries_writeWaiting_29 : decode prog_3_method_9_code 29 = .ok (.getfield 18, 3) := by decide +kernel
theorem d_Carries_writeWaiting_32 : decode prog_3_method_9_code 32 = .ok (.if_icmp .ge 25, 3) := by decide +kernel
theorem d_Carries_writeWaiting_35 : decode prog_3_method_9_code 35 = .ok (.aload_n 0, 1) := by decide +kernel
theorem d_Carries_writeWaiting_36 : decode prog_3_method_9_code 36 = .ok (.getfield 57, 3) := by decide +kernel
theorem d_Carries_writeWaiting_39 : decode prog_3_method_9_code 39 = .ok (.sipush 255, 3) := by decide +kernel
theorem d_Carries_writeWaiting_42 : decode prog_3_method_9_code 42 = .ok (.iload_n 1, 1) := by decide +kernel
theorem d_Carries_writeWaiting_43 : decode prog_3_method_9_code 43 = .ok (.iadd, 1) := by decide +kernel
theorem d_Carries_writeWaiting_44 : decode prog_3_method_9_code 44 = .ok (.sipush 255, 3) := by decide +kernel
theorem d_Carries_writeWaiting_47 : decode prog_3_method_9_code 47 = .ok (.iand, 1) := by decide +kernel
theorem d_Carries_writeWaiting_48 : decode prog_3_method_9_code 48 = .ok (.invokevirtual 61, 3) := by decide +kernel
theorem d_Carries_writeWaiting_51 : decode prog_3_method_9_code 51 = .ok (.iinc 2 1, 3) := by decide +kernel
theorem d_Carries_writeWaiting_54 : decode prog_3_method_9_code 54 = .ok (.goto (-27), 3) := by decide +kernel
theorem d_Carries_writeWaiting_57 : decode prog_3_method_9_code 57 = .ok (.aload_n 0, 1) := by decide +kernel
theorem d_Carries_writeWaiting_58 : decode prog_3_method_9_code 58 = .ok (.iconst 0, 1) := by decide +kernel
theorem d_Carries_writeWaiting_59 : decode prog_3_method_9_code 59 = .ok (.putfield 18, 3) := by decide +kernel
theorem d_Carries_writeWaiting_62 : decode prog_3_method_9_code 62 = .ok (.return_, 1) := by decide +kernel
theorem d_Row_add_0 : decode prog_9_method_5_code 0 = .ok (.aload_n 0, 1) := by decide +kernel
theorem d_Row_add_1 : decode prog_9_method_5_code 1 = .ok (.getfield 15, 3) := by decide +kernel
theorem d_Row_add_4 : decode prog_9_method_5_code 4 = .ok (.aload_n 0, 1) := by decide +kernel
theorem d_Row_add_5 : decode prog_9_method_5_code 5 = .ok (.getfield 11, 3) := by decide +kernel
theorem d_Row_add_8 : decode prog_9_method_5_code 8 = .ok (.arraylength, 1) := by decide +kernel
theorem d_Row_add_9 : decode prog_9_method_5_code 9 = .ok (.if_icmp .lt 32, 3) := by decide +kernel
theorem d_Row_add_12 : decode prog_9_method_5_code 12 = .ok (.aload_n 0, 1) := by decide +kernel
theorem d_Row_add_13 : decode prog_9_method_5_code 13 = .ok (.getfield 11, 3) := by decide +kernel
theorem d_Row_add_16 : decode prog_9_method_5_code 16 = .ok (.arraylength, 1) := by decide +kernel
theorem d_Row_add_17 : decode prog_9_method_5_code 17 = .ok (.sipush 8192, 3) := by decide +kernel
theorem d_Row_add_20 : decode prog_9_method_5_code 20 = .ok (.if_icmp .ge 21, 3) := by decide +kernel
theorem d_Row_add_23 : decode prog_9_method_5_code 23 = .ok (.aload_n 0, 1) := by decide +kernel
theorem d_Row_add_24 : decode prog_9_method_5_code 24 = .ok (.aload_n 0, 1) := by decide +kernel
theorem d_Row_add_25 : decode prog_9_method_5_code 25 = .ok (.getfield 11, 3) := by decide +kernel
theorem d_Row_add_28 : decode prog_9_method_5_code 28 = .ok (.aload_n 0, 1) := by decide +kernel
theorem d_Row_add_29 : decode prog_9_method_5_code 29 = .ok (.getfield 11, 3) := by decide +kernel
theorem d_Row_add_32 : decode prog_9_method_5_code 32 = .ok (.arraylength, 1) := by decide +kernel
theorem d_Row_add_33 : decode prog_9_method_5_code 33 = .ok (.iconst 2, 1) := by decide +kernel
theorem d_Row_add_34 : decode prog_9_method_5_code 34 = .ok (.imul, 1) := by decide +kernel
theorem d_Row_add_35 : decode prog_9_method_5_code 35 = .ok (.invokestatic 23, 3) := by decide +kernel
theorem d_Row_add_38 : decode prog_9_method_5_code 38 = .ok (.putfield 11, 3) := by decide +kernel
theorem d_Row_add_41 : decode prog_9_method_5_code 41 = .ok (.aload_n 0, 1) := by decide +kernel
theorem d_Row_add_42 : decode prog_9_method_5_code 42 = .ok (.getfield 15, 3) := by decide +kernel
theorem d_Row_add_45 : decode prog_9_method_5_code 45 = .ok (.ifCond .lt 35, 3) := by decide +kernel
theorem d_Row_add_48 : decode prog_9_method_5_code 48 = .ok (.aload_n 0, 1) := by decide +kernel
theorem d_Row_add_49 : decode prog_9_method_5_code 49 = .ok (.getfield 15, 3) := by decide +kernel
theorem d_Row_add_52 : decode prog_9_method_5_code 52 = .ok (.aload_n 0, 1) := by decide +kernel
theorem d_Row_add_53 : decode prog_9_method_5_code 53 = .ok (.getfield 11, 3) := by decide +kernel
theorem d_Row_add_56 : decode prog_9_method_5_code 56 = .ok (.arraylength, 1) := by decide +kernel
theorem d_Row_add_57 : decode prog_9_method_5_code 57 = .ok (.if_icmp .ge 23, 3) := by decide +kernel
theorem d_Row_add_60 : decode prog_9_method_5_code 60 = .ok (.aload_n 0, 1) := by decide +kernel
theorem d_Row_add_61 : decode prog_9_method_5_code 61 = .ok (.getfield 11, 3) := by decide +kernel
theorem d_Row_add_64 : decode prog_9_method_5_code 64 = .ok (.aload_n 0, 1) := by decide +kernel
theorem d_Row_add_65 : decode prog_9_method_5_code 65 = .ok (.getfield 15, 3) := by decide +kernel
theorem d_Row_add_68 : decode prog_9_method_5_code 68 = .ok (.iload_n 1, 1) := by decide +kernel
theorem d_Row_add_69 : decode prog_9_method_5_code 69 = .ok (.iastore, 1) := by decide +kernel
theorem d_Row_add_70 : decode prog_9_method_5_code 70 = .ok (.aload_n 0, 1) := by decide +kernel
theorem d_Row_add_71 : decode prog_9_method_5_code 71 = .ok (.dup, 1) := by decide +kernel
theorem d_Row_add_72 : decode prog_9_method_5_code 72 = .ok (.getfield 15, 3) := by decide +kernel
theorem d_Row_add_75 : decode prog_9_method_5_code 75 = .ok (.iconst 1, 1) := by decide +kernel
theorem d_Row_add_76 : decode prog_9_method_5_code 76 = .ok (.iadd, 1) := by decide +kernel
theorem d_Row_add_77 : decode prog_9_method_5_code 77 = .ok (.putfield 15, 3) := by decide +kernel
theorem d_Row_add_80 : decode prog_9_method_5_code 80 = .ok (.return_, 1) := by decide +kernel
theorem d_Ranged_writeSign_0 : decode prog_8_method_7_code 0 = .ok (.aload_n 0, 1) := by decide +kernel
theorem d_Ranged_writeSign_1 : decode prog_8_method_7_code 1 = .ok (.aload_n 1, 1) := by decide +kernel
theorem d_Ranged_writeSign_2 : decode prog_8_method_7_code 2 = .ok (.iload_n 2, 1) := by decide +kernel
theorem d_Ranged_writeSign_3 : decode prog_8_method_7_code 3 = .ok (.invokevirtual 35, 3) := by decide +kernel
theorem d_Ranged_writeSign_6 : decode prog_8_method_7_code 6 = .ok (.aload_n 1, 1) := by decide +kernel
theorem d_Ranged_writeSign_7 : decode prog_8_method_7_code 7 = .ok (.iload_n 2, 1) := by decide +kernel
theorem d_Ranged_writeSign_8 : decode prog_8_method_7_code 8 = .ok (.invokevirtual 39, 3) := by decide +kernel
theorem d_Ranged_writeSign_11 : decode prog_8_method_7_code 11 = .ok (.aload_n 1, 1) := by decide +kernel
theorem d_Ranged_writeSign_12 : decode prog_8_method_7_code 12 = .ok (.getfield 42, 3) := by decide +kernel
theorem d_Ranged_writeSign_15 : decode prog_8_method_7_code 15 = .ok (.invokevirtual 46, 3) := by decide +kernel
theorem d_Ranged_writeSign_18 : decode prog_8_method_7_code 18 = .ok (.aload_n 1, 1) := by decide +kernel
theorem d_Ranged_writeSign_19 : decode prog_8_method_7_code 19 = .ok (.iload_n 2, 1) := by decide +kernel
theorem d_Ranged_writeSign_20 : decode prog_8_method_7_code 20 = .ok (.invokevirtual 50, 3) := by decide +kernel
theorem d_Ranged_writeSign_23 : decode prog_8_method_7_code 23 = .ok (.return_, 1) := by decide +kernel
theorem d_Odds_below_0 : decode prog_7_method_8_code 0 = .ok (.iconst 0, 1) := by decide +kernel
theorem d_Odds_below_1 : decode prog_7_method_8_code 1 = .ok (.istore_n 2, 1) := by decide +kernel
theorem d_Odds_below_2 : decode prog_7_method_8_code 2 = .ok (.iconst 0, 1) := by decide +kernel
theorem d_Odds_below_3 : decode prog_7_method_8_code 3 = .ok (.istore_n 3, 1) := by decide +kernel
theorem d_Odds_below_4 : decode prog_7_method_8_code 4 = .ok (.iload_n 3, 1) := by decide +kernel
theorem d_Odds_below_5 : decode prog_7_method_8_code 5 = .ok (.iload_n 1, 1) := by decide +kernel
theorem d_Odds_below_6 : decode prog_7_method_8_code 6 = .ok (.if_icmp .ge 27, 3) := by decide +kernel
theorem d_Odds_below_9 : decode prog_7_method_8_code 9 = .ok (.iload_n 3, 1) := by decide +kernel
theorem d_Odds_below_10 : decode prog_7_method_8_code 10 = .ok (.aload_n 0, 1) := by decide +kernel
theorem d_Odds_below_11 : decode prog_7_method_8_code 11 = .ok (.getfield 18, 3) := by decide +kernel
theorem d_Odds_below_14 : decode prog_7_method_8_code 14 = .ok (.arraylength, 1) := by decide +kernel
theorem d_Odds_below_15 : decode prog_7_method_8_code 15 = .ok (.if_icmp .ge 18, 3) := by decide +kernel
theorem d_Odds_below_18 : decode prog_7_method_8_code 18 = .ok (.iload_n 2, 1) := by decide +kernel
theorem d_Odds_below_19 : decode prog_7_method_8_code 19 = .ok (.aload_n 0, 1) := by decide +kernel
theorem d_Odds_below_20 : decode prog_7_method_8_code 20 = .ok (.getfield 18, 3) := by decide +kernel
theorem d_Odds_below_23 : decode prog_7_method_8_code 23 = .ok (.iload_n 3, 1) := by decide +kernel
theorem d_Odds_below_24 : decode prog_7_method_8_code 24 = .ok (.iaload, 1) := by decide +kernel
theorem d_Odds_below_25 : decode prog_7_method_8_code 25 = .ok (.iadd, 1) := by decide +kernel
theorem d_Odds_below_26 : decode prog_7_method_8_code 26 = .ok (.istore_n 2, 1) := by decide +kernel
theorem d_Odds_below_27 : decode prog_7_method_8_code 27 = .ok (.iinc 3 1, 3) := by decide +kernel
theorem d_Odds_below_30 : decode prog_7_method_8_code 30 = .ok (.goto (-26), 3) := by decide +kernel
theorem d_Odds_below_33 : decode prog_7_method_8_code 33 = .ok (.iload_n 2, 1) := by decide +kernel
theorem d_Odds_below_34 : decode prog_7_method_8_code 34 = .ok (.ireturn, 1) := by decide +kernel
theorem d_Carries_writePart_0 : decode prog_3_method_3_code 0 = .ok (.iload_n 3, 1) := by decide +kernel
theorem d_Carries_writePart_1 : decode prog_3_method_3_code 1 = .ok (.ifCond .le 13, 3) := by decide +kernel
theorem d_Carries_writePart_4 : decode prog_3_method_3_code 4 = .ok (.aload_n 0, 1) := by decide +kernel
theorem d_Carries_writePart_5 : decode prog_3_method_3_code 5 = .ok (.getfield 21, 3) := by decide +kernel
theorem d_Carries_writePart_8 : decode prog_3_method_3_code 8 = .ok (.iload_n 3, 1) := by decide +kernel
theorem d_Carries_writePart_9 : decode prog_3_method_3_code 9 = .ok (.i2l, 1) := by decide +kernel
theorem d_Carries_writePart_10 : decode prog_3_method_3_code 10 = .ok (.ldiv, 1) := by decide +kernel
theorem d_Carries_writePart_11 : decode prog_3_method_3_code 11 = .ok (.goto 4, 3) := by decide +kernel
theorem d_Carries_writePart_15 : decode prog_3_method_3_code 15 = .ok (.lstore 4, 2) := by decide +kernel
theorem d_Carries_writePart_17 : decode prog_3_method_3_code 17 = .ok (.aload_n 0, 1) := by decide +kernel
theorem d_Carries_writePart_18 : decode prog_3_method_3_code 18 = .ok (.dup, 1) := by decide +kernel
theorem d_Carries_writePart_19 : decode prog_3_method_3_code 19 = .ok (.getfield 25, 3) := by decide +kernel
theorem d_Carries_writePart_22 : decode prog_3_method_3_code 22 = .ok (.lload 4, 2) := by decide +kernel
theorem d_Carries_writePart_24 : decode prog_3_method_3_code 24 = .ok (.iload_n 2, 1) := by decide +kernel
theorem d_Carries_writePart_25 : decode prog_3_method_3_code 25 = .ok (.i2l, 1) := by decide +kernel
theorem d_Carries_writePart_26 : decode prog_3_method_3_code 26 = .ok (.lmul, 1) := by decide +kernel
theorem d_Carries_writePart_27 : decode prog_3_method_3_code 27 = .ok (.ladd, 1) := by decide +kernel
theorem d_Carries_writePart_28 : decode prog_3_method_3_code 28 = .ok (.putfield 25, 3) := by decide +kernel
theorem d_Carries_writePart_31 : decode prog_3_method_3_code 31 = .ok (.aload_n 0, 1) := by decide +kernel
theorem d_Carries_writePart_32 : decode prog_3_method_3_code 32 = .ok (.lload 4, 2) := by decide +kernel
theorem d_Carries_writePart_34 : decode prog_3_method_3_code 34 = .ok (.iload_n 1, 1) := by decide +kernel
theorem d_Carries_writePart_35 : decode prog_3_method_3_code 35 = .ok (.i2l, 1) := by decide +kernel
theorem d_Carries_writePart_36 : decode prog_3_method_3_code 36 = .ok (.lmul, 1) := by decide +kernel
theorem d_Carries_writePart_37 : decode prog_3_method_3_code 37 = .ok (.putfield 21, 3) := by decide +kernel
theorem d_Carries_writePart_40 : decode prog_3_method_3_code 40 = .ok (.aload_n 0, 1) := by decide +kernel
theorem d_Carries_writePart_41 : decode prog_3_method_3_code 41 = .ok (.invokevirtual 28, 3) := by decide +kernel
theorem d_Carries_writePart_44 : decode prog_3_method_3_code 44 = .ok (.return_, 1) := by decide +kernel
theorem d_NoCarries_writePart_0 : decode prog_6_method_2_code 0 = .ok (.iload_n 3, 1) := by decide +kernel
theorem d_NoCarries_writePart_1 : decode prog_6_method_2_code 1 = .ok (.ifCond .le 13, 3) := by decide +kernel
theorem d_NoCarries_writePart_4 : decode prog_6_method_2_code 4 = .ok (.aload_n 0, 1) := by decide +kernel
theorem d_NoCarries_writePart_5 : decode prog_6_method_2_code 5 = .ok (.getfield 9, 3) := by decide +kernel
theorem d_NoCarries_writePart_8 : decode prog_6_method_2_code 8 = .ok (.iload_n 3, 1) := by decide +kernel
theorem d_NoCarries_writePart_9 : decode prog_6_method_2_code 9 = .ok (.i2l, 1) := by decide +kernel
theorem d_NoCarries_writePart_10 : decode prog_6_method_2_code 10 = .ok (.ldiv, 1) := by decide +kernel
theorem d_NoCarries_writePart_11 : decode prog_6_method_2_code 11 = .ok (.goto 4, 3) := by decide +kernel
theorem d_NoCarries_writePart_15 : decode prog_6_method_2_code 15 = .ok (.lstore 4, 2) := by decide +kernel
theorem d_NoCarries_writePart_17 : decode prog_6_method_2_code 17 = .ok (.aload_n 0, 1) := by decide +kernel
theorem d_NoCarries_writePart_18 : decode prog_6_method_2_code 18 = .ok (.aload_n 0, 1) := by decide +kernel
theorem d_NoCarries_writePart_19 : decode prog_6_method_2_code 19 = .ok (.getfield 15, 3) := by decide +kernel
theorem d_NoCarries_writePart_22 : decode prog_6_method_2_code 22 = .ok (.lload 4, 2) := by decide +kernel
theorem d_NoCarries_writePart_24 : decode prog_6_method_2_code 24 = .ok (.iload_n 2, 1) := by decide +kernel
theorem d_NoCarries_writePart_25 : decode prog_6_method_2_code 25 = .ok (.i2l, 1) := by decide +kernel
theorem d_NoCarries_writePart_26 : decode prog_6_method_2_code 26 = .ok (.lmul, 1) := by decide +kernel
theorem d_NoCarries_writePart_27 : decode prog_6_method_2_code 27 = .ok (.ladd, 1) := by decide +kernel
theorem d_NoCarries_writePart_28 : decode prog_6_method_2_code 28 = .ok (.ldc2_w 18, 3) := by decide +kernel
theorem d_NoCarries_writePart_31 : decode prog_6_method_2_code 31 = .ok (.land, 1) := by decide +kernel
theorem d_NoCarries_writePart_32 : decode prog_6_method_2_code 32 = .ok (.putfield 15, 3) := by decide +kernel
theorem d_NoCarries_writePart_35 : decode prog_6_method_2_code 35 = .ok (.aload_n 0, 1) := by decide +kernel
theorem d_NoCarries_writePart_36 : decode prog_6_method_2_code 36 = .ok (.lload 4, 2) := by decide +kernel
theorem d_NoCarries_writePart_38 : decode prog_6_method_2_code 38 = .ok (.iload_n 1, 1) := by decide +kernel
theorem d_NoCarries_writePart_39 : decode prog_6_method_2_code 39 = .ok (.i2l, 1) := by decide +kernel
theorem d_NoCarries_writePart_40 : decode prog_6_method_2_code 40 = .ok (.lmul, 1) := by decide +kernel
theorem d_NoCarries_writePart_41 : decode prog_6_method_2_code 41 = .ok (.ldc2_w 18, 3) := by decide +kernel
theorem d_NoCarries_writePart_44 : decode prog_6_method_2_code 44 = .ok (.land, 1) := by decide +kernel
theorem d_NoCarries_writePart_45 : decode prog_6_method_2_code 45 = .ok (.putfield 9, 3) := by decide +kernel
theorem d_NoCarries_writePart_48 : decode prog_6_method_2_code 48 = .ok (.iconst 0, 1) := by decide +kernel
theorem d_NoCarries_writePart_49 : decode prog_6_method_2_code 49 = .ok (.istore 6, 2) := by decide +kernel
theorem d_NoCarries_writePart_51 : decode prog_6_method_2_code 51 = .ok (.iload 6, 2) := by decide +kernel
theorem d_NoCarries_writePart_53 : decode prog_6_method_2_code 53 = .ok (.bipush 8, 2) := by decide +kernel
theorem d_NoCarries_writePart_55 : decode prog_6_method_2_code 55 = .ok (.if_icmp .ge 42, 3) := by decide +kernel
theorem d_NoCarries_writePart_58 : decode prog_6_method_2_code 58 = .ok (.aload_n 0, 1) := by decide +kernel
theorem d_NoCarries_writePart_59 : decode prog_6_method_2_code 59 = .ok (.getfield 15, 3) := by decide +kernel
theorem d_NoCarries_writePart_62 : decode prog_6_method_2_code 62 = .ok (.aload_n 0, 1) := by decide +kernel
theorem d_NoCarries_writePart_63 : decode prog_6_method_2_code 63 = .ok (.getfield 9, 3) := by decide +kernel
theorem d_NoCarries_writePart_66 : decode prog_6_method_2_code 66 = .ok (.invokestatic 20, 3) := by decide +kernel
theorem d_NoCarries_writePart_69 : decode prog_6_method_2_code 69 = .ok (.ifCond .eq 28, 3) := by decide +kernel
theorem d_NoCarries_writePart_72 : decode prog_6_method_2_code 72 = .ok (.aload_n 0, 1) := by decide +kernel
theorem d_NoCarries_writePart_73 : decode prog_6_method_2_code 73 = .ok (.aload_n 0, 1) := by decide +kernel
theorem d_NoCarries_writePart_74 : decode prog_6_method_2_code 74 = .ok (.getfield 15, 3) := by decide +kernel
theorem d_NoCarries_writePart_77 : decode prog_6_method_2_code 77 = .ok (.aload_n 0, 1) := by decide +kernel
theorem d_NoCarries_writePart_78 : decode prog_6_method_2_code 78 = .ok (.getfield 9, 3) := by decide +kernel
theorem d_NoCarries_writePart_81 : decode prog_6_method_2_code 81 = .ok (.invokestatic 24, 3) := by decide +kernel
theorem d_NoCarries_writePart_84 : decode prog_6_method_2_code 84 = .ok (.putfield 9, 3) := by decide +kernel
theorem d_NoCarries_writePart_87 : decode prog_6_method_2_code 87 = .ok (.aload_n 0, 1) := by decide +kernel
theorem d_NoCarries_writePart_88 : decode prog_6_method_2_code 88 = .ok (.invokevirtual 28, 3) := by decide +kernel
theorem d_NoCarries_writePart_91 : decode prog_6_method_2_code 91 = .ok (.iinc 6 1, 3) := by decide +kernel
theorem d_NoCarries_writePart_94 : decode prog_6_method_2_code 94 = .ok (.goto (-43), 3) := by decide +kernel
theorem d_NoCarries_writePart_97 : decode prog_6_method_2_code 97 = .ok (.return_, 1) := by decide +kernel
theorem d_NoCarries_mustMove_0 : decode prog_6_method_7_code 0 = .ok (.lload_n 0, 1) := by decide +kernel
theorem d_NoCarries_mustMove_1 : decode prog_6_method_7_code 1 = .ok (.lload_n 2, 1) := by decide +kernel
theorem d_NoCarries_mustMove_2 : decode prog_6_method_7_code 2 = .ok (.invokestatic 54, 3) := by decide +kernel
theorem d_NoCarries_mustMove_5 : decode prog_6_method_7_code 5 = .ok (.ifCond .ne 11, 3) := by decide +kernel
theorem d_NoCarries_mustMove_8 : decode prog_6_method_7_code 8 = .ok (.lload_n 2, 1) := by decide +kernel
theorem d_NoCarries_mustMove_9 : decode prog_6_method_7_code 9 = .ok (.ldc2_w 57, 3) := by decide +kernel
theorem d_NoCarries_mustMove_12 : decode prog_6_method_7_code 12 = .ok (.lcmp, 1) := by decide +kernel
theorem d_NoCarries_mustMove_13 : decode prog_6_method_7_code 13 = .ok (.ifCond .ge 7, 3) := by decide +kernel
theorem d_NoCarries_mustMove_16 : decode prog_6_method_7_code 16 = .ok (.iconst 1, 1) := by decide +kernel
theorem d_NoCarries_mustMove_17 : decode prog_6_method_7_code 17 = .ok (.goto 4, 3) := by decide +kernel
theorem d_NoCarries_mustMove_20 : decode prog_6_method_7_code 20 = .ok (.iconst 0, 1) := by decide +kernel
theorem d_NoCarries_mustMove_21 : decode prog_6_method_7_code 21 = .ok (.ireturn, 1) := by decide +kernel
theorem d_NoCarries_sameTop_0 : decode prog_6_method_6_code 0 = .ok (.lload_n 0, 1) := by decide +kernel
theorem d_NoCarries_sameTop_1 : decode prog_6_method_6_code 1 = .ok (.bipush 24, 2) := by decide +kernel
theorem d_NoCarries_sameTop_3 : decode prog_6_method_6_code 3 = .ok (.lushr, 1) := by decide +kernel
theorem d_NoCarries_sameTop_4 : decode prog_6_method_6_code 4 = .ok (.lload_n 0, 1) := by decide +kernel
theorem d_NoCarries_sameTop_5 : decode prog_6_method_6_code 5 = .ok (.lload_n 2, 1) := by decide +kernel
theorem d_NoCarries_sameTop_6 : decode prog_6_method_6_code 6 = .ok (.ladd, 1) := by decide +kernel
theorem d_NoCarries_sameTop_7 : decode prog_6_method_6_code 7 = .ok (.ldc2_w 18, 3) := by decide +kernel
theorem d_NoCarries_sameTop_10 : decode prog_6_method_6_code 10 = .ok (.land, 1) := by decide +kernel
theorem d_NoCarries_sameTop_11 : decode prog_6_method_6_code 11 = .ok (.bipush 24, 2) := by decide +kernel
theorem d_NoCarries_sameTop_13 : decode prog_6_method_6_code 13 = .ok (.lushr, 1) := by decide +kernel
theorem d_NoCarries_sameTop_14 : decode prog_6_method_6_code 14 = .ok (.lcmp, 1) := by decide +kernel
theorem d_NoCarries_sameTop_15 : decode prog_6_method_6_code 15 = .ok (.ifCond .ne 7, 3) := by decide +kernel
theorem d_NoCarries_sameTop_18 : decode prog_6_method_6_code 18 = .ok (.iconst 1, 1) := by decide +kernel
theorem d_NoCarries_sameTop_19 : decode prog_6_method_6_code 19 = .ok (.goto 4, 3) := by decide +kernel
theorem d_NoCarries_sameTop_22 : decode prog_6_method_6_code 22 = .ok (.iconst 0, 1) := by decide +kernel
theorem d_NoCarries_sameTop_23 : decode prog_6_method_6_code 23 = .ok (.ireturn, 1) := by decide +kernel
theorem d_NoCarries_moved_0 : decode prog_6_method_8_code 0 = .ok (.lload_n 0, 1) := by decide +kernel
theorem d_NoCarries_moved_1 : decode prog_6_method_8_code 1 = .ok (.lload_n 2, 1) := by decide +kernel
theorem d_NoCarries_moved_2 : decode prog_6_method_8_code 2 = .ok (.invokestatic 54, 3) := by decide +kernel
theorem d_NoCarries_moved_5 : decode prog_6_method_8_code 5 = .ok (.ifCond .eq 7, 3) := by decide +kernel
theorem d_NoCarries_moved_8 : decode prog_6_method_8_code 8 = .ok (.lload_n 2, 1) := by decide +kernel
theorem d_NoCarries_moved_9 : decode prog_6_method_8_code 9 = .ok (.goto 9, 3) := by decide +kernel
theorem d_NoCarries_moved_12 : decode prog_6_method_8_code 12 = .ok (.lload_n 0, 1) := by decide +kernel
theorem d_NoCarries_moved_13 : decode prog_6_method_8_code 13 = .ok (.lneg, 1) := by decide +kernel
theorem d_NoCarries_moved_14 : decode prog_6_method_8_code 14 = .ok (.ldc2_w 59, 3) := by decide +kernel
theorem d_NoCarries_moved_17 : decode prog_6_method_8_code 17 = .ok (.land, 1) := by decide +kernel
theorem d_NoCarries_moved_18 : decode prog_6_method_8_code 18 = .ok (.lstore 4, 2) := by decide +kernel
theorem d_NoCarries_moved_20 : decode prog_6_method_8_code 20 = .ok (.lload 4, 2) := by decide +kernel
theorem d_NoCarries_moved_22 : decode prog_6_method_8_code 22 = .ok (.bipush 8, 2) := by decide +kernel
theorem d_NoCarries_moved_24 : decode prog_6_method_8_code 24 = .ok (.lshl, 1) := by decide +kernel
theorem d_NoCarries_moved_25 : decode prog_6_method_8_code 25 = .ok (.ldc2_w 18, 3) := by decide +kernel
theorem d_NoCarries_moved_28 : decode prog_6_method_8_code 28 = .ok (.land, 1) := by decide +kernel
theorem d_NoCarries_moved_29 : decode prog_6_method_8_code 29 = .ok (.lreturn, 1) := by decide +kernel
theorem d_NoCarries_writeTop_0 : decode prog_6_method_5_code 0 = .ok (.aload_n 0, 1) := by decide +kernel
theorem d_NoCarries_writeTop_1 : decode prog_6_method_5_code 1 = .ok (.getfield 44, 3) := by decide +kernel
theorem d_NoCarries_writeTop_4 : decode prog_6_method_5_code 4 = .ok (.aload_n 0, 1) := by decide +kernel
theorem d_NoCarries_writeTop_5 : decode prog_6_method_5_code 5 = .ok (.getfield 15, 3) := by decide +kernel
theorem d_NoCarries_writeTop_8 : decode prog_6_method_5_code 8 = .ok (.bipush 24, 2) := by decide +kernel
theorem d_NoCarries_writeTop_10 : decode prog_6_method_5_code 10 = .ok (.lushr, 1) := by decide +kernel
theorem d_NoCarries_writeTop_11 : decode prog_6_method_5_code 11 = .ok (.l2i, 1) := by decide +kernel
theorem d_NoCarries_writeTop_12 : decode prog_6_method_5_code 12 = .ok (.invokevirtual 48, 3) := by decide +kernel
theorem d_NoCarries_writeTop_15 : decode prog_6_method_5_code 15 = .ok (.aload_n 0, 1) := by decide +kernel
theorem d_NoCarries_writeTop_16 : decode prog_6_method_5_code 16 = .ok (.aload_n 0, 1) := by decide +kernel
theorem d_NoCarries_writeTop_17 : decode prog_6_method_5_code 17 = .ok (.getfield 15, 3) := by decide +kernel
theorem d_NoCarries_writeTop_20 : decode prog_6_method_5_code 20 = .ok (.bipush 8, 2) := by decide +kernel
theorem d_NoCarries_writeTop_22 : decode prog_6_method_5_code 22 = .ok (.lshl, 1) := by decide +kernel
theorem d_NoCarries_writeTop_23 : decode prog_6_method_5_code 23 = .ok (.ldc2_w 18, 3) := by decide +kernel
theorem d_NoCarries_writeTop_26 : decode prog_6_method_5_code 26 = .ok (.land, 1) := by decide +kernel
theorem d_NoCarries_writeTop_27 : decode prog_6_method_5_code 27 = .ok (.putfield 15, 3) := by decide +kernel
theorem d_NoCarries_writeTop_30 : decode prog_6_method_5_code 30 = .ok (.return_, 1) := by decide +kernel
theorem d_Odds_learn_0 : decode prog_7_method_7_code 0 = .ok (.aload_n 0, 1) := by decide +kernel
theorem d_Odds_learn_1 : decode prog_7_method_7_code 1 = .ok (.iload_n 1, 1) := by decide +kernel
theorem d_Odds_learn_2 : decode prog_7_method_7_code 2 = .ok (.bipush 32, 2) := by decide +kernel
theorem d_Odds_learn_4 : decode prog_7_method_7_code 4 = .ok (.invokevirtual 45, 3) := by decide +kernel
theorem d_Odds_learn_7 : decode prog_7_method_7_code 7 = .ok (.aload_n 0, 1) := by decide +kernel
theorem d_Odds_learn_8 : decode prog_7_method_7_code 8 = .ok (.getfield 29, 3) := by decide +kernel
theorem d_Odds_learn_11 : decode prog_7_method_7_code 11 = .ok (.sipush 8192, 3) := by decide +kernel
theorem d_Odds_learn_14 : decode prog_7_method_7_code 14 = .ok (.if_icmp .le 7, 3) := by decide +kernel
theorem d_Odds_learn_17 : decode prog_7_method_7_code 17 = .ok (.aload_n 0, 1) := by decide +kernel
theorem d_Odds_learn_18 : decode prog_7_method_7_code 18 = .ok (.invokevirtual 42, 3) := by decide +kernel
theorem d_Odds_learn_21 : decode prog_7_method_7_code 21 = .ok (.return_, 1) := by decide +kernel
theorem d_Stacked_writeSign_0 : decode prog_11_method_7_code 0 = .ok (.aload_n 0, 1) := by decide +kernel
theorem d_Stacked_writeSign_1 : decode prog_11_method_7_code 1 = .ok (.aload_n 1, 1) := by decide +kernel
theorem d_Stacked_writeSign_2 : decode prog_11_method_7_code 2 = .ok (.iload_n 2, 1) := by decide +kernel
theorem d_Stacked_writeSign_3 : decode prog_11_method_7_code 3 = .ok (.iconst 0, 1) := by decide +kernel
theorem d_Stacked_writeSign_4 : decode prog_11_method_7_code 4 = .ok (.invokevirtual 28, 3) := by decide +kernel
theorem d_Stacked_writeSign_7 : decode prog_11_method_7_code 7 = .ok (.return_, 1) := by decide +kernel
theorem d_Stacked_keep_0 : decode prog_11_method_11_code 0 = .ok (.aload_n 0, 1) := by decide +kernel
theorem d_Stacked_keep_1 : decode prog_11_method_11_code 1 = .ok (.getfield 24, 3) := by decide +kernel
theorem d_Stacked_keep_4 : decode prog_11_method_11_code 4 = .ok (.ifCond .lt 53, 3) := by decide +kernel
theorem d_Stacked_keep_7 : decode prog_11_method_11_code 7 = .ok (.aload_n 0, 1) := by decide +kernel
theorem d_Stacked_keep_8 : decode prog_11_method_11_code 8 = .ok (.getfield 24, 3) := by decide +kernel
theorem d_Stacked_keep_11 : decode prog_11_method_11_code 11 = .ok (.sipush 600, 3) := by decide +kernel
theorem d_Stacked_keep_14 : decode prog_11_method_11_code 14 = .ok (.if_icmp .ge 43, 3) := by decide +kernel
theorem d_Stacked_keep_17 : decode prog_11_method_11_code 17 = .ok (.aload_n 0, 1) := by decide +kernel
theorem d_Stacked_keep_18 : decode prog_11_method_11_code 18 = .ok (.getfield 11, 3) := by decide +kernel
theorem d_Stacked_keep_21 : decode prog_11_method_11_code 21 = .ok (.aload_n 0, 1) := by decide +kernel
theorem d_Stacked_keep_22 : decode prog_11_method_11_code 22 = .ok (.getfield 24, 3) := by decide +kernel
theorem d_Stacked_keep_25 : decode prog_11_method_11_code 25 = .ok (.aload_n 1, 1) := by decide +kernel
theorem d_Stacked_keep_26 : decode prog_11_method_11_code 26 = .ok (.aastore, 1) := by decide +kernel
theorem d_Stacked_keep_27 : decode prog_11_method_11_code 27 = .ok (.aload_n 0, 1) := by decide +kernel
theorem d_Stacked_keep_28 : decode prog_11_method_11_code 28 = .ok (.getfield 17, 3) := by decide +kernel
theorem d_Stacked_keep_31 : decode prog_11_method_11_code 31 = .ok (.aload_n 0, 1) := by decide +kernel
theorem d_Stacked_keep_32 : decode prog_11_method_11_code 32 = .ok (.getfield 24, 3) := by decide +kernel
theorem d_Stacked_keep_35 : decode prog_11_method_11_code 35 = .ok (.iload_n 2, 1) := by decide +kernel
theorem d_Stacked_keep_36 : decode prog_11_method_11_code 36 = .ok (.iastore, 1) := by decide +kernel
theorem d_Stacked_keep_37 : decode prog_11_method_11_code 37 = .ok (.aload_n 0, 1) := by decide +kernel
theorem d_Stacked_keep_38 : decode prog_11_method_11_code 38 = .ok (.getfield 21, 3) := by decide +kernel
theorem d_Stacked_keep_41 : decode prog_11_method_11_code 41 = .ok (.aload_n 0, 1) := by decide +kernel
theorem d_Stacked_keep_42 : decode prog_11_method_11_code 42 = .ok (.getfield 24, 3) := by decide +kernel
theorem d_Stacked_keep_45 : decode prog_11_method_11_code 45 = .ok (.iload_n 3, 1) := by decide +kernel
theorem d_Stacked_keep_46 : decode prog_11_method_11_code 46 = .ok (.iastore, 1) := by decide +kernel
theorem d_Stacked_keep_47 : decode prog_11_method_11_code 47 = .ok (.aload_n 0, 1) := by decide +kernel
theorem d_Stacked_keep_48 : decode prog_11_method_11_code 48 = .ok (.dup, 1) := by decide +kernel
theorem d_Stacked_keep_49 : decode prog_11_method_11_code 49 = .ok (.getfield 24, 3) := by decide +kernel
theorem d_Stacked_keep_52 : decode prog_11_method_11_code 52 = .ok (.iconst 1, 1) := by decide +kernel
theorem d_Stacked_keep_53 : decode prog_11_method_11_code 53 = .ok (.iadd, 1) := by decide +kernel
theorem d_Stacked_keep_54 : decode prog_11_method_11_code 54 = .ok (.putfield 24, 3) := by decide +kernel
theorem d_Stacked_keep_57 : decode prog_11_method_11_code 57 = .ok (.return_, 1) := by decide +kernel
theorem d_RC_bits_0 : decode prog_1_method_5_code 0 = .ok (.aload_n 0, 1) := by decide +kernel
theorem d_RC_bits_1 : decode prog_1_method_5_code 1 = .ok (.getfield 23, 3) := by decide +kernel
theorem d_RC_bits_4 : decode prog_1_method_5_code 4 = .ok (.iload_n 2, 1) := by decide +kernel
theorem d_RC_bits_5 : decode prog_1_method_5_code 5 = .ok (.invokevirtual 81, 3) := by decide +kernel
theorem d_RC_bits_8 : decode prog_1_method_5_code 8 = .ok (.ifCond .eq 14, 3) := by decide +kernel
theorem d_RC_bits_11 : decode prog_1_method_5_code 11 = .ok (.iload_n 1, 1) := by decide +kernel
theorem d_RC_bits_12 : decode prog_1_method_5_code 12 = .ok (.ifCond .lt 10, 3) := by decide +kernel
theorem d_RC_bits_15 : decode prog_1_method_5_code 15 = .ok (.iload_n 1, 1) := by decide +kernel
theorem d_RC_bits_16 : decode prog_1_method_5_code 16 = .ok (.iconst 1, 1) := by decide +kernel
theorem d_RC_bits_17 : decode prog_1_method_5_code 17 = .ok (.iload_n 2, 1) := by decide +kernel
theorem d_RC_bits_18 : decode prog_1_method_5_code 18 = .ok (.ishl, 1) := by decide +kernel
theorem d_RC_bits_19 : decode prog_1_method_5_code 19 = .ok (.if_icmp .lt 6, 3) := by decide +kernel
theorem d_RC_bits_22 : decode prog_1_method_5_code 22 = .ok (.bipush (-2), 2) := by decide +kernel
theorem d_RC_bits_24 : decode prog_1_method_5_code 24 = .ok (.ireturn, 1) := by decide +kernel
theorem d_RC_bits_25 : decode prog_1_method_5_code 25 = .ok (.aload_n 0, 1) := by decide +kernel
theorem d_RC_bits_26 : decode prog_1_method_5_code 26 = .ok (.getfield 66, 3) := by decide +kernel
theorem d_RC_bits_29 : decode prog_1_method_5_code 29 = .ok (.ifCond .eq 6, 3) := by decide +kernel
theorem d_RC_bits_32 : decode prog_1_method_5_code 32 = .ok (.bipush (-3), 2) := by decide +kernel
theorem d_RC_bits_34 : decode prog_1_method_5_code 34 = .ok (.ireturn, 1) := by decide +kernel
theorem d_RC_bits_35 : decode prog_1_method_5_code 35 = .ok (.aload_n 0, 1) := by decide +kernel
theorem d_RC_bits_36 : decode prog_1_method_5_code 36 = .ok (.getfield 63, 3) := by decide +kernel
theorem d_RC_bits_39 : decode prog_1_method_5_code 39 = .ok (.sipush 600, 3) := by decide +kernel
theorem d_RC_bits_42 : decode prog_1_method_5_code 42 = .ok (.if_icmp .lt 6, 3) := by decide +kernel
theorem d_RC_bits_45 : decode prog_1_method_5_code 45 = .ok (.bipush (-4), 2) := by decide +kernel
theorem d_RC_bits_47 : decode prog_1_method_5_code 47 = .ok (.ireturn, 1) := by decide +kernel
theorem d_RC_bits_48 : decode prog_1_method_5_code 48 = .ok (.aload_n 0, 1) := by decide +kernel
theorem d_RC_bits_49 : decode prog_1_method_5_code 49 = .ok (.getfield 23, 3) := by decide +kernel
theorem d_RC_bits_52 : decode prog_1_method_5_code 52 = .ok (.iload_n 1, 1) := by decide +kernel
theorem d_RC_bits_53 : decode prog_1_method_5_code 53 = .ok (.iload_n 2, 1) := by decide +kernel
theorem d_RC_bits_54 : decode prog_1_method_5_code 54 = .ok (.invokevirtual 84, 3) := by decide +kernel
theorem d_RC_bits_57 : decode prog_1_method_5_code 57 = .ok (.aload_n 0, 1) := by decide +kernel
theorem d_RC_bits_58 : decode prog_1_method_5_code 58 = .ok (.dup, 1) := by decide +kernel
theorem d_RC_bits_59 : decode prog_1_method_5_code 59 = .ok (.getfield 63, 3) := by decide +kernel
theorem d_RC_bits_62 : decode prog_1_method_5_code 62 = .ok (.iconst 1, 1) := by decide +kernel
theorem d_RC_bits_63 : decode prog_1_method_5_code 63 = .ok (.iadd, 1) := by decide +kernel
theorem d_RC_bits_64 : decode prog_1_method_5_code 64 = .ok (.putfield 63, 3) := by decide +kernel
theorem d_RC_bits_67 : decode prog_1_method_5_code 67 = .ok (.aload_n 0, 1) := by decide +kernel
theorem d_RC_bits_68 : decode prog_1_method_5_code 68 = .ok (.getfield 63, 3) := by decide +kernel
theorem d_RC_bits_71 : decode prog_1_method_5_code 71 = .ok (.ireturn, 1) := by decide +kernel
theorem d_Table_hasWidth_0 : decode prog_12_method_4_code 0 = .ok (.iload_n 1, 1) := by decide +kernel
theorem d_Table_hasWidth_1 : decode prog_12_method_4_code 1 = .ok (.iconst 1, 1) := by decide +kernel
theorem d_Table_hasWidth_2 : decode prog_12_method_4_code 2 = .ok (.if_icmp .lt 13, 3) := by decide +kernel
theorem d_Table_hasWidth_5 : decode prog_12_method_4_code 5 = .ok (.iload_n 1, 1) := by decide +kernel
theorem d_Table_hasWidth_6 : decode prog_12_method_4_code 6 = .ok (.bipush 9, 2) := by decide +kernel
theorem d_Table_hasWidth_8 : decode prog_12_method_4_code 8 = .ok (.if_icmp .gt 7, 3) := by decide +kernel
theorem d_Table_hasWidth_11 : decode prog_12_method_4_code 11 = .ok (.iconst 1, 1) := by decide +kernel
theorem d_Table_hasWidth_12 : decode prog_12_method_4_code 12 = .ok (.goto 4, 3) := by decide +kernel
theorem d_Table_hasWidth_15 : decode prog_12_method_4_code 15 = .ok (.iconst 0, 1) := by decide +kernel
theorem d_Table_hasWidth_16 : decode prog_12_method_4_code 16 = .ok (.ireturn, 1) := by decide +kernel
theorem d_Coder_hasWidth_0 : decode prog_4_method_13_code 0 = .ok (.iload_n 1, 1) := by decide +kernel
theorem d_Coder_hasWidth_1 : decode prog_4_method_13_code 1 = .ok (.iconst 1, 1) := by decide +kernel
theorem d_Coder_hasWidth_2 : decode prog_4_method_13_code 2 = .ok (.if_icmp .lt 13, 3) := by decide +kernel
theorem d_Coder_hasWidth_5 : decode prog_4_method_13_code 5 = .ok (.iload_n 1, 1) := by decide +kernel
theorem d_Coder_hasWidth_6 : decode prog_4_method_13_code 6 = .ok (.bipush 12, 2) := by decide +kernel
theorem d_Coder_hasWidth_8 : decode prog_4_method_13_code 8 = .ok (.if_icmp .gt 7, 3) := by decide +kernel
theorem d_Coder_hasWidth_11 : decode prog_4_method_13_code 11 = .ok (.iconst 1, 1) := by decide +kernel
theorem d_Coder_hasWidth_12 : decode prog_4_method_13_code 12 = .ok (.goto 4, 3) := by decide +kernel
theorem d_Coder_hasWidth_15 : decode prog_4_method_13_code 15 = .ok (.iconst 0, 1) := by decide +kernel
theorem d_Coder_hasWidth_16 : decode prog_4_method_13_code 16 = .ok (.ireturn, 1) := by decide +kernel
theorem d_Bits_writeValue_0 : decode prog_2_method_6_code 0 = .ok (.iload_n 2, 1) := by decide +kernel
theorem d_Bits_writeValue_1 : decode prog_2_method_6_code 1 = .ok (.iconst 1, 1) := by decide +kernel
theorem d_Bits_writeValue_2 : decode prog_2_method_6_code 2 = .ok (.isub, 1) := by decide +kernel
theorem d_Bits_writeValue_3 : decode prog_2_method_6_code 3 = .ok (.istore_n 3, 1) := by decide +kernel
theorem d_Bits_writeValue_4 : decode prog_2_method_6_code 4 = .ok (.iload_n 3, 1) := by decide +kernel
theorem d_Bits_writeValue_5 : decode prog_2_method_6_code 5 = .ok (.ifCond .lt 45, 3) := by decide +kernel
theorem d_Bits_writeValue_8 : decode prog_2_method_6_code 8 = .ok (.aload_n 0, 1) := by decide +kernel
theorem d_Bits_writeValue_9 : decode prog_2_method_6_code 9 = .ok (.dup, 1) := by decide +kernel
theorem d_Bits_writeValue_10 : decode prog_2_method_6_code 10 = .ok (.getfield 35, 3) := by decide +kernel
theorem d_Bits_writeValue_13 : decode prog_2_method_6_code 13 = .ok (.iconst 1, 1) := by decide +kernel
theorem d_Bits_writeValue_14 : decode prog_2_method_6_code 14 = .ok (.lushr, 1) := by decide +kernel
theorem d_Bits_writeValue_15 : decode prog_2_method_6_code 15 = .ok (.putfield 35, 3) := by decide +kernel
theorem d_Bits_writeValue_18 : decode prog_2_method_6_code 18 = .ok (.iload_n 1, 1) := by decide +kernel
theorem d_Bits_writeValue_19 : decode prog_2_method_6_code 19 = .ok (.iload_n 3, 1) := by decide +kernel
theorem d_Bits_writeValue_20 : decode prog_2_method_6_code 20 = .ok (.iushr, 1) := by decide +kernel
theorem d_Bits_writeValue_21 : decode prog_2_method_6_code 21 = .ok (.iconst 1, 1) := by decide +kernel
theorem d_Bits_writeValue_22 : decode prog_2_method_6_code 22 = .ok (.iand, 1) := by decide +kernel
theorem d_Bits_writeValue_23 : decode prog_2_method_6_code 23 = .ok (.iconst 1, 1) := by decide +kernel
theorem d_Bits_writeValue_24 : decode prog_2_method_6_code 24 = .ok (.if_icmp .ne 16, 3) := by decide +kernel
theorem d_Bits_writeValue_27 : decode prog_2_method_6_code 27 = .ok (.aload_n 0, 1) := by decide +kernel
theorem d_Bits_writeValue_28 : decode prog_2_method_6_code 28 = .ok (.dup, 1) := by decide +kernel
theorem d_Bits_writeValue_29 : decode prog_2_method_6_code 29 = .ok (.getfield 39, 3) := by decide +kernel
theorem d_Bits_writeValue_32 : decode prog_2_method_6_code 32 = .ok (.aload_n 0, 1) := by decide +kernel
theorem d_Bits_writeValue_33 : decode prog_2_method_6_code 33 = .ok (.getfield 35, 3) := by decide +kernel
theorem d_Bits_writeValue_36 : decode prog_2_method_6_code 36 = .ok (.ladd, 1) := by decide +kernel
theorem d_Bits_writeValue_37 : decode prog_2_method_6_code 37 = .ok (.putfield 39, 3) := by decide +kernel
theorem d_Bits_writeValue_40 : decode prog_2_method_6_code 40 = .ok (.aload_n 0, 1) := by decide +kernel
theorem d_Bits_writeValue_41 : decode prog_2_method_6_code 41 = .ok (.invokevirtual 42, 3) := by decide +kernel
theorem d_Bits_writeValue_44 : decode prog_2_method_6_code 44 = .ok (.iinc 3 (-1), 3) := by decide +kernel
theorem d_Bits_writeValue_47 : decode prog_2_method_6_code 47 = .ok (.goto (-43), 3) := by decide +kernel
theorem d_Bits_writeValue_50 : decode prog_2_method_6_code 50 = .ok (.return_, 1) := by decide +kernel
theorem d_Ranged_writeValue_0 : decode prog_8_method_8_code 0 = .ok (.aload_n 0, 1) := by decide +kernel
theorem d_Ranged_writeValue_1 : decode prog_8_method_8_code 1 = .ok (.iconst 1, 1) := by decide +kernel
theorem d_Ranged_writeValue_2 : decode prog_8_method_8_code 2 = .ok (.iload_n 1, 1) := by decide +kernel
theorem d_Ranged_writeValue_3 : decode prog_8_method_8_code 3 = .ok (.iconst 1, 1) := by decide +kernel
theorem d_Ranged_writeValue_4 : decode prog_8_method_8_code 4 = .ok (.iload_n 2, 1) := by decide +kernel
theorem d_Ranged_writeValue_5 : decode prog_8_method_8_code 5 = .ok (.ishl, 1) := by decide +kernel
theorem d_Ranged_writeValue_6 : decode prog_8_method_8_code 6 = .ok (.invokevirtual 46, 3) := by decide +kernel
theorem d_Ranged_writeValue_9 : decode prog_8_method_8_code 9 = .ok (.return_, 1) := by decide +kernel
theorem d_Stacked_writeValue_0 : decode prog_11_method_8_code 0 = .ok (.aload_n 0, 1) := by decide +kernel
theorem d_Stacked_writeValue_1 : decode prog_11_method_8_code 1 = .ok (.aconst_null, 1) := by decide +kernel
theorem d_Stacked_writeValue_2 : decode prog_11_method_8_code 2 = .ok (.iload_n 1, 1) := by decide +kernel
theorem d_Stacked_writeValue_3 : decode prog_11_method_8_code 3 = .ok (.iload_n 2, 1) := by decide +kernel
theorem d_Stacked_writeValue_4 : decode prog_11_method_8_code 4 = .ok (.invokevirtual 28, 3) := by decide +kernel
theorem d_Stacked_writeValue_7 : decode prog_11_method_8_code 7 = .ok (.return_, 1) := by decide +kernel
theorem d_RC_end_0 : decode prog_1_method_6_code 0 = .ok (.aload_n 0, 1) := by decide +kernel
theorem d_RC_end_1 : decode prog_1_method_6_code 1 = .ok (.getfield 66, 3) := by decide +kernel
theorem d_RC_end_4 : decode prog_1_method_6_code 4 = .ok (.ifCond .eq 6, 3) := by decide +kernel
theorem d_RC_end_7 : decode prog_1_method_6_code 7 = .ok (.bipush (-3), 2) := by decide +kernel
theorem d_RC_end_9 : decode prog_1_method_6_code 9 = .ok (.ireturn, 1) := by decide +kernel
theorem d_RC_end_10 : decode prog_1_method_6_code 10 = .ok (.aload_n 0, 1) := by decide +kernel
theorem d_RC_end_11 : decode prog_1_method_6_code 11 = .ok (.getfield 23, 3) := by decide +kernel
theorem d_RC_end_14 : decode prog_1_method_6_code 14 = .ok (.invokevirtual 88, 3) := by decide +kernel
theorem d_RC_end_17 : decode prog_1_method_6_code 17 = .ok (.aload_n 0, 1) := by decide +kernel
theorem d_RC_end_18 : decode prog_1_method_6_code 18 = .ok (.iconst 1, 1) := by decide +kernel
theorem d_RC_end_19 : decode prog_1_method_6_code 19 = .ok (.putfield 66, 3) := by decide +kernel
theorem d_RC_end_22 : decode prog_1_method_6_code 22 = .ok (.aload_n 0, 1) := by decide +kernel
theorem d_RC_end_23 : decode prog_1_method_6_code 23 = .ok (.getfield 23, 3) := by decide +kernel
theorem d_RC_end_26 : decode prog_1_method_6_code 26 = .ok (.getfield 91, 3) := by decide +kernel
theorem d_RC_end_29 : decode prog_1_method_6_code 29 = .ok (.getfield 95, 3) := by decide +kernel
theorem d_RC_end_32 : decode prog_1_method_6_code 32 = .ok (.ireturn, 1) := by decide +kernel
theorem d_Ranged_closeMessage_0 : decode prog_8_method_9_code 0 = .ok (.aload_n 0, 1) := by decide +kernel
theorem d_Ranged_closeMessage_1 : decode prog_8_method_9_code 1 = .ok (.invokevirtual 54, 3) := by decide +kernel
theorem d_Ranged_closeMessage_4 : decode prog_8_method_9_code 4 = .ok (.aload_n 0, 1) := by decide +kernel
theorem d_Ranged_closeMessage_5 : decode prog_8_method_9_code 5 = .ok (.getfield 57, 3) := by decide +kernel
theorem d_Ranged_closeMessage_8 : decode prog_8_method_9_code 8 = .ok (.astore_n 1, 1) := by decide +kernel
theorem d_Ranged_closeMessage_9 : decode prog_8_method_9_code 9 = .ok (.aload_n 0, 1) := by decide +kernel
theorem d_Ranged_closeMessage_10 : decode prog_8_method_9_code 10 = .ok (.aload_n 0, 1) := by decide +kernel
theorem d_Ranged_closeMessage_11 : decode prog_8_method_9_code 11 = .ok (.getfield 23, 3) := by decide +kernel
theorem d_Ranged_closeMessage_14 : decode prog_8_method_9_code 14 = .ok (.putfield 57, 3) := by decide +kernel
theorem d_Ranged_closeMessage_17 : decode prog_8_method_9_code 17 = .ok (.aload_n 0, 1) := by decide +kernel
theorem d_Ranged_closeMessage_18 : decode prog_8_method_9_code 18 = .ok (.aload_n 1, 1) := by decide +kernel
theorem d_Ranged_closeMessage_19 : decode prog_8_method_9_code 19 = .ok (.putfield 23, 3) := by decide +kernel
theorem d_Ranged_closeMessage_22 : decode prog_8_method_9_code 22 = .ok (.return_, 1) := by decide +kernel
theorem d_Carries_flush_0 : decode prog_3_method_5_code 0 = .ok (.iconst 0, 1) := by decide +kernel
theorem d_Carries_flush_1 : decode prog_3_method_5_code 1 = .ok (.istore_n 1, 1) := by decide +kernel
theorem d_Carries_flush_2 : decode prog_3_method_5_code 2 = .ok (.iload_n 1, 1) := by decide +kernel
theorem d_Carries_flush_3 : decode prog_3_method_5_code 3 = .ok (.iconst 5, 1) := by decide +kernel
theorem d_Carries_flush_4 : decode prog_3_method_5_code 4 = .ok (.if_icmp .ge 13, 3) := by decide +kernel
theorem d_Carries_flush_7 : decode prog_3_method_5_code 7 = .ok (.aload_n 0, 1) := by decide +kernel
theorem d_Carries_flush_8 : decode prog_3_method_5_code 8 = .ok (.invokevirtual 40, 3) := by decide +kernel
theorem d_Carries_flush_11 : decode prog_3_method_5_code 11 = .ok (.iinc 1 1, 3) := by decide +kernel
theorem d_Carries_flush_14 : decode prog_3_method_5_code 14 = .ok (.goto (-12), 3) := by decide +kernel
theorem d_Carries_flush_17 : decode prog_3_method_5_code 17 = .ok (.return_, 1) := by decide +kernel
theorem d_NoCarries_flush_0 : decode prog_6_method_4_code 0 = .ok (.iconst 0, 1) := by decide +kernel
theorem d_NoCarries_flush_1 : decode prog_6_method_4_code 1 = .ok (.istore_n 1, 1) := by decide +kernel
theorem d_NoCarries_flush_2 : decode prog_6_method_4_code 2 = .ok (.iload_n 1, 1) := by decide +kernel
theorem d_NoCarries_flush_3 : decode prog_6_method_4_code 3 = .ok (.iconst 4, 1) := by decide +kernel
theorem d_NoCarries_flush_4 : decode prog_6_method_4_code 4 = .ok (.if_icmp .ge 13, 3) := by decide +kernel
theorem d_NoCarries_flush_7 : decode prog_6_method_4_code 7 = .ok (.aload_n 0, 1) := by decide +kernel
theorem d_NoCarries_flush_8 : decode prog_6_method_4_code 8 = .ok (.invokevirtual 28, 3) := by decide +kernel
theorem d_NoCarries_flush_11 : decode prog_6_method_4_code 11 = .ok (.iinc 1 1, 3) := by decide +kernel
theorem d_NoCarries_flush_14 : decode prog_6_method_4_code 14 = .ok (.goto (-12), 3) := by decide +kernel
theorem d_NoCarries_flush_17 : decode prog_6_method_4_code 17 = .ok (.return_, 1) := by decide +kernel
theorem d_Stacked_closeMessage_0 : decode prog_11_method_9_code 0 = .ok (.aload_n 0, 1) := by decide +kernel
theorem d_Stacked_closeMessage_1 : decode prog_11_method_9_code 1 = .ok (.getfield 32, 3) := by decide +kernel
theorem d_Stacked_closeMessage_4 : decode prog_11_method_9_code 4 = .ok (.invokevirtual 36, 3) := by decide +kernel
theorem d_Stacked_closeMessage_7 : decode prog_11_method_9_code 7 = .ok (.aload_n 0, 1) := by decide +kernel
theorem d_Stacked_closeMessage_8 : decode prog_11_method_9_code 8 = .ok (.invokevirtual 41, 3) := by decide +kernel
theorem d_Stacked_closeMessage_11 : decode prog_11_method_9_code 11 = .ok (.aload_n 0, 1) := by decide +kernel
theorem d_Stacked_closeMessage_12 : decode prog_11_method_9_code 12 = .ok (.getfield 24, 3) := by decide +kernel
theorem d_Stacked_closeMessage_15 : decode prog_11_method_9_code 15 = .ok (.sipush 600, 3) := by decide +kernel
theorem d_Stacked_closeMessage_18 : decode prog_11_method_9_code 18 = .ok (.invokestatic 44, 3) := by decide +kernel
theorem d_Stacked_closeMessage_21 : decode prog_11_method_9_code 21 = .ok (.iconst 1, 1) := by decide +kernel
theorem d_Stacked_closeMessage_22 : decode prog_11_method_9_code 22 = .ok (.isub, 1) := by decide +kernel
theorem d_Stacked_closeMessage_23 : decode prog_11_method_9_code 23 = .ok (.istore_n 1, 1) := by decide +kernel
theorem d_Stacked_closeMessage_24 : decode prog_11_method_9_code 24 = .ok (.iload_n 1, 1) := by decide +kernel
theorem d_Stacked_closeMessage_25 : decode prog_11_method_9_code 25 = .ok (.ifCond .lt 53, 3) := by decide +kernel
theorem d_Stacked_closeMessage_28 : decode prog_11_method_9_code 28 = .ok (.aload_n 0, 1) := by decide +kernel
theorem d_Stacked_closeMessage_29 : decode prog_11_method_9_code 29 = .ok (.getfield 11, 3) := by decide +kernel
theorem d_Stacked_closeMessage_32 : decode prog_11_method_9_code 32 = .ok (.iload_n 1, 1) := by decide +kernel
theorem d_Stacked_closeMessage_33 : decode prog_11_method_9_code 33 = .ok (.aaload, 1) := by decide +kernel
theorem d_Stacked_closeMessage_34 : decode prog_11_method_9_code 34 = .ok (.ifnonnull 22, 3) := by decide +kernel
theorem d_Stacked_closeMessage_37 : decode prog_11_method_9_code 37 = .ok (.aload_n 0, 1) := by decide +kernel
theorem d_Stacked_closeMessage_38 : decode prog_11_method_9_code 38 = .ok (.aload_n 0, 1) := by decide +kernel
theorem d_Stacked_closeMessage_39 : decode prog_11_method_9_code 39 = .ok (.getfield 17, 3) := by decide +kernel
theorem d_Stacked_closeMessage_42 : decode prog_11_method_9_code 42 = .ok (.iload_n 1, 1) := by decide +kernel
theorem d_Stacked_closeMessage_43 : decode prog_11_method_9_code 43 = .ok (.iaload, 1) := by decide +kernel
theorem d_Stacked_closeMessage_44 : decode prog_11_method_9_code 44 = .ok (.aload_n 0, 1) := by decide +kernel
theorem d_Stacked_closeMessage_45 : decode prog_11_method_9_code 45 = .ok (.getfield 21, 3) := by decide +kernel
theorem d_Stacked_closeMessage_48 : decode prog_11_method_9_code 48 = .ok (.iload_n 1, 1) := by decide +kernel
theorem d_Stacked_closeMessage_49 : decode prog_11_method_9_code 49 = .ok (.iaload, 1) := by decide +kernel
theorem d_Stacked_closeMessage_50 : decode prog_11_method_9_code 50 = .ok (.invokevirtual 50, 3) := by decide +kernel
theorem d_Stacked_closeMessage_53 : decode prog_11_method_9_code 53 = .ok (.goto 19, 3) := by decide +kernel
theorem d_Stacked_closeMessage_56 : decode prog_11_method_9_code 56 = .ok (.aload_n 0, 1) := by decide +kernel
theorem d_Stacked_closeMessage_57 : decode prog_11_method_9_code 57 = .ok (.aload_n 0, 1) := by decide +kernel
theorem d_Stacked_closeMessage_58 : decode prog_11_method_9_code 58 = .ok (.getfield 11, 3) := by decide +kernel
theorem d_Stacked_closeMessage_61 : decode prog_11_method_9_code 61 = .ok (.iload_n 1, 1) := by decide +kernel
theorem d_Stacked_closeMessage_62 : decode prog_11_method_9_code 62 = .ok (.aaload, 1) := by decide +kernel
theorem d_Stacked_closeMessage_63 : decode prog_11_method_9_code 63 = .ok (.aload_n 0, 1) := by decide +kernel
theorem d_Stacked_closeMessage_64 : decode prog_11_method_9_code 64 = .ok (.getfield 17, 3) := by decide +kernel
theorem d_Stacked_closeMessage_67 : decode prog_11_method_9_code 67 = .ok (.iload_n 1, 1) := by decide +kernel
theorem d_Stacked_closeMessage_68 : decode prog_11_method_9_code 68 = .ok (.iaload, 1) := by decide +kernel
theorem d_Stacked_closeMessage_69 : decode prog_11_method_9_code 69 = .ok (.invokevirtual 54, 3) := by decide +kernel
theorem d_Stacked_closeMessage_72 : decode prog_11_method_9_code 72 = .ok (.iinc 1 (-1), 3) := by decide +kernel
theorem d_Stacked_closeMessage_75 : decode prog_11_method_9_code 75 = .ok (.goto (-51), 3) := by decide +kernel
theorem d_Stacked_closeMessage_78 : decode prog_11_method_9_code 78 = .ok (.aload_n 0, 1) := by decide +kernel
theorem d_Stacked_closeMessage_79 : decode prog_11_method_9_code 79 = .ok (.invokevirtual 58, 3) := by decide +kernel
theorem d_Stacked_closeMessage_82 : decode prog_11_method_9_code 82 = .ok (.return_, 1) := by decide +kernel
theorem d_Row_clear_0 : decode prog_9_method_6_code 0 = .ok (.aload_n 0, 1) := by decide +kernel
theorem d_Row_clear_1 : decode prog_9_method_6_code 1 = .ok (.iconst 0, 1) := by decide +kernel
theorem d_Row_clear_2 : decode prog_9_method_6_code 2 = .ok (.putfield 15, 3) := by decide +kernel
theorem d_Row_clear_5 : decode prog_9_method_6_code 5 = .ok (.return_, 1) := by decide +kernel
theorem d_Stack_openStack_0 : decode prog_10_method_3_code 0 = .ok (.aload_n 0, 1) := by decide +kernel
theorem d_Stack_openStack_1 : decode prog_10_method_3_code 1 = .ok (.ldc2_w 17, 3) := by decide +kernel
theorem d_Stack_openStack_4 : decode prog_10_method_3_code 4 = .ok (.putfield 19, 3) := by decide +kernel
theorem d_Stack_openStack_7 : decode prog_10_method_3_code 7 = .ok (.return_, 1) := by decide +kernel
theorem d_Table_openStack_0 : decode prog_12_method_6_code 0 = .ok (.aload_n 0, 1) := by decide +kernel
theorem d_Table_openStack_1 : decode prog_12_method_6_code 1 = .ok (.ldc2_w 27, 3) := by decide +kernel
theorem d_Table_openStack_4 : decode prog_12_method_6_code 4 = .ok (.putfield 29, 3) := by decide +kernel
theorem d_Table_openStack_7 : decode prog_12_method_6_code 7 = .ok (.return_, 1) := by decide +kernel
theorem d_Stack_stackValue_0 : decode prog_10_method_5_code 0 = .ok (.sipush 4096, 3) := by decide +kernel
theorem d_Stack_stackValue_3 : decode prog_10_method_5_code 3 = .ok (.iload_n 2, 1) := by decide +kernel
theorem d_Stack_stackValue_4 : decode prog_10_method_5_code 4 = .ok (.ishr, 1) := by decide +kernel
theorem d_Stack_stackValue_5 : decode prog_10_method_5_code 5 = .ok (.istore_n 3, 1) := by decide +kernel
theorem d_Stack_stackValue_6 : decode prog_10_method_5_code 6 = .ok (.aload_n 0, 1) := by decide +kernel
theorem d_Stack_stackValue_7 : decode prog_10_method_5_code 7 = .ok (.iload_n 3, 1) := by decide +kernel
theorem d_Stack_stackValue_8 : decode prog_10_method_5_code 8 = .ok (.iload_n 3, 1) := by decide +kernel
theorem d_Stack_stackValue_9 : decode prog_10_method_5_code 9 = .ok (.iload_n 1, 1) := by decide +kernel
theorem d_Stack_stackValue_10 : decode prog_10_method_5_code 10 = .ok (.imul, 1) := by decide +kernel
theorem d_Stack_stackValue_11 : decode prog_10_method_5_code 11 = .ok (.invokevirtual 30, 3) := by decide +kernel
theorem d_Stack_stackValue_14 : decode prog_10_method_5_code 14 = .ok (.return_, 1) := by decide +kernel
theorem d_Stack_stackPart_0 : decode prog_10_method_10_code 0 = .ok (.iload_n 1, 1) := by decide +kernel
theorem d_Stack_stackPart_1 : decode prog_10_method_10_code 1 = .ok (.ifCond .gt 4, 3) := by decide +kernel
theorem d_Stack_stackPart_5 : decode prog_10_method_10_code 5 = .ok (.iconst 0, 1) := by decide +kernel
theorem d_Stack_stackPart_6 : decode prog_10_method_10_code 6 = .ok (.istore_n 3, 1) := by decide +kernel
theorem d_Stack_stackPart_7 : decode prog_10_method_10_code 7 = .ok (.iload_n 3, 1) := by decide +kernel
theorem d_Stack_stackPart_8 : decode prog_10_method_10_code 8 = .ok (.bipush 8, 2) := by decide +kernel
theorem d_Stack_stackPart_10 : decode prog_10_method_10_code 10 = .ok (.if_icmp .ge 26, 3) := by decide +kernel
theorem d_Stack_stackPart_13 : decode prog_10_method_10_code 13 = .ok (.aload_n 0, 1) := by decide +kernel
theorem d_Stack_stackPart_14 : decode prog_10_method_10_code 14 = .ok (.getfield 19, 3) := by decide +kernel
theorem d_Stack_stackPart_17 : decode prog_10_method_10_code 17 = .ok (.iload_n 1, 1) := by decide +kernel
theorem d_Stack_stackPart_18 : decode prog_10_method_10_code 18 = .ok (.i2l, 1) := by decide +kernel
theorem d_Stack_stackPart_19 : decode prog_10_method_10_code 19 = .ok (.bipush 19, 2) := by decide +kernel
theorem d_Stack_stackPart_21 : decode prog_10_method_10_code 21 = .ok (.lshl, 1) := by decide +kernel
theorem d_Stack_stackPart_22 : decode prog_10_method_10_code 22 = .ok (.lcmp, 1) := by decide +kernel
theorem d_Stack_stackPart_23 : decode prog_10_method_10_code 23 = .ok (.ifCond .lt 13, 3) := by decide +kernel
theorem d_Stack_stackPart_26 : decode prog_10_method_10_code 26 = .ok (.aload_n 0, 1) := by decide +kernel
theorem d_Stack_stackPart_27 : decode prog_10_method_10_code 27 = .ok (.invokevirtual 34, 3) := by decide +kernel
theorem d_Stack_stackPart_30 : decode prog_10_method_10_code 30 = .ok (.iinc 3 1, 3) := by decide +kernel
theorem d_Stack_stackPart_33 : decode prog_10_method_10_code 33 = .ok (.goto (-26), 3) := by decide +kernel
theorem d_Stack_stackPart_36 : decode prog_10_method_10_code 36 = .ok (.aload_n 0, 1) := by decide +kernel
theorem d_Stack_stackPart_37 : decode prog_10_method_10_code 37 = .ok (.ldc2_w 65, 3) := by decide +kernel
theorem d_Stack_stackPart_40 : decode prog_10_method_10_code 40 = .ok (.aload_n 0, 1) := by decide +kernel
theorem d_Stack_stackPart_41 : decode prog_10_method_10_code 41 = .ok (.getfield 19, 3) := by decide +kernel
theorem d_Stack_stackPart_44 : decode prog_10_method_10_code 44 = .ok (.iload_n 1, 1) := by decide +kernel
theorem d_Stack_stackPart_45 : decode prog_10_method_10_code 45 = .ok (.i2l, 1) := by decide +kernel
theorem d_Stack_stackPart_46 : decode prog_10_method_10_code 46 = .ok (.ldiv, 1) := by decide +kernel
theorem d_Stack_stackPart_47 : decode prog_10_method_10_code 47 = .ok (.lmul, 1) := by decide +kernel
theorem d_Stack_stackPart_48 : decode prog_10_method_10_code 48 = .ok (.aload_n 0, 1) := by decide +kernel
theorem d_Stack_stackPart_49 : decode prog_10_method_10_code 49 = .ok (.getfield 19, 3) := by decide +kernel
theorem d_Stack_stackPart_52 : decode prog_10_method_10_code 52 = .ok (.iload_n 1, 1) := by decide +kernel
theorem d_Stack_stackPart_53 : decode prog_10_method_10_code 53 = .ok (.i2l, 1) := by decide +kernel
theorem d_Stack_stackPart_54 : decode prog_10_method_10_code 54 = .ok (.lrem, 1) := by decide +kernel
theorem d_Stack_stackPart_55 : decode prog_10_method_10_code 55 = .ok (.ladd, 1) := by decide +kernel
theorem d_Stack_stackPart_56 : decode prog_10_method_10_code 56 = .ok (.iload_n 2, 1) := by decide +kernel
theorem d_Stack_stackPart_57 : decode prog_10_method_10_code 57 = .ok (.i2l, 1) := by decide +kernel
theorem d_Stack_stackPart_58 : decode prog_10_method_10_code 58 = .ok (.ladd, 1) := by decide +kernel
theorem d_Stack_stackPart_59 : decode prog_10_method_10_code 59 = .ok (.putfield 19, 3) := by decide +kernel
theorem d_Stack_stackPart_62 : decode prog_10_method_10_code 62 = .ok (.return_, 1) := by decide +kernel
theorem d_Stack_writeLowest_0 : decode prog_10_method_11_code 0 = .ok (.aload_n 0, 1) := by decide +kernel
theorem d_Stack_writeLowest_1 : decode prog_10_method_11_code 1 = .ok (.getfield 41, 3) := by decide +kernel
theorem d_Stack_writeLowest_4 : decode prog_10_method_11_code 4 = .ok (.aload_n 0, 1) := by decide +kernel
theorem d_Stack_writeLowest_5 : decode prog_10_method_11_code 5 = .ok (.getfield 19, 3) := by decide +kernel
theorem d_Stack_writeLowest_8 : decode prog_10_method_11_code 8 = .ok (.ldc2_w 67, 3) := by decide +kernel
theorem d_Stack_writeLowest_11 : decode prog_10_method_11_code 11 = .ok (.land, 1) := by decide +kernel
theorem d_Stack_writeLowest_12 : decode prog_10_method_11_code 12 = .ok (.l2i, 1) := by decide +kernel
theorem d_Stack_writeLowest_13 : decode prog_10_method_11_code 13 = .ok (.invokevirtual 69, 3) := by decide +kernel
theorem d_Stack_writeLowest_16 : decode prog_10_method_11_code 16 = .ok (.aload_n 0, 1) := by decide +kernel
theorem d_Stack_writeLowest_17 : decode prog_10_method_11_code 17 = .ok (.dup, 1) := by decide +kernel
theorem d_Stack_writeLowest_18 : decode prog_10_method_11_code 18 = .ok (.getfield 19, 3) := by decide +kernel
theorem d_Stack_writeLowest_21 : decode prog_10_method_11_code 21 = .ok (.bipush 8, 2) := by decide +kernel
theorem d_Stack_writeLowest_23 : decode prog_10_method_11_code 23 = .ok (.lushr, 1) := by decide +kernel
theorem d_Stack_writeLowest_24 : decode prog_10_method_11_code 24 = .ok (.putfield 19, 3) := by decide +kernel
theorem d_Stack_writeLowest_27 : decode prog_10_method_11_code 27 = .ok (.return_, 1) := by decide +kernel
theorem d_Table_stackValue_0 : decode prog_12_method_8_code 0 = .ok (.iconst 0, 1) := by decide +kernel
theorem d_Table_stackValue_1 : decode prog_12_method_8_code 1 = .ok (.istore_n 3, 1) := by decide +kernel
theorem d_Table_stackValue_2 : decode prog_12_method_8_code 2 = .ok (.iload_n 3, 1) := by decide +kernel
theorem d_Table_stackValue_3 : decode prog_12_method_8_code 3 = .ok (.iload_n 2, 1) := by decide +kernel
theorem d_Table_stackValue_4 : decode prog_12_method_8_code 4 = .ok (.if_icmp .ge 21, 3) := by decide +kernel
theorem d_Table_stackValue_7 : decode prog_12_method_8_code 7 = .ok (.aload_n 0, 1) := by decide +kernel
theorem d_Table_stackValue_8 : decode prog_12_method_8_code 8 = .ok (.getfield 39, 3) := by decide +kernel
theorem d_Table_stackValue_11 : decode prog_12_method_8_code 11 = .ok (.iload_n 1, 1) := by decide +kernel
theorem d_Table_stackValue_12 : decode prog_12_method_8_code 12 = .ok (.iload_n 3, 1) := by decide +kernel
theorem d_Table_stackValue_13 : decode prog_12_method_8_code 13 = .ok (.iushr, 1) := by decide +kernel
theorem d_Table_stackValue_14 : decode prog_12_method_8_code 14 = .ok (.iconst 1, 1) := by decide +kernel
theorem d_Table_stackValue_15 : decode prog_12_method_8_code 15 = .ok (.iand, 1) := by decide +kernel
theorem d_Table_stackValue_16 : decode prog_12_method_8_code 16 = .ok (.invokevirtual 43, 3) := by decide +kernel
theorem d_Table_stackValue_19 : decode prog_12_method_8_code 19 = .ok (.iinc 3 1, 3) := by decide +kernel
theorem d_Table_stackValue_22 : decode prog_12_method_8_code 22 = .ok (.goto (-20), 3) := by decide +kernel
theorem d_Table_stackValue_25 : decode prog_12_method_8_code 25 = .ok (.return_, 1) := by decide +kernel
theorem d_Stack_stackSign_0 : decode prog_10_method_4_code 0 = .ok (.aload_n 0, 1) := by decide +kernel
theorem d_Stack_stackSign_1 : decode prog_10_method_4_code 1 = .ok (.aload_n 1, 1) := by decide +kernel
theorem d_Stack_stackSign_2 : decode prog_10_method_4_code 2 = .ok (.iload_n 2, 1) := by decide +kernel
theorem d_Stack_stackSign_3 : decode prog_10_method_4_code 3 = .ok (.invokevirtual 23, 3) := by decide +kernel
theorem d_Stack_stackSign_6 : decode prog_10_method_4_code 6 = .ok (.aload_n 1, 1) := by decide +kernel
theorem d_Stack_stackSign_7 : decode prog_10_method_4_code 7 = .ok (.iload_n 2, 1) := by decide +kernel
theorem d_Stack_stackSign_8 : decode prog_10_method_4_code 8 = .ok (.invokevirtual 27, 3) := by decide +kernel
theorem d_Stack_stackSign_11 : decode prog_10_method_4_code 11 = .ok (.invokevirtual 30, 3) := by decide +kernel
theorem d_Stack_stackSign_14 : decode prog_10_method_4_code 14 = .ok (.return_, 1) := by decide +kernel
theorem d_Table_stackSign_0 : decode prog_12_method_7_code 0 = .ok (.aload_n 1, 1) := by decide +kernel
theorem d_Table_stackSign_1 : decode prog_12_method_7_code 1 = .ok (.iload_n 2, 1) := by decide +kernel
theorem d_Table_stackSign_2 : decode prog_12_method_7_code 2 = .ok (.invokevirtual 33, 3) := by decide +kernel
theorem d_Table_stackSign_5 : decode prog_12_method_7_code 5 = .ok (.istore_n 3, 1) := by decide +kernel
theorem d_Table_stackSign_6 : decode prog_12_method_7_code 6 = .ok (.iconst 0, 1) := by decide +kernel
theorem d_Table_stackSign_7 : decode prog_12_method_7_code 7 = .ok (.istore 4, 2) := by decide +kernel
theorem d_Table_stackSign_9 : decode prog_12_method_7_code 9 = .ok (.iload 4, 2) := by decide +kernel
theorem d_Table_stackSign_11 : decode prog_12_method_7_code 11 = .ok (.bipush 9, 2) := by decide +kernel
theorem d_Table_stackSign_13 : decode prog_12_method_7_code 13 = .ok (.if_icmp .gt 47, 3) := by decide +kernel
theorem d_Table_stackSign_16 : decode prog_12_method_7_code 16 = .ok (.aload_n 0, 1) := by decide +kernel
theorem d_Table_stackSign_17 : decode prog_12_method_7_code 17 = .ok (.getfield 29, 3) := by decide +kernel
theorem d_Table_stackSign_20 : decode prog_12_method_7_code 20 = .ok (.ldc2_w 37, 3) := by decide +kernel
theorem d_Table_stackSign_23 : decode prog_12_method_7_code 23 = .ok (.iload_n 3, 1) := by decide +kernel
theorem d_Table_stackSign_24 : decode prog_12_method_7_code 24 = .ok (.i2l, 1) := by decide +kernel
theorem d_Table_stackSign_25 : decode prog_12_method_7_code 25 = .ok (.lmul, 1) := by decide +kernel
theorem d_Table_stackSign_26 : decode prog_12_method_7_code 26 = .ok (.lcmp, 1) := by decide +kernel
theorem d_Table_stackSign_27 : decode prog_12_method_7_code 27 = .ok (.ifCond .lt 33, 3) := by decide +kernel
theorem d_Table_stackSign_30 : decode prog_12_method_7_code 30 = .ok (.aload_n 0, 1) := by decide +kernel
theorem d_Table_stackSign_31 : decode prog_12_method_7_code 31 = .ok (.getfield 39, 3) := by decide +kernel
theorem d_Table_stackSign_34 : decode prog_12_method_7_code 34 = .ok (.aload_n 0, 1) := by decide +kernel
theorem d_Table_stackSign_35 : decode prog_12_method_7_code 35 = .ok (.getfield 29, 3) := by decide +kernel
theorem d_Table_stackSign_38 : decode prog_12_method_7_code 38 = .ok (.lconst 1, 1) := by decide +kernel
theorem d_Table_stackSign_39 : decode prog_12_method_7_code 39 = .ok (.land, 1) := by decide +kernel
theorem d_Table_stackSign_40 : decode prog_12_method_7_code 40 = .ok (.l2i, 1) := by decide +kernel
theorem d_Table_stackSign_41 : decode prog_12_method_7_code 41 = .ok (.invokevirtual 43, 3) := by decide +kernel
theorem d_Table_stackSign_44 : decode prog_12_method_7_code 44 = .ok (.aload_n 0, 1) := by decide +kernel
theorem d_Table_stackSign_45 : decode prog_12_method_7_code 45 = .ok (.dup, 1) := by decide +kernel
theorem d_Table_stackSign_46 : decode prog_12_method_7_code 46 = .ok (.getfield 29, 3) := by decide +kernel
theorem d_Table_stackSign_49 : decode prog_12_method_7_code 49 = .ok (.iconst 1, 1) := by decide +kernel
theorem d_Table_stackSign_50 : decode prog_12_method_7_code 50 = .ok (.lushr, 1) := by decide +kernel
theorem d_Table_stackSign_51 : decode prog_12_method_7_code 51 = .ok (.putfield 29, 3) := by decide +kernel
theorem d_Table_stackSign_54 : decode prog_12_method_7_code 54 = .ok (.iinc 4 1, 3) := by decide +kernel
theorem d_Table_stackSign_57 : decode prog_12_method_7_code 57 = .ok (.goto (-48), 3) := by decide +kernel
theorem d_Table_stackSign_60 : decode prog_12_method_7_code 60 = .ok (.aload_n 0, 1) := by decide +kernel
theorem d_Table_stackSign_61 : decode prog_12_method_7_code 61 = .ok (.sipush 512, 3) := by decide +kernel
theorem d_Table_stackSign_64 : decode prog_12_method_7_code 64 = .ok (.aload_n 1, 1) := by decide +kernel
theorem d_Table_stackSign_65 : decode prog_12_method_7_code 65 = .ok (.iload_n 2, 1) := by decide +kernel
theorem d_Table_stackSign_66 : decode prog_12_method_7_code 66 = .ok (.aload_n 0, 1) := by decide +kernel
theorem d_Table_stackSign_67 : decode prog_12_method_7_code 67 = .ok (.getfield 29, 3) := by decide +kernel
theorem d_Table_stackSign_70 : decode prog_12_method_7_code 70 = .ok (.l2i, 1) := by decide +kernel
theorem d_Table_stackSign_71 : decode prog_12_method_7_code 71 = .ok (.iload_n 3, 1) := by decide +kernel
theorem d_Table_stackSign_72 : decode prog_12_method_7_code 72 = .ok (.isub, 1) := by decide +kernel
theorem d_Table_stackSign_73 : decode prog_12_method_7_code 73 = .ok (.invokevirtual 49, 3) := by decide +kernel
theorem d_Table_stackSign_76 : decode prog_12_method_7_code 76 = .ok (.iadd, 1) := by decide +kernel
theorem d_Table_stackSign_77 : decode prog_12_method_7_code 77 = .ok (.i2l, 1) := by decide +kernel
theorem d_Table_stackSign_78 : decode prog_12_method_7_code 78 = .ok (.putfield 29, 3) := by decide +kernel
theorem d_Table_stackSign_81 : decode prog_12_method_7_code 81 = .ok (.return_, 1) := by decide +kernel
theorem d_Odds_placeOf_0 : decode prog_7_method_14_code 0 = .ok (.iload_n 2, 1) := by decide +kernel
theorem d_Odds_placeOf_1 : decode prog_7_method_14_code 1 = .ok (.istore_n 3, 1) := by decide +kernel
theorem d_Odds_placeOf_2 : decode prog_7_method_14_code 2 = .ok (.iconst 0, 1) := by decide +kernel
theorem d_Odds_placeOf_3 : decode prog_7_method_14_code 3 = .ok (.istore 4, 2) := by decide +kernel
theorem d_Odds_placeOf_5 : decode prog_7_method_14_code 5 = .ok (.iload 4, 2) := by decide +kernel
theorem d_Odds_placeOf_7 : decode prog_7_method_14_code 7 = .ok (.aload_n 0, 1) := by decide +kernel
theorem d_Odds_placeOf_8 : decode prog_7_method_14_code 8 = .ok (.getfield 22, 3) := by decide +kernel
theorem d_Odds_placeOf_11 : decode prog_7_method_14_code 11 = .ok (.arraylength, 1) := by decide +kernel
theorem d_Odds_placeOf_12 : decode prog_7_method_14_code 12 = .ok (.if_icmp .ge 30, 3) := by decide +kernel
theorem d_Odds_placeOf_15 : decode prog_7_method_14_code 15 = .ok (.aload_n 0, 1) := by decide +kernel
theorem d_Odds_placeOf_16 : decode prog_7_method_14_code 16 = .ok (.getfield 22, 3) := by decide +kernel
theorem d_Odds_placeOf_19 : decode prog_7_method_14_code 19 = .ok (.iload 4, 2) := by decide +kernel
theorem d_Odds_placeOf_21 : decode prog_7_method_14_code 21 = .ok (.iaload, 1) := by decide +kernel
theorem d_Odds_placeOf_22 : decode prog_7_method_14_code 22 = .ok (.iload_n 1, 1) := by decide +kernel
theorem d_Odds_placeOf_23 : decode prog_7_method_14_code 23 = .ok (.if_icmp .ne 13, 3) := by decide +kernel
theorem d_Odds_placeOf_26 : decode prog_7_method_14_code 26 = .ok (.iload_n 3, 1) := by decide +kernel
theorem d_Odds_placeOf_27 : decode prog_7_method_14_code 27 = .ok (.ifCond .ne 6, 3) := by decide +kernel
theorem d_Odds_placeOf_30 : decode prog_7_method_14_code 30 = .ok (.iload 4, 2) := by decide +kernel
theorem d_Odds_placeOf_32 : decode prog_7_method_14_code 32 = .ok (.ireturn, 1) := by decide +kernel
theorem d_Odds_placeOf_33 : decode prog_7_method_14_code 33 = .ok (.iinc 3 (-1), 3) := by decide +kernel
theorem d_Odds_placeOf_36 : decode prog_7_method_14_code 36 = .ok (.iinc 4 1, 3) := by decide +kernel
theorem d_Odds_placeOf_39 : decode prog_7_method_14_code 39 = .ok (.goto (-34), 3) := by decide +kernel
theorem d_Stack_closeStack_0 : decode prog_10_method_6_code 0 = .ok (.iconst 0, 1) := by decide +kernel
theorem d_Stack_closeStack_1 : decode prog_10_method_6_code 1 = .ok (.istore_n 1, 1) := by decide +kernel
theorem d_Stack_closeStack_2 : decode prog_10_method_6_code 2 = .ok (.iload_n 1, 1) := by decide +kernel
theorem d_Stack_closeStack_3 : decode prog_10_method_6_code 3 = .ok (.iconst 4, 1) := by decide +kernel
theorem d_Stack_closeStack_4 : decode prog_10_method_6_code 4 = .ok (.if_icmp .ge 13, 3) := by decide +kernel
theorem d_Stack_closeStack_7 : decode prog_10_method_6_code 7 = .ok (.aload_n 0, 1) := by decide +kernel
theorem d_Stack_closeStack_8 : decode prog_10_method_6_code 8 = .ok (.invokevirtual 34, 3) := by decide +kernel
theorem d_Stack_closeStack_11 : decode prog_10_method_6_code 11 = .ok (.iinc 1 1, 3) := by decide +kernel
theorem d_Stack_closeStack_14 : decode prog_10_method_6_code 14 = .ok (.goto (-12), 3) := by decide +kernel
theorem d_Stack_closeStack_17 : decode prog_10_method_6_code 17 = .ok (.aload_n 0, 1) := by decide +kernel
theorem d_Stack_closeStack_18 : decode prog_10_method_6_code 18 = .ok (.getfield 37, 3) := by decide +kernel
theorem d_Stack_closeStack_21 : decode prog_10_method_6_code 21 = .ok (.aload_n 0, 1) := by decide +kernel
theorem d_Stack_closeStack_22 : decode prog_10_method_6_code 22 = .ok (.getfield 41, 3) := by decide +kernel
theorem d_Stack_closeStack_25 : decode prog_10_method_6_code 25 = .ok (.invokevirtual 44, 3) := by decide +kernel
theorem d_Stack_closeStack_28 : decode prog_10_method_6_code 28 = .ok (.return_, 1) := by decide +kernel
theorem d_Row_becomeReverseOf_0 : decode prog_9_method_7_code 0 = .ok (.aload_n 0, 1) := by decide +kernel
theorem d_Row_becomeReverseOf_1 : decode prog_9_method_7_code 1 = .ok (.invokevirtual 29, 3) := by decide +kernel
theorem d_Row_becomeReverseOf_4 : decode prog_9_method_7_code 4 = .ok (.aload_n 1, 1) := by decide +kernel
theorem d_Row_becomeReverseOf_5 : decode prog_9_method_7_code 5 = .ok (.getfield 15, 3) := by decide +kernel
theorem d_Row_becomeReverseOf_8 : decode prog_9_method_7_code 8 = .ok (.iconst 1, 1) := by decide +kernel
theorem d_Row_becomeReverseOf_9 : decode prog_9_method_7_code 9 = .ok (.isub, 1) := by decide +kernel
theorem d_Row_becomeReverseOf_10 : decode prog_9_method_7_code 10 = .ok (.istore_n 2, 1) := by decide +kernel
theorem d_Row_becomeReverseOf_11 : decode prog_9_method_7_code 11 = .ok (.iload_n 2, 1) := by decide +kernel
theorem d_Row_becomeReverseOf_12 : decode prog_9_method_7_code 12 = .ok (.ifCond .lt 18, 3) := by decide +kernel
theorem d_Row_becomeReverseOf_15 : decode prog_9_method_7_code 15 = .ok (.aload_n 0, 1) := by decide +kernel
theorem d_Row_becomeReverseOf_16 : decode prog_9_method_7_code 16 = .ok (.aload_n 1, 1) := by decide +kernel
theorem d_Row_becomeReverseOf_17 : decode prog_9_method_7_code 17 = .ok (.iload_n 2, 1) := by decide +kernel
theorem d_Row_becomeReverseOf_18 : decode prog_9_method_7_code 18 = .ok (.invokevirtual 32, 3) := by decide +kernel
theorem d_Row_becomeReverseOf_21 : decode prog_9_method_7_code 21 = .ok (.invokevirtual 36, 3) := by decide +kernel
theorem d_Row_becomeReverseOf_24 : decode prog_9_method_7_code 24 = .ok (.iinc 2 (-1), 3) := by decide +kernel
theorem d_Row_becomeReverseOf_27 : decode prog_9_method_7_code 27 = .ok (.goto (-16), 3) := by decide +kernel
theorem d_Row_becomeReverseOf_30 : decode prog_9_method_7_code 30 = .ok (.return_, 1) := by decide +kernel
theorem d_Row_at_0 : decode prog_9_method_3_code 0 = .ok (.aload_n 0, 1) := by decide +kernel
theorem d_Row_at_1 : decode prog_9_method_3_code 1 = .ok (.iload_n 1, 1) := by decide +kernel
theorem d_Row_at_2 : decode prog_9_method_3_code 2 = .ok (.invokevirtual 19, 3) := by decide +kernel
theorem d_Row_at_5 : decode prog_9_method_3_code 5 = .ok (.ifCond .eq 12, 3) := by decide +kernel
theorem d_Row_at_8 : decode prog_9_method_3_code 8 = .ok (.aload_n 0, 1) := by decide +kernel
theorem d_Row_at_9 : decode prog_9_method_3_code 9 = .ok (.getfield 11, 3) := by decide +kernel
theorem d_Row_at_12 : decode prog_9_method_3_code 12 = .ok (.iload_n 1, 1) := by decide +kernel
theorem d_Row_at_13 : decode prog_9_method_3_code 13 = .ok (.iaload, 1) := by decide +kernel
theorem d_Row_at_14 : decode prog_9_method_3_code 14 = .ok (.goto 4, 3) := by decide +kernel
theorem d_Row_at_17 : decode prog_9_method_3_code 17 = .ok (.iconst (-1), 1) := by decide +kernel
theorem d_Row_at_18 : decode prog_9_method_3_code 18 = .ok (.ireturn, 1) := by decide +kernel
theorem d_Row_has_0 : decode prog_9_method_2_code 0 = .ok (.iload_n 1, 1) := by decide +kernel
theorem d_Row_has_1 : decode prog_9_method_2_code 1 = .ok (.ifCond .lt 24, 3) := by decide +kernel
theorem d_Row_has_4 : decode prog_9_method_2_code 4 = .ok (.iload_n 1, 1) := by decide +kernel
theorem d_Row_has_5 : decode prog_9_method_2_code 5 = .ok (.aload_n 0, 1) := by decide +kernel
theorem d_Row_has_6 : decode prog_9_method_2_code 6 = .ok (.getfield 15, 3) := by decide +kernel
theorem d_Row_has_9 : decode prog_9_method_2_code 9 = .ok (.if_icmp .ge 16, 3) := by decide +kernel
theorem d_Row_has_12 : decode prog_9_method_2_code 12 = .ok (.iload_n 1, 1) := by decide +kernel
theorem d_Row_has_13 : decode prog_9_method_2_code 13 = .ok (.aload_n 0, 1) := by decide +kernel
theorem d_Row_has_14 : decode prog_9_method_2_code 14 = .ok (.getfield 11, 3) := by decide +kernel
theorem d_Row_has_17 : decode prog_9_method_2_code 17 = .ok (.arraylength, 1) := by decide +kernel
theorem d_Row_has_18 : decode prog_9_method_2_code 18 = .ok (.if_icmp .ge 7, 3) := by decide +kernel
theorem d_Row_has_21 : decode prog_9_method_2_code 21 = .ok (.iconst 1, 1) := by decide +kernel
theorem d_Row_has_22 : decode prog_9_method_2_code 22 = .ok (.goto 4, 3) := by decide +kernel
theorem d_Row_has_25 : decode prog_9_method_2_code 25 = .ok (.iconst 0, 1) := by decide +kernel
theorem d_Row_has_26 : decode prog_9_method_2_code 26 = .ok (.ireturn, 1) := by decide +kernel
theorem d_Table_closeStack_0 : decode prog_12_method_9_code 0 = .ok (.aload_n 0, 1) := by decide +kernel
theorem d_Table_closeStack_1 : decode prog_12_method_9_code 1 = .ok (.aload_n 0, 1) := by decide +kernel
theorem d_Table_closeStack_2 : decode prog_12_method_9_code 2 = .ok (.getfield 29, 3) := by decide +kernel
theorem d_Table_closeStack_5 : decode prog_12_method_9_code 5 = .ok (.l2i, 1) := by decide +kernel
theorem d_Table_closeStack_6 : decode prog_12_method_9_code 6 = .ok (.sipush 512, 3) := by decide +kernel
theorem d_Table_closeStack_9 : decode prog_12_method_9_code 9 = .ok (.isub, 1) := by decide +kernel
theorem d_Table_closeStack_10 : decode prog_12_method_9_code 10 = .ok (.bipush 9, 2) := by decide +kernel
theorem d_Table_closeStack_12 : decode prog_12_method_9_code 12 = .ok (.invokevirtual 53, 3) := by decide +kernel
theorem d_Table_closeStack_15 : decode prog_12_method_9_code 15 = .ok (.aload_n 0, 1) := by decide +kernel
theorem d_Table_closeStack_16 : decode prog_12_method_9_code 16 = .ok (.getfield 57, 3) := by decide +kernel
theorem d_Table_closeStack_19 : decode prog_12_method_9_code 19 = .ok (.invokevirtual 60, 3) := by decide +kernel
theorem d_Table_closeStack_22 : decode prog_12_method_9_code 22 = .ok (.iconst 0, 1) := by decide +kernel
theorem d_Table_closeStack_23 : decode prog_12_method_9_code 23 = .ok (.istore_n 1, 1) := by decide +kernel
theorem d_Table_closeStack_24 : decode prog_12_method_9_code 24 = .ok (.iload_n 1, 1) := by decide +kernel
theorem d_Table_closeStack_25 : decode prog_12_method_9_code 25 = .ok (.aload_n 0, 1) := by decide +kernel
theorem d_Table_closeStack_26 : decode prog_12_method_9_code 26 = .ok (.getfield 39, 3) := by decide +kernel
theorem d_Table_closeStack_29 : decode prog_12_method_9_code 29 = .ok (.getfield 63, 3) := by decide +kernel
theorem d_Table_closeStack_32 : decode prog_12_method_9_code 32 = .ok (.if_icmp .ge 21, 3) := by decide +kernel
theorem d_Table_closeStack_35 : decode prog_12_method_9_code 35 = .ok (.aload_n 0, 1) := by decide +kernel
theorem d_Table_closeStack_36 : decode prog_12_method_9_code 36 = .ok (.getfield 57, 3) := by decide +kernel
theorem d_Table_closeStack_39 : decode prog_12_method_9_code 39 = .ok (.aload_n 0, 1) := by decide +kernel
theorem d_Table_closeStack_40 : decode prog_12_method_9_code 40 = .ok (.iload_n 1, 1) := by decide +kernel
theorem d_Table_closeStack_41 : decode prog_12_method_9_code 41 = .ok (.invokevirtual 66, 3) := by decide +kernel
theorem d_Table_closeStack_44 : decode prog_12_method_9_code 44 = .ok (.invokevirtual 43, 3) := by decide +kernel
theorem d_Table_closeStack_47 : decode prog_12_method_9_code 47 = .ok (.iinc 1 8, 3) := by decide +kernel
theorem d_Table_closeStack_50 : decode prog_12_method_9_code 50 = .ok (.goto (-26), 3) := by decide +kernel
theorem d_Table_closeStack_53 : decode prog_12_method_9_code 53 = .ok (.return_, 1) := by decide +kernel
theorem d_Table_byteOfWritten_0 : decode prog_12_method_13_code 0 = .ok (.iconst 0, 1) := by decide +kernel
theorem d_Table_byteOfWritten_1 : decode prog_12_method_13_code 1 = .ok (.istore_n 2, 1) := by decide +kernel
theorem d_Table_byteOfWritten_2 : decode prog_12_method_13_code 2 = .ok (.iload_n 1, 1) := by decide +kernel
theorem d_Table_byteOfWritten_3 : decode prog_12_method_13_code 3 = .ok (.istore_n 3, 1) := by decide +kernel
theorem d_Table_byteOfWritten_4 : decode prog_12_method_13_code 4 = .ok (.iload_n 3, 1) := by decide +kernel
theorem d_Table_byteOfWritten_5 : decode prog_12_method_13_code 5 = .ok (.iload_n 1, 1) := by decide +kernel
theorem d_Table_byteOfWritten_6 : decode prog_12_method_13_code 6 = .ok (.bipush 8, 2) := by decide +kernel
theorem d_Table_byteOfWritten_8 : decode prog_12_method_13_code 8 = .ok (.iadd, 1) := by decide +kernel
theorem d_Table_byteOfWritten_9 : decode prog_12_method_13_code 9 = .ok (.if_icmp .ge 52, 3) := by decide +kernel
theorem d_Table_byteOfWritten_12 : decode prog_12_method_13_code 12 = .ok (.aload_n 0, 1) := by decide +kernel
theorem d_Table_byteOfWritten_13 : decode prog_12_method_13_code 13 = .ok (.getfield 39, 3) := by decide +kernel
theorem d_Table_byteOfWritten_16 : decode prog_12_method_13_code 16 = .ok (.getfield 63, 3) := by decide +kernel
theorem d_Table_byteOfWritten_19 : decode prog_12_method_13_code 19 = .ok (.iconst 1, 1) := by decide +kernel
theorem d_Table_byteOfWritten_20 : decode prog_12_method_13_code 20 = .ok (.isub, 1) := by decide +kernel
theorem d_Table_byteOfWritten_21 : decode prog_12_method_13_code 21 = .ok (.iload_n 3, 1) := by decide +kernel
theorem d_Table_byteOfWritten_22 : decode prog_12_method_13_code 22 = .ok (.isub, 1) := by decide +kernel
theorem d_Table_byteOfWritten_23 : decode prog_12_method_13_code 23 = .ok (.istore 4, 2) := by decide +kernel
theorem d_Table_byteOfWritten_25 : decode prog_12_method_13_code 25 = .ok (.iconst 2, 1) := by decide +kernel
theorem d_Table_byteOfWritten_26 : decode prog_12_method_13_code 26 = .ok (.iload_n 2, 1) := by decide +kernel
theorem d_Table_byteOfWritten_27 : decode prog_12_method_13_code 27 = .ok (.imul, 1) := by decide +kernel
theorem d_Table_byteOfWritten_28 : decode prog_12_method_13_code 28 = .ok (.aload_n 0, 1) := by decide +kernel
theorem d_Table_byteOfWritten_29 : decode prog_12_method_13_code 29 = .ok (.getfield 39, 3) := by decide +kernel
theorem d_Table_byteOfWritten_32 : decode prog_12_method_13_code 32 = .ok (.iload 4, 2) := by decide +kernel
theorem d_Table_byteOfWritten_34 : decode prog_12_method_13_code 34 = .ok (.invokevirtual 88, 3) := by decide +kernel
theorem d_Table_byteOfWritten_37 : decode prog_12_method_13_code 37 = .ok (.ifCond .eq 15, 3) := by decide +kernel
theorem d_Table_byteOfWritten_40 : decode prog_12_method_13_code 40 = .ok (.aload_n 0, 1) := by decide +kernel
theorem d_Table_byteOfWritten_41 : decode prog_12_method_13_code 41 = .ok (.getfield 39, 3) := by decide +kernel
theorem d_Table_byteOfWritten_44 : decode prog_12_method_13_code 44 = .ok (.iload 4, 2) := by decide +kernel
theorem d_Table_byteOfWritten_46 : decode prog_12_method_13_code 46 = .ok (.invokevirtual 92, 3) := by decide +kernel
theorem d_Table_byteOfWritten_49 : decode prog_12_method_13_code 49 = .ok (.goto 4, 3) := by decide +kernel
theorem d_Table_byteOfWritten_52 : decode prog_12_method_13_code 52 = .ok (.iconst 0, 1) := by decide +kernel
theorem d_Table_byteOfWritten_53 : decode prog_12_method_13_code 53 = .ok (.iadd, 1) := by decide +kernel
theorem d_Table_byteOfWritten_54 : decode prog_12_method_13_code 54 = .ok (.istore_n 2, 1) := by decide +kernel
theorem d_Table_byteOfWritten_55 : decode prog_12_method_13_code 55 = .ok (.iinc 3 1, 3) := by decide +kernel
theorem d_Table_byteOfWritten_58 : decode prog_12_method_13_code 58 = .ok (.goto (-54), 3) := by decide +kernel
theorem d_Table_byteOfWritten_61 : decode prog_12_method_13_code 61 = .ok (.iload_n 2, 1) := by decide +kernel
theorem d_Table_byteOfWritten_62 : decode prog_12_method_13_code 62 = .ok (.ireturn, 1) := by decide +kernel
theorem d_RC_begin_0 : decode prog_1_method_7_code 0 = .ok (.aload_n 0, 1) := by decide +kernel
theorem d_RC_begin_1 : decode prog_1_method_7_code 1 = .ok (.getfield 63, 3) := by decide +kernel
theorem d_RC_begin_4 : decode prog_1_method_7_code 4 = .ok (.istore_n 1, 1) := by decide +kernel
theorem d_RC_begin_5 : decode prog_1_method_7_code 5 = .ok (.aload_n 0, 1) := by decide +kernel
theorem d_RC_begin_6 : decode prog_1_method_7_code 6 = .ok (.iconst 0, 1) := by decide +kernel
theorem d_RC_begin_7 : decode prog_1_method_7_code 7 = .ok (.putfield 63, 3) := by decide +kernel
theorem d_RC_begin_10 : decode prog_1_method_7_code 10 = .ok (.aload_n 0, 1) := by decide +kernel
theorem d_RC_begin_11 : decode prog_1_method_7_code 11 = .ok (.iconst 0, 1) := by decide +kernel
theorem d_RC_begin_12 : decode prog_1_method_7_code 12 = .ok (.putfield 66, 3) := by decide +kernel
theorem d_RC_begin_15 : decode prog_1_method_7_code 15 = .ok (.aload_n 0, 1) := by decide +kernel
theorem d_RC_begin_16 : decode prog_1_method_7_code 16 = .ok (.getfield 23, 3) := by decide +kernel
theorem d_RC_begin_19 : decode prog_1_method_7_code 19 = .ok (.invokevirtual 100, 3) := by decide +kernel
theorem d_RC_begin_22 : decode prog_1_method_7_code 22 = .ok (.aload_n 0, 1) := by decide +kernel
theorem d_RC_begin_23 : decode prog_1_method_7_code 23 = .ok (.getfield 11, 3) := by decide +kernel
theorem d_RC_begin_26 : decode prog_1_method_7_code 26 = .ok (.astore_n 2, 1) := by decide +kernel
theorem d_RC_begin_27 : decode prog_1_method_7_code 27 = .ok (.aload_n 2, 1) := by decide +kernel
theorem d_RC_begin_28 : decode prog_1_method_7_code 28 = .ok (.arraylength, 1) := by decide +kernel
theorem d_RC_begin_29 : decode prog_1_method_7_code 29 = .ok (.istore_n 3, 1) := by decide +kernel
theorem d_RC_begin_30 : decode prog_1_method_7_code 30 = .ok (.iconst 0, 1) := by decide +kernel
theorem d_RC_begin_31 : decode prog_1_method_7_code 31 = .ok (.istore 4, 2) := by decide +kernel
theorem d_RC_begin_33 : decode prog_1_method_7_code 33 = .ok (.iload 4, 2) := by decide +kernel
theorem d_RC_begin_35 : decode prog_1_method_7_code 35 = .ok (.iload_n 3, 1) := by decide +kernel
theorem d_RC_begin_36 : decode prog_1_method_7_code 36 = .ok (.if_icmp .ge 37, 3) := by decide +kernel
theorem d_RC_begin_39 : decode prog_1_method_7_code 39 = .ok (.aload_n 2, 1) := by decide +kernel
theorem d_RC_begin_40 : decode prog_1_method_7_code 40 = .ok (.iload 4, 2) := by decide +kernel
theorem d_RC_begin_42 : decode prog_1_method_7_code 42 = .ok (.aaload, 1) := by decide +kernel
theorem d_RC_begin_43 : decode prog_1_method_7_code 43 = .ok (.astore 5, 2) := by decide +kernel
theorem d_RC_begin_45 : decode prog_1_method_7_code 45 = .ok (.aload 5, 2) := by decide +kernel
theorem d_RC_begin_47 : decode prog_1_method_7_code 47 = .ok (.ifnull 20, 3) := by decide +kernel
theorem d_RC_begin_50 : decode prog_1_method_7_code 50 = .ok (.aload_n 0, 1) := by decide +kernel
theorem d_RC_begin_51 : decode prog_1_method_7_code 51 = .ok (.getfield 23, 3) := by decide +kernel
theorem d_RC_begin_54 : decode prog_1_method_7_code 54 = .ok (.aload 5, 2) := by decide +kernel
theorem d_RC_begin_56 : decode prog_1_method_7_code 56 = .ok (.getfield 40, 3) := by decide +kernel
theorem d_RC_begin_59 : decode prog_1_method_7_code 59 = .ok (.aload 5, 2) := by decide +kernel
theorem d_RC_begin_61 : decode prog_1_method_7_code 61 = .ok (.getfield 44, 3) := by decide +kernel
theorem d_RC_begin_64 : decode prog_1_method_7_code 64 = .ok (.invokevirtual 48, 3) := by decide +kernel
theorem d_RC_begin_67 : decode prog_1_method_7_code 67 = .ok (.iinc 4 1, 3) := by decide +kernel
theorem d_RC_begin_70 : decode prog_1_method_7_code 70 = .ok (.goto (-37), 3) := by decide +kernel
theorem d_RC_begin_73 : decode prog_1_method_7_code 73 = .ok (.iload_n 1, 1) := by decide +kernel
theorem d_RC_begin_74 : decode prog_1_method_7_code 74 = .ok (.ireturn, 1) := by decide +kernel
theorem d_Carries_openMessage_0 : decode prog_3_method_2_code 0 = .ok (.aload_n 0, 1) := by decide +kernel
theorem d_Carries_openMessage_1 : decode prog_3_method_2_code 1 = .ok (.invokespecial 15, 3) := by decide +kernel
theorem d_Carries_openMessage_4 : decode prog_3_method_2_code 4 = .ok (.aload_n 0, 1) := by decide +kernel
theorem d_Carries_openMessage_5 : decode prog_3_method_2_code 5 = .ok (.iconst (-1), 1) := by decide +kernel
theorem d_Carries_openMessage_6 : decode prog_3_method_2_code 6 = .ok (.putfield 9, 3) := by decide +kernel
theorem d_Carries_openMessage_9 : decode prog_3_method_2_code 9 = .ok (.aload_n 0, 1) := by decide +kernel
theorem d_Carries_openMessage_10 : decode prog_3_method_2_code 10 = .ok (.iconst 0, 1) := by decide +kernel
theorem d_Carries_openMessage_11 : decode prog_3_method_2_code 11 = .ok (.putfield 18, 3) := by decide +kernel
theorem d_Carries_openMessage_14 : decode prog_3_method_2_code 14 = .ok (.return_, 1) := by decide +kernel
theorem d_Ranged_openMessage_0 : decode prog_8_method_6_code 0 = .ok (.aload_n 0, 1) := by decide +kernel
theorem d_Ranged_openMessage_1 : decode prog_8_method_6_code 1 = .ok (.getfield 23, 3) := by decide +kernel
theorem d_Ranged_openMessage_4 : decode prog_8_method_6_code 4 = .ok (.invokevirtual 27, 3) := by decide +kernel
theorem d_Ranged_openMessage_7 : decode prog_8_method_6_code 7 = .ok (.aload_n 0, 1) := by decide +kernel
theorem d_Ranged_openMessage_8 : decode prog_8_method_6_code 8 = .ok (.lconst 0, 1) := by decide +kernel
theorem d_Ranged_openMessage_9 : decode prog_8_method_6_code 9 = .ok (.putfield 32, 3) := by decide +kernel
theorem d_Ranged_openMessage_12 : decode prog_8_method_6_code 12 = .ok (.aload_n 0, 1) := by decide +kernel
theorem d_Ranged_openMessage_13 : decode prog_8_method_6_code 13 = .ok (.ldc2_w 9, 3) := by decide +kernel
theorem d_Ranged_openMessage_16 : decode prog_8_method_6_code 16 = .ok (.putfield 11, 3) := by decide +kernel
theorem d_Ranged_openMessage_19 : decode prog_8_method_6_code 19 = .ok (.return_, 1) := by decide +kernel
theorem d_Stacked_openMessage_0 : decode prog_11_method_6_code 0 = .ok (.aload_n 0, 1) := by decide +kernel
theorem d_Stacked_openMessage_1 : decode prog_11_method_6_code 1 = .ok (.iconst 0, 1) := by decide +kernel
theorem d_Stacked_openMessage_2 : decode prog_11_method_6_code 2 = .ok (.putfield 24, 3) := by decide +kernel
theorem d_Stacked_openMessage_5 : decode prog_11_method_6_code 5 = .ok (.return_, 1) := by decide +kernel
theorem d_RC_out_0 : decode prog_1_method_8_code 0 = .ok (.aload_n 0, 1) := by decide +kernel
theorem d_RC_out_1 : decode prog_1_method_8_code 1 = .ok (.getfield 23, 3) := by decide +kernel
theorem d_RC_out_4 : decode prog_1_method_8_code 4 = .ok (.getfield 91, 3) := by decide +kernel
theorem d_RC_out_7 : decode prog_1_method_8_code 7 = .ok (.iload_n 1, 1) := by decide +kernel
theorem d_RC_out_8 : decode prog_1_method_8_code 8 = .ok (.invokevirtual 103, 3) := by decide +kernel
theorem d_RC_out_11 : decode prog_1_method_8_code 11 = .ok (.ireturn, 1) := by decide +kernel
theorem d_RC_octets_0 : decode prog_1_method_9_code 0 = .ok (.aload_n 0, 1) := by decide +kernel
theorem d_RC_octets_1 : decode prog_1_method_9_code 1 = .ok (.getfield 23, 3) := by decide +kernel
theorem d_RC_octets_4 : decode prog_1_method_9_code 4 = .ok (.getfield 107, 3) := by decide +kernel
theorem d_RC_octets_7 : decode prog_1_method_9_code 7 = .ok (.getfield 95, 3) := by decide +kernel
theorem d_RC_octets_10 : decode prog_1_method_9_code 10 = .ok (.iconst 4, 1) := by decide +kernel
theorem d_RC_octets_11 : decode prog_1_method_9_code 11 = .ok (.iadd, 1) := by decide +kernel
theorem d_RC_octets_12 : decode prog_1_method_9_code 12 = .ok (.sipush 6000, 3) := by decide +kernel
theorem d_RC_octets_15 : decode prog_1_method_9_code 15 = .ok (.if_icmp .le 6, 3) := by decide +kernel
theorem d_RC_octets_18 : decode prog_1_method_9_code 18 = .ok (.bipush (-4), 2) := by decide +kernel
theorem d_RC_octets_20 : decode prog_1_method_9_code 20 = .ok (.ireturn, 1) := by decide +kernel
theorem d_RC_octets_21 : decode prog_1_method_9_code 21 = .ok (.bipush 24, 2) := by decide +kernel
theorem d_RC_octets_23 : decode prog_1_method_9_code 23 = .ok (.istore_n 2, 1) := by decide +kernel
theorem d_RC_octets_24 : decode prog_1_method_9_code 24 = .ok (.iload_n 2, 1) := by decide +kernel
theorem d_RC_octets_25 : decode prog_1_method_9_code 25 = .ok (.ifCond .lt 26, 3) := by decide +kernel
theorem d_RC_octets_28 : decode prog_1_method_9_code 28 = .ok (.aload_n 0, 1) := by decide +kernel
theorem d_RC_octets_29 : decode prog_1_method_9_code 29 = .ok (.getfield 23, 3) := by decide +kernel
theorem d_RC_octets_32 : decode prog_1_method_9_code 32 = .ok (.getfield 107, 3) := by decide +kernel
theorem d_RC_octets_35 : decode prog_1_method_9_code 35 = .ok (.iload_n 1, 1) := by decide +kernel
theorem d_RC_octets_36 : decode prog_1_method_9_code 36 = .ok (.iload_n 2, 1) := by decide +kernel
theorem d_RC_octets_37 : decode prog_1_method_9_code 37 = .ok (.iushr, 1) := by decide +kernel
theorem d_RC_octets_38 : decode prog_1_method_9_code 38 = .ok (.sipush 255, 3) := by decide +kernel
theorem d_RC_octets_41 : decode prog_1_method_9_code 41 = .ok (.iand, 1) := by decide +kernel
theorem d_RC_octets_42 : decode prog_1_method_9_code 42 = .ok (.invokevirtual 110, 3) := by decide +kernel
theorem d_RC_octets_45 : decode prog_1_method_9_code 45 = .ok (.iinc 2 (-8), 3) := by decide +kernel
theorem d_RC_octets_48 : decode prog_1_method_9_code 48 = .ok (.goto (-24), 3) := by decide +kernel
theorem d_RC_octets_51 : decode prog_1_method_9_code 51 = .ok (.aload_n 0, 1) := by decide +kernel
theorem d_RC_octets_52 : decode prog_1_method_9_code 52 = .ok (.getfield 23, 3) := by decide +kernel
theorem d_RC_octets_55 : decode prog_1_method_9_code 55 = .ok (.getfield 107, 3) := by decide +kernel
theorem d_RC_octets_58 : decode prog_1_method_9_code 58 = .ok (.getfield 95, 3) := by decide +kernel
theorem d_RC_octets_61 : decode prog_1_method_9_code 61 = .ok (.ireturn, 1) := by decide +kernel
theorem d_RC_take_0 : decode prog_1_method_10_code 0 = .ok (.iload_n 1, 1) := by decide +kernel
theorem d_RC_take_1 : decode prog_1_method_10_code 1 = .ok (.ifCond .lt 19, 3) := by decide +kernel
theorem d_RC_take_4 : decode prog_1_method_10_code 4 = .ok (.iload_n 1, 1) := by decide +kernel
theorem d_RC_take_5 : decode prog_1_method_10_code 5 = .ok (.iconst 2, 1) := by decide +kernel
theorem d_RC_take_6 : decode prog_1_method_10_code 6 = .ok (.isub, 1) := by decide +kernel
theorem d_RC_take_7 : decode prog_1_method_10_code 7 = .ok (.aload_n 0, 1) := by decide +kernel
theorem d_RC_take_8 : decode prog_1_method_10_code 8 = .ok (.getfield 23, 3) := by decide +kernel
theorem d_RC_take_11 : decode prog_1_method_10_code 11 = .ok (.getfield 91, 3) := by decide +kernel
theorem d_RC_take_14 : decode prog_1_method_10_code 14 = .ok (.getfield 95, 3) := by decide +kernel
theorem d_RC_take_17 : decode prog_1_method_10_code 17 = .ok (.if_icmp .le 6, 3) := by decide +kernel
theorem d_RC_take_20 : decode prog_1_method_10_code 20 = .ok (.bipush (-2), 2) := by decide +kernel
theorem d_RC_take_22 : decode prog_1_method_10_code 22 = .ok (.ireturn, 1) := by decide +kernel
theorem d_RC_take_23 : decode prog_1_method_10_code 23 = .ok (.iload_n 1, 1) := by decide +kernel
theorem d_RC_take_24 : decode prog_1_method_10_code 24 = .ok (.iconst 1, 1) := by decide +kernel
theorem d_RC_take_25 : decode prog_1_method_10_code 25 = .ok (.if_icmp .ne 16, 3) := by decide +kernel
theorem d_RC_take_28 : decode prog_1_method_10_code 28 = .ok (.aload_n 0, 1) := by decide +kernel
theorem d_RC_take_29 : decode prog_1_method_10_code 29 = .ok (.getfield 23, 3) := by decide +kernel
theorem d_RC_take_32 : decode prog_1_method_10_code 32 = .ok (.getfield 91, 3) := by decide +kernel
theorem d_RC_take_35 : decode prog_1_method_10_code 35 = .ok (.getfield 95, 3) := by decide +kernel
theorem d_RC_take_38 : decode prog_1_method_10_code 38 = .ok (.goto 10, 3) := by decide +kernel
theorem d_RC_take_41 : decode prog_1_method_10_code 41 = .ok (.iconst 0, 1) := by decide +kernel
theorem d_RC_take_42 : decode prog_1_method_10_code 42 = .ok (.iload_n 1, 1) := by decide +kernel
theorem d_RC_take_43 : decode prog_1_method_10_code 43 = .ok (.iconst 2, 1) := by decide +kernel
theorem d_RC_take_44 : decode prog_1_method_10_code 44 = .ok (.isub, 1) := by decide +kernel
theorem d_RC_take_45 : decode prog_1_method_10_code 45 = .ok (.invokestatic 114, 3) := by decide +kernel
theorem d_RC_take_48 : decode prog_1_method_10_code 48 = .ok (.istore_n 2, 1) := by decide +kernel
theorem d_RC_take_49 : decode prog_1_method_10_code 49 = .ok (.aload_n 0, 1) := by decide +kernel
theorem d_RC_take_50 : decode prog_1_method_10_code 50 = .ok (.getfield 23, 3) := by decide +kernel
theorem d_RC_take_53 : decode prog_1_method_10_code 53 = .ok (.getfield 107, 3) := by decide +kernel
theorem d_RC_take_56 : decode prog_1_method_10_code 56 = .ok (.invokevirtual 120, 3) := by decide +kernel
theorem d_RC_take_59 : decode prog_1_method_10_code 59 = .ok (.iconst 0, 1) := by decide +kernel
theorem d_RC_take_60 : decode prog_1_method_10_code 60 = .ok (.istore_n 3, 1) := by decide +kernel
theorem d_RC_take_61 : decode prog_1_method_10_code 61 = .ok (.iload_n 3, 1) := by decide +kernel
theorem d_RC_take_62 : decode prog_1_method_10_code 62 = .ok (.iload_n 2, 1) := by decide +kernel
theorem d_RC_take_63 : decode prog_1_method_10_code 63 = .ok (.if_icmp .ge 30, 3) := by decide +kernel
theorem d_RC_take_66 : decode prog_1_method_10_code 66 = .ok (.aload_n 0, 1) := by decide +kernel
theorem d_RC_take_67 : decode prog_1_method_10_code 67 = .ok (.getfield 23, 3) := by decide +kernel
theorem d_RC_take_70 : decode prog_1_method_10_code 70 = .ok (.getfield 107, 3) := by decide +kernel
theorem d_RC_take_73 : decode prog_1_method_10_code 73 = .ok (.aload_n 0, 1) := by decide +kernel
theorem d_RC_take_74 : decode prog_1_method_10_code 74 = .ok (.getfield 23, 3) := by decide +kernel
theorem d_RC_take_77 : decode prog_1_method_10_code 77 = .ok (.getfield 91, 3) := by decide +kernel
theorem d_RC_take_80 : decode prog_1_method_10_code 80 = .ok (.iload_n 3, 1) := by decide +kernel
theorem d_RC_take_81 : decode prog_1_method_10_code 81 = .ok (.invokevirtual 103, 3) := by decide +kernel
theorem d_RC_take_84 : decode prog_1_method_10_code 84 = .ok (.invokevirtual 110, 3) := by decide +kernel
theorem d_RC_take_87 : decode prog_1_method_10_code 87 = .ok (.iinc 3 1, 3) := by decide +kernel
theorem d_RC_take_90 : decode prog_1_method_10_code 90 = .ok (.goto (-29), 3) := by decide +kernel
theorem d_RC_take_93 : decode prog_1_method_10_code 93 = .ok (.aload_n 0, 1) := by decide +kernel
theorem d_RC_take_94 : decode prog_1_method_10_code 94 = .ok (.iconst 0, 1) := by decide +kernel
theorem d_RC_take_95 : decode prog_1_method_10_code 95 = .ok (.putfield 70, 3) := by decide +kernel
theorem d_RC_take_98 : decode prog_1_method_10_code 98 = .ok (.aload_n 0, 1) := by decide +kernel
theorem d_RC_take_99 : decode prog_1_method_10_code 99 = .ok (.iconst 0, 1) := by decide +kernel
theorem d_RC_take_100 : decode prog_1_method_10_code 100 = .ok (.putfield 123, 3) := by decide +kernel
theorem d_RC_take_103 : decode prog_1_method_10_code 103 = .ok (.aload_n 0, 1) := by decide +kernel
theorem d_RC_take_104 : decode prog_1_method_10_code 104 = .ok (.iconst 0, 1) := by decide +kernel
theorem d_RC_take_105 : decode prog_1_method_10_code 105 = .ok (.putfield 126, 3) := by decide +kernel
theorem d_RC_take_108 : decode prog_1_method_10_code 108 = .ok (.aload_n 0, 1) := by decide +kernel
theorem d_RC_take_109 : decode prog_1_method_10_code 109 = .ok (.getfield 23, 3) := by decide +kernel
theorem d_RC_take_112 : decode prog_1_method_10_code 112 = .ok (.getfield 107, 3) := by decide +kernel
theorem d_RC_take_115 : decode prog_1_method_10_code 115 = .ok (.getfield 95, 3) := by decide +kernel
theorem d_RC_take_118 : decode prog_1_method_10_code 118 = .ok (.ireturn, 1) := by decide +kernel
theorem d_RC_spoil_0 : decode prog_1_method_11_code 0 = .ok (.aload_n 0, 1) := by decide +kernel
theorem d_RC_spoil_1 : decode prog_1_method_11_code 1 = .ok (.getfield 23, 3) := by decide +kernel
theorem d_RC_spoil_4 : decode prog_1_method_11_code 4 = .ok (.getfield 107, 3) := by decide +kernel
theorem d_RC_spoil_7 : decode prog_1_method_11_code 7 = .ok (.iload_n 1, 1) := by decide +kernel
theorem d_RC_spoil_8 : decode prog_1_method_11_code 8 = .ok (.invokevirtual 129, 3) := by decide +kernel
theorem d_RC_spoil_11 : decode prog_1_method_11_code 11 = .ok (.ifCond .ne 5, 3) := by decide +kernel
theorem d_RC_spoil_14 : decode prog_1_method_11_code 14 = .ok (.iconst (-1), 1) := by decide +kernel
theorem d_RC_spoil_15 : decode prog_1_method_11_code 15 = .ok (.ireturn, 1) := by decide +kernel
theorem d_RC_spoil_16 : decode prog_1_method_11_code 16 = .ok (.iload_n 2, 1) := by decide +kernel
theorem d_RC_spoil_17 : decode prog_1_method_11_code 17 = .ok (.ifCond .lt 10, 3) := by decide +kernel
theorem d_RC_spoil_20 : decode prog_1_method_11_code 20 = .ok (.iload_n 2, 1) := by decide +kernel
theorem d_RC_spoil_21 : decode prog_1_method_11_code 21 = .ok (.sipush 255, 3) := by decide +kernel
theorem d_RC_spoil_24 : decode prog_1_method_11_code 24 = .ok (.if_icmp .le 6, 3) := by decide +kernel
theorem d_RC_spoil_27 : decode prog_1_method_11_code 27 = .ok (.bipush (-2), 2) := by decide +kernel
theorem d_RC_spoil_29 : decode prog_1_method_11_code 29 = .ok (.ireturn, 1) := by decide +kernel
theorem d_RC_spoil_30 : decode prog_1_method_11_code 30 = .ok (.aload_n 0, 1) := by decide +kernel
theorem d_RC_spoil_31 : decode prog_1_method_11_code 31 = .ok (.getfield 23, 3) := by decide +kernel
theorem d_RC_spoil_34 : decode prog_1_method_11_code 34 = .ok (.getfield 107, 3) := by decide +kernel
theorem d_RC_spoil_37 : decode prog_1_method_11_code 37 = .ok (.iload_n 1, 1) := by decide +kernel
theorem d_RC_spoil_38 : decode prog_1_method_11_code 38 = .ok (.aload_n 0, 1) := by decide +kernel
theorem d_RC_spoil_39 : decode prog_1_method_11_code 39 = .ok (.getfield 23, 3) := by decide +kernel
theorem d_RC_spoil_42 : decode prog_1_method_11_code 42 = .ok (.getfield 107, 3) := by decide +kernel
theorem d_RC_spoil_45 : decode prog_1_method_11_code 45 = .ok (.iload_n 1, 1) := by decide +kernel
theorem d_RC_spoil_46 : decode prog_1_method_11_code 46 = .ok (.invokevirtual 103, 3) := by decide +kernel
theorem d_RC_spoil_49 : decode prog_1_method_11_code 49 = .ok (.iload_n 2, 1) := by decide +kernel
theorem d_RC_spoil_50 : decode prog_1_method_11_code 50 = .ok (.ixor, 1) := by decide +kernel
theorem d_RC_spoil_51 : decode prog_1_method_11_code 51 = .ok (.invokevirtual 132, 3) := by decide +kernel
theorem d_RC_spoil_54 : decode prog_1_method_11_code 54 = .ok (.aload_n 0, 1) := by decide +kernel
theorem d_RC_spoil_55 : decode prog_1_method_11_code 55 = .ok (.getfield 23, 3) := by decide +kernel
theorem d_RC_spoil_58 : decode prog_1_method_11_code 58 = .ok (.getfield 107, 3) := by decide +kernel
theorem d_RC_spoil_61 : decode prog_1_method_11_code 61 = .ok (.iload_n 1, 1) := by decide +kernel
theorem d_RC_spoil_62 : decode prog_1_method_11_code 62 = .ok (.invokevirtual 103, 3) := by decide +kernel
theorem d_RC_spoil_65 : decode prog_1_method_11_code 65 = .ok (.ireturn, 1) := by decide +kernel
theorem d_Row_set_0 : decode prog_9_method_4_code 0 = .ok (.aload_n 0, 1) := by decide +kernel
theorem d_Row_set_1 : decode prog_9_method_4_code 1 = .ok (.iload_n 1, 1) := by decide +kernel
theorem d_Row_set_2 : decode prog_9_method_4_code 2 = .ok (.invokevirtual 19, 3) := by decide +kernel
theorem d_Row_set_5 : decode prog_9_method_4_code 5 = .ok (.ifCond .eq 10, 3) := by decide +kernel
theorem d_Row_set_8 : decode prog_9_method_4_code 8 = .ok (.aload_n 0, 1) := by decide +kernel
theorem d_Row_set_9 : decode prog_9_method_4_code 9 = .ok (.getfield 11, 3) := by decide +kernel
theorem d_Row_set_12 : decode prog_9_method_4_code 12 = .ok (.iload_n 1, 1) := by decide +kernel
theorem d_Row_set_13 : decode prog_9_method_4_code 13 = .ok (.iload_n 2, 1) := by decide +kernel
theorem d_Row_set_14 : decode prog_9_method_4_code 14 = .ok (.iastore, 1) := by decide +kernel
theorem d_Row_set_15 : decode prog_9_method_4_code 15 = .ok (.return_, 1) := by decide +kernel
theorem d_RC_read_0 : decode prog_1_method_12_code 0 = .ok (.aload_n 0, 1) := by decide +kernel
theorem d_RC_read_1 : decode prog_1_method_12_code 1 = .ok (.getfield 11, 3) := by decide +kernel
theorem d_RC_read_4 : decode prog_1_method_12_code 4 = .ok (.astore_n 1, 1) := by decide +kernel
theorem d_RC_read_5 : decode prog_1_method_12_code 5 = .ok (.aload_n 1, 1) := by decide +kernel
theorem d_RC_read_6 : decode prog_1_method_12_code 6 = .ok (.arraylength, 1) := by decide +kernel
theorem d_RC_read_7 : decode prog_1_method_12_code 7 = .ok (.istore_n 2, 1) := by decide +kernel
theorem d_RC_read_8 : decode prog_1_method_12_code 8 = .ok (.iconst 0, 1) := by decide +kernel
theorem d_RC_read_9 : decode prog_1_method_12_code 9 = .ok (.istore_n 3, 1) := by decide +kernel
theorem d_RC_read_10 : decode prog_1_method_12_code 10 = .ok (.iload_n 3, 1) := by decide +kernel
theorem d_RC_read_11 : decode prog_1_method_12_code 11 = .ok (.iload_n 2, 1) := by decide +kernel
theorem d_RC_read_12 : decode prog_1_method_12_code 12 = .ok (.if_icmp .ge 36, 3) := by decide +kernel
theorem d_RC_read_15 : decode prog_1_method_12_code 15 = .ok (.aload_n 1, 1) := by decide +kernel
theorem d_RC_read_16 : decode prog_1_method_12_code 16 = .ok (.iload_n 3, 1) := by decide +kernel
theorem d_RC_read_17 : decode prog_1_method_12_code 17 = .ok (.aaload, 1) := by decide +kernel
theorem d_RC_read_18 : decode prog_1_method_12_code 18 = .ok (.astore 4, 2) := by decide +kernel
theorem d_RC_read_20 : decode prog_1_method_12_code 20 = .ok (.aload 4, 2) := by decide +kernel
theorem d_RC_read_22 : decode prog_1_method_12_code 22 = .ok (.ifnull 20, 3) := by decide +kernel
theorem d_RC_read_25 : decode prog_1_method_12_code 25 = .ok (.aload_n 0, 1) := by decide +kernel
theorem d_RC_read_26 : decode prog_1_method_12_code 26 = .ok (.getfield 23, 3) := by decide +kernel
theorem d_RC_read_29 : decode prog_1_method_12_code 29 = .ok (.aload 4, 2) := by decide +kernel
theorem d_RC_read_31 : decode prog_1_method_12_code 31 = .ok (.getfield 52, 3) := by decide +kernel
theorem d_RC_read_34 : decode prog_1_method_12_code 34 = .ok (.aload 4, 2) := by decide +kernel
theorem d_RC_read_36 : decode prog_1_method_12_code 36 = .ok (.getfield 44, 3) := by decide +kernel
theorem d_RC_read_39 : decode prog_1_method_12_code 39 = .ok (.invokevirtual 48, 3) := by decide +kernel
theorem d_RC_read_42 : decode prog_1_method_12_code 42 = .ok (.iinc 3 1, 3) := by decide +kernel
theorem d_RC_read_45 : decode prog_1_method_12_code 45 = .ok (.goto (-35), 3) := by decide +kernel
theorem d_RC_read_48 : decode prog_1_method_12_code 48 = .ok (.aload_n 0, 1) := by decide +kernel
theorem d_RC_read_49 : decode prog_1_method_12_code 49 = .ok (.iconst 1, 1) := by decide +kernel
theorem d_RC_read_50 : decode prog_1_method_12_code 50 = .ok (.putfield 70, 3) := by decide +kernel
theorem d_RC_read_53 : decode prog_1_method_12_code 53 = .ok (.aload_n 0, 1) := by decide +kernel
theorem d_RC_read_54 : decode prog_1_method_12_code 54 = .ok (.iconst 0, 1) := by decide +kernel
theorem d_RC_read_55 : decode prog_1_method_12_code 55 = .ok (.putfield 126, 3) := by decide +kernel
theorem d_RC_read_58 : decode prog_1_method_12_code 58 = .ok (.aload_n 0, 1) := by decide +kernel
theorem d_RC_read_59 : decode prog_1_method_12_code 59 = .ok (.aload_n 0, 1) := by decide +kernel
theorem d_RC_read_60 : decode prog_1_method_12_code 60 = .ok (.getfield 23, 3) := by decide +kernel
theorem d_RC_read_63 : decode prog_1_method_12_code 63 = .ok (.invokevirtual 135, 3) := by decide +kernel
theorem d_RC_read_66 : decode prog_1_method_12_code 66 = .ok (.ifCond .ne 7, 3) := by decide +kernel
theorem d_RC_read_69 : decode prog_1_method_12_code 69 = .ok (.iconst 1, 1) := by decide +kernel
theorem d_RC_read_70 : decode prog_1_method_12_code 70 = .ok (.goto 4, 3) := by decide +kernel
theorem d_RC_read_73 : decode prog_1_method_12_code 73 = .ok (.iconst 0, 1) := by decide +kernel
theorem d_RC_read_74 : decode prog_1_method_12_code 74 = .ok (.putfield 123, 3) := by decide +kernel
theorem d_RC_read_77 : decode prog_1_method_12_code 77 = .ok (.aload_n 0, 1) := by decide +kernel
theorem d_RC_read_78 : decode prog_1_method_12_code 78 = .ok (.getfield 23, 3) := by decide +kernel
theorem d_RC_read_81 : decode prog_1_method_12_code 81 = .ok (.getfield 107, 3) := by decide +kernel
theorem d_RC_read_84 : decode prog_1_method_12_code 84 = .ok (.getfield 95, 3) := by decide +kernel
theorem d_RC_read_87 : decode prog_1_method_12_code 87 = .ok (.ireturn, 1) := by decide +kernel
theorem d_Ranged_openReading_0 : decode prog_8_method_10_code 0 = .ok (.aload_n 0, 1) := by decide +kernel
theorem d_Ranged_openReading_1 : decode prog_8_method_10_code 1 = .ok (.aload_n 0, 1) := by decide +kernel
theorem d_Ranged_openReading_2 : decode prog_8_method_10_code 2 = .ok (.invokevirtual 60, 3) := by decide +kernel
theorem d_Ranged_openReading_5 : decode prog_8_method_10_code 5 = .ok (.putfield 64, 3) := by decide +kernel
theorem d_Ranged_openReading_8 : decode prog_8_method_10_code 8 = .ok (.aload_n 0, 1) := by decide +kernel
theorem d_Ranged_openReading_9 : decode prog_8_method_10_code 9 = .ok (.lconst 0, 1) := by decide +kernel
theorem d_Ranged_openReading_10 : decode prog_8_method_10_code 10 = .ok (.putfield 67, 3) := by decide +kernel
theorem d_Ranged_openReading_13 : decode prog_8_method_10_code 13 = .ok (.aload_n 0, 1) := by decide +kernel
theorem d_Ranged_openReading_14 : decode prog_8_method_10_code 14 = .ok (.ldc2_w 9, 3) := by decide +kernel
theorem d_Ranged_openReading_17 : decode prog_8_method_10_code 17 = .ok (.putfield 70, 3) := by decide +kernel
theorem d_Ranged_openReading_20 : decode prog_8_method_10_code 20 = .ok (.iconst 1, 1) := by decide +kernel
theorem d_Ranged_openReading_21 : decode prog_8_method_10_code 21 = .ok (.ireturn, 1) := by decide +kernel
theorem d_Coder_firstFourBytes_0 : decode prog_4_method_16_code 0 = .ok (.aload_n 0, 1) := by decide +kernel
theorem d_Coder_firstFourBytes_1 : decode prog_4_method_16_code 1 = .ok (.iconst 0, 1) := by decide +kernel
theorem d_Coder_firstFourBytes_2 : decode prog_4_method_16_code 2 = .ok (.putfield 31, 3) := by decide +kernel
theorem d_Coder_firstFourBytes_5 : decode prog_4_method_16_code 5 = .ok (.lconst 0, 1) := by decide +kernel
theorem d_Coder_firstFourBytes_6 : decode prog_4_method_16_code 6 = .ok (.lstore_n 1, 1) := by decide +kernel
theorem d_Coder_firstFourBytes_7 : decode prog_4_method_16_code 7 = .ok (.iconst 0, 1) := by decide +kernel
theorem d_Coder_firstFourBytes_8 : decode prog_4_method_16_code 8 = .ok (.istore_n 3, 1) := by decide +kernel
theorem d_Coder_firstFourBytes_9 : decode prog_4_method_16_code 9 = .ok (.iload_n 3, 1) := by decide +kernel
theorem d_Coder_firstFourBytes_10 : decode prog_4_method_16_code 10 = .ok (.iconst 4, 1) := by decide +kernel
theorem d_Coder_firstFourBytes_11 : decode prog_4_method_16_code 11 = .ok (.if_icmp .ge 20, 3) := by decide +kernel
theorem d_Coder_firstFourBytes_14 : decode prog_4_method_16_code 14 = .ok (.lload_n 1, 1) := by decide +kernel
theorem d_Coder_firstFourBytes_15 : decode prog_4_method_16_code 15 = .ok (.bipush 8, 2) := by decide +kernel
theorem d_Coder_firstFourBytes_17 : decode prog_4_method_16_code 17 = .ok (.lshl, 1) := by decide +kernel
theorem d_Coder_firstFourBytes_18 : decode prog_4_method_16_code 18 = .ok (.aload_n 0, 1) := by decide +kernel
theorem d_Coder_firstFourBytes_19 : decode prog_4_method_16_code 19 = .ok (.invokevirtual 40, 3) := by decide +kernel
theorem d_Coder_firstFourBytes_22 : decode prog_4_method_16_code 22 = .ok (.i2l, 1) := by decide +kernel
theorem d_Coder_firstFourBytes_23 : decode prog_4_method_16_code 23 = .ok (.lor, 1) := by decide +kernel
theorem d_Coder_firstFourBytes_24 : decode prog_4_method_16_code 24 = .ok (.lstore_n 1, 1) := by decide +kernel
theorem d_Coder_firstFourBytes_25 : decode prog_4_method_16_code 25 = .ok (.iinc 3 1, 3) := by decide +kernel
theorem d_Coder_firstFourBytes_28 : decode prog_4_method_16_code 28 = .ok (.goto (-19), 3) := by decide +kernel
theorem d_Coder_firstFourBytes_31 : decode prog_4_method_16_code 31 = .ok (.lload_n 1, 1) := by decide +kernel
theorem d_Coder_firstFourBytes_32 : decode prog_4_method_16_code 32 = .ok (.lreturn, 1) := by decide +kernel
theorem d_Coder_nextByte_0 : decode prog_4_method_15_code 0 = .ok (.aload_n 0, 1) := by decide +kernel
theorem d_Coder_nextByte_1 : decode prog_4_method_15_code 1 = .ok (.getfield 10, 3) := by decide +kernel
theorem d_Coder_nextByte_4 : decode prog_4_method_15_code 4 = .ok (.aload_n 0, 1) := by decide +kernel
theorem d_Coder_nextByte_5 : decode prog_4_method_15_code 5 = .ok (.getfield 31, 3) := by decide +kernel
theorem d_Coder_nextByte_8 : decode prog_4_method_15_code 8 = .ok (.invokevirtual 35, 3) := by decide +kernel
theorem d_Coder_nextByte_11 : decode prog_4_method_15_code 11 = .ok (.ifCond .eq 17, 3) := by decide +kernel
theorem d_Coder_nextByte_14 : decode prog_4_method_15_code 14 = .ok (.aload_n 0, 1) := by decide +kernel
theorem d_Coder_nextByte_15 : decode prog_4_method_15_code 15 = .ok (.getfield 10, 3) := by decide +kernel
theorem d_Coder_nextByte_18 : decode prog_4_method_15_code 18 = .ok (.aload_n 0, 1) := by decide +kernel
theorem d_Coder_nextByte_19 : decode prog_4_method_15_code 19 = .ok (.getfield 31, 3) := by decide +kernel
theorem d_Coder_nextByte_22 : decode prog_4_method_15_code 22 = .ok (.invokevirtual 39, 3) := by decide +kernel
theorem d_Coder_nextByte_25 : decode prog_4_method_15_code 25 = .ok (.goto 4, 3) := by decide +kernel
theorem d_Coder_nextByte_28 : decode prog_4_method_15_code 28 = .ok (.iconst 0, 1) := by decide +kernel
theorem d_Coder_nextByte_29 : decode prog_4_method_15_code 29 = .ok (.istore_n 1, 1) := by decide +kernel
theorem d_Coder_nextByte_30 : decode prog_4_method_15_code 30 = .ok (.aload_n 0, 1) := by decide +kernel
theorem d_Coder_nextByte_31 : decode prog_4_method_15_code 31 = .ok (.dup, 1) := by decide +kernel
theorem d_Coder_nextByte_32 : decode prog_4_method_15_code 32 = .ok (.getfield 31, 3) := by decide +kernel
theorem d_Coder_nextByte_35 : decode prog_4_method_15_code 35 = .ok (.iconst 1, 1) := by decide +kernel
theorem d_Coder_nextByte_36 : decode prog_4_method_15_code 36 = .ok (.iadd, 1) := by decide +kernel
theorem d_Coder_nextByte_37 : decode prog_4_method_15_code 37 = .ok (.putfield 31, 3) := by decide +kernel
theorem d_Coder_nextByte_40 : decode prog_4_method_15_code 40 = .ok (.iload_n 1, 1) := by decide +kernel
theorem d_Coder_nextByte_41 : decode prog_4_method_15_code 41 = .ok (.ireturn, 1) := by decide +kernel
theorem d_Stack_openReading_0 : decode prog_10_method_7_code 0 = .ok (.aload_n 0, 1) := by decide +kernel
theorem d_Stack_openReading_1 : decode prog_10_method_7_code 1 = .ok (.aload_n 0, 1) := by decide +kernel
theorem d_Stack_openReading_2 : decode prog_10_method_7_code 2 = .ok (.invokevirtual 50, 3) := by decide +kernel
theorem d_Stack_openReading_5 : decode prog_10_method_7_code 5 = .ok (.putfield 54, 3) := by decide +kernel
theorem d_Stack_openReading_8 : decode prog_10_method_7_code 8 = .ok (.aload_n 0, 1) := by decide +kernel
theorem d_Stack_openReading_9 : decode prog_10_method_7_code 9 = .ok (.getfield 54, 3) := by decide +kernel
theorem d_Stack_openReading_12 : decode prog_10_method_7_code 12 = .ok (.ldc2_w 17, 3) := by decide +kernel
theorem d_Stack_openReading_15 : decode prog_10_method_7_code 15 = .ok (.lcmp, 1) := by decide +kernel
theorem d_Stack_openReading_16 : decode prog_10_method_7_code 16 = .ok (.ifCond .lt 7, 3) := by decide +kernel
theorem d_Stack_openReading_19 : decode prog_10_method_7_code 19 = .ok (.iconst 1, 1) := by decide +kernel
theorem d_Stack_openReading_20 : decode prog_10_method_7_code 20 = .ok (.goto 4, 3) := by decide +kernel
theorem d_Stack_openReading_23 : decode prog_10_method_7_code 23 = .ok (.iconst 0, 1) := by decide +kernel
theorem d_Stack_openReading_24 : decode prog_10_method_7_code 24 = .ok (.ireturn, 1) := by decide +kernel
theorem d_Table_openReading_0 : decode prog_12_method_10_code 0 = .ok (.aload_n 0, 1) := by decide +kernel
theorem d_Table_openReading_1 : decode prog_12_method_10_code 1 = .ok (.iconst 0, 1) := by decide +kernel
theorem d_Table_openReading_2 : decode prog_12_method_10_code 2 = .ok (.putfield 23, 3) := by decide +kernel
theorem d_Table_openReading_5 : decode prog_12_method_10_code 5 = .ok (.aload_n 0, 1) := by decide +kernel
theorem d_Table_openReading_6 : decode prog_12_method_10_code 6 = .ok (.sipush 512, 3) := by decide +kernel
theorem d_Table_openReading_9 : decode prog_12_method_10_code 9 = .ok (.aload_n 0, 1) := by decide +kernel
theorem d_Table_openReading_10 : decode prog_12_method_10_code 10 = .ok (.bipush 9, 2) := by decide +kernel
theorem d_Table_openReading_12 : decode prog_12_method_10_code 12 = .ok (.invokevirtual 69, 3) := by decide +kernel
theorem d_Table_openReading_15 : decode prog_12_method_10_code 15 = .ok (.iadd, 1) := by decide +kernel
theorem d_Table_openReading_16 : decode prog_12_method_10_code 16 = .ok (.i2l, 1) := by decide +kernel
theorem d_Table_openReading_17 : decode prog_12_method_10_code 17 = .ok (.putfield 72, 3) := by decide +kernel
theorem d_Table_openReading_20 : decode prog_12_method_10_code 20 = .ok (.iconst 1, 1) := by decide +kernel
theorem d_Table_openReading_21 : decode prog_12_method_10_code 21 = .ok (.ireturn, 1) := by decide +kernel
theorem d_Table_nextValue_0 : decode prog_12_method_12_code 0 = .ok (.iconst 0, 1) := by decide +kernel
theorem d_Table_nextValue_1 : decode prog_12_method_12_code 1 = .ok (.istore_n 2, 1) := by decide +kernel
theorem d_Table_nextValue_2 : decode prog_12_method_12_code 2 = .ok (.iconst 0, 1) := by decide +kernel
theorem d_Table_nextValue_3 : decode prog_12_method_12_code 3 = .ok (.istore_n 3, 1) := by decide +kernel
theorem d_Table_nextValue_4 : decode prog_12_method_12_code 4 = .ok (.iload_n 3, 1) := by decide +kernel
theorem d_Table_nextValue_5 : decode prog_12_method_12_code 5 = .ok (.iload_n 1, 1) := by decide +kernel
theorem d_Table_nextValue_6 : decode prog_12_method_12_code 6 = .ok (.if_icmp .ge 18, 3) := by decide +kernel
theorem d_Table_nextValue_9 : decode prog_12_method_12_code 9 = .ok (.iconst 2, 1) := by decide +kernel
theorem d_Table_nextValue_10 : decode prog_12_method_12_code 10 = .ok (.iload_n 2, 1) := by decide +kernel
theorem d_Table_nextValue_11 : decode prog_12_method_12_code 11 = .ok (.imul, 1) := by decide +kernel
theorem d_Table_nextValue_12 : decode prog_12_method_12_code 12 = .ok (.aload_n 0, 1) := by decide +kernel
theorem d_Table_nextValue_13 : decode prog_12_method_12_code 13 = .ok (.invokevirtual 84, 3) := by decide +kernel
theorem d_Table_nextValue_16 : decode prog_12_method_12_code 16 = .ok (.iadd, 1) := by decide +kernel
theorem d_Table_nextValue_17 : decode prog_12_method_12_code 17 = .ok (.istore_n 2, 1) := by decide +kernel
theorem d_Table_nextValue_18 : decode prog_12_method_12_code 18 = .ok (.iinc 3 1, 3) := by decide +kernel
theorem d_Table_nextValue_21 : decode prog_12_method_12_code 21 = .ok (.goto (-17), 3) := by decide +kernel
theorem d_Table_nextValue_24 : decode prog_12_method_12_code 24 = .ok (.iload_n 2, 1) := by decide +kernel
theorem d_Table_nextValue_25 : decode prog_12_method_12_code 25 = .ok (.ireturn, 1) := by decide +kernel
theorem d_Table_nextInBit_0 : decode prog_12_method_14_code 0 = .ok (.aload_n 0, 1) := by decide +kernel
theorem d_Table_nextInBit_1 : decode prog_12_method_14_code 1 = .ok (.getfield 23, 3) := by decide +kernel
theorem d_Table_nextInBit_4 : decode prog_12_method_14_code 4 = .ok (.bipush 8, 2) := by decide +kernel
theorem d_Table_nextInBit_6 : decode prog_12_method_14_code 6 = .ok (.idiv, 1) := by decide +kernel
theorem d_Table_nextInBit_7 : decode prog_12_method_14_code 7 = .ok (.istore_n 1, 1) := by decide +kernel
theorem d_Table_nextInBit_8 : decode prog_12_method_14_code 8 = .ok (.aload_n 0, 1) := by decide +kernel
theorem d_Table_nextInBit_9 : decode prog_12_method_14_code 9 = .ok (.getfield 93, 3) := by decide +kernel
theorem d_Table_nextInBit_12 : decode prog_12_method_14_code 12 = .ok (.iload_n 1, 1) := by decide +kernel
theorem d_Table_nextInBit_13 : decode prog_12_method_14_code 13 = .ok (.invokevirtual 88, 3) := by decide +kernel
theorem d_Table_nextInBit_16 : decode prog_12_method_14_code 16 = .ok (.ifCond .eq 27, 3) := by decide +kernel
theorem d_Table_nextInBit_19 : decode prog_12_method_14_code 19 = .ok (.aload_n 0, 1) := by decide +kernel
theorem d_Table_nextInBit_20 : decode prog_12_method_14_code 20 = .ok (.getfield 93, 3) := by decide +kernel
theorem d_Table_nextInBit_23 : decode prog_12_method_14_code 23 = .ok (.iload_n 1, 1) := by decide +kernel
theorem d_Table_nextInBit_24 : decode prog_12_method_14_code 24 = .ok (.invokevirtual 92, 3) := by decide +kernel
theorem d_Table_nextInBit_27 : decode prog_12_method_14_code 27 = .ok (.bipush 7, 2) := by decide +kernel
theorem d_Table_nextInBit_29 : decode prog_12_method_14_code 29 = .ok (.aload_n 0, 1) := by decide +kernel
theorem d_Table_nextInBit_30 : decode prog_12_method_14_code 30 = .ok (.getfield 23, 3) := by decide +kernel
theorem d_Table_nextInBit_33 : decode prog_12_method_14_code 33 = .ok (.bipush 8, 2) := by decide +kernel
theorem d_Table_nextInBit_35 : decode prog_12_method_14_code 35 = .ok (.irem, 1) := by decide +kernel
theorem d_Table_nextInBit_36 : decode prog_12_method_14_code 36 = .ok (.isub, 1) := by decide +kernel
theorem d_Table_nextInBit_37 : decode prog_12_method_14_code 37 = .ok (.iushr, 1) := by decide +kernel
theorem d_Table_nextInBit_38 : decode prog_12_method_14_code 38 = .ok (.iconst 1, 1) := by decide +kernel
theorem d_Table_nextInBit_39 : decode prog_12_method_14_code 39 = .ok (.iand, 1) := by decide +kernel
theorem d_Table_nextInBit_40 : decode prog_12_method_14_code 40 = .ok (.goto 4, 3) := by decide +kernel
theorem d_Table_nextInBit_43 : decode prog_12_method_14_code 43 = .ok (.iconst 0, 1) := by decide +kernel
theorem d_Table_nextInBit_44 : decode prog_12_method_14_code 44 = .ok (.istore_n 2, 1) := by decide +kernel
theorem d_Table_nextInBit_45 : decode prog_12_method_14_code 45 = .ok (.aload_n 0, 1) := by decide +kernel
theorem d_Table_nextInBit_46 : decode prog_12_method_14_code 46 = .ok (.dup, 1) := by decide +kernel
theorem d_Table_nextInBit_47 : decode prog_12_method_14_code 47 = .ok (.getfield 23, 3) := by decide +kernel
theorem d_Table_nextInBit_50 : decode prog_12_method_14_code 50 = .ok (.iconst 1, 1) := by decide +kernel
theorem d_Table_nextInBit_51 : decode prog_12_method_14_code 51 = .ok (.iadd, 1) := by decide +kernel
theorem d_Table_nextInBit_52 : decode prog_12_method_14_code 52 = .ok (.putfield 23, 3) := by decide +kernel
theorem d_Table_nextInBit_55 : decode prog_12_method_14_code 55 = .ok (.iload_n 2, 1) := by decide +kernel
theorem d_Table_nextInBit_56 : decode prog_12_method_14_code 56 = .ok (.ireturn, 1) := by decide +kernel
theorem d_RC_get_0 : decode prog_1_method_13_code 0 = .ok (.aload_n 0, 1) := by decide +kernel
theorem d_RC_get_1 : decode prog_1_method_13_code 1 = .ok (.iload_n 1, 1) := by decide +kernel
theorem d_RC_get_2 : decode prog_1_method_13_code 2 = .ok (.invokevirtual 55, 3) := by decide +kernel
theorem d_RC_get_5 : decode prog_1_method_13_code 5 = .ok (.astore_n 2, 1) := by decide +kernel
theorem d_RC_get_6 : decode prog_1_method_13_code 6 = .ok (.aload_n 2, 1) := by decide +kernel
theorem d_RC_get_7 : decode prog_1_method_13_code 7 = .ok (.ifnonnull 5, 3) := by decide +kernel
theorem d_RC_get_10 : decode prog_1_method_13_code 10 = .ok (.iconst (-1), 1) := by decide +kernel
theorem d_RC_get_11 : decode prog_1_method_13_code 11 = .ok (.ireturn, 1) := by decide +kernel
theorem d_RC_get_12 : decode prog_1_method_13_code 12 = .ok (.aload_n 0, 1) := by decide +kernel
theorem d_RC_get_13 : decode prog_1_method_13_code 13 = .ok (.getfield 70, 3) := by decide +kernel
theorem d_RC_get_16 : decode prog_1_method_13_code 16 = .ok (.ifCond .ne 6, 3) := by decide +kernel
theorem d_RC_get_19 : decode prog_1_method_13_code 19 = .ok (.bipush (-3), 2) := by decide +kernel
theorem d_RC_get_21 : decode prog_1_method_13_code 21 = .ok (.ireturn, 1) := by decide +kernel
theorem d_RC_get_22 : decode prog_1_method_13_code 22 = .ok (.aload_n 0, 1) := by decide +kernel
theorem d_RC_get_23 : decode prog_1_method_13_code 23 = .ok (.getfield 123, 3) := by decide +kernel
theorem d_RC_get_26 : decode prog_1_method_13_code 26 = .ok (.ifCond .eq 8, 3) := by decide +kernel
theorem d_RC_get_29 : decode prog_1_method_13_code 29 = .ok (.bipush (-5), 2) := by decide +kernel
theorem d_RC_get_31 : decode prog_1_method_13_code 31 = .ok (.goto 18, 3) := by decide +kernel
theorem d_RC_get_34 : decode prog_1_method_13_code 34 = .ok (.aload_n 0, 1) := by decide +kernel
theorem d_RC_get_35 : decode prog_1_method_13_code 35 = .ok (.aload_n 0, 1) := by decide +kernel
theorem d_RC_get_36 : decode prog_1_method_13_code 36 = .ok (.getfield 23, 3) := by decide +kernel
theorem d_RC_get_39 : decode prog_1_method_13_code 39 = .ok (.aload_n 2, 1) := by decide +kernel
theorem d_RC_get_40 : decode prog_1_method_13_code 40 = .ok (.getfield 52, 3) := by decide +kernel
theorem d_RC_get_43 : decode prog_1_method_13_code 43 = .ok (.invokevirtual 139, 3) := by decide +kernel
theorem d_RC_get_46 : decode prog_1_method_13_code 46 = .ok (.invokevirtual 143, 3) := by decide +kernel
theorem d_RC_get_49 : decode prog_1_method_13_code 49 = .ok (.ireturn, 1) := by decide +kernel
theorem d_Bits_nextSign_0 : decode prog_2_method_7_code 0 = .ok (.aload_n 0, 1) := by decide +kernel
theorem d_Bits_nextSign_1 : decode prog_2_method_7_code 1 = .ok (.getfield 45, 3) := by decide +kernel
theorem d_Bits_nextSign_4 : decode prog_2_method_7_code 4 = .ok (.aload_n 0, 1) := by decide +kernel
theorem d_Bits_nextSign_5 : decode prog_2_method_7_code 5 = .ok (.getfield 48, 3) := by decide +kernel
theorem d_Bits_nextSign_8 : decode prog_2_method_7_code 8 = .ok (.lcmp, 1) := by decide +kernel
theorem d_Bits_nextSign_9 : decode prog_2_method_7_code 9 = .ok (.ifCond .lt 5, 3) := by decide +kernel
theorem d_Bits_nextSign_12 : decode prog_2_method_7_code 12 = .ok (.iconst (-1), 1) := by decide +kernel
theorem d_Bits_nextSign_13 : decode prog_2_method_7_code 13 = .ok (.ireturn, 1) := by decide +kernel
theorem d_Bits_nextSign_14 : decode prog_2_method_7_code 14 = .ok (.aload_n 0, 1) := by decide +kernel
theorem d_Bits_nextSign_15 : decode prog_2_method_7_code 15 = .ok (.invokevirtual 51, 3) := by decide +kernel
theorem d_Bits_nextSign_18 : decode prog_2_method_7_code 18 = .ok (.aload_n 1, 1) := by decide +kernel
theorem d_Bits_nextSign_19 : decode prog_2_method_7_code 19 = .ok (.getfield 28, 3) := by decide +kernel
theorem d_Bits_nextSign_22 : decode prog_2_method_7_code 22 = .ok (.invokestatic 17, 3) := by decide +kernel
theorem d_Bits_nextSign_25 : decode prog_2_method_7_code 25 = .ok (.istore_n 2, 1) := by decide +kernel
theorem d_Bits_nextSign_26 : decode prog_2_method_7_code 26 = .ok (.iconst 1, 1) := by decide +kernel
theorem d_Bits_nextSign_27 : decode prog_2_method_7_code 27 = .ok (.istore_n 3, 1) := by decide +kernel
theorem d_Bits_nextSign_28 : decode prog_2_method_7_code 28 = .ok (.iconst 0, 1) := by decide +kernel
theorem d_Bits_nextSign_29 : decode prog_2_method_7_code 29 = .ok (.istore 4, 2) := by decide +kernel
theorem d_Bits_nextSign_31 : decode prog_2_method_7_code 31 = .ok (.iload 4, 2) := by decide +kernel
theorem d_Bits_nextSign_33 : decode prog_2_method_7_code 33 = .ok (.iload_n 2, 1) := by decide +kernel
theorem d_Bits_nextSign_34 : decode prog_2_method_7_code 34 = .ok (.if_icmp .ge 20, 3) := by decide +kernel
theorem d_Bits_nextSign_37 : decode prog_2_method_7_code 37 = .ok (.iconst 2, 1) := by decide +kernel
theorem d_Bits_nextSign_38 : decode prog_2_method_7_code 38 = .ok (.iload_n 3, 1) := by decide +kernel
theorem d_Bits_nextSign_39 : decode prog_2_method_7_code 39 = .ok (.imul, 1) := by decide +kernel
theorem d_Bits_nextSign_40 : decode prog_2_method_7_code 40 = .ok (.aload_n 0, 1) := by decide +kernel
theorem d_Bits_nextSign_41 : decode prog_2_method_7_code 41 = .ok (.aload_n 1, 1) := by decide +kernel
theorem d_Bits_nextSign_42 : decode prog_2_method_7_code 42 = .ok (.iload_n 3, 1) := by decide +kernel
theorem d_Bits_nextSign_43 : decode prog_2_method_7_code 43 = .ok (.invokevirtual 54, 3) := by decide +kernel
theorem d_Bits_nextSign_46 : decode prog_2_method_7_code 46 = .ok (.iadd, 1) := by decide +kernel
theorem d_Bits_nextSign_47 : decode prog_2_method_7_code 47 = .ok (.istore_n 3, 1) := by decide +kernel
theorem d_Bits_nextSign_48 : decode prog_2_method_7_code 48 = .ok (.iinc 4 1, 3) := by decide +kernel
theorem d_Bits_nextSign_51 : decode prog_2_method_7_code 51 = .ok (.goto (-20), 3) := by decide +kernel
theorem d_Bits_nextSign_54 : decode prog_2_method_7_code 54 = .ok (.iload_n 3, 1) := by decide +kernel
theorem d_Bits_nextSign_55 : decode prog_2_method_7_code 55 = .ok (.iconst 1, 1) := by decide +kernel
theorem d_Bits_nextSign_56 : decode prog_2_method_7_code 56 = .ok (.iload_n 2, 1) := by decide +kernel
theorem d_Bits_nextSign_57 : decode prog_2_method_7_code 57 = .ok (.ishl, 1) := by decide +kernel
theorem d_Bits_nextSign_58 : decode prog_2_method_7_code 58 = .ok (.isub, 1) := by decide +kernel
theorem d_Bits_nextSign_59 : decode prog_2_method_7_code 59 = .ok (.istore 4, 2) := by decide +kernel
theorem d_Bits_nextSign_61 : decode prog_2_method_7_code 61 = .ok (.iload 4, 2) := by decide +kernel
theorem d_Bits_nextSign_63 : decode prog_2_method_7_code 63 = .ok (.aload_n 1, 1) := by decide +kernel
theorem d_Bits_nextSign_64 : decode prog_2_method_7_code 64 = .ok (.getfield 28, 3) := by decide +kernel
theorem d_Bits_nextSign_67 : decode prog_2_method_7_code 67 = .ok (.if_icmp .ge 8, 3) := by decide +kernel
theorem d_Bits_nextSign_70 : decode prog_2_method_7_code 70 = .ok (.iload 4, 2) := by decide +kernel
theorem d_Bits_nextSign_72 : decode prog_2_method_7_code 72 = .ok (.goto 7, 3) := by decide +kernel
theorem d_Bits_nextSign_75 : decode prog_2_method_7_code 75 = .ok (.aload_n 0, 1) := by decide +kernel
theorem d_Bits_nextSign_76 : decode prog_2_method_7_code 76 = .ok (.invokevirtual 58, 3) := by decide +kernel
theorem d_Bits_nextSign_79 : decode prog_2_method_7_code 79 = .ok (.ireturn, 1) := by decide +kernel
theorem d_Bits_keepReading_0 : decode prog_2_method_13_code 0 = .ok (.aload_n 0, 1) := by decide +kernel
theorem d_Bits_keepReading_1 : decode prog_2_method_13_code 1 = .ok (.aload_n 0, 1) := by decide +kernel
theorem d_Bits_keepReading_2 : decode prog_2_method_13_code 2 = .ok (.getfield 45, 3) := by decide +kernel
theorem d_Bits_keepReading_5 : decode prog_2_method_13_code 5 = .ok (.putfield 75, 3) := by decide +kernel
theorem d_Bits_keepReading_8 : decode prog_2_method_13_code 8 = .ok (.aload_n 0, 1) := by decide +kernel
theorem d_Bits_keepReading_9 : decode prog_2_method_13_code 9 = .ok (.aload_n 0, 1) := by decide +kernel
theorem d_Bits_keepReading_10 : decode prog_2_method_13_code 10 = .ok (.getfield 48, 3) := by decide +kernel
theorem d_Bits_keepReading_13 : decode prog_2_method_13_code 13 = .ok (.putfield 78, 3) := by decide +kernel
theorem d_Bits_keepReading_16 : decode prog_2_method_13_code 16 = .ok (.aload_n 0, 1) := by decide +kernel
theorem d_Bits_keepReading_17 : decode prog_2_method_13_code 17 = .ok (.aload_n 0, 1) := by decide +kernel
theorem d_Bits_keepReading_18 : decode prog_2_method_13_code 18 = .ok (.getfield 81, 3) := by decide +kernel
theorem d_Bits_keepReading_21 : decode prog_2_method_13_code 21 = .ok (.putfield 84, 3) := by decide +kernel
theorem d_Bits_keepReading_24 : decode prog_2_method_13_code 24 = .ok (.return_, 1) := by decide +kernel
theorem d_Bits_nextBit_0 : decode prog_2_method_11_code 0 = .ok (.aload_n 0, 1) := by decide +kernel
theorem d_Bits_nextBit_1 : decode prog_2_method_11_code 1 = .ok (.getfield 48, 3) := by decide +kernel
theorem d_Bits_nextBit_4 : decode prog_2_method_11_code 4 = .ok (.bipush 11, 2) := by decide +kernel
theorem d_Bits_nextBit_6 : decode prog_2_method_11_code 6 = .ok (.lushr, 1) := by decide +kernel
theorem d_Bits_nextBit_7 : decode prog_2_method_11_code 7 = .ok (.aload_n 1, 1) := by decide +kernel
theorem d_Bits_nextBit_8 : decode prog_2_method_11_code 8 = .ok (.iload_n 2, 1) := by decide +kernel
theorem d_Bits_nextBit_9 : decode prog_2_method_11_code 9 = .ok (.invokevirtual 65, 3) := by decide +kernel
theorem d_Bits_nextBit_12 : decode prog_2_method_11_code 12 = .ok (.i2l, 1) := by decide +kernel
theorem d_Bits_nextBit_13 : decode prog_2_method_11_code 13 = .ok (.lmul, 1) := by decide +kernel
theorem d_Bits_nextBit_14 : decode prog_2_method_11_code 14 = .ok (.lstore_n 3, 1) := by decide +kernel
theorem d_Bits_nextBit_15 : decode prog_2_method_11_code 15 = .ok (.aload_n 0, 1) := by decide +kernel
theorem d_Bits_nextBit_16 : decode prog_2_method_11_code 16 = .ok (.getfield 45, 3) := by decide +kernel
theorem d_Bits_nextBit_19 : decode prog_2_method_11_code 19 = .ok (.lload_n 3, 1) := by decide +kernel
theorem d_Bits_nextBit_20 : decode prog_2_method_11_code 20 = .ok (.lcmp, 1) := by decide +kernel
theorem d_Bits_nextBit_21 : decode prog_2_method_11_code 21 = .ok (.ifCond .ge 7, 3) := by decide +kernel
theorem d_Bits_nextBit_24 : decode prog_2_method_11_code 24 = .ok (.iconst 0, 1) := by decide +kernel
theorem d_Bits_nextBit_25 : decode prog_2_method_11_code 25 = .ok (.goto 4, 3) := by decide +kernel
theorem d_Bits_nextBit_28 : decode prog_2_method_11_code 28 = .ok (.iconst 1, 1) := by decide +kernel
theorem d_Bits_nextBit_29 : decode prog_2_method_11_code 29 = .ok (.istore 5, 2) := by decide +kernel
theorem d_Bits_nextBit_31 : decode prog_2_method_11_code 31 = .ok (.iload 5, 2) := by decide +kernel
theorem d_Bits_nextBit_33 : decode prog_2_method_11_code 33 = .ok (.ifCond .ne 11, 3) := by decide +kernel
theorem d_Bits_nextBit_36 : decode prog_2_method_11_code 36 = .ok (.aload_n 0, 1) := by decide +kernel
theorem d_Bits_nextBit_37 : decode prog_2_method_11_code 37 = .ok (.lload_n 3, 1) := by decide +kernel
theorem d_Bits_nextBit_38 : decode prog_2_method_11_code 38 = .ok (.putfield 48, 3) := by decide +kernel
theorem d_Bits_nextBit_41 : decode prog_2_method_11_code 41 = .ok (.goto 23, 3) := by decide +kernel
theorem d_Bits_nextBit_44 : decode prog_2_method_11_code 44 = .ok (.aload_n 0, 1) := by decide +kernel
theorem d_Bits_nextBit_45 : decode prog_2_method_11_code 45 = .ok (.dup, 1) := by decide +kernel
theorem d_Bits_nextBit_46 : decode prog_2_method_11_code 46 = .ok (.getfield 45, 3) := by decide +kernel
theorem d_Bits_nextBit_49 : decode prog_2_method_11_code 49 = .ok (.lload_n 3, 1) := by decide +kernel
theorem d_Bits_nextBit_50 : decode prog_2_method_11_code 50 = .ok (.lsub, 1) := by decide +kernel
theorem d_Bits_nextBit_51 : decode prog_2_method_11_code 51 = .ok (.putfield 45, 3) := by decide +kernel
theorem d_Bits_nextBit_54 : decode prog_2_method_11_code 54 = .ok (.aload_n 0, 1) := by decide +kernel
theorem d_Bits_nextBit_55 : decode prog_2_method_11_code 55 = .ok (.dup, 1) := by decide +kernel
theorem d_Bits_nextBit_56 : decode prog_2_method_11_code 56 = .ok (.getfield 48, 3) := by decide +kernel
theorem d_Bits_nextBit_59 : decode prog_2_method_11_code 59 = .ok (.lload_n 3, 1) := by decide +kernel
theorem d_Bits_nextBit_60 : decode prog_2_method_11_code 60 = .ok (.lsub, 1) := by decide +kernel
theorem d_Bits_nextBit_61 : decode prog_2_method_11_code 61 = .ok (.putfield 48, 3) := by decide +kernel
theorem d_Bits_nextBit_64 : decode prog_2_method_11_code 64 = .ok (.aload_n 0, 1) := by decide +kernel
theorem d_Bits_nextBit_65 : decode prog_2_method_11_code 65 = .ok (.aload_n 1, 1) := by decide +kernel
theorem d_Bits_nextBit_66 : decode prog_2_method_11_code 66 = .ok (.iload_n 2, 1) := by decide +kernel
theorem d_Bits_nextBit_67 : decode prog_2_method_11_code 67 = .ok (.iload 5, 2) := by decide +kernel
theorem d_Bits_nextBit_69 : decode prog_2_method_11_code 69 = .ok (.invokevirtual 68, 3) := by decide +kernel
theorem d_Bits_nextBit_72 : decode prog_2_method_11_code 72 = .ok (.aload_n 0, 1) := by decide +kernel
theorem d_Bits_nextBit_73 : decode prog_2_method_11_code 73 = .ok (.invokevirtual 62, 3) := by decide +kernel
theorem d_Bits_nextBit_76 : decode prog_2_method_11_code 76 = .ok (.iload 5, 2) := by decide +kernel
theorem d_Bits_nextBit_78 : decode prog_2_method_11_code 78 = .ok (.ireturn, 1) := by decide +kernel
theorem d_Carries_widenReading_0 : decode prog_3_method_7_code 0 = .ok (.iconst 0, 1) := by decide +kernel
theorem d_Carries_widenReading_1 : decode prog_3_method_7_code 1 = .ok (.istore_n 1, 1) := by decide +kernel
theorem d_Carries_widenReading_2 : decode prog_3_method_7_code 2 = .ok (.iload_n 1, 1) := by decide +kernel
theorem d_Carries_widenReading_3 : decode prog_3_method_7_code 3 = .ok (.bipush 8, 2) := by decide +kernel
theorem d_Carries_widenReading_5 : decode prog_3_method_7_code 5 = .ok (.if_icmp .ge 56, 3) := by decide +kernel
theorem d_Carries_widenReading_8 : decode prog_3_method_7_code 8 = .ok (.aload_n 0, 1) := by decide +kernel
theorem d_Carries_widenReading_9 : decode prog_3_method_7_code 9 = .ok (.getfield 31, 3) := by decide +kernel
theorem d_Carries_widenReading_12 : decode prog_3_method_7_code 12 = .ok (.ldc2_w 43, 3) := by decide +kernel
theorem d_Carries_widenReading_15 : decode prog_3_method_7_code 15 = .ok (.lcmp, 1) := by decide +kernel
theorem d_Carries_widenReading_16 : decode prog_3_method_7_code 16 = .ok (.ifCond .ge 45, 3) := by decide +kernel
theorem d_Carries_widenReading_19 : decode prog_3_method_7_code 19 = .ok (.aload_n 0, 1) := by decide +kernel
theorem d_Carries_widenReading_20 : decode prog_3_method_7_code 20 = .ok (.aload_n 0, 1) := by decide +kernel
theorem d_Carries_widenReading_21 : decode prog_3_method_7_code 21 = .ok (.getfield 31, 3) := by decide +kernel
theorem d_Carries_widenReading_24 : decode prog_3_method_7_code 24 = .ok (.bipush 8, 2) := by decide +kernel
theorem d_Carries_widenReading_26 : decode prog_3_method_7_code 26 = .ok (.lshl, 1) := by decide +kernel
theorem d_Carries_widenReading_27 : decode prog_3_method_7_code 27 = .ok (.ldc2_w 45, 3) := by decide +kernel
theorem d_Carries_widenReading_30 : decode prog_3_method_7_code 30 = .ok (.land, 1) := by decide +kernel
theorem d_Carries_widenReading_31 : decode prog_3_method_7_code 31 = .ok (.putfield 31, 3) := by decide +kernel
theorem d_Carries_widenReading_34 : decode prog_3_method_7_code 34 = .ok (.aload_n 0, 1) := by decide +kernel
theorem d_Carries_widenReading_35 : decode prog_3_method_7_code 35 = .ok (.aload_n 0, 1) := by decide +kernel
theorem d_Carries_widenReading_36 : decode prog_3_method_7_code 36 = .ok (.getfield 34, 3) := by decide +kernel
theorem d_Carries_widenReading_39 : decode prog_3_method_7_code 39 = .ok (.bipush 8, 2) := by decide +kernel
theorem d_Carries_widenReading_41 : decode prog_3_method_7_code 41 = .ok (.lshl, 1) := by decide +kernel
theorem d_Carries_widenReading_42 : decode prog_3_method_7_code 42 = .ok (.aload_n 0, 1) := by decide +kernel
theorem d_Carries_widenReading_43 : decode prog_3_method_7_code 43 = .ok (.invokevirtual 47, 3) := by decide +kernel
theorem d_Carries_widenReading_46 : decode prog_3_method_7_code 46 = .ok (.i2l, 1) := by decide +kernel
theorem d_Carries_widenReading_47 : decode prog_3_method_7_code 47 = .ok (.lor, 1) := by decide +kernel
theorem d_Carries_widenReading_48 : decode prog_3_method_7_code 48 = .ok (.ldc2_w 45, 3) := by decide +kernel
theorem d_Carries_widenReading_51 : decode prog_3_method_7_code 51 = .ok (.land, 1) := by decide +kernel
theorem d_Carries_widenReading_52 : decode prog_3_method_7_code 52 = .ok (.putfield 34, 3) := by decide +kernel
theorem d_Carries_widenReading_55 : decode prog_3_method_7_code 55 = .ok (.iinc 1 1, 3) := by decide +kernel
theorem d_Carries_widenReading_58 : decode prog_3_method_7_code 58 = .ok (.goto (-56), 3) := by decide +kernel
theorem d_Carries_widenReading_61 : decode prog_3_method_7_code 61 = .ok (.return_, 1) := by decide +kernel
theorem d_Bits_undone_0 : decode prog_2_method_14_code 0 = .ok (.aload_n 0, 1) := by decide +kernel
theorem d_Bits_undone_1 : decode prog_2_method_14_code 1 = .ok (.aload_n 0, 1) := by decide +kernel
theorem d_Bits_undone_2 : decode prog_2_method_14_code 2 = .ok (.getfield 75, 3) := by decide +kernel
theorem d_Bits_undone_5 : decode prog_2_method_14_code 5 = .ok (.putfield 45, 3) := by decide +kernel
theorem d_Bits_undone_8 : decode prog_2_method_14_code 8 = .ok (.aload_n 0, 1) := by decide +kernel
theorem d_Bits_undone_9 : decode prog_2_method_14_code 9 = .ok (.aload_n 0, 1) := by decide +kernel
theorem d_Bits_undone_10 : decode prog_2_method_14_code 10 = .ok (.getfield 78, 3) := by decide +kernel
theorem d_Bits_undone_13 : decode prog_2_method_14_code 13 = .ok (.putfield 48, 3) := by decide +kernel
theorem d_Bits_undone_16 : decode prog_2_method_14_code 16 = .ok (.aload_n 0, 1) := by decide +kernel
theorem d_Bits_undone_17 : decode prog_2_method_14_code 17 = .ok (.aload_n 0, 1) := by decide +kernel
theorem d_Bits_undone_18 : decode prog_2_method_14_code 18 = .ok (.getfield 84, 3) := by decide +kernel
theorem d_Bits_undone_21 : decode prog_2_method_14_code 21 = .ok (.putfield 81, 3) := by decide +kernel
theorem d_Bits_undone_24 : decode prog_2_method_14_code 24 = .ok (.iconst (-1), 1) := by decide +kernel
theorem d_Bits_undone_25 : decode prog_2_method_14_code 25 = .ok (.ireturn, 1) := by decide +kernel
theorem d_Ranged_nextSign_0 : decode prog_8_method_11_code 0 = .ok (.aload_n 0, 1) := by decide +kernel
theorem d_Ranged_nextSign_1 : decode prog_8_method_11_code 1 = .ok (.aload_n 1, 1) := by decide +kernel
theorem d_Ranged_nextSign_2 : decode prog_8_method_11_code 2 = .ok (.getfield 42, 3) := by decide +kernel
theorem d_Ranged_nextSign_5 : decode prog_8_method_11_code 5 = .ok (.invokevirtual 73, 3) := by decide +kernel
theorem d_Ranged_nextSign_8 : decode prog_8_method_11_code 8 = .ok (.istore_n 2, 1) := by decide +kernel
theorem d_Ranged_nextSign_9 : decode prog_8_method_11_code 9 = .ok (.iload_n 2, 1) := by decide +kernel
theorem d_Ranged_nextSign_10 : decode prog_8_method_11_code 10 = .ok (.iconst (-1), 1) := by decide +kernel
theorem d_Ranged_nextSign_11 : decode prog_8_method_11_code 11 = .ok (.if_icmp .ne 7, 3) := by decide +kernel
theorem d_Ranged_nextSign_14 : decode prog_8_method_11_code 14 = .ok (.iconst (-1), 1) := by decide +kernel
theorem d_Ranged_nextSign_15 : decode prog_8_method_11_code 15 = .ok (.goto 8, 3) := by decide +kernel
theorem d_Ranged_nextSign_18 : decode prog_8_method_11_code 18 = .ok (.aload_n 1, 1) := by decide +kernel
theorem d_Ranged_nextSign_19 : decode prog_8_method_11_code 19 = .ok (.iload_n 2, 1) := by decide +kernel
theorem d_Ranged_nextSign_20 : decode prog_8_method_11_code 20 = .ok (.invokevirtual 76, 3) := by decide +kernel
theorem d_Ranged_nextSign_23 : decode prog_8_method_11_code 23 = .ok (.istore_n 3, 1) := by decide +kernel
theorem d_Ranged_nextSign_24 : decode prog_8_method_11_code 24 = .ok (.iload_n 3, 1) := by decide +kernel
theorem d_Ranged_nextSign_25 : decode prog_8_method_11_code 25 = .ok (.iconst (-1), 1) := by decide +kernel
theorem d_Ranged_nextSign_26 : decode prog_8_method_11_code 26 = .ok (.if_icmp .eq 26, 3) := by decide +kernel
theorem d_Ranged_nextSign_29 : decode prog_8_method_11_code 29 = .ok (.aload_n 0, 1) := by decide +kernel
theorem d_Ranged_nextSign_30 : decode prog_8_method_11_code 30 = .ok (.aload_n 1, 1) := by decide +kernel
theorem d_Ranged_nextSign_31 : decode prog_8_method_11_code 31 = .ok (.iload_n 3, 1) := by decide +kernel
theorem d_Ranged_nextSign_32 : decode prog_8_method_11_code 32 = .ok (.invokevirtual 35, 3) := by decide +kernel
theorem d_Ranged_nextSign_35 : decode prog_8_method_11_code 35 = .ok (.aload_n 1, 1) := by decide +kernel
theorem d_Ranged_nextSign_36 : decode prog_8_method_11_code 36 = .ok (.iload_n 3, 1) := by decide +kernel
theorem d_Ranged_nextSign_37 : decode prog_8_method_11_code 37 = .ok (.invokevirtual 39, 3) := by decide +kernel
theorem d_Ranged_nextSign_40 : decode prog_8_method_11_code 40 = .ok (.aload_n 1, 1) := by decide +kernel
theorem d_Ranged_nextSign_41 : decode prog_8_method_11_code 41 = .ok (.getfield 42, 3) := by decide +kernel
theorem d_Ranged_nextSign_44 : decode prog_8_method_11_code 44 = .ok (.invokevirtual 79, 3) := by decide +kernel
theorem d_Ranged_nextSign_47 : decode prog_8_method_11_code 47 = .ok (.aload_n 1, 1) := by decide +kernel
theorem d_Ranged_nextSign_48 : decode prog_8_method_11_code 48 = .ok (.iload_n 3, 1) := by decide +kernel
theorem d_Ranged_nextSign_49 : decode prog_8_method_11_code 49 = .ok (.invokevirtual 50, 3) := by decide +kernel
theorem d_Ranged_nextSign_52 : decode prog_8_method_11_code 52 = .ok (.iload_n 3, 1) := by decide +kernel
theorem d_Ranged_nextSign_53 : decode prog_8_method_11_code 53 = .ok (.ireturn, 1) := by decide +kernel
theorem d_Ranged_nextShare_0 : decode prog_8_method_14_code 0 = .ok (.iload_n 1, 1) := by decide +kernel
theorem d_Ranged_nextShare_1 : decode prog_8_method_14_code 1 = .ok (.ifCond .le 13, 3) := by decide +kernel
theorem d_Ranged_nextShare_4 : decode prog_8_method_14_code 4 = .ok (.aload_n 0, 1) := by decide +kernel
theorem d_Ranged_nextShare_5 : decode prog_8_method_14_code 5 = .ok (.getfield 70, 3) := by decide +kernel
theorem d_Ranged_nextShare_8 : decode prog_8_method_14_code 8 = .ok (.iload_n 1, 1) := by decide +kernel
theorem d_Ranged_nextShare_9 : decode prog_8_method_14_code 9 = .ok (.i2l, 1) := by decide +kernel
theorem d_Ranged_nextShare_10 : decode prog_8_method_14_code 10 = .ok (.ldiv, 1) := by decide +kernel
theorem d_Ranged_nextShare_11 : decode prog_8_method_14_code 11 = .ok (.goto 4, 3) := by decide +kernel
theorem d_Ranged_nextShare_14 : decode prog_8_method_14_code 14 = .ok (.lconst 0, 1) := by decide +kernel
theorem d_Ranged_nextShare_15 : decode prog_8_method_14_code 15 = .ok (.lstore_n 2, 1) := by decide +kernel
theorem d_Ranged_nextShare_16 : decode prog_8_method_14_code 16 = .ok (.lload_n 2, 1) := by decide +kernel
theorem d_Ranged_nextShare_17 : decode prog_8_method_14_code 17 = .ok (.lconst 0, 1) := by decide +kernel
theorem d_Ranged_nextShare_18 : decode prog_8_method_14_code 18 = .ok (.lcmp, 1) := by decide +kernel
theorem d_Ranged_nextShare_19 : decode prog_8_method_14_code 19 = .ok (.ifCond .gt 5, 3) := by decide +kernel
theorem d_Ranged_nextShare_22 : decode prog_8_method_14_code 22 = .ok (.iconst (-1), 1) := by decide +kernel
theorem d_Ranged_nextShare_23 : decode prog_8_method_14_code 23 = .ok (.ireturn, 1) := by decide +kernel
theorem d_Ranged_nextShare_24 : decode prog_8_method_14_code 24 = .ok (.aload_n 0, 1) := by decide +kernel
theorem d_Ranged_nextShare_25 : decode prog_8_method_14_code 25 = .ok (.getfield 64, 3) := by decide +kernel
theorem d_Ranged_nextShare_28 : decode prog_8_method_14_code 28 = .ok (.aload_n 0, 1) := by decide +kernel
theorem d_Ranged_nextShare_29 : decode prog_8_method_14_code 29 = .ok (.getfield 67, 3) := by decide +kernel
theorem d_Ranged_nextShare_32 : decode prog_8_method_14_code 32 = .ok (.lsub, 1) := by decide +kernel
theorem d_Ranged_nextShare_33 : decode prog_8_method_14_code 33 = .ok (.ldc2_w 9, 3) := by decide +kernel
theorem d_Ranged_nextShare_36 : decode prog_8_method_14_code 36 = .ok (.land, 1) := by decide +kernel
theorem d_Ranged_nextShare_37 : decode prog_8_method_14_code 37 = .ok (.lload_n 2, 1) := by decide +kernel
theorem d_Ranged_nextShare_38 : decode prog_8_method_14_code 38 = .ok (.ldiv, 1) := by decide +kernel
theorem d_Ranged_nextShare_39 : decode prog_8_method_14_code 39 = .ok (.lstore 4, 2) := by decide +kernel
theorem d_Ranged_nextShare_41 : decode prog_8_method_14_code 41 = .ok (.lload 4, 2) := by decide +kernel
theorem d_Ranged_nextShare_43 : decode prog_8_method_14_code 43 = .ok (.iload_n 1, 1) := by decide +kernel
theorem d_Ranged_nextShare_44 : decode prog_8_method_14_code 44 = .ok (.i2l, 1) := by decide +kernel
theorem d_Ranged_nextShare_45 : decode prog_8_method_14_code 45 = .ok (.lcmp, 1) := by decide +kernel
theorem d_Ranged_nextShare_46 : decode prog_8_method_14_code 46 = .ok (.ifCond .ge 9, 3) := by decide +kernel
theorem d_Ranged_nextShare_49 : decode prog_8_method_14_code 49 = .ok (.lload 4, 2) := by decide +kernel
theorem d_Ranged_nextShare_51 : decode prog_8_method_14_code 51 = .ok (.l2i, 1) := by decide +kernel
theorem d_Ranged_nextShare_52 : decode prog_8_method_14_code 52 = .ok (.goto 4, 3) := by decide +kernel
theorem d_Ranged_nextShare_55 : decode prog_8_method_14_code 55 = .ok (.iconst (-1), 1) := by decide +kernel
theorem d_Ranged_nextShare_56 : decode prog_8_method_14_code 56 = .ok (.ireturn, 1) := by decide +kernel
theorem d_Odds_signAt_0 : decode prog_7_method_9_code 0 = .ok (.iconst 0, 1) := by decide +kernel
theorem d_Odds_signAt_1 : decode prog_7_method_9_code 1 = .ok (.istore_n 2, 1) := by decide +kernel
theorem d_Odds_signAt_2 : decode prog_7_method_9_code 2 = .ok (.iconst 0, 1) := by decide +kernel
theorem d_Odds_signAt_3 : decode prog_7_method_9_code 3 = .ok (.istore_n 3, 1) := by decide +kernel
theorem d_Odds_signAt_4 : decode prog_7_method_9_code 4 = .ok (.iload_n 3, 1) := by decide +kernel
theorem d_Odds_signAt_5 : decode prog_7_method_9_code 5 = .ok (.aload_n 0, 1) := by decide +kernel
theorem d_Odds_signAt_6 : decode prog_7_method_9_code 6 = .ok (.getfield 18, 3) := by decide +kernel
theorem d_Odds_signAt_9 : decode prog_7_method_9_code 9 = .ok (.arraylength, 1) := by decide +kernel
theorem d_Odds_signAt_10 : decode prog_7_method_9_code 10 = .ok (.if_icmp .ge 25, 3) := by decide +kernel
theorem d_Odds_signAt_13 : decode prog_7_method_9_code 13 = .ok (.iload_n 2, 1) := by decide +kernel
theorem d_Odds_signAt_14 : decode prog_7_method_9_code 14 = .ok (.aload_n 0, 1) := by decide +kernel
theorem d_Odds_signAt_15 : decode prog_7_method_9_code 15 = .ok (.getfield 18, 3) := by decide +kernel
theorem d_Odds_signAt_18 : decode prog_7_method_9_code 18 = .ok (.iload_n 3, 1) := by decide +kernel
theorem d_Odds_signAt_19 : decode prog_7_method_9_code 19 = .ok (.iaload, 1) := by decide +kernel
theorem d_Odds_signAt_20 : decode prog_7_method_9_code 20 = .ok (.iadd, 1) := by decide +kernel
theorem d_Odds_signAt_21 : decode prog_7_method_9_code 21 = .ok (.istore_n 2, 1) := by decide +kernel
theorem d_Odds_signAt_22 : decode prog_7_method_9_code 22 = .ok (.iload_n 1, 1) := by decide +kernel
theorem d_Odds_signAt_23 : decode prog_7_method_9_code 23 = .ok (.iload_n 2, 1) := by decide +kernel
theorem d_Odds_signAt_24 : decode prog_7_method_9_code 24 = .ok (.if_icmp .ge 5, 3) := by decide +kernel
theorem d_Odds_signAt_27 : decode prog_7_method_9_code 27 = .ok (.iload_n 3, 1) := by decide +kernel
theorem d_Odds_signAt_28 : decode prog_7_method_9_code 28 = .ok (.ireturn, 1) := by decide +kernel
theorem d_Odds_signAt_29 : decode prog_7_method_9_code 29 = .ok (.iinc 3 1, 3) := by decide +kernel
theorem d_Odds_signAt_32 : decode prog_7_method_9_code 32 = .ok (.goto (-28), 3) := by decide +kernel
theorem d_Odds_signAt_35 : decode prog_7_method_9_code 35 = .ok (.iconst (-1), 1) := by decide +kernel
theorem d_Odds_signAt_36 : decode prog_7_method_9_code 36 = .ok (.ireturn, 1) := by decide +kernel
theorem d_Carries_readPart_0 : decode prog_3_method_4_code 0 = .ok (.iload_n 3, 1) := by decide +kernel
theorem d_Carries_readPart_1 : decode prog_3_method_4_code 1 = .ok (.ifCond .le 13, 3) := by decide +kernel
theorem d_Carries_readPart_4 : decode prog_3_method_4_code 4 = .ok (.aload_n 0, 1) := by decide +kernel
theorem d_Carries_readPart_5 : decode prog_3_method_4_code 5 = .ok (.getfield 31, 3) := by decide +kernel
theorem d_Carries_readPart_8 : decode prog_3_method_4_code 8 = .ok (.iload_n 3, 1) := by decide +kernel
theorem d_Carries_readPart_9 : decode prog_3_method_4_code 9 = .ok (.i2l, 1) := by decide +kernel
theorem d_Carries_readPart_10 : decode prog_3_method_4_code 10 = .ok (.ldiv, 1) := by decide +kernel
theorem d_Carries_readPart_11 : decode prog_3_method_4_code 11 = .ok (.goto 4, 3) := by decide +kernel
theorem d_Carries_readPart_14 : decode prog_3_method_4_code 14 = .ok (.lconst 0, 1) := by decide +kernel
theorem d_Carries_readPart_15 : decode prog_3_method_4_code 15 = .ok (.lstore 4, 2) := by decide +kernel
theorem d_Carries_readPart_17 : decode prog_3_method_4_code 17 = .ok (.aload_n 0, 1) := by decide +kernel
theorem d_Carries_readPart_18 : decode prog_3_method_4_code 18 = .ok (.dup, 1) := by decide +kernel
theorem d_Carries_readPart_19 : decode prog_3_method_4_code 19 = .ok (.getfield 34, 3) := by decide +kernel
theorem d_Carries_readPart_22 : decode prog_3_method_4_code 22 = .ok (.lload 4, 2) := by decide +kernel
theorem d_Carries_readPart_24 : decode prog_3_method_4_code 24 = .ok (.iload_n 2, 1) := by decide +kernel
theorem d_Carries_readPart_25 : decode prog_3_method_4_code 25 = .ok (.i2l, 1) := by decide +kernel
theorem d_Carries_readPart_26 : decode prog_3_method_4_code 26 = .ok (.lmul, 1) := by decide +kernel
theorem d_Carries_readPart_27 : decode prog_3_method_4_code 27 = .ok (.lsub, 1) := by decide +kernel
theorem d_Carries_readPart_28 : decode prog_3_method_4_code 28 = .ok (.putfield 34, 3) := by decide +kernel
theorem d_Carries_readPart_31 : decode prog_3_method_4_code 31 = .ok (.aload_n 0, 1) := by decide +kernel
theorem d_Carries_readPart_32 : decode prog_3_method_4_code 32 = .ok (.lload 4, 2) := by decide +kernel
theorem d_Carries_readPart_34 : decode prog_3_method_4_code 34 = .ok (.iload_n 1, 1) := by decide +kernel
theorem d_Carries_readPart_35 : decode prog_3_method_4_code 35 = .ok (.i2l, 1) := by decide +kernel
theorem d_Carries_readPart_36 : decode prog_3_method_4_code 36 = .ok (.lmul, 1) := by decide +kernel
theorem d_Carries_readPart_37 : decode prog_3_method_4_code 37 = .ok (.putfield 31, 3) := by decide +kernel
theorem d_Carries_readPart_40 : decode prog_3_method_4_code 40 = .ok (.aload_n 0, 1) := by decide +kernel
theorem d_Carries_readPart_41 : decode prog_3_method_4_code 41 = .ok (.invokevirtual 37, 3) := by decide +kernel
theorem d_Carries_readPart_44 : decode prog_3_method_4_code 44 = .ok (.return_, 1) := by decide +kernel
theorem d_NoCarries_readPart_0 : decode prog_6_method_3_code 0 = .ok (.iload_n 3, 1) := by decide +kernel
theorem d_NoCarries_readPart_1 : decode prog_6_method_3_code 1 = .ok (.ifCond .le 13, 3) := by decide +kernel
theorem d_NoCarries_readPart_4 : decode prog_6_method_3_code 4 = .ok (.aload_n 0, 1) := by decide +kernel
theorem d_NoCarries_readPart_5 : decode prog_6_method_3_code 5 = .ok (.getfield 31, 3) := by decide +kernel
theorem d_NoCarries_readPart_8 : decode prog_6_method_3_code 8 = .ok (.iload_n 3, 1) := by decide +kernel
theorem d_NoCarries_readPart_9 : decode prog_6_method_3_code 9 = .ok (.i2l, 1) := by decide +kernel
theorem d_NoCarries_readPart_10 : decode prog_6_method_3_code 10 = .ok (.ldiv, 1) := by decide +kernel
theorem d_NoCarries_readPart_11 : decode prog_6_method_3_code 11 = .ok (.goto 4, 3) := by decide +kernel
theorem d_NoCarries_readPart_14 : decode prog_6_method_3_code 14 = .ok (.lconst 0, 1) := by decide +kernel
theorem d_NoCarries_readPart_15 : decode prog_6_method_3_code 15 = .ok (.lstore 4, 2) := by decide +kernel
theorem d_NoCarries_readPart_17 : decode prog_6_method_3_code 17 = .ok (.aload_n 0, 1) := by decide +kernel
theorem d_NoCarries_readPart_18 : decode prog_6_method_3_code 18 = .ok (.aload_n 0, 1) := by decide +kernel
theorem d_NoCarries_readPart_19 : decode prog_6_method_3_code 19 = .ok (.getfield 34, 3) := by decide +kernel
theorem d_NoCarries_readPart_22 : decode prog_6_method_3_code 22 = .ok (.lload 4, 2) := by decide +kernel
theorem d_NoCarries_readPart_24 : decode prog_6_method_3_code 24 = .ok (.iload_n 2, 1) := by decide +kernel
theorem d_NoCarries_readPart_25 : decode prog_6_method_3_code 25 = .ok (.i2l, 1) := by decide +kernel
theorem d_NoCarries_readPart_26 : decode prog_6_method_3_code 26 = .ok (.lmul, 1) := by decide +kernel
theorem d_NoCarries_readPart_27 : decode prog_6_method_3_code 27 = .ok (.ladd, 1) := by decide +kernel
theorem d_NoCarries_readPart_28 : decode prog_6_method_3_code 28 = .ok (.ldc2_w 18, 3) := by decide +kernel
theorem d_NoCarries_readPart_31 : decode prog_6_method_3_code 31 = .ok (.land, 1) := by decide +kernel
theorem d_NoCarries_readPart_32 : decode prog_6_method_3_code 32 = .ok (.putfield 34, 3) := by decide +kernel
theorem d_NoCarries_readPart_35 : decode prog_6_method_3_code 35 = .ok (.aload_n 0, 1) := by decide +kernel
theorem d_NoCarries_readPart_36 : decode prog_6_method_3_code 36 = .ok (.lload 4, 2) := by decide +kernel
theorem d_NoCarries_readPart_38 : decode prog_6_method_3_code 38 = .ok (.iload_n 1, 1) := by decide +kernel
theorem d_NoCarries_readPart_39 : decode prog_6_method_3_code 39 = .ok (.i2l, 1) := by decide +kernel
theorem d_NoCarries_readPart_40 : decode prog_6_method_3_code 40 = .ok (.lmul, 1) := by decide +kernel
theorem d_NoCarries_readPart_41 : decode prog_6_method_3_code 41 = .ok (.ldc2_w 18, 3) := by decide +kernel
theorem d_NoCarries_readPart_44 : decode prog_6_method_3_code 44 = .ok (.land, 1) := by decide +kernel
theorem d_NoCarries_readPart_45 : decode prog_6_method_3_code 45 = .ok (.putfield 31, 3) := by decide +kernel
theorem d_NoCarries_readPart_48 : decode prog_6_method_3_code 48 = .ok (.iconst 0, 1) := by decide +kernel
theorem d_NoCarries_readPart_49 : decode prog_6_method_3_code 49 = .ok (.istore 6, 2) := by decide +kernel
theorem d_NoCarries_readPart_51 : decode prog_6_method_3_code 51 = .ok (.iload 6, 2) := by decide +kernel
theorem d_NoCarries_readPart_53 : decode prog_6_method_3_code 53 = .ok (.bipush 8, 2) := by decide +kernel
theorem d_NoCarries_readPart_55 : decode prog_6_method_3_code 55 = .ok (.if_icmp .ge 74, 3) := by decide +kernel
theorem d_NoCarries_readPart_58 : decode prog_6_method_3_code 58 = .ok (.aload_n 0, 1) := by decide +kernel
theorem d_NoCarries_readPart_59 : decode prog_6_method_3_code 59 = .ok (.getfield 34, 3) := by decide +kernel
theorem d_NoCarries_readPart_62 : decode prog_6_method_3_code 62 = .ok (.aload_n 0, 1) := by decide +kernel
theorem d_NoCarries_readPart_63 : decode prog_6_method_3_code 63 = .ok (.getfield 31, 3) := by decide +kernel
theorem d_NoCarries_readPart_66 : decode prog_6_method_3_code 66 = .ok (.invokestatic 20, 3) := by decide +kernel
theorem d_NoCarries_readPart_69 : decode prog_6_method_3_code 69 = .ok (.ifCond .eq 60, 3) := by decide +kernel
theorem d_NoCarries_readPart_72 : decode prog_6_method_3_code 72 = .ok (.aload_n 0, 1) := by decide +kernel
theorem d_NoCarries_readPart_73 : decode prog_6_method_3_code 73 = .ok (.aload_n 0, 1) := by decide +kernel
theorem d_NoCarries_readPart_74 : decode prog_6_method_3_code 74 = .ok (.getfield 34, 3) := by decide +kernel
theorem d_NoCarries_readPart_77 : decode prog_6_method_3_code 77 = .ok (.aload_n 0, 1) := by decide +kernel
theorem d_NoCarries_readPart_78 : decode prog_6_method_3_code 78 = .ok (.getfield 31, 3) := by decide +kernel
theorem d_NoCarries_readPart_81 : decode prog_6_method_3_code 81 = .ok (.invokestatic 24, 3) := by decide +kernel
theorem d_NoCarries_readPart_84 : decode prog_6_method_3_code 84 = .ok (.putfield 31, 3) := by decide +kernel
theorem d_NoCarries_readPart_87 : decode prog_6_method_3_code 87 = .ok (.aload_n 0, 1) := by decide +kernel
theorem d_NoCarries_readPart_88 : decode prog_6_method_3_code 88 = .ok (.aload_n 0, 1) := by decide +kernel
theorem d_NoCarries_readPart_89 : decode prog_6_method_3_code 89 = .ok (.getfield 34, 3) := by decide +kernel
theorem d_NoCarries_readPart_92 : decode prog_6_method_3_code 92 = .ok (.bipush 8, 2) := by decide +kernel
theorem d_NoCarries_readPart_94 : decode prog_6_method_3_code 94 = .ok (.lshl, 1) := by decide +kernel
theorem d_NoCarries_readPart_95 : decode prog_6_method_3_code 95 = .ok (.ldc2_w 18, 3) := by decide +kernel
theorem d_NoCarries_readPart_98 : decode prog_6_method_3_code 98 = .ok (.land, 1) := by decide +kernel
theorem d_NoCarries_readPart_99 : decode prog_6_method_3_code 99 = .ok (.putfield 34, 3) := by decide +kernel
theorem d_NoCarries_readPart_102 : decode prog_6_method_3_code 102 = .ok (.aload_n 0, 1) := by decide +kernel
theorem d_NoCarries_readPart_103 : decode prog_6_method_3_code 103 = .ok (.aload_n 0, 1) := by decide +kernel
theorem d_NoCarries_readPart_104 : decode prog_6_method_3_code 104 = .ok (.getfield 37, 3) := by decide +kernel
theorem d_NoCarries_readPart_107 : decode prog_6_method_3_code 107 = .ok (.bipush 8, 2) := by decide +kernel
theorem d_NoCarries_readPart_109 : decode prog_6_method_3_code 109 = .ok (.lshl, 1) := by decide +kernel
theorem d_NoCarries_readPart_110 : decode prog_6_method_3_code 110 = .ok (.aload_n 0, 1) := by decide +kernel
theorem d_NoCarries_readPart_111 : decode prog_6_method_3_code 111 = .ok (.invokevirtual 40, 3) := by decide +kernel
theorem d_NoCarries_readPart_114 : decode prog_6_method_3_code 114 = .ok (.i2l, 1) := by decide +kernel
theorem d_NoCarries_readPart_115 : decode prog_6_method_3_code 115 = .ok (.lor, 1) := by decide +kernel
theorem d_NoCarries_readPart_116 : decode prog_6_method_3_code 116 = .ok (.ldc2_w 18, 3) := by decide +kernel
theorem d_NoCarries_readPart_119 : decode prog_6_method_3_code 119 = .ok (.land, 1) := by decide +kernel
theorem d_NoCarries_readPart_120 : decode prog_6_method_3_code 120 = .ok (.putfield 37, 3) := by decide +kernel
theorem d_NoCarries_readPart_123 : decode prog_6_method_3_code 123 = .ok (.iinc 6 1, 3) := by decide +kernel
theorem d_NoCarries_readPart_126 : decode prog_6_method_3_code 126 = .ok (.goto (-75), 3) := by decide +kernel
theorem d_NoCarries_readPart_129 : decode prog_6_method_3_code 129 = .ok (.return_, 1) := by decide +kernel
theorem d_Stack_nextSign_0 : decode prog_10_method_8_code 0 = .ok (.aload_n 0, 1) := by decide +kernel
theorem d_Stack_nextSign_1 : decode prog_10_method_8_code 1 = .ok (.getfield 54, 3) := by decide +kernel
theorem d_Stack_nextSign_4 : decode prog_10_method_8_code 4 = .ok (.ldc2_w 57, 3) := by decide +kernel
theorem d_Stack_nextSign_7 : decode prog_10_method_8_code 7 = .ok (.land, 1) := by decide +kernel
theorem d_Stack_nextSign_8 : decode prog_10_method_8_code 8 = .ok (.l2i, 1) := by decide +kernel
theorem d_Stack_nextSign_9 : decode prog_10_method_8_code 9 = .ok (.istore_n 2, 1) := by decide +kernel
theorem d_Stack_nextSign_10 : decode prog_10_method_8_code 10 = .ok (.aload_n 1, 1) := by decide +kernel
theorem d_Stack_nextSign_11 : decode prog_10_method_8_code 11 = .ok (.iload_n 2, 1) := by decide +kernel
theorem d_Stack_nextSign_12 : decode prog_10_method_8_code 12 = .ok (.invokevirtual 59, 3) := by decide +kernel
theorem d_Stack_nextSign_15 : decode prog_10_method_8_code 15 = .ok (.istore_n 3, 1) := by decide +kernel
theorem d_Stack_nextSign_16 : decode prog_10_method_8_code 16 = .ok (.iload_n 3, 1) := by decide +kernel
theorem d_Stack_nextSign_17 : decode prog_10_method_8_code 17 = .ok (.iconst (-1), 1) := by decide +kernel
theorem d_Stack_nextSign_18 : decode prog_10_method_8_code 18 = .ok (.if_icmp .eq 19, 3) := by decide +kernel
theorem d_Stack_nextSign_21 : decode prog_10_method_8_code 21 = .ok (.aload_n 0, 1) := by decide +kernel
theorem d_Stack_nextSign_22 : decode prog_10_method_8_code 22 = .ok (.aload_n 1, 1) := by decide +kernel
theorem d_Stack_nextSign_23 : decode prog_10_method_8_code 23 = .ok (.iload_n 3, 1) := by decide +kernel
theorem d_Stack_nextSign_24 : decode prog_10_method_8_code 24 = .ok (.invokevirtual 23, 3) := by decide +kernel
theorem d_Stack_nextSign_27 : decode prog_10_method_8_code 27 = .ok (.iload_n 2, 1) := by decide +kernel
theorem d_Stack_nextSign_28 : decode prog_10_method_8_code 28 = .ok (.aload_n 1, 1) := by decide +kernel
theorem d_Stack_nextSign_29 : decode prog_10_method_8_code 29 = .ok (.iload_n 3, 1) := by decide +kernel
theorem d_Stack_nextSign_30 : decode prog_10_method_8_code 30 = .ok (.invokevirtual 27, 3) := by decide +kernel
theorem d_Stack_nextSign_33 : decode prog_10_method_8_code 33 = .ok (.isub, 1) := by decide +kernel
theorem d_Stack_nextSign_34 : decode prog_10_method_8_code 34 = .ok (.invokevirtual 62, 3) := by decide +kernel
theorem d_Stack_nextSign_37 : decode prog_10_method_8_code 37 = .ok (.iload_n 3, 1) := by decide +kernel
theorem d_Stack_nextSign_38 : decode prog_10_method_8_code 38 = .ok (.ireturn, 1) := by decide +kernel
theorem d_Stack_unstackPart_0 : decode prog_10_method_12_code 0 = .ok (.aload_n 0, 1) := by decide +kernel
theorem d_Stack_unstackPart_1 : decode prog_10_method_12_code 1 = .ok (.iload_n 1, 1) := by decide +kernel
theorem d_Stack_unstackPart_2 : decode prog_10_method_12_code 2 = .ok (.i2l, 1) := by decide +kernel
theorem d_Stack_unstackPart_3 : decode prog_10_method_12_code 3 = .ok (.aload_n 0, 1) := by decide +kernel
theorem d_Stack_unstackPart_4 : decode prog_10_method_12_code 4 = .ok (.getfield 54, 3) := by decide +kernel
theorem d_Stack_unstackPart_7 : decode prog_10_method_12_code 7 = .ok (.bipush 12, 2) := by decide +kernel
theorem d_Stack_unstackPart_9 : decode prog_10_method_12_code 9 = .ok (.lushr, 1) := by decide +kernel
theorem d_Stack_unstackPart_10 : decode prog_10_method_12_code 10 = .ok (.lmul, 1) := by decide +kernel
theorem d_Stack_unstackPart_11 : decode prog_10_method_12_code 11 = .ok (.iload_n 2, 1) := by decide +kernel
theorem d_Stack_unstackPart_12 : decode prog_10_method_12_code 12 = .ok (.i2l, 1) := by decide +kernel
theorem d_Stack_unstackPart_13 : decode prog_10_method_12_code 13 = .ok (.ladd, 1) := by decide +kernel
theorem d_Stack_unstackPart_14 : decode prog_10_method_12_code 14 = .ok (.putfield 54, 3) := by decide +kernel
theorem d_Stack_unstackPart_17 : decode prog_10_method_12_code 17 = .ok (.iconst 0, 1) := by decide +kernel
theorem d_Stack_unstackPart_18 : decode prog_10_method_12_code 18 = .ok (.istore_n 3, 1) := by decide +kernel
theorem d_Stack_unstackPart_19 : decode prog_10_method_12_code 19 = .ok (.iload_n 3, 1) := by decide +kernel
theorem d_Stack_unstackPart_20 : decode prog_10_method_12_code 20 = .ok (.bipush 8, 2) := by decide +kernel
theorem d_Stack_unstackPart_22 : decode prog_10_method_12_code 22 = .ok (.if_icmp .ge 37, 3) := by decide +kernel
theorem d_Stack_unstackPart_25 : decode prog_10_method_12_code 25 = .ok (.aload_n 0, 1) := by decide +kernel
theorem d_Stack_unstackPart_26 : decode prog_10_method_12_code 26 = .ok (.getfield 54, 3) := by decide +kernel
theorem d_Stack_unstackPart_29 : decode prog_10_method_12_code 29 = .ok (.ldc2_w 17, 3) := by decide +kernel
theorem d_Stack_unstackPart_32 : decode prog_10_method_12_code 32 = .ok (.lcmp, 1) := by decide +kernel
theorem d_Stack_unstackPart_33 : decode prog_10_method_12_code 33 = .ok (.ifCond .ge 26, 3) := by decide +kernel
theorem d_Stack_unstackPart_36 : decode prog_10_method_12_code 36 = .ok (.aload_n 0, 1) := by decide +kernel
theorem d_Stack_unstackPart_37 : decode prog_10_method_12_code 37 = .ok (.aload_n 0, 1) := by decide +kernel
theorem d_Stack_unstackPart_38 : decode prog_10_method_12_code 38 = .ok (.getfield 54, 3) := by decide +kernel
theorem d_Stack_unstackPart_41 : decode prog_10_method_12_code 41 = .ok (.bipush 8, 2) := by decide +kernel
theorem d_Stack_unstackPart_43 : decode prog_10_method_12_code 43 = .ok (.lshl, 1) := by decide +kernel
theorem d_Stack_unstackPart_44 : decode prog_10_method_12_code 44 = .ok (.aload_n 0, 1) := by decide +kernel
theorem d_Stack_unstackPart_45 : decode prog_10_method_12_code 45 = .ok (.invokevirtual 73, 3) := by decide +kernel
theorem d_Stack_unstackPart_48 : decode prog_10_method_12_code 48 = .ok (.i2l, 1) := by decide +kernel
theorem d_Stack_unstackPart_49 : decode prog_10_method_12_code 49 = .ok (.lor, 1) := by decide +kernel
theorem d_Stack_unstackPart_50 : decode prog_10_method_12_code 50 = .ok (.putfield 54, 3) := by decide +kernel
theorem d_Stack_unstackPart_53 : decode prog_10_method_12_code 53 = .ok (.iinc 3 1, 3) := by decide +kernel
theorem d_Stack_unstackPart_56 : decode prog_10_method_12_code 56 = .ok (.goto (-37), 3) := by decide +kernel
theorem d_Stack_unstackPart_59 : decode prog_10_method_12_code 59 = .ok (.return_, 1) := by decide +kernel
theorem d_Table_nextSign_0 : decode prog_12_method_11_code 0 = .ok (.aload_n 1, 1) := by decide +kernel
theorem d_Table_nextSign_1 : decode prog_12_method_11_code 1 = .ok (.getfield 75, 3) := by decide +kernel
theorem d_Table_nextSign_4 : decode prog_12_method_11_code 4 = .ok (.ifCond .gt 5, 3) := by decide +kernel
theorem d_Table_nextSign_7 : decode prog_12_method_11_code 7 = .ok (.iconst (-1), 1) := by decide +kernel
theorem d_Table_nextSign_8 : decode prog_12_method_11_code 8 = .ok (.ireturn, 1) := by decide +kernel
theorem d_Table_nextSign_9 : decode prog_12_method_11_code 9 = .ok (.aload_n 0, 1) := by decide +kernel
theorem d_Table_nextSign_10 : decode prog_12_method_11_code 10 = .ok (.getfield 72, 3) := by decide +kernel
theorem d_Table_nextSign_13 : decode prog_12_method_11_code 13 = .ok (.l2i, 1) := by decide +kernel
theorem d_Table_nextSign_14 : decode prog_12_method_11_code 14 = .ok (.sipush 512, 3) := by decide +kernel
theorem d_Table_nextSign_17 : decode prog_12_method_11_code 17 = .ok (.isub, 1) := by decide +kernel
theorem d_Table_nextSign_18 : decode prog_12_method_11_code 18 = .ok (.istore_n 2, 1) := by decide +kernel
theorem d_Table_nextSign_19 : decode prog_12_method_11_code 19 = .ok (.aload_n 1, 1) := by decide +kernel
theorem d_Table_nextSign_20 : decode prog_12_method_11_code 20 = .ok (.iload_n 2, 1) := by decide +kernel
theorem d_Table_nextSign_21 : decode prog_12_method_11_code 21 = .ok (.invokevirtual 78, 3) := by decide +kernel
theorem d_Table_nextSign_24 : decode prog_12_method_11_code 24 = .ok (.istore_n 3, 1) := by decide +kernel
theorem d_Table_nextSign_25 : decode prog_12_method_11_code 25 = .ok (.aload_n 0, 1) := by decide +kernel
theorem d_Table_nextSign_26 : decode prog_12_method_11_code 26 = .ok (.aload_n 1, 1) := by decide +kernel
theorem d_Table_nextSign_27 : decode prog_12_method_11_code 27 = .ok (.iload_n 3, 1) := by decide +kernel
theorem d_Table_nextSign_28 : decode prog_12_method_11_code 28 = .ok (.invokevirtual 33, 3) := by decide +kernel
theorem d_Table_nextSign_31 : decode prog_12_method_11_code 31 = .ok (.aload_n 1, 1) := by decide +kernel
theorem d_Table_nextSign_32 : decode prog_12_method_11_code 32 = .ok (.iload_n 2, 1) := by decide +kernel
theorem d_Table_nextSign_33 : decode prog_12_method_11_code 33 = .ok (.invokevirtual 81, 3) := by decide +kernel
theorem d_Table_nextSign_36 : decode prog_12_method_11_code 36 = .ok (.iadd, 1) := by decide +kernel
theorem d_Table_nextSign_37 : decode prog_12_method_11_code 37 = .ok (.i2l, 1) := by decide +kernel
theorem d_Table_nextSign_38 : decode prog_12_method_11_code 38 = .ok (.putfield 72, 3) := by decide +kernel
theorem d_Table_nextSign_41 : decode prog_12_method_11_code 41 = .ok (.iconst 0, 1) := by decide +kernel
theorem d_Table_nextSign_42 : decode prog_12_method_11_code 42 = .ok (.istore 4, 2) := by decide +kernel
theorem d_Table_nextSign_44 : decode prog_12_method_11_code 44 = .ok (.iload 4, 2) := by decide +kernel
theorem d_Table_nextSign_46 : decode prog_12_method_11_code 46 = .ok (.bipush 9, 2) := by decide +kernel
theorem d_Table_nextSign_48 : decode prog_12_method_11_code 48 = .ok (.if_icmp .gt 38, 3) := by decide +kernel
theorem d_Table_nextSign_51 : decode prog_12_method_11_code 51 = .ok (.aload_n 0, 1) := by decide +kernel
theorem d_Table_nextSign_52 : decode prog_12_method_11_code 52 = .ok (.getfield 72, 3) := by decide +kernel
theorem d_Table_nextSign_55 : decode prog_12_method_11_code 55 = .ok (.ldc2_w 27, 3) := by decide +kernel
theorem d_Table_nextSign_58 : decode prog_12_method_11_code 58 = .ok (.lcmp, 1) := by decide +kernel
theorem d_Table_nextSign_59 : decode prog_12_method_11_code 59 = .ok (.ifCond .ge 27, 3) := by decide +kernel
theorem d_Table_nextSign_62 : decode prog_12_method_11_code 62 = .ok (.aload_n 0, 1) := by decide +kernel
theorem d_Table_nextSign_63 : decode prog_12_method_11_code 63 = .ok (.ldc2_w 37, 3) := by decide +kernel
theorem d_Table_nextSign_66 : decode prog_12_method_11_code 66 = .ok (.aload_n 0, 1) := by decide +kernel
theorem d_Table_nextSign_67 : decode prog_12_method_11_code 67 = .ok (.getfield 72, 3) := by decide +kernel
theorem d_Table_nextSign_70 : decode prog_12_method_11_code 70 = .ok (.lmul, 1) := by decide +kernel
theorem d_Table_nextSign_71 : decode prog_12_method_11_code 71 = .ok (.aload_n 0, 1) := by decide +kernel
theorem d_Table_nextSign_72 : decode prog_12_method_11_code 72 = .ok (.invokevirtual 84, 3) := by decide +kernel
theorem d_Table_nextSign_75 : decode prog_12_method_11_code 75 = .ok (.i2l, 1) := by decide +kernel
theorem d_Table_nextSign_76 : decode prog_12_method_11_code 76 = .ok (.ladd, 1) := by decide +kernel
theorem d_Table_nextSign_77 : decode prog_12_method_11_code 77 = .ok (.putfield 72, 3) := by decide +kernel
theorem d_Table_nextSign_80 : decode prog_12_method_11_code 80 = .ok (.iinc 4 1, 3) := by decide +kernel
theorem d_Table_nextSign_83 : decode prog_12_method_11_code 83 = .ok (.goto (-39), 3) := by decide +kernel
theorem d_Table_nextSign_86 : decode prog_12_method_11_code 86 = .ok (.iload_n 3, 1) := by decide +kernel
theorem d_Table_nextSign_87 : decode prog_12_method_11_code 87 = .ok (.ireturn, 1) := by decide +kernel
theorem d_Odds_signOfPlace_0 : decode prog_7_method_12_code 0 = .ok (.iload_n 1, 1) := by decide +kernel
theorem d_Odds_signOfPlace_1 : decode prog_7_method_12_code 1 = .ok (.ifCond .lt 21, 3) := by decide +kernel
theorem d_Odds_signOfPlace_4 : decode prog_7_method_12_code 4 = .ok (.iload_n 1, 1) := by decide +kernel
theorem d_Odds_signOfPlace_5 : decode prog_7_method_12_code 5 = .ok (.aload_n 0, 1) := by decide +kernel
theorem d_Odds_signOfPlace_6 : decode prog_7_method_12_code 6 = .ok (.getfield 22, 3) := by decide +kernel
theorem d_Odds_signOfPlace_9 : decode prog_7_method_12_code 9 = .ok (.arraylength, 1) := by decide +kernel
theorem d_Odds_signOfPlace_10 : decode prog_7_method_12_code 10 = .ok (.if_icmp .ge 12, 3) := by decide +kernel
theorem d_Odds_signOfPlace_13 : decode prog_7_method_12_code 13 = .ok (.aload_n 0, 1) := by decide +kernel
theorem d_Odds_signOfPlace_14 : decode prog_7_method_12_code 14 = .ok (.getfield 22, 3) := by decide +kernel
theorem d_Odds_signOfPlace_17 : decode prog_7_method_12_code 17 = .ok (.iload_n 1, 1) := by decide +kernel
theorem d_Odds_signOfPlace_18 : decode prog_7_method_12_code 18 = .ok (.iaload, 1) := by decide +kernel
theorem d_Odds_signOfPlace_19 : decode prog_7_method_12_code 19 = .ok (.goto 4, 3) := by decide +kernel
theorem d_Odds_signOfPlace_22 : decode prog_7_method_12_code 22 = .ok (.iconst (-1), 1) := by decide +kernel
theorem d_Odds_signOfPlace_23 : decode prog_7_method_12_code 23 = .ok (.ireturn, 1) := by decide +kernel
theorem d_Odds_numberOfPlace_0 : decode prog_7_method_13_code 0 = .ok (.aload_n 0, 1) := by decide +kernel
theorem d_Odds_numberOfPlace_1 : decode prog_7_method_13_code 1 = .ok (.iload_n 1, 1) := by decide +kernel
theorem d_Odds_numberOfPlace_2 : decode prog_7_method_13_code 2 = .ok (.invokevirtual 59, 3) := by decide +kernel
theorem d_Odds_numberOfPlace_5 : decode prog_7_method_13_code 5 = .ok (.istore_n 2, 1) := by decide +kernel
theorem d_Odds_numberOfPlace_6 : decode prog_7_method_13_code 6 = .ok (.iconst 0, 1) := by decide +kernel
theorem d_Odds_numberOfPlace_7 : decode prog_7_method_13_code 7 = .ok (.istore_n 3, 1) := by decide +kernel
theorem d_Odds_numberOfPlace_8 : decode prog_7_method_13_code 8 = .ok (.iconst 0, 1) := by decide +kernel
theorem d_Odds_numberOfPlace_9 : decode prog_7_method_13_code 9 = .ok (.istore 4, 2) := by decide +kernel
theorem d_Odds_numberOfPlace_11 : decode prog_7_method_13_code 11 = .ok (.iload 4, 2) := by decide +kernel
theorem d_Odds_numberOfPlace_13 : decode prog_7_method_13_code 13 = .ok (.iload_n 1, 1) := by decide +kernel
theorem d_Odds_numberOfPlace_14 : decode prog_7_method_13_code 14 = .ok (.if_icmp .ge 33, 3) := by decide +kernel
theorem d_Odds_numberOfPlace_17 : decode prog_7_method_13_code 17 = .ok (.iload 4, 2) := by decide +kernel
theorem d_Odds_numberOfPlace_19 : decode prog_7_method_13_code 19 = .ok (.aload_n 0, 1) := by decide +kernel
theorem d_Odds_numberOfPlace_20 : decode prog_7_method_13_code 20 = .ok (.getfield 22, 3) := by decide +kernel
theorem d_Odds_numberOfPlace_23 : decode prog_7_method_13_code 23 = .ok (.arraylength, 1) := by decide +kernel
theorem d_Odds_numberOfPlace_24 : decode prog_7_method_13_code 24 = .ok (.if_icmp .ge 23, 3) := by decide +kernel
theorem d_Odds_numberOfPlace_27 : decode prog_7_method_13_code 27 = .ok (.aload_n 0, 1) := by decide +kernel
theorem d_Odds_numberOfPlace_28 : decode prog_7_method_13_code 28 = .ok (.getfield 22, 3) := by decide +kernel
theorem d_Odds_numberOfPlace_31 : decode prog_7_method_13_code 31 = .ok (.iload 4, 2) := by decide +kernel
theorem d_Odds_numberOfPlace_33 : decode prog_7_method_13_code 33 = .ok (.iaload, 1) := by decide +kernel
theorem d_Odds_numberOfPlace_34 : decode prog_7_method_13_code 34 = .ok (.iload_n 2, 1) := by decide +kernel
theorem d_Odds_numberOfPlace_35 : decode prog_7_method_13_code 35 = .ok (.if_icmp .ne 6, 3) := by decide +kernel
theorem d_Odds_numberOfPlace_38 : decode prog_7_method_13_code 38 = .ok (.iinc 3 1, 3) := by decide +kernel
theorem d_Odds_numberOfPlace_41 : decode prog_7_method_13_code 41 = .ok (.iinc 4 1, 3) := by decide +kernel
theorem d_Odds_numberOfPlace_44 : decode prog_7_method_13_code 44 = .ok (.goto (-33), 3) := by decide +kernel
theorem d_Odds_numberOfPlace_47 : decode prog_7_method_13_code 47 = .ok (.iload_n 3, 1) := by decide +kernel
theorem d_Odds_numberOfPlace_48 : decode prog_7_method_13_code 48 = .ok (.ireturn, 1) := by decide +kernel
theorem d_RC_itemOrBad_0 : decode prog_1_method_21_code 0 = .ok (.iload_n 1, 1) := by decide +kernel
theorem d_RC_itemOrBad_1 : decode prog_1_method_21_code 1 = .ok (.iconst (-1), 1) := by decide +kernel
theorem d_RC_itemOrBad_2 : decode prog_1_method_21_code 2 = .ok (.if_icmp .ne 11, 3) := by decide +kernel
theorem d_RC_itemOrBad_5 : decode prog_1_method_21_code 5 = .ok (.aload_n 0, 1) := by decide +kernel
theorem d_RC_itemOrBad_6 : decode prog_1_method_21_code 6 = .ok (.iconst 1, 1) := by decide +kernel
theorem d_RC_itemOrBad_7 : decode prog_1_method_21_code 7 = .ok (.putfield 123, 3) := by decide +kernel
theorem d_RC_itemOrBad_10 : decode prog_1_method_21_code 10 = .ok (.bipush (-5), 2) := by decide +kernel
theorem d_RC_itemOrBad_12 : decode prog_1_method_21_code 12 = .ok (.ireturn, 1) := by decide +kernel
theorem d_RC_itemOrBad_13 : decode prog_1_method_21_code 13 = .ok (.aload_n 0, 1) := by decide +kernel
theorem d_RC_itemOrBad_14 : decode prog_1_method_21_code 14 = .ok (.dup, 1) := by decide +kernel
theorem d_RC_itemOrBad_15 : decode prog_1_method_21_code 15 = .ok (.getfield 126, 3) := by decide +kernel
theorem d_RC_itemOrBad_18 : decode prog_1_method_21_code 18 = .ok (.iconst 1, 1) := by decide +kernel
theorem d_RC_itemOrBad_19 : decode prog_1_method_21_code 19 = .ok (.iadd, 1) := by decide +kernel
theorem d_RC_itemOrBad_20 : decode prog_1_method_21_code 20 = .ok (.putfield 126, 3) := by decide +kernel
theorem d_RC_itemOrBad_23 : decode prog_1_method_21_code 23 = .ok (.iload_n 1, 1) := by decide +kernel
theorem d_RC_itemOrBad_24 : decode prog_1_method_21_code 24 = .ok (.ireturn, 1) := by decide +kernel
theorem d_RC_getBits_0 : decode prog_1_method_14_code 0 = .ok (.aload_n 0, 1) := by decide +kernel
theorem d_RC_getBits_1 : decode prog_1_method_14_code 1 = .ok (.getfield 23, 3) := by decide +kernel
theorem d_RC_getBits_4 : decode prog_1_method_14_code 4 = .ok (.iload_n 1, 1) := by decide +kernel
theorem d_RC_getBits_5 : decode prog_1_method_14_code 5 = .ok (.invokevirtual 81, 3) := by decide +kernel
theorem d_RC_getBits_8 : decode prog_1_method_14_code 8 = .ok (.ifCond .ne 6, 3) := by decide +kernel
theorem d_RC_getBits_11 : decode prog_1_method_14_code 11 = .ok (.bipush (-2), 2) := by decide +kernel
theorem d_RC_getBits_13 : decode prog_1_method_14_code 13 = .ok (.ireturn, 1) := by decide +kernel
theorem d_RC_getBits_14 : decode prog_1_method_14_code 14 = .ok (.aload_n 0, 1) := by decide +kernel
theorem d_RC_getBits_15 : decode prog_1_method_14_code 15 = .ok (.getfield 70, 3) := by decide +kernel
theorem d_RC_getBits_18 : decode prog_1_method_14_code 18 = .ok (.ifCond .ne 6, 3) := by decide +kernel
theorem d_RC_getBits_21 : decode prog_1_method_14_code 21 = .ok (.bipush (-3), 2) := by decide +kernel
theorem d_RC_getBits_23 : decode prog_1_method_14_code 23 = .ok (.ireturn, 1) := by decide +kernel
theorem d_RC_getBits_24 : decode prog_1_method_14_code 24 = .ok (.aload_n 0, 1) := by decide +kernel
theorem d_RC_getBits_25 : decode prog_1_method_14_code 25 = .ok (.getfield 123, 3) := by decide +kernel
theorem d_RC_getBits_28 : decode prog_1_method_14_code 28 = .ok (.ifCond .eq 8, 3) := by decide +kernel
theorem d_RC_getBits_31 : decode prog_1_method_14_code 31 = .ok (.bipush (-5), 2) := by decide +kernel
theorem d_RC_getBits_33 : decode prog_1_method_14_code 33 = .ok (.goto 15, 3) := by decide +kernel
theorem d_RC_getBits_36 : decode prog_1_method_14_code 36 = .ok (.aload_n 0, 1) := by decide +kernel
theorem d_RC_getBits_37 : decode prog_1_method_14_code 37 = .ok (.aload_n 0, 1) := by decide +kernel
theorem d_RC_getBits_38 : decode prog_1_method_14_code 38 = .ok (.getfield 23, 3) := by decide +kernel
theorem d_RC_getBits_41 : decode prog_1_method_14_code 41 = .ok (.iload_n 1, 1) := by decide +kernel
theorem d_RC_getBits_42 : decode prog_1_method_14_code 42 = .ok (.invokevirtual 146, 3) := by decide +kernel
theorem d_RC_getBits_45 : decode prog_1_method_14_code 45 = .ok (.invokevirtual 143, 3) := by decide +kernel
theorem d_RC_getBits_48 : decode prog_1_method_14_code 48 = .ok (.ireturn, 1) := by decide +kernel
theorem d_Bits_nextValue_0 : decode prog_2_method_8_code 0 = .ok (.aload_n 0, 1) := by decide +kernel
theorem d_Bits_nextValue_1 : decode prog_2_method_8_code 1 = .ok (.getfield 45, 3) := by decide +kernel
theorem d_Bits_nextValue_4 : decode prog_2_method_8_code 4 = .ok (.aload_n 0, 1) := by decide +kernel
theorem d_Bits_nextValue_5 : decode prog_2_method_8_code 5 = .ok (.getfield 48, 3) := by decide +kernel
theorem d_Bits_nextValue_8 : decode prog_2_method_8_code 8 = .ok (.lcmp, 1) := by decide +kernel
theorem d_Bits_nextValue_9 : decode prog_2_method_8_code 9 = .ok (.ifCond .lt 5, 3) := by decide +kernel
theorem d_Bits_nextValue_12 : decode prog_2_method_8_code 12 = .ok (.iconst (-1), 1) := by decide +kernel
theorem d_Bits_nextValue_13 : decode prog_2_method_8_code 13 = .ok (.ireturn, 1) := by decide +kernel
theorem d_Bits_nextValue_14 : decode prog_2_method_8_code 14 = .ok (.aload_n 0, 1) := by decide +kernel
theorem d_Bits_nextValue_15 : decode prog_2_method_8_code 15 = .ok (.invokevirtual 51, 3) := by decide +kernel
theorem d_Bits_nextValue_18 : decode prog_2_method_8_code 18 = .ok (.iconst 0, 1) := by decide +kernel
theorem d_Bits_nextValue_19 : decode prog_2_method_8_code 19 = .ok (.istore_n 2, 1) := by decide +kernel
theorem d_Bits_nextValue_20 : decode prog_2_method_8_code 20 = .ok (.iconst 0, 1) := by decide +kernel
theorem d_Bits_nextValue_21 : decode prog_2_method_8_code 21 = .ok (.istore_n 3, 1) := by decide +kernel
theorem d_Bits_nextValue_22 : decode prog_2_method_8_code 22 = .ok (.iload_n 3, 1) := by decide +kernel
theorem d_Bits_nextValue_23 : decode prog_2_method_8_code 23 = .ok (.iload_n 1, 1) := by decide +kernel
theorem d_Bits_nextValue_24 : decode prog_2_method_8_code 24 = .ok (.if_icmp .ge 83, 3) := by decide +kernel
theorem d_Bits_nextValue_27 : decode prog_2_method_8_code 27 = .ok (.aload_n 0, 1) := by decide +kernel
theorem d_Bits_nextValue_28 : decode prog_2_method_8_code 28 = .ok (.dup, 1) := by decide +kernel
theorem d_Bits_nextValue_29 : decode prog_2_method_8_code 29 = .ok (.getfield 48, 3) := by decide +kernel
theorem d_Bits_nextValue_32 : decode prog_2_method_8_code 32 = .ok (.iconst 1, 1) := by decide +kernel
theorem d_Bits_nextValue_33 : decode prog_2_method_8_code 33 = .ok (.lushr, 1) := by decide +kernel
theorem d_Bits_nextValue_34 : decode prog_2_method_8_code 34 = .ok (.putfield 48, 3) := by decide +kernel
theorem d_Bits_nextValue_37 : decode prog_2_method_8_code 37 = .ok (.aload_n 0, 1) := by decide +kernel
theorem d_Bits_nextValue_38 : decode prog_2_method_8_code 38 = .ok (.getfield 45, 3) := by decide +kernel
theorem d_Bits_nextValue_41 : decode prog_2_method_8_code 41 = .ok (.aload_n 0, 1) := by decide +kernel
theorem d_Bits_nextValue_42 : decode prog_2_method_8_code 42 = .ok (.getfield 48, 3) := by decide +kernel
theorem d_Bits_nextValue_45 : decode prog_2_method_8_code 45 = .ok (.lcmp, 1) := by decide +kernel
theorem d_Bits_nextValue_46 : decode prog_2_method_8_code 46 = .ok (.ifCond .ge 7, 3) := by decide +kernel
theorem d_Bits_nextValue_49 : decode prog_2_method_8_code 49 = .ok (.iconst 0, 1) := by decide +kernel
theorem d_Bits_nextValue_50 : decode prog_2_method_8_code 50 = .ok (.goto 4, 3) := by decide +kernel
theorem d_Bits_nextValue_53 : decode prog_2_method_8_code 53 = .ok (.iconst 1, 1) := by decide +kernel
theorem d_Bits_nextValue_54 : decode prog_2_method_8_code 54 = .ok (.istore 4, 2) := by decide +kernel
theorem d_Bits_nextValue_56 : decode prog_2_method_8_code 56 = .ok (.aload_n 0, 1) := by decide +kernel
theorem d_Bits_nextValue_57 : decode prog_2_method_8_code 57 = .ok (.dup, 1) := by decide +kernel
theorem d_Bits_nextValue_58 : decode prog_2_method_8_code 58 = .ok (.getfield 45, 3) := by decide +kernel
theorem d_Bits_nextValue_61 : decode prog_2_method_8_code 61 = .ok (.iload 4, 2) := by decide +kernel
theorem d_Bits_nextValue_63 : decode prog_2_method_8_code 63 = .ok (.i2l, 1) := by decide +kernel
theorem d_Bits_nextValue_64 : decode prog_2_method_8_code 64 = .ok (.aload_n 0, 1) := by decide +kernel
theorem d_Bits_nextValue_65 : decode prog_2_method_8_code 65 = .ok (.getfield 48, 3) := by decide +kernel
theorem d_Bits_nextValue_68 : decode prog_2_method_8_code 68 = .ok (.lmul, 1) := by decide +kernel
theorem d_Bits_nextValue_69 : decode prog_2_method_8_code 69 = .ok (.lsub, 1) := by decide +kernel
theorem d_Bits_nextValue_70 : decode prog_2_method_8_code 70 = .ok (.putfield 45, 3) := by decide +kernel
theorem d_Bits_nextValue_73 : decode prog_2_method_8_code 73 = .ok (.aload_n 0, 1) := by decide +kernel
theorem d_Bits_nextValue_74 : decode prog_2_method_8_code 74 = .ok (.getfield 45, 3) := by decide +kernel
theorem d_Bits_nextValue_77 : decode prog_2_method_8_code 77 = .ok (.aload_n 0, 1) := by decide +kernel
theorem d_Bits_nextValue_78 : decode prog_2_method_8_code 78 = .ok (.getfield 48, 3) := by decide +kernel
theorem d_Bits_nextValue_81 : decode prog_2_method_8_code 81 = .ok (.lcmp, 1) := by decide +kernel
theorem d_Bits_nextValue_82 : decode prog_2_method_8_code 82 = .ok (.ifCond .lt 8, 3) := by decide +kernel
theorem d_Bits_nextValue_85 : decode prog_2_method_8_code 85 = .ok (.aload_n 0, 1) := by decide +kernel
theorem d_Bits_nextValue_86 : decode prog_2_method_8_code 86 = .ok (.invokevirtual 58, 3) := by decide +kernel
theorem d_Bits_nextValue_89 : decode prog_2_method_8_code 89 = .ok (.ireturn, 1) := by decide +kernel
theorem d_Bits_nextValue_90 : decode prog_2_method_8_code 90 = .ok (.iconst 2, 1) := by decide +kernel
theorem d_Bits_nextValue_91 : decode prog_2_method_8_code 91 = .ok (.iload_n 2, 1) := by decide +kernel
theorem d_Bits_nextValue_92 : decode prog_2_method_8_code 92 = .ok (.imul, 1) := by decide +kernel
theorem d_Bits_nextValue_93 : decode prog_2_method_8_code 93 = .ok (.iload 4, 2) := by decide +kernel
theorem d_Bits_nextValue_95 : decode prog_2_method_8_code 95 = .ok (.iadd, 1) := by decide +kernel
theorem d_Bits_nextValue_96 : decode prog_2_method_8_code 96 = .ok (.istore_n 2, 1) := by decide +kernel
theorem d_Bits_nextValue_97 : decode prog_2_method_8_code 97 = .ok (.aload_n 0, 1) := by decide +kernel
theorem d_Bits_nextValue_98 : decode prog_2_method_8_code 98 = .ok (.invokevirtual 62, 3) := by decide +kernel
theorem d_Bits_nextValue_101 : decode prog_2_method_8_code 101 = .ok (.iinc 3 1, 3) := by decide +kernel
theorem d_Bits_nextValue_104 : decode prog_2_method_8_code 104 = .ok (.goto (-82), 3) := by decide +kernel
theorem d_Bits_nextValue_107 : decode prog_2_method_8_code 107 = .ok (.iload_n 2, 1) := by decide +kernel
theorem d_Bits_nextValue_108 : decode prog_2_method_8_code 108 = .ok (.ireturn, 1) := by decide +kernel
theorem d_Ranged_nextValue_0 : decode prog_8_method_12_code 0 = .ok (.aload_n 0, 1) := by decide +kernel
theorem d_Ranged_nextValue_1 : decode prog_8_method_12_code 1 = .ok (.iconst 1, 1) := by decide +kernel
theorem d_Ranged_nextValue_2 : decode prog_8_method_12_code 2 = .ok (.iload_n 1, 1) := by decide +kernel
theorem d_Ranged_nextValue_3 : decode prog_8_method_12_code 3 = .ok (.ishl, 1) := by decide +kernel
theorem d_Ranged_nextValue_4 : decode prog_8_method_12_code 4 = .ok (.invokevirtual 73, 3) := by decide +kernel
theorem d_Ranged_nextValue_7 : decode prog_8_method_12_code 7 = .ok (.istore_n 2, 1) := by decide +kernel
theorem d_Ranged_nextValue_8 : decode prog_8_method_12_code 8 = .ok (.iload_n 2, 1) := by decide +kernel
theorem d_Ranged_nextValue_9 : decode prog_8_method_12_code 9 = .ok (.iconst (-1), 1) := by decide +kernel
theorem d_Ranged_nextValue_10 : decode prog_8_method_12_code 10 = .ok (.if_icmp .eq 12, 3) := by decide +kernel
theorem d_Ranged_nextValue_13 : decode prog_8_method_12_code 13 = .ok (.aload_n 0, 1) := by decide +kernel
theorem d_Ranged_nextValue_14 : decode prog_8_method_12_code 14 = .ok (.iconst 1, 1) := by decide +kernel
theorem d_Ranged_nextValue_15 : decode prog_8_method_12_code 15 = .ok (.iload_n 2, 1) := by decide +kernel
theorem d_Ranged_nextValue_16 : decode prog_8_method_12_code 16 = .ok (.iconst 1, 1) := by decide +kernel
theorem d_Ranged_nextValue_17 : decode prog_8_method_12_code 17 = .ok (.iload_n 1, 1) := by decide +kernel
theorem d_Ranged_nextValue_18 : decode prog_8_method_12_code 18 = .ok (.ishl, 1) := by decide +kernel
theorem d_Ranged_nextValue_19 : decode prog_8_method_12_code 19 = .ok (.invokevirtual 79, 3) := by decide +kernel
theorem d_Ranged_nextValue_22 : decode prog_8_method_12_code 22 = .ok (.iload_n 2, 1) := by decide +kernel
theorem d_Ranged_nextValue_23 : decode prog_8_method_12_code 23 = .ok (.ireturn, 1) := by decide +kernel
theorem d_Stack_nextValue_0 : decode prog_10_method_9_code 0 = .ok (.aload_n 0, 1) := by decide +kernel
theorem d_Stack_nextValue_1 : decode prog_10_method_9_code 1 = .ok (.getfield 54, 3) := by decide +kernel
theorem d_Stack_nextValue_4 : decode prog_10_method_9_code 4 = .ok (.ldc2_w 57, 3) := by decide +kernel
theorem d_Stack_nextValue_7 : decode prog_10_method_9_code 7 = .ok (.land, 1) := by decide +kernel
theorem d_Stack_nextValue_8 : decode prog_10_method_9_code 8 = .ok (.l2i, 1) := by decide +kernel
theorem d_Stack_nextValue_9 : decode prog_10_method_9_code 9 = .ok (.istore_n 2, 1) := by decide +kernel
theorem d_Stack_nextValue_10 : decode prog_10_method_9_code 10 = .ok (.sipush 4096, 3) := by decide +kernel
theorem d_Stack_nextValue_13 : decode prog_10_method_9_code 13 = .ok (.iload_n 1, 1) := by decide +kernel
theorem d_Stack_nextValue_14 : decode prog_10_method_9_code 14 = .ok (.ishr, 1) := by decide +kernel
theorem d_Stack_nextValue_15 : decode prog_10_method_9_code 15 = .ok (.istore_n 3, 1) := by decide +kernel
theorem d_Stack_nextValue_16 : decode prog_10_method_9_code 16 = .ok (.iload_n 3, 1) := by decide +kernel
theorem d_Stack_nextValue_17 : decode prog_10_method_9_code 17 = .ok (.ifCond .gt 5, 3) := by decide +kernel
theorem d_Stack_nextValue_20 : decode prog_10_method_9_code 20 = .ok (.iconst (-1), 1) := by decide +kernel
theorem d_Stack_nextValue_21 : decode prog_10_method_9_code 21 = .ok (.ireturn, 1) := by decide +kernel
theorem d_Stack_nextValue_22 : decode prog_10_method_9_code 22 = .ok (.aload_n 0, 1) := by decide +kernel
theorem d_Stack_nextValue_23 : decode prog_10_method_9_code 23 = .ok (.iload_n 3, 1) := by decide +kernel
theorem d_Stack_nextValue_24 : decode prog_10_method_9_code 24 = .ok (.iload_n 2, 1) := by decide +kernel
theorem d_Stack_nextValue_25 : decode prog_10_method_9_code 25 = .ok (.iload_n 3, 1) := by decide +kernel
theorem d_Stack_nextValue_26 : decode prog_10_method_9_code 26 = .ok (.irem, 1) := by decide +kernel
theorem d_Stack_nextValue_27 : decode prog_10_method_9_code 27 = .ok (.invokevirtual 62, 3) := by decide +kernel
theorem d_Stack_nextValue_30 : decode prog_10_method_9_code 30 = .ok (.iload_n 2, 1) := by decide +kernel
theorem d_Stack_nextValue_31 : decode prog_10_method_9_code 31 = .ok (.iload_n 3, 1) := by decide +kernel
theorem d_Stack_nextValue_32 : decode prog_10_method_9_code 32 = .ok (.idiv, 1) := by decide +kernel
theorem d_Stack_nextValue_33 : decode prog_10_method_9_code 33 = .ok (.ireturn, 1) := by decide +kernel
theorem d_RC_told_0 : decode prog_1_method_15_code 0 = .ok (.iload_n 1, 1) := by decide +kernel
theorem d_RC_told_1 : decode prog_1_method_15_code 1 = .ok (.ifCond .lt 9, 3) := by decide +kernel
theorem d_RC_told_4 : decode prog_1_method_15_code 4 = .ok (.iload_n 1, 1) := by decide +kernel
theorem d_RC_told_5 : decode prog_1_method_15_code 5 = .ok (.bipush 7, 2) := by decide +kernel
theorem d_RC_told_7 : decode prog_1_method_15_code 7 = .ok (.if_icmp .le 6, 3) := by decide +kernel
theorem d_RC_told_10 : decode prog_1_method_15_code 10 = .ok (.bipush (-2), 2) := by decide +kernel
theorem d_RC_told_12 : decode prog_1_method_15_code 12 = .ok (.ireturn, 1) := by decide +kernel
theorem d_RC_told_13 : decode prog_1_method_15_code 13 = .ok (.iload_n 1, 1) := by decide +kernel
theorem d_RC_told_14 : decode prog_1_method_15_code 14 = .ok (.tableswitch 119 0 6 #[42, 47, 60, 71, 82, 87, 106], 42) := by decide +kernel
theorem d_RC_told_56 : decode prog_1_method_15_code 56 = .ok (.aload_n 0, 1) := by decide +kernel
theorem d_RC_told_57 : decode prog_1_method_15_code 57 = .ok (.getfield 63, 3) := by decide +kernel
theorem d_RC_told_60 : decode prog_1_method_15_code 60 = .ok (.ireturn, 1) := by decide +kernel
theorem d_RC_told_61 : decode prog_1_method_15_code 61 = .ok (.aload_n 0, 1) := by decide +kernel
theorem d_RC_told_62 : decode prog_1_method_15_code 62 = .ok (.getfield 66, 3) := by decide +kernel
theorem d_RC_told_65 : decode prog_1_method_15_code 65 = .ok (.ifCond .eq 7, 3) := by decide +kernel
theorem d_RC_told_68 : decode prog_1_method_15_code 68 = .ok (.iconst 1, 1) := by decide +kernel
theorem d_RC_told_69 : decode prog_1_method_15_code 69 = .ok (.goto 4, 3) := by decide +kernel
theorem d_RC_told_72 : decode prog_1_method_15_code 72 = .ok (.iconst 0, 1) := by decide +kernel
theorem d_RC_told_73 : decode prog_1_method_15_code 73 = .ok (.ireturn, 1) := by decide +kernel
theorem d_RC_told_74 : decode prog_1_method_15_code 74 = .ok (.aload_n 0, 1) := by decide +kernel
theorem d_RC_told_75 : decode prog_1_method_15_code 75 = .ok (.getfield 23, 3) := by decide +kernel
theorem d_RC_told_78 : decode prog_1_method_15_code 78 = .ok (.getfield 91, 3) := by decide +kernel
theorem d_RC_told_81 : decode prog_1_method_15_code 81 = .ok (.getfield 95, 3) := by decide +kernel
theorem d_RC_told_84 : decode prog_1_method_15_code 84 = .ok (.ireturn, 1) := by decide +kernel
theorem d_RC_told_85 : decode prog_1_method_15_code 85 = .ok (.aload_n 0, 1) := by decide +kernel
theorem d_RC_told_86 : decode prog_1_method_15_code 86 = .ok (.getfield 23, 3) := by decide +kernel
theorem d_RC_told_89 : decode prog_1_method_15_code 89 = .ok (.getfield 107, 3) := by decide +kernel
theorem d_RC_told_92 : decode prog_1_method_15_code 92 = .ok (.getfield 95, 3) := by decide +kernel
theorem d_RC_told_95 : decode prog_1_method_15_code 95 = .ok (.ireturn, 1) := by decide +kernel
theorem d_RC_told_96 : decode prog_1_method_15_code 96 = .ok (.aload_n 0, 1) := by decide +kernel
theorem d_RC_told_97 : decode prog_1_method_15_code 97 = .ok (.getfield 126, 3) := by decide +kernel
theorem d_RC_told_100 : decode prog_1_method_15_code 100 = .ok (.ireturn, 1) := by decide +kernel
theorem d_RC_told_101 : decode prog_1_method_15_code 101 = .ok (.aload_n 0, 1) := by decide +kernel
theorem d_RC_told_102 : decode prog_1_method_15_code 102 = .ok (.getfield 70, 3) := by decide +kernel
theorem d_RC_told_105 : decode prog_1_method_15_code 105 = .ok (.ifCond .eq 13, 3) := by decide +kernel
theorem d_RC_told_108 : decode prog_1_method_15_code 108 = .ok (.aload_n 0, 1) := by decide +kernel
theorem d_RC_told_109 : decode prog_1_method_15_code 109 = .ok (.getfield 23, 3) := by decide +kernel
theorem d_RC_told_112 : decode prog_1_method_15_code 112 = .ok (.invokevirtual 149, 3) := by decide +kernel
theorem d_RC_told_115 : decode prog_1_method_15_code 115 = .ok (.goto 4, 3) := by decide +kernel
theorem d_RC_told_118 : decode prog_1_method_15_code 118 = .ok (.iconst 0, 1) := by decide +kernel
theorem d_RC_told_119 : decode prog_1_method_15_code 119 = .ok (.ireturn, 1) := by decide +kernel
theorem d_RC_told_120 : decode prog_1_method_15_code 120 = .ok (.aload_n 0, 1) := by decide +kernel
theorem d_RC_told_121 : decode prog_1_method_15_code 121 = .ok (.getfield 123, 3) := by decide +kernel
theorem d_RC_told_124 : decode prog_1_method_15_code 124 = .ok (.ifCond .eq 7, 3) := by decide +kernel
theorem d_RC_told_127 : decode prog_1_method_15_code 127 = .ok (.iconst 1, 1) := by decide +kernel
theorem d_RC_told_128 : decode prog_1_method_15_code 128 = .ok (.goto 4, 3) := by decide +kernel
theorem d_RC_told_131 : decode prog_1_method_15_code 131 = .ok (.iconst 0, 1) := by decide +kernel
theorem d_RC_told_132 : decode prog_1_method_15_code 132 = .ok (.ireturn, 1) := by decide +kernel
theorem d_RC_told_133 : decode prog_1_method_15_code 133 = .ok (.aload_n 0, 1) := by decide +kernel
theorem d_RC_told_134 : decode prog_1_method_15_code 134 = .ok (.getfield 70, 3) := by decide +kernel
theorem d_RC_told_137 : decode prog_1_method_15_code 137 = .ok (.ifCond .eq 7, 3) := by decide +kernel
theorem d_RC_told_140 : decode prog_1_method_15_code 140 = .ok (.iconst 1, 1) := by decide +kernel
theorem d_RC_told_141 : decode prog_1_method_15_code 141 = .ok (.goto 4, 3) := by decide +kernel
theorem d_RC_told_144 : decode prog_1_method_15_code 144 = .ok (.iconst 0, 1) := by decide +kernel
theorem d_RC_told_145 : decode prog_1_method_15_code 145 = .ok (.ireturn, 1) := by decide +kernel
theorem d_Table_bytesAsked_0 : decode prog_12_method_5_code 0 = .ok (.aload_n 0, 1) := by decide +kernel
theorem d_Table_bytesAsked_1 : decode prog_12_method_5_code 1 = .ok (.getfield 23, 3) := by decide +kernel
theorem d_Table_bytesAsked_4 : decode prog_12_method_5_code 4 = .ok (.bipush 7, 2) := by decide +kernel
theorem d_Table_bytesAsked_6 : decode prog_12_method_5_code 6 = .ok (.iadd, 1) := by decide +kernel
theorem d_Table_bytesAsked_7 : decode prog_12_method_5_code 7 = .ok (.bipush 8, 2) := by decide +kernel
theorem d_Table_bytesAsked_9 : decode prog_12_method_5_code 9 = .ok (.idiv, 1) := by decide +kernel
theorem d_Table_bytesAsked_10 : decode prog_12_method_5_code 10 = .ok (.ireturn, 1) := by decide +kernel
theorem d_Coder_bytesAsked_0 : decode prog_4_method_14_code 0 = .ok (.aload_n 0, 1) := by decide +kernel
theorem d_Coder_bytesAsked_1 : decode prog_4_method_14_code 1 = .ok (.getfield 31, 3) := by decide +kernel
theorem d_Coder_bytesAsked_4 : decode prog_4_method_14_code 4 = .ok (.ireturn, 1) := by decide +kernel
theorem d_RC_state_0 : decode prog_1_method_16_code 0 = .ok (.iload_n 1, 1) := by decide +kernel
theorem d_RC_state_1 : decode prog_1_method_16_code 1 = .ok (.ifCond .lt 8, 3) := by decide +kernel
theorem d_RC_state_4 : decode prog_1_method_16_code 4 = .ok (.iload_n 1, 1) := by decide +kernel
theorem d_RC_state_5 : decode prog_1_method_16_code 5 = .ok (.iconst 5, 1) := by decide +kernel
theorem d_RC_state_6 : decode prog_1_method_16_code 6 = .ok (.if_icmp .le 7, 3) := by decide +kernel
theorem d_RC_state_9 : decode prog_1_method_16_code 9 = .ok (.ldc2_w 153, 3) := by decide +kernel
theorem d_RC_state_12 : decode prog_1_method_16_code 12 = .ok (.lreturn, 1) := by decide +kernel
theorem d_RC_state_13 : decode prog_1_method_16_code 13 = .ok (.iload_n 1, 1) := by decide +kernel
theorem d_RC_state_14 : decode prog_1_method_16_code 14 = .ok (.iconst 1, 1) := by decide +kernel
theorem d_RC_state_15 : decode prog_1_method_16_code 15 = .ok (.if_icmp .le 12, 3) := by decide +kernel
theorem d_RC_state_18 : decode prog_1_method_16_code 18 = .ok (.aload_n 0, 1) := by decide +kernel
theorem d_RC_state_19 : decode prog_1_method_16_code 19 = .ok (.getfield 70, 3) := by decide +kernel
theorem d_RC_state_22 : decode prog_1_method_16_code 22 = .ok (.ifCond .ne 5, 3) := by decide +kernel
theorem d_RC_state_25 : decode prog_1_method_16_code 25 = .ok (.lconst 0, 1) := by decide +kernel
theorem d_RC_state_26 : decode prog_1_method_16_code 26 = .ok (.lreturn, 1) := by decide +kernel
theorem d_RC_state_27 : decode prog_1_method_16_code 27 = .ok (.aload_n 0, 1) := by decide +kernel
theorem d_RC_state_28 : decode prog_1_method_16_code 28 = .ok (.getfield 23, 3) := by decide +kernel
theorem d_RC_state_31 : decode prog_1_method_16_code 31 = .ok (.iload_n 1, 1) := by decide +kernel
theorem d_RC_state_32 : decode prog_1_method_16_code 32 = .ok (.invokevirtual 155, 3) := by decide +kernel
theorem d_RC_state_35 : decode prog_1_method_16_code 35 = .ok (.lreturn, 1) := by decide +kernel
theorem d_Ranged_register_0 : decode prog_8_method_13_code 0 = .ok (.iload_n 1, 1) := by decide +kernel
theorem d_Ranged_register_1 : decode prog_8_method_13_code 1 = .ok (.tableswitch 60 0 4 #[35, 40, 45, 50, 55], 35) := by decide +kernel
theorem d_Ranged_register_36 : decode prog_8_method_13_code 36 = .ok (.aload_n 0, 1) := by decide +kernel
theorem d_Ranged_register_37 : decode prog_8_method_13_code 37 = .ok (.getfield 32, 3) := by decide +kernel
theorem d_Ranged_register_40 : decode prog_8_method_13_code 40 = .ok (.lreturn, 1) := by decide +kernel
theorem d_Ranged_register_41 : decode prog_8_method_13_code 41 = .ok (.aload_n 0, 1) := by decide +kernel
theorem d_Ranged_register_42 : decode prog_8_method_13_code 42 = .ok (.getfield 11, 3) := by decide +kernel
theorem d_Ranged_register_45 : decode prog_8_method_13_code 45 = .ok (.lreturn, 1) := by decide +kernel
theorem d_Ranged_register_46 : decode prog_8_method_13_code 46 = .ok (.aload_n 0, 1) := by decide +kernel
theorem d_Ranged_register_47 : decode prog_8_method_13_code 47 = .ok (.getfield 64, 3) := by decide +kernel
theorem d_Ranged_register_50 : decode prog_8_method_13_code 50 = .ok (.lreturn, 1) := by decide +kernel
theorem d_Ranged_register_51 : decode prog_8_method_13_code 51 = .ok (.aload_n 0, 1) := by decide +kernel
theorem d_Ranged_register_52 : decode prog_8_method_13_code 52 = .ok (.getfield 67, 3) := by decide +kernel
theorem d_Ranged_register_55 : decode prog_8_method_13_code 55 = .ok (.lreturn, 1) := by decide +kernel
theorem d_Ranged_register_56 : decode prog_8_method_13_code 56 = .ok (.aload_n 0, 1) := by decide +kernel
theorem d_Ranged_register_57 : decode prog_8_method_13_code 57 = .ok (.getfield 70, 3) := by decide +kernel
theorem d_Ranged_register_60 : decode prog_8_method_13_code 60 = .ok (.lreturn, 1) := by decide +kernel
theorem d_Ranged_register_61 : decode prog_8_method_13_code 61 = .ok (.lconst 0, 1) := by decide +kernel
theorem d_Ranged_register_62 : decode prog_8_method_13_code 62 = .ok (.lreturn, 1) := by decide +kernel
theorem d_Stacked_register_0 : decode prog_11_method_10_code 0 = .ok (.iload_n 1, 1) := by decide +kernel
theorem d_Stacked_register_1 : decode prog_11_method_10_code 1 = .ok (.iconst 5, 1) := by decide +kernel
theorem d_Stacked_register_2 : decode prog_11_method_10_code 2 = .ok (.if_icmp .ne 10, 3) := by decide +kernel
theorem d_Stacked_register_5 : decode prog_11_method_10_code 5 = .ok (.aload_n 0, 1) := by decide +kernel
theorem d_Stacked_register_6 : decode prog_11_method_10_code 6 = .ok (.getfield 61, 3) := by decide +kernel
theorem d_Stacked_register_9 : decode prog_11_method_10_code 9 = .ok (.goto 4, 3) := by decide +kernel
theorem d_Stacked_register_12 : decode prog_11_method_10_code 12 = .ok (.lconst 0, 1) := by decide +kernel
theorem d_Stacked_register_13 : decode prog_11_method_10_code 13 = .ok (.lreturn, 1) := by decide +kernel
theorem d_RC_chance_0 : decode prog_1_method_17_code 0 = .ok (.aload_n 0, 1) := by decide +kernel
theorem d_RC_chance_1 : decode prog_1_method_17_code 1 = .ok (.iload_n 1, 1) := by decide +kernel
theorem d_RC_chance_2 : decode prog_1_method_17_code 2 = .ok (.invokevirtual 55, 3) := by decide +kernel
theorem d_RC_chance_5 : decode prog_1_method_17_code 5 = .ok (.astore_n 3, 1) := by decide +kernel
theorem d_RC_chance_6 : decode prog_1_method_17_code 6 = .ok (.aload_n 3, 1) := by decide +kernel
theorem d_RC_chance_7 : decode prog_1_method_17_code 7 = .ok (.ifnull 14, 3) := by decide +kernel
theorem d_RC_chance_10 : decode prog_1_method_17_code 10 = .ok (.aload_n 3, 1) := by decide +kernel
theorem d_RC_chance_11 : decode prog_1_method_17_code 11 = .ok (.getfield 40, 3) := by decide +kernel
theorem d_RC_chance_14 : decode prog_1_method_17_code 14 = .ok (.iload_n 2, 1) := by decide +kernel
theorem d_RC_chance_15 : decode prog_1_method_17_code 15 = .ok (.invokevirtual 159, 3) := by decide +kernel
theorem d_RC_chance_18 : decode prog_1_method_17_code 18 = .ok (.ifCond .ne 5, 3) := by decide +kernel
theorem d_RC_chance_21 : decode prog_1_method_17_code 21 = .ok (.iconst (-1), 1) := by decide +kernel
theorem d_RC_chance_22 : decode prog_1_method_17_code 22 = .ok (.ireturn, 1) := by decide +kernel
theorem d_RC_chance_23 : decode prog_1_method_17_code 23 = .ok (.aload_n 3, 1) := by decide +kernel
theorem d_RC_chance_24 : decode prog_1_method_17_code 24 = .ok (.getfield 40, 3) := by decide +kernel
theorem d_RC_chance_27 : decode prog_1_method_17_code 27 = .ok (.iload_n 2, 1) := by decide +kernel
theorem d_RC_chance_28 : decode prog_1_method_17_code 28 = .ok (.invokevirtual 164, 3) := by decide +kernel
theorem d_RC_chance_31 : decode prog_1_method_17_code 31 = .ok (.ireturn, 1) := by decide +kernel
end
section
set_option maxHeartbeats 2000000 in
set_option maxRecDepth 100000 in
theorem c_Arrays_fill (l : Launch) (dC : Nat → ClassId) (dI : Nat → Nat → Nat) (cI cM cO : ClassId) (sz : Nat) (aa : Nat) (al : Nat) (af : Nat → Int32) (vv : Int32) (hal : al ≤ 16384) : MetV l y_Arrays_fill (Cond.code y_Arrays_fill prog_18_method_103_code 4 none :: gw) ({ frames := 0, cells := 0, slots := 0, locals := 0 } : Room) (dC, dI) vwCl (kT cI cM cO) [Value.ref aa, Value.int vv] [(aa, Sum.inl (cI, al, Sum.inl af))] sz (fun (u : (Nat → Int32)) => True) (fun (u : (Nat → Int32)) => [(aa, Sum.inl (cI, al, Sum.inl u))]) 0 0 := by
  refine my_ofV (cc := prog_18_method_103_code) (n := 4) (ret := none) (by decide) rfl (Nat.le_of_ble_eq_true rfl) ?_
  intro p e s m args below meth c R Q A ls H locs hx hb hr hts hown hlocks hml hnm hR hQ hA hl hP hK hN hD hS
  have hg : ∀ w ∈ gw, w.before args s = true := fun w h => hts w (List.mem_cons_of_mem _ h)
  have hown : s.vm.findClass "java/util/Arrays" = some m.cls := hown
  have hl : lv_has ls 4 [(0, Value.ref aa), (1, Value.int vv)] := hl
  refine lv_iconst (v := 0) hx hb d_Arrays_fill_0 (by decide) ?_
  refine lv_istore_n (lv' := [(2, Value.int 0), (0, Value.ref aa), (1, Value.int vv)]) hx hb d_Arrays_fill_1 rfl hl (by decide) rfl (fun ls hl => ?_)
  refine lv_aload_n hx hb d_Arrays_fill_2 rfl (lv_at hl 1 rfl) ?_
  refine va_alen hx hb hK hP 0 0 rfl rfl (v := nI al) rfl d_Arrays_fill_3 ?_
  refine lv_istore_n (lv' := [(3, Value.int (nI al)), (2, Value.int 0), (0, Value.ref aa), (1, Value.int vv)]) hx hb d_Arrays_fill_4 rfl hl (by decide) rfl (fun ls hl => ?_)
  have J_5 : ∀ (n9_5 : Nat) (b5_0 : Int32) (b5_1 : Nat → Int32) (hn9_5 : ((nI al).toInt - b5_0.toInt).toNat = n9_5) (hi_5 : 0 ≤ b5_0.toInt) (H : Heap) (locs : List Loc) (ls : Array Slot), va_P (dC, dI) vwCl [(aa, Sum.inl (cI, al, Sum.inl b5_1))] H → va_D A [(aa, Sum.inl (cI, al, Sum.inl b5_1))] → va_S A s.heap H locs → lv_has ls 4 [(3, Value.int (nI al)), (2, Value.int b5_0), (0, Value.ref aa), (1, Value.int vv)] → W p l e R s m args below meth c H locs 0 0 Q (F0 m 5 ls []) := by
    intro n9_5
    induction n9_5 using Nat.strongRecOn with
    | ind n9_5 ih9_5 =>
      intro b5_0 b5_1 hn9_5 hi_5 H locs ls hP hD hS hl
      refine lv_iload_n hx hb d_Arrays_fill_5 rfl (lv_at hl 1 rfl) ?_
      refine lv_iload_n hx hb d_Arrays_fill_6 rfl (lv_at hl 0 rfl) ?_
      refine lv_icmp_ge (tgt := 20) hx hb d_Arrays_fill_7 (by decide) (fun c_1 => ?_) (fun c_1 => ?_)
      · exact my_vret hx hb hr hlocks hQ hK hS (Nat.le_refl _) (Nat.le_refl _) (b5_1) (trivial) (hP.sub [0] rfl) (hD.sub [0] (by decide +kernel) rfl) d_Arrays_fill_20
      · refine lv_aload_n hx hb d_Arrays_fill_10 rfl (lv_at hl 2 rfl) ?_
        refine lv_iload_n hx hb d_Arrays_fill_11 rfl (lv_at hl 1 rfl) ?_
        refine lv_iload_n hx hb d_Arrays_fill_12 rfl (lv_at hl 3 rfl) ?_
        refine va_iast hx hb hK hP hD hS 0 0 rfl rfl (by first | assumption | exact I_in (by omega) (by assumption) (by assumption) | exact I_in' (by omega) (by assumption) (by assumption)) d_Arrays_fill_13 (fun H locs hP hD hS => ?_)
        have hPD : my_PD (dC, dI) vwCl A [(aa, Sum.inl (cI, al, Sum.inl (upd b5_1 b5_0.toNatClampNeg vv)))] H := ⟨hP, hD⟩
        have hP := hPD.1
        have hD := hPD.2
        obtain ⟨v_2, ev_2⟩ : ∃ y : Int32, y = b5_0 + (1) := ⟨_, rfl⟩
        refine lv_iinc (v := v_2) (lv' := [(2, Value.int v_2), (3, Value.int (nI al)), (0, Value.ref aa), (1, Value.int vv)]) hx hb d_Arrays_fill_14 hl (k := 1) rfl (by rw [ev_2]; rfl) (by decide) rfl (fun ls hl => ?_)
        refine lv_goto (tgt := 5) hx hb d_Arrays_fill_17 (by decide) ?_
        exact ih9_5 _ (by first | omega | (have z9 := I_up c_1 ev_2; omega)) v_2 (upd b5_1 b5_0.toNatClampNeg vv) rfl (by have z9 := I_up c_1 ev_2; omega) H locs ls (hP.sub [0] rfl) (hD.sub [0] (by decide +kernel) rfl) hS (lv_sub hl [1, 0, 2, 3] rfl)
  exact J_5 _ (0 : Int32) af rfl (by first | decide | assumption | omega) H locs ls (hP.sub [0] rfl) (hD.sub [0] (by decide +kernel) rfl) hS (lv_sub hl [0, 1, 2, 3] rfl)
set_option maxHeartbeats 2000000 in
set_option maxRecDepth 100000 in
theorem c_Row_has (l : Launch) (dC : Nat → ClassId) (dI : Nat → Nat → Nat) (cI cM cO : ClassId) (sz : Nat) (rr : Nat) (rrn : Int32) (rra : Nat) (rrk : Nat) (rrf : Nat → Int32) (ii : Int32) (hrr : rOk rrn rrk) : MetI l y_Row_has (Cond.code y_Row_has prog_9_method_2_code 2 (some .boolean) :: gw) ({ frames := 0, cells := 0, slots := 0, locals := 0 } : Room) (dC, dI) vwCl (kT cI cM cO) [Value.ref rr, Value.int ii] [(rr, Sum.inr (0, [Value.int rrn, Value.ref rra])), (rra, Sum.inl (cI, rrk, Sum.inl rrf))] sz (fun (r : Int32) (u : Unit) => r ≠ 0 → vp_in ii rrk) (fun (u : Unit) => [(rr, Sum.inr (0, [Value.int rrn, Value.ref rra])), (rra, Sum.inl (cI, rrk, Sum.inl rrf))]) 0 0 := by
  refine my_ofI (cc := prog_9_method_2_code) (n := 2) (ret := (some .boolean)) (by decide) rfl (Nat.le_of_ble_eq_true rfl) ?_
  intro p e s m args below meth c R Q A ls H locs hx hb hr hts hown hlocks hml hnm hR hQ hA hl hP hK hN hD hS
  have hg : ∀ w ∈ gw, w.before args s = true := fun w h => hts w (List.mem_cons_of_mem _ h)
  have hown : s.vm.findClass "RangeCoders$Row" = some m.cls := hown
  have hl : lv_has ls 2 [(0, Value.ref rr), (1, Value.int ii)] := hl
  have hlt9 := rOk_lt hrr
  refine lv_iload_n hx hb d_Row_has_0 rfl (lv_at hl 1 rfl) ?_
  refine lv_if_lt (tgt := 25) hx hb d_Row_has_1 (by decide) (fun c_1 => ?_) (fun c_1 => ?_)
  · refine lv_iconst (v := 0) hx hb d_Row_has_25 (by decide) ?_
    exact my_iret (v := 0) hx hb hr (rfl) hlocks hQ hK hS (Nat.le_refl _) (Nat.le_refl _) () (fun h9 => absurd rfl h9) (hP.sub [0, 1] rfl) (hD.sub [0, 1] (by decide +kernel) rfl) d_Row_has_26
  · refine lv_iload_n hx hb d_Row_has_4 rfl (lv_at hl 1 rfl) ?_
    refine lv_aload_n hx hb d_Row_has_5 rfl (lv_at hl 0 rfl) ?_
    refine va_get (D := (dC, dI)) (ci := 0) (v := .int rrn) (C := "RangeCoders$Row") (T := T_Row) (N := 2) hx hb hg in_Row hown hK hP 0 rfl rfl 0 (by decide) (hg _ k57) (fun _ h9 => h9) rfl d_Row_has_6 ?_
    refine lv_icmp_ge (tgt := 25) hx hb d_Row_has_9 (by decide) (fun c_2 => ?_) (fun c_2 => ?_)
    · refine lv_iconst (v := 0) hx hb d_Row_has_25 (by decide) ?_
      exact my_iret (v := 0) hx hb hr (rfl) hlocks hQ hK hS (Nat.le_refl _) (Nat.le_refl _) () (fun h9 => absurd rfl h9) (hP.sub [0, 1] rfl) (hD.sub [0, 1] (by decide +kernel) rfl) d_Row_has_26
    · refine lv_iload_n hx hb d_Row_has_12 rfl (lv_at hl 1 rfl) ?_
      refine lv_aload_n hx hb d_Row_has_13 rfl (lv_at hl 0 rfl) ?_
      refine va_get (D := (dC, dI)) (ci := 0) (v := .ref rra) (C := "RangeCoders$Row") (T := T_Row) (N := 2) hx hb hg in_Row hown hK hP 0 rfl rfl 1 (by decide) (hg _ k60) (fun _ h9 => h9) rfl d_Row_has_14 ?_
      refine va_alen hx hb hK hP 1 0 rfl rfl (v := nI rrk) rfl d_Row_has_17 ?_
      refine lv_icmp_ge (tgt := 25) hx hb d_Row_has_18 (by decide) (fun c_3 => ?_) (fun c_3 => ?_)
      · refine lv_iconst (v := 0) hx hb d_Row_has_25 (by decide) ?_
        exact my_iret (v := 0) hx hb hr (rfl) hlocks hQ hK hS (Nat.le_refl _) (Nat.le_refl _) () (fun h9 => absurd rfl h9) (hP.sub [0, 1] rfl) (hD.sub [0, 1] (by decide +kernel) rfl) d_Row_has_26
      · refine lv_iconst (v := 1) hx hb d_Row_has_21 (by decide) ?_
        refine lv_goto (tgt := 26) hx hb d_Row_has_22 (by decide) ?_
        exact my_iret (v := 1) hx hb hr (rfl) hlocks hQ hK hS (Nat.le_refl _) (Nat.le_refl _) () (fun _ => I_in' (by omega) (by assumption) (by assumption)) (hP.sub [0, 1] rfl) (hD.sub [0, 1] (by decide +kernel) rfl) d_Row_has_26
set_option maxHeartbeats 2000000 in
set_option maxRecDepth 100000 in
theorem c_Row_at (l : Launch) (dC : Nat → ClassId) (dI : Nat → Nat → Nat) (cI cM cO : ClassId) (sz : Nat) (rr : Nat) (rrn : Int32) (rra : Nat) (rrk : Nat) (rrf : Nat → Int32) (ii : Int32) (hrr : rOk rrn rrk) : MetI l y_Row_at (Cond.code y_Row_at prog_9_method_3_code 2 (some .int) :: gw) ({ frames := 1, cells := 0, slots := 0, locals := 21 } : Room) (dC, dI) vwCl (kT cI cM cO) [Value.ref rr, Value.int ii] [(rr, Sum.inr (0, [Value.int rrn, Value.ref rra])), (rra, Sum.inl (cI, rrk, Sum.inl rrf))] sz (fun (r : Int32) (u : Unit) => True) (fun (u : Unit) => [(rr, Sum.inr (0, [Value.int rrn, Value.ref rra])), (rra, Sum.inl (cI, rrk, Sum.inl rrf))]) 0 0 := by
  refine my_ofI (cc := prog_9_method_3_code) (n := 2) (ret := (some .int)) (by decide) rfl (Nat.le_of_ble_eq_true rfl) ?_
  intro p e s m args below meth c R Q A ls H locs hx hb hr hts hown hlocks hml hnm hR hQ hA hl hP hK hN hD hS
  have hg : ∀ w ∈ gw, w.before args s = true := fun w h => hts w (List.mem_cons_of_mem _ h)
  have hown : s.vm.findClass "RangeCoders$Row" = some m.cls := hown
  have hl : lv_has ls 2 [(0, Value.ref rr), (1, Value.int ii)] := hl
  have hlt9 := rOk_lt hrr
  refine lv_aload_n hx hb d_Row_at_0 rfl (lv_at hl 0 rfl) ?_
  refine lv_iload_n hx hb d_Row_at_1 rfl (lv_at hl 1 rfl) ?_
  refine my_ci (wr := []) (va_runV (As := [Value.int ii]) (rest := []) ⟨hx, hb, hml, hown, hts⟩ (c_Row_has l dC dI cI cM cO H.size rr rrn rra rrk rrf ii (by first | assumption | omega)) (cwV 1 hts (my_gV k662 k663 k664 k6 k665) rfl rfl rfl cu_Row_has_1 ⟨by rw [hR]; exact Nat.le_of_ble_eq_true rfl, by rw [hR]; exact Nat.le_of_ble_eq_true rfl⟩) (my_preV hK hN (hP.sub [0, 1] rfl) (hD.sub [0, 1] (by decide +kernel) rfl) 0 rfl rfl) rfl rfl hl.1 rfl (lv_room (Nat.le_of_ble_eq_true rfl)) d_Row_at_2 ⟨by rw [hR]; exact Nat.le_of_ble_eq_true rfl, by rw [hR]; exact Nat.le_of_ble_eq_true rfl⟩) hP hD hS hA [0, 1] [] rfl rfl (by decide +kernel) (by decide +kernel) (fun r_2 u9 H locs hw_2 hP hD hS => ?_)
  have hr_2 : r_2 ≠ 0 → vp_in ii rrk := hw_2
  have hPD : my_PD (dC, dI) vwCl A [(rr, Sum.inr (0, [Value.int rrn, Value.ref rra])), (rra, Sum.inl (cI, rrk, Sum.inl rrf))] H := ⟨hP, hD⟩
  have hP := hPD.1
  have hD := hPD.2
  refine lv_if_eq (tgt := 17) hx hb d_Row_at_5 (by decide) (fun c_1 => ?_) (fun c_1 => ?_)
  · refine lv_iconst (v := (-1)) hx hb d_Row_at_17 (by decide) ?_
    exact my_iret (v := (-1)) hx hb hr (rfl) hlocks hQ hK hS (Nat.le_refl _) (Nat.le_refl _) () (trivial) (hP.sub [0, 1] rfl) (hD.sub [0, 1] (by decide +kernel) rfl) d_Row_at_18
  · refine lv_aload_n hx hb d_Row_at_8 rfl (lv_at hl 0 rfl) ?_
    refine va_get (D := (dC, dI)) (ci := 0) (v := .ref rra) (C := "RangeCoders$Row") (T := T_Row) (N := 2) hx hb hg in_Row hown hK hP 0 rfl rfl 1 (by decide) (hg _ k60) (fun _ h9 => h9) rfl d_Row_at_9 ?_
    refine lv_iload_n hx hb d_Row_at_12 rfl (lv_at hl 1 rfl) ?_
    refine va_iald hx hb hK hP 1 0 rfl rfl (hr_2 c_1) d_Row_at_13 ?_
    refine lv_topi (fun v_2 ev_2 => ?_)
    refine lv_goto (tgt := 18) hx hb d_Row_at_14 (by decide) ?_
    exact my_iret (v := v_2) hx hb hr (rfl) hlocks hQ hK hS (Nat.le_refl _) (Nat.le_refl _) () (trivial) (hP.sub [0, 1] rfl) (hD.sub [0, 1] (by decide +kernel) rfl) d_Row_at_18
set_option maxHeartbeats 2000000 in
set_option maxRecDepth 100000 in
theorem c_Row_clear (l : Launch) (dC : Nat → ClassId) (dI : Nat → Nat → Nat) (cI cM cO : ClassId) (sz : Nat) (rr : Nat) (rrn : Int32) (rra : Nat) (rrk : Nat) (rrf : Nat → Int32) (hrr : rOk rrn rrk) : MetV l y_Row_clear (Cond.code y_Row_clear prog_9_method_6_code 1 none :: gw) ({ frames := 0, cells := 0, slots := 0, locals := 0 } : Room) (dC, dI) vwCl (kT cI cM cO) [Value.ref rr] [(rr, Sum.inr (0, [Value.int rrn, Value.ref rra])), (rra, Sum.inl (cI, rrk, Sum.inl rrf))] sz (fun (u : Unit) => rOk 0 rrk) (fun (u : Unit) => [(rr, Sum.inr (0, [Value.int 0, Value.ref rra])), (rra, Sum.inl (cI, rrk, Sum.inl rrf))]) 0 0 := by
  refine my_ofV (cc := prog_9_method_6_code) (n := 1) (ret := none) (by decide) rfl (Nat.le_of_ble_eq_true rfl) ?_
  intro p e s m args below meth c R Q A ls H locs hx hb hr hts hown hlocks hml hnm hR hQ hA hl hP hK hN hD hS
  have hg : ∀ w ∈ gw, w.before args s = true := fun w h => hts w (List.mem_cons_of_mem _ h)
  have hown : s.vm.findClass "RangeCoders$Row" = some m.cls := hown
  have hl : lv_has ls 1 [(0, Value.ref rr)] := hl
  refine lv_aload_n hx hb d_Row_clear_0 rfl (lv_at hl 0 rfl) ?_
  refine lv_iconst (v := 0) hx hb d_Row_clear_1 (by decide) ?_
  refine va_put (D := (dC, dI)) (ci := 0) (v := .int 0) (ty := .int) (C := "RangeCoders$Row") (T := T_Row) (N := 2) hx hb hg in_Row t_Row o_Row n_Row hown hK hP hD hS 0 rfl rfl 0 (by decide) (hg _ k57) (fun _ h9 => h9) rfl (o_Row 0 (by decide)) rfl rfl (Nat.le_of_ble_eq_true rfl) d_Row_clear_2 (fun H locs hP hD hS => ?_)
  have hPD : my_PD (dC, dI) vwCl A [(rr, Sum.inr (0, [Value.int 0, Value.ref rra])), (rra, Sum.inl (cI, rrk, Sum.inl rrf))] H := ⟨hP, hD⟩
  have hP := hPD.1
  have hD := hPD.2
  exact my_vret hx hb hr hlocks hQ hK hS (Nat.le_refl _) (Nat.le_refl _) () (rOk_0 hrr) (hP.sub [0, 1] rfl) (hD.sub [0, 1] (by decide +kernel) rfl) d_Row_clear_5
set_option maxHeartbeats 2000000 in
set_option maxRecDepth 100000 in
theorem c_Row_init (l : Launch) (dC : Nat → ClassId) (dI : Nat → Nat → Nat) (cI cM cO : ClassId) (sz : Nat) (sl : Nat) (rr : Nat) : MetVg l y_Row_init (Cond.code y_Row_init prog_9_method_1_code 1 none :: gw) ({ frames := 1, cells := 64, slots := 64, locals := 12 } : Room) (dC, dI) vwCl (kT cI cM cO) [Value.ref rr] [(rr, Sum.inr (0, [Value.int 0, Value.null]))] sz sl (fun (u : Nat) => True) (fun (u : Nat) => [(rr, Sum.inr (0, [Value.int 0, Value.ref u])), (u, Sum.inl (cI, 64, Sum.inl (fun _ => 0)))]) 64 (fun (u : Nat) => 0) := by
  refine my_ofVg (cc := prog_9_method_1_code) (n := 1) (ret := none) (by decide) rfl (Nat.le_of_ble_eq_true rfl) ?_
  intro p e s m args below meth c R Q A ls H locs hx hb hr hts hown hlocks hml hnm hR hQ hA hl hP hK hN hD hS
  have hg : ∀ w ∈ gw, w.before args s = true := fun w h => hts w (List.mem_cons_of_mem _ h)
  have hown : s.vm.findClass "RangeCoders$Row" = some m.cls := hown
  have hl : lv_has ls 1 [(0, Value.ref rr)] := hl
  refine lv_aload_n hx hb d_Row_init_0 rfl (lv_at hl 0 rfl) ?_
  refine W.objInit hx hb hown (hg _ k56) (hg _ k23) (hg _ k24) rfl (by rw [hml]; exact hl.1) rfl d_Row_init_1 (by rw [hR]; exact Nat.le_of_ble_eq_true rfl) (by rw [hR]; exact Nat.le_of_ble_eq_true rfl) ?_
  refine W.eq (g2 := F0 m 4 ls []) rfl ?_
  refine lv_aload_n hx hb d_Row_init_4 rfl (lv_at hl 0 rfl) ?_
  refine lv_bipush (v := 64) hx hb d_Row_init_5 (by decide) ?_
  refine my_newi hx hb (hg _ k66) hK 0 rfl hP hD hS hA (N' := 64) (by decide) (rfl) (by omega) (by rw [hR]; exact (by decide : 0 + 1 ≤ 64)) (by rw [hR]; exact Nat.le_refl _) d_Row_init_7 (fun q_1 H hP hD hS => ?_)
  have hPD : my_PD (dC, dI) vwCl A [(rr, Sum.inr (0, [Value.int 0, Value.null])), (q_1, Sum.inl (cI, 64, Sum.inl (fun _ => 0)))] H := ⟨hP, hD⟩
  have hP := hPD.1
  have hD := hPD.2
  refine va_put (D := (dC, dI)) (ci := 0) (v := .ref q_1) (ty := (.array .int)) (C := "RangeCoders$Row") (T := T_Row) (N := 2) hx hb hg in_Row t_Row o_Row n_Row hown hK hP hD hS 0 rfl rfl 1 (by decide) (hg _ k60) (fun _ h9 => h9) rfl (o_Row 1 (by decide)) rfl rfl (Nat.le_of_ble_eq_true rfl) d_Row_init_9 (fun H locs hP hD hS => ?_)
  have hPD : my_PD (dC, dI) vwCl A [(rr, Sum.inr (0, [Value.int 0, Value.ref q_1])), (q_1, Sum.inl (cI, 64, Sum.inl (fun _ => 0)))] H := ⟨hP, hD⟩
  have hP := hPD.1
  have hD := hPD.2
  exact my_vretg hx hb hr hlocks hQ hK hS (q_1) (show (0 + 1) + 0 ≤ 64 by omega) (show (0 + 64) + 0 ≤ 64 by omega) (trivial) (hP.sub [0, 1] rfl) (hD.sub [0, 1] (by decide +kernel) rfl) d_Row_init_12
end
