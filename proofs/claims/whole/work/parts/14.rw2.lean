theorem sf_in {σ : tRW} {r : Int32} {n : Nat} (h : ¬ A_RW_has σ r = 0) (c : ¬ nI n ≤ r) (hn : n ≤ 16777216) : vp_in r n := by
  have h1 : ¬ r < 0 := fun h1 => h (if_pos h1)
  obtain ⟨j, hj, rfl, -⟩ := pk_mu h1 c (by omega)
  exact vp_in_nI hj (by omega)

def A_RW_stepsInFull (σ : tRW) (r : Int32) : Int64 := if (A_RW_has σ r) = 0 then 0 else (if (nI (gRW_steps σ).2) ≤ r then 0 else ((gRW_steps σ).1 r.toNatClampNeg))
set_option maxHeartbeats 4000000 in
set_option maxRecDepth 100000 in
theorem c_RW_stepsInFull (l : Launch) (G : pG) (h0 : Nat) (ad : Nat → Nat) (σ : tRW) (r : Int32) (H : Heap) (w : va_W) (hP0 : va_P G.1 vwCl w H) (hσ : pRW G h0 ad σ w) (res : Int64) (hr0 : A_RW_stepsInFull σ r = res) : MRl l y_RW_stepsInFull w_RW_stepsInFull 2 41 G [.ref h0, .int r] H res := by
  refine Met.ofW (cc := b_RW_stepsInFull) (maxL := 2) (ret := (some .long)) (by decide) rfl ?_
  intro p e s m args below meth c s₁ B hml hv
  obtain ⟨rfl, rfl, hK⟩ := hv
  have hx := B.exec
  have hb := B.bytes
  have hr := B.returns
  have hts0 := atoms_spec (ws := w_RW_stepsInFull) B.pre
  have hts := fun w (h : w ∈ lw_g) => hts0 w (List.mem_cons_of_mem _ h)
  have hown : s.vm.findClass RRW = some m.cls := findClass_of_methodNamed B.named
  have hlocks := B.notSynchronized
  have hσ0 := hσ
  obtain ⟨q15, q16, w1, w3, w5, w7, w9, w11, w13, rfl, h2, h4, h6, h8, h10, h12, h14, h17⟩ := hσ
  have hP := hP0
  obtain ⟨A, hAe⟩ : ∃ A : Nat → Prop, A = fun _ => False := ⟨_, rfl⟩
  rw [← hAe]
  have hS : va_S A s.heap s.heap [] := va_S.rf
  have hl := lv_entry ([.ref h0, .int r]) (n := 2) (Nat.le_of_ble_eq_true rfl)
  rw [lg_entry_eq]
  generalize (lg_sl ([.ref h0, .int r]) ++ List.replicate (2 - (lg_sl ([.ref h0, .int r])).length) Slot.unset).toArray = ls at hl ⊢
  have hl : lv_has ls 2 [(0, .ref h0), (1, .int r)] := hl
  unfold A_RW_stepsInFull at hr0
  refine lv_aload_n hx hb d_RW_stepsInFull_0 rfl (lv_at hl 0 rfl) ?_
  refine lv_iload_n hx hb d_RW_stepsInFull_1 rfl (lv_at hl 1 rfl) ?_
  refine rdV (G := G) (As := [.int r]) (rest := []) (C := RRW) ⟨hx, hb, hml, hown, hts⟩ (c_RW_has l G h0 ad σ r _ _ hP0 hσ0 _ rfl) (cwV 1 hts (gd_V ml_RW_65 im_RW_has sl_RW_has ini_RW k_RW_has) rfl rmK_c rmK_s (by decide +kernel) ⟨Nat.le_of_ble_eq_true rfl, Nat.le_of_ble_eq_true rfl⟩) hK (pRW_recv hK hP0 hσ0) hS ⟨Nat.le_refl _, Nat.le_refl _⟩ rfl hl.1 (Nat.le_of_ble_eq_true rfl) d_RW_stepsInFull_2 (fun locs hS => ?_)
  refine lv_if_eq (tgt := 26) hx hb d_RW_stepsInFull_5 (by decide) (fun c18 => ?_) (fun c18 => ?_)
  · have hr0 := ai_pos c18 hr0
    refine lv_lconst (v := 0) hx hb d_RW_stepsInFull_26 (by decide) ?_
    exact W.lret (v := 0) hx hb hr (fun t ht hW => ⟨⟨0, (), rfl, hr0, ht⟩, hS.F ht⟩) hS.2.2 d_RW_stepsInFull_27
  · have hr0 := ai_neg c18 hr0
    refine lv_iload_n hx hb d_RW_stepsInFull_8 rfl (lv_at hl 1 rfl) ?_
    refine lv_aload_n hx hb d_RW_stepsInFull_9 rfl (lv_at hl 0 rfl) ?_
    refine va_get (D := G.1) (ci := 2) (v := .ref q16) (C := RRW) (T := TRW) (N := 9) hx hb hts inRW hown hK hP 0 rfl rfl 8 (by decide) (hts _ fl_RW_50) (fun _ h9 => h9) rfl d_RW_stepsInFull_10 ?_
    refine va_alen (v := nI (gRW_steps σ).2) hx hb hK hP 2 1 rfl rfl rfl d_RW_stepsInFull_13 ?_
    refine lv_icmp_ge (tgt := 26) hx hb d_RW_stepsInFull_14 (by decide) (fun c19 => ?_) (fun c19 => ?_)
    · have hr0 := ai_pos c19 hr0
      refine lv_lconst (v := 0) hx hb d_RW_stepsInFull_26 (by decide) ?_
      exact W.lret (v := 0) hx hb hr (fun t ht hW => ⟨⟨0, (), rfl, hr0, ht⟩, hS.F ht⟩) hS.2.2 d_RW_stepsInFull_27
    · have hr0 := ai_neg c19 hr0
      refine lv_aload_n hx hb d_RW_stepsInFull_17 rfl (lv_at hl 0 rfl) ?_
      refine va_get (D := G.1) (ci := 2) (v := .ref q16) (C := RRW) (T := TRW) (N := 9) hx hb hts inRW hown hK hP 0 rfl rfl 8 (by decide) (hts _ fl_RW_50) (fun _ h9 => h9) rfl d_RW_stepsInFull_18 ?_
      refine lv_iload_n hx hb d_RW_stepsInFull_21 rfl (lv_at hl 1 rfl) ?_
      refine va_lald hx hb hK hP 2 1 rfl rfl (sf_in c18 c19 h17.2) d_RW_stepsInFull_22 ?_
      refine lv_goto (tgt := 27) hx hb d_RW_stepsInFull_23 (by decide) ?_
      exact W.lret (v := ((gRW_steps σ).1 r.toNatClampNeg)) hx hb hr (fun t ht hW => ⟨⟨((gRW_steps σ).1 r.toNatClampNeg), (), rfl, hr0, ht⟩, hS.F ht⟩) hS.2.2 d_RW_stepsInFull_27

def M_RW_bucketOf_L6 (x_list : tIL) (σ : tRW) (mix : Int32) (k : Int32) : Nat := ((A_IL_length x_list).toInt - k.toInt).toNat
def A_RW_bucketOf_L6 (x_list : tIL) (σ : tRW) : Nat → Int32 → Int32 → Int32
  | 0, _, _ => 0
  | n6 + 1, mix, k => if (A_IL_length x_list) ≤ k then (mix &&& 511) else (A_RW_bucketOf_L6 x_list σ n6 ((31 * mix) + (A_IL_at x_list k)) (k + 1))
def A_RW_bucketOf (σ : tRW) (x_list : tIL) (statement : Int32) (start : Int32) : Int32 := A_RW_bucketOf_L6 x_list σ (M_RW_bucketOf_L6 x_list σ statement start + 1) statement start
set_option maxHeartbeats 4000000 in
set_option maxRecDepth 100000 in
theorem c_RW_bucketOf (l : Launch) (G : pG) (h0 : Nat) (ad : Nat → Nat) (σ : tRW) (statement : Int32) (list : Nat) (start : Int32) (H : Heap) (w : va_W) (x_list : tIL) (v_list : va_W) (hv_list : va_P G.1 vwCl v_list H) (hx_list : pIL G list x_list v_list) (hP0 : va_P G.1 vwCl w H) (hσ : pRW G h0 ad σ w) (res : Int32) (hr0 : A_RW_bucketOf σ x_list statement start = res) : MRi l y_RW_bucketOf w_RW_bucketOf 1 21 G [.ref h0, .int statement, .ref list, .int start] H res := by
  refine Met.ofW (cc := b_RW_bucketOf) (maxL := 6) (ret := (some .int)) (by decide) rfl ?_
  intro p e s m args below meth c s₁ B hml hv
  obtain ⟨rfl, rfl, hK⟩ := hv
  have hx := B.exec
  have hb := B.bytes
  have hr := B.returns
  have hts0 := atoms_spec (ws := w_RW_bucketOf) B.pre
  have hts := fun w (h : w ∈ lw_g) => hts0 w (List.mem_cons_of_mem _ h)
  have hown : s.vm.findClass RRW = some m.cls := findClass_of_methodNamed B.named
  have hlocks := B.notSynchronized
  have hσ0 := hσ
  obtain ⟨q15, q16, w1, w3, w5, w7, w9, w11, w13, rfl, h2, h4, h6, h8, h10, h12, h14, h17⟩ := hσ
  have hP := hP0
  obtain ⟨A, hAe⟩ : ∃ A : Nat → Prop, A = fun _ => False := ⟨_, rfl⟩
  rw [← hAe]
  have hS : va_S A s.heap s.heap [] := va_S.rf
  have hl := lv_entry ([.ref h0, .int statement, .ref list, .int start]) (n := 6) (Nat.le_of_ble_eq_true rfl)
  rw [lg_entry_eq]
  generalize (lg_sl ([.ref h0, .int statement, .ref list, .int start]) ++ List.replicate (6 - (lg_sl ([.ref h0, .int statement, .ref list, .int start])).length) Slot.unset).toArray = ls at hl ⊢
  have hl : lv_has ls 6 [(0, .ref h0), (1, .int statement), (2, .ref list), (3, .int start)] := hl
  unfold A_RW_bucketOf at hr0
  refine lv_iload_n hx hb d_RW_bucketOf_0 rfl (lv_at hl 1 rfl) ?_
  refine lv_istore (lv' := [(4, .int statement), (0, .ref h0), (1, .int statement), (2, .ref list), (3, .int start)]) hx hb d_RW_bucketOf_1 hl (by decide) rfl (fun ls hl => ?_)
  refine lv_iload_n hx hb d_RW_bucketOf_3 rfl (lv_at hl 4 rfl) ?_
  refine lv_istore (lv' := [(5, .int start), (4, .int statement), (0, .ref h0), (1, .int statement), (2, .ref list), (3, .int start)]) hx hb d_RW_bucketOf_4 hl (by decide) rfl (fun ls hl => ?_)
  refine lp_R (I := fun n6 locs ls => ∃ (mix : Int32) (k : Int32), va_S A s.heap s.heap locs ∧ lv_has ls 6 [(0, .ref h0), (2, .ref list), (4, .int mix), (5, .int k)] ∧ A_RW_bucketOf_L6 x_list σ n6 mix k = res ∧ M_RW_bucketOf_L6 x_list σ mix k < n6) ?_ ?_ (M_RW_bucketOf_L6 x_list σ statement start + 1) _ _ ⟨statement, start, hS, lv_sub hl [2, 4, 1, 0] rfl, hr0, Nat.lt_succ_self _⟩
  · intro n6 ih6 locs ls ⟨mix, k, hS, hl, hr0, hm6⟩
    rw [A_RW_bucketOf_L6] at hr0
    refine lv_iload hx hb d_RW_bucketOf_6 (lv_at hl 3 rfl) ?_
    refine lv_aload_n hx hb d_RW_bucketOf_8 rfl (lv_at hl 1 rfl) ?_
    refine rdV (G := G) (As := []) (rest := [.int k]) (C := RIL) ⟨hx, hb, hml, hown, hts⟩ (c_IL_length l G list x_list _ _ hv_list hx_list _ rfl) (cwV 0 hts (gd_V ml_RW_57 im_IL_length sl_IL_length ini_IL k_IL_length) rfl rmK_c rmK_s (by decide +kernel) ⟨Nat.le_of_ble_eq_true rfl, Nat.le_of_ble_eq_true rfl⟩) hK (pIL_recv hK hv_list hx_list) hS ⟨Nat.le_refl _, Nat.le_refl _⟩ rfl hl.1 (Nat.le_of_ble_eq_true rfl) d_RW_bucketOf_9 (fun locs hS => ?_)
    refine lv_icmp_ge (tgt := 35) hx hb d_RW_bucketOf_12 (by decide) (fun c18 => ?_) (fun c18 => ?_)
    · have hr0 := ai_pos c18 hr0
      refine lv_iload hx hb d_RW_bucketOf_35 (lv_at hl 2 rfl) ?_
      refine lv_sipush (v := 511) hx hb d_RW_bucketOf_37 (by decide) ?_
      refine lv_iand hx hb d_RW_bucketOf_40 ?_
      exact W.iret (v := (mix &&& 511)) hx hb hr (fun t ht hW => ⟨⟨(mix &&& 511), (), rfl, hr0, ht⟩, hS.F ht⟩) hS.2.2 d_RW_bucketOf_41
    · have hr0 := ai_neg c18 hr0
      refine lv_bipush (v := 31) hx hb d_RW_bucketOf_15 (by decide) ?_
      refine lv_iload hx hb d_RW_bucketOf_17 (lv_at hl 2 rfl) ?_
      refine lv_imul hx hb d_RW_bucketOf_19 ?_
      refine lv_aload_n hx hb d_RW_bucketOf_20 rfl (lv_at hl 1 rfl) ?_
      refine lv_iload hx hb d_RW_bucketOf_21 (lv_at hl 3 rfl) ?_
      refine rdV (G := G) (As := [.int k]) (rest := [.int (31 * mix)]) (C := RIL) ⟨hx, hb, hml, hown, hts⟩ (c_IL_at l G list x_list k _ _ hv_list hx_list _ rfl) (cwV 1 hts (gd_V ml_RW_61 im_IL_at sl_IL_at ini_IL k_IL_at) rfl rmK_c rmK_s (by decide +kernel) ⟨Nat.le_of_ble_eq_true rfl, Nat.le_of_ble_eq_true rfl⟩) hK (pIL_recv hK hv_list hx_list) hS ⟨Nat.le_refl _, Nat.le_refl _⟩ rfl hl.1 (Nat.le_of_ble_eq_true rfl) d_RW_bucketOf_23 (fun locs hS => ?_)
      refine lv_iadd hx hb d_RW_bucketOf_26 ?_
      refine lv_istore (lv' := [(4, .int ((31 * mix) + (A_IL_at x_list k))), (0, .ref h0), (2, .ref list), (5, .int k)]) hx hb d_RW_bucketOf_27 hl (by decide) rfl (fun ls hl => ?_)
      refine lv_iinc (v := k + 1) (lv' := [(5, .int (k + 1)), (4, .int ((31 * mix) + (A_IL_at x_list k))), (0, .ref h0), (2, .ref list)]) hx hb d_RW_bucketOf_29 hl (k := 3) rfl rfl (by decide) rfl (fun ls hl => ?_)
      refine lv_goto (tgt := 6) hx hb d_RW_bucketOf_32 (by decide) ?_
      exact ih6 _ _ ⟨((31 * mix) + (A_IL_at x_list k)), (k + 1), hS, lv_sub hl [2, 3, 1, 0] rfl, hr0, up_dec c18 hm6⟩
  · rintro locs ls ⟨_, _, -, -, -, hz⟩; exact Nat.not_lt_zero _ hz

theorem bo_in (σ : tRW) (x : tIL) (a b : Int32) : vp_in (A_RW_bucketOf σ x a b) 512 := by
  have key : ∀ (n : Nat) (m k : Int32), vp_in (A_RW_bucketOf_L6 x σ n m k) 512 := by
    intro n
    induction n with
    | zero => intro m k; exact vp_in_nI (n := 0) (by decide) (by decide)
    | succ n ih =>
      intro m k
      rw [A_RW_bucketOf_L6]
      split
      · exact pk_andIn m 9 (by decide) (by decide)
      · exact ih _ _
  exact key _ _ _

def M_RW_isMadeOf_L25 (x_list : tIL) (σ : tRW) (start : Int32) (r : Int32) (k : Int32) : Nat := ((A_IL_length x_list - start).toInt - k.toInt).toNat
def A_RW_isMadeOf_L25 (x_list : tIL) (σ : tRW) (start : Int32) (r : Int32) : Nat → Int32 → Int32
  | 0, _ => 0
  | n25 + 1, k => if ((A_IL_length x_list) - start) ≤ k then 1 else (if (A_IL_at (gRW_partKinds σ) ((A_IL_at (gRW_starts σ) r) + k)) = (A_IL_at x_list (start + k)) then (A_RW_isMadeOf_L25 x_list σ start r n25 (k + 1)) else 0)
def A_RW_isMadeOf (σ : tRW) (x_list : tIL) (kind : Int32) (statement : Int32) (start : Int32) : Int32 := if (A_RW_statementOf σ (A_IL_at (gRW_firstOfKind σ) kind)) = statement then (A_RW_isMadeOf_L25 x_list σ start (A_IL_at (gRW_firstOfKind σ) kind) (M_RW_isMadeOf_L25 x_list σ start (A_IL_at (gRW_firstOfKind σ) kind) 0 + 1) 0) else 0
set_option maxHeartbeats 4000000 in
set_option maxRecDepth 100000 in
theorem c_RW_isMadeOf (l : Launch) (G : pG) (h0 : Nat) (ad : Nat → Nat) (σ : tRW) (kind : Int32) (statement : Int32) (list : Nat) (start : Int32) (H : Heap) (w : va_W) (x_list : tIL) (v_list : va_W) (hv_list : va_P G.1 vwCl v_list H) (hx_list : pIL G list x_list v_list) (hP0 : va_P G.1 vwCl w H) (hσ : pRW G h0 ad σ w) (res : Int32) (hr0 : A_RW_isMadeOf σ x_list kind statement start = res) : MRi l y_RW_isMadeOf w_RW_isMadeOf 2 42 G [.ref h0, .int kind, .int statement, .ref list, .int start] H res := by
  refine Met.ofW (cc := b_RW_isMadeOf) (maxL := 7) (ret := (some .boolean)) (by decide) rfl ?_
  intro p e s m args below meth c s₁ B hml hv
  obtain ⟨rfl, rfl, hK⟩ := hv
  have hx := B.exec
  have hb := B.bytes
  have hr := B.returns
  have hts0 := atoms_spec (ws := w_RW_isMadeOf) B.pre
  have hts := fun w (h : w ∈ lw_g) => hts0 w (List.mem_cons_of_mem _ h)
  have hown : s.vm.findClass RRW = some m.cls := findClass_of_methodNamed B.named
  have hlocks := B.notSynchronized
  have hσ0 := hσ
  obtain ⟨q15, q16, w1, w3, w5, w7, w9, w11, w13, rfl, h2, h4, h6, h8, h10, h12, h14, h17⟩ := hσ
  have hP := hP0
  obtain ⟨A, hAe⟩ : ∃ A : Nat → Prop, A = fun _ => False := ⟨_, rfl⟩
  rw [← hAe]
  have hS : va_S A s.heap s.heap [] := va_S.rf
  have hl := lv_entry ([.ref h0, .int kind, .int statement, .ref list, .int start]) (n := 7) (Nat.le_of_ble_eq_true rfl)
  rw [lg_entry_eq]
  generalize (lg_sl ([.ref h0, .int kind, .int statement, .ref list, .int start]) ++ List.replicate (7 - (lg_sl ([.ref h0, .int kind, .int statement, .ref list, .int start])).length) Slot.unset).toArray = ls at hl ⊢
  have hl : lv_has ls 7 [(0, .ref h0), (1, .int kind), (2, .int statement), (3, .ref list), (4, .int start)] := hl
  unfold A_RW_isMadeOf at hr0
  refine lv_aload_n hx hb d_RW_isMadeOf_0 rfl (lv_at hl 0 rfl) ?_
  refine va_get (D := G.1) (ci := 2) (v := .ref (ad 5)) (C := RRW) (T := TRW) (N := 9) hx hb hts inRW hown hK hP 0 rfl rfl 5 (by decide) (hts _ fl_RW_34) (fun _ h9 => h9) rfl d_RW_isMadeOf_1 ?_
  refine lv_iload_n hx hb d_RW_isMadeOf_4 rfl (lv_at hl 1 rfl) ?_
  refine rdV (G := G) (As := [.int kind]) (rest := []) (C := RIL) ⟨hx, hb, hml, hown, hts⟩ (c_IL_at l G (ad 5) (gRW_firstOfKind σ) kind _ _ (bk_gP (k := 8) hP rfl) h12 _ rfl) (cwV 1 hts (gd_V ml_RW_61 im_IL_at sl_IL_at ini_IL k_IL_at) rfl rmK_c rmK_s (by decide +kernel) ⟨Nat.le_of_ble_eq_true rfl, Nat.le_of_ble_eq_true rfl⟩) hK (pIL_recv hK (bk_gP (k := 8) hP rfl) h12) hS ⟨Nat.le_refl _, Nat.le_refl _⟩ rfl hl.1 (Nat.le_of_ble_eq_true rfl) d_RW_isMadeOf_5 (fun locs hS => ?_)
  refine lv_istore (lv' := [(5, .int (A_IL_at (gRW_firstOfKind σ) kind)), (0, .ref h0), (1, .int kind), (2, .int statement), (3, .ref list), (4, .int start)]) hx hb d_RW_isMadeOf_8 hl (by decide) rfl (fun ls hl => ?_)
  refine lv_aload_n hx hb d_RW_isMadeOf_10 rfl (lv_at hl 1 rfl) ?_
  refine lv_iload hx hb d_RW_isMadeOf_11 (lv_at hl 0 rfl) ?_
  refine rdV (G := G) (As := [.int (A_IL_at (gRW_firstOfKind σ) kind)]) (rest := []) (C := RRW) ⟨hx, hb, hml, hown, hts⟩ (c_RW_statementOf l G h0 ad σ (A_IL_at (gRW_firstOfKind σ) kind) _ _ hP0 hσ0 _ rfl) (cwV 1 hts (gd_V ml_RW_90 im_RW_statementOf sl_RW_statementOf ini_RW k_RW_statementOf) rfl rmK_c rmK_s (by decide +kernel) ⟨Nat.le_of_ble_eq_true rfl, Nat.le_of_ble_eq_true rfl⟩) hK (pRW_recv hK hP0 hσ0) hS ⟨Nat.le_refl _, Nat.le_refl _⟩ rfl hl.1 (Nat.le_of_ble_eq_true rfl) d_RW_isMadeOf_13 (fun locs hS => ?_)
  refine lv_iload_n hx hb d_RW_isMadeOf_16 rfl (lv_at hl 3 rfl) ?_
  refine lv_icmp_eq (tgt := 22) hx hb d_RW_isMadeOf_17 (by decide) (fun c18 => ?_) (fun c18 => ?_)
  · have hr0 := ai_pos c18 hr0
    refine lv_iconst (v := 0) hx hb d_RW_isMadeOf_22 (by decide) ?_
    refine lv_istore (lv' := [(6, .int 0), (5, .int (A_IL_at (gRW_firstOfKind σ) kind)), (0, .ref h0), (1, .int kind), (2, .int statement), (3, .ref list), (4, .int start)]) hx hb d_RW_isMadeOf_23 hl (by decide) rfl (fun ls hl => ?_)
    refine lp_R (I := fun n25 locs ls => ∃ (k : Int32), va_S A s.heap s.heap locs ∧ lv_has ls 7 [(0, .ref h0), (3, .ref list), (4, .int start), (5, .int (A_IL_at (gRW_firstOfKind σ) kind)), (6, .int k)] ∧ A_RW_isMadeOf_L25 x_list σ start (A_IL_at (gRW_firstOfKind σ) kind) n25 k = res ∧ M_RW_isMadeOf_L25 x_list σ start (A_IL_at (gRW_firstOfKind σ) kind) k < n25) ?_ ?_ (M_RW_isMadeOf_L25 x_list σ start (A_IL_at (gRW_firstOfKind σ) kind) 0 + 1) _ _ ⟨0, hS, lv_sub hl [2, 5, 6, 1, 0] rfl, hr0, Nat.lt_succ_self _⟩
    · intro n25 ih25 locs ls ⟨k, hS, hl, hr0, hm25⟩
      rw [A_RW_isMadeOf_L25] at hr0
      refine lv_iload hx hb d_RW_isMadeOf_25 (lv_at hl 4 rfl) ?_
      refine lv_aload_n hx hb d_RW_isMadeOf_27 rfl (lv_at hl 1 rfl) ?_
      refine rdV (G := G) (As := []) (rest := [.int k]) (C := RIL) ⟨hx, hb, hml, hown, hts⟩ (c_IL_length l G list x_list _ _ hv_list hx_list _ rfl) (cwV 0 hts (gd_V ml_RW_57 im_IL_length sl_IL_length ini_IL k_IL_length) rfl rmK_c rmK_s (by decide +kernel) ⟨Nat.le_of_ble_eq_true rfl, Nat.le_of_ble_eq_true rfl⟩) hK (pIL_recv hK hv_list hx_list) hS ⟨Nat.le_refl _, Nat.le_refl _⟩ rfl hl.1 (Nat.le_of_ble_eq_true rfl) d_RW_isMadeOf_28 (fun locs hS => ?_)
      refine lv_iload hx hb d_RW_isMadeOf_31 (lv_at hl 2 rfl) ?_
      refine lv_isub hx hb d_RW_isMadeOf_33 ?_
      refine lv_icmp_ge (tgt := 76) hx hb d_RW_isMadeOf_34 (by decide) (fun c19 => ?_) (fun c19 => ?_)
      · have hr0 := ai_pos c19 hr0
        refine lv_iconst (v := 1) hx hb d_RW_isMadeOf_76 (by decide) ?_
        exact W.zret (v := 1) hx hb hr (by decide) (fun t ht hW => ⟨⟨1, (), rfl, hr0, ht⟩, hS.F ht⟩) hS.2.2 d_RW_isMadeOf_77
      · have hr0 := ai_neg c19 hr0
        refine lv_aload_n hx hb d_RW_isMadeOf_37 rfl (lv_at hl 0 rfl) ?_
        refine va_get (D := G.1) (ci := 2) (v := .ref (ad 3)) (C := RRW) (T := TRW) (N := 9) hx hb hts inRW hown hK hP 0 rfl rfl 3 (by decide) (hts _ fl_RW_28) (fun _ h9 => h9) rfl d_RW_isMadeOf_38 ?_
        refine lv_aload_n hx hb d_RW_isMadeOf_41 rfl (lv_at hl 0 rfl) ?_
        refine va_get (D := G.1) (ci := 2) (v := .ref (ad 1)) (C := RRW) (T := TRW) (N := 9) hx hb hts inRW hown hK hP 0 rfl rfl 1 (by decide) (hts _ fl_RW_18) (fun _ h9 => h9) rfl d_RW_isMadeOf_42 ?_
        refine lv_iload hx hb d_RW_isMadeOf_45 (lv_at hl 3 rfl) ?_
        refine rdV (G := G) (As := [.int (A_IL_at (gRW_firstOfKind σ) kind)]) (rest := [.ref (ad 3)]) (C := RIL) ⟨hx, hb, hml, hown, hts⟩ (c_IL_at l G (ad 1) (gRW_starts σ) (A_IL_at (gRW_firstOfKind σ) kind) _ _ (bk_gP (k := 4) hP rfl) h4 _ rfl) (cwV 1 hts (gd_V ml_RW_61 im_IL_at sl_IL_at ini_IL k_IL_at) rfl rmK_c rmK_s (by decide +kernel) ⟨Nat.le_of_ble_eq_true rfl, Nat.le_of_ble_eq_true rfl⟩) hK (pIL_recv hK (bk_gP (k := 4) hP rfl) h4) hS ⟨Nat.le_refl _, Nat.le_refl _⟩ rfl hl.1 (Nat.le_of_ble_eq_true rfl) d_RW_isMadeOf_47 (fun locs hS => ?_)
        refine lv_iload hx hb d_RW_isMadeOf_50 (lv_at hl 4 rfl) ?_
        refine lv_iadd hx hb d_RW_isMadeOf_52 ?_
        refine rdV (G := G) (As := [.int ((A_IL_at (gRW_starts σ) (A_IL_at (gRW_firstOfKind σ) kind)) + k)]) (rest := []) (C := RIL) ⟨hx, hb, hml, hown, hts⟩ (c_IL_at l G (ad 3) (gRW_partKinds σ) ((A_IL_at (gRW_starts σ) (A_IL_at (gRW_firstOfKind σ) kind)) + k) _ _ (bk_gP (k := 6) hP rfl) h8 _ rfl) (cwV 1 hts (gd_V ml_RW_61 im_IL_at sl_IL_at ini_IL k_IL_at) rfl rmK_c rmK_s (by decide +kernel) ⟨Nat.le_of_ble_eq_true rfl, Nat.le_of_ble_eq_true rfl⟩) hK (pIL_recv hK (bk_gP (k := 6) hP rfl) h8) hS ⟨Nat.le_refl _, Nat.le_refl _⟩ rfl hl.1 (Nat.le_of_ble_eq_true rfl) d_RW_isMadeOf_53 (fun locs hS => ?_)
        refine lv_aload_n hx hb d_RW_isMadeOf_56 rfl (lv_at hl 1 rfl) ?_
        refine lv_iload hx hb d_RW_isMadeOf_57 (lv_at hl 2 rfl) ?_
        refine lv_iload hx hb d_RW_isMadeOf_59 (lv_at hl 4 rfl) ?_
        refine lv_iadd hx hb d_RW_isMadeOf_61 ?_
        refine rdV (G := G) (As := [.int (start + k)]) (rest := [.int (A_IL_at (gRW_partKinds σ) ((A_IL_at (gRW_starts σ) (A_IL_at (gRW_firstOfKind σ) kind)) + k))]) (C := RIL) ⟨hx, hb, hml, hown, hts⟩ (c_IL_at l G list x_list (start + k) _ _ hv_list hx_list _ rfl) (cwV 1 hts (gd_V ml_RW_61 im_IL_at sl_IL_at ini_IL k_IL_at) rfl rmK_c rmK_s (by decide +kernel) ⟨Nat.le_of_ble_eq_true rfl, Nat.le_of_ble_eq_true rfl⟩) hK (pIL_recv hK hv_list hx_list) hS ⟨Nat.le_refl _, Nat.le_refl _⟩ rfl hl.1 (Nat.le_of_ble_eq_true rfl) d_RW_isMadeOf_62 (fun locs hS => ?_)
        refine lv_icmp_eq (tgt := 70) hx hb d_RW_isMadeOf_65 (by decide) (fun c20 => ?_) (fun c20 => ?_)
        · have hr0 := ai_pos c20 hr0
          refine lv_iinc (v := k + 1) (lv' := [(6, .int (k + 1)), (0, .ref h0), (3, .ref list), (4, .int start), (5, .int (A_IL_at (gRW_firstOfKind σ) kind))]) hx hb d_RW_isMadeOf_70 hl (k := 4) rfl rfl (by decide) rfl (fun ls hl => ?_)
          refine lv_goto (tgt := 25) hx hb d_RW_isMadeOf_73 (by decide) ?_
          exact ih25 _ _ ⟨(k + 1), hS, lv_sub hl [1, 2, 3, 4, 0] rfl, hr0, up_dec c19 hm25⟩
        · have hr0 := ai_neg c20 hr0
          refine lv_iconst (v := 0) hx hb d_RW_isMadeOf_68 (by decide) ?_
          exact W.zret (v := 0) hx hb hr (by decide) (fun t ht hW => ⟨⟨0, (), rfl, hr0, ht⟩, hS.F ht⟩) hS.2.2 d_RW_isMadeOf_69
    · rintro locs ls ⟨_, -, -, -, hz⟩; exact Nat.not_lt_zero _ hz
  · have hr0 := ai_neg c18 hr0
    refine lv_iconst (v := 0) hx hb d_RW_isMadeOf_20 (by decide) ?_
    exact W.zret (v := 0) hx hb hr (by decide) (fun t ht hW => ⟨⟨0, (), rfl, hr0, ht⟩, hS.F ht⟩) hS.2.2 d_RW_isMadeOf_21

def M_RW_kindMadeOf_L17 (x_list : tIL) (σ : tRW) (statement : Int32) (start : Int32) (kind : Int32) (seen : Int32) : Nat := ((A_RW_amountOfKinds σ).toInt - seen.toInt).toNat
def A_RW_kindMadeOf_L17 (x_list : tIL) (σ : tRW) (statement : Int32) (start : Int32) : Nat → Int32 → Int32 → Int32
  | 0, _, _ => 0
  | n17 + 1, kind, seen => if (A_RW_amountOfKinds σ) ≤ seen then (-1) else (if kind = (-1) then (-1) else (if (A_RW_isMadeOf σ x_list kind statement start) = 0 then (A_RW_kindMadeOf_L17 x_list σ statement start n17 (A_IL_at (gRW_olderKind σ) kind) (seen + 1)) else kind))
def A_RW_kindMadeOf (σ : tRW) (x_list : tIL) (statement : Int32) (start : Int32) : Int32 := A_RW_kindMadeOf_L17 x_list σ statement start (M_RW_kindMadeOf_L17 x_list σ statement start ((gRW_newestKind σ) (A_RW_bucketOf σ x_list statement start).toNatClampNeg) 0 + 1) ((gRW_newestKind σ) (A_RW_bucketOf σ x_list statement start).toNatClampNeg) 0
set_option maxHeartbeats 4000000 in
set_option maxRecDepth 100000 in
theorem c_RW_kindMadeOf (l : Launch) (G : pG) (h0 : Nat) (ad : Nat → Nat) (σ : tRW) (statement : Int32) (list : Nat) (start : Int32) (H : Heap) (w : va_W) (x_list : tIL) (v_list : va_W) (hv_list : va_P G.1 vwCl v_list H) (hx_list : pIL G list x_list v_list) (hP0 : va_P G.1 vwCl w H) (hσ : pRW G h0 ad σ w) (res : Int32) (hr0 : A_RW_kindMadeOf σ x_list statement start = res) : MRi l y_RW_kindMadeOf w_RW_kindMadeOf 3 68 G [.ref h0, .int statement, .ref list, .int start] H res := by
  refine Met.ofW (cc := b_RW_kindMadeOf) (maxL := 6) (ret := (some .int)) (by decide) rfl ?_
  intro p e s m args below meth c s₁ B hml hv
  obtain ⟨rfl, rfl, hK⟩ := hv
  have hx := B.exec
  have hb := B.bytes
  have hr := B.returns
  have hts0 := atoms_spec (ws := w_RW_kindMadeOf) B.pre
  have hts := fun w (h : w ∈ lw_g) => hts0 w (List.mem_cons_of_mem _ h)
  have hown : s.vm.findClass RRW = some m.cls := findClass_of_methodNamed B.named
  have hlocks := B.notSynchronized
  have hσ0 := hσ
  obtain ⟨q15, q16, w1, w3, w5, w7, w9, w11, w13, rfl, h2, h4, h6, h8, h10, h12, h14, h17⟩ := hσ
  have hP := hP0
  obtain ⟨A, hAe⟩ : ∃ A : Nat → Prop, A = fun _ => False := ⟨_, rfl⟩
  rw [← hAe]
  have hS : va_S A s.heap s.heap [] := va_S.rf
  have hl := lv_entry ([.ref h0, .int statement, .ref list, .int start]) (n := 6) (Nat.le_of_ble_eq_true rfl)
  rw [lg_entry_eq]
  generalize (lg_sl ([.ref h0, .int statement, .ref list, .int start]) ++ List.replicate (6 - (lg_sl ([.ref h0, .int statement, .ref list, .int start])).length) Slot.unset).toArray = ls at hl ⊢
  have hl : lv_has ls 6 [(0, .ref h0), (1, .int statement), (2, .ref list), (3, .int start)] := hl
  unfold A_RW_kindMadeOf at hr0
  refine lv_aload_n hx hb d_RW_kindMadeOf_0 rfl (lv_at hl 0 rfl) ?_
  refine va_get (D := G.1) (ci := 2) (v := .ref q15) (C := RRW) (T := TRW) (N := 9) hx hb hts inRW hown hK hP 0 rfl rfl 7 (by decide) (hts _ fl_RW_40) (fun _ h9 => h9) rfl d_RW_kindMadeOf_1 ?_
  refine lv_aload_n hx hb d_RW_kindMadeOf_4 rfl (lv_at hl 0 rfl) ?_
  refine lv_iload_n hx hb d_RW_kindMadeOf_5 rfl (lv_at hl 1 rfl) ?_
  refine lv_aload_n hx hb d_RW_kindMadeOf_6 rfl (lv_at hl 2 rfl) ?_
  refine lv_iload_n hx hb d_RW_kindMadeOf_7 rfl (lv_at hl 3 rfl) ?_
  refine rdV (G := G) (As := [.int statement, .ref list, .int start]) (rest := [.ref q15]) (C := RRW) ⟨hx, hb, hml, hown, hts⟩ (c_RW_bucketOf l G h0 ad σ statement list start _ _ x_list _ hv_list hx_list hP0 hσ0 _ rfl) (cwV 3 hts (gd_V ml_RW_100 im_RW_bucketOf sl_RW_bucketOf ini_RW k_RW_bucketOf) rfl rmK_c rmK_s (by decide +kernel) ⟨Nat.le_of_ble_eq_true rfl, Nat.le_of_ble_eq_true rfl⟩) hK (pRW_recv hK hP0 hσ0) hS ⟨Nat.le_refl _, Nat.le_refl _⟩ rfl hl.1 (Nat.le_of_ble_eq_true rfl) d_RW_kindMadeOf_8 (fun locs hS => ?_)
  refine va_iald hx hb hK hP 1 0 rfl rfl (bo_in _ _ _ _) d_RW_kindMadeOf_11 ?_
  refine lv_istore (lv' := [(4, .int ((gRW_newestKind σ) (A_RW_bucketOf σ x_list statement start).toNatClampNeg)), (0, .ref h0), (1, .int statement), (2, .ref list), (3, .int start)]) hx hb d_RW_kindMadeOf_12 hl (by decide) rfl (fun ls hl => ?_)
  refine lv_iconst (v := 0) hx hb d_RW_kindMadeOf_14 (by decide) ?_
  refine lv_istore (lv' := [(5, .int 0), (4, .int ((gRW_newestKind σ) (A_RW_bucketOf σ x_list statement start).toNatClampNeg)), (0, .ref h0), (1, .int statement), (2, .ref list), (3, .int start)]) hx hb d_RW_kindMadeOf_15 hl (by decide) rfl (fun ls hl => ?_)
  refine lp_R (I := fun n17 locs ls => ∃ (kind : Int32) (seen : Int32), va_S A s.heap s.heap locs ∧ lv_has ls 6 [(0, .ref h0), (2, .ref list), (1, .int statement), (3, .int start), (4, .int kind), (5, .int seen)] ∧ A_RW_kindMadeOf_L17 x_list σ statement start n17 kind seen = res ∧ M_RW_kindMadeOf_L17 x_list σ statement start kind seen < n17) ?_ ?_ (M_RW_kindMadeOf_L17 x_list σ statement start ((gRW_newestKind σ) (A_RW_bucketOf σ x_list statement start).toNatClampNeg) 0 + 1) _ _ ⟨((gRW_newestKind σ) (A_RW_bucketOf σ x_list statement start).toNatClampNeg), 0, hS, lv_sub hl [2, 4, 3, 5, 1, 0] rfl, hr0, Nat.lt_succ_self _⟩
  · intro n17 ih17 locs ls ⟨kind, seen, hS, hl, hr0, hm17⟩
    rw [A_RW_kindMadeOf_L17] at hr0
    refine lv_iload hx hb d_RW_kindMadeOf_17 (lv_at hl 5 rfl) ?_
    refine lv_aload_n hx hb d_RW_kindMadeOf_19 rfl (lv_at hl 0 rfl) ?_
    refine rdV (G := G) (As := []) (rest := [.int seen]) (C := RRW) ⟨hx, hb, hml, hown, hts⟩ (c_RW_amountOfKinds l G h0 ad σ _ _ hP0 hσ0 _ rfl) (cwV 0 hts (gd_V ml_RW_97 im_RW_amountOfKinds sl_RW_amountOfKinds ini_RW k_RW_amountOfKinds) rfl rmK_c rmK_s (by decide +kernel) ⟨Nat.le_of_ble_eq_true rfl, Nat.le_of_ble_eq_true rfl⟩) hK (pRW_recv hK hP0 hσ0) hS ⟨Nat.le_refl _, Nat.le_refl _⟩ rfl hl.1 (Nat.le_of_ble_eq_true rfl) d_RW_kindMadeOf_20 (fun locs hS => ?_)
    refine lv_icmp_ge (tgt := 64) hx hb d_RW_kindMadeOf_23 (by decide) (fun c18 => ?_) (fun c18 => ?_)
    · have hr0 := ai_pos c18 hr0
      refine lv_iconst (v := (-1)) hx hb d_RW_kindMadeOf_64 (by decide) ?_
      exact W.iret (v := (-1)) hx hb hr (fun t ht hW => ⟨⟨(-1), (), rfl, hr0, ht⟩, hS.F ht⟩) hS.2.2 d_RW_kindMadeOf_65
    · have hr0 := ai_neg c18 hr0
      refine lv_iload hx hb d_RW_kindMadeOf_26 (lv_at hl 4 rfl) ?_
      refine lv_iconst (v := (-1)) hx hb d_RW_kindMadeOf_28 (by decide) ?_
      refine lv_icmp_eq (tgt := 64) hx hb d_RW_kindMadeOf_29 (by decide) (fun c19 => ?_) (fun c19 => ?_)
      · have hr0 := ai_pos c19 hr0
        refine lv_iconst (v := (-1)) hx hb d_RW_kindMadeOf_64 (by decide) ?_
        exact W.iret (v := (-1)) hx hb hr (fun t ht hW => ⟨⟨(-1), (), rfl, hr0, ht⟩, hS.F ht⟩) hS.2.2 d_RW_kindMadeOf_65
      · have hr0 := ai_neg c19 hr0
        refine lv_aload_n hx hb d_RW_kindMadeOf_32 rfl (lv_at hl 0 rfl) ?_
        refine lv_iload hx hb d_RW_kindMadeOf_33 (lv_at hl 4 rfl) ?_
        refine lv_iload_n hx hb d_RW_kindMadeOf_35 rfl (lv_at hl 2 rfl) ?_
        refine lv_aload_n hx hb d_RW_kindMadeOf_36 rfl (lv_at hl 1 rfl) ?_
        refine lv_iload_n hx hb d_RW_kindMadeOf_37 rfl (lv_at hl 3 rfl) ?_
        refine rdV (G := G) (As := [.int kind, .int statement, .ref list, .int start]) (rest := []) (C := RRW) ⟨hx, hb, hml, hown, hts⟩ (c_RW_isMadeOf l G h0 ad σ kind statement list start _ _ x_list _ hv_list hx_list hP0 hσ0 _ rfl) (cwV 4 hts (gd_V ml_RW_103 im_RW_isMadeOf sl_RW_isMadeOf ini_RW k_RW_isMadeOf) rfl rmK_c rmK_s (by decide +kernel) ⟨Nat.le_of_ble_eq_true rfl, Nat.le_of_ble_eq_true rfl⟩) hK (pRW_recv hK hP0 hσ0) hS ⟨Nat.le_refl _, Nat.le_refl _⟩ rfl hl.1 (Nat.le_of_ble_eq_true rfl) d_RW_kindMadeOf_38 (fun locs hS => ?_)
        refine lv_if_eq (tgt := 47) hx hb d_RW_kindMadeOf_41 (by decide) (fun c20 => ?_) (fun c20 => ?_)
        · have hr0 := ai_pos c20 hr0
          refine lv_aload_n hx hb d_RW_kindMadeOf_47 rfl (lv_at hl 0 rfl) ?_
          refine va_get (D := G.1) (ci := 2) (v := .ref (ad 6)) (C := RRW) (T := TRW) (N := 9) hx hb hts inRW hown hK hP 0 rfl rfl 6 (by decide) (hts _ fl_RW_37) (fun _ h9 => h9) rfl d_RW_kindMadeOf_48 ?_
          refine lv_iload hx hb d_RW_kindMadeOf_51 (lv_at hl 4 rfl) ?_
          refine rdV (G := G) (As := [.int kind]) (rest := []) (C := RIL) ⟨hx, hb, hml, hown, hts⟩ (c_IL_at l G (ad 6) (gRW_olderKind σ) kind _ _ (bk_gP (k := 9) hP rfl) h14 _ rfl) (cwV 1 hts (gd_V ml_RW_61 im_IL_at sl_IL_at ini_IL k_IL_at) rfl rmK_c rmK_s (by decide +kernel) ⟨Nat.le_of_ble_eq_true rfl, Nat.le_of_ble_eq_true rfl⟩) hK (pIL_recv hK (bk_gP (k := 9) hP rfl) h14) hS ⟨Nat.le_refl _, Nat.le_refl _⟩ rfl hl.1 (Nat.le_of_ble_eq_true rfl) d_RW_kindMadeOf_53 (fun locs hS => ?_)
          refine lv_istore (lv' := [(4, .int (A_IL_at (gRW_olderKind σ) kind)), (0, .ref h0), (2, .ref list), (1, .int statement), (3, .int start), (5, .int seen)]) hx hb d_RW_kindMadeOf_56 hl (by decide) rfl (fun ls hl => ?_)
          refine lv_iinc (v := seen + 1) (lv' := [(5, .int (seen + 1)), (4, .int (A_IL_at (gRW_olderKind σ) kind)), (0, .ref h0), (2, .ref list), (1, .int statement), (3, .int start)]) hx hb d_RW_kindMadeOf_58 hl (k := 5) rfl rfl (by decide) rfl (fun ls hl => ?_)
          refine lv_goto (tgt := 17) hx hb d_RW_kindMadeOf_61 (by decide) ?_
          exact ih17 _ _ ⟨(A_IL_at (gRW_olderKind σ) kind), (seen + 1), hS, lv_sub hl [2, 3, 4, 5, 1, 0] rfl, hr0, up_dec c18 hm17⟩
        · have hr0 := ai_neg c20 hr0
          refine lv_iload hx hb d_RW_kindMadeOf_44 (lv_at hl 4 rfl) ?_
          exact W.iret (v := kind) hx hb hr (fun t ht hW => ⟨⟨kind, (), rfl, hr0, ht⟩, hS.F ht⟩) hS.2.2 d_RW_kindMadeOf_46
  · rintro locs ls ⟨_, _, -, -, -, hz⟩; exact Nat.not_lt_zero _ hz

def M_RW_countSteps_L5 (σ : tRW) (r : Int32) (sum : Int64) (k : Int32) : Nat := ((A_RW_amountOfParts σ r).toInt - k.toInt).toNat
def A_RW_countSteps_L5 (σ : tRW) (r : Int32) : Nat → Int64 → Int32 → Int64
  | 0, _, _ => 0
  | n5 + 1, sum, k => if (A_RW_amountOfParts σ r) ≤ k then sum else (A_RW_countSteps_L5 σ r n5 (if 1000000000000000001 < (sum + (A_RW_stepsInFull σ (A_RW_part σ r k))) then 1000000000000000001 else (sum + (A_RW_stepsInFull σ (A_RW_part σ r k)))) (k + 1))
def A_RW_countSteps (σ : tRW) (r : Int32) : Int64 := A_RW_countSteps_L5 σ r (M_RW_countSteps_L5 σ r 1 0 + 1) 1 0
set_option maxHeartbeats 4000000 in
set_option maxRecDepth 100000 in
theorem c_RW_countSteps (l : Launch) (G : pG) (h0 : Nat) (ad : Nat → Nat) (σ : tRW) (r : Int32) (H : Heap) (w : va_W) (hP0 : va_P G.1 vwCl w H) (hσ : pRW G h0 ad σ w) (res : Int64) (hr0 : A_RW_countSteps σ r = res) : MRl l y_RW_countSteps w_RW_countSteps 4 84 G [.ref h0, .int r] H res := by
  refine Met.ofW (cc := b_RW_countSteps) (maxL := 5) (ret := (some .long)) (by decide) rfl ?_
  intro p e s m args below meth c s₁ B hml hv
  obtain ⟨rfl, rfl, hK⟩ := hv
  have hx := B.exec
  have hb := B.bytes
  have hr := B.returns
  have hts0 := atoms_spec (ws := w_RW_countSteps) B.pre
  have hts := fun w (h : w ∈ lw_g) => hts0 w (List.mem_cons_of_mem _ h)
  have hown : s.vm.findClass RRW = some m.cls := findClass_of_methodNamed B.named
  have hlocks := B.notSynchronized
  have hσ0 := hσ
  obtain ⟨q15, q16, w1, w3, w5, w7, w9, w11, w13, rfl, h2, h4, h6, h8, h10, h12, h14, h17⟩ := hσ
  have hP := hP0
  obtain ⟨A, hAe⟩ : ∃ A : Nat → Prop, A = fun _ => False := ⟨_, rfl⟩
  rw [← hAe]
  have hS : va_S A s.heap s.heap [] := va_S.rf
  have hl := lv_entry ([.ref h0, .int r]) (n := 5) (Nat.le_of_ble_eq_true rfl)
  rw [lg_entry_eq]
  generalize (lg_sl ([.ref h0, .int r]) ++ List.replicate (5 - (lg_sl ([.ref h0, .int r])).length) Slot.unset).toArray = ls at hl ⊢
  have hl : lv_has ls 5 [(0, .ref h0), (1, .int r)] := hl
  unfold A_RW_countSteps at hr0
  refine lv_lconst (v := 1) hx hb d_RW_countSteps_0 (by decide) ?_
  refine lv_lstore_n (lv' := [(2, .long 1), (0, .ref h0), (1, .int r)]) hx hb d_RW_countSteps_1 rfl hl (by decide) rfl (fun ls hl => ?_)
  refine lv_iconst (v := 0) hx hb d_RW_countSteps_2 (by decide) ?_
  refine lv_istore (lv' := [(4, .int 0), (2, .long 1), (0, .ref h0), (1, .int r)]) hx hb d_RW_countSteps_3 hl (by decide) rfl (fun ls hl => ?_)
  refine lp_R (I := fun n5 locs ls => ∃ (sum : Int64) (k : Int32), va_S A s.heap s.heap locs ∧ lv_has ls 5 [(0, .ref h0), (1, .int r), (2, .long sum), (4, .int k)] ∧ A_RW_countSteps_L5 σ r n5 sum k = res ∧ M_RW_countSteps_L5 σ r sum k < n5) ?_ ?_ (M_RW_countSteps_L5 σ r 1 0 + 1) _ _ ⟨1, 0, hS, lv_sub hl [2, 3, 1, 0] rfl, hr0, Nat.lt_succ_self _⟩
  · intro n5 ih5 locs ls ⟨sum, k, hS, hl, hr0, hm5⟩
    rw [A_RW_countSteps_L5] at hr0
    refine lv_iload hx hb d_RW_countSteps_5 (lv_at hl 3 rfl) ?_
    refine lv_aload_n hx hb d_RW_countSteps_7 rfl (lv_at hl 0 rfl) ?_
    refine lv_iload_n hx hb d_RW_countSteps_8 rfl (lv_at hl 1 rfl) ?_
    refine rdV (G := G) (As := [.int r]) (rest := [.int k]) (C := RRW) ⟨hx, hb, hml, hown, hts⟩ (c_RW_amountOfParts l G h0 ad σ r _ _ hP0 hσ0 _ rfl) (cwV 1 hts (gd_V ml_RW_69 im_RW_amountOfParts sl_RW_amountOfParts ini_RW k_RW_amountOfParts) rfl rmK_c rmK_s (by decide +kernel) ⟨Nat.le_of_ble_eq_true rfl, Nat.le_of_ble_eq_true rfl⟩) hK (pRW_recv hK hP0 hσ0) hS ⟨Nat.le_refl _, Nat.le_refl _⟩ rfl hl.1 (Nat.le_of_ble_eq_true rfl) d_RW_countSteps_9 (fun locs hS => ?_)
    refine lv_icmp_ge (tgt := 41) hx hb d_RW_countSteps_12 (by decide) (fun c18 => ?_) (fun c18 => ?_)
    · have hr0 := ai_pos c18 hr0
      refine lv_lload_n hx hb d_RW_countSteps_41 rfl (lv_at hl 2 rfl) ?_
      exact W.lret (v := sum) hx hb hr (fun t ht hW => ⟨⟨sum, (), rfl, hr0, ht⟩, hS.F ht⟩) hS.2.2 d_RW_countSteps_42
    · have hr0 := ai_neg c18 hr0
      refine lv_lload_n hx hb d_RW_countSteps_15 rfl (lv_at hl 2 rfl) ?_
      refine lv_aload_n hx hb d_RW_countSteps_16 rfl (lv_at hl 0 rfl) ?_
      refine lv_aload_n hx hb d_RW_countSteps_17 rfl (lv_at hl 0 rfl) ?_
      refine lv_iload_n hx hb d_RW_countSteps_18 rfl (lv_at hl 1 rfl) ?_
      refine lv_iload hx hb d_RW_countSteps_19 (lv_at hl 3 rfl) ?_
      refine rdV (G := G) (As := [.int r, .int k]) (rest := [.ref h0, .long sum]) (C := RRW) ⟨hx, hb, hml, hown, hts⟩ (c_RW_part l G h0 ad σ r k _ _ hP0 hσ0 _ rfl) (cwV 2 hts (gd_V ml_RW_107 im_RW_part sl_RW_part ini_RW k_RW_part) rfl rmK_c rmK_s (by decide +kernel) ⟨Nat.le_of_ble_eq_true rfl, Nat.le_of_ble_eq_true rfl⟩) hK (pRW_recv hK hP0 hσ0) hS ⟨Nat.le_refl _, Nat.le_refl _⟩ rfl hl.1 (Nat.le_of_ble_eq_true rfl) d_RW_countSteps_21 (fun locs hS => ?_)
      refine rdVl (G := G) (As := [.int (A_RW_part σ r k)]) (rest := [.long sum]) (C := RRW) ⟨hx, hb, hml, hown, hts⟩ (c_RW_stepsInFull l G h0 ad σ (A_RW_part σ r k) _ _ hP0 hσ0 _ rfl) (cwV 1 hts (gd_V ml_RW_110 im_RW_stepsInFull sl_RW_stepsInFull ini_RW k_RW_stepsInFull) rfl rmK_c rmK_s (by decide +kernel) ⟨Nat.le_of_ble_eq_true rfl, Nat.le_of_ble_eq_true rfl⟩) hK (pRW_recv hK hP0 hσ0) hS ⟨Nat.le_refl _, Nat.le_refl _⟩ rfl hl.1 (Nat.le_of_ble_eq_true rfl) d_RW_countSteps_24 (fun locs hS => ?_)
      refine lv_ladd hx hb d_RW_countSteps_27 ?_
      refine lv_ldc2 (v := 1000000000000000001) hx hb hown (hts _ cl2_RW_113) d_RW_countSteps_28 ?_
      refine va_mmin_long hx hb (hml.trans hl.1.symm) hown (hts _ ml_RW_115) (hts _ sm_math_minJ) (hts _ ini_java_lang_Math) (hts _ k_math_minJ) (Nat.le_of_ble_eq_true rfl) (Nat.le_of_ble_eq_true rfl) (Nat.le_refl _) (Nat.le_refl _) d_RW_countSteps_31 ?_
      refine lv_lstore_n (lv' := [(2, .long (if 1000000000000000001 < (sum + (A_RW_stepsInFull σ (A_RW_part σ r k))) then 1000000000000000001 else (sum + (A_RW_stepsInFull σ (A_RW_part σ r k))))), (0, .ref h0), (1, .int r), (4, .int k)]) hx hb d_RW_countSteps_34 rfl hl (by decide) rfl (fun ls hl => ?_)
      refine lv_iinc (v := k + 1) (lv' := [(4, .int (k + 1)), (2, .long (if 1000000000000000001 < (sum + (A_RW_stepsInFull σ (A_RW_part σ r k))) then 1000000000000000001 else (sum + (A_RW_stepsInFull σ (A_RW_part σ r k))))), (0, .ref h0), (1, .int r)]) hx hb d_RW_countSteps_35 hl (k := 3) rfl rfl (by decide) rfl (fun ls hl => ?_)
      refine lv_goto (tgt := 5) hx hb d_RW_countSteps_38 (by decide) ?_
      exact ih5 _ _ ⟨(if 1000000000000000001 < (sum + (A_RW_stepsInFull σ (A_RW_part σ r k))) then 1000000000000000001 else (sum + (A_RW_stepsInFull σ (A_RW_part σ r k)))), (k + 1), hS, lv_sub hl [2, 3, 1, 0] rfl, hr0, up_dec c18 hm5⟩
  · rintro locs ls ⟨_, _, -, -, -, hz⟩; exact Nat.not_lt_zero _ hz
