def A_TL_opn (σ : tTL) (r : Int32) : tTL := uTL_openParts (uTL_openRows σ (A_IL_add (gTL_openRows σ) r)) (A_IL_add (gTL_openParts σ) 0)
def K_TL_opn (σ : tTL) (r : Int32) : Nat := (K_IL_add (gTL_openRows σ) r) + ((K_IL_add (gTL_openParts σ) 0) + 0)
set_option maxHeartbeats 4000000 in
set_option maxRecDepth 100000 in
theorem c_TL_opn (l : Launch) (G : pG) (h0 : Nat) (bS : Nat) (bR : Nat) (ad : Nat → Nat) (adL : Nat → Nat) (σ : tTL) (r : Int32) (H : Heap) (w : va_W) (hP0 : va_P G.1 vwCl w H) (hD0 : va_D (fun _ => True) w) (hσ : pTL G h0 bS bR ad adL σ w) (res : tTL) (hr0 : A_TL_opn σ r = res) (Kt : Nat) (hk : K_TL_opn σ r = Kt) (hKb : Kt ≤ 16777216) : MWv l y_TL_opn w_TL_opn 3 103 Kt G [.ref h0, .int r] H w (pTL G h0 bS bR ad adL res) := by
  refine Met.ofW (cc := b_TL_opn) (maxL := 2) (ret := none) (by decide) rfl ?_
  intro p e s m args below meth c s₁ B hml hv
  obtain ⟨rfl, rfl, hK⟩ := hv
  have hx := B.exec
  have hb := B.bytes
  have hr := B.returns
  have hts0 := atoms_spec (ws := w_TL_opn) B.pre
  have hts := fun w (h : w ∈ lw_g) => hts0 w (List.mem_cons_of_mem _ h)
  have hown : s.vm.findClass RTL = some m.cls := findClass_of_methodNamed B.named
  have hlocks := B.notSynchronized
  have hA : ∀ q : Nat, s.heap.size ≤ q → va_A w s.heap.size q := fun _ h => Or.inr h
  have hB : bk G.1 vwCl (va_A w s.heap.size) [w] s.heap := bk_init hP0 hD0
  generalize va_A w s.heap.size = A at *
  have hS : va_S A s.heap s.heap [] := va_S.rf
  obtain ⟨w1, w3, w5, w7, w9, w11, w13, w15, w17, w19, rfl, h2, h4, h6, h8, h10, h12, h14, h16, h18, h20⟩ := hσ
  have hB := bk_many hB
  have hk : 0 + K_TL_opn σ r = Kt := (Nat.zero_add _).trans hk
  have hl := lv_entry ([.ref h0, .int r]) (n := 2) (Nat.le_of_ble_eq_true rfl)
  rw [lg_entry_eq]
  generalize (lg_sl ([.ref h0, .int r]) ++ List.replicate (2 - (lg_sl ([.ref h0, .int r])).length) Slot.unset).toArray = ls at hl ⊢
  have hl : lv_has ls 2 [(0, .ref h0), (1, .int r)] := hl
  unfold A_TL_opn at hr0
  unfold K_TL_opn at hk
  refine lv_aload_n hx hb d_TL_opn_0 rfl (lv_at hl 0 rfl) ?_
  refine va_get (D := G.1) (ci := 4) (v := .ref (ad 4)) (C := RTL) (T := TTL) (N := 14) hx hb hts inTL hown hK hB.1 0 rfl rfl 8 (by decide) (hts _ fl_TL_46) (fun _ h9 => h9) rfl d_TL_opn_1 ?_
  refine lv_iload_n hx hb d_TL_opn_4 rfl (lv_at hl 1 rfl) ?_
  refine wrV (G := G) (k := 5) (As := [.int r]) (rest := []) (C := RIL) ⟨hx, hb, hml, hown, hts⟩ (c_IL_add l G (ad 4) (gTL_openRows σ) r _ _ (bk_gP (k := 5) hB.1 rfl) (bk_own (k := 5) hB rfl) h10 _ rfl _ rfl (bk_ub hk hKb)) (cwV 1 hts (gd_V ml_TL_133 im_IL_add sl_IL_add ini_IL k_IL_add) rfl rmK_c rmK_s (by decide +kernel) ⟨Nat.le_of_ble_eq_true rfl, Nat.le_of_ble_eq_true rfl⟩) hK (pIL_recv hK (bk_gP (k := 5) hB.1 rfl) h10) hS hA hB rfl hk ⟨rfl, rfl⟩ rfl hl.1 (Nat.le_of_ble_eq_true rfl) d_TL_opn_5 (fun u21 H locs kc hu22 hB hS hk => ?_)
  have hB : bk G.1 vwCl A [[(h0, .inr (4, [.ref bS, .ref bR, .ref (ad 0), .ref (ad 1), .ref (ad 2), .ref (ad 3), .int (gTL_rowTold σ), .int (gTL_savedRows σ), .ref (ad 4), .ref (ad 5), .ref (ad 6), .ref (ad 7), .ref (ad 8), .ref (ad 9)]))], w1, w3, w5, w7, u21, w11, w13, w15, w17, w19] H := hB
  refine lv_aload_n hx hb d_TL_opn_8 rfl (lv_at hl 0 rfl) ?_
  refine va_get (D := G.1) (ci := 4) (v := .ref (ad 5)) (C := RTL) (T := TTL) (N := 14) hx hb hts inTL hown hK hB.1 0 rfl rfl 9 (by decide) (hts _ fl_TL_49) (fun _ h9 => h9) rfl d_TL_opn_9 ?_
  refine lv_iconst (v := 0) hx hb d_TL_opn_12 (by decide) ?_
  refine wrV (G := G) (k := 6) (As := [.int 0]) (rest := []) (C := RIL) ⟨hx, hb, hml, hown, hts⟩ (c_IL_add l G (ad 5) (gTL_openParts σ) 0 _ _ (bk_gP (k := 6) hB.1 rfl) (bk_own (k := 6) hB rfl) h12 _ rfl _ rfl (bk_ub hk hKb)) (cwV 1 hts (gd_V ml_TL_133 im_IL_add sl_IL_add ini_IL k_IL_add) rfl rmK_c rmK_s (by decide +kernel) ⟨Nat.le_of_ble_eq_true rfl, Nat.le_of_ble_eq_true rfl⟩) hK (pIL_recv hK (bk_gP (k := 6) hB.1 rfl) h12) hS hA hB rfl hk ⟨rfl, rfl⟩ rfl hl.1 (Nat.le_of_ble_eq_true rfl) d_TL_opn_13 (fun u23 H locs kc hu24 hB hS hk => ?_)
  have hB : bk G.1 vwCl A [[(h0, .inr (4, [.ref bS, .ref bR, .ref (ad 0), .ref (ad 1), .ref (ad 2), .ref (ad 3), .int (gTL_rowTold σ), .int (gTL_savedRows σ), .ref (ad 4), .ref (ad 5), .ref (ad 6), .ref (ad 7), .ref (ad 8), .ref (ad 9)]))], w1, w3, w5, w7, u21, u23, w13, w15, w17, w19] H := hB
  subst hr0
  refine W.widen (k := Kt) (n := Kt) (Nat.le.intro hk) (Nat.le.intro hk) ?_
  exact W.vret hx hb hr (fun t ht hW => ⟨⟨[[(h0, .inr (4, [.ref bS, .ref bR, .ref (ad 0), .ref (ad 1), .ref (ad 2), .ref (ad 3), .int (gTL_rowTold σ), .int (gTL_savedRows σ), .ref (ad 4), .ref (ad 5), .ref (ad 6), .ref (ad 7), .ref (ad 8), .ref (ad 9)]))], w1, w3, w5, w7, u21, u23, w13, w15, w17, w19].flatten, rfl, ⟨w1, w3, w5, w7, u21, u23, w13, w15, w17, w19, rfl, h2, h4, h6, h8, hu22, hu24, h14, h16, h18, h20⟩, by rw [ht]; exact hB.1, hB.2⟩, hS.F ht⟩) hS.2.2 d_TL_opn_16

def A_TL_addStep (σ : tTL) (told : Int32) : tTL := uTL_savedAs (uTL_steps σ (A_IL_add (gTL_steps σ) told)) (A_IL_add (gTL_savedAs σ) (-1))
def K_TL_addStep (σ : tTL) (told : Int32) : Nat := (K_IL_add (gTL_steps σ) told) + ((K_IL_add (gTL_savedAs σ) (-1)) + 0)
set_option maxHeartbeats 4000000 in
set_option maxRecDepth 100000 in
theorem c_TL_addStep (l : Launch) (G : pG) (h0 : Nat) (bS : Nat) (bR : Nat) (ad : Nat → Nat) (adL : Nat → Nat) (σ : tTL) (told : Int32) (H : Heap) (w : va_W) (hP0 : va_P G.1 vwCl w H) (hD0 : va_D (fun _ => True) w) (hσ : pTL G h0 bS bR ad adL σ w) (res : tTL) (hr0 : A_TL_addStep σ told = res) (Kt : Nat) (hk : K_TL_addStep σ told = Kt) (hKb : Kt ≤ 16777216) : MWv l y_TL_addStep w_TL_addStep 3 103 Kt G [.ref h0, .int told] H w (pTL G h0 bS bR ad adL res) := by
  refine Met.ofW (cc := b_TL_addStep) (maxL := 2) (ret := none) (by decide) rfl ?_
  intro p e s m args below meth c s₁ B hml hv
  obtain ⟨rfl, rfl, hK⟩ := hv
  have hx := B.exec
  have hb := B.bytes
  have hr := B.returns
  have hts0 := atoms_spec (ws := w_TL_addStep) B.pre
  have hts := fun w (h : w ∈ lw_g) => hts0 w (List.mem_cons_of_mem _ h)
  have hown : s.vm.findClass RTL = some m.cls := findClass_of_methodNamed B.named
  have hlocks := B.notSynchronized
  have hA : ∀ q : Nat, s.heap.size ≤ q → va_A w s.heap.size q := fun _ h => Or.inr h
  have hB : bk G.1 vwCl (va_A w s.heap.size) [w] s.heap := bk_init hP0 hD0
  generalize va_A w s.heap.size = A at *
  have hS : va_S A s.heap s.heap [] := va_S.rf
  obtain ⟨w1, w3, w5, w7, w9, w11, w13, w15, w17, w19, rfl, h2, h4, h6, h8, h10, h12, h14, h16, h18, h20⟩ := hσ
  have hB := bk_many hB
  have hk : 0 + K_TL_addStep σ told = Kt := (Nat.zero_add _).trans hk
  have hl := lv_entry ([.ref h0, .int told]) (n := 2) (Nat.le_of_ble_eq_true rfl)
  rw [lg_entry_eq]
  generalize (lg_sl ([.ref h0, .int told]) ++ List.replicate (2 - (lg_sl ([.ref h0, .int told])).length) Slot.unset).toArray = ls at hl ⊢
  have hl : lv_has ls 2 [(0, .ref h0), (1, .int told)] := hl
  unfold A_TL_addStep at hr0
  unfold K_TL_addStep at hk
  refine lv_aload_n hx hb d_TL_addStep_0 rfl (lv_at hl 0 rfl) ?_
  refine va_get (D := G.1) (ci := 4) (v := .ref (ad 0)) (C := RTL) (T := TTL) (N := 14) hx hb hts inTL hown hK hB.1 0 rfl rfl 2 (by decide) (hts _ fl_TL_22) (fun _ h9 => h9) rfl d_TL_addStep_1 ?_
  refine lv_iload_n hx hb d_TL_addStep_4 rfl (lv_at hl 1 rfl) ?_
  refine wrV (G := G) (k := 1) (As := [.int told]) (rest := []) (C := RIL) ⟨hx, hb, hml, hown, hts⟩ (c_IL_add l G (ad 0) (gTL_steps σ) told _ _ (bk_gP (k := 1) hB.1 rfl) (bk_own (k := 1) hB rfl) h2 _ rfl _ rfl (bk_ub hk hKb)) (cwV 1 hts (gd_V ml_TL_133 im_IL_add sl_IL_add ini_IL k_IL_add) rfl rmK_c rmK_s (by decide +kernel) ⟨Nat.le_of_ble_eq_true rfl, Nat.le_of_ble_eq_true rfl⟩) hK (pIL_recv hK (bk_gP (k := 1) hB.1 rfl) h2) hS hA hB rfl hk ⟨rfl, rfl⟩ rfl hl.1 (Nat.le_of_ble_eq_true rfl) d_TL_addStep_5 (fun u21 H locs kc hu22 hB hS hk => ?_)
  have hB : bk G.1 vwCl A [[(h0, .inr (4, [.ref bS, .ref bR, .ref (ad 0), .ref (ad 1), .ref (ad 2), .ref (ad 3), .int (gTL_rowTold σ), .int (gTL_savedRows σ), .ref (ad 4), .ref (ad 5), .ref (ad 6), .ref (ad 7), .ref (ad 8), .ref (ad 9)]))], u21, w3, w5, w7, w9, w11, w13, w15, w17, w19] H := hB
  refine lv_aload_n hx hb d_TL_addStep_8 rfl (lv_at hl 0 rfl) ?_
  refine va_get (D := G.1) (ci := 4) (v := .ref (ad 1)) (C := RTL) (T := TTL) (N := 14) hx hb hts inTL hown hK hB.1 0 rfl rfl 3 (by decide) (hts _ fl_TL_26) (fun _ h9 => h9) rfl d_TL_addStep_9 ?_
  refine lv_iconst (v := (-1)) hx hb d_TL_addStep_12 (by decide) ?_
  refine wrV (G := G) (k := 2) (As := [.int (-1)]) (rest := []) (C := RIL) ⟨hx, hb, hml, hown, hts⟩ (c_IL_add l G (ad 1) (gTL_savedAs σ) (-1) _ _ (bk_gP (k := 2) hB.1 rfl) (bk_own (k := 2) hB rfl) h4 _ rfl _ rfl (bk_ub hk hKb)) (cwV 1 hts (gd_V ml_TL_133 im_IL_add sl_IL_add ini_IL k_IL_add) rfl rmK_c rmK_s (by decide +kernel) ⟨Nat.le_of_ble_eq_true rfl, Nat.le_of_ble_eq_true rfl⟩) hK (pIL_recv hK (bk_gP (k := 2) hB.1 rfl) h4) hS hA hB rfl hk ⟨rfl, rfl⟩ rfl hl.1 (Nat.le_of_ble_eq_true rfl) d_TL_addStep_13 (fun u23 H locs kc hu24 hB hS hk => ?_)
  have hB : bk G.1 vwCl A [[(h0, .inr (4, [.ref bS, .ref bR, .ref (ad 0), .ref (ad 1), .ref (ad 2), .ref (ad 3), .int (gTL_rowTold σ), .int (gTL_savedRows σ), .ref (ad 4), .ref (ad 5), .ref (ad 6), .ref (ad 7), .ref (ad 8), .ref (ad 9)]))], u21, u23, w5, w7, w9, w11, w13, w15, w17, w19] H := hB
  subst hr0
  refine W.widen (k := Kt) (n := Kt) (Nat.le.intro hk) (Nat.le.intro hk) ?_
  exact W.vret hx hb hr (fun t ht hW => ⟨⟨[[(h0, .inr (4, [.ref bS, .ref bR, .ref (ad 0), .ref (ad 1), .ref (ad 2), .ref (ad 3), .int (gTL_rowTold σ), .int (gTL_savedRows σ), .ref (ad 4), .ref (ad 5), .ref (ad 6), .ref (ad 7), .ref (ad 8), .ref (ad 9)]))], u21, u23, w5, w7, w9, w11, w13, w15, w17, w19].flatten, rfl, ⟨u21, u23, w5, w7, w9, w11, w13, w15, w17, w19, rfl, hu22, hu24, h6, h8, h10, h12, h14, h16, h18, h20⟩, by rw [ht]; exact hB.1, hB.2⟩, hS.F ht⟩) hS.2.2 d_TL_addStep_16

def A_TL_tellPart (σ : tTL) (ss : tST) (rr : tRW) (r : Int32) : tTL := if (A_IL_at (gTL_toldAt σ) (A_RW_kindOf rr r)) = (-1) then (bnd (A_TL_opn σ r) (fun T23 => T23)) else (if (A_RW_amountOfParts rr r) = 0 then (bnd (A_TL_opn σ r) (fun T76 => T76)) else (bnd (A_TL_addStep (uTL_savedAs σ (A_IL_put (gTL_savedAs σ) (A_IL_at (gTL_toldAt σ) (A_RW_kindOf rr r)) 0)) ((-2) - (A_IL_at (gTL_toldAt σ) (A_RW_kindOf rr r)))) (fun T51 => T51)))
def K_TL_tellPart (σ : tTL) (ss : tST) (rr : tRW) (r : Int32) : Nat := if (A_IL_at (gTL_toldAt σ) (A_RW_kindOf rr r)) = (-1) then ((K_TL_opn σ r) + (bnd (A_TL_opn σ r) (fun T23 => 0))) else (if (A_RW_amountOfParts rr r) = 0 then ((K_TL_opn σ r) + (bnd (A_TL_opn σ r) (fun T76 => 0))) else ((K_TL_addStep (uTL_savedAs σ (A_IL_put (gTL_savedAs σ) (A_IL_at (gTL_toldAt σ) (A_RW_kindOf rr r)) 0)) ((-2) - (A_IL_at (gTL_toldAt σ) (A_RW_kindOf rr r)))) + (bnd (A_TL_addStep (uTL_savedAs σ (A_IL_put (gTL_savedAs σ) (A_IL_at (gTL_toldAt σ) (A_RW_kindOf rr r)) 0)) ((-2) - (A_IL_at (gTL_toldAt σ) (A_RW_kindOf rr r)))) (fun T51 => 0))))
set_option maxHeartbeats 4000000 in
set_option maxRecDepth 100000 in
theorem c_TL_tellPart (l : Launch) (G : pG) (h0 : Nat) (bS : Nat) (bR : Nat) (ad : Nat → Nat) (adL : Nat → Nat) (σ : tTL) (r : Int32) (H : Heap) (w : va_W) (adS : Nat → Nat) (ss : tST) (vS : va_W) (hvS : va_P G.1 vwCl vS H) (hsS : pST G bS adS ss vS) (ap_ss : bk_ap w vS) (adR : Nat → Nat) (rr : tRW) (vR : va_W) (hvR : va_P G.1 vwCl vR H) (hrR : pRW G bR adR rr vR) (ap_rr : bk_ap w vR) (hP0 : va_P G.1 vwCl w H) (hD0 : va_D (fun _ => True) w) (hσ : pTL G h0 bS bR ad adL σ w) (res : tTL) (hr0 : A_TL_tellPart σ ss rr r = res) (Kt : Nat) (hk : K_TL_tellPart σ ss rr r = Kt) (hKb : Kt ≤ 16777216) : MWv l y_TL_tellPart w_TL_tellPart 4 124 Kt G [.ref h0, .int r] H w (pTL G h0 bS bR ad adL res) := by
  refine Met.ofW (cc := b_TL_tellPart) (maxL := 3) (ret := none) (by decide) rfl ?_
  intro p e s m args below meth c s₁ B hml hv
  obtain ⟨rfl, rfl, hK⟩ := hv
  have hx := B.exec
  have hb := B.bytes
  have hr := B.returns
  have hts0 := atoms_spec (ws := w_TL_tellPart) B.pre
  have hts := fun w (h : w ∈ lw_g) => hts0 w (List.mem_cons_of_mem _ h)
  have hown : s.vm.findClass RTL = some m.cls := findClass_of_methodNamed B.named
  have hlocks := B.notSynchronized
  have hA : ∀ q : Nat, s.heap.size ≤ q → va_A w s.heap.size q := fun _ h => Or.inr h
  have hro_ss := ro_A hvS ap_ss
  have hro_rr := ro_A hvR ap_rr
  have hB : bk G.1 vwCl (va_A w s.heap.size) [w] s.heap := bk_init hP0 hD0
  generalize va_A w s.heap.size = A at *
  have hS : va_S A s.heap s.heap [] := va_S.rf
  obtain ⟨w1, w3, w5, w7, w9, w11, w13, w15, w17, w19, rfl, h2, h4, h6, h8, h10, h12, h14, h16, h18, h20⟩ := hσ
  have hB := bk_many hB
  have hk : 0 + K_TL_tellPart σ ss rr r = Kt := (Nat.zero_add _).trans hk
  have hl := lv_entry ([.ref h0, .int r]) (n := 3) (Nat.le_of_ble_eq_true rfl)
  rw [lg_entry_eq]
  generalize (lg_sl ([.ref h0, .int r]) ++ List.replicate (3 - (lg_sl ([.ref h0, .int r])).length) Slot.unset).toArray = ls at hl ⊢
  have hl : lv_has ls 3 [(0, .ref h0), (1, .int r)] := hl
  unfold A_TL_tellPart at hr0
  unfold K_TL_tellPart at hk
  refine lv_aload_n hx hb d_TL_tellPart_0 rfl (lv_at hl 0 rfl) ?_
  refine va_get (D := G.1) (ci := 4) (v := .ref (ad 6)) (C := RTL) (T := TTL) (N := 14) hx hb hts inTL hown hK hB.1 0 rfl rfl 10 (by decide) (hts _ fl_TL_52) (fun _ h9 => h9) rfl d_TL_tellPart_1 ?_
  refine lv_aload_n hx hb d_TL_tellPart_4 rfl (lv_at hl 0 rfl) ?_
  refine va_get (D := G.1) (ci := 4) (v := .ref bR) (C := RTL) (T := TTL) (N := 14) hx hb hts inTL hown hK hB.1 0 rfl rfl 1 (by decide) (hts _ fl_TL_15) (fun _ h9 => h9) rfl d_TL_tellPart_5 ?_
  refine lv_iload_n hx hb d_TL_tellPart_8 rfl (lv_at hl 1 rfl) ?_
  refine rdV (G := G) (As := [.int r]) (rest := [.ref (ad 6)]) (C := RRW) ⟨hx, hb, hml, hown, hts⟩ (c_RW_kindOf l G bR adR rr r _ _ (ro_keep hS hvR hro_rr) hrR _ rfl) (cwV 1 hts (gd_V ml_TL_124 im_RW_kindOf sl_RW_kindOf ini_RW k_RW_kindOf) rfl rmK_c rmK_s (by decide +kernel) ⟨Nat.le_of_ble_eq_true rfl, Nat.le_of_ble_eq_true rfl⟩) hK (pRW_recv hK (ro_keep hS hvR hro_rr) hrR) hS ⟨Nat.le.intro hk, Nat.le.intro hk⟩ rfl hl.1 (Nat.le_of_ble_eq_true rfl) d_TL_tellPart_9 (fun locs hS => ?_)
  refine rdV (G := G) (As := [.int (A_RW_kindOf rr r)]) (rest := []) (C := RIL) ⟨hx, hb, hml, hown, hts⟩ (c_IL_at l G (ad 6) (gTL_toldAt σ) (A_RW_kindOf rr r) _ _ (bk_gP (k := 7) hB.1 rfl) h14 _ rfl) (cwV 1 hts (gd_V ml_TL_78 im_IL_at sl_IL_at ini_IL k_IL_at) rfl rmK_c rmK_s (by decide +kernel) ⟨Nat.le_of_ble_eq_true rfl, Nat.le_of_ble_eq_true rfl⟩) hK (pIL_recv hK (bk_gP (k := 7) hB.1 rfl) h14) hS ⟨Nat.le.intro hk, Nat.le.intro hk⟩ rfl hl.1 (Nat.le_of_ble_eq_true rfl) d_TL_tellPart_12 (fun locs hS => ?_)
  refine lv_istore_n (lv' := [(2, .int (A_IL_at (gTL_toldAt σ) (A_RW_kindOf rr r))), (0, .ref h0), (1, .int r)]) hx hb d_TL_tellPart_15 rfl hl (by decide) rfl (fun ls hl => ?_)
  refine lv_iload_n hx hb d_TL_tellPart_16 rfl (lv_at hl 0 rfl) ?_
  refine lv_iconst (v := (-1)) hx hb d_TL_tellPart_17 (by decide) ?_
  refine lv_icmp_eq (tgt := 32) hx hb d_TL_tellPart_18 (by decide) (fun c21 => ?_) (fun c21 => ?_)
  · have hr0 := ai_pos c21 hr0
    have hk := ki_pos c21 hk
    refine lv_aload_n hx hb d_TL_tellPart_32 rfl (lv_at hl 1 rfl) ?_
    refine lv_iload_n hx hb d_TL_tellPart_33 rfl (lv_at hl 2 rfl) ?_
    have hB := bk_one hB
    have hpk22 : pTL G h0 bS bR ad adL σ ([[(h0, .inr (4, [.ref bS, .ref bR, .ref (ad 0), .ref (ad 1), .ref (ad 2), .ref (ad 3), .int (gTL_rowTold σ), .int (gTL_savedRows σ), .ref (ad 4), .ref (ad 5), .ref (ad 6), .ref (ad 7), .ref (ad 8), .ref (ad 9)]))], w1, w3, w5, w7, w9, w11, w13, w15, w17, w19].flatten) := ⟨w1, w3, w5, w7, w9, w11, w13, w15, w17, w19, rfl, h2, h4, h6, h8, h10, h12, h14, h16, h18, h20⟩
    obtain ⟨T23, hT24⟩ : ∃ z, A_TL_opn σ r = z := ⟨_, rfl⟩
    refine wrV (G := G) (k := 0) (As := [.int r]) (rest := []) (C := RTL) ⟨hx, hb, hml, hown, hts⟩ (c_TL_opn l G h0 bS bR ad adL σ r _ _ (bk_gP (k := 0) hB.1 rfl) (bk_own (k := 0) hB rfl) hpk22 T23 hT24 _ rfl (bk_ub hk hKb)) (cwV 1 hts (gd_V ml_TL_107 im_TL_opn sl_TL_opn ini_TL k_TL_opn) rfl rmK_c rmK_s (by decide +kernel) ⟨Nat.le_of_ble_eq_true rfl, Nat.le_of_ble_eq_true rfl⟩) hK (pTL_recv hK (bk_gP (k := 0) hB.1 rfl) hpk22) hS hA hB rfl hk ⟨rfl, rfl⟩ rfl hl.1 (Nat.le_of_ble_eq_true rfl) d_TL_tellPart_34 (fun u25 H locs kc hu26 hB hS hk => ?_)
    have hr0 := bnd_e hT24 hr0
    have hk := bnd_k hT24 hk
    have hB : bk G.1 vwCl A [u25] H := hB
    obtain ⟨w27, w29, w31, w33, w35, w37, w39, w41, w43, w45, rfl, h28, h30, h32, h34, h36, h38, h40, h42, h44, h46⟩ := hu26
    have hB : bk G.1 vwCl A [[(h0, .inr (4, [.ref bS, .ref bR, .ref (ad 0), .ref (ad 1), .ref (ad 2), .ref (ad 3), .int (gTL_rowTold T23), .int (gTL_savedRows T23), .ref (ad 4), .ref (ad 5), .ref (ad 6), .ref (ad 7), .ref (ad 8), .ref (ad 9)]))], w27, w29, w31, w33, w35, w37, w39, w41, w43, w45] H := bk_many hB
    subst hr0
    refine W.widen (k := Kt) (n := Kt) (Nat.le.intro hk) (Nat.le.intro hk) ?_
    exact W.vret hx hb hr (fun t ht hW => ⟨⟨[[(h0, .inr (4, [.ref bS, .ref bR, .ref (ad 0), .ref (ad 1), .ref (ad 2), .ref (ad 3), .int (gTL_rowTold T23), .int (gTL_savedRows T23), .ref (ad 4), .ref (ad 5), .ref (ad 6), .ref (ad 7), .ref (ad 8), .ref (ad 9)]))], w27, w29, w31, w33, w35, w37, w39, w41, w43, w45].flatten, rfl, ⟨w27, w29, w31, w33, w35, w37, w39, w41, w43, w45, rfl, h28, h30, h32, h34, h36, h38, h40, h42, h44, h46⟩, by rw [ht]; exact hB.1, hB.2⟩, hS.F ht⟩) hS.2.2 d_TL_tellPart_37
  · have hr0 := ai_neg c21 hr0
    have hk := ki_neg c21 hk
    refine lv_aload_n hx hb d_TL_tellPart_21 rfl (lv_at hl 1 rfl) ?_
    refine va_get (D := G.1) (ci := 4) (v := .ref bR) (C := RTL) (T := TTL) (N := 14) hx hb hts inTL hown hK hB.1 0 rfl rfl 1 (by decide) (hts _ fl_TL_15) (fun _ h9 => h9) rfl d_TL_tellPart_22 ?_
    refine lv_iload_n hx hb d_TL_tellPart_25 rfl (lv_at hl 2 rfl) ?_
    refine rdV (G := G) (As := [.int r]) (rest := []) (C := RRW) ⟨hx, hb, hml, hown, hts⟩ (c_RW_amountOfParts l G bR adR rr r _ _ (ro_keep hS hvR hro_rr) hrR _ rfl) (cwV 1 hts (gd_V ml_TL_111 im_RW_amountOfParts sl_RW_amountOfParts ini_RW k_RW_amountOfParts) rfl rmK_c rmK_s (by decide +kernel) ⟨Nat.le_of_ble_eq_true rfl, Nat.le_of_ble_eq_true rfl⟩) hK (pRW_recv hK (ro_keep hS hvR hro_rr) hrR) hS ⟨Nat.le.intro hk, Nat.le.intro hk⟩ rfl hl.1 (Nat.le_of_ble_eq_true rfl) d_TL_tellPart_26 (fun locs hS => ?_)
    refine lv_if_ne (tgt := 38) hx hb d_TL_tellPart_29 (by decide) (fun c47 => ?_) (fun c47 => ?_)
    · have hr0 := ai_neg c47 hr0
      have hk := ki_neg c47 hk
      refine lv_aload_n hx hb d_TL_tellPart_38 rfl (lv_at hl 1 rfl) ?_
      refine va_get (D := G.1) (ci := 4) (v := .ref (ad 1)) (C := RTL) (T := TTL) (N := 14) hx hb hts inTL hown hK hB.1 0 rfl rfl 3 (by decide) (hts _ fl_TL_26) (fun _ h9 => h9) rfl d_TL_tellPart_39 ?_
      refine lv_iload_n hx hb d_TL_tellPart_42 rfl (lv_at hl 0 rfl) ?_
      refine lv_iconst (v := 0) hx hb d_TL_tellPart_43 (by decide) ?_
      refine wrV0 (G := G) (k := 2) (As := [.int (A_IL_at (gTL_toldAt σ) (A_RW_kindOf rr r)), .int 0]) (rest := []) (C := RIL) ⟨hx, hb, hml, hown, hts⟩ (c_IL_put l G (ad 1) (gTL_savedAs σ) (A_IL_at (gTL_toldAt σ) (A_RW_kindOf rr r)) 0 _ _ (bk_gP (k := 2) hB.1 rfl) (bk_own (k := 2) hB rfl) h4 _ rfl) (cwV 2 hts (gd_V ml_TL_114 im_IL_put sl_IL_put ini_IL k_IL_put) rfl rmK_c rmK_s (by decide +kernel) ⟨Nat.le_of_ble_eq_true rfl, Nat.le_of_ble_eq_true rfl⟩) hK (pIL_recv hK (bk_gP (k := 2) hB.1 rfl) h4) hS hA hB rfl hk ⟨rfl, rfl⟩ rfl hl.1 (Nat.le_of_ble_eq_true rfl) d_TL_tellPart_44 (fun u48 H locs hu49 hB hS => ?_)
      have hB : bk G.1 vwCl A [[(h0, .inr (4, [.ref bS, .ref bR, .ref (ad 0), .ref (ad 1), .ref (ad 2), .ref (ad 3), .int (gTL_rowTold σ), .int (gTL_savedRows σ), .ref (ad 4), .ref (ad 5), .ref (ad 6), .ref (ad 7), .ref (ad 8), .ref (ad 9)]))], w1, u48, w5, w7, w9, w11, w13, w15, w17, w19] H := hB
      refine lv_aload_n hx hb d_TL_tellPart_47 rfl (lv_at hl 1 rfl) ?_
      refine lv_bipush (v := (-2)) hx hb d_TL_tellPart_48 (by decide) ?_
      refine lv_iload_n hx hb d_TL_tellPart_50 rfl (lv_at hl 0 rfl) ?_
      refine lv_isub hx hb d_TL_tellPart_51 ?_
      have hB := bk_one hB
      have hpk50 : pTL G h0 bS bR ad adL (uTL_savedAs σ (A_IL_put (gTL_savedAs σ) (A_IL_at (gTL_toldAt σ) (A_RW_kindOf rr r)) 0)) ([[(h0, .inr (4, [.ref bS, .ref bR, .ref (ad 0), .ref (ad 1), .ref (ad 2), .ref (ad 3), .int (gTL_rowTold σ), .int (gTL_savedRows σ), .ref (ad 4), .ref (ad 5), .ref (ad 6), .ref (ad 7), .ref (ad 8), .ref (ad 9)]))], w1, u48, w5, w7, w9, w11, w13, w15, w17, w19].flatten) := ⟨w1, u48, w5, w7, w9, w11, w13, w15, w17, w19, rfl, h2, hu49, h6, h8, h10, h12, h14, h16, h18, h20⟩
      obtain ⟨T51, hT52⟩ : ∃ z, A_TL_addStep (uTL_savedAs σ (A_IL_put (gTL_savedAs σ) (A_IL_at (gTL_toldAt σ) (A_RW_kindOf rr r)) 0)) ((-2) - (A_IL_at (gTL_toldAt σ) (A_RW_kindOf rr r))) = z := ⟨_, rfl⟩
      refine wrV (G := G) (k := 0) (As := [.int ((-2) - (A_IL_at (gTL_toldAt σ) (A_RW_kindOf rr r)))]) (rest := []) (C := RTL) ⟨hx, hb, hml, hown, hts⟩ (c_TL_addStep l G h0 bS bR ad adL (uTL_savedAs σ (A_IL_put (gTL_savedAs σ) (A_IL_at (gTL_toldAt σ) (A_RW_kindOf rr r)) 0)) ((-2) - (A_IL_at (gTL_toldAt σ) (A_RW_kindOf rr r))) _ _ (bk_gP (k := 0) hB.1 rfl) (bk_own (k := 0) hB rfl) hpk50 T51 hT52 _ rfl (bk_ub hk hKb)) (cwV 1 hts (gd_V ml_TL_130 im_TL_addStep sl_TL_addStep ini_TL k_TL_addStep) rfl rmK_c rmK_s (by decide +kernel) ⟨Nat.le_of_ble_eq_true rfl, Nat.le_of_ble_eq_true rfl⟩) hK (pTL_recv hK (bk_gP (k := 0) hB.1 rfl) hpk50) hS hA hB rfl hk ⟨rfl, rfl⟩ rfl hl.1 (Nat.le_of_ble_eq_true rfl) d_TL_tellPart_52 (fun u53 H locs kc hu54 hB hS hk => ?_)
      have hr0 := bnd_e hT52 hr0
      have hk := bnd_k hT52 hk
      have hB : bk G.1 vwCl A [u53] H := hB
      obtain ⟨w55, w57, w59, w61, w63, w65, w67, w69, w71, w73, rfl, h56, h58, h60, h62, h64, h66, h68, h70, h72, h74⟩ := hu54
      have hB : bk G.1 vwCl A [[(h0, .inr (4, [.ref bS, .ref bR, .ref (ad 0), .ref (ad 1), .ref (ad 2), .ref (ad 3), .int (gTL_rowTold T51), .int (gTL_savedRows T51), .ref (ad 4), .ref (ad 5), .ref (ad 6), .ref (ad 7), .ref (ad 8), .ref (ad 9)]))], w55, w57, w59, w61, w63, w65, w67, w69, w71, w73] H := bk_many hB
      subst hr0
      refine W.widen (k := Kt) (n := Kt) (Nat.le.intro hk) (Nat.le.intro hk) ?_
      exact W.vret hx hb hr (fun t ht hW => ⟨⟨[[(h0, .inr (4, [.ref bS, .ref bR, .ref (ad 0), .ref (ad 1), .ref (ad 2), .ref (ad 3), .int (gTL_rowTold T51), .int (gTL_savedRows T51), .ref (ad 4), .ref (ad 5), .ref (ad 6), .ref (ad 7), .ref (ad 8), .ref (ad 9)]))], w55, w57, w59, w61, w63, w65, w67, w69, w71, w73].flatten, rfl, ⟨w55, w57, w59, w61, w63, w65, w67, w69, w71, w73, rfl, h56, h58, h60, h62, h64, h66, h68, h70, h72, h74⟩, by rw [ht]; exact hB.1, hB.2⟩, hS.F ht⟩) hS.2.2 d_TL_tellPart_55
    · have hr0 := ai_pos c47 hr0
      have hk := ki_pos c47 hk
      refine lv_aload_n hx hb d_TL_tellPart_32 rfl (lv_at hl 1 rfl) ?_
      refine lv_iload_n hx hb d_TL_tellPart_33 rfl (lv_at hl 2 rfl) ?_
      have hB := bk_one hB
      have hpk75 : pTL G h0 bS bR ad adL σ ([[(h0, .inr (4, [.ref bS, .ref bR, .ref (ad 0), .ref (ad 1), .ref (ad 2), .ref (ad 3), .int (gTL_rowTold σ), .int (gTL_savedRows σ), .ref (ad 4), .ref (ad 5), .ref (ad 6), .ref (ad 7), .ref (ad 8), .ref (ad 9)]))], w1, w3, w5, w7, w9, w11, w13, w15, w17, w19].flatten) := ⟨w1, w3, w5, w7, w9, w11, w13, w15, w17, w19, rfl, h2, h4, h6, h8, h10, h12, h14, h16, h18, h20⟩
      obtain ⟨T76, hT77⟩ : ∃ z, A_TL_opn σ r = z := ⟨_, rfl⟩
      refine wrV (G := G) (k := 0) (As := [.int r]) (rest := []) (C := RTL) ⟨hx, hb, hml, hown, hts⟩ (c_TL_opn l G h0 bS bR ad adL σ r _ _ (bk_gP (k := 0) hB.1 rfl) (bk_own (k := 0) hB rfl) hpk75 T76 hT77 _ rfl (bk_ub hk hKb)) (cwV 1 hts (gd_V ml_TL_107 im_TL_opn sl_TL_opn ini_TL k_TL_opn) rfl rmK_c rmK_s (by decide +kernel) ⟨Nat.le_of_ble_eq_true rfl, Nat.le_of_ble_eq_true rfl⟩) hK (pTL_recv hK (bk_gP (k := 0) hB.1 rfl) hpk75) hS hA hB rfl hk ⟨rfl, rfl⟩ rfl hl.1 (Nat.le_of_ble_eq_true rfl) d_TL_tellPart_34 (fun u78 H locs kc hu79 hB hS hk => ?_)
      have hr0 := bnd_e hT77 hr0
      have hk := bnd_k hT77 hk
      have hB : bk G.1 vwCl A [u78] H := hB
      obtain ⟨w80, w82, w84, w86, w88, w90, w92, w94, w96, w98, rfl, h81, h83, h85, h87, h89, h91, h93, h95, h97, h99⟩ := hu79
      have hB : bk G.1 vwCl A [[(h0, .inr (4, [.ref bS, .ref bR, .ref (ad 0), .ref (ad 1), .ref (ad 2), .ref (ad 3), .int (gTL_rowTold T76), .int (gTL_savedRows T76), .ref (ad 4), .ref (ad 5), .ref (ad 6), .ref (ad 7), .ref (ad 8), .ref (ad 9)]))], w80, w82, w84, w86, w88, w90, w92, w94, w96, w98] H := bk_many hB
      subst hr0
      refine W.widen (k := Kt) (n := Kt) (Nat.le.intro hk) (Nat.le.intro hk) ?_
      exact W.vret hx hb hr (fun t ht hW => ⟨⟨[[(h0, .inr (4, [.ref bS, .ref bR, .ref (ad 0), .ref (ad 1), .ref (ad 2), .ref (ad 3), .int (gTL_rowTold T76), .int (gTL_savedRows T76), .ref (ad 4), .ref (ad 5), .ref (ad 6), .ref (ad 7), .ref (ad 8), .ref (ad 9)]))], w80, w82, w84, w86, w88, w90, w92, w94, w96, w98].flatten, rfl, ⟨w80, w82, w84, w86, w88, w90, w92, w94, w96, w98, rfl, h81, h83, h85, h87, h89, h91, h93, h95, h97, h99⟩, by rw [ht]; exact hB.1, hB.2⟩, hS.F ht⟩) hS.2.2 d_TL_tellPart_37

def M_TL_tellSteps_L41 (ss : tST) (rr : tRW) (turn : Int32) (τ : tTL) : Nat := ((1000000 : Int32).toInt - turn.toInt).toNat
def A_TL_tellSteps_L41 (ss : tST) (rr : tRW) : Nat → Int32 → tTL → tTL
  | 0, _, τ => τ
  | n41 + 1, turn, τ => if 1000000 ≤ turn then τ else (if (A_IL_length (gTL_openRows τ)) ≤ 0 then τ else (if (A_RW_amountOfParts rr (A_IL_at (gTL_openRows τ) ((A_IL_length (gTL_openRows τ)) - 1))) ≤ (A_IL_at (gTL_openParts τ) ((A_IL_length (gTL_openRows τ)) - 1)) then (bnd (A_TL_addStep (uTL_toldAt (uTL_openParts (uTL_openRows τ (A_IL_cut (gTL_openRows τ) ((A_IL_length (gTL_openRows τ)) - 1))) (A_IL_cut (gTL_openParts τ) ((A_IL_length (gTL_openRows τ)) - 1))) (A_IL_put (gTL_toldAt τ) (A_RW_kindOf rr (A_IL_at (gTL_openRows τ) ((A_IL_length (gTL_openRows τ)) - 1))) (A_IL_length (gTL_steps τ)))) (A_RW_statementOf rr (A_IL_at (gTL_openRows τ) ((A_IL_length (gTL_openRows τ)) - 1)))) (fun T82 => A_TL_tellSteps_L41 ss rr n41 (turn + 1) T82)) else (bnd (A_TL_tellPart (uTL_openParts τ (A_IL_put (gTL_openParts τ) ((A_IL_length (gTL_openRows τ)) - 1) ((A_IL_at (gTL_openParts τ) ((A_IL_length (gTL_openRows τ)) - 1)) + 1))) ss rr (A_RW_part rr (A_IL_at (gTL_openRows τ) ((A_IL_length (gTL_openRows τ)) - 1)) (A_IL_at (gTL_openParts τ) ((A_IL_length (gTL_openRows τ)) - 1)))) (fun T109 => A_TL_tellSteps_L41 ss rr n41 (turn + 1) T109))))
def K_TL_tellSteps_L41 (ss : tST) (rr : tRW) : Nat → Int32 → tTL → Nat
  | 0, _, _ => 0
  | n41 + 1, turn, τ => if 1000000 ≤ turn then 0 else (if (A_IL_length (gTL_openRows τ)) ≤ 0 then 0 else (if (A_RW_amountOfParts rr (A_IL_at (gTL_openRows τ) ((A_IL_length (gTL_openRows τ)) - 1))) ≤ (A_IL_at (gTL_openParts τ) ((A_IL_length (gTL_openRows τ)) - 1)) then ((K_TL_addStep (uTL_toldAt (uTL_openParts (uTL_openRows τ (A_IL_cut (gTL_openRows τ) ((A_IL_length (gTL_openRows τ)) - 1))) (A_IL_cut (gTL_openParts τ) ((A_IL_length (gTL_openRows τ)) - 1))) (A_IL_put (gTL_toldAt τ) (A_RW_kindOf rr (A_IL_at (gTL_openRows τ) ((A_IL_length (gTL_openRows τ)) - 1))) (A_IL_length (gTL_steps τ)))) (A_RW_statementOf rr (A_IL_at (gTL_openRows τ) ((A_IL_length (gTL_openRows τ)) - 1)))) + (bnd (A_TL_addStep (uTL_toldAt (uTL_openParts (uTL_openRows τ (A_IL_cut (gTL_openRows τ) ((A_IL_length (gTL_openRows τ)) - 1))) (A_IL_cut (gTL_openParts τ) ((A_IL_length (gTL_openRows τ)) - 1))) (A_IL_put (gTL_toldAt τ) (A_RW_kindOf rr (A_IL_at (gTL_openRows τ) ((A_IL_length (gTL_openRows τ)) - 1))) (A_IL_length (gTL_steps τ)))) (A_RW_statementOf rr (A_IL_at (gTL_openRows τ) ((A_IL_length (gTL_openRows τ)) - 1)))) (fun T82 => K_TL_tellSteps_L41 ss rr n41 (turn + 1) T82))) else ((K_TL_tellPart (uTL_openParts τ (A_IL_put (gTL_openParts τ) ((A_IL_length (gTL_openRows τ)) - 1) ((A_IL_at (gTL_openParts τ) ((A_IL_length (gTL_openRows τ)) - 1)) + 1))) ss rr (A_RW_part rr (A_IL_at (gTL_openRows τ) ((A_IL_length (gTL_openRows τ)) - 1)) (A_IL_at (gTL_openParts τ) ((A_IL_length (gTL_openRows τ)) - 1)))) + (bnd (A_TL_tellPart (uTL_openParts τ (A_IL_put (gTL_openParts τ) ((A_IL_length (gTL_openRows τ)) - 1) ((A_IL_at (gTL_openParts τ) ((A_IL_length (gTL_openRows τ)) - 1)) + 1))) ss rr (A_RW_part rr (A_IL_at (gTL_openRows τ) ((A_IL_length (gTL_openRows τ)) - 1)) (A_IL_at (gTL_openParts τ) ((A_IL_length (gTL_openRows τ)) - 1)))) (fun T109 => K_TL_tellSteps_L41 ss rr n41 (turn + 1) T109)))))
def A_TL_tellSteps (σ : tTL) (ss : tST) (rr : tRW) : tTL := bnd (A_TL_opn (uTL_openParts (uTL_openRows (uTL_toldAt σ (A_IL_fill (gTL_toldAt σ) (A_RW_amountOfKinds rr) (-1))) (A_IL_cut (gTL_openRows σ) 0)) (A_IL_cut (gTL_openParts σ) 0)) (gTL_rowTold σ)) (fun T28 => A_TL_tellSteps_L41 ss rr (M_TL_tellSteps_L41 ss rr 0 T28 + 1) 0 T28)
def K_TL_tellSteps (σ : tTL) (ss : tST) (rr : tRW) : Nat := (K_IL_fill (gTL_toldAt σ) (A_RW_amountOfKinds rr) (-1)) + ((K_TL_opn (uTL_openParts (uTL_openRows (uTL_toldAt σ (A_IL_fill (gTL_toldAt σ) (A_RW_amountOfKinds rr) (-1))) (A_IL_cut (gTL_openRows σ) 0)) (A_IL_cut (gTL_openParts σ) 0)) (gTL_rowTold σ)) + (bnd (A_TL_opn (uTL_openParts (uTL_openRows (uTL_toldAt σ (A_IL_fill (gTL_toldAt σ) (A_RW_amountOfKinds rr) (-1))) (A_IL_cut (gTL_openRows σ) 0)) (A_IL_cut (gTL_openParts σ) 0)) (gTL_rowTold σ)) (fun T28 => K_TL_tellSteps_L41 ss rr (M_TL_tellSteps_L41 ss rr 0 T28 + 1) 0 T28)))
set_option maxHeartbeats 4000000 in
set_option maxRecDepth 100000 in
theorem c_TL_tellSteps (l : Launch) (G : pG) (h0 : Nat) (bS : Nat) (bR : Nat) (ad : Nat → Nat) (adL : Nat → Nat) (σ : tTL) (H : Heap) (w : va_W) (adS : Nat → Nat) (ss : tST) (vS : va_W) (hvS : va_P G.1 vwCl vS H) (hsS : pST G bS adS ss vS) (ap_ss : bk_ap w vS) (adR : Nat → Nat) (rr : tRW) (vR : va_W) (hvR : va_P G.1 vwCl vR H) (hrR : pRW G bR adR rr vR) (ap_rr : bk_ap w vR) (hP0 : va_P G.1 vwCl w H) (hD0 : va_D (fun _ => True) w) (hσ : pTL G h0 bS bR ad adL σ w) (res : tTL) (hr0 : A_TL_tellSteps σ ss rr = res) (Kt : Nat) (hk : K_TL_tellSteps σ ss rr = Kt) (hKb : Kt ≤ 16777216) : MWv l y_TL_tellSteps w_TL_tellSteps 5 146 Kt G [.ref h0] H w (pTL G h0 bS bR ad adL res) := by
  refine Met.ofW (cc := b_TL_tellSteps) (maxL := 5) (ret := none) (by decide) rfl ?_
  intro p e s m args below meth c s₁ B hml hv
  obtain ⟨rfl, rfl, hK⟩ := hv
  have hx := B.exec
  have hb := B.bytes
  have hr := B.returns
  have hts0 := atoms_spec (ws := w_TL_tellSteps) B.pre
  have hts := fun w (h : w ∈ lw_g) => hts0 w (List.mem_cons_of_mem _ h)
  have hown : s.vm.findClass RTL = some m.cls := findClass_of_methodNamed B.named
  have hlocks := B.notSynchronized
  have hA : ∀ q : Nat, s.heap.size ≤ q → va_A w s.heap.size q := fun _ h => Or.inr h
  have hro_ss := ro_A hvS ap_ss
  have hro_rr := ro_A hvR ap_rr
  have hB : bk G.1 vwCl (va_A w s.heap.size) [w] s.heap := bk_init hP0 hD0
  generalize va_A w s.heap.size = A at *
  have hS : va_S A s.heap s.heap [] := va_S.rf
  obtain ⟨w1, w3, w5, w7, w9, w11, w13, w15, w17, w19, rfl, h2, h4, h6, h8, h10, h12, h14, h16, h18, h20⟩ := hσ
  have hB := bk_many hB
  have hk : 0 + K_TL_tellSteps σ ss rr = Kt := (Nat.zero_add _).trans hk
  have hl := lv_entry ([.ref h0]) (n := 5) (Nat.le_of_ble_eq_true rfl)
  rw [lg_entry_eq]
  generalize (lg_sl ([.ref h0]) ++ List.replicate (5 - (lg_sl ([.ref h0])).length) Slot.unset).toArray = ls at hl ⊢
  have hl : lv_has ls 5 [(0, .ref h0)] := hl
  unfold A_TL_tellSteps at hr0
  unfold K_TL_tellSteps at hk
  refine lv_aload_n hx hb d_TL_tellSteps_0 rfl (lv_at hl 0 rfl) ?_
  refine va_get (D := G.1) (ci := 4) (v := .ref (ad 6)) (C := RTL) (T := TTL) (N := 14) hx hb hts inTL hown hK hB.1 0 rfl rfl 10 (by decide) (hts _ fl_TL_52) (fun _ h9 => h9) rfl d_TL_tellSteps_1 ?_
  refine lv_aload_n hx hb d_TL_tellSteps_4 rfl (lv_at hl 0 rfl) ?_
  refine va_get (D := G.1) (ci := 4) (v := .ref bR) (C := RTL) (T := TTL) (N := 14) hx hb hts inTL hown hK hB.1 0 rfl rfl 1 (by decide) (hts _ fl_TL_15) (fun _ h9 => h9) rfl d_TL_tellSteps_5 ?_
  refine rdV (G := G) (As := []) (rest := [.ref (ad 6)]) (C := RRW) ⟨hx, hb, hml, hown, hts⟩ (c_RW_amountOfKinds l G bR adR rr _ _ (ro_keep hS hvR hro_rr) hrR _ rfl) (cwV 0 hts (gd_V ml_TL_98 im_RW_amountOfKinds sl_RW_amountOfKinds ini_RW k_RW_amountOfKinds) rfl rmK_c rmK_s (by decide +kernel) ⟨Nat.le_of_ble_eq_true rfl, Nat.le_of_ble_eq_true rfl⟩) hK (pRW_recv hK (ro_keep hS hvR hro_rr) hrR) hS ⟨Nat.le.intro hk, Nat.le.intro hk⟩ rfl hl.1 (Nat.le_of_ble_eq_true rfl) d_TL_tellSteps_8 (fun locs hS => ?_)
  refine lv_iconst (v := (-1)) hx hb d_TL_tellSteps_11 (by decide) ?_
  refine wrV (G := G) (k := 7) (As := [.int (A_RW_amountOfKinds rr), .int (-1)]) (rest := []) (C := RIL) ⟨hx, hb, hml, hown, hts⟩ (c_IL_fill l G (ad 6) (gTL_toldAt σ) (A_RW_amountOfKinds rr) (-1) _ _ (bk_gP (k := 7) hB.1 rfl) (bk_own (k := 7) hB rfl) h14 _ rfl _ rfl (bk_ub hk hKb)) (cwV 2 hts (gd_V ml_TL_103 im_IL_fill sl_IL_fill ini_IL k_IL_fill) rfl rmK_c rmK_s (by decide +kernel) ⟨Nat.le_of_ble_eq_true rfl, Nat.le_of_ble_eq_true rfl⟩) hK (pIL_recv hK (bk_gP (k := 7) hB.1 rfl) h14) hS hA hB rfl hk ⟨rfl, rfl⟩ rfl hl.1 (Nat.le_of_ble_eq_true rfl) d_TL_tellSteps_12 (fun u21 H locs kc hu22 hB hS hk => ?_)
  have hB : bk G.1 vwCl A [[(h0, .inr (4, [.ref bS, .ref bR, .ref (ad 0), .ref (ad 1), .ref (ad 2), .ref (ad 3), .int (gTL_rowTold σ), .int (gTL_savedRows σ), .ref (ad 4), .ref (ad 5), .ref (ad 6), .ref (ad 7), .ref (ad 8), .ref (ad 9)]))], w1, w3, w5, w7, w9, w11, u21, w15, w17, w19] H := hB
  refine lv_aload_n hx hb d_TL_tellSteps_15 rfl (lv_at hl 0 rfl) ?_
  refine va_get (D := G.1) (ci := 4) (v := .ref (ad 4)) (C := RTL) (T := TTL) (N := 14) hx hb hts inTL hown hK hB.1 0 rfl rfl 8 (by decide) (hts _ fl_TL_46) (fun _ h9 => h9) rfl d_TL_tellSteps_16 ?_
  refine lv_iconst (v := 0) hx hb d_TL_tellSteps_19 (by decide) ?_
  refine wrV0 (G := G) (k := 5) (As := [.int 0]) (rest := []) (C := RIL) ⟨hx, hb, hml, hown, hts⟩ (c_IL_cut l G (ad 4) (gTL_openRows σ) 0 _ _ (bk_gP (k := 5) hB.1 rfl) (bk_own (k := 5) hB rfl) h10 _ rfl) (cwV 1 hts (gd_V ml_TL_64 im_IL_cut sl_IL_cut ini_IL k_IL_cut) rfl rmK_c rmK_s (by decide +kernel) ⟨Nat.le_of_ble_eq_true rfl, Nat.le_of_ble_eq_true rfl⟩) hK (pIL_recv hK (bk_gP (k := 5) hB.1 rfl) h10) hS hA hB rfl hk ⟨rfl, rfl⟩ rfl hl.1 (Nat.le_of_ble_eq_true rfl) d_TL_tellSteps_20 (fun u23 H locs hu24 hB hS => ?_)
  have hB : bk G.1 vwCl A [[(h0, .inr (4, [.ref bS, .ref bR, .ref (ad 0), .ref (ad 1), .ref (ad 2), .ref (ad 3), .int (gTL_rowTold σ), .int (gTL_savedRows σ), .ref (ad 4), .ref (ad 5), .ref (ad 6), .ref (ad 7), .ref (ad 8), .ref (ad 9)]))], w1, w3, w5, w7, u23, w11, u21, w15, w17, w19] H := hB
  refine lv_aload_n hx hb d_TL_tellSteps_23 rfl (lv_at hl 0 rfl) ?_
  refine va_get (D := G.1) (ci := 4) (v := .ref (ad 5)) (C := RTL) (T := TTL) (N := 14) hx hb hts inTL hown hK hB.1 0 rfl rfl 9 (by decide) (hts _ fl_TL_49) (fun _ h9 => h9) rfl d_TL_tellSteps_24 ?_
  refine lv_iconst (v := 0) hx hb d_TL_tellSteps_27 (by decide) ?_
  refine wrV0 (G := G) (k := 6) (As := [.int 0]) (rest := []) (C := RIL) ⟨hx, hb, hml, hown, hts⟩ (c_IL_cut l G (ad 5) (gTL_openParts σ) 0 _ _ (bk_gP (k := 6) hB.1 rfl) (bk_own (k := 6) hB rfl) h12 _ rfl) (cwV 1 hts (gd_V ml_TL_64 im_IL_cut sl_IL_cut ini_IL k_IL_cut) rfl rmK_c rmK_s (by decide +kernel) ⟨Nat.le_of_ble_eq_true rfl, Nat.le_of_ble_eq_true rfl⟩) hK (pIL_recv hK (bk_gP (k := 6) hB.1 rfl) h12) hS hA hB rfl hk ⟨rfl, rfl⟩ rfl hl.1 (Nat.le_of_ble_eq_true rfl) d_TL_tellSteps_28 (fun u25 H locs hu26 hB hS => ?_)
  have hB : bk G.1 vwCl A [[(h0, .inr (4, [.ref bS, .ref bR, .ref (ad 0), .ref (ad 1), .ref (ad 2), .ref (ad 3), .int (gTL_rowTold σ), .int (gTL_savedRows σ), .ref (ad 4), .ref (ad 5), .ref (ad 6), .ref (ad 7), .ref (ad 8), .ref (ad 9)]))], w1, w3, w5, w7, u23, u25, u21, w15, w17, w19] H := hB
  refine lv_aload_n hx hb d_TL_tellSteps_31 rfl (lv_at hl 0 rfl) ?_
  refine lv_aload_n hx hb d_TL_tellSteps_32 rfl (lv_at hl 0 rfl) ?_
  refine va_get (D := G.1) (ci := 4) (v := .int (gTL_rowTold σ)) (C := RTL) (T := TTL) (N := 14) hx hb hts inTL hown hK hB.1 0 rfl rfl 6 (by decide) (hts _ fl_TL_39) (fun _ h9 => h9) rfl d_TL_tellSteps_33 ?_
  have hB := bk_one hB
  have hpk27 : pTL G h0 bS bR ad adL (uTL_openParts (uTL_openRows (uTL_toldAt σ (A_IL_fill (gTL_toldAt σ) (A_RW_amountOfKinds rr) (-1))) (A_IL_cut (gTL_openRows σ) 0)) (A_IL_cut (gTL_openParts σ) 0)) ([[(h0, .inr (4, [.ref bS, .ref bR, .ref (ad 0), .ref (ad 1), .ref (ad 2), .ref (ad 3), .int (gTL_rowTold σ), .int (gTL_savedRows σ), .ref (ad 4), .ref (ad 5), .ref (ad 6), .ref (ad 7), .ref (ad 8), .ref (ad 9)]))], w1, w3, w5, w7, u23, u25, u21, w15, w17, w19].flatten) := ⟨w1, w3, w5, w7, u23, u25, u21, w15, w17, w19, rfl, h2, h4, h6, h8, hu24, hu26, hu22, h16, h18, h20⟩
  obtain ⟨T28, hT29⟩ : ∃ z, A_TL_opn (uTL_openParts (uTL_openRows (uTL_toldAt σ (A_IL_fill (gTL_toldAt σ) (A_RW_amountOfKinds rr) (-1))) (A_IL_cut (gTL_openRows σ) 0)) (A_IL_cut (gTL_openParts σ) 0)) (gTL_rowTold σ) = z := ⟨_, rfl⟩
  refine wrV (G := G) (k := 0) (As := [.int (gTL_rowTold σ)]) (rest := []) (C := RTL) ⟨hx, hb, hml, hown, hts⟩ (c_TL_opn l G h0 bS bR ad adL (uTL_openParts (uTL_openRows (uTL_toldAt σ (A_IL_fill (gTL_toldAt σ) (A_RW_amountOfKinds rr) (-1))) (A_IL_cut (gTL_openRows σ) 0)) (A_IL_cut (gTL_openParts σ) 0)) (gTL_rowTold σ) _ _ (bk_gP (k := 0) hB.1 rfl) (bk_own (k := 0) hB rfl) hpk27 T28 hT29 _ rfl (bk_ub hk hKb)) (cwV 1 hts (gd_V ml_TL_107 im_TL_opn sl_TL_opn ini_TL k_TL_opn) rfl rmK_c rmK_s (by decide +kernel) ⟨Nat.le_of_ble_eq_true rfl, Nat.le_of_ble_eq_true rfl⟩) hK (pTL_recv hK (bk_gP (k := 0) hB.1 rfl) hpk27) hS hA hB rfl hk ⟨rfl, rfl⟩ rfl hl.1 (Nat.le_of_ble_eq_true rfl) d_TL_tellSteps_36 (fun u30 H locs kc hu31 hB hS hk => ?_)
  have hr0 := bnd_e hT29 hr0
  have hk := bnd_k hT29 hk
  have hB : bk G.1 vwCl A [u30] H := hB
  obtain ⟨w32, w34, w36, w38, w40, w42, w44, w46, w48, w50, rfl, h33, h35, h37, h39, h41, h43, h45, h47, h49, h51⟩ := hu31
  have hB : bk G.1 vwCl A [[(h0, .inr (4, [.ref bS, .ref bR, .ref (ad 0), .ref (ad 1), .ref (ad 2), .ref (ad 3), .int (gTL_rowTold T28), .int (gTL_savedRows T28), .ref (ad 4), .ref (ad 5), .ref (ad 6), .ref (ad 7), .ref (ad 8), .ref (ad 9)]))], w32, w34, w36, w38, w40, w42, w44, w46, w48, w50] H := bk_many hB
  refine lv_iconst (v := 0) hx hb d_TL_tellSteps_39 (by decide) ?_
  refine lv_istore_n (lv' := [(1, .int 0), (0, .ref h0)]) hx hb d_TL_tellSteps_40 rfl hl (by decide) rfl (fun ls hl => ?_)
  refine lp_W (I := fun n41 H locs kc ls => ∃ (turn : Int32) (τ : tTL) (w : va_W), pTL G h0 bS bR ad adL τ w ∧ bk G.1 vwCl A [w] H ∧ va_S A s.heap H locs ∧ lv_has ls 5 [(0, .ref h0), (1, .int turn)] ∧ A_TL_tellSteps_L41 ss rr n41 turn τ = res ∧ kc + K_TL_tellSteps_L41 ss rr n41 turn τ = Kt ∧ M_TL_tellSteps_L41 ss rr turn τ < n41) ?_ ?_ (M_TL_tellSteps_L41 ss rr 0 T28 + 1) _ _ _ _ ⟨0, T28, _, ⟨w32, w34, w36, w38, w40, w42, w44, w46, w48, w50, rfl, h33, h35, h37, h39, h41, h43, h45, h47, h49, h51⟩, bk_one hB, hS, lv_sub hl [1, 0] rfl, hr0, hk, Nat.lt_succ_self _⟩
  · intro n41 ih41 H locs kc ls ⟨turn, τ, w, hτ, hB, hS, hl, hr0, hk, hm41⟩
    obtain ⟨w52, w54, w56, w58, w60, w62, w64, w66, w68, w70, rfl, h53, h55, h57, h59, h61, h63, h65, h67, h69, h71⟩ := hτ
    have hB := bk_many hB
    rw [A_TL_tellSteps_L41] at hr0
    rw [K_TL_tellSteps_L41] at hk
    refine lv_iload_n hx hb d_TL_tellSteps_41 rfl (lv_at hl 1 rfl) ?_
    refine lv_ldc (v := 1000000) hx hb hown (hts _ cn_TL_110) d_TL_tellSteps_42 ?_
    refine lv_icmp_ge (tgt := 184) hx hb d_TL_tellSteps_44 (by decide) (fun c72 => ?_) (fun c72 => ?_)
    · have hr0 := ai_pos c72 hr0
      have hk := ki_pos c72 hk
      subst hr0
      refine W.widen (k := Kt) (n := Kt) (Nat.le.intro hk) (Nat.le.intro hk) ?_
      exact W.vret hx hb hr (fun t ht hW => ⟨⟨[[(h0, .inr (4, [.ref bS, .ref bR, .ref (ad 0), .ref (ad 1), .ref (ad 2), .ref (ad 3), .int (gTL_rowTold τ), .int (gTL_savedRows τ), .ref (ad 4), .ref (ad 5), .ref (ad 6), .ref (ad 7), .ref (ad 8), .ref (ad 9)]))], w52, w54, w56, w58, w60, w62, w64, w66, w68, w70].flatten, rfl, ⟨w52, w54, w56, w58, w60, w62, w64, w66, w68, w70, rfl, h53, h55, h57, h59, h61, h63, h65, h67, h69, h71⟩, by rw [ht]; exact hB.1, hB.2⟩, hS.F ht⟩) hS.2.2 d_TL_tellSteps_184
    · have hr0 := ai_neg c72 hr0
      have hk := ki_neg c72 hk
      refine lv_aload_n hx hb d_TL_tellSteps_47 rfl (lv_at hl 0 rfl) ?_
      refine va_get (D := G.1) (ci := 4) (v := .ref (ad 4)) (C := RTL) (T := TTL) (N := 14) hx hb hts inTL hown hK hB.1 0 rfl rfl 8 (by decide) (hts _ fl_TL_46) (fun _ h9 => h9) rfl d_TL_tellSteps_48 ?_
      refine rdV (G := G) (As := []) (rest := []) (C := RIL) ⟨hx, hb, hml, hown, hts⟩ (c_IL_length l G (ad 4) (gTL_openRows τ) _ _ (bk_gP (k := 5) hB.1 rfl) h61 _ rfl) (cwV 0 hts (gd_V ml_TL_71 im_IL_length sl_IL_length ini_IL k_IL_length) rfl rmK_c rmK_s (by decide +kernel) ⟨Nat.le_of_ble_eq_true rfl, Nat.le_of_ble_eq_true rfl⟩) hK (pIL_recv hK (bk_gP (k := 5) hB.1 rfl) h61) hS ⟨Nat.le.intro hk, Nat.le.intro hk⟩ rfl hl.1 (Nat.le_of_ble_eq_true rfl) d_TL_tellSteps_51 (fun locs hS => ?_)
      refine lv_if_le (tgt := 184) hx hb d_TL_tellSteps_54 (by decide) (fun c73 => ?_) (fun c73 => ?_)
      · have hr0 := ai_pos c73 hr0
        have hk := ki_pos c73 hk
        subst hr0
        refine W.widen (k := Kt) (n := Kt) (Nat.le.intro hk) (Nat.le.intro hk) ?_
        exact W.vret hx hb hr (fun t ht hW => ⟨⟨[[(h0, .inr (4, [.ref bS, .ref bR, .ref (ad 0), .ref (ad 1), .ref (ad 2), .ref (ad 3), .int (gTL_rowTold τ), .int (gTL_savedRows τ), .ref (ad 4), .ref (ad 5), .ref (ad 6), .ref (ad 7), .ref (ad 8), .ref (ad 9)]))], w52, w54, w56, w58, w60, w62, w64, w66, w68, w70].flatten, rfl, ⟨w52, w54, w56, w58, w60, w62, w64, w66, w68, w70, rfl, h53, h55, h57, h59, h61, h63, h65, h67, h69, h71⟩, by rw [ht]; exact hB.1, hB.2⟩, hS.F ht⟩) hS.2.2 d_TL_tellSteps_184
      · have hr0 := ai_neg c73 hr0
        have hk := ki_neg c73 hk
        refine lv_aload_n hx hb d_TL_tellSteps_57 rfl (lv_at hl 0 rfl) ?_
        refine va_get (D := G.1) (ci := 4) (v := .ref (ad 4)) (C := RTL) (T := TTL) (N := 14) hx hb hts inTL hown hK hB.1 0 rfl rfl 8 (by decide) (hts _ fl_TL_46) (fun _ h9 => h9) rfl d_TL_tellSteps_58 ?_
        refine rdV (G := G) (As := []) (rest := []) (C := RIL) ⟨hx, hb, hml, hown, hts⟩ (c_IL_length l G (ad 4) (gTL_openRows τ) _ _ (bk_gP (k := 5) hB.1 rfl) h61 _ rfl) (cwV 0 hts (gd_V ml_TL_71 im_IL_length sl_IL_length ini_IL k_IL_length) rfl rmK_c rmK_s (by decide +kernel) ⟨Nat.le_of_ble_eq_true rfl, Nat.le_of_ble_eq_true rfl⟩) hK (pIL_recv hK (bk_gP (k := 5) hB.1 rfl) h61) hS ⟨Nat.le.intro hk, Nat.le.intro hk⟩ rfl hl.1 (Nat.le_of_ble_eq_true rfl) d_TL_tellSteps_61 (fun locs hS => ?_)
        refine lv_iconst (v := 1) hx hb d_TL_tellSteps_64 (by decide) ?_
        refine lv_isub hx hb d_TL_tellSteps_65 ?_
        refine lv_istore_n (lv' := [(2, .int ((A_IL_length (gTL_openRows τ)) - 1)), (0, .ref h0), (1, .int turn)]) hx hb d_TL_tellSteps_66 rfl hl (by decide) rfl (fun ls hl => ?_)
        refine lv_aload_n hx hb d_TL_tellSteps_67 rfl (lv_at hl 1 rfl) ?_
        refine va_get (D := G.1) (ci := 4) (v := .ref (ad 4)) (C := RTL) (T := TTL) (N := 14) hx hb hts inTL hown hK hB.1 0 rfl rfl 8 (by decide) (hts _ fl_TL_46) (fun _ h9 => h9) rfl d_TL_tellSteps_68 ?_
        refine lv_iload_n hx hb d_TL_tellSteps_71 rfl (lv_at hl 0 rfl) ?_
        refine rdV (G := G) (As := [.int ((A_IL_length (gTL_openRows τ)) - 1)]) (rest := []) (C := RIL) ⟨hx, hb, hml, hown, hts⟩ (c_IL_at l G (ad 4) (gTL_openRows τ) ((A_IL_length (gTL_openRows τ)) - 1) _ _ (bk_gP (k := 5) hB.1 rfl) h61 _ rfl) (cwV 1 hts (gd_V ml_TL_78 im_IL_at sl_IL_at ini_IL k_IL_at) rfl rmK_c rmK_s (by decide +kernel) ⟨Nat.le_of_ble_eq_true rfl, Nat.le_of_ble_eq_true rfl⟩) hK (pIL_recv hK (bk_gP (k := 5) hB.1 rfl) h61) hS ⟨Nat.le.intro hk, Nat.le.intro hk⟩ rfl hl.1 (Nat.le_of_ble_eq_true rfl) d_TL_tellSteps_72 (fun locs hS => ?_)
        refine lv_istore_n (lv' := [(3, .int (A_IL_at (gTL_openRows τ) ((A_IL_length (gTL_openRows τ)) - 1))), (2, .int ((A_IL_length (gTL_openRows τ)) - 1)), (0, .ref h0), (1, .int turn)]) hx hb d_TL_tellSteps_75 rfl hl (by decide) rfl (fun ls hl => ?_)
        refine lv_aload_n hx hb d_TL_tellSteps_76 rfl (lv_at hl 2 rfl) ?_
        refine va_get (D := G.1) (ci := 4) (v := .ref (ad 5)) (C := RTL) (T := TTL) (N := 14) hx hb hts inTL hown hK hB.1 0 rfl rfl 9 (by decide) (hts _ fl_TL_49) (fun _ h9 => h9) rfl d_TL_tellSteps_77 ?_
        refine lv_iload_n hx hb d_TL_tellSteps_80 rfl (lv_at hl 1 rfl) ?_
        refine rdV (G := G) (As := [.int ((A_IL_length (gTL_openRows τ)) - 1)]) (rest := []) (C := RIL) ⟨hx, hb, hml, hown, hts⟩ (c_IL_at l G (ad 5) (gTL_openParts τ) ((A_IL_length (gTL_openRows τ)) - 1) _ _ (bk_gP (k := 6) hB.1 rfl) h63 _ rfl) (cwV 1 hts (gd_V ml_TL_78 im_IL_at sl_IL_at ini_IL k_IL_at) rfl rmK_c rmK_s (by decide +kernel) ⟨Nat.le_of_ble_eq_true rfl, Nat.le_of_ble_eq_true rfl⟩) hK (pIL_recv hK (bk_gP (k := 6) hB.1 rfl) h63) hS ⟨Nat.le.intro hk, Nat.le.intro hk⟩ rfl hl.1 (Nat.le_of_ble_eq_true rfl) d_TL_tellSteps_81 (fun locs hS => ?_)
        refine lv_istore (lv' := [(4, .int (A_IL_at (gTL_openParts τ) ((A_IL_length (gTL_openRows τ)) - 1))), (3, .int (A_IL_at (gTL_openRows τ) ((A_IL_length (gTL_openRows τ)) - 1))), (2, .int ((A_IL_length (gTL_openRows τ)) - 1)), (0, .ref h0), (1, .int turn)]) hx hb d_TL_tellSteps_84 hl (by decide) rfl (fun ls hl => ?_)
        refine lv_iload hx hb d_TL_tellSteps_86 (lv_at hl 0 rfl) ?_
        refine lv_aload_n hx hb d_TL_tellSteps_88 rfl (lv_at hl 3 rfl) ?_
        refine va_get (D := G.1) (ci := 4) (v := .ref bR) (C := RTL) (T := TTL) (N := 14) hx hb hts inTL hown hK hB.1 0 rfl rfl 1 (by decide) (hts _ fl_TL_15) (fun _ h9 => h9) rfl d_TL_tellSteps_89 ?_
        refine lv_iload_n hx hb d_TL_tellSteps_92 rfl (lv_at hl 1 rfl) ?_
        refine rdV (G := G) (As := [.int (A_IL_at (gTL_openRows τ) ((A_IL_length (gTL_openRows τ)) - 1))]) (rest := [.int (A_IL_at (gTL_openParts τ) ((A_IL_length (gTL_openRows τ)) - 1))]) (C := RRW) ⟨hx, hb, hml, hown, hts⟩ (c_RW_amountOfParts l G bR adR rr (A_IL_at (gTL_openRows τ) ((A_IL_length (gTL_openRows τ)) - 1)) _ _ (ro_keep hS hvR hro_rr) hrR _ rfl) (cwV 1 hts (gd_V ml_TL_111 im_RW_amountOfParts sl_RW_amountOfParts ini_RW k_RW_amountOfParts) rfl rmK_c rmK_s (by decide +kernel) ⟨Nat.le_of_ble_eq_true rfl, Nat.le_of_ble_eq_true rfl⟩) hK (pRW_recv hK (ro_keep hS hvR hro_rr) hrR) hS ⟨Nat.le.intro hk, Nat.le.intro hk⟩ rfl hl.1 (Nat.le_of_ble_eq_true rfl) d_TL_tellSteps_93 (fun locs hS => ?_)
        refine lv_icmp_ge (tgt := 128) hx hb d_TL_tellSteps_96 (by decide) (fun c74 => ?_) (fun c74 => ?_)
        · have hr0 := ai_pos c74 hr0
          have hk := ki_pos c74 hk
          refine lv_aload_n hx hb d_TL_tellSteps_128 rfl (lv_at hl 3 rfl) ?_
          refine va_get (D := G.1) (ci := 4) (v := .ref (ad 4)) (C := RTL) (T := TTL) (N := 14) hx hb hts inTL hown hK hB.1 0 rfl rfl 8 (by decide) (hts _ fl_TL_46) (fun _ h9 => h9) rfl d_TL_tellSteps_129 ?_
          refine lv_iload_n hx hb d_TL_tellSteps_132 rfl (lv_at hl 2 rfl) ?_
          refine wrV0 (G := G) (k := 5) (As := [.int ((A_IL_length (gTL_openRows τ)) - 1)]) (rest := []) (C := RIL) ⟨hx, hb, hml, hown, hts⟩ (c_IL_cut l G (ad 4) (gTL_openRows τ) ((A_IL_length (gTL_openRows τ)) - 1) _ _ (bk_gP (k := 5) hB.1 rfl) (bk_own (k := 5) hB rfl) h61 _ rfl) (cwV 1 hts (gd_V ml_TL_64 im_IL_cut sl_IL_cut ini_IL k_IL_cut) rfl rmK_c rmK_s (by decide +kernel) ⟨Nat.le_of_ble_eq_true rfl, Nat.le_of_ble_eq_true rfl⟩) hK (pIL_recv hK (bk_gP (k := 5) hB.1 rfl) h61) hS hA hB rfl hk ⟨rfl, rfl⟩ rfl hl.1 (Nat.le_of_ble_eq_true rfl) d_TL_tellSteps_133 (fun u75 H locs hu76 hB hS => ?_)
          have hB : bk G.1 vwCl A [[(h0, .inr (4, [.ref bS, .ref bR, .ref (ad 0), .ref (ad 1), .ref (ad 2), .ref (ad 3), .int (gTL_rowTold τ), .int (gTL_savedRows τ), .ref (ad 4), .ref (ad 5), .ref (ad 6), .ref (ad 7), .ref (ad 8), .ref (ad 9)]))], w52, w54, w56, w58, u75, w62, w64, w66, w68, w70] H := hB
          refine lv_aload_n hx hb d_TL_tellSteps_136 rfl (lv_at hl 3 rfl) ?_
          refine va_get (D := G.1) (ci := 4) (v := .ref (ad 5)) (C := RTL) (T := TTL) (N := 14) hx hb hts inTL hown hK hB.1 0 rfl rfl 9 (by decide) (hts _ fl_TL_49) (fun _ h9 => h9) rfl d_TL_tellSteps_137 ?_
          refine lv_iload_n hx hb d_TL_tellSteps_140 rfl (lv_at hl 2 rfl) ?_
          refine wrV0 (G := G) (k := 6) (As := [.int ((A_IL_length (gTL_openRows τ)) - 1)]) (rest := []) (C := RIL) ⟨hx, hb, hml, hown, hts⟩ (c_IL_cut l G (ad 5) (gTL_openParts τ) ((A_IL_length (gTL_openRows τ)) - 1) _ _ (bk_gP (k := 6) hB.1 rfl) (bk_own (k := 6) hB rfl) h63 _ rfl) (cwV 1 hts (gd_V ml_TL_64 im_IL_cut sl_IL_cut ini_IL k_IL_cut) rfl rmK_c rmK_s (by decide +kernel) ⟨Nat.le_of_ble_eq_true rfl, Nat.le_of_ble_eq_true rfl⟩) hK (pIL_recv hK (bk_gP (k := 6) hB.1 rfl) h63) hS hA hB rfl hk ⟨rfl, rfl⟩ rfl hl.1 (Nat.le_of_ble_eq_true rfl) d_TL_tellSteps_141 (fun u77 H locs hu78 hB hS => ?_)
          have hB : bk G.1 vwCl A [[(h0, .inr (4, [.ref bS, .ref bR, .ref (ad 0), .ref (ad 1), .ref (ad 2), .ref (ad 3), .int (gTL_rowTold τ), .int (gTL_savedRows τ), .ref (ad 4), .ref (ad 5), .ref (ad 6), .ref (ad 7), .ref (ad 8), .ref (ad 9)]))], w52, w54, w56, w58, u75, u77, w64, w66, w68, w70] H := hB
          refine lv_aload_n hx hb d_TL_tellSteps_144 rfl (lv_at hl 3 rfl) ?_
          refine va_get (D := G.1) (ci := 4) (v := .ref (ad 6)) (C := RTL) (T := TTL) (N := 14) hx hb hts inTL hown hK hB.1 0 rfl rfl 10 (by decide) (hts _ fl_TL_52) (fun _ h9 => h9) rfl d_TL_tellSteps_145 ?_
          refine lv_aload_n hx hb d_TL_tellSteps_148 rfl (lv_at hl 3 rfl) ?_
          refine va_get (D := G.1) (ci := 4) (v := .ref bR) (C := RTL) (T := TTL) (N := 14) hx hb hts inTL hown hK hB.1 0 rfl rfl 1 (by decide) (hts _ fl_TL_15) (fun _ h9 => h9) rfl d_TL_tellSteps_149 ?_
          refine lv_iload_n hx hb d_TL_tellSteps_152 rfl (lv_at hl 1 rfl) ?_
          refine rdV (G := G) (As := [.int (A_IL_at (gTL_openRows τ) ((A_IL_length (gTL_openRows τ)) - 1))]) (rest := [.ref (ad 6)]) (C := RRW) ⟨hx, hb, hml, hown, hts⟩ (c_RW_kindOf l G bR adR rr (A_IL_at (gTL_openRows τ) ((A_IL_length (gTL_openRows τ)) - 1)) _ _ (ro_keep hS hvR hro_rr) hrR _ rfl) (cwV 1 hts (gd_V ml_TL_124 im_RW_kindOf sl_RW_kindOf ini_RW k_RW_kindOf) rfl rmK_c rmK_s (by decide +kernel) ⟨Nat.le_of_ble_eq_true rfl, Nat.le_of_ble_eq_true rfl⟩) hK (pRW_recv hK (ro_keep hS hvR hro_rr) hrR) hS ⟨Nat.le.intro hk, Nat.le.intro hk⟩ rfl hl.1 (Nat.le_of_ble_eq_true rfl) d_TL_tellSteps_153 (fun locs hS => ?_)
          refine lv_aload_n hx hb d_TL_tellSteps_156 rfl (lv_at hl 3 rfl) ?_
          refine va_get (D := G.1) (ci := 4) (v := .ref (ad 0)) (C := RTL) (T := TTL) (N := 14) hx hb hts inTL hown hK hB.1 0 rfl rfl 2 (by decide) (hts _ fl_TL_22) (fun _ h9 => h9) rfl d_TL_tellSteps_157 ?_
          refine rdV (G := G) (As := []) (rest := [.int (A_RW_kindOf rr (A_IL_at (gTL_openRows τ) ((A_IL_length (gTL_openRows τ)) - 1))), .ref (ad 6)]) (C := RIL) ⟨hx, hb, hml, hown, hts⟩ (c_IL_length l G (ad 0) (gTL_steps τ) _ _ (bk_gP (k := 1) hB.1 rfl) h53 _ rfl) (cwV 0 hts (gd_V ml_TL_71 im_IL_length sl_IL_length ini_IL k_IL_length) rfl rmK_c rmK_s (by decide +kernel) ⟨Nat.le_of_ble_eq_true rfl, Nat.le_of_ble_eq_true rfl⟩) hK (pIL_recv hK (bk_gP (k := 1) hB.1 rfl) h53) hS ⟨Nat.le.intro hk, Nat.le.intro hk⟩ rfl hl.1 (Nat.le_of_ble_eq_true rfl) d_TL_tellSteps_160 (fun locs hS => ?_)
          refine wrV0 (G := G) (k := 7) (As := [.int (A_RW_kindOf rr (A_IL_at (gTL_openRows τ) ((A_IL_length (gTL_openRows τ)) - 1))), .int (A_IL_length (gTL_steps τ))]) (rest := []) (C := RIL) ⟨hx, hb, hml, hown, hts⟩ (c_IL_put l G (ad 6) (gTL_toldAt τ) (A_RW_kindOf rr (A_IL_at (gTL_openRows τ) ((A_IL_length (gTL_openRows τ)) - 1))) (A_IL_length (gTL_steps τ)) _ _ (bk_gP (k := 7) hB.1 rfl) (bk_own (k := 7) hB rfl) h65 _ rfl) (cwV 2 hts (gd_V ml_TL_114 im_IL_put sl_IL_put ini_IL k_IL_put) rfl rmK_c rmK_s (by decide +kernel) ⟨Nat.le_of_ble_eq_true rfl, Nat.le_of_ble_eq_true rfl⟩) hK (pIL_recv hK (bk_gP (k := 7) hB.1 rfl) h65) hS hA hB rfl hk ⟨rfl, rfl⟩ rfl hl.1 (Nat.le_of_ble_eq_true rfl) d_TL_tellSteps_163 (fun u79 H locs hu80 hB hS => ?_)
          have hB : bk G.1 vwCl A [[(h0, .inr (4, [.ref bS, .ref bR, .ref (ad 0), .ref (ad 1), .ref (ad 2), .ref (ad 3), .int (gTL_rowTold τ), .int (gTL_savedRows τ), .ref (ad 4), .ref (ad 5), .ref (ad 6), .ref (ad 7), .ref (ad 8), .ref (ad 9)]))], w52, w54, w56, w58, u75, u77, u79, w66, w68, w70] H := hB
          refine lv_aload_n hx hb d_TL_tellSteps_166 rfl (lv_at hl 3 rfl) ?_
          refine lv_aload_n hx hb d_TL_tellSteps_167 rfl (lv_at hl 3 rfl) ?_
          refine va_get (D := G.1) (ci := 4) (v := .ref bR) (C := RTL) (T := TTL) (N := 14) hx hb hts inTL hown hK hB.1 0 rfl rfl 1 (by decide) (hts _ fl_TL_15) (fun _ h9 => h9) rfl d_TL_tellSteps_168 ?_
          refine lv_iload_n hx hb d_TL_tellSteps_171 rfl (lv_at hl 1 rfl) ?_
          refine rdV (G := G) (As := [.int (A_IL_at (gTL_openRows τ) ((A_IL_length (gTL_openRows τ)) - 1))]) (rest := [.ref h0]) (C := RRW) ⟨hx, hb, hml, hown, hts⟩ (c_RW_statementOf l G bR adR rr (A_IL_at (gTL_openRows τ) ((A_IL_length (gTL_openRows τ)) - 1)) _ _ (ro_keep hS hvR hro_rr) hrR _ rfl) (cwV 1 hts (gd_V ml_TL_127 im_RW_statementOf sl_RW_statementOf ini_RW k_RW_statementOf) rfl rmK_c rmK_s (by decide +kernel) ⟨Nat.le_of_ble_eq_true rfl, Nat.le_of_ble_eq_true rfl⟩) hK (pRW_recv hK (ro_keep hS hvR hro_rr) hrR) hS ⟨Nat.le.intro hk, Nat.le.intro hk⟩ rfl hl.1 (Nat.le_of_ble_eq_true rfl) d_TL_tellSteps_172 (fun locs hS => ?_)
          have hB := bk_one hB
          have hpk81 : pTL G h0 bS bR ad adL (uTL_toldAt (uTL_openParts (uTL_openRows τ (A_IL_cut (gTL_openRows τ) ((A_IL_length (gTL_openRows τ)) - 1))) (A_IL_cut (gTL_openParts τ) ((A_IL_length (gTL_openRows τ)) - 1))) (A_IL_put (gTL_toldAt τ) (A_RW_kindOf rr (A_IL_at (gTL_openRows τ) ((A_IL_length (gTL_openRows τ)) - 1))) (A_IL_length (gTL_steps τ)))) ([[(h0, .inr (4, [.ref bS, .ref bR, .ref (ad 0), .ref (ad 1), .ref (ad 2), .ref (ad 3), .int (gTL_rowTold τ), .int (gTL_savedRows τ), .ref (ad 4), .ref (ad 5), .ref (ad 6), .ref (ad 7), .ref (ad 8), .ref (ad 9)]))], w52, w54, w56, w58, u75, u77, u79, w66, w68, w70].flatten) := ⟨w52, w54, w56, w58, u75, u77, u79, w66, w68, w70, rfl, h53, h55, h57, h59, hu76, hu78, hu80, h67, h69, h71⟩
          obtain ⟨T82, hT83⟩ : ∃ z, A_TL_addStep (uTL_toldAt (uTL_openParts (uTL_openRows τ (A_IL_cut (gTL_openRows τ) ((A_IL_length (gTL_openRows τ)) - 1))) (A_IL_cut (gTL_openParts τ) ((A_IL_length (gTL_openRows τ)) - 1))) (A_IL_put (gTL_toldAt τ) (A_RW_kindOf rr (A_IL_at (gTL_openRows τ) ((A_IL_length (gTL_openRows τ)) - 1))) (A_IL_length (gTL_steps τ)))) (A_RW_statementOf rr (A_IL_at (gTL_openRows τ) ((A_IL_length (gTL_openRows τ)) - 1))) = z := ⟨_, rfl⟩
          refine wrV (G := G) (k := 0) (As := [.int (A_RW_statementOf rr (A_IL_at (gTL_openRows τ) ((A_IL_length (gTL_openRows τ)) - 1)))]) (rest := []) (C := RTL) ⟨hx, hb, hml, hown, hts⟩ (c_TL_addStep l G h0 bS bR ad adL (uTL_toldAt (uTL_openParts (uTL_openRows τ (A_IL_cut (gTL_openRows τ) ((A_IL_length (gTL_openRows τ)) - 1))) (A_IL_cut (gTL_openParts τ) ((A_IL_length (gTL_openRows τ)) - 1))) (A_IL_put (gTL_toldAt τ) (A_RW_kindOf rr (A_IL_at (gTL_openRows τ) ((A_IL_length (gTL_openRows τ)) - 1))) (A_IL_length (gTL_steps τ)))) (A_RW_statementOf rr (A_IL_at (gTL_openRows τ) ((A_IL_length (gTL_openRows τ)) - 1))) _ _ (bk_gP (k := 0) hB.1 rfl) (bk_own (k := 0) hB rfl) hpk81 T82 hT83 _ rfl (bk_ub hk hKb)) (cwV 1 hts (gd_V ml_TL_130 im_TL_addStep sl_TL_addStep ini_TL k_TL_addStep) rfl rmK_c rmK_s (by decide +kernel) ⟨Nat.le_of_ble_eq_true rfl, Nat.le_of_ble_eq_true rfl⟩) hK (pTL_recv hK (bk_gP (k := 0) hB.1 rfl) hpk81) hS hA hB rfl hk ⟨rfl, rfl⟩ rfl hl.1 (Nat.le_of_ble_eq_true rfl) d_TL_tellSteps_175 (fun u84 H locs kc hu85 hB hS hk => ?_)
          have hr0 := bnd_e hT83 hr0
          have hk := bnd_k hT83 hk
          have hB : bk G.1 vwCl A [u84] H := hB
          obtain ⟨w86, w88, w90, w92, w94, w96, w98, w100, w102, w104, rfl, h87, h89, h91, h93, h95, h97, h99, h101, h103, h105⟩ := hu85
          have hB : bk G.1 vwCl A [[(h0, .inr (4, [.ref bS, .ref bR, .ref (ad 0), .ref (ad 1), .ref (ad 2), .ref (ad 3), .int (gTL_rowTold T82), .int (gTL_savedRows T82), .ref (ad 4), .ref (ad 5), .ref (ad 6), .ref (ad 7), .ref (ad 8), .ref (ad 9)]))], w86, w88, w90, w92, w94, w96, w98, w100, w102, w104] H := bk_many hB
          refine lv_iinc (v := turn + 1) (lv' := [(1, .int (turn + 1)), (4, .int (A_IL_at (gTL_openParts τ) ((A_IL_length (gTL_openRows τ)) - 1))), (3, .int (A_IL_at (gTL_openRows τ) ((A_IL_length (gTL_openRows τ)) - 1))), (2, .int ((A_IL_length (gTL_openRows τ)) - 1)), (0, .ref h0)]) hx hb d_TL_tellSteps_178 hl (k := 4) rfl rfl (by decide) rfl (fun ls hl => ?_)
          refine lv_goto (tgt := 41) hx hb d_TL_tellSteps_181 (by decide) ?_
          exact ih41 _ _ _ _ ⟨(turn + 1), T82, _, ⟨w86, w88, w90, w92, w94, w96, w98, w100, w102, w104, rfl, h87, h89, h91, h93, h95, h97, h99, h101, h103, h105⟩, bk_one hB, hS, lv_sub hl [4, 0] rfl, hr0, hk, up_dec c72 hm41⟩
        · have hr0 := ai_neg c74 hr0
          have hk := ki_neg c74 hk
          refine lv_aload_n hx hb d_TL_tellSteps_99 rfl (lv_at hl 3 rfl) ?_
          refine va_get (D := G.1) (ci := 4) (v := .ref (ad 5)) (C := RTL) (T := TTL) (N := 14) hx hb hts inTL hown hK hB.1 0 rfl rfl 9 (by decide) (hts _ fl_TL_49) (fun _ h9 => h9) rfl d_TL_tellSteps_100 ?_
          refine lv_iload_n hx hb d_TL_tellSteps_103 rfl (lv_at hl 2 rfl) ?_
          refine lv_iload hx hb d_TL_tellSteps_104 (lv_at hl 0 rfl) ?_
          refine lv_iconst (v := 1) hx hb d_TL_tellSteps_106 (by decide) ?_
          refine lv_iadd hx hb d_TL_tellSteps_107 ?_
          refine wrV0 (G := G) (k := 6) (As := [.int ((A_IL_length (gTL_openRows τ)) - 1), .int ((A_IL_at (gTL_openParts τ) ((A_IL_length (gTL_openRows τ)) - 1)) + 1)]) (rest := []) (C := RIL) ⟨hx, hb, hml, hown, hts⟩ (c_IL_put l G (ad 5) (gTL_openParts τ) ((A_IL_length (gTL_openRows τ)) - 1) ((A_IL_at (gTL_openParts τ) ((A_IL_length (gTL_openRows τ)) - 1)) + 1) _ _ (bk_gP (k := 6) hB.1 rfl) (bk_own (k := 6) hB rfl) h63 _ rfl) (cwV 2 hts (gd_V ml_TL_114 im_IL_put sl_IL_put ini_IL k_IL_put) rfl rmK_c rmK_s (by decide +kernel) ⟨Nat.le_of_ble_eq_true rfl, Nat.le_of_ble_eq_true rfl⟩) hK (pIL_recv hK (bk_gP (k := 6) hB.1 rfl) h63) hS hA hB rfl hk ⟨rfl, rfl⟩ rfl hl.1 (Nat.le_of_ble_eq_true rfl) d_TL_tellSteps_108 (fun u106 H locs hu107 hB hS => ?_)
          have hB : bk G.1 vwCl A [[(h0, .inr (4, [.ref bS, .ref bR, .ref (ad 0), .ref (ad 1), .ref (ad 2), .ref (ad 3), .int (gTL_rowTold τ), .int (gTL_savedRows τ), .ref (ad 4), .ref (ad 5), .ref (ad 6), .ref (ad 7), .ref (ad 8), .ref (ad 9)]))], w52, w54, w56, w58, w60, u106, w64, w66, w68, w70] H := hB
          refine lv_aload_n hx hb d_TL_tellSteps_111 rfl (lv_at hl 3 rfl) ?_
          refine lv_aload_n hx hb d_TL_tellSteps_112 rfl (lv_at hl 3 rfl) ?_
          refine va_get (D := G.1) (ci := 4) (v := .ref bR) (C := RTL) (T := TTL) (N := 14) hx hb hts inTL hown hK hB.1 0 rfl rfl 1 (by decide) (hts _ fl_TL_15) (fun _ h9 => h9) rfl d_TL_tellSteps_113 ?_
          refine lv_iload_n hx hb d_TL_tellSteps_116 rfl (lv_at hl 1 rfl) ?_
          refine lv_iload hx hb d_TL_tellSteps_117 (lv_at hl 0 rfl) ?_
          refine rdV (G := G) (As := [.int (A_IL_at (gTL_openRows τ) ((A_IL_length (gTL_openRows τ)) - 1)), .int (A_IL_at (gTL_openParts τ) ((A_IL_length (gTL_openRows τ)) - 1))]) (rest := [.ref h0]) (C := RRW) ⟨hx, hb, hml, hown, hts⟩ (c_RW_part l G bR adR rr (A_IL_at (gTL_openRows τ) ((A_IL_length (gTL_openRows τ)) - 1)) (A_IL_at (gTL_openParts τ) ((A_IL_length (gTL_openRows τ)) - 1)) _ _ (ro_keep hS hvR hro_rr) hrR _ rfl) (cwV 2 hts (gd_V ml_TL_117 im_RW_part sl_RW_part ini_RW k_RW_part) rfl rmK_c rmK_s (by decide +kernel) ⟨Nat.le_of_ble_eq_true rfl, Nat.le_of_ble_eq_true rfl⟩) hK (pRW_recv hK (ro_keep hS hvR hro_rr) hrR) hS ⟨Nat.le.intro hk, Nat.le.intro hk⟩ rfl hl.1 (Nat.le_of_ble_eq_true rfl) d_TL_tellSteps_119 (fun locs hS => ?_)
          have hB := bk_one hB
          have hpk108 : pTL G h0 bS bR ad adL (uTL_openParts τ (A_IL_put (gTL_openParts τ) ((A_IL_length (gTL_openRows τ)) - 1) ((A_IL_at (gTL_openParts τ) ((A_IL_length (gTL_openRows τ)) - 1)) + 1))) ([[(h0, .inr (4, [.ref bS, .ref bR, .ref (ad 0), .ref (ad 1), .ref (ad 2), .ref (ad 3), .int (gTL_rowTold τ), .int (gTL_savedRows τ), .ref (ad 4), .ref (ad 5), .ref (ad 6), .ref (ad 7), .ref (ad 8), .ref (ad 9)]))], w52, w54, w56, w58, w60, u106, w64, w66, w68, w70].flatten) := ⟨w52, w54, w56, w58, w60, u106, w64, w66, w68, w70, rfl, h53, h55, h57, h59, h61, hu107, h65, h67, h69, h71⟩
          obtain ⟨T109, hT110⟩ : ∃ z, A_TL_tellPart (uTL_openParts τ (A_IL_put (gTL_openParts τ) ((A_IL_length (gTL_openRows τ)) - 1) ((A_IL_at (gTL_openParts τ) ((A_IL_length (gTL_openRows τ)) - 1)) + 1))) ss rr (A_RW_part rr (A_IL_at (gTL_openRows τ) ((A_IL_length (gTL_openRows τ)) - 1)) (A_IL_at (gTL_openParts τ) ((A_IL_length (gTL_openRows τ)) - 1))) = z := ⟨_, rfl⟩
          refine wrV (G := G) (k := 0) (As := [.int (A_RW_part rr (A_IL_at (gTL_openRows τ) ((A_IL_length (gTL_openRows τ)) - 1)) (A_IL_at (gTL_openParts τ) ((A_IL_length (gTL_openRows τ)) - 1)))]) (rest := []) (C := RTL) ⟨hx, hb, hml, hown, hts⟩ (c_TL_tellPart l G h0 bS bR ad adL (uTL_openParts τ (A_IL_put (gTL_openParts τ) ((A_IL_length (gTL_openRows τ)) - 1) ((A_IL_at (gTL_openParts τ) ((A_IL_length (gTL_openRows τ)) - 1)) + 1))) (A_RW_part rr (A_IL_at (gTL_openRows τ) ((A_IL_length (gTL_openRows τ)) - 1)) (A_IL_at (gTL_openParts τ) ((A_IL_length (gTL_openRows τ)) - 1))) _ _ adS ss _ (ro_keep hS hvS hro_ss) hsS (bk_apA (k := 0) hB rfl hro_ss) adR rr _ (ro_keep hS hvR hro_rr) hrR (bk_apA (k := 0) hB rfl hro_rr) (bk_gP (k := 0) hB.1 rfl) (bk_own (k := 0) hB rfl) hpk108 T109 hT110 _ rfl (bk_ub hk hKb)) (cwV 1 hts (gd_V ml_TL_121 im_TL_tellPart sl_TL_tellPart ini_TL k_TL_tellPart) rfl rmK_c rmK_s (by decide +kernel) ⟨Nat.le_of_ble_eq_true rfl, Nat.le_of_ble_eq_true rfl⟩) hK (pTL_recv hK (bk_gP (k := 0) hB.1 rfl) hpk108) hS hA hB rfl hk ⟨rfl, rfl⟩ rfl hl.1 (Nat.le_of_ble_eq_true rfl) d_TL_tellSteps_122 (fun u111 H locs kc hu112 hB hS hk => ?_)
          have hr0 := bnd_e hT110 hr0
          have hk := bnd_k hT110 hk
          have hB : bk G.1 vwCl A [u111] H := hB
          obtain ⟨w113, w115, w117, w119, w121, w123, w125, w127, w129, w131, rfl, h114, h116, h118, h120, h122, h124, h126, h128, h130, h132⟩ := hu112
          have hB : bk G.1 vwCl A [[(h0, .inr (4, [.ref bS, .ref bR, .ref (ad 0), .ref (ad 1), .ref (ad 2), .ref (ad 3), .int (gTL_rowTold T109), .int (gTL_savedRows T109), .ref (ad 4), .ref (ad 5), .ref (ad 6), .ref (ad 7), .ref (ad 8), .ref (ad 9)]))], w113, w115, w117, w119, w121, w123, w125, w127, w129, w131] H := bk_many hB
          refine lv_goto (tgt := 178) hx hb d_TL_tellSteps_125 (by decide) ?_
          refine lv_iinc (v := turn + 1) (lv' := [(1, .int (turn + 1)), (4, .int (A_IL_at (gTL_openParts τ) ((A_IL_length (gTL_openRows τ)) - 1))), (3, .int (A_IL_at (gTL_openRows τ) ((A_IL_length (gTL_openRows τ)) - 1))), (2, .int ((A_IL_length (gTL_openRows τ)) - 1)), (0, .ref h0)]) hx hb d_TL_tellSteps_178 hl (k := 4) rfl rfl (by decide) rfl (fun ls hl => ?_)
          refine lv_goto (tgt := 41) hx hb d_TL_tellSteps_181 (by decide) ?_
          exact ih41 _ _ _ _ ⟨(turn + 1), T109, _, ⟨w113, w115, w117, w119, w121, w123, w125, w127, w129, w131, rfl, h114, h116, h118, h120, h122, h124, h126, h128, h130, h132⟩, bk_one hB, hS, lv_sub hl [4, 0] rfl, hr0, hk, up_dec c72 hm41⟩
  · rintro H locs kc ls ⟨_, _, _, -, -, -, -, -, -, hz⟩; exact Nat.not_lt_zero _ hz
