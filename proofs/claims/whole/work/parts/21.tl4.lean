def M_TL_makesItsRow_L28 (ss : tST) (rr : tRW) (k : Int32) (τ : tTL) : Nat := ((A_IL_length (gTL_steps τ)).toInt - k.toInt).toNat
def A_TL_makesItsRow_L28 (ss : tST) (rr : tRW) : Nat → Int32 → tTL → Int32 × tTL
  | 0, _, τ => (0, τ)
  | n28 + 1, k, τ => if (A_IL_length (gTL_steps τ)) ≤ k then (if (A_IL_length (gTL_remade τ)) = 1 then (if (A_IL_at (gTL_remade τ) 0) = (A_RW_kindOf rr (gTL_rowTold τ)) then (1, τ) else (0, τ)) else (0, τ)) else (if 0 ≤ ((A_IL_length (gTL_remade τ)) - (A_TL_rowsTakenAt τ ss rr k)) then (if (A_TL_kindMadeAt τ ss rr k ((A_IL_length (gTL_remade τ)) - (A_TL_rowsTakenAt τ ss rr k))) = (-1) then (0, τ) else (if (A_TL_isSavedAt (uTL_remade (uTL_remade τ (A_IL_cut (gTL_remade τ) ((A_IL_length (gTL_remade τ)) - (A_TL_rowsTakenAt τ ss rr k)))) (A_IL_add (A_IL_cut (gTL_remade τ) ((A_IL_length (gTL_remade τ)) - (A_TL_rowsTakenAt τ ss rr k))) (A_TL_kindMadeAt τ ss rr k ((A_IL_length (gTL_remade τ)) - (A_TL_rowsTakenAt τ ss rr k))))) k) = 0 then (A_TL_makesItsRow_L28 ss rr n28 (k + 1) (uTL_remade (uTL_remade τ (A_IL_cut (gTL_remade τ) ((A_IL_length (gTL_remade τ)) - (A_TL_rowsTakenAt τ ss rr k)))) (A_IL_add (A_IL_cut (gTL_remade τ) ((A_IL_length (gTL_remade τ)) - (A_TL_rowsTakenAt τ ss rr k))) (A_TL_kindMadeAt τ ss rr k ((A_IL_length (gTL_remade τ)) - (A_TL_rowsTakenAt τ ss rr k)))))) else (A_TL_makesItsRow_L28 ss rr n28 (k + 1) (uTL_savedKinds (uTL_remade (uTL_remade τ (A_IL_cut (gTL_remade τ) ((A_IL_length (gTL_remade τ)) - (A_TL_rowsTakenAt τ ss rr k)))) (A_IL_add (A_IL_cut (gTL_remade τ) ((A_IL_length (gTL_remade τ)) - (A_TL_rowsTakenAt τ ss rr k))) (A_TL_kindMadeAt τ ss rr k ((A_IL_length (gTL_remade τ)) - (A_TL_rowsTakenAt τ ss rr k))))) (A_IL_add (gTL_savedKinds τ) (A_TL_kindMadeAt τ ss rr k ((A_IL_length (gTL_remade τ)) - (A_TL_rowsTakenAt τ ss rr k)))))))) else (0, τ))
def K_TL_makesItsRow_L28 (ss : tST) (rr : tRW) : Nat → Int32 → tTL → Nat
  | 0, _, _ => 0
  | n28 + 1, k, τ => if (A_IL_length (gTL_steps τ)) ≤ k then (if (A_IL_length (gTL_remade τ)) = 1 then (if (A_IL_at (gTL_remade τ) 0) = (A_RW_kindOf rr (gTL_rowTold τ)) then 0 else 0) else 0) else (if 0 ≤ ((A_IL_length (gTL_remade τ)) - (A_TL_rowsTakenAt τ ss rr k)) then (if (A_TL_kindMadeAt τ ss rr k ((A_IL_length (gTL_remade τ)) - (A_TL_rowsTakenAt τ ss rr k))) = (-1) then 0 else ((K_IL_add (A_IL_cut (gTL_remade τ) ((A_IL_length (gTL_remade τ)) - (A_TL_rowsTakenAt τ ss rr k))) (A_TL_kindMadeAt τ ss rr k ((A_IL_length (gTL_remade τ)) - (A_TL_rowsTakenAt τ ss rr k)))) + (if (A_TL_isSavedAt (uTL_remade (uTL_remade τ (A_IL_cut (gTL_remade τ) ((A_IL_length (gTL_remade τ)) - (A_TL_rowsTakenAt τ ss rr k)))) (A_IL_add (A_IL_cut (gTL_remade τ) ((A_IL_length (gTL_remade τ)) - (A_TL_rowsTakenAt τ ss rr k))) (A_TL_kindMadeAt τ ss rr k ((A_IL_length (gTL_remade τ)) - (A_TL_rowsTakenAt τ ss rr k))))) k) = 0 then (K_TL_makesItsRow_L28 ss rr n28 (k + 1) (uTL_remade (uTL_remade τ (A_IL_cut (gTL_remade τ) ((A_IL_length (gTL_remade τ)) - (A_TL_rowsTakenAt τ ss rr k)))) (A_IL_add (A_IL_cut (gTL_remade τ) ((A_IL_length (gTL_remade τ)) - (A_TL_rowsTakenAt τ ss rr k))) (A_TL_kindMadeAt τ ss rr k ((A_IL_length (gTL_remade τ)) - (A_TL_rowsTakenAt τ ss rr k)))))) else ((K_IL_add (gTL_savedKinds τ) (A_TL_kindMadeAt τ ss rr k ((A_IL_length (gTL_remade τ)) - (A_TL_rowsTakenAt τ ss rr k)))) + (K_TL_makesItsRow_L28 ss rr n28 (k + 1) (uTL_savedKinds (uTL_remade (uTL_remade τ (A_IL_cut (gTL_remade τ) ((A_IL_length (gTL_remade τ)) - (A_TL_rowsTakenAt τ ss rr k)))) (A_IL_add (A_IL_cut (gTL_remade τ) ((A_IL_length (gTL_remade τ)) - (A_TL_rowsTakenAt τ ss rr k))) (A_TL_kindMadeAt τ ss rr k ((A_IL_length (gTL_remade τ)) - (A_TL_rowsTakenAt τ ss rr k))))) (A_IL_add (gTL_savedKinds τ) (A_TL_kindMadeAt τ ss rr k ((A_IL_length (gTL_remade τ)) - (A_TL_rowsTakenAt τ ss rr k)))))))))) else 0)
def A_TL_makesItsRow (σ : tTL) (ss : tST) (rr : tRW) : Int32 × tTL := if (gTL_rowTold σ) = (-1) then (1, σ) else (A_TL_makesItsRow_L28 ss rr (M_TL_makesItsRow_L28 ss rr 0 (uTL_savedKinds (uTL_remade σ (A_IL_cut (gTL_remade σ) 0)) (A_IL_cut (gTL_savedKinds σ) 0)) + 1) 0 (uTL_savedKinds (uTL_remade σ (A_IL_cut (gTL_remade σ) 0)) (A_IL_cut (gTL_savedKinds σ) 0)))
def K_TL_makesItsRow (σ : tTL) (ss : tST) (rr : tRW) : Nat := if (gTL_rowTold σ) = (-1) then 0 else (K_TL_makesItsRow_L28 ss rr (M_TL_makesItsRow_L28 ss rr 0 (uTL_savedKinds (uTL_remade σ (A_IL_cut (gTL_remade σ) 0)) (A_IL_cut (gTL_savedKinds σ) 0)) + 1) 0 (uTL_savedKinds (uTL_remade σ (A_IL_cut (gTL_remade σ) 0)) (A_IL_cut (gTL_savedKinds σ) 0)))
set_option maxHeartbeats 4000000 in
set_option maxRecDepth 100000 in
theorem c_TL_makesItsRow (l : Launch) (G : pG) (h0 : Nat) (bS : Nat) (bR : Nat) (ad : Nat → Nat) (adL : Nat → Nat) (σ : tTL) (H : Heap) (w : va_W) (adS : Nat → Nat) (ss : tST) (vS : va_W) (hvS : va_P G.1 vwCl vS H) (hsS : pST G bS adS ss vS) (ap_ss : bk_ap w vS) (adR : Nat → Nat) (rr : tRW) (vR : va_W) (hvR : va_P G.1 vwCl vR H) (hrR : pRW G bR adR rr vR) (ap_rr : bk_ap w vR) (hP0 : va_P G.1 vwCl w H) (hD0 : va_D (fun _ => True) w) (hσ : pTL G h0 bS bR ad adL σ w) (res : Int32 × tTL) (hr0 : A_TL_makesItsRow σ ss rr = res) (Kt : Nat) (hk : K_TL_makesItsRow σ ss rr = Kt) (hKb : Kt ≤ 16777216) : MWi l y_TL_makesItsRow w_TL_makesItsRow 5 116 Kt G [.ref h0] H w res.1 (pTL G h0 bS bR ad adL res.2) := by
  refine Met.ofW (cc := b_TL_makesItsRow) (maxL := 4) (ret := (some .boolean)) (by decide) rfl ?_
  intro p e s m args below meth c s₁ B hml hv
  obtain ⟨rfl, rfl, hK⟩ := hv
  have hx := B.exec
  have hb := B.bytes
  have hr := B.returns
  have hts0 := atoms_spec (ws := w_TL_makesItsRow) B.pre
  have hts := fun w (h : w ∈ lw_g) => hts0 w (List.mem_cons_of_mem _ h)
  have hown : s.vm.findClass RTL = some m.cls := findClass_of_methodNamed B.named
  have hlocks := B.notSynchronized
  have hA : ∀ q : Nat, s.heap.size ≤ q → va_A w s.heap.size q := fun _ h => Or.inr h
  have hro_ss := ro_A hvS ap_ss
  have hro_rr := ro_A hvR ap_rr
  have hB : bk G.1 vwCl (va_A w s.heap.size) [w] s.heap := bk_init hP0 hD0
  generalize va_A w s.heap.size = A at *
  have hS : va_S A s.heap s.heap [] := va_S.rf
  obtain ⟨w1, w3, w5, w7, w9, w11, w13, w15, w17, w19, rfl, h2, h4, h6, h8, h10, h12, h14, h16, h18, h20⟩ := hσ
  have hB := bk_many hB
  have hk : 0 + K_TL_makesItsRow σ ss rr = Kt := (Nat.zero_add _).trans hk
  have hl := lv_entry ([.ref h0]) (n := 4) (Nat.le_of_ble_eq_true rfl)
  rw [lg_entry_eq]
  generalize (lg_sl ([.ref h0]) ++ List.replicate (4 - (lg_sl ([.ref h0])).length) Slot.unset).toArray = ls at hl ⊢
  have hl : lv_has ls 4 [(0, .ref h0)] := hl
  unfold A_TL_makesItsRow at hr0
  unfold K_TL_makesItsRow at hk
  refine lv_aload_n hx hb d_TL_makesItsRow_0 rfl (lv_at hl 0 rfl) ?_
  refine va_get (D := G.1) (ci := 4) (v := .int (gTL_rowTold σ)) (C := RTL) (T := TTL) (N := 14) hx hb hts inTL hown hK hB.1 0 rfl rfl 6 (by decide) (hts _ fl_TL_39) (fun _ h9 => h9) rfl d_TL_makesItsRow_1 ?_
  refine lv_iconst (v := (-1)) hx hb d_TL_makesItsRow_4 (by decide) ?_
  refine lv_icmp_ne (tgt := 10) hx hb d_TL_makesItsRow_5 (by decide) (fun c21 => ?_) (fun c21 => ?_)
  · have hr0 := ai_neg c21 hr0
    have hk := ki_neg c21 hk
    refine lv_aload_n hx hb d_TL_makesItsRow_10 rfl (lv_at hl 0 rfl) ?_
    refine va_get (D := G.1) (ci := 4) (v := .ref (ad 8)) (C := RTL) (T := TTL) (N := 14) hx hb hts inTL hown hK hB.1 0 rfl rfl 12 (by decide) (hts _ fl_TL_58) (fun _ h9 => h9) rfl d_TL_makesItsRow_11 ?_
    refine lv_iconst (v := 0) hx hb d_TL_makesItsRow_14 (by decide) ?_
    refine wrV0 (G := G) (k := 9) (As := [.int 0]) (rest := []) (C := RIL) ⟨hx, hb, hml, hown, hts⟩ (c_IL_cut l G (ad 8) (gTL_remade σ) 0 _ _ (bk_gP (k := 9) hB.1 rfl) (bk_own (k := 9) hB rfl) h18 _ rfl) (cwV 1 hts (gd_V ml_TL_64 im_IL_cut sl_IL_cut ini_IL k_IL_cut) rfl rmK_c rmK_s (by decide +kernel) ⟨Nat.le_of_ble_eq_true rfl, Nat.le_of_ble_eq_true rfl⟩) hK (pIL_recv hK (bk_gP (k := 9) hB.1 rfl) h18) hS hA hB rfl hk ⟨rfl, rfl⟩ rfl hl.1 (Nat.le_of_ble_eq_true rfl) d_TL_makesItsRow_15 (fun u22 H locs hu23 hB hS => ?_)
    have hB : bk G.1 vwCl A [[(h0, .inr (4, [.ref bS, .ref bR, .ref (ad 0), .ref (ad 1), .ref (ad 2), .ref (ad 3), .int (gTL_rowTold σ), .int (gTL_savedRows σ), .ref (ad 4), .ref (ad 5), .ref (ad 6), .ref (ad 7), .ref (ad 8), .ref (ad 9)]))], w1, w3, w5, w7, w9, w11, w13, w15, u22, w19] H := hB
    refine lv_aload_n hx hb d_TL_makesItsRow_18 rfl (lv_at hl 0 rfl) ?_
    refine va_get (D := G.1) (ci := 4) (v := .ref (ad 9)) (C := RTL) (T := TTL) (N := 14) hx hb hts inTL hown hK hB.1 0 rfl rfl 13 (by decide) (hts _ fl_TL_61) (fun _ h9 => h9) rfl d_TL_makesItsRow_19 ?_
    refine lv_iconst (v := 0) hx hb d_TL_makesItsRow_22 (by decide) ?_
    refine wrV0 (G := G) (k := 10) (As := [.int 0]) (rest := []) (C := RIL) ⟨hx, hb, hml, hown, hts⟩ (c_IL_cut l G (ad 9) (gTL_savedKinds σ) 0 _ _ (bk_gP (k := 10) hB.1 rfl) (bk_own (k := 10) hB rfl) h20 _ rfl) (cwV 1 hts (gd_V ml_TL_64 im_IL_cut sl_IL_cut ini_IL k_IL_cut) rfl rmK_c rmK_s (by decide +kernel) ⟨Nat.le_of_ble_eq_true rfl, Nat.le_of_ble_eq_true rfl⟩) hK (pIL_recv hK (bk_gP (k := 10) hB.1 rfl) h20) hS hA hB rfl hk ⟨rfl, rfl⟩ rfl hl.1 (Nat.le_of_ble_eq_true rfl) d_TL_makesItsRow_23 (fun u24 H locs hu25 hB hS => ?_)
    have hB : bk G.1 vwCl A [[(h0, .inr (4, [.ref bS, .ref bR, .ref (ad 0), .ref (ad 1), .ref (ad 2), .ref (ad 3), .int (gTL_rowTold σ), .int (gTL_savedRows σ), .ref (ad 4), .ref (ad 5), .ref (ad 6), .ref (ad 7), .ref (ad 8), .ref (ad 9)]))], w1, w3, w5, w7, w9, w11, w13, w15, u22, u24] H := hB
    refine lv_iconst (v := 0) hx hb d_TL_makesItsRow_26 (by decide) ?_
    refine lv_istore_n (lv' := [(1, .int 0), (0, .ref h0)]) hx hb d_TL_makesItsRow_27 rfl hl (by decide) rfl (fun ls hl => ?_)
    refine lp_W (I := fun n28 H locs kc ls => ∃ (k : Int32) (τ : tTL) (w : va_W), pTL G h0 bS bR ad adL τ w ∧ bk G.1 vwCl A [w] H ∧ va_S A s.heap H locs ∧ lv_has ls 4 [(0, .ref h0), (1, .int k)] ∧ A_TL_makesItsRow_L28 ss rr n28 k τ = res ∧ kc + K_TL_makesItsRow_L28 ss rr n28 k τ = Kt ∧ M_TL_makesItsRow_L28 ss rr k τ < n28) ?_ ?_ (M_TL_makesItsRow_L28 ss rr 0 (uTL_savedKinds (uTL_remade σ (A_IL_cut (gTL_remade σ) 0)) (A_IL_cut (gTL_savedKinds σ) 0)) + 1) _ _ _ _ ⟨0, (uTL_savedKinds (uTL_remade σ (A_IL_cut (gTL_remade σ) 0)) (A_IL_cut (gTL_savedKinds σ) 0)), _, ⟨w1, w3, w5, w7, w9, w11, w13, w15, u22, u24, rfl, h2, h4, h6, h8, h10, h12, h14, h16, hu23, hu25⟩, bk_one hB, hS, lv_sub hl [1, 0] rfl, hr0, hk, Nat.lt_succ_self _⟩
    · intro n28 ih28 H locs kc ls ⟨k, τ, w, hτ, hB, hS, hl, hr0, hk, hm28⟩
      obtain ⟨w26, w28, w30, w32, w34, w36, w38, w40, w42, w44, rfl, h27, h29, h31, h33, h35, h37, h39, h41, h43, h45⟩ := hτ
      have hB := bk_many hB
      rw [A_TL_makesItsRow_L28] at hr0
      rw [K_TL_makesItsRow_L28] at hk
      refine lv_iload_n hx hb d_TL_makesItsRow_28 rfl (lv_at hl 1 rfl) ?_
      refine lv_aload_n hx hb d_TL_makesItsRow_29 rfl (lv_at hl 0 rfl) ?_
      refine va_get (D := G.1) (ci := 4) (v := .ref (ad 0)) (C := RTL) (T := TTL) (N := 14) hx hb hts inTL hown hK hB.1 0 rfl rfl 2 (by decide) (hts _ fl_TL_22) (fun _ h9 => h9) rfl d_TL_makesItsRow_30 ?_
      refine rdV (G := G) (As := []) (rest := [.int k]) (C := RIL) ⟨hx, hb, hml, hown, hts⟩ (c_IL_length l G (ad 0) (gTL_steps τ) _ _ (bk_gP (k := 1) hB.1 rfl) h27 _ rfl) (cwV 0 hts (gd_V ml_TL_71 im_IL_length sl_IL_length ini_IL k_IL_length) rfl rmK_c rmK_s (by decide +kernel) ⟨Nat.le_of_ble_eq_true rfl, Nat.le_of_ble_eq_true rfl⟩) hK (pIL_recv hK (bk_gP (k := 1) hB.1 rfl) h27) hS ⟨Nat.le.intro hk, Nat.le.intro hk⟩ rfl hl.1 (Nat.le_of_ble_eq_true rfl) d_TL_makesItsRow_33 (fun locs hS => ?_)
      refine lv_icmp_ge (tgt := 113) hx hb d_TL_makesItsRow_36 (by decide) (fun c46 => ?_) (fun c46 => ?_)
      · have hr0 := ai_pos c46 hr0
        have hk := ki_pos c46 hk
        refine lv_aload_n hx hb d_TL_makesItsRow_113 rfl (lv_at hl 0 rfl) ?_
        refine va_get (D := G.1) (ci := 4) (v := .ref (ad 8)) (C := RTL) (T := TTL) (N := 14) hx hb hts inTL hown hK hB.1 0 rfl rfl 12 (by decide) (hts _ fl_TL_58) (fun _ h9 => h9) rfl d_TL_makesItsRow_114 ?_
        refine rdV (G := G) (As := []) (rest := []) (C := RIL) ⟨hx, hb, hml, hown, hts⟩ (c_IL_length l G (ad 8) (gTL_remade τ) _ _ (bk_gP (k := 9) hB.1 rfl) h43 _ rfl) (cwV 0 hts (gd_V ml_TL_71 im_IL_length sl_IL_length ini_IL k_IL_length) rfl rmK_c rmK_s (by decide +kernel) ⟨Nat.le_of_ble_eq_true rfl, Nat.le_of_ble_eq_true rfl⟩) hK (pIL_recv hK (bk_gP (k := 9) hB.1 rfl) h43) hS ⟨Nat.le.intro hk, Nat.le.intro hk⟩ rfl hl.1 (Nat.le_of_ble_eq_true rfl) d_TL_makesItsRow_117 (fun locs hS => ?_)
        refine lv_iconst (v := 1) hx hb d_TL_makesItsRow_120 (by decide) ?_
        refine lv_icmp_ne (tgt := 150) hx hb d_TL_makesItsRow_121 (by decide) (fun c47 => ?_) (fun c47 => ?_)
        · have hr0 := ai_neg c47 hr0
          have hk := ki_neg c47 hk
          refine lv_iconst (v := 0) hx hb d_TL_makesItsRow_150 (by decide) ?_
          subst hr0
          refine W.widen (k := Kt) (n := Kt) (Nat.le.intro hk) (Nat.le.intro hk) ?_
          exact W.zret (v := 0) hx hb hr (by decide) (fun t ht hW => ⟨⟨0, [[(h0, .inr (4, [.ref bS, .ref bR, .ref (ad 0), .ref (ad 1), .ref (ad 2), .ref (ad 3), .int (gTL_rowTold τ), .int (gTL_savedRows τ), .ref (ad 4), .ref (ad 5), .ref (ad 6), .ref (ad 7), .ref (ad 8), .ref (ad 9)]))], w26, w28, w30, w32, w34, w36, w38, w40, w42, w44].flatten, rfl, ⟨rfl, ⟨w26, w28, w30, w32, w34, w36, w38, w40, w42, w44, rfl, h27, h29, h31, h33, h35, h37, h39, h41, h43, h45⟩⟩, by rw [ht]; exact hB.1, hB.2⟩, hS.F ht⟩) hS.2.2 d_TL_makesItsRow_151
        · have hr0 := ai_pos c47 hr0
          have hk := ki_pos c47 hk
          refine lv_aload_n hx hb d_TL_makesItsRow_124 rfl (lv_at hl 0 rfl) ?_
          refine va_get (D := G.1) (ci := 4) (v := .ref (ad 8)) (C := RTL) (T := TTL) (N := 14) hx hb hts inTL hown hK hB.1 0 rfl rfl 12 (by decide) (hts _ fl_TL_58) (fun _ h9 => h9) rfl d_TL_makesItsRow_125 ?_
          refine lv_iconst (v := 0) hx hb d_TL_makesItsRow_128 (by decide) ?_
          refine rdV (G := G) (As := [.int 0]) (rest := []) (C := RIL) ⟨hx, hb, hml, hown, hts⟩ (c_IL_at l G (ad 8) (gTL_remade τ) 0 _ _ (bk_gP (k := 9) hB.1 rfl) h43 _ rfl) (cwV 1 hts (gd_V ml_TL_78 im_IL_at sl_IL_at ini_IL k_IL_at) rfl rmK_c rmK_s (by decide +kernel) ⟨Nat.le_of_ble_eq_true rfl, Nat.le_of_ble_eq_true rfl⟩) hK (pIL_recv hK (bk_gP (k := 9) hB.1 rfl) h43) hS ⟨Nat.le.intro hk, Nat.le.intro hk⟩ rfl hl.1 (Nat.le_of_ble_eq_true rfl) d_TL_makesItsRow_129 (fun locs hS => ?_)
          refine lv_aload_n hx hb d_TL_makesItsRow_132 rfl (lv_at hl 0 rfl) ?_
          refine va_get (D := G.1) (ci := 4) (v := .ref bR) (C := RTL) (T := TTL) (N := 14) hx hb hts inTL hown hK hB.1 0 rfl rfl 1 (by decide) (hts _ fl_TL_15) (fun _ h9 => h9) rfl d_TL_makesItsRow_133 ?_
          refine lv_aload_n hx hb d_TL_makesItsRow_136 rfl (lv_at hl 0 rfl) ?_
          refine va_get (D := G.1) (ci := 4) (v := .int (gTL_rowTold τ)) (C := RTL) (T := TTL) (N := 14) hx hb hts inTL hown hK hB.1 0 rfl rfl 6 (by decide) (hts _ fl_TL_39) (fun _ h9 => h9) rfl d_TL_makesItsRow_137 ?_
          refine rdV (G := G) (As := [.int (gTL_rowTold τ)]) (rest := [.int (A_IL_at (gTL_remade τ) 0)]) (C := RRW) ⟨hx, hb, hml, hown, hts⟩ (c_RW_kindOf l G bR adR rr (gTL_rowTold τ) _ _ (ro_keep hS hvR hro_rr) hrR _ rfl) (cwV 1 hts (gd_V ml_TL_124 im_RW_kindOf sl_RW_kindOf ini_RW k_RW_kindOf) rfl rmK_c rmK_s (by decide +kernel) ⟨Nat.le_of_ble_eq_true rfl, Nat.le_of_ble_eq_true rfl⟩) hK (pRW_recv hK (ro_keep hS hvR hro_rr) hrR) hS ⟨Nat.le.intro hk, Nat.le.intro hk⟩ rfl hl.1 (Nat.le_of_ble_eq_true rfl) d_TL_makesItsRow_140 (fun locs hS => ?_)
          refine lv_icmp_ne (tgt := 150) hx hb d_TL_makesItsRow_143 (by decide) (fun c48 => ?_) (fun c48 => ?_)
          · have hr0 := ai_neg c48 hr0
            have hk := ki_neg c48 hk
            refine lv_iconst (v := 0) hx hb d_TL_makesItsRow_150 (by decide) ?_
            subst hr0
            refine W.widen (k := Kt) (n := Kt) (Nat.le.intro hk) (Nat.le.intro hk) ?_
            exact W.zret (v := 0) hx hb hr (by decide) (fun t ht hW => ⟨⟨0, [[(h0, .inr (4, [.ref bS, .ref bR, .ref (ad 0), .ref (ad 1), .ref (ad 2), .ref (ad 3), .int (gTL_rowTold τ), .int (gTL_savedRows τ), .ref (ad 4), .ref (ad 5), .ref (ad 6), .ref (ad 7), .ref (ad 8), .ref (ad 9)]))], w26, w28, w30, w32, w34, w36, w38, w40, w42, w44].flatten, rfl, ⟨rfl, ⟨w26, w28, w30, w32, w34, w36, w38, w40, w42, w44, rfl, h27, h29, h31, h33, h35, h37, h39, h41, h43, h45⟩⟩, by rw [ht]; exact hB.1, hB.2⟩, hS.F ht⟩) hS.2.2 d_TL_makesItsRow_151
          · have hr0 := ai_pos c48 hr0
            have hk := ki_pos c48 hk
            refine lv_iconst (v := 1) hx hb d_TL_makesItsRow_146 (by decide) ?_
            refine lv_goto (tgt := 151) hx hb d_TL_makesItsRow_147 (by decide) ?_
            subst hr0
            refine W.widen (k := Kt) (n := Kt) (Nat.le.intro hk) (Nat.le.intro hk) ?_
            exact W.zret (v := 1) hx hb hr (by decide) (fun t ht hW => ⟨⟨1, [[(h0, .inr (4, [.ref bS, .ref bR, .ref (ad 0), .ref (ad 1), .ref (ad 2), .ref (ad 3), .int (gTL_rowTold τ), .int (gTL_savedRows τ), .ref (ad 4), .ref (ad 5), .ref (ad 6), .ref (ad 7), .ref (ad 8), .ref (ad 9)]))], w26, w28, w30, w32, w34, w36, w38, w40, w42, w44].flatten, rfl, ⟨rfl, ⟨w26, w28, w30, w32, w34, w36, w38, w40, w42, w44, rfl, h27, h29, h31, h33, h35, h37, h39, h41, h43, h45⟩⟩, by rw [ht]; exact hB.1, hB.2⟩, hS.F ht⟩) hS.2.2 d_TL_makesItsRow_151
      · have hr0 := ai_neg c46 hr0
        have hk := ki_neg c46 hk
        refine lv_aload_n hx hb d_TL_makesItsRow_39 rfl (lv_at hl 0 rfl) ?_
        refine va_get (D := G.1) (ci := 4) (v := .ref (ad 8)) (C := RTL) (T := TTL) (N := 14) hx hb hts inTL hown hK hB.1 0 rfl rfl 12 (by decide) (hts _ fl_TL_58) (fun _ h9 => h9) rfl d_TL_makesItsRow_40 ?_
        refine rdV (G := G) (As := []) (rest := []) (C := RIL) ⟨hx, hb, hml, hown, hts⟩ (c_IL_length l G (ad 8) (gTL_remade τ) _ _ (bk_gP (k := 9) hB.1 rfl) h43 _ rfl) (cwV 0 hts (gd_V ml_TL_71 im_IL_length sl_IL_length ini_IL k_IL_length) rfl rmK_c rmK_s (by decide +kernel) ⟨Nat.le_of_ble_eq_true rfl, Nat.le_of_ble_eq_true rfl⟩) hK (pIL_recv hK (bk_gP (k := 9) hB.1 rfl) h43) hS ⟨Nat.le.intro hk, Nat.le.intro hk⟩ rfl hl.1 (Nat.le_of_ble_eq_true rfl) d_TL_makesItsRow_43 (fun locs hS => ?_)
        refine lv_aload_n hx hb d_TL_makesItsRow_46 rfl (lv_at hl 0 rfl) ?_
        refine lv_iload_n hx hb d_TL_makesItsRow_47 rfl (lv_at hl 1 rfl) ?_
        have hpk49 : pTL G h0 bS bR ad adL τ ([[(h0, .inr (4, [.ref bS, .ref bR, .ref (ad 0), .ref (ad 1), .ref (ad 2), .ref (ad 3), .int (gTL_rowTold τ), .int (gTL_savedRows τ), .ref (ad 4), .ref (ad 5), .ref (ad 6), .ref (ad 7), .ref (ad 8), .ref (ad 9)]))], w26, w28, w30, w32, w34, w36, w38, w40, w42, w44].flatten) := ⟨w26, w28, w30, w32, w34, w36, w38, w40, w42, w44, rfl, h27, h29, h31, h33, h35, h37, h39, h41, h43, h45⟩
        refine rdV (G := G) (As := [.int k]) (rest := [.int (A_IL_length (gTL_remade τ))]) (C := RTL) ⟨hx, hb, hml, hown, hts⟩ (c_TL_rowsTakenAt l G h0 bS bR ad adL τ k _ _ adS ss _ (ro_keep hS hvS hro_ss) hsS adR rr _ (ro_keep hS hvR hro_rr) hrR hB.1 hpk49 _ rfl) (cwV 1 hts (gd_V ml_TL_161 im_TL_rowsTakenAt sl_TL_rowsTakenAt ini_TL k_TL_rowsTakenAt) rfl rmK_c rmK_s (by decide +kernel) ⟨Nat.le_of_ble_eq_true rfl, Nat.le_of_ble_eq_true rfl⟩) hK (pTL_recv hK hB.1 hpk49) hS ⟨Nat.le.intro hk, Nat.le.intro hk⟩ rfl hl.1 (Nat.le_of_ble_eq_true rfl) d_TL_makesItsRow_48 (fun locs hS => ?_)
        refine lv_isub hx hb d_TL_makesItsRow_51 ?_
        refine lv_istore_n (lv' := [(2, .int ((A_IL_length (gTL_remade τ)) - (A_TL_rowsTakenAt τ ss rr k))), (0, .ref h0), (1, .int k)]) hx hb d_TL_makesItsRow_52 rfl hl (by decide) rfl (fun ls hl => ?_)
        refine lv_iload_n hx hb d_TL_makesItsRow_53 rfl (lv_at hl 0 rfl) ?_
        refine lv_if_ge (tgt := 61) hx hb d_TL_makesItsRow_54 (by decide) (fun c50 => ?_) (fun c50 => ?_)
        · have hr0 := ai_pos c50 hr0
          have hk := ki_pos c50 hk
          refine lv_aload_n hx hb d_TL_makesItsRow_61 rfl (lv_at hl 1 rfl) ?_
          refine lv_iload_n hx hb d_TL_makesItsRow_62 rfl (lv_at hl 2 rfl) ?_
          refine lv_iload_n hx hb d_TL_makesItsRow_63 rfl (lv_at hl 0 rfl) ?_
          have hpk51 : pTL G h0 bS bR ad adL τ ([[(h0, .inr (4, [.ref bS, .ref bR, .ref (ad 0), .ref (ad 1), .ref (ad 2), .ref (ad 3), .int (gTL_rowTold τ), .int (gTL_savedRows τ), .ref (ad 4), .ref (ad 5), .ref (ad 6), .ref (ad 7), .ref (ad 8), .ref (ad 9)]))], w26, w28, w30, w32, w34, w36, w38, w40, w42, w44].flatten) := ⟨w26, w28, w30, w32, w34, w36, w38, w40, w42, w44, rfl, h27, h29, h31, h33, h35, h37, h39, h41, h43, h45⟩
          refine rdV (G := G) (As := [.int k, .int ((A_IL_length (gTL_remade τ)) - (A_TL_rowsTakenAt τ ss rr k))]) (rest := []) (C := RTL) ⟨hx, hb, hml, hown, hts⟩ (c_TL_kindMadeAt l G h0 bS bR ad adL τ k ((A_IL_length (gTL_remade τ)) - (A_TL_rowsTakenAt τ ss rr k)) _ _ adS ss _ (ro_keep hS hvS hro_ss) hsS adR rr _ (ro_keep hS hvR hro_rr) hrR hB.1 hpk51 _ rfl) (cwV 2 hts (gd_V ml_TL_164 im_TL_kindMadeAt sl_TL_kindMadeAt ini_TL k_TL_kindMadeAt) rfl rmK_c rmK_s (by decide +kernel) ⟨Nat.le_of_ble_eq_true rfl, Nat.le_of_ble_eq_true rfl⟩) hK (pTL_recv hK hB.1 hpk51) hS ⟨Nat.le.intro hk, Nat.le.intro hk⟩ rfl hl.1 (Nat.le_of_ble_eq_true rfl) d_TL_makesItsRow_64 (fun locs hS => ?_)
          refine lv_istore_n (lv' := [(3, .int (A_TL_kindMadeAt τ ss rr k ((A_IL_length (gTL_remade τ)) - (A_TL_rowsTakenAt τ ss rr k)))), (2, .int ((A_IL_length (gTL_remade τ)) - (A_TL_rowsTakenAt τ ss rr k))), (0, .ref h0), (1, .int k)]) hx hb d_TL_makesItsRow_67 rfl hl (by decide) rfl (fun ls hl => ?_)
          refine lv_iload_n hx hb d_TL_makesItsRow_68 rfl (lv_at hl 0 rfl) ?_
          refine lv_iconst (v := (-1)) hx hb d_TL_makesItsRow_69 (by decide) ?_
          refine lv_icmp_ne (tgt := 75) hx hb d_TL_makesItsRow_70 (by decide) (fun c52 => ?_) (fun c52 => ?_)
          · have hr0 := ai_neg c52 hr0
            have hk := ki_neg c52 hk
            refine lv_aload_n hx hb d_TL_makesItsRow_75 rfl (lv_at hl 2 rfl) ?_
            refine va_get (D := G.1) (ci := 4) (v := .ref (ad 8)) (C := RTL) (T := TTL) (N := 14) hx hb hts inTL hown hK hB.1 0 rfl rfl 12 (by decide) (hts _ fl_TL_58) (fun _ h9 => h9) rfl d_TL_makesItsRow_76 ?_
            refine lv_iload_n hx hb d_TL_makesItsRow_79 rfl (lv_at hl 1 rfl) ?_
            refine wrV0 (G := G) (k := 9) (As := [.int ((A_IL_length (gTL_remade τ)) - (A_TL_rowsTakenAt τ ss rr k))]) (rest := []) (C := RIL) ⟨hx, hb, hml, hown, hts⟩ (c_IL_cut l G (ad 8) (gTL_remade τ) ((A_IL_length (gTL_remade τ)) - (A_TL_rowsTakenAt τ ss rr k)) _ _ (bk_gP (k := 9) hB.1 rfl) (bk_own (k := 9) hB rfl) h43 _ rfl) (cwV 1 hts (gd_V ml_TL_64 im_IL_cut sl_IL_cut ini_IL k_IL_cut) rfl rmK_c rmK_s (by decide +kernel) ⟨Nat.le_of_ble_eq_true rfl, Nat.le_of_ble_eq_true rfl⟩) hK (pIL_recv hK (bk_gP (k := 9) hB.1 rfl) h43) hS hA hB rfl hk ⟨rfl, rfl⟩ rfl hl.1 (Nat.le_of_ble_eq_true rfl) d_TL_makesItsRow_80 (fun u53 H locs hu54 hB hS => ?_)
            have hB : bk G.1 vwCl A [[(h0, .inr (4, [.ref bS, .ref bR, .ref (ad 0), .ref (ad 1), .ref (ad 2), .ref (ad 3), .int (gTL_rowTold τ), .int (gTL_savedRows τ), .ref (ad 4), .ref (ad 5), .ref (ad 6), .ref (ad 7), .ref (ad 8), .ref (ad 9)]))], w26, w28, w30, w32, w34, w36, w38, w40, u53, w44] H := hB
            refine lv_aload_n hx hb d_TL_makesItsRow_83 rfl (lv_at hl 2 rfl) ?_
            refine va_get (D := G.1) (ci := 4) (v := .ref (ad 8)) (C := RTL) (T := TTL) (N := 14) hx hb hts inTL hown hK hB.1 0 rfl rfl 12 (by decide) (hts _ fl_TL_58) (fun _ h9 => h9) rfl d_TL_makesItsRow_84 ?_
            refine lv_iload_n hx hb d_TL_makesItsRow_87 rfl (lv_at hl 0 rfl) ?_
            refine wrV (G := G) (k := 9) (As := [.int (A_TL_kindMadeAt τ ss rr k ((A_IL_length (gTL_remade τ)) - (A_TL_rowsTakenAt τ ss rr k)))]) (rest := []) (C := RIL) ⟨hx, hb, hml, hown, hts⟩ (c_IL_add l G (ad 8) (A_IL_cut (gTL_remade τ) ((A_IL_length (gTL_remade τ)) - (A_TL_rowsTakenAt τ ss rr k))) (A_TL_kindMadeAt τ ss rr k ((A_IL_length (gTL_remade τ)) - (A_TL_rowsTakenAt τ ss rr k))) _ _ (bk_gP (k := 9) hB.1 rfl) (bk_own (k := 9) hB rfl) hu54 _ rfl _ rfl (bk_ub hk hKb)) (cwV 1 hts (gd_V ml_TL_133 im_IL_add sl_IL_add ini_IL k_IL_add) rfl rmK_c rmK_s (by decide +kernel) ⟨Nat.le_of_ble_eq_true rfl, Nat.le_of_ble_eq_true rfl⟩) hK (pIL_recv hK (bk_gP (k := 9) hB.1 rfl) hu54) hS hA hB rfl hk ⟨rfl, rfl⟩ rfl hl.1 (Nat.le_of_ble_eq_true rfl) d_TL_makesItsRow_88 (fun u55 H locs kc hu56 hB hS hk => ?_)
            have hB : bk G.1 vwCl A [[(h0, .inr (4, [.ref bS, .ref bR, .ref (ad 0), .ref (ad 1), .ref (ad 2), .ref (ad 3), .int (gTL_rowTold τ), .int (gTL_savedRows τ), .ref (ad 4), .ref (ad 5), .ref (ad 6), .ref (ad 7), .ref (ad 8), .ref (ad 9)]))], w26, w28, w30, w32, w34, w36, w38, w40, u55, w44] H := hB
            refine lv_aload_n hx hb d_TL_makesItsRow_91 rfl (lv_at hl 2 rfl) ?_
            refine lv_iload_n hx hb d_TL_makesItsRow_92 rfl (lv_at hl 3 rfl) ?_
            have hpk57 : pTL G h0 bS bR ad adL (uTL_remade (uTL_remade τ (A_IL_cut (gTL_remade τ) ((A_IL_length (gTL_remade τ)) - (A_TL_rowsTakenAt τ ss rr k)))) (A_IL_add (A_IL_cut (gTL_remade τ) ((A_IL_length (gTL_remade τ)) - (A_TL_rowsTakenAt τ ss rr k))) (A_TL_kindMadeAt τ ss rr k ((A_IL_length (gTL_remade τ)) - (A_TL_rowsTakenAt τ ss rr k))))) ([[(h0, .inr (4, [.ref bS, .ref bR, .ref (ad 0), .ref (ad 1), .ref (ad 2), .ref (ad 3), .int (gTL_rowTold τ), .int (gTL_savedRows τ), .ref (ad 4), .ref (ad 5), .ref (ad 6), .ref (ad 7), .ref (ad 8), .ref (ad 9)]))], w26, w28, w30, w32, w34, w36, w38, w40, u55, w44].flatten) := ⟨w26, w28, w30, w32, w34, w36, w38, w40, u55, w44, rfl, h27, h29, h31, h33, h35, h37, h39, h41, hu56, h45⟩
            refine rdV (G := G) (As := [.int k]) (rest := []) (C := RTL) ⟨hx, hb, hml, hown, hts⟩ (c_TL_isSavedAt l G h0 bS bR ad adL (uTL_remade (uTL_remade τ (A_IL_cut (gTL_remade τ) ((A_IL_length (gTL_remade τ)) - (A_TL_rowsTakenAt τ ss rr k)))) (A_IL_add (A_IL_cut (gTL_remade τ) ((A_IL_length (gTL_remade τ)) - (A_TL_rowsTakenAt τ ss rr k))) (A_TL_kindMadeAt τ ss rr k ((A_IL_length (gTL_remade τ)) - (A_TL_rowsTakenAt τ ss rr k))))) k _ _ hB.1 hpk57 _ rfl) (cwV 1 hts (gd_V ml_TL_136 im_TL_isSavedAt sl_TL_isSavedAt ini_TL k_TL_isSavedAt) rfl rmK_c rmK_s (by decide +kernel) ⟨Nat.le_of_ble_eq_true rfl, Nat.le_of_ble_eq_true rfl⟩) hK (pTL_recv hK hB.1 hpk57) hS ⟨Nat.le.intro hk, Nat.le.intro hk⟩ rfl hl.1 (Nat.le_of_ble_eq_true rfl) d_TL_makesItsRow_93 (fun locs hS => ?_)
            refine lv_if_eq (tgt := 107) hx hb d_TL_makesItsRow_96 (by decide) (fun c58 => ?_) (fun c58 => ?_)
            · have hr0 := ai_pos c58 hr0
              have hk := ki_pos c58 hk
              refine lv_iinc (v := k + 1) (lv' := [(1, .int (k + 1)), (3, .int (A_TL_kindMadeAt τ ss rr k ((A_IL_length (gTL_remade τ)) - (A_TL_rowsTakenAt τ ss rr k)))), (2, .int ((A_IL_length (gTL_remade τ)) - (A_TL_rowsTakenAt τ ss rr k))), (0, .ref h0)]) hx hb d_TL_makesItsRow_107 hl (k := 3) rfl rfl (by decide) rfl (fun ls hl => ?_)
              refine lv_goto (tgt := 28) hx hb d_TL_makesItsRow_110 (by decide) ?_
              exact ih28 _ _ _ _ ⟨(k + 1), (uTL_remade (uTL_remade τ (A_IL_cut (gTL_remade τ) ((A_IL_length (gTL_remade τ)) - (A_TL_rowsTakenAt τ ss rr k)))) (A_IL_add (A_IL_cut (gTL_remade τ) ((A_IL_length (gTL_remade τ)) - (A_TL_rowsTakenAt τ ss rr k))) (A_TL_kindMadeAt τ ss rr k ((A_IL_length (gTL_remade τ)) - (A_TL_rowsTakenAt τ ss rr k))))), _, ⟨w26, w28, w30, w32, w34, w36, w38, w40, u55, w44, rfl, h27, h29, h31, h33, h35, h37, h39, h41, hu56, h45⟩, bk_one hB, hS, lv_sub hl [3, 0] rfl, hr0, hk, up_dec c46 hm28⟩
            · have hr0 := ai_neg c58 hr0
              have hk := ki_neg c58 hk
              refine lv_aload_n hx hb d_TL_makesItsRow_99 rfl (lv_at hl 2 rfl) ?_
              refine va_get (D := G.1) (ci := 4) (v := .ref (ad 9)) (C := RTL) (T := TTL) (N := 14) hx hb hts inTL hown hK hB.1 0 rfl rfl 13 (by decide) (hts _ fl_TL_61) (fun _ h9 => h9) rfl d_TL_makesItsRow_100 ?_
              refine lv_iload_n hx hb d_TL_makesItsRow_103 rfl (lv_at hl 0 rfl) ?_
              refine wrV (G := G) (k := 10) (As := [.int (A_TL_kindMadeAt τ ss rr k ((A_IL_length (gTL_remade τ)) - (A_TL_rowsTakenAt τ ss rr k)))]) (rest := []) (C := RIL) ⟨hx, hb, hml, hown, hts⟩ (c_IL_add l G (ad 9) (gTL_savedKinds τ) (A_TL_kindMadeAt τ ss rr k ((A_IL_length (gTL_remade τ)) - (A_TL_rowsTakenAt τ ss rr k))) _ _ (bk_gP (k := 10) hB.1 rfl) (bk_own (k := 10) hB rfl) h45 _ rfl _ rfl (bk_ub hk hKb)) (cwV 1 hts (gd_V ml_TL_133 im_IL_add sl_IL_add ini_IL k_IL_add) rfl rmK_c rmK_s (by decide +kernel) ⟨Nat.le_of_ble_eq_true rfl, Nat.le_of_ble_eq_true rfl⟩) hK (pIL_recv hK (bk_gP (k := 10) hB.1 rfl) h45) hS hA hB rfl hk ⟨rfl, rfl⟩ rfl hl.1 (Nat.le_of_ble_eq_true rfl) d_TL_makesItsRow_104 (fun u59 H locs kc hu60 hB hS hk => ?_)
              have hB : bk G.1 vwCl A [[(h0, .inr (4, [.ref bS, .ref bR, .ref (ad 0), .ref (ad 1), .ref (ad 2), .ref (ad 3), .int (gTL_rowTold τ), .int (gTL_savedRows τ), .ref (ad 4), .ref (ad 5), .ref (ad 6), .ref (ad 7), .ref (ad 8), .ref (ad 9)]))], w26, w28, w30, w32, w34, w36, w38, w40, u55, u59] H := hB
              refine lv_iinc (v := k + 1) (lv' := [(1, .int (k + 1)), (3, .int (A_TL_kindMadeAt τ ss rr k ((A_IL_length (gTL_remade τ)) - (A_TL_rowsTakenAt τ ss rr k)))), (2, .int ((A_IL_length (gTL_remade τ)) - (A_TL_rowsTakenAt τ ss rr k))), (0, .ref h0)]) hx hb d_TL_makesItsRow_107 hl (k := 3) rfl rfl (by decide) rfl (fun ls hl => ?_)
              refine lv_goto (tgt := 28) hx hb d_TL_makesItsRow_110 (by decide) ?_
              exact ih28 _ _ _ _ ⟨(k + 1), (uTL_savedKinds (uTL_remade (uTL_remade τ (A_IL_cut (gTL_remade τ) ((A_IL_length (gTL_remade τ)) - (A_TL_rowsTakenAt τ ss rr k)))) (A_IL_add (A_IL_cut (gTL_remade τ) ((A_IL_length (gTL_remade τ)) - (A_TL_rowsTakenAt τ ss rr k))) (A_TL_kindMadeAt τ ss rr k ((A_IL_length (gTL_remade τ)) - (A_TL_rowsTakenAt τ ss rr k))))) (A_IL_add (gTL_savedKinds τ) (A_TL_kindMadeAt τ ss rr k ((A_IL_length (gTL_remade τ)) - (A_TL_rowsTakenAt τ ss rr k))))), _, ⟨w26, w28, w30, w32, w34, w36, w38, w40, u55, u59, rfl, h27, h29, h31, h33, h35, h37, h39, h41, hu56, hu60⟩, bk_one hB, hS, lv_sub hl [3, 0] rfl, hr0, hk, up_dec c46 hm28⟩
          · have hr0 := ai_pos c52 hr0
            have hk := ki_pos c52 hk
            refine lv_iconst (v := 0) hx hb d_TL_makesItsRow_73 (by decide) ?_
            subst hr0
            refine W.widen (k := Kt) (n := Kt) (Nat.le.intro hk) (Nat.le.intro hk) ?_
            exact W.zret (v := 0) hx hb hr (by decide) (fun t ht hW => ⟨⟨0, [[(h0, .inr (4, [.ref bS, .ref bR, .ref (ad 0), .ref (ad 1), .ref (ad 2), .ref (ad 3), .int (gTL_rowTold τ), .int (gTL_savedRows τ), .ref (ad 4), .ref (ad 5), .ref (ad 6), .ref (ad 7), .ref (ad 8), .ref (ad 9)]))], w26, w28, w30, w32, w34, w36, w38, w40, w42, w44].flatten, rfl, ⟨rfl, ⟨w26, w28, w30, w32, w34, w36, w38, w40, w42, w44, rfl, h27, h29, h31, h33, h35, h37, h39, h41, h43, h45⟩⟩, by rw [ht]; exact hB.1, hB.2⟩, hS.F ht⟩) hS.2.2 d_TL_makesItsRow_74
        · have hr0 := ai_neg c50 hr0
          have hk := ki_neg c50 hk
          refine lv_iconst (v := (-1)) hx hb d_TL_makesItsRow_57 (by decide) ?_
          refine lv_goto (tgt := 67) hx hb d_TL_makesItsRow_58 (by decide) ?_
          refine lv_istore_n (lv' := [(3, .int (-1)), (2, .int ((A_IL_length (gTL_remade τ)) - (A_TL_rowsTakenAt τ ss rr k))), (0, .ref h0), (1, .int k)]) hx hb d_TL_makesItsRow_67 rfl hl (by decide) rfl (fun ls hl => ?_)
          refine lv_iload_n hx hb d_TL_makesItsRow_68 rfl (lv_at hl 0 rfl) ?_
          refine lv_iconst (v := (-1)) hx hb d_TL_makesItsRow_69 (by decide) ?_
          refine lv_icmp_ne (tgt := 75) hx hb d_TL_makesItsRow_70 (by decide) (fun c61 => ?_) (fun c61 => ?_)
          · exact absurd (by decide) c61
          · refine lv_iconst (v := 0) hx hb d_TL_makesItsRow_73 (by decide) ?_
            subst hr0
            refine W.widen (k := Kt) (n := Kt) (Nat.le.intro hk) (Nat.le.intro hk) ?_
            exact W.zret (v := 0) hx hb hr (by decide) (fun t ht hW => ⟨⟨0, [[(h0, .inr (4, [.ref bS, .ref bR, .ref (ad 0), .ref (ad 1), .ref (ad 2), .ref (ad 3), .int (gTL_rowTold τ), .int (gTL_savedRows τ), .ref (ad 4), .ref (ad 5), .ref (ad 6), .ref (ad 7), .ref (ad 8), .ref (ad 9)]))], w26, w28, w30, w32, w34, w36, w38, w40, w42, w44].flatten, rfl, ⟨rfl, ⟨w26, w28, w30, w32, w34, w36, w38, w40, w42, w44, rfl, h27, h29, h31, h33, h35, h37, h39, h41, h43, h45⟩⟩, by rw [ht]; exact hB.1, hB.2⟩, hS.F ht⟩) hS.2.2 d_TL_makesItsRow_74
    · rintro H locs kc ls ⟨_, _, _, -, -, -, -, -, -, hz⟩; exact Nat.not_lt_zero _ hz
  · have hr0 := ai_pos c21 hr0
    have hk := ki_pos c21 hk
    refine lv_iconst (v := 1) hx hb d_TL_makesItsRow_8 (by decide) ?_
    subst hr0
    refine W.widen (k := Kt) (n := Kt) (Nat.le.intro hk) (Nat.le.intro hk) ?_
    exact W.zret (v := 1) hx hb hr (by decide) (fun t ht hW => ⟨⟨1, [[(h0, .inr (4, [.ref bS, .ref bR, .ref (ad 0), .ref (ad 1), .ref (ad 2), .ref (ad 3), .int (gTL_rowTold σ), .int (gTL_savedRows σ), .ref (ad 4), .ref (ad 5), .ref (ad 6), .ref (ad 7), .ref (ad 8), .ref (ad 9)]))], w1, w3, w5, w7, w9, w11, w13, w15, w17, w19].flatten, rfl, ⟨rfl, ⟨w1, w3, w5, w7, w9, w11, w13, w15, w17, w19, rfl, h2, h4, h6, h8, h10, h12, h14, h16, h18, h20⟩⟩, by rw [ht]; exact hB.1, hB.2⟩, hS.F ht⟩) hS.2.2 d_TL_makesItsRow_9
