def M_TL_numberSavedRows_L2 (k : Int32) (τ : tTL) : Nat := ((A_IL_length (gTL_steps τ)).toInt - k.toInt).toNat
def A_TL_numberSavedRows_L2 : Nat → Int32 → tTL → tTL
  | 0, _, τ => τ
  | n2 + 1, k, τ => if (A_IL_length (gTL_steps τ)) ≤ k then τ else (if (A_TL_isSavedAt τ k) = 0 then (if (-2) < (A_IL_at (gTL_steps τ) k) then (A_TL_numberSavedRows_L2 n2 (k + 1) τ) else (A_TL_numberSavedRows_L2 n2 (k + 1) (uTL_steps τ (A_IL_put (gTL_steps τ) k ((-2) - (A_IL_at (gTL_savedAs τ) ((-2) - (A_IL_at (gTL_steps τ) k)))))))) else (if (-2) < (A_IL_at (gTL_steps τ) k) then (A_TL_numberSavedRows_L2 n2 (k + 1) (uTL_savedRows (uTL_savedAs τ (A_IL_put (gTL_savedAs τ) k (gTL_savedRows τ))) ((gTL_savedRows τ) + 1))) else (A_TL_numberSavedRows_L2 n2 (k + 1) (uTL_steps (uTL_savedRows (uTL_savedAs τ (A_IL_put (gTL_savedAs τ) k (gTL_savedRows τ))) ((gTL_savedRows τ) + 1)) (A_IL_put (gTL_steps τ) k ((-2) - (A_IL_at (A_IL_put (gTL_savedAs τ) k (gTL_savedRows τ)) ((-2) - (A_IL_at (gTL_steps τ) k)))))))))
def A_TL_numberSavedRows (σ : tTL) : tTL := A_TL_numberSavedRows_L2 (M_TL_numberSavedRows_L2 0 σ + 1) 0 σ
set_option maxHeartbeats 4000000 in
set_option maxRecDepth 100000 in
theorem c_TL_numberSavedRows (l : Launch) (G : pG) (h0 : Nat) (bS : Nat) (bR : Nat) (ad : Nat → Nat) (adL : Nat → Nat) (σ : tTL) (H : Heap) (w : va_W) (hP0 : va_P G.1 vwCl w H) (hD0 : va_D (fun _ => True) w) (hσ : pTL G h0 bS bR ad adL σ w) (res : tTL) (hr0 : A_TL_numberSavedRows σ = res) : MWv l y_TL_numberSavedRows w_TL_numberSavedRows 2 42 0 G [.ref h0] H w (pTL G h0 bS bR ad adL res) := by
  refine Met.ofW (cc := b_TL_numberSavedRows) (maxL := 3) (ret := none) (by decide) rfl ?_
  intro p e s m args below meth c s₁ B hml hv
  obtain ⟨rfl, rfl, hK⟩ := hv
  have hx := B.exec
  have hb := B.bytes
  have hr := B.returns
  have hts0 := atoms_spec (ws := w_TL_numberSavedRows) B.pre
  have hts := fun w (h : w ∈ lw_g) => hts0 w (List.mem_cons_of_mem _ h)
  have hown : s.vm.findClass RTL = some m.cls := findClass_of_methodNamed B.named
  have hlocks := B.notSynchronized
  have hA : ∀ q : Nat, s.heap.size ≤ q → va_A w s.heap.size q := fun _ h => Or.inr h
  have hB : bk G.1 vwCl (va_A w s.heap.size) [w] s.heap := bk_init hP0 hD0
  generalize va_A w s.heap.size = A at *
  have hS : va_S A s.heap s.heap [] := va_S.rf
  obtain ⟨w1, w3, w5, w7, w9, w11, w13, w15, w17, w19, rfl, h2, h4, h6, h8, h10, h12, h14, h16, h18, h20⟩ := hσ
  have hB := bk_many hB
  have hk : 0 + 0 = 0 := rfl
  have hl := lv_entry ([.ref h0]) (n := 3) (Nat.le_of_ble_eq_true rfl)
  rw [lg_entry_eq]
  generalize (lg_sl ([.ref h0]) ++ List.replicate (3 - (lg_sl ([.ref h0])).length) Slot.unset).toArray = ls at hl ⊢
  have hl : lv_has ls 3 [(0, .ref h0)] := hl
  unfold A_TL_numberSavedRows at hr0
  refine lv_iconst (v := 0) hx hb d_TL_numberSavedRows_0 (by decide) ?_
  refine lv_istore_n (lv' := [(1, .int 0), (0, .ref h0)]) hx hb d_TL_numberSavedRows_1 rfl hl (by decide) rfl (fun ls hl => ?_)
  refine lp_W (I := fun n2 H locs kc ls => ∃ (k : Int32) (τ : tTL) (w : va_W), pTL G h0 bS bR ad adL τ w ∧ bk G.1 vwCl A [w] H ∧ va_S A s.heap H locs ∧ lv_has ls 3 [(0, .ref h0), (1, .int k)] ∧ A_TL_numberSavedRows_L2 n2 k τ = res ∧ kc = 0 ∧ M_TL_numberSavedRows_L2 k τ < n2) ?_ ?_ (M_TL_numberSavedRows_L2 0 σ + 1) _ _ _ _ ⟨0, σ, _, ⟨w1, w3, w5, w7, w9, w11, w13, w15, w17, w19, rfl, h2, h4, h6, h8, h10, h12, h14, h16, h18, h20⟩, bk_one hB, hS, lv_sub hl [1, 0] rfl, hr0, rfl, Nat.lt_succ_self _⟩
  · intro n2 ih2 H locs kc ls ⟨k, τ, w, hτ, hB, hS, hl, hr0, hkc, hm2⟩
    subst hkc
    obtain ⟨w21, w23, w25, w27, w29, w31, w33, w35, w37, w39, rfl, h22, h24, h26, h28, h30, h32, h34, h36, h38, h40⟩ := hτ
    have hB := bk_many hB
    rw [A_TL_numberSavedRows_L2] at hr0
    refine lv_iload_n hx hb d_TL_numberSavedRows_2 rfl (lv_at hl 1 rfl) ?_
    refine lv_aload_n hx hb d_TL_numberSavedRows_3 rfl (lv_at hl 0 rfl) ?_
    refine va_get (D := G.1) (ci := 4) (v := .ref (ad 0)) (C := RTL) (T := TTL) (N := 14) hx hb hts inTL hown hK hB.1 0 rfl rfl 2 (by decide) (hts _ fl_TL_22) (fun _ h9 => h9) rfl d_TL_numberSavedRows_4 ?_
    refine rdV (G := G) (As := []) (rest := [.int k]) (C := RIL) ⟨hx, hb, hml, hown, hts⟩ (c_IL_length l G (ad 0) (gTL_steps τ) _ _ (bk_gP (k := 1) hB.1 rfl) h22 _ rfl) (cwV 0 hts (gd_V ml_TL_71 im_IL_length sl_IL_length ini_IL k_IL_length) rfl rmK_c rmK_s (by decide +kernel) ⟨Nat.le_of_ble_eq_true rfl, Nat.le_of_ble_eq_true rfl⟩) hK (pIL_recv hK (bk_gP (k := 1) hB.1 rfl) h22) hS ⟨Nat.le.intro hk, Nat.le.intro hk⟩ rfl hl.1 (Nat.le_of_ble_eq_true rfl) d_TL_numberSavedRows_7 (fun locs hS => ?_)
    refine lv_icmp_ge (tgt := 86) hx hb d_TL_numberSavedRows_10 (by decide) (fun c41 => ?_) (fun c41 => ?_)
    · have hr0 := ai_pos c41 hr0
      subst hr0
      refine W.widen (k := 0) (n := 0) (Nat.le_refl _) (Nat.le_refl _) ?_
      exact W.vret hx hb hr (fun t ht hW => ⟨⟨[[(h0, .inr (4, [.ref bS, .ref bR, .ref (ad 0), .ref (ad 1), .ref (ad 2), .ref (ad 3), .int (gTL_rowTold τ), .int (gTL_savedRows τ), .ref (ad 4), .ref (ad 5), .ref (ad 6), .ref (ad 7), .ref (ad 8), .ref (ad 9)]))], w21, w23, w25, w27, w29, w31, w33, w35, w37, w39].flatten, rfl, ⟨w21, w23, w25, w27, w29, w31, w33, w35, w37, w39, rfl, h22, h24, h26, h28, h30, h32, h34, h36, h38, h40⟩, by rw [ht]; exact hB.1, hB.2⟩, hS.F ht⟩) hS.2.2 d_TL_numberSavedRows_86
    · have hr0 := ai_neg c41 hr0
      refine lv_aload_n hx hb d_TL_numberSavedRows_13 rfl (lv_at hl 0 rfl) ?_
      refine lv_iload_n hx hb d_TL_numberSavedRows_14 rfl (lv_at hl 1 rfl) ?_
      have hpk42 : pTL G h0 bS bR ad adL τ ([[(h0, .inr (4, [.ref bS, .ref bR, .ref (ad 0), .ref (ad 1), .ref (ad 2), .ref (ad 3), .int (gTL_rowTold τ), .int (gTL_savedRows τ), .ref (ad 4), .ref (ad 5), .ref (ad 6), .ref (ad 7), .ref (ad 8), .ref (ad 9)]))], w21, w23, w25, w27, w29, w31, w33, w35, w37, w39].flatten) := ⟨w21, w23, w25, w27, w29, w31, w33, w35, w37, w39, rfl, h22, h24, h26, h28, h30, h32, h34, h36, h38, h40⟩
      refine rdV (G := G) (As := [.int k]) (rest := []) (C := RTL) ⟨hx, hb, hml, hown, hts⟩ (c_TL_isSavedAt l G h0 bS bR ad adL τ k _ _ hB.1 hpk42 _ rfl) (cwV 1 hts (gd_V ml_TL_136 im_TL_isSavedAt sl_TL_isSavedAt ini_TL k_TL_isSavedAt) rfl rmK_c rmK_s (by decide +kernel) ⟨Nat.le_of_ble_eq_true rfl, Nat.le_of_ble_eq_true rfl⟩) hK (pTL_recv hK hB.1 hpk42) hS ⟨Nat.le.intro hk, Nat.le.intro hk⟩ rfl hl.1 (Nat.le_of_ble_eq_true rfl) d_TL_numberSavedRows_15 (fun locs hS => ?_)
      refine lv_if_eq (tgt := 43) hx hb d_TL_numberSavedRows_18 (by decide) (fun c43 => ?_) (fun c43 => ?_)
      · have hr0 := ai_pos c43 hr0
        refine lv_aload_n hx hb d_TL_numberSavedRows_43 rfl (lv_at hl 0 rfl) ?_
        refine va_get (D := G.1) (ci := 4) (v := .ref (ad 0)) (C := RTL) (T := TTL) (N := 14) hx hb hts inTL hown hK hB.1 0 rfl rfl 2 (by decide) (hts _ fl_TL_22) (fun _ h9 => h9) rfl d_TL_numberSavedRows_44 ?_
        refine lv_iload_n hx hb d_TL_numberSavedRows_47 rfl (lv_at hl 1 rfl) ?_
        refine rdV (G := G) (As := [.int k]) (rest := []) (C := RIL) ⟨hx, hb, hml, hown, hts⟩ (c_IL_at l G (ad 0) (gTL_steps τ) k _ _ (bk_gP (k := 1) hB.1 rfl) h22 _ rfl) (cwV 1 hts (gd_V ml_TL_78 im_IL_at sl_IL_at ini_IL k_IL_at) rfl rmK_c rmK_s (by decide +kernel) ⟨Nat.le_of_ble_eq_true rfl, Nat.le_of_ble_eq_true rfl⟩) hK (pIL_recv hK (bk_gP (k := 1) hB.1 rfl) h22) hS ⟨Nat.le.intro hk, Nat.le.intro hk⟩ rfl hl.1 (Nat.le_of_ble_eq_true rfl) d_TL_numberSavedRows_48 (fun locs hS => ?_)
        refine lv_istore_n (lv' := [(2, .int (A_IL_at (gTL_steps τ) k)), (0, .ref h0), (1, .int k)]) hx hb d_TL_numberSavedRows_51 rfl hl (by decide) rfl (fun ls hl => ?_)
        refine lv_iload_n hx hb d_TL_numberSavedRows_52 rfl (lv_at hl 0 rfl) ?_
        refine lv_bipush (v := (-2)) hx hb d_TL_numberSavedRows_53 (by decide) ?_
        refine lv_icmp_gt (tgt := 80) hx hb d_TL_numberSavedRows_55 (by decide) (fun c44 => ?_) (fun c44 => ?_)
        · have hr0 := ai_pos c44 hr0
          refine lv_iinc (v := k + 1) (lv' := [(1, .int (k + 1)), (2, .int (A_IL_at (gTL_steps τ) k)), (0, .ref h0)]) hx hb d_TL_numberSavedRows_80 hl (k := 2) rfl rfl (by decide) rfl (fun ls hl => ?_)
          refine lv_goto (tgt := 2) hx hb d_TL_numberSavedRows_83 (by decide) ?_
          exact ih2 _ _ _ _ ⟨(k + 1), τ, _, ⟨w21, w23, w25, w27, w29, w31, w33, w35, w37, w39, rfl, h22, h24, h26, h28, h30, h32, h34, h36, h38, h40⟩, bk_one hB, hS, lv_sub hl [2, 0] rfl, hr0, rfl, up_dec c41 hm2⟩
        · have hr0 := ai_neg c44 hr0
          refine lv_aload_n hx hb d_TL_numberSavedRows_58 rfl (lv_at hl 1 rfl) ?_
          refine va_get (D := G.1) (ci := 4) (v := .ref (ad 0)) (C := RTL) (T := TTL) (N := 14) hx hb hts inTL hown hK hB.1 0 rfl rfl 2 (by decide) (hts _ fl_TL_22) (fun _ h9 => h9) rfl d_TL_numberSavedRows_59 ?_
          refine lv_iload_n hx hb d_TL_numberSavedRows_62 rfl (lv_at hl 2 rfl) ?_
          refine lv_bipush (v := (-2)) hx hb d_TL_numberSavedRows_63 (by decide) ?_
          refine lv_aload_n hx hb d_TL_numberSavedRows_65 rfl (lv_at hl 1 rfl) ?_
          refine va_get (D := G.1) (ci := 4) (v := .ref (ad 1)) (C := RTL) (T := TTL) (N := 14) hx hb hts inTL hown hK hB.1 0 rfl rfl 3 (by decide) (hts _ fl_TL_26) (fun _ h9 => h9) rfl d_TL_numberSavedRows_66 ?_
          refine lv_bipush (v := (-2)) hx hb d_TL_numberSavedRows_69 (by decide) ?_
          refine lv_iload_n hx hb d_TL_numberSavedRows_71 rfl (lv_at hl 0 rfl) ?_
          refine lv_isub hx hb d_TL_numberSavedRows_72 ?_
          refine rdV (G := G) (As := [.int ((-2) - (A_IL_at (gTL_steps τ) k))]) (rest := [.int (-2), .int k, .ref (ad 0)]) (C := RIL) ⟨hx, hb, hml, hown, hts⟩ (c_IL_at l G (ad 1) (gTL_savedAs τ) ((-2) - (A_IL_at (gTL_steps τ) k)) _ _ (bk_gP (k := 2) hB.1 rfl) h24 _ rfl) (cwV 1 hts (gd_V ml_TL_78 im_IL_at sl_IL_at ini_IL k_IL_at) rfl rmK_c rmK_s (by decide +kernel) ⟨Nat.le_of_ble_eq_true rfl, Nat.le_of_ble_eq_true rfl⟩) hK (pIL_recv hK (bk_gP (k := 2) hB.1 rfl) h24) hS ⟨Nat.le.intro hk, Nat.le.intro hk⟩ rfl hl.1 (Nat.le_of_ble_eq_true rfl) d_TL_numberSavedRows_73 (fun locs hS => ?_)
          refine lv_isub hx hb d_TL_numberSavedRows_76 ?_
          refine wrV0 (G := G) (k := 1) (As := [.int k, .int ((-2) - (A_IL_at (gTL_savedAs τ) ((-2) - (A_IL_at (gTL_steps τ) k))))]) (rest := []) (C := RIL) ⟨hx, hb, hml, hown, hts⟩ (c_IL_put l G (ad 0) (gTL_steps τ) k ((-2) - (A_IL_at (gTL_savedAs τ) ((-2) - (A_IL_at (gTL_steps τ) k)))) _ _ (bk_gP (k := 1) hB.1 rfl) (bk_own (k := 1) hB rfl) h22 _ rfl) (cwV 2 hts (gd_V ml_TL_114 im_IL_put sl_IL_put ini_IL k_IL_put) rfl rmK_c rmK_s (by decide +kernel) ⟨Nat.le_of_ble_eq_true rfl, Nat.le_of_ble_eq_true rfl⟩) hK (pIL_recv hK (bk_gP (k := 1) hB.1 rfl) h22) hS hA hB rfl hk ⟨rfl, rfl⟩ rfl hl.1 (Nat.le_of_ble_eq_true rfl) d_TL_numberSavedRows_77 (fun u45 H locs hu46 hB hS => ?_)
          have hB : bk G.1 vwCl A [[(h0, .inr (4, [.ref bS, .ref bR, .ref (ad 0), .ref (ad 1), .ref (ad 2), .ref (ad 3), .int (gTL_rowTold τ), .int (gTL_savedRows τ), .ref (ad 4), .ref (ad 5), .ref (ad 6), .ref (ad 7), .ref (ad 8), .ref (ad 9)]))], u45, w23, w25, w27, w29, w31, w33, w35, w37, w39] H := hB
          refine lv_iinc (v := k + 1) (lv' := [(1, .int (k + 1)), (2, .int (A_IL_at (gTL_steps τ) k)), (0, .ref h0)]) hx hb d_TL_numberSavedRows_80 hl (k := 2) rfl rfl (by decide) rfl (fun ls hl => ?_)
          refine lv_goto (tgt := 2) hx hb d_TL_numberSavedRows_83 (by decide) ?_
          exact ih2 _ _ _ _ ⟨(k + 1), (uTL_steps τ (A_IL_put (gTL_steps τ) k ((-2) - (A_IL_at (gTL_savedAs τ) ((-2) - (A_IL_at (gTL_steps τ) k)))))), _, ⟨u45, w23, w25, w27, w29, w31, w33, w35, w37, w39, rfl, hu46, h24, h26, h28, h30, h32, h34, h36, h38, h40⟩, bk_one hB, hS, lv_sub hl [2, 0] rfl, hr0, rfl, up_decE c41 hm2 (len_put _ _ _)⟩
      · have hr0 := ai_neg c43 hr0
        refine lv_aload_n hx hb d_TL_numberSavedRows_21 rfl (lv_at hl 0 rfl) ?_
        refine va_get (D := G.1) (ci := 4) (v := .ref (ad 1)) (C := RTL) (T := TTL) (N := 14) hx hb hts inTL hown hK hB.1 0 rfl rfl 3 (by decide) (hts _ fl_TL_26) (fun _ h9 => h9) rfl d_TL_numberSavedRows_22 ?_
        refine lv_iload_n hx hb d_TL_numberSavedRows_25 rfl (lv_at hl 1 rfl) ?_
        refine lv_aload_n hx hb d_TL_numberSavedRows_26 rfl (lv_at hl 0 rfl) ?_
        refine va_get (D := G.1) (ci := 4) (v := .int (gTL_savedRows τ)) (C := RTL) (T := TTL) (N := 14) hx hb hts inTL hown hK hB.1 0 rfl rfl 7 (by decide) (hts _ fl_TL_43) (fun _ h9 => h9) rfl d_TL_numberSavedRows_27 ?_
        refine wrV0 (G := G) (k := 2) (As := [.int k, .int (gTL_savedRows τ)]) (rest := []) (C := RIL) ⟨hx, hb, hml, hown, hts⟩ (c_IL_put l G (ad 1) (gTL_savedAs τ) k (gTL_savedRows τ) _ _ (bk_gP (k := 2) hB.1 rfl) (bk_own (k := 2) hB rfl) h24 _ rfl) (cwV 2 hts (gd_V ml_TL_114 im_IL_put sl_IL_put ini_IL k_IL_put) rfl rmK_c rmK_s (by decide +kernel) ⟨Nat.le_of_ble_eq_true rfl, Nat.le_of_ble_eq_true rfl⟩) hK (pIL_recv hK (bk_gP (k := 2) hB.1 rfl) h24) hS hA hB rfl hk ⟨rfl, rfl⟩ rfl hl.1 (Nat.le_of_ble_eq_true rfl) d_TL_numberSavedRows_30 (fun u47 H locs hu48 hB hS => ?_)
        have hB : bk G.1 vwCl A [[(h0, .inr (4, [.ref bS, .ref bR, .ref (ad 0), .ref (ad 1), .ref (ad 2), .ref (ad 3), .int (gTL_rowTold τ), .int (gTL_savedRows τ), .ref (ad 4), .ref (ad 5), .ref (ad 6), .ref (ad 7), .ref (ad 8), .ref (ad 9)]))], w21, u47, w25, w27, w29, w31, w33, w35, w37, w39] H := hB
        refine lv_aload_n hx hb d_TL_numberSavedRows_33 rfl (lv_at hl 0 rfl) ?_
        refine lv_dup hx hb d_TL_numberSavedRows_34 rfl ?_
        refine va_get (D := G.1) (ci := 4) (v := .int (gTL_savedRows τ)) (C := RTL) (T := TTL) (N := 14) hx hb hts inTL hown hK hB.1 0 rfl rfl 7 (by decide) (hts _ fl_TL_43) (fun _ h9 => h9) rfl d_TL_numberSavedRows_35 ?_
        refine lv_iconst (v := 1) hx hb d_TL_numberSavedRows_38 (by decide) ?_
        refine lv_iadd hx hb d_TL_numberSavedRows_39 ?_
        refine va_put (D := G.1) (ci := 4) (v := .int ((gTL_savedRows τ) + 1)) (ty := .int) (C := RTL) (T := TTL) (N := 14) hx hb hts inTL tyTL tokTL nmTL hown hK hB.1 hB.2 hS 0 rfl rfl 7 (by decide) (hts _ fl_TL_43) (fun _ h9 => h9) rfl (by decide +kernel) rfl rfl (Nat.le_of_ble_eq_true rfl) d_TL_numberSavedRows_40 (fun H locs hP hD hS => ?_)
        have hB : bk G.1 vwCl A [[(h0, .inr (4, [.ref bS, .ref bR, .ref (ad 0), .ref (ad 1), .ref (ad 2), .ref (ad 3), .int (gTL_rowTold τ), .int ((gTL_savedRows τ) + 1), .ref (ad 4), .ref (ad 5), .ref (ad 6), .ref (ad 7), .ref (ad 8), .ref (ad 9)]))], w21, u47, w25, w27, w29, w31, w33, w35, w37, w39] H := ⟨hP, hD⟩
        refine lv_aload_n hx hb d_TL_numberSavedRows_43 rfl (lv_at hl 0 rfl) ?_
        refine va_get (D := G.1) (ci := 4) (v := .ref (ad 0)) (C := RTL) (T := TTL) (N := 14) hx hb hts inTL hown hK hB.1 0 rfl rfl 2 (by decide) (hts _ fl_TL_22) (fun _ h9 => h9) rfl d_TL_numberSavedRows_44 ?_
        refine lv_iload_n hx hb d_TL_numberSavedRows_47 rfl (lv_at hl 1 rfl) ?_
        refine rdV (G := G) (As := [.int k]) (rest := []) (C := RIL) ⟨hx, hb, hml, hown, hts⟩ (c_IL_at l G (ad 0) (gTL_steps τ) k _ _ (bk_gP (k := 1) hB.1 rfl) h22 _ rfl) (cwV 1 hts (gd_V ml_TL_78 im_IL_at sl_IL_at ini_IL k_IL_at) rfl rmK_c rmK_s (by decide +kernel) ⟨Nat.le_of_ble_eq_true rfl, Nat.le_of_ble_eq_true rfl⟩) hK (pIL_recv hK (bk_gP (k := 1) hB.1 rfl) h22) hS ⟨Nat.le.intro hk, Nat.le.intro hk⟩ rfl hl.1 (Nat.le_of_ble_eq_true rfl) d_TL_numberSavedRows_48 (fun locs hS => ?_)
        refine lv_istore_n (lv' := [(2, .int (A_IL_at (gTL_steps τ) k)), (0, .ref h0), (1, .int k)]) hx hb d_TL_numberSavedRows_51 rfl hl (by decide) rfl (fun ls hl => ?_)
        refine lv_iload_n hx hb d_TL_numberSavedRows_52 rfl (lv_at hl 0 rfl) ?_
        refine lv_bipush (v := (-2)) hx hb d_TL_numberSavedRows_53 (by decide) ?_
        refine lv_icmp_gt (tgt := 80) hx hb d_TL_numberSavedRows_55 (by decide) (fun c49 => ?_) (fun c49 => ?_)
        · have hr0 := ai_pos c49 hr0
          refine lv_iinc (v := k + 1) (lv' := [(1, .int (k + 1)), (2, .int (A_IL_at (gTL_steps τ) k)), (0, .ref h0)]) hx hb d_TL_numberSavedRows_80 hl (k := 2) rfl rfl (by decide) rfl (fun ls hl => ?_)
          refine lv_goto (tgt := 2) hx hb d_TL_numberSavedRows_83 (by decide) ?_
          exact ih2 _ _ _ _ ⟨(k + 1), (uTL_savedRows (uTL_savedAs τ (A_IL_put (gTL_savedAs τ) k (gTL_savedRows τ))) ((gTL_savedRows τ) + 1)), _, ⟨w21, u47, w25, w27, w29, w31, w33, w35, w37, w39, rfl, h22, hu48, h26, h28, h30, h32, h34, h36, h38, h40⟩, bk_one hB, hS, lv_sub hl [2, 0] rfl, hr0, rfl, up_dec c41 hm2⟩
        · have hr0 := ai_neg c49 hr0
          refine lv_aload_n hx hb d_TL_numberSavedRows_58 rfl (lv_at hl 1 rfl) ?_
          refine va_get (D := G.1) (ci := 4) (v := .ref (ad 0)) (C := RTL) (T := TTL) (N := 14) hx hb hts inTL hown hK hB.1 0 rfl rfl 2 (by decide) (hts _ fl_TL_22) (fun _ h9 => h9) rfl d_TL_numberSavedRows_59 ?_
          refine lv_iload_n hx hb d_TL_numberSavedRows_62 rfl (lv_at hl 2 rfl) ?_
          refine lv_bipush (v := (-2)) hx hb d_TL_numberSavedRows_63 (by decide) ?_
          refine lv_aload_n hx hb d_TL_numberSavedRows_65 rfl (lv_at hl 1 rfl) ?_
          refine va_get (D := G.1) (ci := 4) (v := .ref (ad 1)) (C := RTL) (T := TTL) (N := 14) hx hb hts inTL hown hK hB.1 0 rfl rfl 3 (by decide) (hts _ fl_TL_26) (fun _ h9 => h9) rfl d_TL_numberSavedRows_66 ?_
          refine lv_bipush (v := (-2)) hx hb d_TL_numberSavedRows_69 (by decide) ?_
          refine lv_iload_n hx hb d_TL_numberSavedRows_71 rfl (lv_at hl 0 rfl) ?_
          refine lv_isub hx hb d_TL_numberSavedRows_72 ?_
          refine rdV (G := G) (As := [.int ((-2) - (A_IL_at (gTL_steps τ) k))]) (rest := [.int (-2), .int k, .ref (ad 0)]) (C := RIL) ⟨hx, hb, hml, hown, hts⟩ (c_IL_at l G (ad 1) (A_IL_put (gTL_savedAs τ) k (gTL_savedRows τ)) ((-2) - (A_IL_at (gTL_steps τ) k)) _ _ (bk_gP (k := 2) hB.1 rfl) hu48 _ rfl) (cwV 1 hts (gd_V ml_TL_78 im_IL_at sl_IL_at ini_IL k_IL_at) rfl rmK_c rmK_s (by decide +kernel) ⟨Nat.le_of_ble_eq_true rfl, Nat.le_of_ble_eq_true rfl⟩) hK (pIL_recv hK (bk_gP (k := 2) hB.1 rfl) hu48) hS ⟨Nat.le.intro hk, Nat.le.intro hk⟩ rfl hl.1 (Nat.le_of_ble_eq_true rfl) d_TL_numberSavedRows_73 (fun locs hS => ?_)
          refine lv_isub hx hb d_TL_numberSavedRows_76 ?_
          refine wrV0 (G := G) (k := 1) (As := [.int k, .int ((-2) - (A_IL_at (A_IL_put (gTL_savedAs τ) k (gTL_savedRows τ)) ((-2) - (A_IL_at (gTL_steps τ) k))))]) (rest := []) (C := RIL) ⟨hx, hb, hml, hown, hts⟩ (c_IL_put l G (ad 0) (gTL_steps τ) k ((-2) - (A_IL_at (A_IL_put (gTL_savedAs τ) k (gTL_savedRows τ)) ((-2) - (A_IL_at (gTL_steps τ) k)))) _ _ (bk_gP (k := 1) hB.1 rfl) (bk_own (k := 1) hB rfl) h22 _ rfl) (cwV 2 hts (gd_V ml_TL_114 im_IL_put sl_IL_put ini_IL k_IL_put) rfl rmK_c rmK_s (by decide +kernel) ⟨Nat.le_of_ble_eq_true rfl, Nat.le_of_ble_eq_true rfl⟩) hK (pIL_recv hK (bk_gP (k := 1) hB.1 rfl) h22) hS hA hB rfl hk ⟨rfl, rfl⟩ rfl hl.1 (Nat.le_of_ble_eq_true rfl) d_TL_numberSavedRows_77 (fun u50 H locs hu51 hB hS => ?_)
          have hB : bk G.1 vwCl A [[(h0, .inr (4, [.ref bS, .ref bR, .ref (ad 0), .ref (ad 1), .ref (ad 2), .ref (ad 3), .int (gTL_rowTold τ), .int ((gTL_savedRows τ) + 1), .ref (ad 4), .ref (ad 5), .ref (ad 6), .ref (ad 7), .ref (ad 8), .ref (ad 9)]))], u50, u47, w25, w27, w29, w31, w33, w35, w37, w39] H := hB
          refine lv_iinc (v := k + 1) (lv' := [(1, .int (k + 1)), (2, .int (A_IL_at (gTL_steps τ) k)), (0, .ref h0)]) hx hb d_TL_numberSavedRows_80 hl (k := 2) rfl rfl (by decide) rfl (fun ls hl => ?_)
          refine lv_goto (tgt := 2) hx hb d_TL_numberSavedRows_83 (by decide) ?_
          exact ih2 _ _ _ _ ⟨(k + 1), (uTL_steps (uTL_savedRows (uTL_savedAs τ (A_IL_put (gTL_savedAs τ) k (gTL_savedRows τ))) ((gTL_savedRows τ) + 1)) (A_IL_put (gTL_steps τ) k ((-2) - (A_IL_at (A_IL_put (gTL_savedAs τ) k (gTL_savedRows τ)) ((-2) - (A_IL_at (gTL_steps τ) k)))))), _, ⟨u50, u47, w25, w27, w29, w31, w33, w35, w37, w39, rfl, hu51, hu48, h26, h28, h30, h32, h34, h36, h38, h40⟩, bk_one hB, hS, lv_sub hl [2, 0] rfl, hr0, rfl, up_decE c41 hm2 (len_put _ _ _)⟩
  · rintro H locs kc ls ⟨_, _, _, -, -, -, -, -, -, hz⟩; exact Nat.not_lt_zero _ hz

def A_TL_numberOfNew (σ : tTL) (ss : tST) (rr : tRW) (statement : Int32) : Int32 × tTL := if (A_ST_isMandatory ss statement) = 0 then ((A_ST_mandatories ss) + (A_IL_length (A_IL_add (gTL_labels σ) statement)), uTL_labels σ (A_IL_add (gTL_labels σ) statement)) else ((A_ST_placeOf ss statement) + 1, σ)
def K_TL_numberOfNew (σ : tTL) (ss : tST) (rr : tRW) (statement : Int32) : Nat := if (A_ST_isMandatory ss statement) = 0 then ((K_IL_add (gTL_labels σ) statement) + 0) else 0
set_option maxHeartbeats 4000000 in
set_option maxRecDepth 100000 in
theorem c_TL_numberOfNew (l : Launch) (G : pG) (h0 : Nat) (bS : Nat) (bR : Nat) (ad : Nat → Nat) (adL : Nat → Nat) (σ : tTL) (statement : Int32) (H : Heap) (w : va_W) (adS : Nat → Nat) (ss : tST) (vS : va_W) (hvS : va_P G.1 vwCl vS H) (hsS : pST G bS adS ss vS) (ap_ss : bk_ap w vS) (adR : Nat → Nat) (rr : tRW) (vR : va_W) (hvR : va_P G.1 vwCl vR H) (hrR : pRW G bR adR rr vR) (ap_rr : bk_ap w vR) (hP0 : va_P G.1 vwCl w H) (hD0 : va_D (fun _ => True) w) (hσ : pTL G h0 bS bR ad adL σ w) (res : Int32 × tTL) (hr0 : A_TL_numberOfNew σ ss rr statement = res) (Kt : Nat) (hk : K_TL_numberOfNew σ ss rr statement = Kt) (hKb : Kt ≤ 16777216) : MWi l y_TL_numberOfNew w_TL_numberOfNew 3 103 Kt G [.ref h0, .int statement] H w res.1 (pTL G h0 bS bR ad adL res.2) := by
  refine Met.ofW (cc := b_TL_numberOfNew) (maxL := 2) (ret := (some .int)) (by decide) rfl ?_
  intro p e s m args below meth c s₁ B hml hv
  obtain ⟨rfl, rfl, hK⟩ := hv
  have hx := B.exec
  have hb := B.bytes
  have hr := B.returns
  have hts0 := atoms_spec (ws := w_TL_numberOfNew) B.pre
  have hts := fun w (h : w ∈ lw_g) => hts0 w (List.mem_cons_of_mem _ h)
  have hown : s.vm.findClass RTL = some m.cls := findClass_of_methodNamed B.named
  have hlocks := B.notSynchronized
  have hA : ∀ q : Nat, s.heap.size ≤ q → va_A w s.heap.size q := fun _ h => Or.inr h
  have hro_ss := ro_A hvS ap_ss
  have hro_rr := ro_A hvR ap_rr
  have hB : bk G.1 vwCl (va_A w s.heap.size) [w] s.heap := bk_init hP0 hD0
  generalize va_A w s.heap.size = A at *
  have hS : va_S A s.heap s.heap [] := va_S.rf
  obtain ⟨w1, w3, w5, w7, w9, w11, w13, w15, w17, w19, rfl, h2, h4, h6, h8, h10, h12, h14, h16, h18, h20⟩ := hσ
  have hB := bk_many hB
  have hk : 0 + K_TL_numberOfNew σ ss rr statement = Kt := (Nat.zero_add _).trans hk
  have hl := lv_entry ([.ref h0, .int statement]) (n := 2) (Nat.le_of_ble_eq_true rfl)
  rw [lg_entry_eq]
  generalize (lg_sl ([.ref h0, .int statement]) ++ List.replicate (2 - (lg_sl ([.ref h0, .int statement])).length) Slot.unset).toArray = ls at hl ⊢
  have hl : lv_has ls 2 [(0, .ref h0), (1, .int statement)] := hl
  unfold A_TL_numberOfNew at hr0
  unfold K_TL_numberOfNew at hk
  refine lv_aload_n hx hb d_TL_numberOfNew_0 rfl (lv_at hl 0 rfl) ?_
  refine va_get (D := G.1) (ci := 4) (v := .ref bS) (C := RTL) (T := TTL) (N := 14) hx hb hts inTL hown hK hB.1 0 rfl rfl 0 (by decide) (hts _ fl_TL_9) (fun _ h9 => h9) rfl d_TL_numberOfNew_1 ?_
  refine lv_iload_n hx hb d_TL_numberOfNew_4 rfl (lv_at hl 1 rfl) ?_
  refine rdV (G := G) (As := [.int statement]) (rest := []) (C := RST) ⟨hx, hb, hml, hown, hts⟩ (c_ST_isMandatory l G bS adS ss statement _ _ (ro_keep hS hvS hro_ss) hsS _ rfl) (cwV 1 hts (gd_V ml_TL_146 im_ST_isMandatory sl_ST_isMandatory ini_ST k_ST_isMandatory) rfl rmK_c rmK_s (by decide +kernel) ⟨Nat.le_of_ble_eq_true rfl, Nat.le_of_ble_eq_true rfl⟩) hK (pST_recv hK (ro_keep hS hvS hro_ss) hsS) hS ⟨Nat.le.intro hk, Nat.le.intro hk⟩ rfl hl.1 (Nat.le_of_ble_eq_true rfl) d_TL_numberOfNew_5 (fun locs hS => ?_)
  refine lv_if_eq (tgt := 22) hx hb d_TL_numberOfNew_8 (by decide) (fun c21 => ?_) (fun c21 => ?_)
  · have hr0 := ai_pos c21 hr0
    have hk := ki_pos c21 hk
    refine lv_aload_n hx hb d_TL_numberOfNew_22 rfl (lv_at hl 0 rfl) ?_
    refine va_get (D := G.1) (ci := 4) (v := .ref (ad 2)) (C := RTL) (T := TTL) (N := 14) hx hb hts inTL hown hK hB.1 0 rfl rfl 4 (by decide) (hts _ fl_TL_29) (fun _ h9 => h9) rfl d_TL_numberOfNew_23 ?_
    refine lv_iload_n hx hb d_TL_numberOfNew_26 rfl (lv_at hl 1 rfl) ?_
    refine wrV (G := G) (k := 3) (As := [.int statement]) (rest := []) (C := RIL) ⟨hx, hb, hml, hown, hts⟩ (c_IL_add l G (ad 2) (gTL_labels σ) statement _ _ (bk_gP (k := 3) hB.1 rfl) (bk_own (k := 3) hB rfl) h6 _ rfl _ rfl (bk_ub hk hKb)) (cwV 1 hts (gd_V ml_TL_133 im_IL_add sl_IL_add ini_IL k_IL_add) rfl rmK_c rmK_s (by decide +kernel) ⟨Nat.le_of_ble_eq_true rfl, Nat.le_of_ble_eq_true rfl⟩) hK (pIL_recv hK (bk_gP (k := 3) hB.1 rfl) h6) hS hA hB rfl hk ⟨rfl, rfl⟩ rfl hl.1 (Nat.le_of_ble_eq_true rfl) d_TL_numberOfNew_27 (fun u22 H locs kc hu23 hB hS hk => ?_)
    have hB : bk G.1 vwCl A [[(h0, .inr (4, [.ref bS, .ref bR, .ref (ad 0), .ref (ad 1), .ref (ad 2), .ref (ad 3), .int (gTL_rowTold σ), .int (gTL_savedRows σ), .ref (ad 4), .ref (ad 5), .ref (ad 6), .ref (ad 7), .ref (ad 8), .ref (ad 9)]))], w1, w3, u22, w7, w9, w11, w13, w15, w17, w19] H := hB
    refine lv_aload_n hx hb d_TL_numberOfNew_30 rfl (lv_at hl 0 rfl) ?_
    refine va_get (D := G.1) (ci := 4) (v := .ref bS) (C := RTL) (T := TTL) (N := 14) hx hb hts inTL hown hK hB.1 0 rfl rfl 0 (by decide) (hts _ fl_TL_9) (fun _ h9 => h9) rfl d_TL_numberOfNew_31 ?_
    refine rdV (G := G) (As := []) (rest := []) (C := RST) ⟨hx, hb, hml, hown, hts⟩ (c_ST_mandatories l G bS adS ss _ _ (ro_keep hS hvS hro_ss) hsS _ rfl) (cwV 0 hts (gd_V ml_TL_152 im_ST_mandatories sl_ST_mandatories ini_ST k_ST_mandatories) rfl rmK_c rmK_s (by decide +kernel) ⟨Nat.le_of_ble_eq_true rfl, Nat.le_of_ble_eq_true rfl⟩) hK (pST_recv hK (ro_keep hS hvS hro_ss) hsS) hS ⟨Nat.le.intro hk, Nat.le.intro hk⟩ rfl hl.1 (Nat.le_of_ble_eq_true rfl) d_TL_numberOfNew_34 (fun locs hS => ?_)
    refine lv_aload_n hx hb d_TL_numberOfNew_37 rfl (lv_at hl 0 rfl) ?_
    refine va_get (D := G.1) (ci := 4) (v := .ref (ad 2)) (C := RTL) (T := TTL) (N := 14) hx hb hts inTL hown hK hB.1 0 rfl rfl 4 (by decide) (hts _ fl_TL_29) (fun _ h9 => h9) rfl d_TL_numberOfNew_38 ?_
    refine rdV (G := G) (As := []) (rest := [.int (A_ST_mandatories ss)]) (C := RIL) ⟨hx, hb, hml, hown, hts⟩ (c_IL_length l G (ad 2) (A_IL_add (gTL_labels σ) statement) _ _ (bk_gP (k := 3) hB.1 rfl) hu23 _ rfl) (cwV 0 hts (gd_V ml_TL_71 im_IL_length sl_IL_length ini_IL k_IL_length) rfl rmK_c rmK_s (by decide +kernel) ⟨Nat.le_of_ble_eq_true rfl, Nat.le_of_ble_eq_true rfl⟩) hK (pIL_recv hK (bk_gP (k := 3) hB.1 rfl) hu23) hS ⟨Nat.le.intro hk, Nat.le.intro hk⟩ rfl hl.1 (Nat.le_of_ble_eq_true rfl) d_TL_numberOfNew_41 (fun locs hS => ?_)
    refine lv_iadd hx hb d_TL_numberOfNew_44 ?_
    subst hr0
    refine W.widen (k := Kt) (n := Kt) (Nat.le.intro hk) (Nat.le.intro hk) ?_
    exact W.iret (v := ((A_ST_mandatories ss) + (A_IL_length (A_IL_add (gTL_labels σ) statement)))) hx hb hr (fun t ht hW => ⟨⟨((A_ST_mandatories ss) + (A_IL_length (A_IL_add (gTL_labels σ) statement))), [[(h0, .inr (4, [.ref bS, .ref bR, .ref (ad 0), .ref (ad 1), .ref (ad 2), .ref (ad 3), .int (gTL_rowTold σ), .int (gTL_savedRows σ), .ref (ad 4), .ref (ad 5), .ref (ad 6), .ref (ad 7), .ref (ad 8), .ref (ad 9)]))], w1, w3, u22, w7, w9, w11, w13, w15, w17, w19].flatten, rfl, ⟨rfl, ⟨w1, w3, u22, w7, w9, w11, w13, w15, w17, w19, rfl, h2, h4, hu23, h8, h10, h12, h14, h16, h18, h20⟩⟩, by rw [ht]; exact hB.1, hB.2⟩, hS.F ht⟩) hS.2.2 d_TL_numberOfNew_45
  · have hr0 := ai_neg c21 hr0
    have hk := ki_neg c21 hk
    refine lv_aload_n hx hb d_TL_numberOfNew_11 rfl (lv_at hl 0 rfl) ?_
    refine va_get (D := G.1) (ci := 4) (v := .ref bS) (C := RTL) (T := TTL) (N := 14) hx hb hts inTL hown hK hB.1 0 rfl rfl 0 (by decide) (hts _ fl_TL_9) (fun _ h9 => h9) rfl d_TL_numberOfNew_12 ?_
    refine lv_iload_n hx hb d_TL_numberOfNew_15 rfl (lv_at hl 1 rfl) ?_
    refine rdV (G := G) (As := [.int statement]) (rest := []) (C := RST) ⟨hx, hb, hml, hown, hts⟩ (c_ST_placeOf l G bS adS ss statement _ _ (ro_keep hS hvS hro_ss) hsS _ rfl) (cwV 1 hts (gd_V ml_TL_149 im_ST_placeOf sl_ST_placeOf ini_ST k_ST_placeOf) rfl rmK_c rmK_s (by decide +kernel) ⟨Nat.le_of_ble_eq_true rfl, Nat.le_of_ble_eq_true rfl⟩) hK (pST_recv hK (ro_keep hS hvS hro_ss) hsS) hS ⟨Nat.le.intro hk, Nat.le.intro hk⟩ rfl hl.1 (Nat.le_of_ble_eq_true rfl) d_TL_numberOfNew_16 (fun locs hS => ?_)
    refine lv_iconst (v := 1) hx hb d_TL_numberOfNew_19 (by decide) ?_
    refine lv_iadd hx hb d_TL_numberOfNew_20 ?_
    subst hr0
    refine W.widen (k := Kt) (n := Kt) (Nat.le.intro hk) (Nat.le.intro hk) ?_
    exact W.iret (v := ((A_ST_placeOf ss statement) + 1)) hx hb hr (fun t ht hW => ⟨⟨((A_ST_placeOf ss statement) + 1), [[(h0, .inr (4, [.ref bS, .ref bR, .ref (ad 0), .ref (ad 1), .ref (ad 2), .ref (ad 3), .int (gTL_rowTold σ), .int (gTL_savedRows σ), .ref (ad 4), .ref (ad 5), .ref (ad 6), .ref (ad 7), .ref (ad 8), .ref (ad 9)]))], w1, w3, w5, w7, w9, w11, w13, w15, w17, w19].flatten, rfl, ⟨rfl, ⟨w1, w3, w5, w7, w9, w11, w13, w15, w17, w19, rfl, h2, h4, h6, h8, h10, h12, h14, h16, h18, h20⟩⟩, by rw [ht]; exact hB.1, hB.2⟩, hS.F ht⟩) hS.2.2 d_TL_numberOfNew_21

theorem non_steps (σ : tTL) (ss : tST) (rr : tRW) (i : Int32) : gTL_steps (A_TL_numberOfNew σ ss rr i).2 = gTL_steps σ := by
  unfold A_TL_numberOfNew
  split <;> rfl
theorem non_stepsE {σ : tTL} {ss : tST} {rr : tRW} {i : Int32} {T : Int32 × tTL} (h : A_TL_numberOfNew σ ss rr i = T) : gTL_steps T.2 = gTL_steps σ := by
  rw [← h]
  exact non_steps σ ss rr i

def M_TL_numberStatements_L17 (ss : tST) (rr : tRW) (k : Int32) (τ : tTL) : Nat := ((A_IL_length (gTL_steps τ)).toInt - k.toInt).toNat
def A_TL_numberStatements_L17 (ss : tST) (rr : tRW) : Nat → Int32 → tTL → tTL
  | 0, _, τ => τ
  | n17 + 1, k, τ => if (A_IL_length (gTL_steps τ)) ≤ k then τ else (if (A_IL_at (gTL_steps τ) k) ≤ (-2) then (A_TL_numberStatements_L17 ss rr n17 (k + 1) τ) else (if (A_IL_at (gTL_numbers τ) (A_IL_at (gTL_steps τ) k)) = (-1) then (bnd (A_TL_numberOfNew τ ss rr (A_IL_at (gTL_steps τ) k)) (fun T47 => A_TL_numberStatements_L17 ss rr n17 (k + 1) (uTL_numbers T47.2 (A_IL_put (gTL_numbers T47.2) (A_IL_at (gTL_steps τ) k) T47.1)))) else (A_TL_numberStatements_L17 ss rr n17 (k + 1) τ)))
def K_TL_numberStatements_L17 (ss : tST) (rr : tRW) : Nat → Int32 → tTL → Nat
  | 0, _, _ => 0
  | n17 + 1, k, τ => if (A_IL_length (gTL_steps τ)) ≤ k then 0 else (if (A_IL_at (gTL_steps τ) k) ≤ (-2) then (K_TL_numberStatements_L17 ss rr n17 (k + 1) τ) else (if (A_IL_at (gTL_numbers τ) (A_IL_at (gTL_steps τ) k)) = (-1) then ((K_TL_numberOfNew τ ss rr (A_IL_at (gTL_steps τ) k)) + (bnd (A_TL_numberOfNew τ ss rr (A_IL_at (gTL_steps τ) k)) (fun T47 => K_TL_numberStatements_L17 ss rr n17 (k + 1) (uTL_numbers T47.2 (A_IL_put (gTL_numbers T47.2) (A_IL_at (gTL_steps τ) k) T47.1))))) else (K_TL_numberStatements_L17 ss rr n17 (k + 1) τ)))
def A_TL_numberStatements (σ : tTL) (ss : tST) (rr : tRW) : tTL := A_TL_numberStatements_L17 ss rr (M_TL_numberStatements_L17 ss rr 0 (uTL_numbers σ (A_IL_fill (gTL_numbers σ) (A_ST_amount ss) (-1))) + 1) 0 (uTL_numbers σ (A_IL_fill (gTL_numbers σ) (A_ST_amount ss) (-1)))
def K_TL_numberStatements (σ : tTL) (ss : tST) (rr : tRW) : Nat := (K_IL_fill (gTL_numbers σ) (A_ST_amount ss) (-1)) + (K_TL_numberStatements_L17 ss rr (M_TL_numberStatements_L17 ss rr 0 (uTL_numbers σ (A_IL_fill (gTL_numbers σ) (A_ST_amount ss) (-1))) + 1) 0 (uTL_numbers σ (A_IL_fill (gTL_numbers σ) (A_ST_amount ss) (-1))))
set_option maxHeartbeats 4000000 in
set_option maxRecDepth 100000 in
theorem c_TL_numberStatements (l : Launch) (G : pG) (h0 : Nat) (bS : Nat) (bR : Nat) (ad : Nat → Nat) (adL : Nat → Nat) (σ : tTL) (H : Heap) (w : va_W) (adS : Nat → Nat) (ss : tST) (vS : va_W) (hvS : va_P G.1 vwCl vS H) (hsS : pST G bS adS ss vS) (ap_ss : bk_ap w vS) (adR : Nat → Nat) (rr : tRW) (vR : va_W) (hvR : va_P G.1 vwCl vR H) (hrR : pRW G bR adR rr vR) (ap_rr : bk_ap w vR) (hP0 : va_P G.1 vwCl w H) (hD0 : va_D (fun _ => True) w) (hσ : pTL G h0 bS bR ad adL σ w) (res : tTL) (hr0 : A_TL_numberStatements σ ss rr = res) (Kt : Nat) (hk : K_TL_numberStatements σ ss rr = Kt) (hKb : Kt ≤ 16777216) : MWv l y_TL_numberStatements w_TL_numberStatements 4 126 Kt G [.ref h0] H w (pTL G h0 bS bR ad adL res) := by
  refine Met.ofW (cc := b_TL_numberStatements) (maxL := 3) (ret := none) (by decide) rfl ?_
  intro p e s m args below meth c s₁ B hml hv
  obtain ⟨rfl, rfl, hK⟩ := hv
  have hx := B.exec
  have hb := B.bytes
  have hr := B.returns
  have hts0 := atoms_spec (ws := w_TL_numberStatements) B.pre
  have hts := fun w (h : w ∈ lw_g) => hts0 w (List.mem_cons_of_mem _ h)
  have hown : s.vm.findClass RTL = some m.cls := findClass_of_methodNamed B.named
  have hlocks := B.notSynchronized
  have hA : ∀ q : Nat, s.heap.size ≤ q → va_A w s.heap.size q := fun _ h => Or.inr h
  have hro_ss := ro_A hvS ap_ss
  have hro_rr := ro_A hvR ap_rr
  have hB : bk G.1 vwCl (va_A w s.heap.size) [w] s.heap := bk_init hP0 hD0
  generalize va_A w s.heap.size = A at *
  have hS : va_S A s.heap s.heap [] := va_S.rf
  obtain ⟨w1, w3, w5, w7, w9, w11, w13, w15, w17, w19, rfl, h2, h4, h6, h8, h10, h12, h14, h16, h18, h20⟩ := hσ
  have hB := bk_many hB
  have hk : 0 + K_TL_numberStatements σ ss rr = Kt := (Nat.zero_add _).trans hk
  have hl := lv_entry ([.ref h0]) (n := 3) (Nat.le_of_ble_eq_true rfl)
  rw [lg_entry_eq]
  generalize (lg_sl ([.ref h0]) ++ List.replicate (3 - (lg_sl ([.ref h0])).length) Slot.unset).toArray = ls at hl ⊢
  have hl : lv_has ls 3 [(0, .ref h0)] := hl
  unfold A_TL_numberStatements at hr0
  unfold K_TL_numberStatements at hk
  refine lv_aload_n hx hb d_TL_numberStatements_0 rfl (lv_at hl 0 rfl) ?_
  refine va_get (D := G.1) (ci := 4) (v := .ref (ad 7)) (C := RTL) (T := TTL) (N := 14) hx hb hts inTL hown hK hB.1 0 rfl rfl 11 (by decide) (hts _ fl_TL_55) (fun _ h9 => h9) rfl d_TL_numberStatements_1 ?_
  refine lv_aload_n hx hb d_TL_numberStatements_4 rfl (lv_at hl 0 rfl) ?_
  refine va_get (D := G.1) (ci := 4) (v := .ref bS) (C := RTL) (T := TTL) (N := 14) hx hb hts inTL hown hK hB.1 0 rfl rfl 0 (by decide) (hts _ fl_TL_9) (fun _ h9 => h9) rfl d_TL_numberStatements_5 ?_
  refine rdV (G := G) (As := []) (rest := [.ref (ad 7)]) (C := RST) ⟨hx, hb, hml, hown, hts⟩ (c_ST_amount l G bS adS ss _ _ (ro_keep hS hvS hro_ss) hsS _ rfl) (cwV 0 hts (gd_V ml_TL_140 im_ST_amount sl_ST_amount ini_ST k_ST_amount) rfl rmK_c rmK_s (by decide +kernel) ⟨Nat.le_of_ble_eq_true rfl, Nat.le_of_ble_eq_true rfl⟩) hK (pST_recv hK (ro_keep hS hvS hro_ss) hsS) hS ⟨Nat.le.intro hk, Nat.le.intro hk⟩ rfl hl.1 (Nat.le_of_ble_eq_true rfl) d_TL_numberStatements_8 (fun locs hS => ?_)
  refine lv_iconst (v := (-1)) hx hb d_TL_numberStatements_11 (by decide) ?_
  refine wrV (G := G) (k := 8) (As := [.int (A_ST_amount ss), .int (-1)]) (rest := []) (C := RIL) ⟨hx, hb, hml, hown, hts⟩ (c_IL_fill l G (ad 7) (gTL_numbers σ) (A_ST_amount ss) (-1) _ _ (bk_gP (k := 8) hB.1 rfl) (bk_own (k := 8) hB rfl) h16 _ rfl _ rfl (bk_ub hk hKb)) (cwV 2 hts (gd_V ml_TL_103 im_IL_fill sl_IL_fill ini_IL k_IL_fill) rfl rmK_c rmK_s (by decide +kernel) ⟨Nat.le_of_ble_eq_true rfl, Nat.le_of_ble_eq_true rfl⟩) hK (pIL_recv hK (bk_gP (k := 8) hB.1 rfl) h16) hS hA hB rfl hk ⟨rfl, rfl⟩ rfl hl.1 (Nat.le_of_ble_eq_true rfl) d_TL_numberStatements_12 (fun u21 H locs kc hu22 hB hS hk => ?_)
  have hB : bk G.1 vwCl A [[(h0, .inr (4, [.ref bS, .ref bR, .ref (ad 0), .ref (ad 1), .ref (ad 2), .ref (ad 3), .int (gTL_rowTold σ), .int (gTL_savedRows σ), .ref (ad 4), .ref (ad 5), .ref (ad 6), .ref (ad 7), .ref (ad 8), .ref (ad 9)]))], w1, w3, w5, w7, w9, w11, w13, u21, w17, w19] H := hB
  refine lv_iconst (v := 0) hx hb d_TL_numberStatements_15 (by decide) ?_
  refine lv_istore_n (lv' := [(1, .int 0), (0, .ref h0)]) hx hb d_TL_numberStatements_16 rfl hl (by decide) rfl (fun ls hl => ?_)
  refine lp_W (I := fun n17 H locs kc ls => ∃ (k : Int32) (τ : tTL) (w : va_W), pTL G h0 bS bR ad adL τ w ∧ bk G.1 vwCl A [w] H ∧ va_S A s.heap H locs ∧ lv_has ls 3 [(0, .ref h0), (1, .int k)] ∧ A_TL_numberStatements_L17 ss rr n17 k τ = res ∧ kc + K_TL_numberStatements_L17 ss rr n17 k τ = Kt ∧ M_TL_numberStatements_L17 ss rr k τ < n17) ?_ ?_ (M_TL_numberStatements_L17 ss rr 0 (uTL_numbers σ (A_IL_fill (gTL_numbers σ) (A_ST_amount ss) (-1))) + 1) _ _ _ _ ⟨0, (uTL_numbers σ (A_IL_fill (gTL_numbers σ) (A_ST_amount ss) (-1))), _, ⟨w1, w3, w5, w7, w9, w11, w13, u21, w17, w19, rfl, h2, h4, h6, h8, h10, h12, h14, hu22, h18, h20⟩, bk_one hB, hS, lv_sub hl [1, 0] rfl, hr0, hk, Nat.lt_succ_self _⟩
  · intro n17 ih17 H locs kc ls ⟨k, τ, w, hτ, hB, hS, hl, hr0, hk, hm17⟩
    obtain ⟨w23, w25, w27, w29, w31, w33, w35, w37, w39, w41, rfl, h24, h26, h28, h30, h32, h34, h36, h38, h40, h42⟩ := hτ
    have hB := bk_many hB
    rw [A_TL_numberStatements_L17] at hr0
    rw [K_TL_numberStatements_L17] at hk
    refine lv_iload_n hx hb d_TL_numberStatements_17 rfl (lv_at hl 1 rfl) ?_
    refine lv_aload_n hx hb d_TL_numberStatements_18 rfl (lv_at hl 0 rfl) ?_
    refine va_get (D := G.1) (ci := 4) (v := .ref (ad 0)) (C := RTL) (T := TTL) (N := 14) hx hb hts inTL hown hK hB.1 0 rfl rfl 2 (by decide) (hts _ fl_TL_22) (fun _ h9 => h9) rfl d_TL_numberStatements_19 ?_
    refine rdV (G := G) (As := []) (rest := [.int k]) (C := RIL) ⟨hx, hb, hml, hown, hts⟩ (c_IL_length l G (ad 0) (gTL_steps τ) _ _ (bk_gP (k := 1) hB.1 rfl) h24 _ rfl) (cwV 0 hts (gd_V ml_TL_71 im_IL_length sl_IL_length ini_IL k_IL_length) rfl rmK_c rmK_s (by decide +kernel) ⟨Nat.le_of_ble_eq_true rfl, Nat.le_of_ble_eq_true rfl⟩) hK (pIL_recv hK (bk_gP (k := 1) hB.1 rfl) h24) hS ⟨Nat.le.intro hk, Nat.le.intro hk⟩ rfl hl.1 (Nat.le_of_ble_eq_true rfl) d_TL_numberStatements_22 (fun locs hS => ?_)
    refine lv_icmp_ge (tgt := 74) hx hb d_TL_numberStatements_25 (by decide) (fun c43 => ?_) (fun c43 => ?_)
    · have hr0 := ai_pos c43 hr0
      have hk := ki_pos c43 hk
      subst hr0
      refine W.widen (k := Kt) (n := Kt) (Nat.le.intro hk) (Nat.le.intro hk) ?_
      exact W.vret hx hb hr (fun t ht hW => ⟨⟨[[(h0, .inr (4, [.ref bS, .ref bR, .ref (ad 0), .ref (ad 1), .ref (ad 2), .ref (ad 3), .int (gTL_rowTold τ), .int (gTL_savedRows τ), .ref (ad 4), .ref (ad 5), .ref (ad 6), .ref (ad 7), .ref (ad 8), .ref (ad 9)]))], w23, w25, w27, w29, w31, w33, w35, w37, w39, w41].flatten, rfl, ⟨w23, w25, w27, w29, w31, w33, w35, w37, w39, w41, rfl, h24, h26, h28, h30, h32, h34, h36, h38, h40, h42⟩, by rw [ht]; exact hB.1, hB.2⟩, hS.F ht⟩) hS.2.2 d_TL_numberStatements_74
    · have hr0 := ai_neg c43 hr0
      have hk := ki_neg c43 hk
      refine lv_aload_n hx hb d_TL_numberStatements_28 rfl (lv_at hl 0 rfl) ?_
      refine va_get (D := G.1) (ci := 4) (v := .ref (ad 0)) (C := RTL) (T := TTL) (N := 14) hx hb hts inTL hown hK hB.1 0 rfl rfl 2 (by decide) (hts _ fl_TL_22) (fun _ h9 => h9) rfl d_TL_numberStatements_29 ?_
      refine lv_iload_n hx hb d_TL_numberStatements_32 rfl (lv_at hl 1 rfl) ?_
      refine rdV (G := G) (As := [.int k]) (rest := []) (C := RIL) ⟨hx, hb, hml, hown, hts⟩ (c_IL_at l G (ad 0) (gTL_steps τ) k _ _ (bk_gP (k := 1) hB.1 rfl) h24 _ rfl) (cwV 1 hts (gd_V ml_TL_78 im_IL_at sl_IL_at ini_IL k_IL_at) rfl rmK_c rmK_s (by decide +kernel) ⟨Nat.le_of_ble_eq_true rfl, Nat.le_of_ble_eq_true rfl⟩) hK (pIL_recv hK (bk_gP (k := 1) hB.1 rfl) h24) hS ⟨Nat.le.intro hk, Nat.le.intro hk⟩ rfl hl.1 (Nat.le_of_ble_eq_true rfl) d_TL_numberStatements_33 (fun locs hS => ?_)
      refine lv_istore_n (lv' := [(2, .int (A_IL_at (gTL_steps τ) k)), (0, .ref h0), (1, .int k)]) hx hb d_TL_numberStatements_36 rfl hl (by decide) rfl (fun ls hl => ?_)
      refine lv_iload_n hx hb d_TL_numberStatements_37 rfl (lv_at hl 0 rfl) ?_
      refine lv_bipush (v := (-2)) hx hb d_TL_numberStatements_38 (by decide) ?_
      refine lv_icmp_le (tgt := 68) hx hb d_TL_numberStatements_40 (by decide) (fun c44 => ?_) (fun c44 => ?_)
      · have hr0 := ai_pos c44 hr0
        have hk := ki_pos c44 hk
        refine lv_iinc (v := k + 1) (lv' := [(1, .int (k + 1)), (2, .int (A_IL_at (gTL_steps τ) k)), (0, .ref h0)]) hx hb d_TL_numberStatements_68 hl (k := 2) rfl rfl (by decide) rfl (fun ls hl => ?_)
        refine lv_goto (tgt := 17) hx hb d_TL_numberStatements_71 (by decide) ?_
        exact ih17 _ _ _ _ ⟨(k + 1), τ, _, ⟨w23, w25, w27, w29, w31, w33, w35, w37, w39, w41, rfl, h24, h26, h28, h30, h32, h34, h36, h38, h40, h42⟩, bk_one hB, hS, lv_sub hl [2, 0] rfl, hr0, hk, up_dec c43 hm17⟩
      · have hr0 := ai_neg c44 hr0
        have hk := ki_neg c44 hk
        refine lv_aload_n hx hb d_TL_numberStatements_43 rfl (lv_at hl 1 rfl) ?_
        refine va_get (D := G.1) (ci := 4) (v := .ref (ad 7)) (C := RTL) (T := TTL) (N := 14) hx hb hts inTL hown hK hB.1 0 rfl rfl 11 (by decide) (hts _ fl_TL_55) (fun _ h9 => h9) rfl d_TL_numberStatements_44 ?_
        refine lv_iload_n hx hb d_TL_numberStatements_47 rfl (lv_at hl 0 rfl) ?_
        refine rdV (G := G) (As := [.int (A_IL_at (gTL_steps τ) k)]) (rest := []) (C := RIL) ⟨hx, hb, hml, hown, hts⟩ (c_IL_at l G (ad 7) (gTL_numbers τ) (A_IL_at (gTL_steps τ) k) _ _ (bk_gP (k := 8) hB.1 rfl) h38 _ rfl) (cwV 1 hts (gd_V ml_TL_78 im_IL_at sl_IL_at ini_IL k_IL_at) rfl rmK_c rmK_s (by decide +kernel) ⟨Nat.le_of_ble_eq_true rfl, Nat.le_of_ble_eq_true rfl⟩) hK (pIL_recv hK (bk_gP (k := 8) hB.1 rfl) h38) hS ⟨Nat.le.intro hk, Nat.le.intro hk⟩ rfl hl.1 (Nat.le_of_ble_eq_true rfl) d_TL_numberStatements_48 (fun locs hS => ?_)
        refine lv_iconst (v := (-1)) hx hb d_TL_numberStatements_51 (by decide) ?_
        refine lv_icmp_ne (tgt := 68) hx hb d_TL_numberStatements_52 (by decide) (fun c45 => ?_) (fun c45 => ?_)
        · have hr0 := ai_neg c45 hr0
          have hk := ki_neg c45 hk
          refine lv_iinc (v := k + 1) (lv' := [(1, .int (k + 1)), (2, .int (A_IL_at (gTL_steps τ) k)), (0, .ref h0)]) hx hb d_TL_numberStatements_68 hl (k := 2) rfl rfl (by decide) rfl (fun ls hl => ?_)
          refine lv_goto (tgt := 17) hx hb d_TL_numberStatements_71 (by decide) ?_
          exact ih17 _ _ _ _ ⟨(k + 1), τ, _, ⟨w23, w25, w27, w29, w31, w33, w35, w37, w39, w41, rfl, h24, h26, h28, h30, h32, h34, h36, h38, h40, h42⟩, bk_one hB, hS, lv_sub hl [2, 0] rfl, hr0, hk, up_dec c43 hm17⟩
        · have hr0 := ai_pos c45 hr0
          have hk := ki_pos c45 hk
          refine lv_aload_n hx hb d_TL_numberStatements_55 rfl (lv_at hl 1 rfl) ?_
          refine va_get (D := G.1) (ci := 4) (v := .ref (ad 7)) (C := RTL) (T := TTL) (N := 14) hx hb hts inTL hown hK hB.1 0 rfl rfl 11 (by decide) (hts _ fl_TL_55) (fun _ h9 => h9) rfl d_TL_numberStatements_56 ?_
          refine lv_iload_n hx hb d_TL_numberStatements_59 rfl (lv_at hl 0 rfl) ?_
          refine lv_aload_n hx hb d_TL_numberStatements_60 rfl (lv_at hl 1 rfl) ?_
          refine lv_iload_n hx hb d_TL_numberStatements_61 rfl (lv_at hl 0 rfl) ?_
          have hB := bk_one hB
          have hpk46 : pTL G h0 bS bR ad adL τ ([[(h0, .inr (4, [.ref bS, .ref bR, .ref (ad 0), .ref (ad 1), .ref (ad 2), .ref (ad 3), .int (gTL_rowTold τ), .int (gTL_savedRows τ), .ref (ad 4), .ref (ad 5), .ref (ad 6), .ref (ad 7), .ref (ad 8), .ref (ad 9)]))], w23, w25, w27, w29, w31, w33, w35, w37, w39, w41].flatten) := ⟨w23, w25, w27, w29, w31, w33, w35, w37, w39, w41, rfl, h24, h26, h28, h30, h32, h34, h36, h38, h40, h42⟩
          obtain ⟨T47, hT48⟩ : ∃ z, A_TL_numberOfNew τ ss rr (A_IL_at (gTL_steps τ) k) = z := ⟨_, rfl⟩
          refine wrVi (G := G) (k := 0) (As := [.int (A_IL_at (gTL_steps τ) k)]) (rest := [.int (A_IL_at (gTL_steps τ) k), .ref (ad 7)]) (C := RTL) ⟨hx, hb, hml, hown, hts⟩ (c_TL_numberOfNew l G h0 bS bR ad adL τ (A_IL_at (gTL_steps τ) k) _ _ adS ss _ (ro_keep hS hvS hro_ss) hsS (bk_apA (k := 0) hB rfl hro_ss) adR rr _ (ro_keep hS hvR hro_rr) hrR (bk_apA (k := 0) hB rfl hro_rr) (bk_gP (k := 0) hB.1 rfl) (bk_own (k := 0) hB rfl) hpk46 T47 hT48 _ rfl (bk_ub hk hKb)) (cwV 1 hts (gd_V ml_TL_143 im_TL_numberOfNew sl_TL_numberOfNew ini_TL k_TL_numberOfNew) rfl rmK_c rmK_s (by decide +kernel) ⟨Nat.le_of_ble_eq_true rfl, Nat.le_of_ble_eq_true rfl⟩) hK (pTL_recv hK (bk_gP (k := 0) hB.1 rfl) hpk46) hS hA hB rfl hk ⟨rfl, rfl⟩ rfl hl.1 (Nat.le_of_ble_eq_true rfl) d_TL_numberStatements_62 (fun u49 H locs kc hu50 hB hS hk => ?_)
          have hr0 := bnd_e hT48 hr0
          have hk := bnd_k hT48 hk
          have hB : bk G.1 vwCl A [u49] H := hB
          obtain ⟨w51, w53, w55, w57, w59, w61, w63, w65, w67, w69, rfl, h52, h54, h56, h58, h60, h62, h64, h66, h68, h70⟩ := hu50
          have hB : bk G.1 vwCl A [[(h0, .inr (4, [.ref bS, .ref bR, .ref (ad 0), .ref (ad 1), .ref (ad 2), .ref (ad 3), .int (gTL_rowTold T47.2), .int (gTL_savedRows T47.2), .ref (ad 4), .ref (ad 5), .ref (ad 6), .ref (ad 7), .ref (ad 8), .ref (ad 9)]))], w51, w53, w55, w57, w59, w61, w63, w65, w67, w69] H := bk_many hB
          refine wrV0 (G := G) (k := 8) (As := [.int (A_IL_at (gTL_steps τ) k), .int T47.1]) (rest := []) (C := RIL) ⟨hx, hb, hml, hown, hts⟩ (c_IL_put l G (ad 7) (gTL_numbers T47.2) (A_IL_at (gTL_steps τ) k) T47.1 _ _ (bk_gP (k := 8) hB.1 rfl) (bk_own (k := 8) hB rfl) h66 _ rfl) (cwV 2 hts (gd_V ml_TL_114 im_IL_put sl_IL_put ini_IL k_IL_put) rfl rmK_c rmK_s (by decide +kernel) ⟨Nat.le_of_ble_eq_true rfl, Nat.le_of_ble_eq_true rfl⟩) hK (pIL_recv hK (bk_gP (k := 8) hB.1 rfl) h66) hS hA hB rfl hk ⟨rfl, rfl⟩ rfl hl.1 (Nat.le_of_ble_eq_true rfl) d_TL_numberStatements_65 (fun u71 H locs hu72 hB hS => ?_)
          have hB : bk G.1 vwCl A [[(h0, .inr (4, [.ref bS, .ref bR, .ref (ad 0), .ref (ad 1), .ref (ad 2), .ref (ad 3), .int (gTL_rowTold T47.2), .int (gTL_savedRows T47.2), .ref (ad 4), .ref (ad 5), .ref (ad 6), .ref (ad 7), .ref (ad 8), .ref (ad 9)]))], w51, w53, w55, w57, w59, w61, w63, u71, w67, w69] H := hB
          refine lv_iinc (v := k + 1) (lv' := [(1, .int (k + 1)), (2, .int (A_IL_at (gTL_steps τ) k)), (0, .ref h0)]) hx hb d_TL_numberStatements_68 hl (k := 2) rfl rfl (by decide) rfl (fun ls hl => ?_)
          refine lv_goto (tgt := 17) hx hb d_TL_numberStatements_71 (by decide) ?_
          exact ih17 _ _ _ _ ⟨(k + 1), (uTL_numbers T47.2 (A_IL_put (gTL_numbers T47.2) (A_IL_at (gTL_steps τ) k) T47.1)), _, ⟨w51, w53, w55, w57, w59, w61, w63, u71, w67, w69, rfl, h52, h54, h56, h58, h60, h62, h64, hu72, h68, h70⟩, bk_one hB, hS, lv_sub hl [2, 0] rfl, hr0, hk, up_decE c43 hm17 (congrArg A_IL_length (non_stepsE hT48))⟩
  · rintro H locs kc ls ⟨_, _, _, -, -, -, -, -, -, hz⟩; exact Nat.not_lt_zero _ hz

def M_TL_tellLetters_L20 (ss : tST) (rr : tRW) (behindLabels : Int32) (k : Int32) (τ : tTL) : Nat := ((A_IL_length (gTL_steps τ)).toInt - k.toInt).toNat
def A_TL_tellLetters_L20 (ss : tST) (rr : tRW) (behindLabels : Int32) : Nat → Int32 → tTL → tTL
  | 0, _, τ => τ
  | n20 + 1, k, τ => if (A_IL_length (gTL_steps τ)) ≤ k then τ else (if (-2) < (A_IL_at (gTL_steps τ) k) then (bnd (A_LL_addNumber (gTL_letters τ) (A_IL_at (gTL_numbers τ) (A_IL_at (gTL_steps τ) k))) (fun T43 => if (A_TL_isSavedAt (uTL_letters τ T43) k) = 0 then (A_TL_tellLetters_L20 ss rr behindLabels n20 (k + 1) (uTL_letters τ T43)) else (bnd (A_LL_addMark T43) (fun T49 => A_TL_tellLetters_L20 ss rr behindLabels n20 (k + 1) (uTL_letters (uTL_letters τ T43) T49))))) else (bnd (A_LL_addNumber (gTL_letters τ) ((behindLabels + (-2)) - (A_IL_at (gTL_steps τ) k))) (fun T53 => if (A_TL_isSavedAt (uTL_letters τ T53) k) = 0 then (A_TL_tellLetters_L20 ss rr behindLabels n20 (k + 1) (uTL_letters τ T53)) else (bnd (A_LL_addMark T53) (fun T59 => A_TL_tellLetters_L20 ss rr behindLabels n20 (k + 1) (uTL_letters (uTL_letters τ T53) T59))))))
def K_TL_tellLetters_L20 (ss : tST) (rr : tRW) (behindLabels : Int32) : Nat → Int32 → tTL → Nat
  | 0, _, _ => 0
  | n20 + 1, k, τ => if (A_IL_length (gTL_steps τ)) ≤ k then 0 else (if (-2) < (A_IL_at (gTL_steps τ) k) then ((K_LL_addNumber (gTL_letters τ) (A_IL_at (gTL_numbers τ) (A_IL_at (gTL_steps τ) k))) + (bnd (A_LL_addNumber (gTL_letters τ) (A_IL_at (gTL_numbers τ) (A_IL_at (gTL_steps τ) k))) (fun T43 => if (A_TL_isSavedAt (uTL_letters τ T43) k) = 0 then (K_TL_tellLetters_L20 ss rr behindLabels n20 (k + 1) (uTL_letters τ T43)) else ((K_LL_addMark T43) + (bnd (A_LL_addMark T43) (fun T49 => K_TL_tellLetters_L20 ss rr behindLabels n20 (k + 1) (uTL_letters (uTL_letters τ T43) T49))))))) else ((K_LL_addNumber (gTL_letters τ) ((behindLabels + (-2)) - (A_IL_at (gTL_steps τ) k))) + (bnd (A_LL_addNumber (gTL_letters τ) ((behindLabels + (-2)) - (A_IL_at (gTL_steps τ) k))) (fun T53 => if (A_TL_isSavedAt (uTL_letters τ T53) k) = 0 then (K_TL_tellLetters_L20 ss rr behindLabels n20 (k + 1) (uTL_letters τ T53)) else ((K_LL_addMark T53) + (bnd (A_LL_addMark T53) (fun T59 => K_TL_tellLetters_L20 ss rr behindLabels n20 (k + 1) (uTL_letters (uTL_letters τ T53) T59))))))))
def A_TL_tellLetters (σ : tTL) (ss : tST) (rr : tRW) : tTL := A_TL_tellLetters_L20 ss rr (((A_ST_mandatories ss) + (A_IL_length (gTL_labels σ))) + 1) (M_TL_tellLetters_L20 ss rr (((A_ST_mandatories ss) + (A_IL_length (gTL_labels σ))) + 1) 0 σ + 1) 0 σ
def K_TL_tellLetters (σ : tTL) (ss : tST) (rr : tRW) : Nat := K_TL_tellLetters_L20 ss rr (((A_ST_mandatories ss) + (A_IL_length (gTL_labels σ))) + 1) (M_TL_tellLetters_L20 ss rr (((A_ST_mandatories ss) + (A_IL_length (gTL_labels σ))) + 1) 0 σ + 1) 0 σ
set_option maxHeartbeats 4000000 in
set_option maxRecDepth 100000 in
theorem c_TL_tellLetters (l : Launch) (G : pG) (h0 : Nat) (bS : Nat) (bR : Nat) (ad : Nat → Nat) (adL : Nat → Nat) (σ : tTL) (H : Heap) (w : va_W) (adS : Nat → Nat) (ss : tST) (vS : va_W) (hvS : va_P G.1 vwCl vS H) (hsS : pST G bS adS ss vS) (ap_ss : bk_ap w vS) (adR : Nat → Nat) (rr : tRW) (vR : va_W) (hvR : va_P G.1 vwCl vR H) (hrR : pRW G bR adR rr vR) (ap_rr : bk_ap w vR) (hP0 : va_P G.1 vwCl w H) (hD0 : va_D (fun _ => True) w) (hσ : pTL G h0 bS bR ad adL σ w) (res : tTL) (hr0 : A_TL_tellLetters σ ss rr = res) (Kt : Nat) (hk : K_TL_tellLetters σ ss rr = Kt) (hKb : Kt ≤ 16777216) : MWv l y_TL_tellLetters w_TL_tellLetters 4 127 Kt G [.ref h0] H w (pTL G h0 bS bR ad adL res) := by
  refine Met.ofW (cc := b_TL_tellLetters) (maxL := 4) (ret := none) (by decide) rfl ?_
  intro p e s m args below meth c s₁ B hml hv
  obtain ⟨rfl, rfl, hK⟩ := hv
  have hx := B.exec
  have hb := B.bytes
  have hr := B.returns
  have hts0 := atoms_spec (ws := w_TL_tellLetters) B.pre
  have hts := fun w (h : w ∈ lw_g) => hts0 w (List.mem_cons_of_mem _ h)
  have hown : s.vm.findClass RTL = some m.cls := findClass_of_methodNamed B.named
  have hlocks := B.notSynchronized
  have hA : ∀ q : Nat, s.heap.size ≤ q → va_A w s.heap.size q := fun _ h => Or.inr h
  have hro_ss := ro_A hvS ap_ss
  have hro_rr := ro_A hvR ap_rr
  have hB : bk G.1 vwCl (va_A w s.heap.size) [w] s.heap := bk_init hP0 hD0
  generalize va_A w s.heap.size = A at *
  have hS : va_S A s.heap s.heap [] := va_S.rf
  obtain ⟨w1, w3, w5, w7, w9, w11, w13, w15, w17, w19, rfl, h2, h4, h6, h8, h10, h12, h14, h16, h18, h20⟩ := hσ
  have hB := bk_many hB
  have hk : 0 + K_TL_tellLetters σ ss rr = Kt := (Nat.zero_add _).trans hk
  have hl := lv_entry ([.ref h0]) (n := 4) (Nat.le_of_ble_eq_true rfl)
  rw [lg_entry_eq]
  generalize (lg_sl ([.ref h0]) ++ List.replicate (4 - (lg_sl ([.ref h0])).length) Slot.unset).toArray = ls at hl ⊢
  have hl : lv_has ls 4 [(0, .ref h0)] := hl
  unfold A_TL_tellLetters at hr0
  unfold K_TL_tellLetters at hk
  refine lv_aload_n hx hb d_TL_tellLetters_0 rfl (lv_at hl 0 rfl) ?_
  refine va_get (D := G.1) (ci := 4) (v := .ref bS) (C := RTL) (T := TTL) (N := 14) hx hb hts inTL hown hK hB.1 0 rfl rfl 0 (by decide) (hts _ fl_TL_9) (fun _ h9 => h9) rfl d_TL_tellLetters_1 ?_
  refine rdV (G := G) (As := []) (rest := []) (C := RST) ⟨hx, hb, hml, hown, hts⟩ (c_ST_mandatories l G bS adS ss _ _ (ro_keep hS hvS hro_ss) hsS _ rfl) (cwV 0 hts (gd_V ml_TL_152 im_ST_mandatories sl_ST_mandatories ini_ST k_ST_mandatories) rfl rmK_c rmK_s (by decide +kernel) ⟨Nat.le_of_ble_eq_true rfl, Nat.le_of_ble_eq_true rfl⟩) hK (pST_recv hK (ro_keep hS hvS hro_ss) hsS) hS ⟨Nat.le.intro hk, Nat.le.intro hk⟩ rfl hl.1 (Nat.le_of_ble_eq_true rfl) d_TL_tellLetters_4 (fun locs hS => ?_)
  refine lv_aload_n hx hb d_TL_tellLetters_7 rfl (lv_at hl 0 rfl) ?_
  refine va_get (D := G.1) (ci := 4) (v := .ref (ad 2)) (C := RTL) (T := TTL) (N := 14) hx hb hts inTL hown hK hB.1 0 rfl rfl 4 (by decide) (hts _ fl_TL_29) (fun _ h9 => h9) rfl d_TL_tellLetters_8 ?_
  refine rdV (G := G) (As := []) (rest := [.int (A_ST_mandatories ss)]) (C := RIL) ⟨hx, hb, hml, hown, hts⟩ (c_IL_length l G (ad 2) (gTL_labels σ) _ _ (bk_gP (k := 3) hB.1 rfl) h6 _ rfl) (cwV 0 hts (gd_V ml_TL_71 im_IL_length sl_IL_length ini_IL k_IL_length) rfl rmK_c rmK_s (by decide +kernel) ⟨Nat.le_of_ble_eq_true rfl, Nat.le_of_ble_eq_true rfl⟩) hK (pIL_recv hK (bk_gP (k := 3) hB.1 rfl) h6) hS ⟨Nat.le.intro hk, Nat.le.intro hk⟩ rfl hl.1 (Nat.le_of_ble_eq_true rfl) d_TL_tellLetters_11 (fun locs hS => ?_)
  refine lv_iadd hx hb d_TL_tellLetters_14 ?_
  refine lv_iconst (v := 1) hx hb d_TL_tellLetters_15 (by decide) ?_
  refine lv_iadd hx hb d_TL_tellLetters_16 ?_
  refine lv_istore_n (lv' := [(1, .int (((A_ST_mandatories ss) + (A_IL_length (gTL_labels σ))) + 1)), (0, .ref h0)]) hx hb d_TL_tellLetters_17 rfl hl (by decide) rfl (fun ls hl => ?_)
  refine lv_iconst (v := 0) hx hb d_TL_tellLetters_18 (by decide) ?_
  refine lv_istore_n (lv' := [(2, .int 0), (1, .int (((A_ST_mandatories ss) + (A_IL_length (gTL_labels σ))) + 1)), (0, .ref h0)]) hx hb d_TL_tellLetters_19 rfl hl (by decide) rfl (fun ls hl => ?_)
  refine lp_W (I := fun n20 H locs kc ls => ∃ (k : Int32) (τ : tTL) (w : va_W), pTL G h0 bS bR ad adL τ w ∧ bk G.1 vwCl A [w] H ∧ va_S A s.heap H locs ∧ lv_has ls 4 [(0, .ref h0), (1, .int (((A_ST_mandatories ss) + (A_IL_length (gTL_labels σ))) + 1)), (2, .int k)] ∧ A_TL_tellLetters_L20 ss rr (((A_ST_mandatories ss) + (A_IL_length (gTL_labels σ))) + 1) n20 k τ = res ∧ kc + K_TL_tellLetters_L20 ss rr (((A_ST_mandatories ss) + (A_IL_length (gTL_labels σ))) + 1) n20 k τ = Kt ∧ M_TL_tellLetters_L20 ss rr (((A_ST_mandatories ss) + (A_IL_length (gTL_labels σ))) + 1) k τ < n20) ?_ ?_ (M_TL_tellLetters_L20 ss rr (((A_ST_mandatories ss) + (A_IL_length (gTL_labels σ))) + 1) 0 σ + 1) _ _ _ _ ⟨0, σ, _, ⟨w1, w3, w5, w7, w9, w11, w13, w15, w17, w19, rfl, h2, h4, h6, h8, h10, h12, h14, h16, h18, h20⟩, bk_one hB, hS, lv_sub hl [2, 1, 0] rfl, hr0, hk, Nat.lt_succ_self _⟩
  · intro n20 ih20 H locs kc ls ⟨k, τ, w, hτ, hB, hS, hl, hr0, hk, hm20⟩
    obtain ⟨w21, w23, w25, w27, w29, w31, w33, w35, w37, w39, rfl, h22, h24, h26, h28, h30, h32, h34, h36, h38, h40⟩ := hτ
    have hB := bk_many hB
    rw [A_TL_tellLetters_L20] at hr0
    rw [K_TL_tellLetters_L20] at hk
    refine lv_iload_n hx hb d_TL_tellLetters_20 rfl (lv_at hl 2 rfl) ?_
    refine lv_aload_n hx hb d_TL_tellLetters_21 rfl (lv_at hl 0 rfl) ?_
    refine va_get (D := G.1) (ci := 4) (v := .ref (ad 0)) (C := RTL) (T := TTL) (N := 14) hx hb hts inTL hown hK hB.1 0 rfl rfl 2 (by decide) (hts _ fl_TL_22) (fun _ h9 => h9) rfl d_TL_tellLetters_22 ?_
    refine rdV (G := G) (As := []) (rest := [.int k]) (C := RIL) ⟨hx, hb, hml, hown, hts⟩ (c_IL_length l G (ad 0) (gTL_steps τ) _ _ (bk_gP (k := 1) hB.1 rfl) h22 _ rfl) (cwV 0 hts (gd_V ml_TL_71 im_IL_length sl_IL_length ini_IL k_IL_length) rfl rmK_c rmK_s (by decide +kernel) ⟨Nat.le_of_ble_eq_true rfl, Nat.le_of_ble_eq_true rfl⟩) hK (pIL_recv hK (bk_gP (k := 1) hB.1 rfl) h22) hS ⟨Nat.le.intro hk, Nat.le.intro hk⟩ rfl hl.1 (Nat.le_of_ble_eq_true rfl) d_TL_tellLetters_25 (fun locs hS => ?_)
    refine lv_icmp_ge (tgt := 98) hx hb d_TL_tellLetters_28 (by decide) (fun c41 => ?_) (fun c41 => ?_)
    · have hr0 := ai_pos c41 hr0
      have hk := ki_pos c41 hk
      subst hr0
      refine W.widen (k := Kt) (n := Kt) (Nat.le.intro hk) (Nat.le.intro hk) ?_
      exact W.vret hx hb hr (fun t ht hW => ⟨⟨[[(h0, .inr (4, [.ref bS, .ref bR, .ref (ad 0), .ref (ad 1), .ref (ad 2), .ref (ad 3), .int (gTL_rowTold τ), .int (gTL_savedRows τ), .ref (ad 4), .ref (ad 5), .ref (ad 6), .ref (ad 7), .ref (ad 8), .ref (ad 9)]))], w21, w23, w25, w27, w29, w31, w33, w35, w37, w39].flatten, rfl, ⟨w21, w23, w25, w27, w29, w31, w33, w35, w37, w39, rfl, h22, h24, h26, h28, h30, h32, h34, h36, h38, h40⟩, by rw [ht]; exact hB.1, hB.2⟩, hS.F ht⟩) hS.2.2 d_TL_tellLetters_98
    · have hr0 := ai_neg c41 hr0
      have hk := ki_neg c41 hk
      refine lv_aload_n hx hb d_TL_tellLetters_31 rfl (lv_at hl 0 rfl) ?_
      refine va_get (D := G.1) (ci := 4) (v := .ref (ad 0)) (C := RTL) (T := TTL) (N := 14) hx hb hts inTL hown hK hB.1 0 rfl rfl 2 (by decide) (hts _ fl_TL_22) (fun _ h9 => h9) rfl d_TL_tellLetters_32 ?_
      refine lv_iload_n hx hb d_TL_tellLetters_35 rfl (lv_at hl 2 rfl) ?_
      refine rdV (G := G) (As := [.int k]) (rest := []) (C := RIL) ⟨hx, hb, hml, hown, hts⟩ (c_IL_at l G (ad 0) (gTL_steps τ) k _ _ (bk_gP (k := 1) hB.1 rfl) h22 _ rfl) (cwV 1 hts (gd_V ml_TL_78 im_IL_at sl_IL_at ini_IL k_IL_at) rfl rmK_c rmK_s (by decide +kernel) ⟨Nat.le_of_ble_eq_true rfl, Nat.le_of_ble_eq_true rfl⟩) hK (pIL_recv hK (bk_gP (k := 1) hB.1 rfl) h22) hS ⟨Nat.le.intro hk, Nat.le.intro hk⟩ rfl hl.1 (Nat.le_of_ble_eq_true rfl) d_TL_tellLetters_36 (fun locs hS => ?_)
      refine lv_istore_n (lv' := [(3, .int (A_IL_at (gTL_steps τ) k)), (0, .ref h0), (1, .int (((A_ST_mandatories ss) + (A_IL_length (gTL_labels σ))) + 1)), (2, .int k)]) hx hb d_TL_tellLetters_39 rfl hl (by decide) rfl (fun ls hl => ?_)
      refine lv_iload_n hx hb d_TL_tellLetters_40 rfl (lv_at hl 0 rfl) ?_
      refine lv_bipush (v := (-2)) hx hb d_TL_tellLetters_41 (by decide) ?_
      refine lv_icmp_gt (tgt := 62) hx hb d_TL_tellLetters_43 (by decide) (fun c42 => ?_) (fun c42 => ?_)
      · have hr0 := ai_pos c42 hr0
        have hk := ki_pos c42 hk
        refine lv_aload_n hx hb d_TL_tellLetters_62 rfl (lv_at hl 1 rfl) ?_
        refine va_get (D := G.1) (ci := 4) (v := .ref (ad 3)) (C := RTL) (T := TTL) (N := 14) hx hb hts inTL hown hK hB.1 0 rfl rfl 5 (by decide) (hts _ fl_TL_35) (fun _ h9 => h9) rfl d_TL_tellLetters_63 ?_
        refine lv_aload_n hx hb d_TL_tellLetters_66 rfl (lv_at hl 1 rfl) ?_
        refine va_get (D := G.1) (ci := 4) (v := .ref (ad 7)) (C := RTL) (T := TTL) (N := 14) hx hb hts inTL hown hK hB.1 0 rfl rfl 11 (by decide) (hts _ fl_TL_55) (fun _ h9 => h9) rfl d_TL_tellLetters_67 ?_
        refine lv_iload_n hx hb d_TL_tellLetters_70 rfl (lv_at hl 0 rfl) ?_
        refine rdV (G := G) (As := [.int (A_IL_at (gTL_steps τ) k)]) (rest := [.ref (ad 3)]) (C := RIL) ⟨hx, hb, hml, hown, hts⟩ (c_IL_at l G (ad 7) (gTL_numbers τ) (A_IL_at (gTL_steps τ) k) _ _ (bk_gP (k := 8) hB.1 rfl) h36 _ rfl) (cwV 1 hts (gd_V ml_TL_78 im_IL_at sl_IL_at ini_IL k_IL_at) rfl rmK_c rmK_s (by decide +kernel) ⟨Nat.le_of_ble_eq_true rfl, Nat.le_of_ble_eq_true rfl⟩) hK (pIL_recv hK (bk_gP (k := 8) hB.1 rfl) h36) hS ⟨Nat.le.intro hk, Nat.le.intro hk⟩ rfl hl.1 (Nat.le_of_ble_eq_true rfl) d_TL_tellLetters_71 (fun locs hS => ?_)
        obtain ⟨T43, hT44⟩ : ∃ z, A_LL_addNumber (gTL_letters τ) (A_IL_at (gTL_numbers τ) (A_IL_at (gTL_steps τ) k)) = z := ⟨_, rfl⟩
        refine wrV (G := G) (k := 4) (As := [.int (A_IL_at (gTL_numbers τ) (A_IL_at (gTL_steps τ) k))]) (rest := []) (C := RLL) ⟨hx, hb, hml, hown, hts⟩ (c_LL_addNumber l G (ad 3) adL (gTL_letters τ) (A_IL_at (gTL_numbers τ) (A_IL_at (gTL_steps τ) k)) _ _ (bk_gP (k := 4) hB.1 rfl) (bk_own (k := 4) hB rfl) h28 T43 hT44 _ rfl (bk_ub hk hKb)) (cwV 1 hts (gd_V ml_TL_155 im_LL_addNumber sl_LL_addNumber ini_LL k_LL_addNumber) rfl rmK_c rmK_s (by decide +kernel) ⟨Nat.le_of_ble_eq_true rfl, Nat.le_of_ble_eq_true rfl⟩) hK (pLL_recv hK (bk_gP (k := 4) hB.1 rfl) h28) hS hA hB rfl hk ⟨rfl, rfl⟩ rfl hl.1 (Nat.le_of_ble_eq_true rfl) d_TL_tellLetters_74 (fun u45 H locs kc hu46 hB hS hk => ?_)
        have hr0 := bnd_e hT44 hr0
        have hk := bnd_k hT44 hk
        have hB : bk G.1 vwCl A [[(h0, .inr (4, [.ref bS, .ref bR, .ref (ad 0), .ref (ad 1), .ref (ad 2), .ref (ad 3), .int (gTL_rowTold τ), .int (gTL_savedRows τ), .ref (ad 4), .ref (ad 5), .ref (ad 6), .ref (ad 7), .ref (ad 8), .ref (ad 9)]))], w21, w23, w25, u45, w29, w31, w33, w35, w37, w39] H := hB
        refine lv_aload_n hx hb d_TL_tellLetters_77 rfl (lv_at hl 1 rfl) ?_
        refine lv_iload_n hx hb d_TL_tellLetters_78 rfl (lv_at hl 3 rfl) ?_
        have hpk47 : pTL G h0 bS bR ad adL (uTL_letters τ T43) ([[(h0, .inr (4, [.ref bS, .ref bR, .ref (ad 0), .ref (ad 1), .ref (ad 2), .ref (ad 3), .int (gTL_rowTold τ), .int (gTL_savedRows τ), .ref (ad 4), .ref (ad 5), .ref (ad 6), .ref (ad 7), .ref (ad 8), .ref (ad 9)]))], w21, w23, w25, u45, w29, w31, w33, w35, w37, w39].flatten) := ⟨w21, w23, w25, u45, w29, w31, w33, w35, w37, w39, rfl, h22, h24, h26, hu46, h30, h32, h34, h36, h38, h40⟩
        refine rdV (G := G) (As := [.int k]) (rest := []) (C := RTL) ⟨hx, hb, hml, hown, hts⟩ (c_TL_isSavedAt l G h0 bS bR ad adL (uTL_letters τ T43) k _ _ hB.1 hpk47 _ rfl) (cwV 1 hts (gd_V ml_TL_136 im_TL_isSavedAt sl_TL_isSavedAt ini_TL k_TL_isSavedAt) rfl rmK_c rmK_s (by decide +kernel) ⟨Nat.le_of_ble_eq_true rfl, Nat.le_of_ble_eq_true rfl⟩) hK (pTL_recv hK hB.1 hpk47) hS ⟨Nat.le.intro hk, Nat.le.intro hk⟩ rfl hl.1 (Nat.le_of_ble_eq_true rfl) d_TL_tellLetters_79 (fun locs hS => ?_)
        refine lv_if_eq (tgt := 92) hx hb d_TL_tellLetters_82 (by decide) (fun c48 => ?_) (fun c48 => ?_)
        · have hr0 := ai_pos c48 hr0
          have hk := ki_pos c48 hk
          refine lv_iinc (v := k + 1) (lv' := [(2, .int (k + 1)), (3, .int (A_IL_at (gTL_steps τ) k)), (0, .ref h0), (1, .int (((A_ST_mandatories ss) + (A_IL_length (gTL_labels σ))) + 1))]) hx hb d_TL_tellLetters_92 hl (k := 3) rfl rfl (by decide) rfl (fun ls hl => ?_)
          refine lv_goto (tgt := 20) hx hb d_TL_tellLetters_95 (by decide) ?_
          exact ih20 _ _ _ _ ⟨(k + 1), (uTL_letters τ T43), _, ⟨w21, w23, w25, u45, w29, w31, w33, w35, w37, w39, rfl, h22, h24, h26, hu46, h30, h32, h34, h36, h38, h40⟩, bk_one hB, hS, lv_sub hl [2, 3, 0] rfl, hr0, hk, up_dec c41 hm20⟩
        · have hr0 := ai_neg c48 hr0
          have hk := ki_neg c48 hk
          refine lv_aload_n hx hb d_TL_tellLetters_85 rfl (lv_at hl 1 rfl) ?_
          refine va_get (D := G.1) (ci := 4) (v := .ref (ad 3)) (C := RTL) (T := TTL) (N := 14) hx hb hts inTL hown hK hB.1 0 rfl rfl 5 (by decide) (hts _ fl_TL_35) (fun _ h9 => h9) rfl d_TL_tellLetters_86 ?_
          obtain ⟨T49, hT50⟩ : ∃ z, A_LL_addMark T43 = z := ⟨_, rfl⟩
          refine wrV (G := G) (k := 4) (As := []) (rest := []) (C := RLL) ⟨hx, hb, hml, hown, hts⟩ (c_LL_addMark l G (ad 3) adL T43 _ _ (bk_gP (k := 4) hB.1 rfl) (bk_own (k := 4) hB rfl) hu46 T49 hT50 _ rfl (bk_ub hk hKb)) (cwV 0 hts (gd_V ml_TL_158 im_LL_addMark sl_LL_addMark ini_LL k_LL_addMark) rfl rmK_c rmK_s (by decide +kernel) ⟨Nat.le_of_ble_eq_true rfl, Nat.le_of_ble_eq_true rfl⟩) hK (pLL_recv hK (bk_gP (k := 4) hB.1 rfl) hu46) hS hA hB rfl hk ⟨rfl, rfl⟩ rfl hl.1 (Nat.le_of_ble_eq_true rfl) d_TL_tellLetters_89 (fun u51 H locs kc hu52 hB hS hk => ?_)
          have hr0 := bnd_e hT50 hr0
          have hk := bnd_k hT50 hk
          have hB : bk G.1 vwCl A [[(h0, .inr (4, [.ref bS, .ref bR, .ref (ad 0), .ref (ad 1), .ref (ad 2), .ref (ad 3), .int (gTL_rowTold τ), .int (gTL_savedRows τ), .ref (ad 4), .ref (ad 5), .ref (ad 6), .ref (ad 7), .ref (ad 8), .ref (ad 9)]))], w21, w23, w25, u51, w29, w31, w33, w35, w37, w39] H := hB
          refine lv_iinc (v := k + 1) (lv' := [(2, .int (k + 1)), (3, .int (A_IL_at (gTL_steps τ) k)), (0, .ref h0), (1, .int (((A_ST_mandatories ss) + (A_IL_length (gTL_labels σ))) + 1))]) hx hb d_TL_tellLetters_92 hl (k := 3) rfl rfl (by decide) rfl (fun ls hl => ?_)
          refine lv_goto (tgt := 20) hx hb d_TL_tellLetters_95 (by decide) ?_
          exact ih20 _ _ _ _ ⟨(k + 1), (uTL_letters (uTL_letters τ T43) T49), _, ⟨w21, w23, w25, u51, w29, w31, w33, w35, w37, w39, rfl, h22, h24, h26, hu52, h30, h32, h34, h36, h38, h40⟩, bk_one hB, hS, lv_sub hl [2, 3, 0] rfl, hr0, hk, up_dec c41 hm20⟩
      · have hr0 := ai_neg c42 hr0
        have hk := ki_neg c42 hk
        refine lv_aload_n hx hb d_TL_tellLetters_46 rfl (lv_at hl 1 rfl) ?_
        refine va_get (D := G.1) (ci := 4) (v := .ref (ad 3)) (C := RTL) (T := TTL) (N := 14) hx hb hts inTL hown hK hB.1 0 rfl rfl 5 (by decide) (hts _ fl_TL_35) (fun _ h9 => h9) rfl d_TL_tellLetters_47 ?_
        refine lv_iload_n hx hb d_TL_tellLetters_50 rfl (lv_at hl 2 rfl) ?_
        refine lv_bipush (v := (-2)) hx hb d_TL_tellLetters_51 (by decide) ?_
        refine lv_iadd hx hb d_TL_tellLetters_53 ?_
        refine lv_iload_n hx hb d_TL_tellLetters_54 rfl (lv_at hl 0 rfl) ?_
        refine lv_isub hx hb d_TL_tellLetters_55 ?_
        obtain ⟨T53, hT54⟩ : ∃ z, A_LL_addNumber (gTL_letters τ) (((((A_ST_mandatories ss) + (A_IL_length (gTL_labels σ))) + 1) + (-2)) - (A_IL_at (gTL_steps τ) k)) = z := ⟨_, rfl⟩
        refine wrV (G := G) (k := 4) (As := [.int (((((A_ST_mandatories ss) + (A_IL_length (gTL_labels σ))) + 1) + (-2)) - (A_IL_at (gTL_steps τ) k))]) (rest := []) (C := RLL) ⟨hx, hb, hml, hown, hts⟩ (c_LL_addNumber l G (ad 3) adL (gTL_letters τ) (((((A_ST_mandatories ss) + (A_IL_length (gTL_labels σ))) + 1) + (-2)) - (A_IL_at (gTL_steps τ) k)) _ _ (bk_gP (k := 4) hB.1 rfl) (bk_own (k := 4) hB rfl) h28 T53 hT54 _ rfl (bk_ub hk hKb)) (cwV 1 hts (gd_V ml_TL_155 im_LL_addNumber sl_LL_addNumber ini_LL k_LL_addNumber) rfl rmK_c rmK_s (by decide +kernel) ⟨Nat.le_of_ble_eq_true rfl, Nat.le_of_ble_eq_true rfl⟩) hK (pLL_recv hK (bk_gP (k := 4) hB.1 rfl) h28) hS hA hB rfl hk ⟨rfl, rfl⟩ rfl hl.1 (Nat.le_of_ble_eq_true rfl) d_TL_tellLetters_56 (fun u55 H locs kc hu56 hB hS hk => ?_)
        have hr0 := bnd_e hT54 hr0
        have hk := bnd_k hT54 hk
        have hB : bk G.1 vwCl A [[(h0, .inr (4, [.ref bS, .ref bR, .ref (ad 0), .ref (ad 1), .ref (ad 2), .ref (ad 3), .int (gTL_rowTold τ), .int (gTL_savedRows τ), .ref (ad 4), .ref (ad 5), .ref (ad 6), .ref (ad 7), .ref (ad 8), .ref (ad 9)]))], w21, w23, w25, u55, w29, w31, w33, w35, w37, w39] H := hB
        refine lv_goto (tgt := 77) hx hb d_TL_tellLetters_59 (by decide) ?_
        refine lv_aload_n hx hb d_TL_tellLetters_77 rfl (lv_at hl 1 rfl) ?_
        refine lv_iload_n hx hb d_TL_tellLetters_78 rfl (lv_at hl 3 rfl) ?_
        have hpk57 : pTL G h0 bS bR ad adL (uTL_letters τ T53) ([[(h0, .inr (4, [.ref bS, .ref bR, .ref (ad 0), .ref (ad 1), .ref (ad 2), .ref (ad 3), .int (gTL_rowTold τ), .int (gTL_savedRows τ), .ref (ad 4), .ref (ad 5), .ref (ad 6), .ref (ad 7), .ref (ad 8), .ref (ad 9)]))], w21, w23, w25, u55, w29, w31, w33, w35, w37, w39].flatten) := ⟨w21, w23, w25, u55, w29, w31, w33, w35, w37, w39, rfl, h22, h24, h26, hu56, h30, h32, h34, h36, h38, h40⟩
        refine rdV (G := G) (As := [.int k]) (rest := []) (C := RTL) ⟨hx, hb, hml, hown, hts⟩ (c_TL_isSavedAt l G h0 bS bR ad adL (uTL_letters τ T53) k _ _ hB.1 hpk57 _ rfl) (cwV 1 hts (gd_V ml_TL_136 im_TL_isSavedAt sl_TL_isSavedAt ini_TL k_TL_isSavedAt) rfl rmK_c rmK_s (by decide +kernel) ⟨Nat.le_of_ble_eq_true rfl, Nat.le_of_ble_eq_true rfl⟩) hK (pTL_recv hK hB.1 hpk57) hS ⟨Nat.le.intro hk, Nat.le.intro hk⟩ rfl hl.1 (Nat.le_of_ble_eq_true rfl) d_TL_tellLetters_79 (fun locs hS => ?_)
        refine lv_if_eq (tgt := 92) hx hb d_TL_tellLetters_82 (by decide) (fun c58 => ?_) (fun c58 => ?_)
        · have hr0 := ai_pos c58 hr0
          have hk := ki_pos c58 hk
          refine lv_iinc (v := k + 1) (lv' := [(2, .int (k + 1)), (3, .int (A_IL_at (gTL_steps τ) k)), (0, .ref h0), (1, .int (((A_ST_mandatories ss) + (A_IL_length (gTL_labels σ))) + 1))]) hx hb d_TL_tellLetters_92 hl (k := 3) rfl rfl (by decide) rfl (fun ls hl => ?_)
          refine lv_goto (tgt := 20) hx hb d_TL_tellLetters_95 (by decide) ?_
          exact ih20 _ _ _ _ ⟨(k + 1), (uTL_letters τ T53), _, ⟨w21, w23, w25, u55, w29, w31, w33, w35, w37, w39, rfl, h22, h24, h26, hu56, h30, h32, h34, h36, h38, h40⟩, bk_one hB, hS, lv_sub hl [2, 3, 0] rfl, hr0, hk, up_dec c41 hm20⟩
        · have hr0 := ai_neg c58 hr0
          have hk := ki_neg c58 hk
          refine lv_aload_n hx hb d_TL_tellLetters_85 rfl (lv_at hl 1 rfl) ?_
          refine va_get (D := G.1) (ci := 4) (v := .ref (ad 3)) (C := RTL) (T := TTL) (N := 14) hx hb hts inTL hown hK hB.1 0 rfl rfl 5 (by decide) (hts _ fl_TL_35) (fun _ h9 => h9) rfl d_TL_tellLetters_86 ?_
          obtain ⟨T59, hT60⟩ : ∃ z, A_LL_addMark T53 = z := ⟨_, rfl⟩
          refine wrV (G := G) (k := 4) (As := []) (rest := []) (C := RLL) ⟨hx, hb, hml, hown, hts⟩ (c_LL_addMark l G (ad 3) adL T53 _ _ (bk_gP (k := 4) hB.1 rfl) (bk_own (k := 4) hB rfl) hu56 T59 hT60 _ rfl (bk_ub hk hKb)) (cwV 0 hts (gd_V ml_TL_158 im_LL_addMark sl_LL_addMark ini_LL k_LL_addMark) rfl rmK_c rmK_s (by decide +kernel) ⟨Nat.le_of_ble_eq_true rfl, Nat.le_of_ble_eq_true rfl⟩) hK (pLL_recv hK (bk_gP (k := 4) hB.1 rfl) hu56) hS hA hB rfl hk ⟨rfl, rfl⟩ rfl hl.1 (Nat.le_of_ble_eq_true rfl) d_TL_tellLetters_89 (fun u61 H locs kc hu62 hB hS hk => ?_)
          have hr0 := bnd_e hT60 hr0
          have hk := bnd_k hT60 hk
          have hB : bk G.1 vwCl A [[(h0, .inr (4, [.ref bS, .ref bR, .ref (ad 0), .ref (ad 1), .ref (ad 2), .ref (ad 3), .int (gTL_rowTold τ), .int (gTL_savedRows τ), .ref (ad 4), .ref (ad 5), .ref (ad 6), .ref (ad 7), .ref (ad 8), .ref (ad 9)]))], w21, w23, w25, u61, w29, w31, w33, w35, w37, w39] H := hB
          refine lv_iinc (v := k + 1) (lv' := [(2, .int (k + 1)), (3, .int (A_IL_at (gTL_steps τ) k)), (0, .ref h0), (1, .int (((A_ST_mandatories ss) + (A_IL_length (gTL_labels σ))) + 1))]) hx hb d_TL_tellLetters_92 hl (k := 3) rfl rfl (by decide) rfl (fun ls hl => ?_)
          refine lv_goto (tgt := 20) hx hb d_TL_tellLetters_95 (by decide) ?_
          exact ih20 _ _ _ _ ⟨(k + 1), (uTL_letters (uTL_letters τ T53) T59), _, ⟨w21, w23, w25, u61, w29, w31, w33, w35, w37, w39, rfl, h22, h24, h26, hu62, h30, h32, h34, h36, h38, h40⟩, bk_one hB, hS, lv_sub hl [2, 3, 0] rfl, hr0, hk, up_dec c41 hm20⟩
  · rintro H locs kc ls ⟨_, _, _, -, -, -, -, -, -, hz⟩; exact Nat.not_lt_zero _ hz

def A_TL_tell (σ : tTL) (ss : tST) (rr : tRW) (r : Int32) : tTL := bnd (A_TL_forget σ) (fun T22 => bnd (A_TL_tellSteps (uTL_rowTold T22 r) ss rr) (fun T47 => bnd (A_TL_numberSavedRows T47) (fun T72 => bnd (A_TL_numberStatements T72 ss rr) (fun T97 => bnd (A_TL_tellLetters T97 ss rr) (fun T122 => T122)))))
def K_TL_tell (σ : tTL) (ss : tST) (rr : tRW) (r : Int32) : Nat := bnd (A_TL_forget σ) (fun T22 => (K_TL_tellSteps (uTL_rowTold T22 r) ss rr) + (bnd (A_TL_tellSteps (uTL_rowTold T22 r) ss rr) (fun T47 => bnd (A_TL_numberSavedRows T47) (fun T72 => (K_TL_numberStatements T72 ss rr) + (bnd (A_TL_numberStatements T72 ss rr) (fun T97 => (K_TL_tellLetters T97 ss rr) + (bnd (A_TL_tellLetters T97 ss rr) (fun T122 => 0))))))))
set_option maxHeartbeats 4000000 in
set_option maxRecDepth 100000 in
theorem c_TL_tell (l : Launch) (G : pG) (h0 : Nat) (bS : Nat) (bR : Nat) (ad : Nat → Nat) (adL : Nat → Nat) (σ : tTL) (r : Int32) (H : Heap) (w : va_W) (adS : Nat → Nat) (ss : tST) (vS : va_W) (hvS : va_P G.1 vwCl vS H) (hsS : pST G bS adS ss vS) (ap_ss : bk_ap w vS) (adR : Nat → Nat) (rr : tRW) (vR : va_W) (hvR : va_P G.1 vwCl vR H) (hrR : pRW G bR adR rr vR) (ap_rr : bk_ap w vR) (hP0 : va_P G.1 vwCl w H) (hD0 : va_D (fun _ => True) w) (hσ : pTL G h0 bS bR ad adL σ w) (res : tTL) (hr0 : A_TL_tell σ ss rr r = res) (Kt : Nat) (hk : K_TL_tell σ ss rr r = Kt) (hKb : Kt ≤ 16777216) : MWv l y_TL_tell w_TL_tell 6 170 Kt G [.ref h0, .int r] H w (pTL G h0 bS bR ad adL res) := by
  refine Met.ofW (cc := b_TL_tell) (maxL := 2) (ret := none) (by decide) rfl ?_
  intro p e s m args below meth c s₁ B hml hv
  obtain ⟨rfl, rfl, hK⟩ := hv
  have hx := B.exec
  have hb := B.bytes
  have hr := B.returns
  have hts0 := atoms_spec (ws := w_TL_tell) B.pre
  have hts := fun w (h : w ∈ lw_g) => hts0 w (List.mem_cons_of_mem _ h)
  have hown : s.vm.findClass RTL = some m.cls := findClass_of_methodNamed B.named
  have hlocks := B.notSynchronized
  have hA : ∀ q : Nat, s.heap.size ≤ q → va_A w s.heap.size q := fun _ h => Or.inr h
  have hro_ss := ro_A hvS ap_ss
  have hro_rr := ro_A hvR ap_rr
  have hB : bk G.1 vwCl (va_A w s.heap.size) [w] s.heap := bk_init hP0 hD0
  generalize va_A w s.heap.size = A at *
  have hS : va_S A s.heap s.heap [] := va_S.rf
  obtain ⟨w1, w3, w5, w7, w9, w11, w13, w15, w17, w19, rfl, h2, h4, h6, h8, h10, h12, h14, h16, h18, h20⟩ := hσ
  have hB := bk_many hB
  have hk : 0 + K_TL_tell σ ss rr r = Kt := (Nat.zero_add _).trans hk
  have hl := lv_entry ([.ref h0, .int r]) (n := 2) (Nat.le_of_ble_eq_true rfl)
  rw [lg_entry_eq]
  generalize (lg_sl ([.ref h0, .int r]) ++ List.replicate (2 - (lg_sl ([.ref h0, .int r])).length) Slot.unset).toArray = ls at hl ⊢
  have hl : lv_has ls 2 [(0, .ref h0), (1, .int r)] := hl
  unfold A_TL_tell at hr0
  unfold K_TL_tell at hk
  refine lv_aload_n hx hb d_TL_tell_0 rfl (lv_at hl 0 rfl) ?_
  have hB := bk_one hB
  have hpk21 : pTL G h0 bS bR ad adL σ ([[(h0, .inr (4, [.ref bS, .ref bR, .ref (ad 0), .ref (ad 1), .ref (ad 2), .ref (ad 3), .int (gTL_rowTold σ), .int (gTL_savedRows σ), .ref (ad 4), .ref (ad 5), .ref (ad 6), .ref (ad 7), .ref (ad 8), .ref (ad 9)]))], w1, w3, w5, w7, w9, w11, w13, w15, w17, w19].flatten) := ⟨w1, w3, w5, w7, w9, w11, w13, w15, w17, w19, rfl, h2, h4, h6, h8, h10, h12, h14, h16, h18, h20⟩
  obtain ⟨T22, hT23⟩ : ∃ z, A_TL_forget σ = z := ⟨_, rfl⟩
  refine wrV0 (G := G) (k := 0) (As := []) (rest := []) (C := RTL) ⟨hx, hb, hml, hown, hts⟩ (c_TL_forget l G h0 bS bR ad adL σ _ _ (bk_gP (k := 0) hB.1 rfl) (bk_own (k := 0) hB rfl) hpk21 T22 hT23) (cwV 0 hts (gd_V ml_TL_85 im_TL_forget sl_TL_forget ini_TL k_TL_forget) rfl rmK_c rmK_s (by decide +kernel) ⟨Nat.le_of_ble_eq_true rfl, Nat.le_of_ble_eq_true rfl⟩) hK (pTL_recv hK (bk_gP (k := 0) hB.1 rfl) hpk21) hS hA hB rfl hk ⟨rfl, rfl⟩ rfl hl.1 (Nat.le_of_ble_eq_true rfl) d_TL_tell_1 (fun u24 H locs hu25 hB hS => ?_)
  have hr0 := bnd_e hT23 hr0
  have hk := bnd_k hT23 hk
  have hB : bk G.1 vwCl A [u24] H := hB
  obtain ⟨w26, w28, w30, w32, w34, w36, w38, w40, w42, w44, rfl, h27, h29, h31, h33, h35, h37, h39, h41, h43, h45⟩ := hu25
  have hB : bk G.1 vwCl A [[(h0, .inr (4, [.ref bS, .ref bR, .ref (ad 0), .ref (ad 1), .ref (ad 2), .ref (ad 3), .int (gTL_rowTold T22), .int (gTL_savedRows T22), .ref (ad 4), .ref (ad 5), .ref (ad 6), .ref (ad 7), .ref (ad 8), .ref (ad 9)]))], w26, w28, w30, w32, w34, w36, w38, w40, w42, w44] H := bk_many hB
  refine lv_aload_n hx hb d_TL_tell_4 rfl (lv_at hl 0 rfl) ?_
  refine lv_iload_n hx hb d_TL_tell_5 rfl (lv_at hl 1 rfl) ?_
  refine va_put (D := G.1) (ci := 4) (v := .int r) (ty := .int) (C := RTL) (T := TTL) (N := 14) hx hb hts inTL tyTL tokTL nmTL hown hK hB.1 hB.2 hS 0 rfl rfl 6 (by decide) (hts _ fl_TL_39) (fun _ h9 => h9) rfl (by decide +kernel) rfl rfl (Nat.le_of_ble_eq_true rfl) d_TL_tell_6 (fun H locs hP hD hS => ?_)
  have hB : bk G.1 vwCl A [[(h0, .inr (4, [.ref bS, .ref bR, .ref (ad 0), .ref (ad 1), .ref (ad 2), .ref (ad 3), .int r, .int (gTL_savedRows T22), .ref (ad 4), .ref (ad 5), .ref (ad 6), .ref (ad 7), .ref (ad 8), .ref (ad 9)]))], w26, w28, w30, w32, w34, w36, w38, w40, w42, w44] H := ⟨hP, hD⟩
  refine lv_aload_n hx hb d_TL_tell_9 rfl (lv_at hl 0 rfl) ?_
  have hB := bk_one hB
  have hpk46 : pTL G h0 bS bR ad adL (uTL_rowTold T22 r) ([[(h0, .inr (4, [.ref bS, .ref bR, .ref (ad 0), .ref (ad 1), .ref (ad 2), .ref (ad 3), .int r, .int (gTL_savedRows T22), .ref (ad 4), .ref (ad 5), .ref (ad 6), .ref (ad 7), .ref (ad 8), .ref (ad 9)]))], w26, w28, w30, w32, w34, w36, w38, w40, w42, w44].flatten) := ⟨w26, w28, w30, w32, w34, w36, w38, w40, w42, w44, rfl, h27, h29, h31, h33, h35, h37, h39, h41, h43, h45⟩
  obtain ⟨T47, hT48⟩ : ∃ z, A_TL_tellSteps (uTL_rowTold T22 r) ss rr = z := ⟨_, rfl⟩
  refine wrV (G := G) (k := 0) (As := []) (rest := []) (C := RTL) ⟨hx, hb, hml, hown, hts⟩ (c_TL_tellSteps l G h0 bS bR ad adL (uTL_rowTold T22 r) _ _ adS ss _ (ro_keep hS hvS hro_ss) hsS (bk_apA (k := 0) hB rfl hro_ss) adR rr _ (ro_keep hS hvR hro_rr) hrR (bk_apA (k := 0) hB rfl hro_rr) (bk_gP (k := 0) hB.1 rfl) (bk_own (k := 0) hB rfl) hpk46 T47 hT48 _ rfl (bk_ub hk hKb)) (cwV 0 hts (gd_V ml_TL_86 im_TL_tellSteps sl_TL_tellSteps ini_TL k_TL_tellSteps) rfl rmK_c rmK_s (by decide +kernel) ⟨Nat.le_of_ble_eq_true rfl, Nat.le_of_ble_eq_true rfl⟩) hK (pTL_recv hK (bk_gP (k := 0) hB.1 rfl) hpk46) hS hA hB rfl hk ⟨rfl, rfl⟩ rfl hl.1 (Nat.le_of_ble_eq_true rfl) d_TL_tell_10 (fun u49 H locs kc hu50 hB hS hk => ?_)
  have hr0 := bnd_e hT48 hr0
  have hk := bnd_k hT48 hk
  have hB : bk G.1 vwCl A [u49] H := hB
  obtain ⟨w51, w53, w55, w57, w59, w61, w63, w65, w67, w69, rfl, h52, h54, h56, h58, h60, h62, h64, h66, h68, h70⟩ := hu50
  have hB : bk G.1 vwCl A [[(h0, .inr (4, [.ref bS, .ref bR, .ref (ad 0), .ref (ad 1), .ref (ad 2), .ref (ad 3), .int (gTL_rowTold T47), .int (gTL_savedRows T47), .ref (ad 4), .ref (ad 5), .ref (ad 6), .ref (ad 7), .ref (ad 8), .ref (ad 9)]))], w51, w53, w55, w57, w59, w61, w63, w65, w67, w69] H := bk_many hB
  refine lv_aload_n hx hb d_TL_tell_13 rfl (lv_at hl 0 rfl) ?_
  have hB := bk_one hB
  have hpk71 : pTL G h0 bS bR ad adL T47 ([[(h0, .inr (4, [.ref bS, .ref bR, .ref (ad 0), .ref (ad 1), .ref (ad 2), .ref (ad 3), .int (gTL_rowTold T47), .int (gTL_savedRows T47), .ref (ad 4), .ref (ad 5), .ref (ad 6), .ref (ad 7), .ref (ad 8), .ref (ad 9)]))], w51, w53, w55, w57, w59, w61, w63, w65, w67, w69].flatten) := ⟨w51, w53, w55, w57, w59, w61, w63, w65, w67, w69, rfl, h52, h54, h56, h58, h60, h62, h64, h66, h68, h70⟩
  obtain ⟨T72, hT73⟩ : ∃ z, A_TL_numberSavedRows T47 = z := ⟨_, rfl⟩
  refine wrV0 (G := G) (k := 0) (As := []) (rest := []) (C := RTL) ⟨hx, hb, hml, hown, hts⟩ (c_TL_numberSavedRows l G h0 bS bR ad adL T47 _ _ (bk_gP (k := 0) hB.1 rfl) (bk_own (k := 0) hB rfl) hpk71 T72 hT73) (cwV 0 hts (gd_V ml_TL_89 im_TL_numberSavedRows sl_TL_numberSavedRows ini_TL k_TL_numberSavedRows) rfl rmK_c rmK_s (by decide +kernel) ⟨Nat.le_of_ble_eq_true rfl, Nat.le_of_ble_eq_true rfl⟩) hK (pTL_recv hK (bk_gP (k := 0) hB.1 rfl) hpk71) hS hA hB rfl hk ⟨rfl, rfl⟩ rfl hl.1 (Nat.le_of_ble_eq_true rfl) d_TL_tell_14 (fun u74 H locs hu75 hB hS => ?_)
  have hr0 := bnd_e hT73 hr0
  have hk := bnd_k hT73 hk
  have hB : bk G.1 vwCl A [u74] H := hB
  obtain ⟨w76, w78, w80, w82, w84, w86, w88, w90, w92, w94, rfl, h77, h79, h81, h83, h85, h87, h89, h91, h93, h95⟩ := hu75
  have hB : bk G.1 vwCl A [[(h0, .inr (4, [.ref bS, .ref bR, .ref (ad 0), .ref (ad 1), .ref (ad 2), .ref (ad 3), .int (gTL_rowTold T72), .int (gTL_savedRows T72), .ref (ad 4), .ref (ad 5), .ref (ad 6), .ref (ad 7), .ref (ad 8), .ref (ad 9)]))], w76, w78, w80, w82, w84, w86, w88, w90, w92, w94] H := bk_many hB
  refine lv_aload_n hx hb d_TL_tell_17 rfl (lv_at hl 0 rfl) ?_
  have hB := bk_one hB
  have hpk96 : pTL G h0 bS bR ad adL T72 ([[(h0, .inr (4, [.ref bS, .ref bR, .ref (ad 0), .ref (ad 1), .ref (ad 2), .ref (ad 3), .int (gTL_rowTold T72), .int (gTL_savedRows T72), .ref (ad 4), .ref (ad 5), .ref (ad 6), .ref (ad 7), .ref (ad 8), .ref (ad 9)]))], w76, w78, w80, w82, w84, w86, w88, w90, w92, w94].flatten) := ⟨w76, w78, w80, w82, w84, w86, w88, w90, w92, w94, rfl, h77, h79, h81, h83, h85, h87, h89, h91, h93, h95⟩
  obtain ⟨T97, hT98⟩ : ∃ z, A_TL_numberStatements T72 ss rr = z := ⟨_, rfl⟩
  refine wrV (G := G) (k := 0) (As := []) (rest := []) (C := RTL) ⟨hx, hb, hml, hown, hts⟩ (c_TL_numberStatements l G h0 bS bR ad adL T72 _ _ adS ss _ (ro_keep hS hvS hro_ss) hsS (bk_apA (k := 0) hB rfl hro_ss) adR rr _ (ro_keep hS hvR hro_rr) hrR (bk_apA (k := 0) hB rfl hro_rr) (bk_gP (k := 0) hB.1 rfl) (bk_own (k := 0) hB rfl) hpk96 T97 hT98 _ rfl (bk_ub hk hKb)) (cwV 0 hts (gd_V ml_TL_92 im_TL_numberStatements sl_TL_numberStatements ini_TL k_TL_numberStatements) rfl rmK_c rmK_s (by decide +kernel) ⟨Nat.le_of_ble_eq_true rfl, Nat.le_of_ble_eq_true rfl⟩) hK (pTL_recv hK (bk_gP (k := 0) hB.1 rfl) hpk96) hS hA hB rfl hk ⟨rfl, rfl⟩ rfl hl.1 (Nat.le_of_ble_eq_true rfl) d_TL_tell_18 (fun u99 H locs kc hu100 hB hS hk => ?_)
  have hr0 := bnd_e hT98 hr0
  have hk := bnd_k hT98 hk
  have hB : bk G.1 vwCl A [u99] H := hB
  obtain ⟨w101, w103, w105, w107, w109, w111, w113, w115, w117, w119, rfl, h102, h104, h106, h108, h110, h112, h114, h116, h118, h120⟩ := hu100
  have hB : bk G.1 vwCl A [[(h0, .inr (4, [.ref bS, .ref bR, .ref (ad 0), .ref (ad 1), .ref (ad 2), .ref (ad 3), .int (gTL_rowTold T97), .int (gTL_savedRows T97), .ref (ad 4), .ref (ad 5), .ref (ad 6), .ref (ad 7), .ref (ad 8), .ref (ad 9)]))], w101, w103, w105, w107, w109, w111, w113, w115, w117, w119] H := bk_many hB
  refine lv_aload_n hx hb d_TL_tell_21 rfl (lv_at hl 0 rfl) ?_
  have hB := bk_one hB
  have hpk121 : pTL G h0 bS bR ad adL T97 ([[(h0, .inr (4, [.ref bS, .ref bR, .ref (ad 0), .ref (ad 1), .ref (ad 2), .ref (ad 3), .int (gTL_rowTold T97), .int (gTL_savedRows T97), .ref (ad 4), .ref (ad 5), .ref (ad 6), .ref (ad 7), .ref (ad 8), .ref (ad 9)]))], w101, w103, w105, w107, w109, w111, w113, w115, w117, w119].flatten) := ⟨w101, w103, w105, w107, w109, w111, w113, w115, w117, w119, rfl, h102, h104, h106, h108, h110, h112, h114, h116, h118, h120⟩
  obtain ⟨T122, hT123⟩ : ∃ z, A_TL_tellLetters T97 ss rr = z := ⟨_, rfl⟩
  refine wrV (G := G) (k := 0) (As := []) (rest := []) (C := RTL) ⟨hx, hb, hml, hown, hts⟩ (c_TL_tellLetters l G h0 bS bR ad adL T97 _ _ adS ss _ (ro_keep hS hvS hro_ss) hsS (bk_apA (k := 0) hB rfl hro_ss) adR rr _ (ro_keep hS hvR hro_rr) hrR (bk_apA (k := 0) hB rfl hro_rr) (bk_gP (k := 0) hB.1 rfl) (bk_own (k := 0) hB rfl) hpk121 T122 hT123 _ rfl (bk_ub hk hKb)) (cwV 0 hts (gd_V ml_TL_95 im_TL_tellLetters sl_TL_tellLetters ini_TL k_TL_tellLetters) rfl rmK_c rmK_s (by decide +kernel) ⟨Nat.le_of_ble_eq_true rfl, Nat.le_of_ble_eq_true rfl⟩) hK (pTL_recv hK (bk_gP (k := 0) hB.1 rfl) hpk121) hS hA hB rfl hk ⟨rfl, rfl⟩ rfl hl.1 (Nat.le_of_ble_eq_true rfl) d_TL_tell_22 (fun u124 H locs kc hu125 hB hS hk => ?_)
  have hr0 := bnd_e hT123 hr0
  have hk := bnd_k hT123 hk
  have hB : bk G.1 vwCl A [u124] H := hB
  obtain ⟨w126, w128, w130, w132, w134, w136, w138, w140, w142, w144, rfl, h127, h129, h131, h133, h135, h137, h139, h141, h143, h145⟩ := hu125
  have hB : bk G.1 vwCl A [[(h0, .inr (4, [.ref bS, .ref bR, .ref (ad 0), .ref (ad 1), .ref (ad 2), .ref (ad 3), .int (gTL_rowTold T122), .int (gTL_savedRows T122), .ref (ad 4), .ref (ad 5), .ref (ad 6), .ref (ad 7), .ref (ad 8), .ref (ad 9)]))], w126, w128, w130, w132, w134, w136, w138, w140, w142, w144] H := bk_many hB
  subst hr0
  refine W.widen (k := Kt) (n := Kt) (Nat.le.intro hk) (Nat.le.intro hk) ?_
  exact W.vret hx hb hr (fun t ht hW => ⟨⟨[[(h0, .inr (4, [.ref bS, .ref bR, .ref (ad 0), .ref (ad 1), .ref (ad 2), .ref (ad 3), .int (gTL_rowTold T122), .int (gTL_savedRows T122), .ref (ad 4), .ref (ad 5), .ref (ad 6), .ref (ad 7), .ref (ad 8), .ref (ad 9)]))], w126, w128, w130, w132, w134, w136, w138, w140, w142, w144].flatten, rfl, ⟨w126, w128, w130, w132, w134, w136, w138, w140, w142, w144, rfl, h127, h129, h131, h133, h135, h137, h139, h141, h143, h145⟩, by rw [ht]; exact hB.1, hB.2⟩, hS.F ht⟩) hS.2.2 d_TL_tell_25
