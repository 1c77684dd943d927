def A_PP_statement (σ : tPP) (n : Int32) : Int32 × tPP := if n < 0 then ((-1), σ) else (if 60 < n then ((-1), σ) else (if (A_ST_amount (gPP_statements σ)) < 1500 then (bnd (A_ST_add (gPP_statements σ) n) (fun T12 => (T12.1, uPP_statements σ T12.2))) else ((-1), σ)))
def K_PP_statement (σ : tPP) (n : Int32) : Nat := if n < 0 then 0 else (if 60 < n then 0 else (if (A_ST_amount (gPP_statements σ)) < 1500 then ((K_ST_add (gPP_statements σ) n) + (bnd (A_ST_add (gPP_statements σ) n) (fun T12 => 0))) else 0))
set_option maxHeartbeats 4000000 in
set_option maxRecDepth 100000 in
theorem c_PP_statement (l : Launch) (G : pG) (h0 : Nat) (ad : Nat → Nat) (adS : Nat → Nat) (adR : Nat → Nat) (adT : Nat → Nat) (adL : Nat → Nat) (σ : tPP) (n : Int32) (H : Heap) (w : va_W) (hP0 : va_P G.1 vwCl w H) (hD0 : va_D (fun _ => True) w) (hσ : pPP G h0 ad adS adR adT adL σ w) (res : Int32 × tPP) (hr0 : A_PP_statement σ n = res) (Kt : Nat) (hk : K_PP_statement σ n = Kt) (hKb : Kt ≤ 16777216) : MWi l y_PP_statement w_PP_statement 4 124 Kt G [.ref h0, .int n] H w res.1 (pPP G h0 ad adS adR adT adL res.2) := by
  refine Met.ofW (cc := b_PP_statement) (maxL := 2) (ret := (some .int)) (by decide) rfl ?_
  intro p e s m args below meth c s₁ B hml hv
  obtain ⟨rfl, rfl, hK⟩ := hv
  have hx := B.exec
  have hb := B.bytes
  have hr := B.returns
  have hts0 := atoms_spec (ws := w_PP_statement) B.pre
  have hts := fun w (h : w ∈ lw_g) => hts0 w (List.mem_cons_of_mem _ h)
  have hown : s.vm.findClass RPP = some m.cls := findClass_of_methodNamed B.named
  have hlocks := B.notSynchronized
  have hA : ∀ q : Nat, s.heap.size ≤ q → va_A w s.heap.size q := fun _ h => Or.inr h
  have hB : bk G.1 vwCl (va_A w s.heap.size) [w] s.heap := bk_init hP0 hD0
  generalize va_A w s.heap.size = A at *
  have hS : va_S A s.heap s.heap [] := va_S.rf
  obtain ⟨w1, w3, w5, w7, rfl, h2, h4, h6, h8⟩ := hσ
  have hB := bk_many hB
  have hk : 0 + K_PP_statement σ n = Kt := (Nat.zero_add _).trans hk
  have hl := lv_entry ([.ref h0, .int n]) (n := 2) (Nat.le_of_ble_eq_true rfl)
  rw [lg_entry_eq]
  generalize (lg_sl ([.ref h0, .int n]) ++ List.replicate (2 - (lg_sl ([.ref h0, .int n])).length) Slot.unset).toArray = ls at hl ⊢
  have hl : lv_has ls 2 [(0, .ref h0), (1, .int n)] := hl
  unfold A_PP_statement at hr0
  unfold K_PP_statement at hk
  refine lv_iload_n hx hb d_PP_statement_0 rfl (lv_at hl 1 rfl) ?_
  refine lv_if_lt (tgt := 23) hx hb d_PP_statement_1 (by decide) (fun c9 => ?_) (fun c9 => ?_)
  · have hr0 := ai_pos c9 hr0
    have hk := ki_pos c9 hk
    refine lv_iconst (v := (-1)) hx hb d_PP_statement_23 (by decide) ?_
    subst hr0
    refine W.widen (k := Kt) (n := Kt) (Nat.le.intro hk) (Nat.le.intro hk) ?_
    exact W.iret (v := (-1)) hx hb hr (fun t ht hW => ⟨⟨(-1), [[(h0, .inr (5, [.ref (ad 0), .ref (ad 1), .ref (ad 2), .ref (ad 3), .int (gPP_puts σ)]))], w1, w3, w5, w7].flatten, rfl, ⟨rfl, ⟨w1, w3, w5, w7, rfl, h2, h4, h6, h8⟩⟩, by rw [ht]; exact hB.1, hB.2⟩, hS.F ht⟩) hS.2.2 d_PP_statement_24
  · have hr0 := ai_neg c9 hr0
    have hk := ki_neg c9 hk
    refine lv_iload_n hx hb d_PP_statement_4 rfl (lv_at hl 1 rfl) ?_
    refine lv_bipush (v := 60) hx hb d_PP_statement_5 (by decide) ?_
    refine lv_icmp_gt (tgt := 23) hx hb d_PP_statement_7 (by decide) (fun c10 => ?_) (fun c10 => ?_)
    · have hr0 := ai_pos c10 hr0
      have hk := ki_pos c10 hk
      refine lv_iconst (v := (-1)) hx hb d_PP_statement_23 (by decide) ?_
      subst hr0
      refine W.widen (k := Kt) (n := Kt) (Nat.le.intro hk) (Nat.le.intro hk) ?_
      exact W.iret (v := (-1)) hx hb hr (fun t ht hW => ⟨⟨(-1), [[(h0, .inr (5, [.ref (ad 0), .ref (ad 1), .ref (ad 2), .ref (ad 3), .int (gPP_puts σ)]))], w1, w3, w5, w7].flatten, rfl, ⟨rfl, ⟨w1, w3, w5, w7, rfl, h2, h4, h6, h8⟩⟩, by rw [ht]; exact hB.1, hB.2⟩, hS.F ht⟩) hS.2.2 d_PP_statement_24
    · have hr0 := ai_neg c10 hr0
      have hk := ki_neg c10 hk
      refine lv_aload_n hx hb d_PP_statement_10 rfl (lv_at hl 0 rfl) ?_
      refine va_get (D := G.1) (ci := 5) (v := .ref (ad 0)) (C := RPP) (T := TPP) (N := 5) hx hb hts inPP hown hK hB.1 0 rfl rfl 0 (by decide) (hts _ fl_PP_10) (fun _ h9 => h9) rfl d_PP_statement_11 ?_
      refine rdV (G := G) (As := []) (rest := []) (C := RST) ⟨hx, hb, hml, hown, hts⟩ (c_ST_amount l G (ad 0) adS (gPP_statements σ) _ _ (bk_gP (k := 1) hB.1 rfl) h2 _ rfl) (cwV 0 hts (gd_V ml_PP_43 im_ST_amount sl_ST_amount ini_ST k_ST_amount) rfl rmK_c rmK_s (by decide +kernel) ⟨Nat.le_of_ble_eq_true rfl, Nat.le_of_ble_eq_true rfl⟩) hK (pST_recv hK (bk_gP (k := 1) hB.1 rfl) h2) hS ⟨Nat.le.intro hk, Nat.le.intro hk⟩ rfl hl.1 (Nat.le_of_ble_eq_true rfl) d_PP_statement_14 (fun locs hS => ?_)
      refine lv_sipush (v := 1500) hx hb d_PP_statement_17 (by decide) ?_
      refine lv_icmp_lt (tgt := 25) hx hb d_PP_statement_20 (by decide) (fun c11 => ?_) (fun c11 => ?_)
      · have hr0 := ai_pos c11 hr0
        have hk := ki_pos c11 hk
        refine lv_aload_n hx hb d_PP_statement_25 rfl (lv_at hl 0 rfl) ?_
        refine va_get (D := G.1) (ci := 5) (v := .ref (ad 0)) (C := RPP) (T := TPP) (N := 5) hx hb hts inPP hown hK hB.1 0 rfl rfl 0 (by decide) (hts _ fl_PP_10) (fun _ h9 => h9) rfl d_PP_statement_26 ?_
        refine lv_iload_n hx hb d_PP_statement_29 rfl (lv_at hl 1 rfl) ?_
        obtain ⟨T12, hT13⟩ : ∃ z, A_ST_add (gPP_statements σ) n = z := ⟨_, rfl⟩
        refine wrVi (G := G) (k := 1) (As := [.int n]) (rest := []) (C := RST) ⟨hx, hb, hml, hown, hts⟩ (c_ST_add l G (ad 0) adS (gPP_statements σ) n _ _ (bk_gP (k := 1) hB.1 rfl) (bk_own (k := 1) hB rfl) h2 T12 hT13 _ rfl (bk_ub hk hKb)) (cwV 1 hts (gd_V ml_PP_47 im_ST_add sl_ST_add ini_ST k_ST_add) rfl rmK_c rmK_s (by decide +kernel) ⟨Nat.le_of_ble_eq_true rfl, Nat.le_of_ble_eq_true rfl⟩) hK (pST_recv hK (bk_gP (k := 1) hB.1 rfl) h2) hS hA hB rfl hk ⟨rfl, rfl⟩ rfl hl.1 (Nat.le_of_ble_eq_true rfl) d_PP_statement_30 (fun u14 H locs kc hu15 hB hS hk => ?_)
        have hr0 := bnd_e hT13 hr0
        have hk := bnd_k hT13 hk
        have hB : bk G.1 vwCl A [[(h0, .inr (5, [.ref (ad 0), .ref (ad 1), .ref (ad 2), .ref (ad 3), .int (gPP_puts σ)]))], u14, w3, w5, w7] H := hB
        subst hr0
        refine W.widen (k := Kt) (n := Kt) (Nat.le.intro hk) (Nat.le.intro hk) ?_
        exact W.iret (v := T12.1) hx hb hr (fun t ht hW => ⟨⟨T12.1, [[(h0, .inr (5, [.ref (ad 0), .ref (ad 1), .ref (ad 2), .ref (ad 3), .int (gPP_puts σ)]))], u14, w3, w5, w7].flatten, rfl, ⟨rfl, ⟨u14, w3, w5, w7, rfl, hu15, h4, h6, h8⟩⟩, by rw [ht]; exact hB.1, hB.2⟩, hS.F ht⟩) hS.2.2 d_PP_statement_33
      · have hr0 := ai_neg c11 hr0
        have hk := ki_neg c11 hk
        refine lv_iconst (v := (-1)) hx hb d_PP_statement_23 (by decide) ?_
        subst hr0
        refine W.widen (k := Kt) (n := Kt) (Nat.le.intro hk) (Nat.le.intro hk) ?_
        exact W.iret (v := (-1)) hx hb hr (fun t ht hW => ⟨⟨(-1), [[(h0, .inr (5, [.ref (ad 0), .ref (ad 1), .ref (ad 2), .ref (ad 3), .int (gPP_puts σ)]))], w1, w3, w5, w7].flatten, rfl, ⟨rfl, ⟨w1, w3, w5, w7, rfl, h2, h4, h6, h8⟩⟩, by rw [ht]; exact hB.1, hB.2⟩, hS.F ht⟩) hS.2.2 d_PP_statement_24

def A_PP_mandatory (σ : tPP) (i : Int32) : Int32 × tPP := if (A_ST_has (gPP_statements σ) i) = 0 then ((-1), σ) else (if (A_ST_taking (gPP_statements σ) i) = 0 then (if (A_ST_isMandatory (gPP_statements σ) i) = 0 then (if (A_ST_mandatories (gPP_statements σ)) < 60 then (bnd (A_ST_addMandatory (gPP_statements σ) i) (fun T13 => (T13.1, uPP_statements σ T13.2))) else ((-1), σ)) else ((-1), σ)) else ((-1), σ))
set_option maxHeartbeats 4000000 in
set_option maxRecDepth 100000 in
theorem c_PP_mandatory (l : Launch) (G : pG) (h0 : Nat) (ad : Nat → Nat) (adS : Nat → Nat) (adR : Nat → Nat) (adT : Nat → Nat) (adL : Nat → Nat) (σ : tPP) (i : Int32) (H : Heap) (w : va_W) (hP0 : va_P G.1 vwCl w H) (hD0 : va_D (fun _ => True) w) (hσ : pPP G h0 ad adS adR adT adL σ w) (res : Int32 × tPP) (hr0 : A_PP_mandatory σ i = res) : MWi l y_PP_mandatory w_PP_mandatory 2 43 0 G [.ref h0, .int i] H w res.1 (pPP G h0 ad adS adR adT adL res.2) := by
  refine Met.ofW (cc := b_PP_mandatory) (maxL := 2) (ret := (some .int)) (by decide) rfl ?_
  intro p e s m args below meth c s₁ B hml hv
  obtain ⟨rfl, rfl, hK⟩ := hv
  have hx := B.exec
  have hb := B.bytes
  have hr := B.returns
  have hts0 := atoms_spec (ws := w_PP_mandatory) B.pre
  have hts := fun w (h : w ∈ lw_g) => hts0 w (List.mem_cons_of_mem _ h)
  have hown : s.vm.findClass RPP = some m.cls := findClass_of_methodNamed B.named
  have hlocks := B.notSynchronized
  have hA : ∀ q : Nat, s.heap.size ≤ q → va_A w s.heap.size q := fun _ h => Or.inr h
  have hB : bk G.1 vwCl (va_A w s.heap.size) [w] s.heap := bk_init hP0 hD0
  generalize va_A w s.heap.size = A at *
  have hS : va_S A s.heap s.heap [] := va_S.rf
  obtain ⟨w1, w3, w5, w7, rfl, h2, h4, h6, h8⟩ := hσ
  have hB := bk_many hB
  have hk : 0 + 0 = 0 := rfl
  have hl := lv_entry ([.ref h0, .int i]) (n := 2) (Nat.le_of_ble_eq_true rfl)
  rw [lg_entry_eq]
  generalize (lg_sl ([.ref h0, .int i]) ++ List.replicate (2 - (lg_sl ([.ref h0, .int i])).length) Slot.unset).toArray = ls at hl ⊢
  have hl : lv_has ls 2 [(0, .ref h0), (1, .int i)] := hl
  unfold A_PP_mandatory at hr0
  refine lv_aload_n hx hb d_PP_mandatory_0 rfl (lv_at hl 0 rfl) ?_
  refine va_get (D := G.1) (ci := 5) (v := .ref (ad 0)) (C := RPP) (T := TPP) (N := 5) hx hb hts inPP hown hK hB.1 0 rfl rfl 0 (by decide) (hts _ fl_PP_10) (fun _ h9 => h9) rfl d_PP_mandatory_1 ?_
  refine lv_iload_n hx hb d_PP_mandatory_4 rfl (lv_at hl 1 rfl) ?_
  refine rdV (G := G) (As := [.int i]) (rest := []) (C := RST) ⟨hx, hb, hml, hown, hts⟩ (c_ST_has l G (ad 0) adS (gPP_statements σ) i _ _ (bk_gP (k := 1) hB.1 rfl) h2 _ rfl) (cwV 1 hts (gd_V ml_PP_51 im_ST_has sl_ST_has ini_ST k_ST_has) rfl rmK_c rmK_s (by decide +kernel) ⟨Nat.le_of_ble_eq_true rfl, Nat.le_of_ble_eq_true rfl⟩) hK (pST_recv hK (bk_gP (k := 1) hB.1 rfl) h2) hS ⟨Nat.le.intro hk, Nat.le.intro hk⟩ rfl hl.1 (Nat.le_of_ble_eq_true rfl) d_PP_mandatory_5 (fun locs hS => ?_)
  refine lv_if_eq (tgt := 22) hx hb d_PP_mandatory_8 (by decide) (fun c9 => ?_) (fun c9 => ?_)
  · have hr0 := ai_pos c9 hr0
    refine lv_iconst (v := (-1)) hx hb d_PP_mandatory_22 (by decide) ?_
    subst hr0
    refine W.widen (k := 0) (n := 0) (Nat.le_refl _) (Nat.le_refl _) ?_
    exact W.iret (v := (-1)) hx hb hr (fun t ht hW => ⟨⟨(-1), [[(h0, .inr (5, [.ref (ad 0), .ref (ad 1), .ref (ad 2), .ref (ad 3), .int (gPP_puts σ)]))], w1, w3, w5, w7].flatten, rfl, ⟨rfl, ⟨w1, w3, w5, w7, rfl, h2, h4, h6, h8⟩⟩, by rw [ht]; exact hB.1, hB.2⟩, hS.F ht⟩) hS.2.2 d_PP_mandatory_23
  · have hr0 := ai_neg c9 hr0
    refine lv_aload_n hx hb d_PP_mandatory_11 rfl (lv_at hl 0 rfl) ?_
    refine va_get (D := G.1) (ci := 5) (v := .ref (ad 0)) (C := RPP) (T := TPP) (N := 5) hx hb hts inPP hown hK hB.1 0 rfl rfl 0 (by decide) (hts _ fl_PP_10) (fun _ h9 => h9) rfl d_PP_mandatory_12 ?_
    refine lv_iload_n hx hb d_PP_mandatory_15 rfl (lv_at hl 1 rfl) ?_
    refine rdV (G := G) (As := [.int i]) (rest := []) (C := RST) ⟨hx, hb, hml, hown, hts⟩ (c_ST_taking l G (ad 0) adS (gPP_statements σ) i _ _ (bk_gP (k := 1) hB.1 rfl) h2 _ rfl) (cwV 1 hts (gd_V ml_PP_55 im_ST_taking sl_ST_taking ini_ST k_ST_taking) rfl rmK_c rmK_s (by decide +kernel) ⟨Nat.le_of_ble_eq_true rfl, Nat.le_of_ble_eq_true rfl⟩) hK (pST_recv hK (bk_gP (k := 1) hB.1 rfl) h2) hS ⟨Nat.le.intro hk, Nat.le.intro hk⟩ rfl hl.1 (Nat.le_of_ble_eq_true rfl) d_PP_mandatory_16 (fun locs hS => ?_)
    refine lv_if_eq (tgt := 24) hx hb d_PP_mandatory_19 (by decide) (fun c10 => ?_) (fun c10 => ?_)
    · have hr0 := ai_pos c10 hr0
      refine lv_aload_n hx hb d_PP_mandatory_24 rfl (lv_at hl 0 rfl) ?_
      refine va_get (D := G.1) (ci := 5) (v := .ref (ad 0)) (C := RPP) (T := TPP) (N := 5) hx hb hts inPP hown hK hB.1 0 rfl rfl 0 (by decide) (hts _ fl_PP_10) (fun _ h9 => h9) rfl d_PP_mandatory_25 ?_
      refine lv_iload_n hx hb d_PP_mandatory_28 rfl (lv_at hl 1 rfl) ?_
      refine rdV (G := G) (As := [.int i]) (rest := []) (C := RST) ⟨hx, hb, hml, hown, hts⟩ (c_ST_isMandatory l G (ad 0) adS (gPP_statements σ) i _ _ (bk_gP (k := 1) hB.1 rfl) h2 _ rfl) (cwV 1 hts (gd_V ml_PP_58 im_ST_isMandatory sl_ST_isMandatory ini_ST k_ST_isMandatory) rfl rmK_c rmK_s (by decide +kernel) ⟨Nat.le_of_ble_eq_true rfl, Nat.le_of_ble_eq_true rfl⟩) hK (pST_recv hK (bk_gP (k := 1) hB.1 rfl) h2) hS ⟨Nat.le.intro hk, Nat.le.intro hk⟩ rfl hl.1 (Nat.le_of_ble_eq_true rfl) d_PP_mandatory_29 (fun locs hS => ?_)
      refine lv_if_ne (tgt := 47) hx hb d_PP_mandatory_32 (by decide) (fun c11 => ?_) (fun c11 => ?_)
      · have hr0 := ai_neg c11 hr0
        refine lv_iconst (v := (-1)) hx hb d_PP_mandatory_47 (by decide) ?_
        subst hr0
        refine W.widen (k := 0) (n := 0) (Nat.le_refl _) (Nat.le_refl _) ?_
        exact W.iret (v := (-1)) hx hb hr (fun t ht hW => ⟨⟨(-1), [[(h0, .inr (5, [.ref (ad 0), .ref (ad 1), .ref (ad 2), .ref (ad 3), .int (gPP_puts σ)]))], w1, w3, w5, w7].flatten, rfl, ⟨rfl, ⟨w1, w3, w5, w7, rfl, h2, h4, h6, h8⟩⟩, by rw [ht]; exact hB.1, hB.2⟩, hS.F ht⟩) hS.2.2 d_PP_mandatory_48
      · have hr0 := ai_pos c11 hr0
        refine lv_aload_n hx hb d_PP_mandatory_35 rfl (lv_at hl 0 rfl) ?_
        refine va_get (D := G.1) (ci := 5) (v := .ref (ad 0)) (C := RPP) (T := TPP) (N := 5) hx hb hts inPP hown hK hB.1 0 rfl rfl 0 (by decide) (hts _ fl_PP_10) (fun _ h9 => h9) rfl d_PP_mandatory_36 ?_
        refine rdV (G := G) (As := []) (rest := []) (C := RST) ⟨hx, hb, hml, hown, hts⟩ (c_ST_mandatories l G (ad 0) adS (gPP_statements σ) _ _ (bk_gP (k := 1) hB.1 rfl) h2 _ rfl) (cwV 0 hts (gd_V ml_PP_61 im_ST_mandatories sl_ST_mandatories ini_ST k_ST_mandatories) rfl rmK_c rmK_s (by decide +kernel) ⟨Nat.le_of_ble_eq_true rfl, Nat.le_of_ble_eq_true rfl⟩) hK (pST_recv hK (bk_gP (k := 1) hB.1 rfl) h2) hS ⟨Nat.le.intro hk, Nat.le.intro hk⟩ rfl hl.1 (Nat.le_of_ble_eq_true rfl) d_PP_mandatory_39 (fun locs hS => ?_)
        refine lv_bipush (v := 60) hx hb d_PP_mandatory_42 (by decide) ?_
        refine lv_icmp_lt (tgt := 49) hx hb d_PP_mandatory_44 (by decide) (fun c12 => ?_) (fun c12 => ?_)
        · have hr0 := ai_pos c12 hr0
          refine lv_aload_n hx hb d_PP_mandatory_49 rfl (lv_at hl 0 rfl) ?_
          refine va_get (D := G.1) (ci := 5) (v := .ref (ad 0)) (C := RPP) (T := TPP) (N := 5) hx hb hts inPP hown hK hB.1 0 rfl rfl 0 (by decide) (hts _ fl_PP_10) (fun _ h9 => h9) rfl d_PP_mandatory_50 ?_
          refine lv_iload_n hx hb d_PP_mandatory_53 rfl (lv_at hl 1 rfl) ?_
          obtain ⟨T13, hT14⟩ : ∃ z, A_ST_addMandatory (gPP_statements σ) i = z := ⟨_, rfl⟩
          refine wrVi0 (G := G) (k := 1) (As := [.int i]) (rest := []) (C := RST) ⟨hx, hb, hml, hown, hts⟩ (c_ST_addMandatory l G (ad 0) adS (gPP_statements σ) i _ _ (bk_gP (k := 1) hB.1 rfl) (bk_own (k := 1) hB rfl) h2 T13 hT14) (cwV 1 hts (gd_V ml_PP_64 im_ST_addMandatory sl_ST_addMandatory ini_ST k_ST_addMandatory) rfl rmK_c rmK_s (by decide +kernel) ⟨Nat.le_of_ble_eq_true rfl, Nat.le_of_ble_eq_true rfl⟩) hK (pST_recv hK (bk_gP (k := 1) hB.1 rfl) h2) hS hA hB rfl hk ⟨rfl, rfl⟩ rfl hl.1 (Nat.le_of_ble_eq_true rfl) d_PP_mandatory_54 (fun u15 H locs hu16 hB hS => ?_)
          have hr0 := bnd_e hT14 hr0
          have hB : bk G.1 vwCl A [[(h0, .inr (5, [.ref (ad 0), .ref (ad 1), .ref (ad 2), .ref (ad 3), .int (gPP_puts σ)]))], u15, w3, w5, w7] H := hB
          subst hr0
          refine W.widen (k := 0) (n := 0) (Nat.le_refl _) (Nat.le_refl _) ?_
          exact W.iret (v := T13.1) hx hb hr (fun t ht hW => ⟨⟨T13.1, [[(h0, .inr (5, [.ref (ad 0), .ref (ad 1), .ref (ad 2), .ref (ad 3), .int (gPP_puts σ)]))], u15, w3, w5, w7].flatten, rfl, ⟨rfl, ⟨u15, w3, w5, w7, rfl, hu16, h4, h6, h8⟩⟩, by rw [ht]; exact hB.1, hB.2⟩, hS.F ht⟩) hS.2.2 d_PP_mandatory_57
        · have hr0 := ai_neg c12 hr0
          refine lv_iconst (v := (-1)) hx hb d_PP_mandatory_47 (by decide) ?_
          subst hr0
          refine W.widen (k := 0) (n := 0) (Nat.le_refl _) (Nat.le_refl _) ?_
          exact W.iret (v := (-1)) hx hb hr (fun t ht hW => ⟨⟨(-1), [[(h0, .inr (5, [.ref (ad 0), .ref (ad 1), .ref (ad 2), .ref (ad 3), .int (gPP_puts σ)]))], w1, w3, w5, w7].flatten, rfl, ⟨rfl, ⟨w1, w3, w5, w7, rfl, h2, h4, h6, h8⟩⟩, by rw [ht]; exact hB.1, hB.2⟩, hS.F ht⟩) hS.2.2 d_PP_mandatory_48
    · have hr0 := ai_neg c10 hr0
      refine lv_iconst (v := (-1)) hx hb d_PP_mandatory_22 (by decide) ?_
      subst hr0
      refine W.widen (k := 0) (n := 0) (Nat.le_refl _) (Nat.le_refl _) ?_
      exact W.iret (v := (-1)) hx hb hr (fun t ht hW => ⟨⟨(-1), [[(h0, .inr (5, [.ref (ad 0), .ref (ad 1), .ref (ad 2), .ref (ad 3), .int (gPP_puts σ)]))], w1, w3, w5, w7].flatten, rfl, ⟨rfl, ⟨w1, w3, w5, w7, rfl, h2, h4, h6, h8⟩⟩, by rw [ht]; exact hB.1, hB.2⟩, hS.F ht⟩) hS.2.2 d_PP_mandatory_23

def A_PP_make (σ : tPP) (i : Int32) : Int32 × tPP := if (A_ST_has (gPP_statements σ) i) = 0 then ((-1), σ) else (if ((A_IL_length (gPP_pile σ)) - (A_ST_taking (gPP_statements σ) i)) < 0 then ((-1), σ) else (if 4000 ≤ (A_RW_amount (gPP_rows σ)) then ((-1), σ) else (if (A_PP_mayPutOn σ ((A_IL_length (gPP_pile σ)) - (A_ST_taking (gPP_statements σ) i))) = 0 then ((-1), σ) else (bnd (A_RW_add (gPP_rows σ) (gPP_pile σ) i ((A_IL_length (gPP_pile σ)) - (A_ST_taking (gPP_statements σ) i))) (fun T14 => bnd (A_PP_putOn (uPP_pile (uPP_rows σ T14.2) (A_IL_cut (gPP_pile σ) ((A_IL_length (gPP_pile σ)) - (A_ST_taking (gPP_statements σ) i)))) T14.1) (fun T21 => (T14.1, T21)))))))
def K_PP_make (σ : tPP) (i : Int32) : Nat := if (A_ST_has (gPP_statements σ) i) = 0 then 0 else (if ((A_IL_length (gPP_pile σ)) - (A_ST_taking (gPP_statements σ) i)) < 0 then 0 else (if 4000 ≤ (A_RW_amount (gPP_rows σ)) then 0 else (if (A_PP_mayPutOn σ ((A_IL_length (gPP_pile σ)) - (A_ST_taking (gPP_statements σ) i))) = 0 then 0 else ((K_RW_add (gPP_rows σ) (gPP_pile σ) i ((A_IL_length (gPP_pile σ)) - (A_ST_taking (gPP_statements σ) i))) + (bnd (A_RW_add (gPP_rows σ) (gPP_pile σ) i ((A_IL_length (gPP_pile σ)) - (A_ST_taking (gPP_statements σ) i))) (fun T14 => (K_PP_putOn (uPP_pile (uPP_rows σ T14.2) (A_IL_cut (gPP_pile σ) ((A_IL_length (gPP_pile σ)) - (A_ST_taking (gPP_statements σ) i)))) T14.1) + (bnd (A_PP_putOn (uPP_pile (uPP_rows σ T14.2) (A_IL_cut (gPP_pile σ) ((A_IL_length (gPP_pile σ)) - (A_ST_taking (gPP_statements σ) i)))) T14.1) (fun T21 => 0))))))))
set_option maxHeartbeats 4000000 in
set_option maxRecDepth 100000 in
theorem c_PP_make (l : Launch) (G : pG) (h0 : Nat) (ad : Nat → Nat) (adS : Nat → Nat) (adR : Nat → Nat) (adT : Nat → Nat) (adL : Nat → Nat) (σ : tPP) (i : Int32) (H : Heap) (w : va_W) (hP0 : va_P G.1 vwCl w H) (hD0 : va_D (fun _ => True) w) (hσ : pPP G h0 ad adS adR adT adL σ w) (res : Int32 × tPP) (hr0 : A_PP_make σ i = res) (Kt : Nat) (hk : K_PP_make σ i = Kt) (hKb : Kt ≤ 16777216) : MWi l y_PP_make w_PP_make 6 154 Kt G [.ref h0, .int i] H w res.1 (pPP G h0 ad adS adR adT adL res.2) := by
  refine Met.ofW (cc := b_PP_make) (maxL := 4) (ret := (some .int)) (by decide) rfl ?_
  intro p e s m args below meth c s₁ B hml hv
  obtain ⟨rfl, rfl, hK⟩ := hv
  have hx := B.exec
  have hb := B.bytes
  have hr := B.returns
  have hts0 := atoms_spec (ws := w_PP_make) B.pre
  have hts := fun w (h : w ∈ lw_g) => hts0 w (List.mem_cons_of_mem _ h)
  have hown : s.vm.findClass RPP = some m.cls := findClass_of_methodNamed B.named
  have hlocks := B.notSynchronized
  have hA : ∀ q : Nat, s.heap.size ≤ q → va_A w s.heap.size q := fun _ h => Or.inr h
  have hB : bk G.1 vwCl (va_A w s.heap.size) [w] s.heap := bk_init hP0 hD0
  generalize va_A w s.heap.size = A at *
  have hS : va_S A s.heap s.heap [] := va_S.rf
  obtain ⟨w1, w3, w5, w7, rfl, h2, h4, h6, h8⟩ := hσ
  have hB := bk_many hB
  have hk : 0 + K_PP_make σ i = Kt := (Nat.zero_add _).trans hk
  have hl := lv_entry ([.ref h0, .int i]) (n := 4) (Nat.le_of_ble_eq_true rfl)
  rw [lg_entry_eq]
  generalize (lg_sl ([.ref h0, .int i]) ++ List.replicate (4 - (lg_sl ([.ref h0, .int i])).length) Slot.unset).toArray = ls at hl ⊢
  have hl : lv_has ls 4 [(0, .ref h0), (1, .int i)] := hl
  unfold A_PP_make at hr0
  unfold K_PP_make at hk
  refine lv_aload_n hx hb d_PP_make_0 rfl (lv_at hl 0 rfl) ?_
  refine va_get (D := G.1) (ci := 5) (v := .ref (ad 0)) (C := RPP) (T := TPP) (N := 5) hx hb hts inPP hown hK hB.1 0 rfl rfl 0 (by decide) (hts _ fl_PP_10) (fun _ h9 => h9) rfl d_PP_make_1 ?_
  refine lv_iload_n hx hb d_PP_make_4 rfl (lv_at hl 1 rfl) ?_
  refine rdV (G := G) (As := [.int i]) (rest := []) (C := RST) ⟨hx, hb, hml, hown, hts⟩ (c_ST_has l G (ad 0) adS (gPP_statements σ) i _ _ (bk_gP (k := 1) hB.1 rfl) h2 _ rfl) (cwV 1 hts (gd_V ml_PP_51 im_ST_has sl_ST_has ini_ST k_ST_has) rfl rmK_c rmK_s (by decide +kernel) ⟨Nat.le_of_ble_eq_true rfl, Nat.le_of_ble_eq_true rfl⟩) hK (pST_recv hK (bk_gP (k := 1) hB.1 rfl) h2) hS ⟨Nat.le.intro hk, Nat.le.intro hk⟩ rfl hl.1 (Nat.le_of_ble_eq_true rfl) d_PP_make_5 (fun locs hS => ?_)
  refine lv_if_ne (tgt := 13) hx hb d_PP_make_8 (by decide) (fun c9 => ?_) (fun c9 => ?_)
  · have hr0 := ai_neg c9 hr0
    have hk := ki_neg c9 hk
    refine lv_aload_n hx hb d_PP_make_13 rfl (lv_at hl 0 rfl) ?_
    refine va_get (D := G.1) (ci := 5) (v := .ref (ad 3)) (C := RPP) (T := TPP) (N := 5) hx hb hts inPP hown hK hB.1 0 rfl rfl 3 (by decide) (hts _ fl_PP_35) (fun _ h9 => h9) rfl d_PP_make_14 ?_
    refine rdV (G := G) (As := []) (rest := []) (C := RIL) ⟨hx, hb, hml, hown, hts⟩ (c_IL_length l G (ad 3) (gPP_pile σ) _ _ (bk_gP (k := 4) hB.1 rfl) h8 _ rfl) (cwV 0 hts (gd_V ml_PP_67 im_IL_length sl_IL_length ini_IL k_IL_length) rfl rmK_c rmK_s (by decide +kernel) ⟨Nat.le_of_ble_eq_true rfl, Nat.le_of_ble_eq_true rfl⟩) hK (pIL_recv hK (bk_gP (k := 4) hB.1 rfl) h8) hS ⟨Nat.le.intro hk, Nat.le.intro hk⟩ rfl hl.1 (Nat.le_of_ble_eq_true rfl) d_PP_make_17 (fun locs hS => ?_)
    refine lv_aload_n hx hb d_PP_make_20 rfl (lv_at hl 0 rfl) ?_
    refine va_get (D := G.1) (ci := 5) (v := .ref (ad 0)) (C := RPP) (T := TPP) (N := 5) hx hb hts inPP hown hK hB.1 0 rfl rfl 0 (by decide) (hts _ fl_PP_10) (fun _ h9 => h9) rfl d_PP_make_21 ?_
    refine lv_iload_n hx hb d_PP_make_24 rfl (lv_at hl 1 rfl) ?_
    refine rdV (G := G) (As := [.int i]) (rest := [.int (A_IL_length (gPP_pile σ))]) (C := RST) ⟨hx, hb, hml, hown, hts⟩ (c_ST_taking l G (ad 0) adS (gPP_statements σ) i _ _ (bk_gP (k := 1) hB.1 rfl) h2 _ rfl) (cwV 1 hts (gd_V ml_PP_55 im_ST_taking sl_ST_taking ini_ST k_ST_taking) rfl rmK_c rmK_s (by decide +kernel) ⟨Nat.le_of_ble_eq_true rfl, Nat.le_of_ble_eq_true rfl⟩) hK (pST_recv hK (bk_gP (k := 1) hB.1 rfl) h2) hS ⟨Nat.le.intro hk, Nat.le.intro hk⟩ rfl hl.1 (Nat.le_of_ble_eq_true rfl) d_PP_make_25 (fun locs hS => ?_)
    refine lv_isub hx hb d_PP_make_28 ?_
    refine lv_istore_n (lv' := [(2, .int ((A_IL_length (gPP_pile σ)) - (A_ST_taking (gPP_statements σ) i))), (0, .ref h0), (1, .int i)]) hx hb d_PP_make_29 rfl hl (by decide) rfl (fun ls hl => ?_)
    refine lv_iload_n hx hb d_PP_make_30 rfl (lv_at hl 0 rfl) ?_
    refine lv_if_lt (tgt := 55) hx hb d_PP_make_31 (by decide) (fun c10 => ?_) (fun c10 => ?_)
    · have hr0 := ai_pos c10 hr0
      have hk := ki_pos c10 hk
      refine lv_iconst (v := (-1)) hx hb d_PP_make_55 (by decide) ?_
      subst hr0
      refine W.widen (k := Kt) (n := Kt) (Nat.le.intro hk) (Nat.le.intro hk) ?_
      exact W.iret (v := (-1)) hx hb hr (fun t ht hW => ⟨⟨(-1), [[(h0, .inr (5, [.ref (ad 0), .ref (ad 1), .ref (ad 2), .ref (ad 3), .int (gPP_puts σ)]))], w1, w3, w5, w7].flatten, rfl, ⟨rfl, ⟨w1, w3, w5, w7, rfl, h2, h4, h6, h8⟩⟩, by rw [ht]; exact hB.1, hB.2⟩, hS.F ht⟩) hS.2.2 d_PP_make_56
    · have hr0 := ai_neg c10 hr0
      have hk := ki_neg c10 hk
      refine lv_aload_n hx hb d_PP_make_34 rfl (lv_at hl 1 rfl) ?_
      refine va_get (D := G.1) (ci := 5) (v := .ref (ad 1)) (C := RPP) (T := TPP) (N := 5) hx hb hts inPP hown hK hB.1 0 rfl rfl 1 (by decide) (hts _ fl_PP_19) (fun _ h9 => h9) rfl d_PP_make_35 ?_
      refine rdV (G := G) (As := []) (rest := []) (C := RRW) ⟨hx, hb, hml, hown, hts⟩ (c_RW_amount l G (ad 1) adR (gPP_rows σ) _ _ (bk_gP (k := 2) hB.1 rfl) h4 _ rfl) (cwV 0 hts (gd_V ml_PP_70 im_RW_amount sl_RW_amount ini_RW k_RW_amount) rfl rmK_c rmK_s (by decide +kernel) ⟨Nat.le_of_ble_eq_true rfl, Nat.le_of_ble_eq_true rfl⟩) hK (pRW_recv hK (bk_gP (k := 2) hB.1 rfl) h4) hS ⟨Nat.le.intro hk, Nat.le.intro hk⟩ rfl hl.1 (Nat.le_of_ble_eq_true rfl) d_PP_make_38 (fun locs hS => ?_)
      refine lv_sipush (v := 4000) hx hb d_PP_make_41 (by decide) ?_
      refine lv_icmp_ge (tgt := 55) hx hb d_PP_make_44 (by decide) (fun c11 => ?_) (fun c11 => ?_)
      · have hr0 := ai_pos c11 hr0
        have hk := ki_pos c11 hk
        refine lv_iconst (v := (-1)) hx hb d_PP_make_55 (by decide) ?_
        subst hr0
        refine W.widen (k := Kt) (n := Kt) (Nat.le.intro hk) (Nat.le.intro hk) ?_
        exact W.iret (v := (-1)) hx hb hr (fun t ht hW => ⟨⟨(-1), [[(h0, .inr (5, [.ref (ad 0), .ref (ad 1), .ref (ad 2), .ref (ad 3), .int (gPP_puts σ)]))], w1, w3, w5, w7].flatten, rfl, ⟨rfl, ⟨w1, w3, w5, w7, rfl, h2, h4, h6, h8⟩⟩, by rw [ht]; exact hB.1, hB.2⟩, hS.F ht⟩) hS.2.2 d_PP_make_56
      · have hr0 := ai_neg c11 hr0
        have hk := ki_neg c11 hk
        refine lv_aload_n hx hb d_PP_make_47 rfl (lv_at hl 1 rfl) ?_
        refine lv_iload_n hx hb d_PP_make_48 rfl (lv_at hl 0 rfl) ?_
        have hpk12 : pPP G h0 ad adS adR adT adL σ ([[(h0, .inr (5, [.ref (ad 0), .ref (ad 1), .ref (ad 2), .ref (ad 3), .int (gPP_puts σ)]))], w1, w3, w5, w7].flatten) := ⟨w1, w3, w5, w7, rfl, h2, h4, h6, h8⟩
        refine rdV (G := G) (As := [.int ((A_IL_length (gPP_pile σ)) - (A_ST_taking (gPP_statements σ) i))]) (rest := []) (C := RPP) ⟨hx, hb, hml, hown, hts⟩ (c_PP_mayPutOn l G h0 ad adS adR adT adL σ ((A_IL_length (gPP_pile σ)) - (A_ST_taking (gPP_statements σ) i)) _ _ hB.1 hpk12 _ rfl) (cwV 1 hts (gd_V ml_PP_71 im_PP_mayPutOn sl_PP_mayPutOn ini_PP k_PP_mayPutOn) rfl rmK_c rmK_s (by decide +kernel) ⟨Nat.le_of_ble_eq_true rfl, Nat.le_of_ble_eq_true rfl⟩) hK (pPP_recv hK hB.1 hpk12) hS ⟨Nat.le.intro hk, Nat.le.intro hk⟩ rfl hl.1 (Nat.le_of_ble_eq_true rfl) d_PP_make_49 (fun locs hS => ?_)
        refine lv_if_ne (tgt := 57) hx hb d_PP_make_52 (by decide) (fun c13 => ?_) (fun c13 => ?_)
        · have hr0 := ai_neg c13 hr0
          have hk := ki_neg c13 hk
          refine lv_aload_n hx hb d_PP_make_57 rfl (lv_at hl 1 rfl) ?_
          refine va_get (D := G.1) (ci := 5) (v := .ref (ad 1)) (C := RPP) (T := TPP) (N := 5) hx hb hts inPP hown hK hB.1 0 rfl rfl 1 (by decide) (hts _ fl_PP_19) (fun _ h9 => h9) rfl d_PP_make_58 ?_
          refine lv_iload_n hx hb d_PP_make_61 rfl (lv_at hl 2 rfl) ?_
          refine lv_aload_n hx hb d_PP_make_62 rfl (lv_at hl 1 rfl) ?_
          refine va_get (D := G.1) (ci := 5) (v := .ref (ad 3)) (C := RPP) (T := TPP) (N := 5) hx hb hts inPP hown hK hB.1 0 rfl rfl 3 (by decide) (hts _ fl_PP_35) (fun _ h9 => h9) rfl d_PP_make_63 ?_
          refine lv_iload_n hx hb d_PP_make_66 rfl (lv_at hl 0 rfl) ?_
          obtain ⟨T14, hT15⟩ : ∃ z, A_RW_add (gPP_rows σ) (gPP_pile σ) i ((A_IL_length (gPP_pile σ)) - (A_ST_taking (gPP_statements σ) i)) = z := ⟨_, rfl⟩
          refine wrVi (G := G) (k := 2) (As := [.int i, .ref (ad 3), .int ((A_IL_length (gPP_pile σ)) - (A_ST_taking (gPP_statements σ) i))]) (rest := []) (C := RRW) ⟨hx, hb, hml, hown, hts⟩ (c_RW_add l G (ad 1) adR (gPP_rows σ) i (ad 3) ((A_IL_length (gPP_pile σ)) - (A_ST_taking (gPP_statements σ) i)) _ _ (gPP_pile σ) _ (bk_gP (k := 4) hB.1 rfl) h8 (bk_dj' (i := 2) (j := 4) hB (by decide) rfl rfl) (bk_gP (k := 2) hB.1 rfl) (bk_own (k := 2) hB rfl) h4 T14 hT15 _ rfl (bk_ub hk hKb)) (cwV 3 hts (gd_V ml_PP_74 im_RW_add sl_RW_add ini_RW k_RW_add) rfl rmK_c rmK_s (by decide +kernel) ⟨Nat.le_of_ble_eq_true rfl, Nat.le_of_ble_eq_true rfl⟩) hK (pRW_recv hK (bk_gP (k := 2) hB.1 rfl) h4) hS hA hB rfl hk ⟨rfl, rfl⟩ rfl hl.1 (Nat.le_of_ble_eq_true rfl) d_PP_make_67 (fun u16 H locs kc hu17 hB hS hk => ?_)
          have hr0 := bnd_e hT15 hr0
          have hk := bnd_k hT15 hk
          have hB : bk G.1 vwCl A [[(h0, .inr (5, [.ref (ad 0), .ref (ad 1), .ref (ad 2), .ref (ad 3), .int (gPP_puts σ)]))], w1, u16, w5, w7] H := hB
          refine lv_istore_n (lv' := [(3, .int T14.1), (2, .int ((A_IL_length (gPP_pile σ)) - (A_ST_taking (gPP_statements σ) i))), (0, .ref h0), (1, .int i)]) hx hb d_PP_make_70 rfl hl (by decide) rfl (fun ls hl => ?_)
          refine lv_aload_n hx hb d_PP_make_71 rfl (lv_at hl 2 rfl) ?_
          refine va_get (D := G.1) (ci := 5) (v := .ref (ad 3)) (C := RPP) (T := TPP) (N := 5) hx hb hts inPP hown hK hB.1 0 rfl rfl 3 (by decide) (hts _ fl_PP_35) (fun _ h9 => h9) rfl d_PP_make_72 ?_
          refine lv_iload_n hx hb d_PP_make_75 rfl (lv_at hl 1 rfl) ?_
          refine wrV0 (G := G) (k := 4) (As := [.int ((A_IL_length (gPP_pile σ)) - (A_ST_taking (gPP_statements σ) i))]) (rest := []) (C := RIL) ⟨hx, hb, hml, hown, hts⟩ (c_IL_cut l G (ad 3) (gPP_pile σ) ((A_IL_length (gPP_pile σ)) - (A_ST_taking (gPP_statements σ) i)) _ _ (bk_gP (k := 4) hB.1 rfl) (bk_own (k := 4) hB rfl) h8 _ rfl) (cwV 1 hts (gd_V ml_PP_77 im_IL_cut sl_IL_cut ini_IL k_IL_cut) rfl rmK_c rmK_s (by decide +kernel) ⟨Nat.le_of_ble_eq_true rfl, Nat.le_of_ble_eq_true rfl⟩) hK (pIL_recv hK (bk_gP (k := 4) hB.1 rfl) h8) hS hA hB rfl hk ⟨rfl, rfl⟩ rfl hl.1 (Nat.le_of_ble_eq_true rfl) d_PP_make_76 (fun u18 H locs hu19 hB hS => ?_)
          have hB : bk G.1 vwCl A [[(h0, .inr (5, [.ref (ad 0), .ref (ad 1), .ref (ad 2), .ref (ad 3), .int (gPP_puts σ)]))], w1, u16, w5, u18] H := hB
          refine lv_aload_n hx hb d_PP_make_79 rfl (lv_at hl 2 rfl) ?_
          refine lv_iload_n hx hb d_PP_make_80 rfl (lv_at hl 0 rfl) ?_
          have hB := bk_one hB
          have hpk20 : pPP G h0 ad adS adR adT adL (uPP_pile (uPP_rows σ T14.2) (A_IL_cut (gPP_pile σ) ((A_IL_length (gPP_pile σ)) - (A_ST_taking (gPP_statements σ) i)))) ([[(h0, .inr (5, [.ref (ad 0), .ref (ad 1), .ref (ad 2), .ref (ad 3), .int (gPP_puts σ)]))], w1, u16, w5, u18].flatten) := ⟨w1, u16, w5, u18, rfl, h2, hu17, h6, hu19⟩
          obtain ⟨T21, hT22⟩ : ∃ z, A_PP_putOn (uPP_pile (uPP_rows σ T14.2) (A_IL_cut (gPP_pile σ) ((A_IL_length (gPP_pile σ)) - (A_ST_taking (gPP_statements σ) i)))) T14.1 = z := ⟨_, rfl⟩
          refine wrV (G := G) (k := 0) (As := [.int T14.1]) (rest := []) (C := RPP) ⟨hx, hb, hml, hown, hts⟩ (c_PP_putOn l G h0 ad adS adR adT adL (uPP_pile (uPP_rows σ T14.2) (A_IL_cut (gPP_pile σ) ((A_IL_length (gPP_pile σ)) - (A_ST_taking (gPP_statements σ) i)))) T14.1 _ _ (bk_gP (k := 0) hB.1 rfl) (bk_own (k := 0) hB rfl) hpk20 T21 hT22 _ rfl (bk_ub hk hKb)) (cwV 1 hts (gd_V ml_PP_81 im_PP_putOn sl_PP_putOn ini_PP k_PP_putOn) rfl rmK_c rmK_s (by decide +kernel) ⟨Nat.le_of_ble_eq_true rfl, Nat.le_of_ble_eq_true rfl⟩) hK (pPP_recv hK (bk_gP (k := 0) hB.1 rfl) hpk20) hS hA hB rfl hk ⟨rfl, rfl⟩ rfl hl.1 (Nat.le_of_ble_eq_true rfl) d_PP_make_81 (fun u23 H locs kc hu24 hB hS hk => ?_)
          have hr0 := bnd_e hT22 hr0
          have hk := bnd_k hT22 hk
          have hB : bk G.1 vwCl A [u23] H := hB
          obtain ⟨w25, w27, w29, w31, rfl, h26, h28, h30, h32⟩ := hu24
          have hB : bk G.1 vwCl A [[(h0, .inr (5, [.ref (ad 0), .ref (ad 1), .ref (ad 2), .ref (ad 3), .int (gPP_puts T21)]))], w25, w27, w29, w31] H := bk_many hB
          refine lv_iload_n hx hb d_PP_make_84 rfl (lv_at hl 0 rfl) ?_
          subst hr0
          refine W.widen (k := Kt) (n := Kt) (Nat.le.intro hk) (Nat.le.intro hk) ?_
          exact W.iret (v := T14.1) hx hb hr (fun t ht hW => ⟨⟨T14.1, [[(h0, .inr (5, [.ref (ad 0), .ref (ad 1), .ref (ad 2), .ref (ad 3), .int (gPP_puts T21)]))], w25, w27, w29, w31].flatten, rfl, ⟨rfl, ⟨w25, w27, w29, w31, rfl, h26, h28, h30, h32⟩⟩, by rw [ht]; exact hB.1, hB.2⟩, hS.F ht⟩) hS.2.2 d_PP_make_85
        · have hr0 := ai_pos c13 hr0
          have hk := ki_pos c13 hk
          refine lv_iconst (v := (-1)) hx hb d_PP_make_55 (by decide) ?_
          subst hr0
          refine W.widen (k := Kt) (n := Kt) (Nat.le.intro hk) (Nat.le.intro hk) ?_
          exact W.iret (v := (-1)) hx hb hr (fun t ht hW => ⟨⟨(-1), [[(h0, .inr (5, [.ref (ad 0), .ref (ad 1), .ref (ad 2), .ref (ad 3), .int (gPP_puts σ)]))], w1, w3, w5, w7].flatten, rfl, ⟨rfl, ⟨w1, w3, w5, w7, rfl, h2, h4, h6, h8⟩⟩, by rw [ht]; exact hB.1, hB.2⟩, hS.F ht⟩) hS.2.2 d_PP_make_56
  · have hr0 := ai_pos c9 hr0
    have hk := ki_pos c9 hk
    refine lv_iconst (v := (-1)) hx hb d_PP_make_11 (by decide) ?_
    subst hr0
    refine W.widen (k := Kt) (n := Kt) (Nat.le.intro hk) (Nat.le.intro hk) ?_
    exact W.iret (v := (-1)) hx hb hr (fun t ht hW => ⟨⟨(-1), [[(h0, .inr (5, [.ref (ad 0), .ref (ad 1), .ref (ad 2), .ref (ad 3), .int (gPP_puts σ)]))], w1, w3, w5, w7].flatten, rfl, ⟨rfl, ⟨w1, w3, w5, w7, rfl, h2, h4, h6, h8⟩⟩, by rw [ht]; exact hB.1, hB.2⟩, hS.F ht⟩) hS.2.2 d_PP_make_12

def A_PP_again (σ : tPP) (r : Int32) : Int32 × tPP := if (A_RW_has (gPP_rows σ) r) = 0 then ((-1), σ) else (if (A_PP_mayPutOn σ (A_IL_length (gPP_pile σ))) = 0 then ((-1), σ) else (bnd (A_PP_putOn σ r) (fun T13 => (A_IL_length (gPP_pile T13), T13))))
def K_PP_again (σ : tPP) (r : Int32) : Nat := if (A_RW_has (gPP_rows σ) r) = 0 then 0 else (if (A_PP_mayPutOn σ (A_IL_length (gPP_pile σ))) = 0 then 0 else ((K_PP_putOn σ r) + (bnd (A_PP_putOn σ r) (fun T13 => 0))))
set_option maxHeartbeats 4000000 in
set_option maxRecDepth 100000 in
theorem c_PP_again (l : Launch) (G : pG) (h0 : Nat) (ad : Nat → Nat) (adS : Nat → Nat) (adR : Nat → Nat) (adT : Nat → Nat) (adL : Nat → Nat) (σ : tPP) (r : Int32) (H : Heap) (w : va_W) (hP0 : va_P G.1 vwCl w H) (hD0 : va_D (fun _ => True) w) (hσ : pPP G h0 ad adS adR adT adL σ w) (res : Int32 × tPP) (hr0 : A_PP_again σ r = res) (Kt : Nat) (hk : K_PP_again σ r = Kt) (hKb : Kt ≤ 16777216) : MWi l y_PP_again w_PP_again 4 124 Kt G [.ref h0, .int r] H w res.1 (pPP G h0 ad adS adR adT adL res.2) := by
  refine Met.ofW (cc := b_PP_again) (maxL := 2) (ret := (some .int)) (by decide) rfl ?_
  intro p e s m args below meth c s₁ B hml hv
  obtain ⟨rfl, rfl, hK⟩ := hv
  have hx := B.exec
  have hb := B.bytes
  have hr := B.returns
  have hts0 := atoms_spec (ws := w_PP_again) B.pre
  have hts := fun w (h : w ∈ lw_g) => hts0 w (List.mem_cons_of_mem _ h)
  have hown : s.vm.findClass RPP = some m.cls := findClass_of_methodNamed B.named
  have hlocks := B.notSynchronized
  have hA : ∀ q : Nat, s.heap.size ≤ q → va_A w s.heap.size q := fun _ h => Or.inr h
  have hB : bk G.1 vwCl (va_A w s.heap.size) [w] s.heap := bk_init hP0 hD0
  generalize va_A w s.heap.size = A at *
  have hS : va_S A s.heap s.heap [] := va_S.rf
  obtain ⟨w1, w3, w5, w7, rfl, h2, h4, h6, h8⟩ := hσ
  have hB := bk_many hB
  have hk : 0 + K_PP_again σ r = Kt := (Nat.zero_add _).trans hk
  have hl := lv_entry ([.ref h0, .int r]) (n := 2) (Nat.le_of_ble_eq_true rfl)
  rw [lg_entry_eq]
  generalize (lg_sl ([.ref h0, .int r]) ++ List.replicate (2 - (lg_sl ([.ref h0, .int r])).length) Slot.unset).toArray = ls at hl ⊢
  have hl : lv_has ls 2 [(0, .ref h0), (1, .int r)] := hl
  unfold A_PP_again at hr0
  unfold K_PP_again at hk
  refine lv_aload_n hx hb d_PP_again_0 rfl (lv_at hl 0 rfl) ?_
  refine va_get (D := G.1) (ci := 5) (v := .ref (ad 1)) (C := RPP) (T := TPP) (N := 5) hx hb hts inPP hown hK hB.1 0 rfl rfl 1 (by decide) (hts _ fl_PP_19) (fun _ h9 => h9) rfl d_PP_again_1 ?_
  refine lv_iload_n hx hb d_PP_again_4 rfl (lv_at hl 1 rfl) ?_
  refine rdV (G := G) (As := [.int r]) (rest := []) (C := RRW) ⟨hx, hb, hml, hown, hts⟩ (c_RW_has l G (ad 1) adR (gPP_rows σ) r _ _ (bk_gP (k := 2) hB.1 rfl) h4 _ rfl) (cwV 1 hts (gd_V ml_PP_84 im_RW_has sl_RW_has ini_RW k_RW_has) rfl rmK_c rmK_s (by decide +kernel) ⟨Nat.le_of_ble_eq_true rfl, Nat.le_of_ble_eq_true rfl⟩) hK (pRW_recv hK (bk_gP (k := 2) hB.1 rfl) h4) hS ⟨Nat.le.intro hk, Nat.le.intro hk⟩ rfl hl.1 (Nat.le_of_ble_eq_true rfl) d_PP_again_5 (fun locs hS => ?_)
  refine lv_if_eq (tgt := 25) hx hb d_PP_again_8 (by decide) (fun c9 => ?_) (fun c9 => ?_)
  · have hr0 := ai_pos c9 hr0
    have hk := ki_pos c9 hk
    refine lv_iconst (v := (-1)) hx hb d_PP_again_25 (by decide) ?_
    subst hr0
    refine W.widen (k := Kt) (n := Kt) (Nat.le.intro hk) (Nat.le.intro hk) ?_
    exact W.iret (v := (-1)) hx hb hr (fun t ht hW => ⟨⟨(-1), [[(h0, .inr (5, [.ref (ad 0), .ref (ad 1), .ref (ad 2), .ref (ad 3), .int (gPP_puts σ)]))], w1, w3, w5, w7].flatten, rfl, ⟨rfl, ⟨w1, w3, w5, w7, rfl, h2, h4, h6, h8⟩⟩, by rw [ht]; exact hB.1, hB.2⟩, hS.F ht⟩) hS.2.2 d_PP_again_26
  · have hr0 := ai_neg c9 hr0
    have hk := ki_neg c9 hk
    refine lv_aload_n hx hb d_PP_again_11 rfl (lv_at hl 0 rfl) ?_
    refine lv_aload_n hx hb d_PP_again_12 rfl (lv_at hl 0 rfl) ?_
    refine va_get (D := G.1) (ci := 5) (v := .ref (ad 3)) (C := RPP) (T := TPP) (N := 5) hx hb hts inPP hown hK hB.1 0 rfl rfl 3 (by decide) (hts _ fl_PP_35) (fun _ h9 => h9) rfl d_PP_again_13 ?_
    refine rdV (G := G) (As := []) (rest := [.ref h0]) (C := RIL) ⟨hx, hb, hml, hown, hts⟩ (c_IL_length l G (ad 3) (gPP_pile σ) _ _ (bk_gP (k := 4) hB.1 rfl) h8 _ rfl) (cwV 0 hts (gd_V ml_PP_67 im_IL_length sl_IL_length ini_IL k_IL_length) rfl rmK_c rmK_s (by decide +kernel) ⟨Nat.le_of_ble_eq_true rfl, Nat.le_of_ble_eq_true rfl⟩) hK (pIL_recv hK (bk_gP (k := 4) hB.1 rfl) h8) hS ⟨Nat.le.intro hk, Nat.le.intro hk⟩ rfl hl.1 (Nat.le_of_ble_eq_true rfl) d_PP_again_16 (fun locs hS => ?_)
    have hpk10 : pPP G h0 ad adS adR adT adL σ ([[(h0, .inr (5, [.ref (ad 0), .ref (ad 1), .ref (ad 2), .ref (ad 3), .int (gPP_puts σ)]))], w1, w3, w5, w7].flatten) := ⟨w1, w3, w5, w7, rfl, h2, h4, h6, h8⟩
    refine rdV (G := G) (As := [.int (A_IL_length (gPP_pile σ))]) (rest := []) (C := RPP) ⟨hx, hb, hml, hown, hts⟩ (c_PP_mayPutOn l G h0 ad adS adR adT adL σ (A_IL_length (gPP_pile σ)) _ _ hB.1 hpk10 _ rfl) (cwV 1 hts (gd_V ml_PP_71 im_PP_mayPutOn sl_PP_mayPutOn ini_PP k_PP_mayPutOn) rfl rmK_c rmK_s (by decide +kernel) ⟨Nat.le_of_ble_eq_true rfl, Nat.le_of_ble_eq_true rfl⟩) hK (pPP_recv hK hB.1 hpk10) hS ⟨Nat.le.intro hk, Nat.le.intro hk⟩ rfl hl.1 (Nat.le_of_ble_eq_true rfl) d_PP_again_19 (fun locs hS => ?_)
    refine lv_if_ne (tgt := 27) hx hb d_PP_again_22 (by decide) (fun c11 => ?_) (fun c11 => ?_)
    · have hr0 := ai_neg c11 hr0
      have hk := ki_neg c11 hk
      refine lv_aload_n hx hb d_PP_again_27 rfl (lv_at hl 0 rfl) ?_
      refine lv_iload_n hx hb d_PP_again_28 rfl (lv_at hl 1 rfl) ?_
      have hB := bk_one hB
      have hpk12 : pPP G h0 ad adS adR adT adL σ ([[(h0, .inr (5, [.ref (ad 0), .ref (ad 1), .ref (ad 2), .ref (ad 3), .int (gPP_puts σ)]))], w1, w3, w5, w7].flatten) := ⟨w1, w3, w5, w7, rfl, h2, h4, h6, h8⟩
      obtain ⟨T13, hT14⟩ : ∃ z, A_PP_putOn σ r = z := ⟨_, rfl⟩
      refine wrV (G := G) (k := 0) (As := [.int r]) (rest := []) (C := RPP) ⟨hx, hb, hml, hown, hts⟩ (c_PP_putOn l G h0 ad adS adR adT adL σ r _ _ (bk_gP (k := 0) hB.1 rfl) (bk_own (k := 0) hB rfl) hpk12 T13 hT14 _ rfl (bk_ub hk hKb)) (cwV 1 hts (gd_V ml_PP_81 im_PP_putOn sl_PP_putOn ini_PP k_PP_putOn) rfl rmK_c rmK_s (by decide +kernel) ⟨Nat.le_of_ble_eq_true rfl, Nat.le_of_ble_eq_true rfl⟩) hK (pPP_recv hK (bk_gP (k := 0) hB.1 rfl) hpk12) hS hA hB rfl hk ⟨rfl, rfl⟩ rfl hl.1 (Nat.le_of_ble_eq_true rfl) d_PP_again_29 (fun u15 H locs kc hu16 hB hS hk => ?_)
      have hr0 := bnd_e hT14 hr0
      have hk := bnd_k hT14 hk
      have hB : bk G.1 vwCl A [u15] H := hB
      obtain ⟨w17, w19, w21, w23, rfl, h18, h20, h22, h24⟩ := hu16
      have hB : bk G.1 vwCl A [[(h0, .inr (5, [.ref (ad 0), .ref (ad 1), .ref (ad 2), .ref (ad 3), .int (gPP_puts T13)]))], w17, w19, w21, w23] H := bk_many hB
      refine lv_aload_n hx hb d_PP_again_32 rfl (lv_at hl 0 rfl) ?_
      refine va_get (D := G.1) (ci := 5) (v := .ref (ad 3)) (C := RPP) (T := TPP) (N := 5) hx hb hts inPP hown hK hB.1 0 rfl rfl 3 (by decide) (hts _ fl_PP_35) (fun _ h9 => h9) rfl d_PP_again_33 ?_
      refine rdV (G := G) (As := []) (rest := []) (C := RIL) ⟨hx, hb, hml, hown, hts⟩ (c_IL_length l G (ad 3) (gPP_pile T13) _ _ (bk_gP (k := 4) hB.1 rfl) h24 _ rfl) (cwV 0 hts (gd_V ml_PP_67 im_IL_length sl_IL_length ini_IL k_IL_length) rfl rmK_c rmK_s (by decide +kernel) ⟨Nat.le_of_ble_eq_true rfl, Nat.le_of_ble_eq_true rfl⟩) hK (pIL_recv hK (bk_gP (k := 4) hB.1 rfl) h24) hS ⟨Nat.le.intro hk, Nat.le.intro hk⟩ rfl hl.1 (Nat.le_of_ble_eq_true rfl) d_PP_again_36 (fun locs hS => ?_)
      subst hr0
      refine W.widen (k := Kt) (n := Kt) (Nat.le.intro hk) (Nat.le.intro hk) ?_
      exact W.iret (v := (A_IL_length (gPP_pile T13))) hx hb hr (fun t ht hW => ⟨⟨(A_IL_length (gPP_pile T13)), [[(h0, .inr (5, [.ref (ad 0), .ref (ad 1), .ref (ad 2), .ref (ad 3), .int (gPP_puts T13)]))], w17, w19, w21, w23].flatten, rfl, ⟨rfl, ⟨w17, w19, w21, w23, rfl, h18, h20, h22, h24⟩⟩, by rw [ht]; exact hB.1, hB.2⟩, hS.F ht⟩) hS.2.2 d_PP_again_39
    · have hr0 := ai_pos c11 hr0
      have hk := ki_pos c11 hk
      refine lv_iconst (v := (-1)) hx hb d_PP_again_25 (by decide) ?_
      subst hr0
      refine W.widen (k := Kt) (n := Kt) (Nat.le.intro hk) (Nat.le.intro hk) ?_
      exact W.iret (v := (-1)) hx hb hr (fun t ht hW => ⟨⟨(-1), [[(h0, .inr (5, [.ref (ad 0), .ref (ad 1), .ref (ad 2), .ref (ad 3), .int (gPP_puts σ)]))], w1, w3, w5, w7].flatten, rfl, ⟨rfl, ⟨w1, w3, w5, w7, rfl, h2, h4, h6, h8⟩⟩, by rw [ht]; exact hB.1, hB.2⟩, hS.F ht⟩) hS.2.2 d_PP_again_26

def A_PP_clear (σ : tPP) : Int32 × tPP := bnd (A_RW_forget (gPP_rows σ)) (fun T9 => bnd (A_TL_forget (gPP_telling σ)) (fun T13 => (A_RW_amount (gPP_rows σ), uPP_puts (uPP_pile (uPP_telling (uPP_rows σ T9) T13) (A_IL_cut (gPP_pile σ) 0)) 0)))
set_option maxHeartbeats 4000000 in
set_option maxRecDepth 100000 in
theorem c_PP_clear (l : Launch) (G : pG) (h0 : Nat) (ad : Nat → Nat) (adS : Nat → Nat) (adR : Nat → Nat) (adT : Nat → Nat) (adL : Nat → Nat) (σ : tPP) (H : Heap) (w : va_W) (hP0 : va_P G.1 vwCl w H) (hD0 : va_D (fun _ => True) w) (hσ : pPP G h0 ad adS adR adT adL σ w) (res : Int32 × tPP) (hr0 : A_PP_clear σ = res) : MWi l y_PP_clear w_PP_clear 3 61 0 G [.ref h0] H w res.1 (pPP G h0 ad adS adR adT adL res.2) := by
  refine Met.ofW (cc := b_PP_clear) (maxL := 2) (ret := (some .int)) (by decide) rfl ?_
  intro p e s m args below meth c s₁ B hml hv
  obtain ⟨rfl, rfl, hK⟩ := hv
  have hx := B.exec
  have hb := B.bytes
  have hr := B.returns
  have hts0 := atoms_spec (ws := w_PP_clear) B.pre
  have hts := fun w (h : w ∈ lw_g) => hts0 w (List.mem_cons_of_mem _ h)
  have hown : s.vm.findClass RPP = some m.cls := findClass_of_methodNamed B.named
  have hlocks := B.notSynchronized
  have hA : ∀ q : Nat, s.heap.size ≤ q → va_A w s.heap.size q := fun _ h => Or.inr h
  have hB : bk G.1 vwCl (va_A w s.heap.size) [w] s.heap := bk_init hP0 hD0
  generalize va_A w s.heap.size = A at *
  have hS : va_S A s.heap s.heap [] := va_S.rf
  obtain ⟨w1, w3, w5, w7, rfl, h2, h4, h6, h8⟩ := hσ
  have hB := bk_many hB
  have hk : 0 + 0 = 0 := rfl
  have hl := lv_entry ([.ref h0]) (n := 2) (Nat.le_of_ble_eq_true rfl)
  rw [lg_entry_eq]
  generalize (lg_sl ([.ref h0]) ++ List.replicate (2 - (lg_sl ([.ref h0])).length) Slot.unset).toArray = ls at hl ⊢
  have hl : lv_has ls 2 [(0, .ref h0)] := hl
  unfold A_PP_clear at hr0
  refine lv_aload_n hx hb d_PP_clear_0 rfl (lv_at hl 0 rfl) ?_
  refine va_get (D := G.1) (ci := 5) (v := .ref (ad 1)) (C := RPP) (T := TPP) (N := 5) hx hb hts inPP hown hK hB.1 0 rfl rfl 1 (by decide) (hts _ fl_PP_19) (fun _ h9 => h9) rfl d_PP_clear_1 ?_
  refine rdV (G := G) (As := []) (rest := []) (C := RRW) ⟨hx, hb, hml, hown, hts⟩ (c_RW_amount l G (ad 1) adR (gPP_rows σ) _ _ (bk_gP (k := 2) hB.1 rfl) h4 _ rfl) (cwV 0 hts (gd_V ml_PP_70 im_RW_amount sl_RW_amount ini_RW k_RW_amount) rfl rmK_c rmK_s (by decide +kernel) ⟨Nat.le_of_ble_eq_true rfl, Nat.le_of_ble_eq_true rfl⟩) hK (pRW_recv hK (bk_gP (k := 2) hB.1 rfl) h4) hS ⟨Nat.le.intro hk, Nat.le.intro hk⟩ rfl hl.1 (Nat.le_of_ble_eq_true rfl) d_PP_clear_4 (fun locs hS => ?_)
  refine lv_istore_n (lv' := [(1, .int (A_RW_amount (gPP_rows σ))), (0, .ref h0)]) hx hb d_PP_clear_7 rfl hl (by decide) rfl (fun ls hl => ?_)
  refine lv_aload_n hx hb d_PP_clear_8 rfl (lv_at hl 1 rfl) ?_
  refine va_get (D := G.1) (ci := 5) (v := .ref (ad 1)) (C := RPP) (T := TPP) (N := 5) hx hb hts inPP hown hK hB.1 0 rfl rfl 1 (by decide) (hts _ fl_PP_19) (fun _ h9 => h9) rfl d_PP_clear_9 ?_
  obtain ⟨T9, hT10⟩ : ∃ z, A_RW_forget (gPP_rows σ) = z := ⟨_, rfl⟩
  refine wrV0 (G := G) (k := 2) (As := []) (rest := []) (C := RRW) ⟨hx, hb, hml, hown, hts⟩ (c_RW_forget l G (ad 1) adR (gPP_rows σ) _ _ (bk_gP (k := 2) hB.1 rfl) (bk_own (k := 2) hB rfl) h4 T9 hT10) (cwV 0 hts (gd_V ml_PP_85 im_RW_forget sl_RW_forget ini_RW k_RW_forget) rfl rmK_c rmK_s (by decide +kernel) ⟨Nat.le_of_ble_eq_true rfl, Nat.le_of_ble_eq_true rfl⟩) hK (pRW_recv hK (bk_gP (k := 2) hB.1 rfl) h4) hS hA hB rfl hk ⟨rfl, rfl⟩ rfl hl.1 (Nat.le_of_ble_eq_true rfl) d_PP_clear_12 (fun u11 H locs hu12 hB hS => ?_)
  have hr0 := bnd_e hT10 hr0
  have hB : bk G.1 vwCl A [[(h0, .inr (5, [.ref (ad 0), .ref (ad 1), .ref (ad 2), .ref (ad 3), .int (gPP_puts σ)]))], w1, u11, w5, w7] H := hB
  refine lv_aload_n hx hb d_PP_clear_15 rfl (lv_at hl 1 rfl) ?_
  refine va_get (D := G.1) (ci := 5) (v := .ref (ad 2)) (C := RPP) (T := TPP) (N := 5) hx hb hts inPP hown hK hB.1 0 rfl rfl 2 (by decide) (hts _ fl_PP_28) (fun _ h9 => h9) rfl d_PP_clear_16 ?_
  obtain ⟨T13, hT14⟩ : ∃ z, A_TL_forget (gPP_telling σ) = z := ⟨_, rfl⟩
  refine wrV0 (G := G) (k := 3) (As := []) (rest := []) (C := RTL) ⟨hx, hb, hml, hown, hts⟩ (c_TL_forget l G (ad 2) (ad 0) (ad 1) adT adL (gPP_telling σ) _ _ (bk_gP (k := 3) hB.1 rfl) (bk_own (k := 3) hB rfl) h6 T13 hT14) (cwV 0 hts (gd_V ml_PP_88 im_TL_forget sl_TL_forget ini_TL k_TL_forget) rfl rmK_c rmK_s (by decide +kernel) ⟨Nat.le_of_ble_eq_true rfl, Nat.le_of_ble_eq_true rfl⟩) hK (pTL_recv hK (bk_gP (k := 3) hB.1 rfl) h6) hS hA hB rfl hk ⟨rfl, rfl⟩ rfl hl.1 (Nat.le_of_ble_eq_true rfl) d_PP_clear_19 (fun u15 H locs hu16 hB hS => ?_)
  have hr0 := bnd_e hT14 hr0
  have hB : bk G.1 vwCl A [[(h0, .inr (5, [.ref (ad 0), .ref (ad 1), .ref (ad 2), .ref (ad 3), .int (gPP_puts σ)]))], w1, u11, u15, w7] H := hB
  refine lv_aload_n hx hb d_PP_clear_22 rfl (lv_at hl 1 rfl) ?_
  refine va_get (D := G.1) (ci := 5) (v := .ref (ad 3)) (C := RPP) (T := TPP) (N := 5) hx hb hts inPP hown hK hB.1 0 rfl rfl 3 (by decide) (hts _ fl_PP_35) (fun _ h9 => h9) rfl d_PP_clear_23 ?_
  refine lv_iconst (v := 0) hx hb d_PP_clear_26 (by decide) ?_
  refine wrV0 (G := G) (k := 4) (As := [.int 0]) (rest := []) (C := RIL) ⟨hx, hb, hml, hown, hts⟩ (c_IL_cut l G (ad 3) (gPP_pile σ) 0 _ _ (bk_gP (k := 4) hB.1 rfl) (bk_own (k := 4) hB rfl) h8 _ rfl) (cwV 1 hts (gd_V ml_PP_77 im_IL_cut sl_IL_cut ini_IL k_IL_cut) rfl rmK_c rmK_s (by decide +kernel) ⟨Nat.le_of_ble_eq_true rfl, Nat.le_of_ble_eq_true rfl⟩) hK (pIL_recv hK (bk_gP (k := 4) hB.1 rfl) h8) hS hA hB rfl hk ⟨rfl, rfl⟩ rfl hl.1 (Nat.le_of_ble_eq_true rfl) d_PP_clear_27 (fun u17 H locs hu18 hB hS => ?_)
  have hB : bk G.1 vwCl A [[(h0, .inr (5, [.ref (ad 0), .ref (ad 1), .ref (ad 2), .ref (ad 3), .int (gPP_puts σ)]))], w1, u11, u15, u17] H := hB
  refine lv_aload_n hx hb d_PP_clear_30 rfl (lv_at hl 1 rfl) ?_
  refine lv_iconst (v := 0) hx hb d_PP_clear_31 (by decide) ?_
  refine va_put (D := G.1) (ci := 5) (v := .int 0) (ty := .int) (C := RPP) (T := TPP) (N := 5) hx hb hts inPP tyPP tokPP nmPP hown hK hB.1 hB.2 hS 0 rfl rfl 4 (by decide) (hts _ fl_PP_39) (fun _ h9 => h9) rfl (by decide +kernel) rfl rfl (Nat.le_of_ble_eq_true rfl) d_PP_clear_32 (fun H locs hP hD hS => ?_)
  have hB : bk G.1 vwCl A [[(h0, .inr (5, [.ref (ad 0), .ref (ad 1), .ref (ad 2), .ref (ad 3), .int 0]))], w1, u11, u15, u17] H := ⟨hP, hD⟩
  refine lv_iload_n hx hb d_PP_clear_35 rfl (lv_at hl 0 rfl) ?_
  subst hr0
  refine W.widen (k := 0) (n := 0) (Nat.le_refl _) (Nat.le_refl _) ?_
  exact W.iret (v := (A_RW_amount (gPP_rows σ))) hx hb hr (fun t ht hW => ⟨⟨(A_RW_amount (gPP_rows σ)), [[(h0, .inr (5, [.ref (ad 0), .ref (ad 1), .ref (ad 2), .ref (ad 3), .int 0]))], w1, u11, u15, u17].flatten, rfl, ⟨rfl, ⟨w1, u11, u15, u17, rfl, h2, hu12, hu16, hu18⟩⟩, by rw [ht]; exact hB.1, hB.2⟩, hS.F ht⟩) hS.2.2 d_PP_clear_36

def A_PP_pack (σ : tPP) : Int32 × tPP := if (A_IL_length (gPP_pile σ)) = 1 then (bnd (A_TL_tell (gPP_telling σ) (gPP_statements σ) (gPP_rows σ) (A_IL_at (gPP_pile σ) 0)) (fun T10 => (A_TL_amountOfSteps T10, uPP_telling σ T10))) else ((-1), σ)
def K_PP_pack (σ : tPP) : Nat := if (A_IL_length (gPP_pile σ)) = 1 then ((K_TL_tell (gPP_telling σ) (gPP_statements σ) (gPP_rows σ) (A_IL_at (gPP_pile σ) 0)) + (bnd (A_TL_tell (gPP_telling σ) (gPP_statements σ) (gPP_rows σ) (A_IL_at (gPP_pile σ) 0)) (fun T10 => 0))) else 0
set_option maxHeartbeats 4000000 in
set_option maxRecDepth 100000 in
theorem c_PP_pack (l : Launch) (G : pG) (h0 : Nat) (ad : Nat → Nat) (adS : Nat → Nat) (adR : Nat → Nat) (adT : Nat → Nat) (adL : Nat → Nat) (σ : tPP) (H : Heap) (w : va_W) (hP0 : va_P G.1 vwCl w H) (hD0 : va_D (fun _ => True) w) (hσ : pPP G h0 ad adS adR adT adL σ w) (res : Int32 × tPP) (hr0 : A_PP_pack σ = res) (Kt : Nat) (hk : K_PP_pack σ = Kt) (hKb : Kt ≤ 16777216) : MWi l y_PP_pack w_PP_pack 7 191 Kt G [.ref h0] H w res.1 (pPP G h0 ad adS adR adT adL res.2) := by
  refine Met.ofW (cc := b_PP_pack) (maxL := 1) (ret := (some .int)) (by decide) rfl ?_
  intro p e s m args below meth c s₁ B hml hv
  obtain ⟨rfl, rfl, hK⟩ := hv
  have hx := B.exec
  have hb := B.bytes
  have hr := B.returns
  have hts0 := atoms_spec (ws := w_PP_pack) B.pre
  have hts := fun w (h : w ∈ lw_g) => hts0 w (List.mem_cons_of_mem _ h)
  have hown : s.vm.findClass RPP = some m.cls := findClass_of_methodNamed B.named
  have hlocks := B.notSynchronized
  have hA : ∀ q : Nat, s.heap.size ≤ q → va_A w s.heap.size q := fun _ h => Or.inr h
  have hB : bk G.1 vwCl (va_A w s.heap.size) [w] s.heap := bk_init hP0 hD0
  generalize va_A w s.heap.size = A at *
  have hS : va_S A s.heap s.heap [] := va_S.rf
  obtain ⟨w1, w3, w5, w7, rfl, h2, h4, h6, h8⟩ := hσ
  have hB := bk_many hB
  have hk : 0 + K_PP_pack σ = Kt := (Nat.zero_add _).trans hk
  have hl := lv_entry ([.ref h0]) (n := 1) (Nat.le_of_ble_eq_true rfl)
  rw [lg_entry_eq]
  generalize (lg_sl ([.ref h0]) ++ List.replicate (1 - (lg_sl ([.ref h0])).length) Slot.unset).toArray = ls at hl ⊢
  have hl : lv_has ls 1 [(0, .ref h0)] := hl
  unfold A_PP_pack at hr0
  unfold K_PP_pack at hk
  refine lv_aload_n hx hb d_PP_pack_0 rfl (lv_at hl 0 rfl) ?_
  refine va_get (D := G.1) (ci := 5) (v := .ref (ad 3)) (C := RPP) (T := TPP) (N := 5) hx hb hts inPP hown hK hB.1 0 rfl rfl 3 (by decide) (hts _ fl_PP_35) (fun _ h9 => h9) rfl d_PP_pack_1 ?_
  refine rdV (G := G) (As := []) (rest := []) (C := RIL) ⟨hx, hb, hml, hown, hts⟩ (c_IL_length l G (ad 3) (gPP_pile σ) _ _ (bk_gP (k := 4) hB.1 rfl) h8 _ rfl) (cwV 0 hts (gd_V ml_PP_67 im_IL_length sl_IL_length ini_IL k_IL_length) rfl rmK_c rmK_s (by decide +kernel) ⟨Nat.le_of_ble_eq_true rfl, Nat.le_of_ble_eq_true rfl⟩) hK (pIL_recv hK (bk_gP (k := 4) hB.1 rfl) h8) hS ⟨Nat.le.intro hk, Nat.le.intro hk⟩ rfl hl.1 (Nat.le_of_ble_eq_true rfl) d_PP_pack_4 (fun locs hS => ?_)
  refine lv_iconst (v := 1) hx hb d_PP_pack_7 (by decide) ?_
  refine lv_icmp_eq (tgt := 13) hx hb d_PP_pack_8 (by decide) (fun c9 => ?_) (fun c9 => ?_)
  · have hr0 := ai_pos c9 hr0
    have hk := ki_pos c9 hk
    refine lv_aload_n hx hb d_PP_pack_13 rfl (lv_at hl 0 rfl) ?_
    refine va_get (D := G.1) (ci := 5) (v := .ref (ad 2)) (C := RPP) (T := TPP) (N := 5) hx hb hts inPP hown hK hB.1 0 rfl rfl 2 (by decide) (hts _ fl_PP_28) (fun _ h9 => h9) rfl d_PP_pack_14 ?_
    refine lv_aload_n hx hb d_PP_pack_17 rfl (lv_at hl 0 rfl) ?_
    refine va_get (D := G.1) (ci := 5) (v := .ref (ad 3)) (C := RPP) (T := TPP) (N := 5) hx hb hts inPP hown hK hB.1 0 rfl rfl 3 (by decide) (hts _ fl_PP_35) (fun _ h9 => h9) rfl d_PP_pack_18 ?_
    refine lv_iconst (v := 0) hx hb d_PP_pack_21 (by decide) ?_
    refine rdV (G := G) (As := [.int 0]) (rest := [.ref (ad 2)]) (C := RIL) ⟨hx, hb, hml, hown, hts⟩ (c_IL_at l G (ad 3) (gPP_pile σ) 0 _ _ (bk_gP (k := 4) hB.1 rfl) h8 _ rfl) (cwV 1 hts (gd_V ml_PP_102 im_IL_at sl_IL_at ini_IL k_IL_at) rfl rmK_c rmK_s (by decide +kernel) ⟨Nat.le_of_ble_eq_true rfl, Nat.le_of_ble_eq_true rfl⟩) hK (pIL_recv hK (bk_gP (k := 4) hB.1 rfl) h8) hS ⟨Nat.le.intro hk, Nat.le.intro hk⟩ rfl hl.1 (Nat.le_of_ble_eq_true rfl) d_PP_pack_22 (fun locs hS => ?_)
    obtain ⟨T10, hT11⟩ : ∃ z, A_TL_tell (gPP_telling σ) (gPP_statements σ) (gPP_rows σ) (A_IL_at (gPP_pile σ) 0) = z := ⟨_, rfl⟩
    refine wrV (G := G) (k := 3) (As := [.int (A_IL_at (gPP_pile σ) 0)]) (rest := []) (C := RTL) ⟨hx, hb, hml, hown, hts⟩ (c_TL_tell l G (ad 2) (ad 0) (ad 1) adT adL (gPP_telling σ) (A_IL_at (gPP_pile σ) 0) _ _ adS (gPP_statements σ) _ (bk_gP (k := 1) hB.1 rfl) h2 (bk_dj' (i := 3) (j := 1) hB (by decide) rfl rfl) adR (gPP_rows σ) _ (bk_gP (k := 2) hB.1 rfl) h4 (bk_dj' (i := 3) (j := 2) hB (by decide) rfl rfl) (bk_gP (k := 3) hB.1 rfl) (bk_own (k := 3) hB rfl) h6 T10 hT11 _ rfl (bk_ub hk hKb)) (cwV 1 hts (gd_V ml_PP_105 im_TL_tell sl_TL_tell ini_TL k_TL_tell) rfl rmK_c rmK_s (by decide +kernel) ⟨Nat.le_of_ble_eq_true rfl, Nat.le_of_ble_eq_true rfl⟩) hK (pTL_recv hK (bk_gP (k := 3) hB.1 rfl) h6) hS hA hB rfl hk ⟨rfl, rfl⟩ rfl hl.1 (Nat.le_of_ble_eq_true rfl) d_PP_pack_25 (fun u12 H locs kc hu13 hB hS hk => ?_)
    have hr0 := bnd_e hT11 hr0
    have hk := bnd_k hT11 hk
    have hB : bk G.1 vwCl A [[(h0, .inr (5, [.ref (ad 0), .ref (ad 1), .ref (ad 2), .ref (ad 3), .int (gPP_puts σ)]))], w1, w3, u12, w7] H := hB
    refine lv_aload_n hx hb d_PP_pack_28 rfl (lv_at hl 0 rfl) ?_
    refine va_get (D := G.1) (ci := 5) (v := .ref (ad 2)) (C := RPP) (T := TPP) (N := 5) hx hb hts inPP hown hK hB.1 0 rfl rfl 2 (by decide) (hts _ fl_PP_28) (fun _ h9 => h9) rfl d_PP_pack_29 ?_
    refine rdV (G := G) (As := []) (rest := []) (C := RTL) ⟨hx, hb, hml, hown, hts⟩ (c_TL_amountOfSteps l G (ad 2) (ad 0) (ad 1) adT adL T10 _ _ (bk_gP (k := 3) hB.1 rfl) hu13 _ rfl) (cwV 0 hts (gd_V ml_PP_108 im_TL_amountOfSteps sl_TL_amountOfSteps ini_TL k_TL_amountOfSteps) rfl rmK_c rmK_s (by decide +kernel) ⟨Nat.le_of_ble_eq_true rfl, Nat.le_of_ble_eq_true rfl⟩) hK (pTL_recv hK (bk_gP (k := 3) hB.1 rfl) hu13) hS ⟨Nat.le.intro hk, Nat.le.intro hk⟩ rfl hl.1 (Nat.le_of_ble_eq_true rfl) d_PP_pack_32 (fun locs hS => ?_)
    subst hr0
    refine W.widen (k := Kt) (n := Kt) (Nat.le.intro hk) (Nat.le.intro hk) ?_
    exact W.iret (v := (A_TL_amountOfSteps T10)) hx hb hr (fun t ht hW => ⟨⟨(A_TL_amountOfSteps T10), [[(h0, .inr (5, [.ref (ad 0), .ref (ad 1), .ref (ad 2), .ref (ad 3), .int (gPP_puts σ)]))], w1, w3, u12, w7].flatten, rfl, ⟨rfl, ⟨w1, w3, u12, w7, rfl, h2, h4, hu13, h8⟩⟩, by rw [ht]; exact hB.1, hB.2⟩, hS.F ht⟩) hS.2.2 d_PP_pack_35
  · have hr0 := ai_neg c9 hr0
    have hk := ki_neg c9 hk
    refine lv_iconst (v := (-1)) hx hb d_PP_pack_11 (by decide) ?_
    subst hr0
    refine W.widen (k := Kt) (n := Kt) (Nat.le.intro hk) (Nat.le.intro hk) ?_
    exact W.iret (v := (-1)) hx hb hr (fun t ht hW => ⟨⟨(-1), [[(h0, .inr (5, [.ref (ad 0), .ref (ad 1), .ref (ad 2), .ref (ad 3), .int (gPP_puts σ)]))], w1, w3, w5, w7].flatten, rfl, ⟨rfl, ⟨w1, w3, w5, w7, rfl, h2, h4, h6, h8⟩⟩, by rw [ht]; exact hB.1, hB.2⟩, hS.F ht⟩) hS.2.2 d_PP_pack_12

def A_PP_check (σ : tPP) : Int32 × tPP := bnd (A_TL_makesItsRow (gPP_telling σ) (gPP_statements σ) (gPP_rows σ)) (fun T9 => if T9.1 = 0 then (0, uPP_telling σ T9.2) else (1, uPP_telling σ T9.2))
def K_PP_check (σ : tPP) : Nat := (K_TL_makesItsRow (gPP_telling σ) (gPP_statements σ) (gPP_rows σ)) + (bnd (A_TL_makesItsRow (gPP_telling σ) (gPP_statements σ) (gPP_rows σ)) (fun T9 => if T9.1 = 0 then 0 else 0))
set_option maxHeartbeats 4000000 in
set_option maxRecDepth 100000 in
theorem c_PP_check (l : Launch) (G : pG) (h0 : Nat) (ad : Nat → Nat) (adS : Nat → Nat) (adR : Nat → Nat) (adT : Nat → Nat) (adL : Nat → Nat) (σ : tPP) (H : Heap) (w : va_W) (hP0 : va_P G.1 vwCl w H) (hD0 : va_D (fun _ => True) w) (hσ : pPP G h0 ad adS adR adT adL σ w) (res : Int32 × tPP) (hr0 : A_PP_check σ = res) (Kt : Nat) (hk : K_PP_check σ = Kt) (hKb : Kt ≤ 16777216) : MWi l y_PP_check w_PP_check 6 139 Kt G [.ref h0] H w res.1 (pPP G h0 ad adS adR adT adL res.2) := by
  refine Met.ofW (cc := b_PP_check) (maxL := 1) (ret := (some .int)) (by decide) rfl ?_
  intro p e s m args below meth c s₁ B hml hv
  obtain ⟨rfl, rfl, hK⟩ := hv
  have hx := B.exec
  have hb := B.bytes
  have hr := B.returns
  have hts0 := atoms_spec (ws := w_PP_check) B.pre
  have hts := fun w (h : w ∈ lw_g) => hts0 w (List.mem_cons_of_mem _ h)
  have hown : s.vm.findClass RPP = some m.cls := findClass_of_methodNamed B.named
  have hlocks := B.notSynchronized
  have hA : ∀ q : Nat, s.heap.size ≤ q → va_A w s.heap.size q := fun _ h => Or.inr h
  have hB : bk G.1 vwCl (va_A w s.heap.size) [w] s.heap := bk_init hP0 hD0
  generalize va_A w s.heap.size = A at *
  have hS : va_S A s.heap s.heap [] := va_S.rf
  obtain ⟨w1, w3, w5, w7, rfl, h2, h4, h6, h8⟩ := hσ
  have hB := bk_many hB
  have hk : 0 + K_PP_check σ = Kt := (Nat.zero_add _).trans hk
  have hl := lv_entry ([.ref h0]) (n := 1) (Nat.le_of_ble_eq_true rfl)
  rw [lg_entry_eq]
  generalize (lg_sl ([.ref h0]) ++ List.replicate (1 - (lg_sl ([.ref h0])).length) Slot.unset).toArray = ls at hl ⊢
  have hl : lv_has ls 1 [(0, .ref h0)] := hl
  unfold A_PP_check at hr0
  unfold K_PP_check at hk
  refine lv_aload_n hx hb d_PP_check_0 rfl (lv_at hl 0 rfl) ?_
  refine va_get (D := G.1) (ci := 5) (v := .ref (ad 2)) (C := RPP) (T := TPP) (N := 5) hx hb hts inPP hown hK hB.1 0 rfl rfl 2 (by decide) (hts _ fl_PP_28) (fun _ h9 => h9) rfl d_PP_check_1 ?_
  obtain ⟨T9, hT10⟩ : ∃ z, A_TL_makesItsRow (gPP_telling σ) (gPP_statements σ) (gPP_rows σ) = z := ⟨_, rfl⟩
  refine wrVi (G := G) (k := 3) (As := []) (rest := []) (C := RTL) ⟨hx, hb, hml, hown, hts⟩ (c_TL_makesItsRow l G (ad 2) (ad 0) (ad 1) adT adL (gPP_telling σ) _ _ adS (gPP_statements σ) _ (bk_gP (k := 1) hB.1 rfl) h2 (bk_dj' (i := 3) (j := 1) hB (by decide) rfl rfl) adR (gPP_rows σ) _ (bk_gP (k := 2) hB.1 rfl) h4 (bk_dj' (i := 3) (j := 2) hB (by decide) rfl rfl) (bk_gP (k := 3) hB.1 rfl) (bk_own (k := 3) hB rfl) h6 T9 hT10 _ rfl (bk_ub hk hKb)) (cwV 0 hts (gd_V ml_PP_147 im_TL_makesItsRow sl_TL_makesItsRow ini_TL k_TL_makesItsRow) rfl rmK_c rmK_s (by decide +kernel) ⟨Nat.le_of_ble_eq_true rfl, Nat.le_of_ble_eq_true rfl⟩) hK (pTL_recv hK (bk_gP (k := 3) hB.1 rfl) h6) hS hA hB rfl hk ⟨rfl, rfl⟩ rfl hl.1 (Nat.le_of_ble_eq_true rfl) d_PP_check_4 (fun u11 H locs kc hu12 hB hS hk => ?_)
  have hr0 := bnd_e hT10 hr0
  have hk := bnd_k hT10 hk
  have hB : bk G.1 vwCl A [[(h0, .inr (5, [.ref (ad 0), .ref (ad 1), .ref (ad 2), .ref (ad 3), .int (gPP_puts σ)]))], w1, w3, u11, w7] H := hB
  refine lv_if_eq (tgt := 14) hx hb d_PP_check_7 (by decide) (fun c13 => ?_) (fun c13 => ?_)
  · have hr0 := ai_pos c13 hr0
    have hk := ki_pos c13 hk
    refine lv_iconst (v := 0) hx hb d_PP_check_14 (by decide) ?_
    subst hr0
    refine W.widen (k := Kt) (n := Kt) (Nat.le.intro hk) (Nat.le.intro hk) ?_
    exact W.iret (v := 0) hx hb hr (fun t ht hW => ⟨⟨0, [[(h0, .inr (5, [.ref (ad 0), .ref (ad 1), .ref (ad 2), .ref (ad 3), .int (gPP_puts σ)]))], w1, w3, u11, w7].flatten, rfl, ⟨rfl, ⟨w1, w3, u11, w7, rfl, h2, h4, hu12, h8⟩⟩, by rw [ht]; exact hB.1, hB.2⟩, hS.F ht⟩) hS.2.2 d_PP_check_15
  · have hr0 := ai_neg c13 hr0
    have hk := ki_neg c13 hk
    refine lv_iconst (v := 1) hx hb d_PP_check_10 (by decide) ?_
    refine lv_goto (tgt := 15) hx hb d_PP_check_11 (by decide) ?_
    subst hr0
    refine W.widen (k := Kt) (n := Kt) (Nat.le.intro hk) (Nat.le.intro hk) ?_
    exact W.iret (v := 1) hx hb hr (fun t ht hW => ⟨⟨1, [[(h0, .inr (5, [.ref (ad 0), .ref (ad 1), .ref (ad 2), .ref (ad 3), .int (gPP_puts σ)]))], w1, w3, u11, w7].flatten, rfl, ⟨rfl, ⟨w1, w3, u11, w7, rfl, h2, h4, hu12, h8⟩⟩, by rw [ht]; exact hB.1, hB.2⟩, hS.F ht⟩) hS.2.2 d_PP_check_15
