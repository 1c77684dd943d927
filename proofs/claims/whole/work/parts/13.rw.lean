abbrev tRW : Type := tIL × tIL × tIL × tIL × tIL × tIL × tIL × (Nat → Int32) × ((Nat → Int64) × Nat)
abbrev gRW_statements (σ : tRW) : tIL := σ.1
abbrev gRW_starts (σ : tRW) : tIL := σ.2.1
abbrev gRW_parts (σ : tRW) : tIL := σ.2.2.1
abbrev gRW_partKinds (σ : tRW) : tIL := σ.2.2.2.1
abbrev gRW_kinds (σ : tRW) : tIL := σ.2.2.2.2.1
abbrev gRW_firstOfKind (σ : tRW) : tIL := σ.2.2.2.2.2.1
abbrev gRW_olderKind (σ : tRW) : tIL := σ.2.2.2.2.2.2.1
abbrev gRW_newestKind (σ : tRW) : Nat → Int32 := σ.2.2.2.2.2.2.2.1
abbrev gRW_steps (σ : tRW) : (Nat → Int64) × Nat := σ.2.2.2.2.2.2.2.2
def uRW_statements (σ : tRW) (v : tIL) : tRW := (v, gRW_starts σ, gRW_parts σ, gRW_partKinds σ, gRW_kinds σ, gRW_firstOfKind σ, gRW_olderKind σ, gRW_newestKind σ, gRW_steps σ)
def uRW_starts (σ : tRW) (v : tIL) : tRW := (gRW_statements σ, v, gRW_parts σ, gRW_partKinds σ, gRW_kinds σ, gRW_firstOfKind σ, gRW_olderKind σ, gRW_newestKind σ, gRW_steps σ)
def uRW_parts (σ : tRW) (v : tIL) : tRW := (gRW_statements σ, gRW_starts σ, v, gRW_partKinds σ, gRW_kinds σ, gRW_firstOfKind σ, gRW_olderKind σ, gRW_newestKind σ, gRW_steps σ)
def uRW_partKinds (σ : tRW) (v : tIL) : tRW := (gRW_statements σ, gRW_starts σ, gRW_parts σ, v, gRW_kinds σ, gRW_firstOfKind σ, gRW_olderKind σ, gRW_newestKind σ, gRW_steps σ)
def uRW_kinds (σ : tRW) (v : tIL) : tRW := (gRW_statements σ, gRW_starts σ, gRW_parts σ, gRW_partKinds σ, v, gRW_firstOfKind σ, gRW_olderKind σ, gRW_newestKind σ, gRW_steps σ)
def uRW_firstOfKind (σ : tRW) (v : tIL) : tRW := (gRW_statements σ, gRW_starts σ, gRW_parts σ, gRW_partKinds σ, gRW_kinds σ, v, gRW_olderKind σ, gRW_newestKind σ, gRW_steps σ)
def uRW_olderKind (σ : tRW) (v : tIL) : tRW := (gRW_statements σ, gRW_starts σ, gRW_parts σ, gRW_partKinds σ, gRW_kinds σ, gRW_firstOfKind σ, v, gRW_newestKind σ, gRW_steps σ)
def uRW_newestKind (σ : tRW) (v : Nat → Int32) : tRW := (gRW_statements σ, gRW_starts σ, gRW_parts σ, gRW_partKinds σ, gRW_kinds σ, gRW_firstOfKind σ, gRW_olderKind σ, v, gRW_steps σ)
def uRW_steps (σ : tRW) (v : (Nat → Int64) × Nat) : tRW := (gRW_statements σ, gRW_starts σ, gRW_parts σ, gRW_partKinds σ, gRW_kinds σ, gRW_firstOfKind σ, gRW_olderKind σ, gRW_newestKind σ, v)
def pRW (G : pG) (h0 : Nat) (ad : Nat → Nat) (σ : tRW) (w : va_W) : Prop := ∃ (q7 q8 : Nat) (w0 w1 w2 w3 w4 w5 w6 : va_W), w = [[(h0, .inr (2, [.ref (ad 0), .ref (ad 1), .ref (ad 2), .ref (ad 3), .ref (ad 4), .ref (ad 5), .ref (ad 6), .ref q7, .ref q8]))], [(q7, .inl (G.2.1, 512, .inl (gRW_newestKind σ)))], [(q8, .inl (G.2.2.1, (gRW_steps σ).2, .inr (.inl (gRW_steps σ).1)))], w0, w1, w2, w3, w4, w5, w6].flatten ∧ pIL G (ad 0) (gRW_statements σ) w0 ∧ pIL G (ad 1) (gRW_starts σ) w1 ∧ pIL G (ad 2) (gRW_parts σ) w2 ∧ pIL G (ad 3) (gRW_partKinds σ) w3 ∧ pIL G (ad 4) (gRW_kinds σ) w4 ∧ pIL G (ad 5) (gRW_firstOfKind σ) w5 ∧ pIL G (ad 6) (gRW_olderKind σ) w6 ∧ (1 ≤ (gRW_steps σ).2 ∧ (gRW_steps σ).2 ≤ 16777216)
theorem pRW_recv {G : pG} {s : State} {H : Heap} {h0 : Nat} {ad : Nat → Nat} {σ : tRW} {w : va_W} (hK : va_K G.1 vwCl (tyG G) s) (hP : va_P G.1 vwCl w H) (h : pRW G h0 ad σ w) : ∃ cell : Cell, H[h0]? = some cell ∧ cell.vm.isStatics = false ∧ s.vm.findClass RRW = some cell.cls := by
  obtain ⟨q7, q8, w0, w1, w2, w3, w4, w5, w6, rfl, -, -, -, -, -, -, -, -⟩ := h
  exact va_recv (q0 := 0) (ci := 2) hK hP rfl rfl

def A_RW_forget (σ : tRW) : tRW := uRW_newestKind (uRW_olderKind (uRW_firstOfKind (uRW_kinds (uRW_partKinds (uRW_parts (uRW_starts (uRW_statements σ (A_IL_cut (gRW_statements σ) 0)) (A_IL_cut (gRW_starts σ) 1)) (A_IL_cut (gRW_parts σ) 0)) (A_IL_cut (gRW_partKinds σ) 0)) (A_IL_cut (gRW_kinds σ) 0)) (A_IL_cut (gRW_firstOfKind σ) 0)) (A_IL_cut (gRW_olderKind σ) 0)) (fun _ => (-1))
set_option maxHeartbeats 4000000 in
set_option maxRecDepth 100000 in
theorem c_RW_forget (l : Launch) (G : pG) (h0 : Nat) (ad : Nat → Nat) (σ : tRW) (H : Heap) (w : va_W) (hP0 : va_P G.1 vwCl w H) (hD0 : va_D (fun _ => True) w) (hσ : pRW G h0 ad σ w) (res : tRW) (hr0 : A_RW_forget σ = res) : MWv l y_RW_forget w_RW_forget 1 23 0 G [.ref h0] H w (pRW G h0 ad res) := by
  refine Met.ofW (cc := b_RW_forget) (maxL := 1) (ret := none) (by decide) rfl ?_
  intro p e s m args below meth c s₁ B hml hv
  obtain ⟨rfl, rfl, hK⟩ := hv
  have hx := B.exec
  have hb := B.bytes
  have hr := B.returns
  have hts0 := atoms_spec (ws := w_RW_forget) B.pre
  have hts := fun w (h : w ∈ lw_g) => hts0 w (List.mem_cons_of_mem _ h)
  have hown : s.vm.findClass RRW = some m.cls := findClass_of_methodNamed B.named
  have hlocks := B.notSynchronized
  have hA : ∀ q : Nat, s.heap.size ≤ q → va_A w s.heap.size q := fun _ h => Or.inr h
  have hB : bk G.1 vwCl (va_A w s.heap.size) [w] s.heap := bk_init hP0 hD0
  generalize va_A w s.heap.size = A at *
  have hS : va_S A s.heap s.heap [] := va_S.rf
  obtain ⟨q15, q16, w1, w3, w5, w7, w9, w11, w13, rfl, h2, h4, h6, h8, h10, h12, h14, h17⟩ := hσ
  have hB := bk_many hB
  have hk : 0 + 0 = 0 := rfl
  have hl := lv_entry ([.ref h0]) (n := 1) (Nat.le_of_ble_eq_true rfl)
  rw [lg_entry_eq]
  generalize (lg_sl ([.ref h0]) ++ List.replicate (1 - (lg_sl ([.ref h0])).length) Slot.unset).toArray = ls at hl ⊢
  have hl : lv_has ls 1 [(0, .ref h0)] := hl
  unfold A_RW_forget at hr0
  refine lv_aload_n hx hb d_RW_forget_0 rfl (lv_at hl 0 rfl) ?_
  refine va_get (D := G.1) (ci := 2) (v := .ref (ad 0)) (C := RRW) (T := TRW) (N := 9) hx hb hts inRW hown hK hB.1 0 rfl rfl 0 (by decide) (hts _ fl_RW_12) (fun _ h9 => h9) rfl d_RW_forget_1 ?_
  refine lv_iconst (v := 0) hx hb d_RW_forget_4 (by decide) ?_
  refine wrV0 (G := G) (k := 3) (As := [.int 0]) (rest := []) (C := RIL) ⟨hx, hb, hml, hown, hts⟩ (c_IL_cut l G (ad 0) (gRW_statements σ) 0 _ _ (bk_gP (k := 3) hB.1 rfl) (bk_own (k := 3) hB rfl) h2 _ rfl) (cwV 1 hts (gd_V ml_RW_54 im_IL_cut sl_IL_cut ini_IL k_IL_cut) rfl rmK_c rmK_s (by decide +kernel) ⟨Nat.le_of_ble_eq_true rfl, Nat.le_of_ble_eq_true rfl⟩) hK (pIL_recv hK (bk_gP (k := 3) hB.1 rfl) h2) hS hA hB rfl hk ⟨rfl, rfl⟩ rfl hl.1 (Nat.le_of_ble_eq_true rfl) d_RW_forget_5 (fun u18 H locs hu19 hB hS => ?_)
  have hB : bk G.1 vwCl A [[(h0, .inr (2, [.ref (ad 0), .ref (ad 1), .ref (ad 2), .ref (ad 3), .ref (ad 4), .ref (ad 5), .ref (ad 6), .ref q15, .ref q16]))], [(q15, .inl (G.2.1, 512, .inl (gRW_newestKind σ)))], [(q16, .inl (G.2.2.1, (gRW_steps σ).2, .inr (.inl (gRW_steps σ).1)))], u18, w3, w5, w7, w9, w11, w13] H := hB
  refine lv_aload_n hx hb d_RW_forget_8 rfl (lv_at hl 0 rfl) ?_
  refine va_get (D := G.1) (ci := 2) (v := .ref (ad 1)) (C := RRW) (T := TRW) (N := 9) hx hb hts inRW hown hK hB.1 0 rfl rfl 1 (by decide) (hts _ fl_RW_18) (fun _ h9 => h9) rfl d_RW_forget_9 ?_
  refine lv_iconst (v := 1) hx hb d_RW_forget_12 (by decide) ?_
  refine wrV0 (G := G) (k := 4) (As := [.int 1]) (rest := []) (C := RIL) ⟨hx, hb, hml, hown, hts⟩ (c_IL_cut l G (ad 1) (gRW_starts σ) 1 _ _ (bk_gP (k := 4) hB.1 rfl) (bk_own (k := 4) hB rfl) h4 _ rfl) (cwV 1 hts (gd_V ml_RW_54 im_IL_cut sl_IL_cut ini_IL k_IL_cut) rfl rmK_c rmK_s (by decide +kernel) ⟨Nat.le_of_ble_eq_true rfl, Nat.le_of_ble_eq_true rfl⟩) hK (pIL_recv hK (bk_gP (k := 4) hB.1 rfl) h4) hS hA hB rfl hk ⟨rfl, rfl⟩ rfl hl.1 (Nat.le_of_ble_eq_true rfl) d_RW_forget_13 (fun u20 H locs hu21 hB hS => ?_)
  have hB : bk G.1 vwCl A [[(h0, .inr (2, [.ref (ad 0), .ref (ad 1), .ref (ad 2), .ref (ad 3), .ref (ad 4), .ref (ad 5), .ref (ad 6), .ref q15, .ref q16]))], [(q15, .inl (G.2.1, 512, .inl (gRW_newestKind σ)))], [(q16, .inl (G.2.2.1, (gRW_steps σ).2, .inr (.inl (gRW_steps σ).1)))], u18, u20, w5, w7, w9, w11, w13] H := hB
  refine lv_aload_n hx hb d_RW_forget_16 rfl (lv_at hl 0 rfl) ?_
  refine va_get (D := G.1) (ci := 2) (v := .ref (ad 2)) (C := RRW) (T := TRW) (N := 9) hx hb hts inRW hown hK hB.1 0 rfl rfl 2 (by decide) (hts _ fl_RW_25) (fun _ h9 => h9) rfl d_RW_forget_17 ?_
  refine lv_iconst (v := 0) hx hb d_RW_forget_20 (by decide) ?_
  refine wrV0 (G := G) (k := 5) (As := [.int 0]) (rest := []) (C := RIL) ⟨hx, hb, hml, hown, hts⟩ (c_IL_cut l G (ad 2) (gRW_parts σ) 0 _ _ (bk_gP (k := 5) hB.1 rfl) (bk_own (k := 5) hB rfl) h6 _ rfl) (cwV 1 hts (gd_V ml_RW_54 im_IL_cut sl_IL_cut ini_IL k_IL_cut) rfl rmK_c rmK_s (by decide +kernel) ⟨Nat.le_of_ble_eq_true rfl, Nat.le_of_ble_eq_true rfl⟩) hK (pIL_recv hK (bk_gP (k := 5) hB.1 rfl) h6) hS hA hB rfl hk ⟨rfl, rfl⟩ rfl hl.1 (Nat.le_of_ble_eq_true rfl) d_RW_forget_21 (fun u22 H locs hu23 hB hS => ?_)
  have hB : bk G.1 vwCl A [[(h0, .inr (2, [.ref (ad 0), .ref (ad 1), .ref (ad 2), .ref (ad 3), .ref (ad 4), .ref (ad 5), .ref (ad 6), .ref q15, .ref q16]))], [(q15, .inl (G.2.1, 512, .inl (gRW_newestKind σ)))], [(q16, .inl (G.2.2.1, (gRW_steps σ).2, .inr (.inl (gRW_steps σ).1)))], u18, u20, u22, w7, w9, w11, w13] H := hB
  refine lv_aload_n hx hb d_RW_forget_24 rfl (lv_at hl 0 rfl) ?_
  refine va_get (D := G.1) (ci := 2) (v := .ref (ad 3)) (C := RRW) (T := TRW) (N := 9) hx hb hts inRW hown hK hB.1 0 rfl rfl 3 (by decide) (hts _ fl_RW_28) (fun _ h9 => h9) rfl d_RW_forget_25 ?_
  refine lv_iconst (v := 0) hx hb d_RW_forget_28 (by decide) ?_
  refine wrV0 (G := G) (k := 6) (As := [.int 0]) (rest := []) (C := RIL) ⟨hx, hb, hml, hown, hts⟩ (c_IL_cut l G (ad 3) (gRW_partKinds σ) 0 _ _ (bk_gP (k := 6) hB.1 rfl) (bk_own (k := 6) hB rfl) h8 _ rfl) (cwV 1 hts (gd_V ml_RW_54 im_IL_cut sl_IL_cut ini_IL k_IL_cut) rfl rmK_c rmK_s (by decide +kernel) ⟨Nat.le_of_ble_eq_true rfl, Nat.le_of_ble_eq_true rfl⟩) hK (pIL_recv hK (bk_gP (k := 6) hB.1 rfl) h8) hS hA hB rfl hk ⟨rfl, rfl⟩ rfl hl.1 (Nat.le_of_ble_eq_true rfl) d_RW_forget_29 (fun u24 H locs hu25 hB hS => ?_)
  have hB : bk G.1 vwCl A [[(h0, .inr (2, [.ref (ad 0), .ref (ad 1), .ref (ad 2), .ref (ad 3), .ref (ad 4), .ref (ad 5), .ref (ad 6), .ref q15, .ref q16]))], [(q15, .inl (G.2.1, 512, .inl (gRW_newestKind σ)))], [(q16, .inl (G.2.2.1, (gRW_steps σ).2, .inr (.inl (gRW_steps σ).1)))], u18, u20, u22, u24, w9, w11, w13] H := hB
  refine lv_aload_n hx hb d_RW_forget_32 rfl (lv_at hl 0 rfl) ?_
  refine va_get (D := G.1) (ci := 2) (v := .ref (ad 4)) (C := RRW) (T := TRW) (N := 9) hx hb hts inRW hown hK hB.1 0 rfl rfl 4 (by decide) (hts _ fl_RW_31) (fun _ h9 => h9) rfl d_RW_forget_33 ?_
  refine lv_iconst (v := 0) hx hb d_RW_forget_36 (by decide) ?_
  refine wrV0 (G := G) (k := 7) (As := [.int 0]) (rest := []) (C := RIL) ⟨hx, hb, hml, hown, hts⟩ (c_IL_cut l G (ad 4) (gRW_kinds σ) 0 _ _ (bk_gP (k := 7) hB.1 rfl) (bk_own (k := 7) hB rfl) h10 _ rfl) (cwV 1 hts (gd_V ml_RW_54 im_IL_cut sl_IL_cut ini_IL k_IL_cut) rfl rmK_c rmK_s (by decide +kernel) ⟨Nat.le_of_ble_eq_true rfl, Nat.le_of_ble_eq_true rfl⟩) hK (pIL_recv hK (bk_gP (k := 7) hB.1 rfl) h10) hS hA hB rfl hk ⟨rfl, rfl⟩ rfl hl.1 (Nat.le_of_ble_eq_true rfl) d_RW_forget_37 (fun u26 H locs hu27 hB hS => ?_)
  have hB : bk G.1 vwCl A [[(h0, .inr (2, [.ref (ad 0), .ref (ad 1), .ref (ad 2), .ref (ad 3), .ref (ad 4), .ref (ad 5), .ref (ad 6), .ref q15, .ref q16]))], [(q15, .inl (G.2.1, 512, .inl (gRW_newestKind σ)))], [(q16, .inl (G.2.2.1, (gRW_steps σ).2, .inr (.inl (gRW_steps σ).1)))], u18, u20, u22, u24, u26, w11, w13] H := hB
  refine lv_aload_n hx hb d_RW_forget_40 rfl (lv_at hl 0 rfl) ?_
  refine va_get (D := G.1) (ci := 2) (v := .ref (ad 5)) (C := RRW) (T := TRW) (N := 9) hx hb hts inRW hown hK hB.1 0 rfl rfl 5 (by decide) (hts _ fl_RW_34) (fun _ h9 => h9) rfl d_RW_forget_41 ?_
  refine lv_iconst (v := 0) hx hb d_RW_forget_44 (by decide) ?_
  refine wrV0 (G := G) (k := 8) (As := [.int 0]) (rest := []) (C := RIL) ⟨hx, hb, hml, hown, hts⟩ (c_IL_cut l G (ad 5) (gRW_firstOfKind σ) 0 _ _ (bk_gP (k := 8) hB.1 rfl) (bk_own (k := 8) hB rfl) h12 _ rfl) (cwV 1 hts (gd_V ml_RW_54 im_IL_cut sl_IL_cut ini_IL k_IL_cut) rfl rmK_c rmK_s (by decide +kernel) ⟨Nat.le_of_ble_eq_true rfl, Nat.le_of_ble_eq_true rfl⟩) hK (pIL_recv hK (bk_gP (k := 8) hB.1 rfl) h12) hS hA hB rfl hk ⟨rfl, rfl⟩ rfl hl.1 (Nat.le_of_ble_eq_true rfl) d_RW_forget_45 (fun u28 H locs hu29 hB hS => ?_)
  have hB : bk G.1 vwCl A [[(h0, .inr (2, [.ref (ad 0), .ref (ad 1), .ref (ad 2), .ref (ad 3), .ref (ad 4), .ref (ad 5), .ref (ad 6), .ref q15, .ref q16]))], [(q15, .inl (G.2.1, 512, .inl (gRW_newestKind σ)))], [(q16, .inl (G.2.2.1, (gRW_steps σ).2, .inr (.inl (gRW_steps σ).1)))], u18, u20, u22, u24, u26, u28, w13] H := hB
  refine lv_aload_n hx hb d_RW_forget_48 rfl (lv_at hl 0 rfl) ?_
  refine va_get (D := G.1) (ci := 2) (v := .ref (ad 6)) (C := RRW) (T := TRW) (N := 9) hx hb hts inRW hown hK hB.1 0 rfl rfl 6 (by decide) (hts _ fl_RW_37) (fun _ h9 => h9) rfl d_RW_forget_49 ?_
  refine lv_iconst (v := 0) hx hb d_RW_forget_52 (by decide) ?_
  refine wrV0 (G := G) (k := 9) (As := [.int 0]) (rest := []) (C := RIL) ⟨hx, hb, hml, hown, hts⟩ (c_IL_cut l G (ad 6) (gRW_olderKind σ) 0 _ _ (bk_gP (k := 9) hB.1 rfl) (bk_own (k := 9) hB rfl) h14 _ rfl) (cwV 1 hts (gd_V ml_RW_54 im_IL_cut sl_IL_cut ini_IL k_IL_cut) rfl rmK_c rmK_s (by decide +kernel) ⟨Nat.le_of_ble_eq_true rfl, Nat.le_of_ble_eq_true rfl⟩) hK (pIL_recv hK (bk_gP (k := 9) hB.1 rfl) h14) hS hA hB rfl hk ⟨rfl, rfl⟩ rfl hl.1 (Nat.le_of_ble_eq_true rfl) d_RW_forget_53 (fun u30 H locs hu31 hB hS => ?_)
  have hB : bk G.1 vwCl A [[(h0, .inr (2, [.ref (ad 0), .ref (ad 1), .ref (ad 2), .ref (ad 3), .ref (ad 4), .ref (ad 5), .ref (ad 6), .ref q15, .ref q16]))], [(q15, .inl (G.2.1, 512, .inl (gRW_newestKind σ)))], [(q16, .inl (G.2.2.1, (gRW_steps σ).2, .inr (.inl (gRW_steps σ).1)))], u18, u20, u22, u24, u26, u28, u30] H := hB
  refine lv_aload_n hx hb d_RW_forget_56 rfl (lv_at hl 0 rfl) ?_
  refine va_get (D := G.1) (ci := 2) (v := .ref q15) (C := RRW) (T := TRW) (N := 9) hx hb hts inRW hown hK hB.1 0 rfl rfl 7 (by decide) (hts _ fl_RW_40) (fun _ h9 => h9) rfl d_RW_forget_57 ?_
  refine lv_iconst (v := (-1)) hx hb d_RW_forget_60 (by decide) ?_
  refine wrS0 (G := G) (k := 1) (As := [.ref q15, .int (-1)]) (rest := []) ⟨hx, hb, hml, hown, hts⟩ (c_AR_fill l G q15 512 (gRW_newestKind σ) (-1) _ _ (bk_gP (k := 1) hB.1 rfl) (bk_own (k := 1) hB rfl) rfl (by decide)) (va_cwS 2 hts (gd_S ml_RW_44 sm_AR_fill ini_AR k_AR_fill) rfl rfl rfl (by decide +kernel) ⟨Nat.le_of_ble_eq_true rfl, Nat.le_of_ble_eq_true rfl⟩) hK hS hA hB rfl hk ⟨rfl, rfl⟩ rfl hl.1 (Nat.le_of_ble_eq_true rfl) d_RW_forget_61 (fun u32 H locs hu33 hB hS => ?_)
  subst hu33
  have hB : bk G.1 vwCl A [[(h0, .inr (2, [.ref (ad 0), .ref (ad 1), .ref (ad 2), .ref (ad 3), .ref (ad 4), .ref (ad 5), .ref (ad 6), .ref q15, .ref q16]))], [(q15, .inl (G.2.1, 512, .inl (fun _ => (-1))))], [(q16, .inl (G.2.2.1, (gRW_steps σ).2, .inr (.inl (gRW_steps σ).1)))], u18, u20, u22, u24, u26, u28, u30] H := hB
  subst hr0
  refine W.widen (k := 0) (n := 0) (Nat.le_refl _) (Nat.le_refl _) ?_
  exact W.vret hx hb hr (fun t ht hW => ⟨⟨[[(h0, .inr (2, [.ref (ad 0), .ref (ad 1), .ref (ad 2), .ref (ad 3), .ref (ad 4), .ref (ad 5), .ref (ad 6), .ref q15, .ref q16]))], [(q15, .inl (G.2.1, 512, .inl (fun _ => (-1))))], [(q16, .inl (G.2.2.1, (gRW_steps σ).2, .inr (.inl (gRW_steps σ).1)))], u18, u20, u22, u24, u26, u28, u30].flatten, rfl, ⟨q15, q16, u18, u20, u22, u24, u26, u28, u30, rfl, hu19, hu21, hu23, hu25, hu27, hu29, hu31, h17⟩, by rw [ht]; exact hB.1, hB.2⟩, hS.F ht⟩) hS.2.2 d_RW_forget_64

def A_RW_amount (σ : tRW) : Int32 := A_IL_length (gRW_statements σ)
set_option maxHeartbeats 4000000 in
set_option maxRecDepth 100000 in
theorem c_RW_amount (l : Launch) (G : pG) (h0 : Nat) (ad : Nat → Nat) (σ : tRW) (H : Heap) (w : va_W) (hP0 : va_P G.1 vwCl w H) (hσ : pRW G h0 ad σ w) (res : Int32) (hr0 : A_RW_amount σ = res) : MRi l y_RW_amount w_RW_amount 1 20 G [.ref h0] H res := by
  refine Met.ofW (cc := b_RW_amount) (maxL := 1) (ret := (some .int)) (by decide) rfl ?_
  intro p e s m args below meth c s₁ B hml hv
  obtain ⟨rfl, rfl, hK⟩ := hv
  have hx := B.exec
  have hb := B.bytes
  have hr := B.returns
  have hts0 := atoms_spec (ws := w_RW_amount) B.pre
  have hts := fun w (h : w ∈ lw_g) => hts0 w (List.mem_cons_of_mem _ h)
  have hown : s.vm.findClass RRW = some m.cls := findClass_of_methodNamed B.named
  have hlocks := B.notSynchronized
  have hσ0 := hσ
  obtain ⟨q15, q16, w1, w3, w5, w7, w9, w11, w13, rfl, h2, h4, h6, h8, h10, h12, h14, h17⟩ := hσ
  have hP := hP0
  obtain ⟨A, hAe⟩ : ∃ A : Nat → Prop, A = fun _ => False := ⟨_, rfl⟩
  rw [← hAe]
  have hS : va_S A s.heap s.heap [] := va_S.rf
  have hl := lv_entry ([.ref h0]) (n := 1) (Nat.le_of_ble_eq_true rfl)
  rw [lg_entry_eq]
  generalize (lg_sl ([.ref h0]) ++ List.replicate (1 - (lg_sl ([.ref h0])).length) Slot.unset).toArray = ls at hl ⊢
  have hl : lv_has ls 1 [(0, .ref h0)] := hl
  unfold A_RW_amount at hr0
  refine lv_aload_n hx hb d_RW_amount_0 rfl (lv_at hl 0 rfl) ?_
  refine va_get (D := G.1) (ci := 2) (v := .ref (ad 0)) (C := RRW) (T := TRW) (N := 9) hx hb hts inRW hown hK hP 0 rfl rfl 0 (by decide) (hts _ fl_RW_12) (fun _ h9 => h9) rfl d_RW_amount_1 ?_
  refine rdV (G := G) (As := []) (rest := []) (C := RIL) ⟨hx, hb, hml, hown, hts⟩ (c_IL_length l G (ad 0) (gRW_statements σ) _ _ (bk_gP (k := 3) hP rfl) h2 _ rfl) (cwV 0 hts (gd_V ml_RW_57 im_IL_length sl_IL_length ini_IL k_IL_length) rfl rmK_c rmK_s (by decide +kernel) ⟨Nat.le_of_ble_eq_true rfl, Nat.le_of_ble_eq_true rfl⟩) hK (pIL_recv hK (bk_gP (k := 3) hP rfl) h2) hS ⟨Nat.le_refl _, Nat.le_refl _⟩ rfl hl.1 (Nat.le_of_ble_eq_true rfl) d_RW_amount_4 (fun locs hS => ?_)
  exact W.iret (v := (A_IL_length (gRW_statements σ))) hx hb hr (fun t ht hW => ⟨⟨(A_IL_length (gRW_statements σ)), (), rfl, hr0, ht⟩, hS.F ht⟩) hS.2.2 d_RW_amount_7

def A_RW_amountOfKinds (σ : tRW) : Int32 := A_IL_length (gRW_firstOfKind σ)
set_option maxHeartbeats 4000000 in
set_option maxRecDepth 100000 in
theorem c_RW_amountOfKinds (l : Launch) (G : pG) (h0 : Nat) (ad : Nat → Nat) (σ : tRW) (H : Heap) (w : va_W) (hP0 : va_P G.1 vwCl w H) (hσ : pRW G h0 ad σ w) (res : Int32) (hr0 : A_RW_amountOfKinds σ = res) : MRi l y_RW_amountOfKinds w_RW_amountOfKinds 1 20 G [.ref h0] H res := by
  refine Met.ofW (cc := b_RW_amountOfKinds) (maxL := 1) (ret := (some .int)) (by decide) rfl ?_
  intro p e s m args below meth c s₁ B hml hv
  obtain ⟨rfl, rfl, hK⟩ := hv
  have hx := B.exec
  have hb := B.bytes
  have hr := B.returns
  have hts0 := atoms_spec (ws := w_RW_amountOfKinds) B.pre
  have hts := fun w (h : w ∈ lw_g) => hts0 w (List.mem_cons_of_mem _ h)
  have hown : s.vm.findClass RRW = some m.cls := findClass_of_methodNamed B.named
  have hlocks := B.notSynchronized
  have hσ0 := hσ
  obtain ⟨q15, q16, w1, w3, w5, w7, w9, w11, w13, rfl, h2, h4, h6, h8, h10, h12, h14, h17⟩ := hσ
  have hP := hP0
  obtain ⟨A, hAe⟩ : ∃ A : Nat → Prop, A = fun _ => False := ⟨_, rfl⟩
  rw [← hAe]
  have hS : va_S A s.heap s.heap [] := va_S.rf
  have hl := lv_entry ([.ref h0]) (n := 1) (Nat.le_of_ble_eq_true rfl)
  rw [lg_entry_eq]
  generalize (lg_sl ([.ref h0]) ++ List.replicate (1 - (lg_sl ([.ref h0])).length) Slot.unset).toArray = ls at hl ⊢
  have hl : lv_has ls 1 [(0, .ref h0)] := hl
  unfold A_RW_amountOfKinds at hr0
  refine lv_aload_n hx hb d_RW_amountOfKinds_0 rfl (lv_at hl 0 rfl) ?_
  refine va_get (D := G.1) (ci := 2) (v := .ref (ad 5)) (C := RRW) (T := TRW) (N := 9) hx hb hts inRW hown hK hP 0 rfl rfl 5 (by decide) (hts _ fl_RW_34) (fun _ h9 => h9) rfl d_RW_amountOfKinds_1 ?_
  refine rdV (G := G) (As := []) (rest := []) (C := RIL) ⟨hx, hb, hml, hown, hts⟩ (c_IL_length l G (ad 5) (gRW_firstOfKind σ) _ _ (bk_gP (k := 8) hP rfl) h12 _ rfl) (cwV 0 hts (gd_V ml_RW_57 im_IL_length sl_IL_length ini_IL k_IL_length) rfl rmK_c rmK_s (by decide +kernel) ⟨Nat.le_of_ble_eq_true rfl, Nat.le_of_ble_eq_true rfl⟩) hK (pIL_recv hK (bk_gP (k := 8) hP rfl) h12) hS ⟨Nat.le_refl _, Nat.le_refl _⟩ rfl hl.1 (Nat.le_of_ble_eq_true rfl) d_RW_amountOfKinds_4 (fun locs hS => ?_)
  exact W.iret (v := (A_IL_length (gRW_firstOfKind σ))) hx hb hr (fun t ht hW => ⟨⟨(A_IL_length (gRW_firstOfKind σ)), (), rfl, hr0, ht⟩, hS.F ht⟩) hS.2.2 d_RW_amountOfKinds_7

def A_RW_has (σ : tRW) (r : Int32) : Int32 := if r < 0 then 0 else (if (A_IL_length (gRW_statements σ)) ≤ r then 0 else 1)
set_option maxHeartbeats 4000000 in
set_option maxRecDepth 100000 in
theorem c_RW_has (l : Launch) (G : pG) (h0 : Nat) (ad : Nat → Nat) (σ : tRW) (r : Int32) (H : Heap) (w : va_W) (hP0 : va_P G.1 vwCl w H) (hσ : pRW G h0 ad σ w) (res : Int32) (hr0 : A_RW_has σ r = res) : MRi l y_RW_has w_RW_has 1 20 G [.ref h0, .int r] H res := by
  refine Met.ofW (cc := b_RW_has) (maxL := 2) (ret := (some .boolean)) (by decide) rfl ?_
  intro p e s m args below meth c s₁ B hml hv
  obtain ⟨rfl, rfl, hK⟩ := hv
  have hx := B.exec
  have hb := B.bytes
  have hr := B.returns
  have hts0 := atoms_spec (ws := w_RW_has) B.pre
  have hts := fun w (h : w ∈ lw_g) => hts0 w (List.mem_cons_of_mem _ h)
  have hown : s.vm.findClass RRW = some m.cls := findClass_of_methodNamed B.named
  have hlocks := B.notSynchronized
  have hσ0 := hσ
  obtain ⟨q15, q16, w1, w3, w5, w7, w9, w11, w13, rfl, h2, h4, h6, h8, h10, h12, h14, h17⟩ := hσ
  have hP := hP0
  obtain ⟨A, hAe⟩ : ∃ A : Nat → Prop, A = fun _ => False := ⟨_, rfl⟩
  rw [← hAe]
  have hS : va_S A s.heap s.heap [] := va_S.rf
  have hl := lv_entry ([.ref h0, .int r]) (n := 2) (Nat.le_of_ble_eq_true rfl)
  rw [lg_entry_eq]
  generalize (lg_sl ([.ref h0, .int r]) ++ List.replicate (2 - (lg_sl ([.ref h0, .int r])).length) Slot.unset).toArray = ls at hl ⊢
  have hl : lv_has ls 2 [(0, .ref h0), (1, .int r)] := hl
  unfold A_RW_has at hr0
  refine lv_iload_n hx hb d_RW_has_0 rfl (lv_at hl 1 rfl) ?_
  refine lv_if_lt (tgt := 19) hx hb d_RW_has_1 (by decide) (fun c18 => ?_) (fun c18 => ?_)
  · have hr0 := ai_pos c18 hr0
    refine lv_iconst (v := 0) hx hb d_RW_has_19 (by decide) ?_
    exact W.zret (v := 0) hx hb hr (by decide) (fun t ht hW => ⟨⟨0, (), rfl, hr0, ht⟩, hS.F ht⟩) hS.2.2 d_RW_has_20
  · have hr0 := ai_neg c18 hr0
    refine lv_iload_n hx hb d_RW_has_4 rfl (lv_at hl 1 rfl) ?_
    refine lv_aload_n hx hb d_RW_has_5 rfl (lv_at hl 0 rfl) ?_
    refine va_get (D := G.1) (ci := 2) (v := .ref (ad 0)) (C := RRW) (T := TRW) (N := 9) hx hb hts inRW hown hK hP 0 rfl rfl 0 (by decide) (hts _ fl_RW_12) (fun _ h9 => h9) rfl d_RW_has_6 ?_
    refine rdV (G := G) (As := []) (rest := [.int r]) (C := RIL) ⟨hx, hb, hml, hown, hts⟩ (c_IL_length l G (ad 0) (gRW_statements σ) _ _ (bk_gP (k := 3) hP rfl) h2 _ rfl) (cwV 0 hts (gd_V ml_RW_57 im_IL_length sl_IL_length ini_IL k_IL_length) rfl rmK_c rmK_s (by decide +kernel) ⟨Nat.le_of_ble_eq_true rfl, Nat.le_of_ble_eq_true rfl⟩) hK (pIL_recv hK (bk_gP (k := 3) hP rfl) h2) hS ⟨Nat.le_refl _, Nat.le_refl _⟩ rfl hl.1 (Nat.le_of_ble_eq_true rfl) d_RW_has_9 (fun locs hS => ?_)
    refine lv_icmp_ge (tgt := 19) hx hb d_RW_has_12 (by decide) (fun c19 => ?_) (fun c19 => ?_)
    · have hr0 := ai_pos c19 hr0
      refine lv_iconst (v := 0) hx hb d_RW_has_19 (by decide) ?_
      exact W.zret (v := 0) hx hb hr (by decide) (fun t ht hW => ⟨⟨0, (), rfl, hr0, ht⟩, hS.F ht⟩) hS.2.2 d_RW_has_20
    · have hr0 := ai_neg c19 hr0
      refine lv_iconst (v := 1) hx hb d_RW_has_15 (by decide) ?_
      refine lv_goto (tgt := 20) hx hb d_RW_has_16 (by decide) ?_
      exact W.zret (v := 1) hx hb hr (by decide) (fun t ht hW => ⟨⟨1, (), rfl, hr0, ht⟩, hS.F ht⟩) hS.2.2 d_RW_has_20

def A_RW_statementOf (σ : tRW) (r : Int32) : Int32 := A_IL_at (gRW_statements σ) r
set_option maxHeartbeats 4000000 in
set_option maxRecDepth 100000 in
theorem c_RW_statementOf (l : Launch) (G : pG) (h0 : Nat) (ad : Nat → Nat) (σ : tRW) (r : Int32) (H : Heap) (w : va_W) (hP0 : va_P G.1 vwCl w H) (hσ : pRW G h0 ad σ w) (res : Int32) (hr0 : A_RW_statementOf σ r = res) : MRi l y_RW_statementOf w_RW_statementOf 1 21 G [.ref h0, .int r] H res := by
  refine Met.ofW (cc := b_RW_statementOf) (maxL := 2) (ret := (some .int)) (by decide) rfl ?_
  intro p e s m args below meth c s₁ B hml hv
  obtain ⟨rfl, rfl, hK⟩ := hv
  have hx := B.exec
  have hb := B.bytes
  have hr := B.returns
  have hts0 := atoms_spec (ws := w_RW_statementOf) B.pre
  have hts := fun w (h : w ∈ lw_g) => hts0 w (List.mem_cons_of_mem _ h)
  have hown : s.vm.findClass RRW = some m.cls := findClass_of_methodNamed B.named
  have hlocks := B.notSynchronized
  have hσ0 := hσ
  obtain ⟨q15, q16, w1, w3, w5, w7, w9, w11, w13, rfl, h2, h4, h6, h8, h10, h12, h14, h17⟩ := hσ
  have hP := hP0
  obtain ⟨A, hAe⟩ : ∃ A : Nat → Prop, A = fun _ => False := ⟨_, rfl⟩
  rw [← hAe]
  have hS : va_S A s.heap s.heap [] := va_S.rf
  have hl := lv_entry ([.ref h0, .int r]) (n := 2) (Nat.le_of_ble_eq_true rfl)
  rw [lg_entry_eq]
  generalize (lg_sl ([.ref h0, .int r]) ++ List.replicate (2 - (lg_sl ([.ref h0, .int r])).length) Slot.unset).toArray = ls at hl ⊢
  have hl : lv_has ls 2 [(0, .ref h0), (1, .int r)] := hl
  unfold A_RW_statementOf at hr0
  refine lv_aload_n hx hb d_RW_statementOf_0 rfl (lv_at hl 0 rfl) ?_
  refine va_get (D := G.1) (ci := 2) (v := .ref (ad 0)) (C := RRW) (T := TRW) (N := 9) hx hb hts inRW hown hK hP 0 rfl rfl 0 (by decide) (hts _ fl_RW_12) (fun _ h9 => h9) rfl d_RW_statementOf_1 ?_
  refine lv_iload_n hx hb d_RW_statementOf_4 rfl (lv_at hl 1 rfl) ?_
  refine rdV (G := G) (As := [.int r]) (rest := []) (C := RIL) ⟨hx, hb, hml, hown, hts⟩ (c_IL_at l G (ad 0) (gRW_statements σ) r _ _ (bk_gP (k := 3) hP rfl) h2 _ rfl) (cwV 1 hts (gd_V ml_RW_61 im_IL_at sl_IL_at ini_IL k_IL_at) rfl rmK_c rmK_s (by decide +kernel) ⟨Nat.le_of_ble_eq_true rfl, Nat.le_of_ble_eq_true rfl⟩) hK (pIL_recv hK (bk_gP (k := 3) hP rfl) h2) hS ⟨Nat.le_refl _, Nat.le_refl _⟩ rfl hl.1 (Nat.le_of_ble_eq_true rfl) d_RW_statementOf_5 (fun locs hS => ?_)
  exact W.iret (v := (A_IL_at (gRW_statements σ) r)) hx hb hr (fun t ht hW => ⟨⟨(A_IL_at (gRW_statements σ) r), (), rfl, hr0, ht⟩, hS.F ht⟩) hS.2.2 d_RW_statementOf_8

def A_RW_kindOf (σ : tRW) (r : Int32) : Int32 := A_IL_at (gRW_kinds σ) r
set_option maxHeartbeats 4000000 in
set_option maxRecDepth 100000 in
theorem c_RW_kindOf (l : Launch) (G : pG) (h0 : Nat) (ad : Nat → Nat) (σ : tRW) (r : Int32) (H : Heap) (w : va_W) (hP0 : va_P G.1 vwCl w H) (hσ : pRW G h0 ad σ w) (res : Int32) (hr0 : A_RW_kindOf σ r = res) : MRi l y_RW_kindOf w_RW_kindOf 1 21 G [.ref h0, .int r] H res := by
  refine Met.ofW (cc := b_RW_kindOf) (maxL := 2) (ret := (some .int)) (by decide) rfl ?_
  intro p e s m args below meth c s₁ B hml hv
  obtain ⟨rfl, rfl, hK⟩ := hv
  have hx := B.exec
  have hb := B.bytes
  have hr := B.returns
  have hts0 := atoms_spec (ws := w_RW_kindOf) B.pre
  have hts := fun w (h : w ∈ lw_g) => hts0 w (List.mem_cons_of_mem _ h)
  have hown : s.vm.findClass RRW = some m.cls := findClass_of_methodNamed B.named
  have hlocks := B.notSynchronized
  have hσ0 := hσ
  obtain ⟨q15, q16, w1, w3, w5, w7, w9, w11, w13, rfl, h2, h4, h6, h8, h10, h12, h14, h17⟩ := hσ
  have hP := hP0
  obtain ⟨A, hAe⟩ : ∃ A : Nat → Prop, A = fun _ => False := ⟨_, rfl⟩
  rw [← hAe]
  have hS : va_S A s.heap s.heap [] := va_S.rf
  have hl := lv_entry ([.ref h0, .int r]) (n := 2) (Nat.le_of_ble_eq_true rfl)
  rw [lg_entry_eq]
  generalize (lg_sl ([.ref h0, .int r]) ++ List.replicate (2 - (lg_sl ([.ref h0, .int r])).length) Slot.unset).toArray = ls at hl ⊢
  have hl : lv_has ls 2 [(0, .ref h0), (1, .int r)] := hl
  unfold A_RW_kindOf at hr0
  refine lv_aload_n hx hb d_RW_kindOf_0 rfl (lv_at hl 0 rfl) ?_
  refine va_get (D := G.1) (ci := 2) (v := .ref (ad 4)) (C := RRW) (T := TRW) (N := 9) hx hb hts inRW hown hK hP 0 rfl rfl 4 (by decide) (hts _ fl_RW_31) (fun _ h9 => h9) rfl d_RW_kindOf_1 ?_
  refine lv_iload_n hx hb d_RW_kindOf_4 rfl (lv_at hl 1 rfl) ?_
  refine rdV (G := G) (As := [.int r]) (rest := []) (C := RIL) ⟨hx, hb, hml, hown, hts⟩ (c_IL_at l G (ad 4) (gRW_kinds σ) r _ _ (bk_gP (k := 7) hP rfl) h10 _ rfl) (cwV 1 hts (gd_V ml_RW_61 im_IL_at sl_IL_at ini_IL k_IL_at) rfl rmK_c rmK_s (by decide +kernel) ⟨Nat.le_of_ble_eq_true rfl, Nat.le_of_ble_eq_true rfl⟩) hK (pIL_recv hK (bk_gP (k := 7) hP rfl) h10) hS ⟨Nat.le_refl _, Nat.le_refl _⟩ rfl hl.1 (Nat.le_of_ble_eq_true rfl) d_RW_kindOf_5 (fun locs hS => ?_)
  exact W.iret (v := (A_IL_at (gRW_kinds σ) r)) hx hb hr (fun t ht hW => ⟨⟨(A_IL_at (gRW_kinds σ) r), (), rfl, hr0, ht⟩, hS.F ht⟩) hS.2.2 d_RW_kindOf_8

def A_RW_amountOfParts (σ : tRW) (r : Int32) : Int32 := if (A_RW_has σ r) = 0 then 0 else ((A_IL_at (gRW_starts σ) (r + 1)) - (A_IL_at (gRW_starts σ) r))
set_option maxHeartbeats 4000000 in
set_option maxRecDepth 100000 in
theorem c_RW_amountOfParts (l : Launch) (G : pG) (h0 : Nat) (ad : Nat → Nat) (σ : tRW) (r : Int32) (H : Heap) (w : va_W) (hP0 : va_P G.1 vwCl w H) (hσ : pRW G h0 ad σ w) (res : Int32) (hr0 : A_RW_amountOfParts σ r = res) : MRi l y_RW_amountOfParts w_RW_amountOfParts 2 41 G [.ref h0, .int r] H res := by
  refine Met.ofW (cc := b_RW_amountOfParts) (maxL := 2) (ret := (some .int)) (by decide) rfl ?_
  intro p e s m args below meth c s₁ B hml hv
  obtain ⟨rfl, rfl, hK⟩ := hv
  have hx := B.exec
  have hb := B.bytes
  have hr := B.returns
  have hts0 := atoms_spec (ws := w_RW_amountOfParts) B.pre
  have hts := fun w (h : w ∈ lw_g) => hts0 w (List.mem_cons_of_mem _ h)
  have hown : s.vm.findClass RRW = some m.cls := findClass_of_methodNamed B.named
  have hlocks := B.notSynchronized
  have hσ0 := hσ
  obtain ⟨q15, q16, w1, w3, w5, w7, w9, w11, w13, rfl, h2, h4, h6, h8, h10, h12, h14, h17⟩ := hσ
  have hP := hP0
  obtain ⟨A, hAe⟩ : ∃ A : Nat → Prop, A = fun _ => False := ⟨_, rfl⟩
  rw [← hAe]
  have hS : va_S A s.heap s.heap [] := va_S.rf
  have hl := lv_entry ([.ref h0, .int r]) (n := 2) (Nat.le_of_ble_eq_true rfl)
  rw [lg_entry_eq]
  generalize (lg_sl ([.ref h0, .int r]) ++ List.replicate (2 - (lg_sl ([.ref h0, .int r])).length) Slot.unset).toArray = ls at hl ⊢
  have hl : lv_has ls 2 [(0, .ref h0), (1, .int r)] := hl
  unfold A_RW_amountOfParts at hr0
  refine lv_aload_n hx hb d_RW_amountOfParts_0 rfl (lv_at hl 0 rfl) ?_
  refine lv_iload_n hx hb d_RW_amountOfParts_1 rfl (lv_at hl 1 rfl) ?_
  refine rdV (G := G) (As := [.int r]) (rest := []) (C := RRW) ⟨hx, hb, hml, hown, hts⟩ (c_RW_has l G h0 ad σ r _ _ hP0 hσ0 _ rfl) (cwV 1 hts (gd_V ml_RW_65 im_RW_has sl_RW_has ini_RW k_RW_has) rfl rmK_c rmK_s (by decide +kernel) ⟨Nat.le_of_ble_eq_true rfl, Nat.le_of_ble_eq_true rfl⟩) hK (pRW_recv hK hP0 hσ0) hS ⟨Nat.le_refl _, Nat.le_refl _⟩ rfl hl.1 (Nat.le_of_ble_eq_true rfl) d_RW_amountOfParts_2 (fun locs hS => ?_)
  refine lv_if_eq (tgt := 30) hx hb d_RW_amountOfParts_5 (by decide) (fun c18 => ?_) (fun c18 => ?_)
  · have hr0 := ai_pos c18 hr0
    refine lv_iconst (v := 0) hx hb d_RW_amountOfParts_30 (by decide) ?_
    exact W.iret (v := 0) hx hb hr (fun t ht hW => ⟨⟨0, (), rfl, hr0, ht⟩, hS.F ht⟩) hS.2.2 d_RW_amountOfParts_31
  · have hr0 := ai_neg c18 hr0
    refine lv_aload_n hx hb d_RW_amountOfParts_8 rfl (lv_at hl 0 rfl) ?_
    refine va_get (D := G.1) (ci := 2) (v := .ref (ad 1)) (C := RRW) (T := TRW) (N := 9) hx hb hts inRW hown hK hP 0 rfl rfl 1 (by decide) (hts _ fl_RW_18) (fun _ h9 => h9) rfl d_RW_amountOfParts_9 ?_
    refine lv_iload_n hx hb d_RW_amountOfParts_12 rfl (lv_at hl 1 rfl) ?_
    refine lv_iconst (v := 1) hx hb d_RW_amountOfParts_13 (by decide) ?_
    refine lv_iadd hx hb d_RW_amountOfParts_14 ?_
    refine rdV (G := G) (As := [.int (r + 1)]) (rest := []) (C := RIL) ⟨hx, hb, hml, hown, hts⟩ (c_IL_at l G (ad 1) (gRW_starts σ) (r + 1) _ _ (bk_gP (k := 4) hP rfl) h4 _ rfl) (cwV 1 hts (gd_V ml_RW_61 im_IL_at sl_IL_at ini_IL k_IL_at) rfl rmK_c rmK_s (by decide +kernel) ⟨Nat.le_of_ble_eq_true rfl, Nat.le_of_ble_eq_true rfl⟩) hK (pIL_recv hK (bk_gP (k := 4) hP rfl) h4) hS ⟨Nat.le_refl _, Nat.le_refl _⟩ rfl hl.1 (Nat.le_of_ble_eq_true rfl) d_RW_amountOfParts_15 (fun locs hS => ?_)
    refine lv_aload_n hx hb d_RW_amountOfParts_18 rfl (lv_at hl 0 rfl) ?_
    refine va_get (D := G.1) (ci := 2) (v := .ref (ad 1)) (C := RRW) (T := TRW) (N := 9) hx hb hts inRW hown hK hP 0 rfl rfl 1 (by decide) (hts _ fl_RW_18) (fun _ h9 => h9) rfl d_RW_amountOfParts_19 ?_
    refine lv_iload_n hx hb d_RW_amountOfParts_22 rfl (lv_at hl 1 rfl) ?_
    refine rdV (G := G) (As := [.int r]) (rest := [.int (A_IL_at (gRW_starts σ) (r + 1))]) (C := RIL) ⟨hx, hb, hml, hown, hts⟩ (c_IL_at l G (ad 1) (gRW_starts σ) r _ _ (bk_gP (k := 4) hP rfl) h4 _ rfl) (cwV 1 hts (gd_V ml_RW_61 im_IL_at sl_IL_at ini_IL k_IL_at) rfl rmK_c rmK_s (by decide +kernel) ⟨Nat.le_of_ble_eq_true rfl, Nat.le_of_ble_eq_true rfl⟩) hK (pIL_recv hK (bk_gP (k := 4) hP rfl) h4) hS ⟨Nat.le_refl _, Nat.le_refl _⟩ rfl hl.1 (Nat.le_of_ble_eq_true rfl) d_RW_amountOfParts_23 (fun locs hS => ?_)
    refine lv_isub hx hb d_RW_amountOfParts_26 ?_
    refine lv_goto (tgt := 31) hx hb d_RW_amountOfParts_27 (by decide) ?_
    exact W.iret (v := ((A_IL_at (gRW_starts σ) (r + 1)) - (A_IL_at (gRW_starts σ) r))) hx hb hr (fun t ht hW => ⟨⟨((A_IL_at (gRW_starts σ) (r + 1)) - (A_IL_at (gRW_starts σ) r)), (), rfl, hr0, ht⟩, hS.F ht⟩) hS.2.2 d_RW_amountOfParts_31

def A_RW_part (σ : tRW) (r : Int32) (k : Int32) : Int32 := if k < 0 then (-1) else (if (A_RW_amountOfParts σ r) ≤ k then (-1) else (A_IL_at (gRW_parts σ) ((A_IL_at (gRW_starts σ) r) + k)))
set_option maxHeartbeats 4000000 in
set_option maxRecDepth 100000 in
theorem c_RW_part (l : Launch) (G : pG) (h0 : Nat) (ad : Nat → Nat) (σ : tRW) (r : Int32) (k : Int32) (H : Heap) (w : va_W) (hP0 : va_P G.1 vwCl w H) (hσ : pRW G h0 ad σ w) (res : Int32) (hr0 : A_RW_part σ r k = res) : MRi l y_RW_part w_RW_part 3 62 G [.ref h0, .int r, .int k] H res := by
  refine Met.ofW (cc := b_RW_part) (maxL := 3) (ret := (some .int)) (by decide) rfl ?_
  intro p e s m args below meth c s₁ B hml hv
  obtain ⟨rfl, rfl, hK⟩ := hv
  have hx := B.exec
  have hb := B.bytes
  have hr := B.returns
  have hts0 := atoms_spec (ws := w_RW_part) B.pre
  have hts := fun w (h : w ∈ lw_g) => hts0 w (List.mem_cons_of_mem _ h)
  have hown : s.vm.findClass RRW = some m.cls := findClass_of_methodNamed B.named
  have hlocks := B.notSynchronized
  have hσ0 := hσ
  obtain ⟨q15, q16, w1, w3, w5, w7, w9, w11, w13, rfl, h2, h4, h6, h8, h10, h12, h14, h17⟩ := hσ
  have hP := hP0
  obtain ⟨A, hAe⟩ : ∃ A : Nat → Prop, A = fun _ => False := ⟨_, rfl⟩
  rw [← hAe]
  have hS : va_S A s.heap s.heap [] := va_S.rf
  have hl := lv_entry ([.ref h0, .int r, .int k]) (n := 3) (Nat.le_of_ble_eq_true rfl)
  rw [lg_entry_eq]
  generalize (lg_sl ([.ref h0, .int r, .int k]) ++ List.replicate (3 - (lg_sl ([.ref h0, .int r, .int k])).length) Slot.unset).toArray = ls at hl ⊢
  have hl : lv_has ls 3 [(0, .ref h0), (1, .int r), (2, .int k)] := hl
  unfold A_RW_part at hr0
  refine lv_iload_n hx hb d_RW_part_0 rfl (lv_at hl 2 rfl) ?_
  refine lv_if_lt (tgt := 33) hx hb d_RW_part_1 (by decide) (fun c18 => ?_) (fun c18 => ?_)
  · have hr0 := ai_pos c18 hr0
    refine lv_iconst (v := (-1)) hx hb d_RW_part_33 (by decide) ?_
    exact W.iret (v := (-1)) hx hb hr (fun t ht hW => ⟨⟨(-1), (), rfl, hr0, ht⟩, hS.F ht⟩) hS.2.2 d_RW_part_34
  · have hr0 := ai_neg c18 hr0
    refine lv_iload_n hx hb d_RW_part_4 rfl (lv_at hl 2 rfl) ?_
    refine lv_aload_n hx hb d_RW_part_5 rfl (lv_at hl 0 rfl) ?_
    refine lv_iload_n hx hb d_RW_part_6 rfl (lv_at hl 1 rfl) ?_
    refine rdV (G := G) (As := [.int r]) (rest := [.int k]) (C := RRW) ⟨hx, hb, hml, hown, hts⟩ (c_RW_amountOfParts l G h0 ad σ r _ _ hP0 hσ0 _ rfl) (cwV 1 hts (gd_V ml_RW_69 im_RW_amountOfParts sl_RW_amountOfParts ini_RW k_RW_amountOfParts) rfl rmK_c rmK_s (by decide +kernel) ⟨Nat.le_of_ble_eq_true rfl, Nat.le_of_ble_eq_true rfl⟩) hK (pRW_recv hK hP0 hσ0) hS ⟨Nat.le_refl _, Nat.le_refl _⟩ rfl hl.1 (Nat.le_of_ble_eq_true rfl) d_RW_part_7 (fun locs hS => ?_)
    refine lv_icmp_ge (tgt := 33) hx hb d_RW_part_10 (by decide) (fun c19 => ?_) (fun c19 => ?_)
    · have hr0 := ai_pos c19 hr0
      refine lv_iconst (v := (-1)) hx hb d_RW_part_33 (by decide) ?_
      exact W.iret (v := (-1)) hx hb hr (fun t ht hW => ⟨⟨(-1), (), rfl, hr0, ht⟩, hS.F ht⟩) hS.2.2 d_RW_part_34
    · have hr0 := ai_neg c19 hr0
      refine lv_aload_n hx hb d_RW_part_13 rfl (lv_at hl 0 rfl) ?_
      refine va_get (D := G.1) (ci := 2) (v := .ref (ad 2)) (C := RRW) (T := TRW) (N := 9) hx hb hts inRW hown hK hP 0 rfl rfl 2 (by decide) (hts _ fl_RW_25) (fun _ h9 => h9) rfl d_RW_part_14 ?_
      refine lv_aload_n hx hb d_RW_part_17 rfl (lv_at hl 0 rfl) ?_
      refine va_get (D := G.1) (ci := 2) (v := .ref (ad 1)) (C := RRW) (T := TRW) (N := 9) hx hb hts inRW hown hK hP 0 rfl rfl 1 (by decide) (hts _ fl_RW_18) (fun _ h9 => h9) rfl d_RW_part_18 ?_
      refine lv_iload_n hx hb d_RW_part_21 rfl (lv_at hl 1 rfl) ?_
      refine rdV (G := G) (As := [.int r]) (rest := [.ref (ad 2)]) (C := RIL) ⟨hx, hb, hml, hown, hts⟩ (c_IL_at l G (ad 1) (gRW_starts σ) r _ _ (bk_gP (k := 4) hP rfl) h4 _ rfl) (cwV 1 hts (gd_V ml_RW_61 im_IL_at sl_IL_at ini_IL k_IL_at) rfl rmK_c rmK_s (by decide +kernel) ⟨Nat.le_of_ble_eq_true rfl, Nat.le_of_ble_eq_true rfl⟩) hK (pIL_recv hK (bk_gP (k := 4) hP rfl) h4) hS ⟨Nat.le_refl _, Nat.le_refl _⟩ rfl hl.1 (Nat.le_of_ble_eq_true rfl) d_RW_part_22 (fun locs hS => ?_)
      refine lv_iload_n hx hb d_RW_part_25 rfl (lv_at hl 2 rfl) ?_
      refine lv_iadd hx hb d_RW_part_26 ?_
      refine rdV (G := G) (As := [.int ((A_IL_at (gRW_starts σ) r) + k)]) (rest := []) (C := RIL) ⟨hx, hb, hml, hown, hts⟩ (c_IL_at l G (ad 2) (gRW_parts σ) ((A_IL_at (gRW_starts σ) r) + k) _ _ (bk_gP (k := 5) hP rfl) h6 _ rfl) (cwV 1 hts (gd_V ml_RW_61 im_IL_at sl_IL_at ini_IL k_IL_at) rfl rmK_c rmK_s (by decide +kernel) ⟨Nat.le_of_ble_eq_true rfl, Nat.le_of_ble_eq_true rfl⟩) hK (pIL_recv hK (bk_gP (k := 5) hP rfl) h6) hS ⟨Nat.le_refl _, Nat.le_refl _⟩ rfl hl.1 (Nat.le_of_ble_eq_true rfl) d_RW_part_27 (fun locs hS => ?_)
      refine lv_goto (tgt := 34) hx hb d_RW_part_30 (by decide) ?_
      exact W.iret (v := (A_IL_at (gRW_parts σ) ((A_IL_at (gRW_starts σ) r) + k))) hx hb hr (fun t ht hW => ⟨⟨(A_IL_at (gRW_parts σ) ((A_IL_at (gRW_starts σ) r) + k)), (), rfl, hr0, ht⟩, hS.F ht⟩) hS.2.2 d_RW_part_34
