abbrev tTL : Type := tIL × tIL × tIL × tLL × Int32 × Int32 × tIL × tIL × tIL × tIL × tIL × tIL
abbrev gTL_steps (σ : tTL) : tIL := σ.1
abbrev gTL_savedAs (σ : tTL) : tIL := σ.2.1
abbrev gTL_labels (σ : tTL) : tIL := σ.2.2.1
abbrev gTL_letters (σ : tTL) : tLL := σ.2.2.2.1
abbrev gTL_rowTold (σ : tTL) : Int32 := σ.2.2.2.2.1
abbrev gTL_savedRows (σ : tTL) : Int32 := σ.2.2.2.2.2.1
abbrev gTL_openRows (σ : tTL) : tIL := σ.2.2.2.2.2.2.1
abbrev gTL_openParts (σ : tTL) : tIL := σ.2.2.2.2.2.2.2.1
abbrev gTL_toldAt (σ : tTL) : tIL := σ.2.2.2.2.2.2.2.2.1
abbrev gTL_numbers (σ : tTL) : tIL := σ.2.2.2.2.2.2.2.2.2.1
abbrev gTL_remade (σ : tTL) : tIL := σ.2.2.2.2.2.2.2.2.2.2.1
abbrev gTL_savedKinds (σ : tTL) : tIL := σ.2.2.2.2.2.2.2.2.2.2.2
def uTL_steps (σ : tTL) (v : tIL) : tTL := (v, gTL_savedAs σ, gTL_labels σ, gTL_letters σ, gTL_rowTold σ, gTL_savedRows σ, gTL_openRows σ, gTL_openParts σ, gTL_toldAt σ, gTL_numbers σ, gTL_remade σ, gTL_savedKinds σ)
def uTL_savedAs (σ : tTL) (v : tIL) : tTL := (gTL_steps σ, v, gTL_labels σ, gTL_letters σ, gTL_rowTold σ, gTL_savedRows σ, gTL_openRows σ, gTL_openParts σ, gTL_toldAt σ, gTL_numbers σ, gTL_remade σ, gTL_savedKinds σ)
def uTL_labels (σ : tTL) (v : tIL) : tTL := (gTL_steps σ, gTL_savedAs σ, v, gTL_letters σ, gTL_rowTold σ, gTL_savedRows σ, gTL_openRows σ, gTL_openParts σ, gTL_toldAt σ, gTL_numbers σ, gTL_remade σ, gTL_savedKinds σ)
def uTL_letters (σ : tTL) (v : tLL) : tTL := (gTL_steps σ, gTL_savedAs σ, gTL_labels σ, v, gTL_rowTold σ, gTL_savedRows σ, gTL_openRows σ, gTL_openParts σ, gTL_toldAt σ, gTL_numbers σ, gTL_remade σ, gTL_savedKinds σ)
def uTL_rowTold (σ : tTL) (v : Int32) : tTL := (gTL_steps σ, gTL_savedAs σ, gTL_labels σ, gTL_letters σ, v, gTL_savedRows σ, gTL_openRows σ, gTL_openParts σ, gTL_toldAt σ, gTL_numbers σ, gTL_remade σ, gTL_savedKinds σ)
def uTL_savedRows (σ : tTL) (v : Int32) : tTL := (gTL_steps σ, gTL_savedAs σ, gTL_labels σ, gTL_letters σ, gTL_rowTold σ, v, gTL_openRows σ, gTL_openParts σ, gTL_toldAt σ, gTL_numbers σ, gTL_remade σ, gTL_savedKinds σ)
def uTL_openRows (σ : tTL) (v : tIL) : tTL := (gTL_steps σ, gTL_savedAs σ, gTL_labels σ, gTL_letters σ, gTL_rowTold σ, gTL_savedRows σ, v, gTL_openParts σ, gTL_toldAt σ, gTL_numbers σ, gTL_remade σ, gTL_savedKinds σ)
def uTL_openParts (σ : tTL) (v : tIL) : tTL := (gTL_steps σ, gTL_savedAs σ, gTL_labels σ, gTL_letters σ, gTL_rowTold σ, gTL_savedRows σ, gTL_openRows σ, v, gTL_toldAt σ, gTL_numbers σ, gTL_remade σ, gTL_savedKinds σ)
def uTL_toldAt (σ : tTL) (v : tIL) : tTL := (gTL_steps σ, gTL_savedAs σ, gTL_labels σ, gTL_letters σ, gTL_rowTold σ, gTL_savedRows σ, gTL_openRows σ, gTL_openParts σ, v, gTL_numbers σ, gTL_remade σ, gTL_savedKinds σ)
def uTL_numbers (σ : tTL) (v : tIL) : tTL := (gTL_steps σ, gTL_savedAs σ, gTL_labels σ, gTL_letters σ, gTL_rowTold σ, gTL_savedRows σ, gTL_openRows σ, gTL_openParts σ, gTL_toldAt σ, v, gTL_remade σ, gTL_savedKinds σ)
def uTL_remade (σ : tTL) (v : tIL) : tTL := (gTL_steps σ, gTL_savedAs σ, gTL_labels σ, gTL_letters σ, gTL_rowTold σ, gTL_savedRows σ, gTL_openRows σ, gTL_openParts σ, gTL_toldAt σ, gTL_numbers σ, v, gTL_savedKinds σ)
def uTL_savedKinds (σ : tTL) (v : tIL) : tTL := (gTL_steps σ, gTL_savedAs σ, gTL_labels σ, gTL_letters σ, gTL_rowTold σ, gTL_savedRows σ, gTL_openRows σ, gTL_openParts σ, gTL_toldAt σ, gTL_numbers σ, gTL_remade σ, v)
def pTL (G : pG) (h0 : Nat) (bS : Nat) (bR : Nat) (ad : Nat → Nat) (adL : Nat → Nat) (σ : tTL) (w : va_W) : Prop := ∃ (w0 w1 w2 w3 w6 w7 w8 w9 w10 w11 : va_W), w = [[(h0, .inr (4, [.ref bS, .ref bR, .ref (ad 0), .ref (ad 1), .ref (ad 2), .ref (ad 3), .int (gTL_rowTold σ), .int (gTL_savedRows σ), .ref (ad 4), .ref (ad 5), .ref (ad 6), .ref (ad 7), .ref (ad 8), .ref (ad 9)]))], w0, w1, w2, w3, w6, w7, w8, w9, w10, w11].flatten ∧ pIL G (ad 0) (gTL_steps σ) w0 ∧ pIL G (ad 1) (gTL_savedAs σ) w1 ∧ pIL G (ad 2) (gTL_labels σ) w2 ∧ pLL G (ad 3) adL (gTL_letters σ) w3 ∧ pIL G (ad 4) (gTL_openRows σ) w6 ∧ pIL G (ad 5) (gTL_openParts σ) w7 ∧ pIL G (ad 6) (gTL_toldAt σ) w8 ∧ pIL G (ad 7) (gTL_numbers σ) w9 ∧ pIL G (ad 8) (gTL_remade σ) w10 ∧ pIL G (ad 9) (gTL_savedKinds σ) w11
theorem pTL_recv {G : pG} {s : State} {H : Heap} {h0 : Nat} {bS : Nat} {bR : Nat} {ad : Nat → Nat} {adL : Nat → Nat} {σ : tTL} {w : va_W} (hK : va_K G.1 vwCl (tyG G) s) (hP : va_P G.1 vwCl w H) (h : pTL G h0 bS bR ad adL σ w) : ∃ cell : Cell, H[h0]? = some cell ∧ cell.vm.isStatics = false ∧ s.vm.findClass RTL = some cell.cls := by
  obtain ⟨w0, w1, w2, w3, w6, w7, w8, w9, w10, w11, rfl, -, -, -, -, -, -, -, -, -, -⟩ := h
  exact va_recv (q0 := 0) (ci := 4) hK hP rfl rfl

theorem len_put (x : tIL) (k v : Int32) : A_IL_length (A_IL_put x k v) = A_IL_length x := by
  unfold A_IL_length A_IL_put
  split
  · rfl
  · split
    · rfl
    · simp
theorem up_decE {k b b2 : Int32} {n : Nat} (c : ¬ b ≤ k) (hm : (b.toInt - k.toInt).toNat < n + 1) (e : b2 = b) : (b2.toInt - (k + 1).toInt).toNat < n := by
  rw [e]
  exact up_dec c hm

def A_TL_forget (σ : tTL) : tTL := bnd (A_LL_forget (gTL_letters σ)) (fun T27 => uTL_savedRows (uTL_rowTold (uTL_letters (uTL_labels (uTL_savedAs (uTL_steps σ (A_IL_cut (gTL_steps σ) 0)) (A_IL_cut (gTL_savedAs σ) 0)) (A_IL_cut (gTL_labels σ) 0)) T27) (-1)) 0)
set_option maxHeartbeats 4000000 in
set_option maxRecDepth 100000 in
theorem c_TL_forget (l : Launch) (G : pG) (h0 : Nat) (bS : Nat) (bR : Nat) (ad : Nat → Nat) (adL : Nat → Nat) (σ : tTL) (H : Heap) (w : va_W) (hP0 : va_P G.1 vwCl w H) (hD0 : va_D (fun _ => True) w) (hσ : pTL G h0 bS bR ad adL σ w) (res : tTL) (hr0 : A_TL_forget σ = res) : MWv l y_TL_forget w_TL_forget 2 41 0 G [.ref h0] H w (pTL G h0 bS bR ad adL res) := by
  refine Met.ofW (cc := b_TL_forget) (maxL := 1) (ret := none) (by decide) rfl ?_
  intro p e s m args below meth c s₁ B hml hv
  obtain ⟨rfl, rfl, hK⟩ := hv
  have hx := B.exec
  have hb := B.bytes
  have hr := B.returns
  have hts0 := atoms_spec (ws := w_TL_forget) B.pre
  have hts := fun w (h : w ∈ lw_g) => hts0 w (List.mem_cons_of_mem _ h)
  have hown : s.vm.findClass RTL = some m.cls := findClass_of_methodNamed B.named
  have hlocks := B.notSynchronized
  have hA : ∀ q : Nat, s.heap.size ≤ q → va_A w s.heap.size q := fun _ h => Or.inr h
  have hB : bk G.1 vwCl (va_A w s.heap.size) [w] s.heap := bk_init hP0 hD0
  generalize va_A w s.heap.size = A at *
  have hS : va_S A s.heap s.heap [] := va_S.rf
  obtain ⟨w1, w3, w5, w7, w9, w11, w13, w15, w17, w19, rfl, h2, h4, h6, h8, h10, h12, h14, h16, h18, h20⟩ := hσ
  have hB := bk_many hB
  have hk : 0 + 0 = 0 := rfl
  have hl := lv_entry ([.ref h0]) (n := 1) (Nat.le_of_ble_eq_true rfl)
  rw [lg_entry_eq]
  generalize (lg_sl ([.ref h0]) ++ List.replicate (1 - (lg_sl ([.ref h0])).length) Slot.unset).toArray = ls at hl ⊢
  have hl : lv_has ls 1 [(0, .ref h0)] := hl
  unfold A_TL_forget at hr0
  refine lv_aload_n hx hb d_TL_forget_0 rfl (lv_at hl 0 rfl) ?_
  refine va_get (D := G.1) (ci := 4) (v := .ref (ad 0)) (C := RTL) (T := TTL) (N := 14) hx hb hts inTL hown hK hB.1 0 rfl rfl 2 (by decide) (hts _ fl_TL_22) (fun _ h9 => h9) rfl d_TL_forget_1 ?_
  refine lv_iconst (v := 0) hx hb d_TL_forget_4 (by decide) ?_
  refine wrV0 (G := G) (k := 1) (As := [.int 0]) (rest := []) (C := RIL) ⟨hx, hb, hml, hown, hts⟩ (c_IL_cut l G (ad 0) (gTL_steps σ) 0 _ _ (bk_gP (k := 1) hB.1 rfl) (bk_own (k := 1) hB rfl) h2 _ rfl) (cwV 1 hts (gd_V ml_TL_64 im_IL_cut sl_IL_cut ini_IL k_IL_cut) rfl rmK_c rmK_s (by decide +kernel) ⟨Nat.le_of_ble_eq_true rfl, Nat.le_of_ble_eq_true rfl⟩) hK (pIL_recv hK (bk_gP (k := 1) hB.1 rfl) h2) hS hA hB rfl hk ⟨rfl, rfl⟩ rfl hl.1 (Nat.le_of_ble_eq_true rfl) d_TL_forget_5 (fun u21 H locs hu22 hB hS => ?_)
  have hB : bk G.1 vwCl A [[(h0, .inr (4, [.ref bS, .ref bR, .ref (ad 0), .ref (ad 1), .ref (ad 2), .ref (ad 3), .int (gTL_rowTold σ), .int (gTL_savedRows σ), .ref (ad 4), .ref (ad 5), .ref (ad 6), .ref (ad 7), .ref (ad 8), .ref (ad 9)]))], u21, w3, w5, w7, w9, w11, w13, w15, w17, w19] H := hB
  refine lv_aload_n hx hb d_TL_forget_8 rfl (lv_at hl 0 rfl) ?_
  refine va_get (D := G.1) (ci := 4) (v := .ref (ad 1)) (C := RTL) (T := TTL) (N := 14) hx hb hts inTL hown hK hB.1 0 rfl rfl 3 (by decide) (hts _ fl_TL_26) (fun _ h9 => h9) rfl d_TL_forget_9 ?_
  refine lv_iconst (v := 0) hx hb d_TL_forget_12 (by decide) ?_
  refine wrV0 (G := G) (k := 2) (As := [.int 0]) (rest := []) (C := RIL) ⟨hx, hb, hml, hown, hts⟩ (c_IL_cut l G (ad 1) (gTL_savedAs σ) 0 _ _ (bk_gP (k := 2) hB.1 rfl) (bk_own (k := 2) hB rfl) h4 _ rfl) (cwV 1 hts (gd_V ml_TL_64 im_IL_cut sl_IL_cut ini_IL k_IL_cut) rfl rmK_c rmK_s (by decide +kernel) ⟨Nat.le_of_ble_eq_true rfl, Nat.le_of_ble_eq_true rfl⟩) hK (pIL_recv hK (bk_gP (k := 2) hB.1 rfl) h4) hS hA hB rfl hk ⟨rfl, rfl⟩ rfl hl.1 (Nat.le_of_ble_eq_true rfl) d_TL_forget_13 (fun u23 H locs hu24 hB hS => ?_)
  have hB : bk G.1 vwCl A [[(h0, .inr (4, [.ref bS, .ref bR, .ref (ad 0), .ref (ad 1), .ref (ad 2), .ref (ad 3), .int (gTL_rowTold σ), .int (gTL_savedRows σ), .ref (ad 4), .ref (ad 5), .ref (ad 6), .ref (ad 7), .ref (ad 8), .ref (ad 9)]))], u21, u23, w5, w7, w9, w11, w13, w15, w17, w19] H := hB
  refine lv_aload_n hx hb d_TL_forget_16 rfl (lv_at hl 0 rfl) ?_
  refine va_get (D := G.1) (ci := 4) (v := .ref (ad 2)) (C := RTL) (T := TTL) (N := 14) hx hb hts inTL hown hK hB.1 0 rfl rfl 4 (by decide) (hts _ fl_TL_29) (fun _ h9 => h9) rfl d_TL_forget_17 ?_
  refine lv_iconst (v := 0) hx hb d_TL_forget_20 (by decide) ?_
  refine wrV0 (G := G) (k := 3) (As := [.int 0]) (rest := []) (C := RIL) ⟨hx, hb, hml, hown, hts⟩ (c_IL_cut l G (ad 2) (gTL_labels σ) 0 _ _ (bk_gP (k := 3) hB.1 rfl) (bk_own (k := 3) hB rfl) h6 _ rfl) (cwV 1 hts (gd_V ml_TL_64 im_IL_cut sl_IL_cut ini_IL k_IL_cut) rfl rmK_c rmK_s (by decide +kernel) ⟨Nat.le_of_ble_eq_true rfl, Nat.le_of_ble_eq_true rfl⟩) hK (pIL_recv hK (bk_gP (k := 3) hB.1 rfl) h6) hS hA hB rfl hk ⟨rfl, rfl⟩ rfl hl.1 (Nat.le_of_ble_eq_true rfl) d_TL_forget_21 (fun u25 H locs hu26 hB hS => ?_)
  have hB : bk G.1 vwCl A [[(h0, .inr (4, [.ref bS, .ref bR, .ref (ad 0), .ref (ad 1), .ref (ad 2), .ref (ad 3), .int (gTL_rowTold σ), .int (gTL_savedRows σ), .ref (ad 4), .ref (ad 5), .ref (ad 6), .ref (ad 7), .ref (ad 8), .ref (ad 9)]))], u21, u23, u25, w7, w9, w11, w13, w15, w17, w19] H := hB
  refine lv_aload_n hx hb d_TL_forget_24 rfl (lv_at hl 0 rfl) ?_
  refine va_get (D := G.1) (ci := 4) (v := .ref (ad 3)) (C := RTL) (T := TTL) (N := 14) hx hb hts inTL hown hK hB.1 0 rfl rfl 5 (by decide) (hts _ fl_TL_35) (fun _ h9 => h9) rfl d_TL_forget_25 ?_
  obtain ⟨T27, hT28⟩ : ∃ z, A_LL_forget (gTL_letters σ) = z := ⟨_, rfl⟩
  refine wrV0 (G := G) (k := 4) (As := []) (rest := []) (C := RLL) ⟨hx, hb, hml, hown, hts⟩ (c_LL_forget l G (ad 3) adL (gTL_letters σ) _ _ (bk_gP (k := 4) hB.1 rfl) (bk_own (k := 4) hB rfl) h8 T27 hT28) (cwV 0 hts (gd_V ml_TL_68 im_LL_forget sl_LL_forget ini_LL k_LL_forget) rfl rmK_c rmK_s (by decide +kernel) ⟨Nat.le_of_ble_eq_true rfl, Nat.le_of_ble_eq_true rfl⟩) hK (pLL_recv hK (bk_gP (k := 4) hB.1 rfl) h8) hS hA hB rfl hk ⟨rfl, rfl⟩ rfl hl.1 (Nat.le_of_ble_eq_true rfl) d_TL_forget_28 (fun u29 H locs hu30 hB hS => ?_)
  have hr0 := bnd_e hT28 hr0
  have hB : bk G.1 vwCl A [[(h0, .inr (4, [.ref bS, .ref bR, .ref (ad 0), .ref (ad 1), .ref (ad 2), .ref (ad 3), .int (gTL_rowTold σ), .int (gTL_savedRows σ), .ref (ad 4), .ref (ad 5), .ref (ad 6), .ref (ad 7), .ref (ad 8), .ref (ad 9)]))], u21, u23, u25, u29, w9, w11, w13, w15, w17, w19] H := hB
  refine lv_aload_n hx hb d_TL_forget_31 rfl (lv_at hl 0 rfl) ?_
  refine lv_iconst (v := (-1)) hx hb d_TL_forget_32 (by decide) ?_
  refine va_put (D := G.1) (ci := 4) (v := .int (-1)) (ty := .int) (C := RTL) (T := TTL) (N := 14) hx hb hts inTL tyTL tokTL nmTL hown hK hB.1 hB.2 hS 0 rfl rfl 6 (by decide) (hts _ fl_TL_39) (fun _ h9 => h9) rfl (by decide +kernel) rfl rfl (Nat.le_of_ble_eq_true rfl) d_TL_forget_33 (fun H locs hP hD hS => ?_)
  have hB : bk G.1 vwCl A [[(h0, .inr (4, [.ref bS, .ref bR, .ref (ad 0), .ref (ad 1), .ref (ad 2), .ref (ad 3), .int (-1), .int (gTL_savedRows σ), .ref (ad 4), .ref (ad 5), .ref (ad 6), .ref (ad 7), .ref (ad 8), .ref (ad 9)]))], u21, u23, u25, u29, w9, w11, w13, w15, w17, w19] H := ⟨hP, hD⟩
  refine lv_aload_n hx hb d_TL_forget_36 rfl (lv_at hl 0 rfl) ?_
  refine lv_iconst (v := 0) hx hb d_TL_forget_37 (by decide) ?_
  refine va_put (D := G.1) (ci := 4) (v := .int 0) (ty := .int) (C := RTL) (T := TTL) (N := 14) hx hb hts inTL tyTL tokTL nmTL hown hK hB.1 hB.2 hS 0 rfl rfl 7 (by decide) (hts _ fl_TL_43) (fun _ h9 => h9) rfl (by decide +kernel) rfl rfl (Nat.le_of_ble_eq_true rfl) d_TL_forget_38 (fun H locs hP hD hS => ?_)
  have hB : bk G.1 vwCl A [[(h0, .inr (4, [.ref bS, .ref bR, .ref (ad 0), .ref (ad 1), .ref (ad 2), .ref (ad 3), .int (-1), .int 0, .ref (ad 4), .ref (ad 5), .ref (ad 6), .ref (ad 7), .ref (ad 8), .ref (ad 9)]))], u21, u23, u25, u29, w9, w11, w13, w15, w17, w19] H := ⟨hP, hD⟩
  subst hr0
  refine W.widen (k := 0) (n := 0) (Nat.le_refl _) (Nat.le_refl _) ?_
  exact W.vret hx hb hr (fun t ht hW => ⟨⟨[[(h0, .inr (4, [.ref bS, .ref bR, .ref (ad 0), .ref (ad 1), .ref (ad 2), .ref (ad 3), .int (-1), .int 0, .ref (ad 4), .ref (ad 5), .ref (ad 6), .ref (ad 7), .ref (ad 8), .ref (ad 9)]))], u21, u23, u25, u29, w9, w11, w13, w15, w17, w19].flatten, rfl, ⟨u21, u23, u25, u29, w9, w11, w13, w15, w17, w19, rfl, hu22, hu24, hu26, hu30, h10, h12, h14, h16, h18, h20⟩, by rw [ht]; exact hB.1, hB.2⟩, hS.F ht⟩) hS.2.2 d_TL_forget_41

def A_TL_amountOfSteps (σ : tTL) : Int32 := A_IL_length (gTL_steps σ)
set_option maxHeartbeats 4000000 in
set_option maxRecDepth 100000 in
theorem c_TL_amountOfSteps (l : Launch) (G : pG) (h0 : Nat) (bS : Nat) (bR : Nat) (ad : Nat → Nat) (adL : Nat → Nat) (σ : tTL) (H : Heap) (w : va_W) (hP0 : va_P G.1 vwCl w H) (hσ : pTL G h0 bS bR ad adL σ w) (res : Int32) (hr0 : A_TL_amountOfSteps σ = res) : MRi l y_TL_amountOfSteps w_TL_amountOfSteps 1 20 G [.ref h0] H res := by
  refine Met.ofW (cc := b_TL_amountOfSteps) (maxL := 1) (ret := (some .int)) (by decide) rfl ?_
  intro p e s m args below meth c s₁ B hml hv
  obtain ⟨rfl, rfl, hK⟩ := hv
  have hx := B.exec
  have hb := B.bytes
  have hr := B.returns
  have hts0 := atoms_spec (ws := w_TL_amountOfSteps) B.pre
  have hts := fun w (h : w ∈ lw_g) => hts0 w (List.mem_cons_of_mem _ h)
  have hown : s.vm.findClass RTL = some m.cls := findClass_of_methodNamed B.named
  have hlocks := B.notSynchronized
  have hσ0 := hσ
  obtain ⟨w1, w3, w5, w7, w9, w11, w13, w15, w17, w19, rfl, h2, h4, h6, h8, h10, h12, h14, h16, h18, h20⟩ := hσ
  have hP := hP0
  obtain ⟨A, hAe⟩ : ∃ A : Nat → Prop, A = fun _ => False := ⟨_, rfl⟩
  rw [← hAe]
  have hS : va_S A s.heap s.heap [] := va_S.rf
  have hl := lv_entry ([.ref h0]) (n := 1) (Nat.le_of_ble_eq_true rfl)
  rw [lg_entry_eq]
  generalize (lg_sl ([.ref h0]) ++ List.replicate (1 - (lg_sl ([.ref h0])).length) Slot.unset).toArray = ls at hl ⊢
  have hl : lv_has ls 1 [(0, .ref h0)] := hl
  unfold A_TL_amountOfSteps at hr0
  refine lv_aload_n hx hb d_TL_amountOfSteps_0 rfl (lv_at hl 0 rfl) ?_
  refine va_get (D := G.1) (ci := 4) (v := .ref (ad 0)) (C := RTL) (T := TTL) (N := 14) hx hb hts inTL hown hK hP 0 rfl rfl 2 (by decide) (hts _ fl_TL_22) (fun _ h9 => h9) rfl d_TL_amountOfSteps_1 ?_
  refine rdV (G := G) (As := []) (rest := []) (C := RIL) ⟨hx, hb, hml, hown, hts⟩ (c_IL_length l G (ad 0) (gTL_steps σ) _ _ (bk_gP (k := 1) hP rfl) h2 _ rfl) (cwV 0 hts (gd_V ml_TL_71 im_IL_length sl_IL_length ini_IL k_IL_length) rfl rmK_c rmK_s (by decide +kernel) ⟨Nat.le_of_ble_eq_true rfl, Nat.le_of_ble_eq_true rfl⟩) hK (pIL_recv hK (bk_gP (k := 1) hP rfl) h2) hS ⟨Nat.le_refl _, Nat.le_refl _⟩ rfl hl.1 (Nat.le_of_ble_eq_true rfl) d_TL_amountOfSteps_4 (fun locs hS => ?_)
  exact W.iret (v := (A_IL_length (gTL_steps σ))) hx hb hr (fun t ht hW => ⟨⟨(A_IL_length (gTL_steps σ)), (), rfl, hr0, ht⟩, hS.F ht⟩) hS.2.2 d_TL_amountOfSteps_7

def A_TL_amountOfLabels (σ : tTL) : Int32 := A_IL_length (gTL_labels σ)
set_option maxHeartbeats 4000000 in
set_option maxRecDepth 100000 in
theorem c_TL_amountOfLabels (l : Launch) (G : pG) (h0 : Nat) (bS : Nat) (bR : Nat) (ad : Nat → Nat) (adL : Nat → Nat) (σ : tTL) (H : Heap) (w : va_W) (hP0 : va_P G.1 vwCl w H) (hσ : pTL G h0 bS bR ad adL σ w) (res : Int32) (hr0 : A_TL_amountOfLabels σ = res) : MRi l y_TL_amountOfLabels w_TL_amountOfLabels 1 20 G [.ref h0] H res := by
  refine Met.ofW (cc := b_TL_amountOfLabels) (maxL := 1) (ret := (some .int)) (by decide) rfl ?_
  intro p e s m args below meth c s₁ B hml hv
  obtain ⟨rfl, rfl, hK⟩ := hv
  have hx := B.exec
  have hb := B.bytes
  have hr := B.returns
  have hts0 := atoms_spec (ws := w_TL_amountOfLabels) B.pre
  have hts := fun w (h : w ∈ lw_g) => hts0 w (List.mem_cons_of_mem _ h)
  have hown : s.vm.findClass RTL = some m.cls := findClass_of_methodNamed B.named
  have hlocks := B.notSynchronized
  have hσ0 := hσ
  obtain ⟨w1, w3, w5, w7, w9, w11, w13, w15, w17, w19, rfl, h2, h4, h6, h8, h10, h12, h14, h16, h18, h20⟩ := hσ
  have hP := hP0
  obtain ⟨A, hAe⟩ : ∃ A : Nat → Prop, A = fun _ => False := ⟨_, rfl⟩
  rw [← hAe]
  have hS : va_S A s.heap s.heap [] := va_S.rf
  have hl := lv_entry ([.ref h0]) (n := 1) (Nat.le_of_ble_eq_true rfl)
  rw [lg_entry_eq]
  generalize (lg_sl ([.ref h0]) ++ List.replicate (1 - (lg_sl ([.ref h0])).length) Slot.unset).toArray = ls at hl ⊢
  have hl : lv_has ls 1 [(0, .ref h0)] := hl
  unfold A_TL_amountOfLabels at hr0
  refine lv_aload_n hx hb d_TL_amountOfLabels_0 rfl (lv_at hl 0 rfl) ?_
  refine va_get (D := G.1) (ci := 4) (v := .ref (ad 2)) (C := RTL) (T := TTL) (N := 14) hx hb hts inTL hown hK hP 0 rfl rfl 4 (by decide) (hts _ fl_TL_29) (fun _ h9 => h9) rfl d_TL_amountOfLabels_1 ?_
  refine rdV (G := G) (As := []) (rest := []) (C := RIL) ⟨hx, hb, hml, hown, hts⟩ (c_IL_length l G (ad 2) (gTL_labels σ) _ _ (bk_gP (k := 3) hP rfl) h6 _ rfl) (cwV 0 hts (gd_V ml_TL_71 im_IL_length sl_IL_length ini_IL k_IL_length) rfl rmK_c rmK_s (by decide +kernel) ⟨Nat.le_of_ble_eq_true rfl, Nat.le_of_ble_eq_true rfl⟩) hK (pIL_recv hK (bk_gP (k := 3) hP rfl) h6) hS ⟨Nat.le_refl _, Nat.le_refl _⟩ rfl hl.1 (Nat.le_of_ble_eq_true rfl) d_TL_amountOfLabels_4 (fun locs hS => ?_)
  exact W.iret (v := (A_IL_length (gTL_labels σ))) hx hb hr (fun t ht hW => ⟨⟨(A_IL_length (gTL_labels σ)), (), rfl, hr0, ht⟩, hS.F ht⟩) hS.2.2 d_TL_amountOfLabels_7

def A_TL_amountOfLetters (σ : tTL) : Int32 := A_LL_amount (gTL_letters σ)
set_option maxHeartbeats 4000000 in
set_option maxRecDepth 100000 in
theorem c_TL_amountOfLetters (l : Launch) (G : pG) (h0 : Nat) (bS : Nat) (bR : Nat) (ad : Nat → Nat) (adL : Nat → Nat) (σ : tTL) (H : Heap) (w : va_W) (hP0 : va_P G.1 vwCl w H) (hσ : pTL G h0 bS bR ad adL σ w) (res : Int32) (hr0 : A_TL_amountOfLetters σ = res) : MRi l y_TL_amountOfLetters w_TL_amountOfLetters 2 40 G [.ref h0] H res := by
  refine Met.ofW (cc := b_TL_amountOfLetters) (maxL := 1) (ret := (some .int)) (by decide) rfl ?_
  intro p e s m args below meth c s₁ B hml hv
  obtain ⟨rfl, rfl, hK⟩ := hv
  have hx := B.exec
  have hb := B.bytes
  have hr := B.returns
  have hts0 := atoms_spec (ws := w_TL_amountOfLetters) B.pre
  have hts := fun w (h : w ∈ lw_g) => hts0 w (List.mem_cons_of_mem _ h)
  have hown : s.vm.findClass RTL = some m.cls := findClass_of_methodNamed B.named
  have hlocks := B.notSynchronized
  have hσ0 := hσ
  obtain ⟨w1, w3, w5, w7, w9, w11, w13, w15, w17, w19, rfl, h2, h4, h6, h8, h10, h12, h14, h16, h18, h20⟩ := hσ
  have hP := hP0
  obtain ⟨A, hAe⟩ : ∃ A : Nat → Prop, A = fun _ => False := ⟨_, rfl⟩
  rw [← hAe]
  have hS : va_S A s.heap s.heap [] := va_S.rf
  have hl := lv_entry ([.ref h0]) (n := 1) (Nat.le_of_ble_eq_true rfl)
  rw [lg_entry_eq]
  generalize (lg_sl ([.ref h0]) ++ List.replicate (1 - (lg_sl ([.ref h0])).length) Slot.unset).toArray = ls at hl ⊢
  have hl : lv_has ls 1 [(0, .ref h0)] := hl
  unfold A_TL_amountOfLetters at hr0
  refine lv_aload_n hx hb d_TL_amountOfLetters_0 rfl (lv_at hl 0 rfl) ?_
  refine va_get (D := G.1) (ci := 4) (v := .ref (ad 3)) (C := RTL) (T := TTL) (N := 14) hx hb hts inTL hown hK hP 0 rfl rfl 5 (by decide) (hts _ fl_TL_35) (fun _ h9 => h9) rfl d_TL_amountOfLetters_1 ?_
  refine rdV (G := G) (As := []) (rest := []) (C := RLL) ⟨hx, hb, hml, hown, hts⟩ (c_LL_amount l G (ad 3) adL (gTL_letters σ) _ _ (bk_gP (k := 4) hP rfl) h8 _ rfl) (cwV 0 hts (gd_V ml_TL_75 im_LL_amount sl_LL_amount ini_LL k_LL_amount) rfl rmK_c rmK_s (by decide +kernel) ⟨Nat.le_of_ble_eq_true rfl, Nat.le_of_ble_eq_true rfl⟩) hK (pLL_recv hK (bk_gP (k := 4) hP rfl) h8) hS ⟨Nat.le_refl _, Nat.le_refl _⟩ rfl hl.1 (Nat.le_of_ble_eq_true rfl) d_TL_amountOfLetters_4 (fun locs hS => ?_)
  exact W.iret (v := (A_LL_amount (gTL_letters σ))) hx hb hr (fun t ht hW => ⟨⟨(A_LL_amount (gTL_letters σ)), (), rfl, hr0, ht⟩, hS.F ht⟩) hS.2.2 d_TL_amountOfLetters_7

def A_TL_amountOfSaved (σ : tTL) : Int32 := gTL_savedRows σ
set_option maxHeartbeats 4000000 in
set_option maxRecDepth 100000 in
theorem c_TL_amountOfSaved (l : Launch) (G : pG) (h0 : Nat) (bS : Nat) (bR : Nat) (ad : Nat → Nat) (adL : Nat → Nat) (σ : tTL) (H : Heap) (w : va_W) (hP0 : va_P G.1 vwCl w H) (hσ : pTL G h0 bS bR ad adL σ w) (res : Int32) (hr0 : A_TL_amountOfSaved σ = res) : MRi l y_TL_amountOfSaved w_TL_amountOfSaved 0 0 G [.ref h0] H res := by
  refine Met.ofW (cc := b_TL_amountOfSaved) (maxL := 1) (ret := (some .int)) (by decide) rfl ?_
  intro p e s m args below meth c s₁ B hml hv
  obtain ⟨rfl, rfl, hK⟩ := hv
  have hx := B.exec
  have hb := B.bytes
  have hr := B.returns
  have hts0 := atoms_spec (ws := w_TL_amountOfSaved) B.pre
  have hts := fun w (h : w ∈ lw_g) => hts0 w (List.mem_cons_of_mem _ h)
  have hown : s.vm.findClass RTL = some m.cls := findClass_of_methodNamed B.named
  have hlocks := B.notSynchronized
  have hσ0 := hσ
  obtain ⟨w1, w3, w5, w7, w9, w11, w13, w15, w17, w19, rfl, h2, h4, h6, h8, h10, h12, h14, h16, h18, h20⟩ := hσ
  have hP := hP0
  obtain ⟨A, hAe⟩ : ∃ A : Nat → Prop, A = fun _ => False := ⟨_, rfl⟩
  rw [← hAe]
  have hS : va_S A s.heap s.heap [] := va_S.rf
  have hl := lv_entry ([.ref h0]) (n := 1) (Nat.le_of_ble_eq_true rfl)
  rw [lg_entry_eq]
  generalize (lg_sl ([.ref h0]) ++ List.replicate (1 - (lg_sl ([.ref h0])).length) Slot.unset).toArray = ls at hl ⊢
  have hl : lv_has ls 1 [(0, .ref h0)] := hl
  unfold A_TL_amountOfSaved at hr0
  refine lv_aload_n hx hb d_TL_amountOfSaved_0 rfl (lv_at hl 0 rfl) ?_
  refine va_get (D := G.1) (ci := 4) (v := .int (gTL_savedRows σ)) (C := RTL) (T := TTL) (N := 14) hx hb hts inTL hown hK hP 0 rfl rfl 7 (by decide) (hts _ fl_TL_43) (fun _ h9 => h9) rfl d_TL_amountOfSaved_1 ?_
  exact W.iret (v := (gTL_savedRows σ)) hx hb hr (fun t ht hW => ⟨⟨(gTL_savedRows σ), (), rfl, hr0, ht⟩, hS.F ht⟩) hS.2.2 d_TL_amountOfSaved_4

def A_TL_stepAt (σ : tTL) (k : Int32) : Int32 := A_IL_at (gTL_steps σ) k
set_option maxHeartbeats 4000000 in
set_option maxRecDepth 100000 in
theorem c_TL_stepAt (l : Launch) (G : pG) (h0 : Nat) (bS : Nat) (bR : Nat) (ad : Nat → Nat) (adL : Nat → Nat) (σ : tTL) (k : Int32) (H : Heap) (w : va_W) (hP0 : va_P G.1 vwCl w H) (hσ : pTL G h0 bS bR ad adL σ w) (res : Int32) (hr0 : A_TL_stepAt σ k = res) : MRi l y_TL_stepAt w_TL_stepAt 1 21 G [.ref h0, .int k] H res := by
  refine Met.ofW (cc := b_TL_stepAt) (maxL := 2) (ret := (some .int)) (by decide) rfl ?_
  intro p e s m args below meth c s₁ B hml hv
  obtain ⟨rfl, rfl, hK⟩ := hv
  have hx := B.exec
  have hb := B.bytes
  have hr := B.returns
  have hts0 := atoms_spec (ws := w_TL_stepAt) B.pre
  have hts := fun w (h : w ∈ lw_g) => hts0 w (List.mem_cons_of_mem _ h)
  have hown : s.vm.findClass RTL = some m.cls := findClass_of_methodNamed B.named
  have hlocks := B.notSynchronized
  have hσ0 := hσ
  obtain ⟨w1, w3, w5, w7, w9, w11, w13, w15, w17, w19, rfl, h2, h4, h6, h8, h10, h12, h14, h16, h18, h20⟩ := hσ
  have hP := hP0
  obtain ⟨A, hAe⟩ : ∃ A : Nat → Prop, A = fun _ => False := ⟨_, rfl⟩
  rw [← hAe]
  have hS : va_S A s.heap s.heap [] := va_S.rf
  have hl := lv_entry ([.ref h0, .int k]) (n := 2) (Nat.le_of_ble_eq_true rfl)
  rw [lg_entry_eq]
  generalize (lg_sl ([.ref h0, .int k]) ++ List.replicate (2 - (lg_sl ([.ref h0, .int k])).length) Slot.unset).toArray = ls at hl ⊢
  have hl : lv_has ls 2 [(0, .ref h0), (1, .int k)] := hl
  unfold A_TL_stepAt at hr0
  refine lv_aload_n hx hb d_TL_stepAt_0 rfl (lv_at hl 0 rfl) ?_
  refine va_get (D := G.1) (ci := 4) (v := .ref (ad 0)) (C := RTL) (T := TTL) (N := 14) hx hb hts inTL hown hK hP 0 rfl rfl 2 (by decide) (hts _ fl_TL_22) (fun _ h9 => h9) rfl d_TL_stepAt_1 ?_
  refine lv_iload_n hx hb d_TL_stepAt_4 rfl (lv_at hl 1 rfl) ?_
  refine rdV (G := G) (As := [.int k]) (rest := []) (C := RIL) ⟨hx, hb, hml, hown, hts⟩ (c_IL_at l G (ad 0) (gTL_steps σ) k _ _ (bk_gP (k := 1) hP rfl) h2 _ rfl) (cwV 1 hts (gd_V ml_TL_78 im_IL_at sl_IL_at ini_IL k_IL_at) rfl rmK_c rmK_s (by decide +kernel) ⟨Nat.le_of_ble_eq_true rfl, Nat.le_of_ble_eq_true rfl⟩) hK (pIL_recv hK (bk_gP (k := 1) hP rfl) h2) hS ⟨Nat.le_refl _, Nat.le_refl _⟩ rfl hl.1 (Nat.le_of_ble_eq_true rfl) d_TL_stepAt_5 (fun locs hS => ?_)
  exact W.iret (v := (A_IL_at (gTL_steps σ) k)) hx hb hr (fun t ht hW => ⟨⟨(A_IL_at (gTL_steps σ) k), (), rfl, hr0, ht⟩, hS.F ht⟩) hS.2.2 d_TL_stepAt_8

def A_TL_isSavedAt (σ : tTL) (k : Int32) : Int32 := if (A_IL_at (gTL_savedAs σ) k) = (-1) then 0 else 1
set_option maxHeartbeats 4000000 in
set_option maxRecDepth 100000 in
theorem c_TL_isSavedAt (l : Launch) (G : pG) (h0 : Nat) (bS : Nat) (bR : Nat) (ad : Nat → Nat) (adL : Nat → Nat) (σ : tTL) (k : Int32) (H : Heap) (w : va_W) (hP0 : va_P G.1 vwCl w H) (hσ : pTL G h0 bS bR ad adL σ w) (res : Int32) (hr0 : A_TL_isSavedAt σ k = res) : MRi l y_TL_isSavedAt w_TL_isSavedAt 1 21 G [.ref h0, .int k] H res := by
  refine Met.ofW (cc := b_TL_isSavedAt) (maxL := 2) (ret := (some .boolean)) (by decide) rfl ?_
  intro p e s m args below meth c s₁ B hml hv
  obtain ⟨rfl, rfl, hK⟩ := hv
  have hx := B.exec
  have hb := B.bytes
  have hr := B.returns
  have hts0 := atoms_spec (ws := w_TL_isSavedAt) B.pre
  have hts := fun w (h : w ∈ lw_g) => hts0 w (List.mem_cons_of_mem _ h)
  have hown : s.vm.findClass RTL = some m.cls := findClass_of_methodNamed B.named
  have hlocks := B.notSynchronized
  have hσ0 := hσ
  obtain ⟨w1, w3, w5, w7, w9, w11, w13, w15, w17, w19, rfl, h2, h4, h6, h8, h10, h12, h14, h16, h18, h20⟩ := hσ
  have hP := hP0
  obtain ⟨A, hAe⟩ : ∃ A : Nat → Prop, A = fun _ => False := ⟨_, rfl⟩
  rw [← hAe]
  have hS : va_S A s.heap s.heap [] := va_S.rf
  have hl := lv_entry ([.ref h0, .int k]) (n := 2) (Nat.le_of_ble_eq_true rfl)
  rw [lg_entry_eq]
  generalize (lg_sl ([.ref h0, .int k]) ++ List.replicate (2 - (lg_sl ([.ref h0, .int k])).length) Slot.unset).toArray = ls at hl ⊢
  have hl : lv_has ls 2 [(0, .ref h0), (1, .int k)] := hl
  unfold A_TL_isSavedAt at hr0
  refine lv_aload_n hx hb d_TL_isSavedAt_0 rfl (lv_at hl 0 rfl) ?_
  refine va_get (D := G.1) (ci := 4) (v := .ref (ad 1)) (C := RTL) (T := TTL) (N := 14) hx hb hts inTL hown hK hP 0 rfl rfl 3 (by decide) (hts _ fl_TL_26) (fun _ h9 => h9) rfl d_TL_isSavedAt_1 ?_
  refine lv_iload_n hx hb d_TL_isSavedAt_4 rfl (lv_at hl 1 rfl) ?_
  refine rdV (G := G) (As := [.int k]) (rest := []) (C := RIL) ⟨hx, hb, hml, hown, hts⟩ (c_IL_at l G (ad 1) (gTL_savedAs σ) k _ _ (bk_gP (k := 2) hP rfl) h4 _ rfl) (cwV 1 hts (gd_V ml_TL_78 im_IL_at sl_IL_at ini_IL k_IL_at) rfl rmK_c rmK_s (by decide +kernel) ⟨Nat.le_of_ble_eq_true rfl, Nat.le_of_ble_eq_true rfl⟩) hK (pIL_recv hK (bk_gP (k := 2) hP rfl) h4) hS ⟨Nat.le_refl _, Nat.le_refl _⟩ rfl hl.1 (Nat.le_of_ble_eq_true rfl) d_TL_isSavedAt_5 (fun locs hS => ?_)
  refine lv_iconst (v := (-1)) hx hb d_TL_isSavedAt_8 (by decide) ?_
  refine lv_icmp_eq (tgt := 16) hx hb d_TL_isSavedAt_9 (by decide) (fun c21 => ?_) (fun c21 => ?_)
  · have hr0 := ai_pos c21 hr0
    refine lv_iconst (v := 0) hx hb d_TL_isSavedAt_16 (by decide) ?_
    exact W.zret (v := 0) hx hb hr (by decide) (fun t ht hW => ⟨⟨0, (), rfl, hr0, ht⟩, hS.F ht⟩) hS.2.2 d_TL_isSavedAt_17
  · have hr0 := ai_neg c21 hr0
    refine lv_iconst (v := 1) hx hb d_TL_isSavedAt_12 (by decide) ?_
    refine lv_goto (tgt := 17) hx hb d_TL_isSavedAt_13 (by decide) ?_
    exact W.zret (v := 1) hx hb hr (by decide) (fun t ht hW => ⟨⟨1, (), rfl, hr0, ht⟩, hS.F ht⟩) hS.2.2 d_TL_isSavedAt_17

def A_TL_labelAt (σ : tTL) (k : Int32) : Int32 := A_IL_at (gTL_labels σ) k
set_option maxHeartbeats 4000000 in
set_option maxRecDepth 100000 in
theorem c_TL_labelAt (l : Launch) (G : pG) (h0 : Nat) (bS : Nat) (bR : Nat) (ad : Nat → Nat) (adL : Nat → Nat) (σ : tTL) (k : Int32) (H : Heap) (w : va_W) (hP0 : va_P G.1 vwCl w H) (hσ : pTL G h0 bS bR ad adL σ w) (res : Int32) (hr0 : A_TL_labelAt σ k = res) : MRi l y_TL_labelAt w_TL_labelAt 1 21 G [.ref h0, .int k] H res := by
  refine Met.ofW (cc := b_TL_labelAt) (maxL := 2) (ret := (some .int)) (by decide) rfl ?_
  intro p e s m args below meth c s₁ B hml hv
  obtain ⟨rfl, rfl, hK⟩ := hv
  have hx := B.exec
  have hb := B.bytes
  have hr := B.returns
  have hts0 := atoms_spec (ws := w_TL_labelAt) B.pre
  have hts := fun w (h : w ∈ lw_g) => hts0 w (List.mem_cons_of_mem _ h)
  have hown : s.vm.findClass RTL = some m.cls := findClass_of_methodNamed B.named
  have hlocks := B.notSynchronized
  have hσ0 := hσ
  obtain ⟨w1, w3, w5, w7, w9, w11, w13, w15, w17, w19, rfl, h2, h4, h6, h8, h10, h12, h14, h16, h18, h20⟩ := hσ
  have hP := hP0
  obtain ⟨A, hAe⟩ : ∃ A : Nat → Prop, A = fun _ => False := ⟨_, rfl⟩
  rw [← hAe]
  have hS : va_S A s.heap s.heap [] := va_S.rf
  have hl := lv_entry ([.ref h0, .int k]) (n := 2) (Nat.le_of_ble_eq_true rfl)
  rw [lg_entry_eq]
  generalize (lg_sl ([.ref h0, .int k]) ++ List.replicate (2 - (lg_sl ([.ref h0, .int k])).length) Slot.unset).toArray = ls at hl ⊢
  have hl : lv_has ls 2 [(0, .ref h0), (1, .int k)] := hl
  unfold A_TL_labelAt at hr0
  refine lv_aload_n hx hb d_TL_labelAt_0 rfl (lv_at hl 0 rfl) ?_
  refine va_get (D := G.1) (ci := 4) (v := .ref (ad 2)) (C := RTL) (T := TTL) (N := 14) hx hb hts inTL hown hK hP 0 rfl rfl 4 (by decide) (hts _ fl_TL_29) (fun _ h9 => h9) rfl d_TL_labelAt_1 ?_
  refine lv_iload_n hx hb d_TL_labelAt_4 rfl (lv_at hl 1 rfl) ?_
  refine rdV (G := G) (As := [.int k]) (rest := []) (C := RIL) ⟨hx, hb, hml, hown, hts⟩ (c_IL_at l G (ad 2) (gTL_labels σ) k _ _ (bk_gP (k := 3) hP rfl) h6 _ rfl) (cwV 1 hts (gd_V ml_TL_78 im_IL_at sl_IL_at ini_IL k_IL_at) rfl rmK_c rmK_s (by decide +kernel) ⟨Nat.le_of_ble_eq_true rfl, Nat.le_of_ble_eq_true rfl⟩) hK (pIL_recv hK (bk_gP (k := 3) hP rfl) h6) hS ⟨Nat.le_refl _, Nat.le_refl _⟩ rfl hl.1 (Nat.le_of_ble_eq_true rfl) d_TL_labelAt_5 (fun locs hS => ?_)
  exact W.iret (v := (A_IL_at (gTL_labels σ) k)) hx hb hr (fun t ht hW => ⟨⟨(A_IL_at (gTL_labels σ) k), (), rfl, hr0, ht⟩, hS.F ht⟩) hS.2.2 d_TL_labelAt_8

def A_TL_letterAt (σ : tTL) (k : Int32) : Int32 := A_LL_letterAt (gTL_letters σ) k
set_option maxHeartbeats 4000000 in
set_option maxRecDepth 100000 in
theorem c_TL_letterAt (l : Launch) (G : pG) (h0 : Nat) (bS : Nat) (bR : Nat) (ad : Nat → Nat) (adL : Nat → Nat) (σ : tTL) (k : Int32) (H : Heap) (w : va_W) (hP0 : va_P G.1 vwCl w H) (hσ : pTL G h0 bS bR ad adL σ w) (res : Int32) (hr0 : A_TL_letterAt σ k = res) : MRi l y_TL_letterAt w_TL_letterAt 2 42 G [.ref h0, .int k] H res := by
  refine Met.ofW (cc := b_TL_letterAt) (maxL := 2) (ret := (some .int)) (by decide) rfl ?_
  intro p e s m args below meth c s₁ B hml hv
  obtain ⟨rfl, rfl, hK⟩ := hv
  have hx := B.exec
  have hb := B.bytes
  have hr := B.returns
  have hts0 := atoms_spec (ws := w_TL_letterAt) B.pre
  have hts := fun w (h : w ∈ lw_g) => hts0 w (List.mem_cons_of_mem _ h)
  have hown : s.vm.findClass RTL = some m.cls := findClass_of_methodNamed B.named
  have hlocks := B.notSynchronized
  have hσ0 := hσ
  obtain ⟨w1, w3, w5, w7, w9, w11, w13, w15, w17, w19, rfl, h2, h4, h6, h8, h10, h12, h14, h16, h18, h20⟩ := hσ
  have hP := hP0
  obtain ⟨A, hAe⟩ : ∃ A : Nat → Prop, A = fun _ => False := ⟨_, rfl⟩
  rw [← hAe]
  have hS : va_S A s.heap s.heap [] := va_S.rf
  have hl := lv_entry ([.ref h0, .int k]) (n := 2) (Nat.le_of_ble_eq_true rfl)
  rw [lg_entry_eq]
  generalize (lg_sl ([.ref h0, .int k]) ++ List.replicate (2 - (lg_sl ([.ref h0, .int k])).length) Slot.unset).toArray = ls at hl ⊢
  have hl : lv_has ls 2 [(0, .ref h0), (1, .int k)] := hl
  unfold A_TL_letterAt at hr0
  refine lv_aload_n hx hb d_TL_letterAt_0 rfl (lv_at hl 0 rfl) ?_
  refine va_get (D := G.1) (ci := 4) (v := .ref (ad 3)) (C := RTL) (T := TTL) (N := 14) hx hb hts inTL hown hK hP 0 rfl rfl 5 (by decide) (hts _ fl_TL_35) (fun _ h9 => h9) rfl d_TL_letterAt_1 ?_
  refine lv_iload_n hx hb d_TL_letterAt_4 rfl (lv_at hl 1 rfl) ?_
  refine rdV (G := G) (As := [.int k]) (rest := []) (C := RLL) ⟨hx, hb, hml, hown, hts⟩ (c_LL_letterAt l G (ad 3) adL (gTL_letters σ) k _ _ (bk_gP (k := 4) hP rfl) h8 _ rfl) (cwV 1 hts (gd_V ml_TL_82 im_LL_letterAt sl_LL_letterAt ini_LL k_LL_letterAt) rfl rmK_c rmK_s (by decide +kernel) ⟨Nat.le_of_ble_eq_true rfl, Nat.le_of_ble_eq_true rfl⟩) hK (pLL_recv hK (bk_gP (k := 4) hP rfl) h8) hS ⟨Nat.le_refl _, Nat.le_refl _⟩ rfl hl.1 (Nat.le_of_ble_eq_true rfl) d_TL_letterAt_5 (fun locs hS => ?_)
  exact W.iret (v := (A_LL_letterAt (gTL_letters σ) k)) hx hb hr (fun t ht hW => ⟨⟨(A_LL_letterAt (gTL_letters σ) k), (), rfl, hr0, ht⟩, hS.F ht⟩) hS.2.2 d_TL_letterAt_8

def A_TL_rowsTakenAt (σ : tTL) (ss : tST) (rr : tRW) (k : Int32) : Int32 := if (-2) < (A_IL_at (gTL_steps σ) k) then (A_ST_taking ss (A_IL_at (gTL_steps σ) k)) else 0
set_option maxHeartbeats 4000000 in
set_option maxRecDepth 100000 in
theorem c_TL_rowsTakenAt (l : Launch) (G : pG) (h0 : Nat) (bS : Nat) (bR : Nat) (ad : Nat → Nat) (adL : Nat → Nat) (σ : tTL) (k : Int32) (H : Heap) (w : va_W) (adS : Nat → Nat) (ss : tST) (vS : va_W) (hvS : va_P G.1 vwCl vS H) (hsS : pST G bS adS ss vS) (adR : Nat → Nat) (rr : tRW) (vR : va_W) (hvR : va_P G.1 vwCl vR H) (hrR : pRW G bR adR rr vR) (hP0 : va_P G.1 vwCl w H) (hσ : pTL G h0 bS bR ad adL σ w) (res : Int32) (hr0 : A_TL_rowsTakenAt σ ss rr k = res) : MRi l y_TL_rowsTakenAt w_TL_rowsTakenAt 2 42 G [.ref h0, .int k] H res := by
  refine Met.ofW (cc := b_TL_rowsTakenAt) (maxL := 3) (ret := (some .int)) (by decide) rfl ?_
  intro p e s m args below meth c s₁ B hml hv
  obtain ⟨rfl, rfl, hK⟩ := hv
  have hx := B.exec
  have hb := B.bytes
  have hr := B.returns
  have hts0 := atoms_spec (ws := w_TL_rowsTakenAt) B.pre
  have hts := fun w (h : w ∈ lw_g) => hts0 w (List.mem_cons_of_mem _ h)
  have hown : s.vm.findClass RTL = some m.cls := findClass_of_methodNamed B.named
  have hlocks := B.notSynchronized
  have hσ0 := hσ
  obtain ⟨w1, w3, w5, w7, w9, w11, w13, w15, w17, w19, rfl, h2, h4, h6, h8, h10, h12, h14, h16, h18, h20⟩ := hσ
  have hP := hP0
  obtain ⟨A, hAe⟩ : ∃ A : Nat → Prop, A = fun _ => False := ⟨_, rfl⟩
  rw [← hAe]
  have hS : va_S A s.heap s.heap [] := va_S.rf
  have hl := lv_entry ([.ref h0, .int k]) (n := 3) (Nat.le_of_ble_eq_true rfl)
  rw [lg_entry_eq]
  generalize (lg_sl ([.ref h0, .int k]) ++ List.replicate (3 - (lg_sl ([.ref h0, .int k])).length) Slot.unset).toArray = ls at hl ⊢
  have hl : lv_has ls 3 [(0, .ref h0), (1, .int k)] := hl
  unfold A_TL_rowsTakenAt at hr0
  refine lv_aload_n hx hb d_TL_rowsTakenAt_0 rfl (lv_at hl 0 rfl) ?_
  refine va_get (D := G.1) (ci := 4) (v := .ref (ad 0)) (C := RTL) (T := TTL) (N := 14) hx hb hts inTL hown hK hP 0 rfl rfl 2 (by decide) (hts _ fl_TL_22) (fun _ h9 => h9) rfl d_TL_rowsTakenAt_1 ?_
  refine lv_iload_n hx hb d_TL_rowsTakenAt_4 rfl (lv_at hl 1 rfl) ?_
  refine rdV (G := G) (As := [.int k]) (rest := []) (C := RIL) ⟨hx, hb, hml, hown, hts⟩ (c_IL_at l G (ad 0) (gTL_steps σ) k _ _ (bk_gP (k := 1) hP rfl) h2 _ rfl) (cwV 1 hts (gd_V ml_TL_78 im_IL_at sl_IL_at ini_IL k_IL_at) rfl rmK_c rmK_s (by decide +kernel) ⟨Nat.le_of_ble_eq_true rfl, Nat.le_of_ble_eq_true rfl⟩) hK (pIL_recv hK (bk_gP (k := 1) hP rfl) h2) hS ⟨Nat.le_refl _, Nat.le_refl _⟩ rfl hl.1 (Nat.le_of_ble_eq_true rfl) d_TL_rowsTakenAt_5 (fun locs hS => ?_)
  refine lv_istore_n (lv' := [(2, .int (A_IL_at (gTL_steps σ) k)), (0, .ref h0), (1, .int k)]) hx hb d_TL_rowsTakenAt_8 rfl hl (by decide) rfl (fun ls hl => ?_)
  refine lv_iload_n hx hb d_TL_rowsTakenAt_9 rfl (lv_at hl 0 rfl) ?_
  refine lv_bipush (v := (-2)) hx hb d_TL_rowsTakenAt_10 (by decide) ?_
  refine lv_icmp_gt (tgt := 19) hx hb d_TL_rowsTakenAt_12 (by decide) (fun c21 => ?_) (fun c21 => ?_)
  · have hr0 := ai_pos c21 hr0
    refine lv_aload_n hx hb d_TL_rowsTakenAt_19 rfl (lv_at hl 1 rfl) ?_
    refine va_get (D := G.1) (ci := 4) (v := .ref bS) (C := RTL) (T := TTL) (N := 14) hx hb hts inTL hown hK hP 0 rfl rfl 0 (by decide) (hts _ fl_TL_9) (fun _ h9 => h9) rfl d_TL_rowsTakenAt_20 ?_
    refine lv_iload_n hx hb d_TL_rowsTakenAt_23 rfl (lv_at hl 0 rfl) ?_
    refine rdV (G := G) (As := [.int (A_IL_at (gTL_steps σ) k)]) (rest := []) (C := RST) ⟨hx, hb, hml, hown, hts⟩ (c_ST_taking l G bS adS ss (A_IL_at (gTL_steps σ) k) _ _ hvS hsS _ rfl) (cwV 1 hts (gd_V ml_TL_167 im_ST_taking sl_ST_taking ini_ST k_ST_taking) rfl rmK_c rmK_s (by decide +kernel) ⟨Nat.le_of_ble_eq_true rfl, Nat.le_of_ble_eq_true rfl⟩) hK (pST_recv hK hvS hsS) hS ⟨Nat.le_refl _, Nat.le_refl _⟩ rfl hl.1 (Nat.le_of_ble_eq_true rfl) d_TL_rowsTakenAt_24 (fun locs hS => ?_)
    exact W.iret (v := (A_ST_taking ss (A_IL_at (gTL_steps σ) k))) hx hb hr (fun t ht hW => ⟨⟨(A_ST_taking ss (A_IL_at (gTL_steps σ) k)), (), rfl, hr0, ht⟩, hS.F ht⟩) hS.2.2 d_TL_rowsTakenAt_27
  · have hr0 := ai_neg c21 hr0
    refine lv_iconst (v := 0) hx hb d_TL_rowsTakenAt_15 (by decide) ?_
    refine lv_goto (tgt := 27) hx hb d_TL_rowsTakenAt_16 (by decide) ?_
    exact W.iret (v := 0) hx hb hr (fun t ht hW => ⟨⟨0, (), rfl, hr0, ht⟩, hS.F ht⟩) hS.2.2 d_TL_rowsTakenAt_27

def A_TL_kindMadeAt (σ : tTL) (ss : tST) (rr : tRW) (k : Int32) (under : Int32) : Int32 := if (-2) < (A_IL_at (gTL_steps σ) k) then (A_RW_kindMadeOf rr (gTL_remade σ) (A_IL_at (gTL_steps σ) k) under) else (A_IL_at (gTL_savedKinds σ) ((-2) - (A_IL_at (gTL_steps σ) k)))
set_option maxHeartbeats 4000000 in
set_option maxRecDepth 100000 in
theorem c_TL_kindMadeAt (l : Launch) (G : pG) (h0 : Nat) (bS : Nat) (bR : Nat) (ad : Nat → Nat) (adL : Nat → Nat) (σ : tTL) (k : Int32) (under : Int32) (H : Heap) (w : va_W) (adS : Nat → Nat) (ss : tST) (vS : va_W) (hvS : va_P G.1 vwCl vS H) (hsS : pST G bS adS ss vS) (adR : Nat → Nat) (rr : tRW) (vR : va_W) (hvR : va_P G.1 vwCl vR H) (hrR : pRW G bR adR rr vR) (hP0 : va_P G.1 vwCl w H) (hσ : pTL G h0 bS bR ad adL σ w) (res : Int32) (hr0 : A_TL_kindMadeAt σ ss rr k under = res) : MRi l y_TL_kindMadeAt w_TL_kindMadeAt 4 93 G [.ref h0, .int k, .int under] H res := by
  refine Met.ofW (cc := b_TL_kindMadeAt) (maxL := 4) (ret := (some .int)) (by decide) rfl ?_
  intro p e s m args below meth c s₁ B hml hv
  obtain ⟨rfl, rfl, hK⟩ := hv
  have hx := B.exec
  have hb := B.bytes
  have hr := B.returns
  have hts0 := atoms_spec (ws := w_TL_kindMadeAt) B.pre
  have hts := fun w (h : w ∈ lw_g) => hts0 w (List.mem_cons_of_mem _ h)
  have hown : s.vm.findClass RTL = some m.cls := findClass_of_methodNamed B.named
  have hlocks := B.notSynchronized
  have hσ0 := hσ
  obtain ⟨w1, w3, w5, w7, w9, w11, w13, w15, w17, w19, rfl, h2, h4, h6, h8, h10, h12, h14, h16, h18, h20⟩ := hσ
  have hP := hP0
  obtain ⟨A, hAe⟩ : ∃ A : Nat → Prop, A = fun _ => False := ⟨_, rfl⟩
  rw [← hAe]
  have hS : va_S A s.heap s.heap [] := va_S.rf
  have hl := lv_entry ([.ref h0, .int k, .int under]) (n := 4) (Nat.le_of_ble_eq_true rfl)
  rw [lg_entry_eq]
  generalize (lg_sl ([.ref h0, .int k, .int under]) ++ List.replicate (4 - (lg_sl ([.ref h0, .int k, .int under])).length) Slot.unset).toArray = ls at hl ⊢
  have hl : lv_has ls 4 [(0, .ref h0), (1, .int k), (2, .int under)] := hl
  unfold A_TL_kindMadeAt at hr0
  refine lv_aload_n hx hb d_TL_kindMadeAt_0 rfl (lv_at hl 0 rfl) ?_
  refine va_get (D := G.1) (ci := 4) (v := .ref (ad 0)) (C := RTL) (T := TTL) (N := 14) hx hb hts inTL hown hK hP 0 rfl rfl 2 (by decide) (hts _ fl_TL_22) (fun _ h9 => h9) rfl d_TL_kindMadeAt_1 ?_
  refine lv_iload_n hx hb d_TL_kindMadeAt_4 rfl (lv_at hl 1 rfl) ?_
  refine rdV (G := G) (As := [.int k]) (rest := []) (C := RIL) ⟨hx, hb, hml, hown, hts⟩ (c_IL_at l G (ad 0) (gTL_steps σ) k _ _ (bk_gP (k := 1) hP rfl) h2 _ rfl) (cwV 1 hts (gd_V ml_TL_78 im_IL_at sl_IL_at ini_IL k_IL_at) rfl rmK_c rmK_s (by decide +kernel) ⟨Nat.le_of_ble_eq_true rfl, Nat.le_of_ble_eq_true rfl⟩) hK (pIL_recv hK (bk_gP (k := 1) hP rfl) h2) hS ⟨Nat.le_refl _, Nat.le_refl _⟩ rfl hl.1 (Nat.le_of_ble_eq_true rfl) d_TL_kindMadeAt_5 (fun locs hS => ?_)
  refine lv_istore_n (lv' := [(3, .int (A_IL_at (gTL_steps σ) k)), (0, .ref h0), (1, .int k), (2, .int under)]) hx hb d_TL_kindMadeAt_8 rfl hl (by decide) rfl (fun ls hl => ?_)
  refine lv_iload_n hx hb d_TL_kindMadeAt_9 rfl (lv_at hl 0 rfl) ?_
  refine lv_bipush (v := (-2)) hx hb d_TL_kindMadeAt_10 (by decide) ?_
  refine lv_icmp_gt (tgt := 27) hx hb d_TL_kindMadeAt_12 (by decide) (fun c21 => ?_) (fun c21 => ?_)
  · have hr0 := ai_pos c21 hr0
    refine lv_aload_n hx hb d_TL_kindMadeAt_27 rfl (lv_at hl 1 rfl) ?_
    refine va_get (D := G.1) (ci := 4) (v := .ref bR) (C := RTL) (T := TTL) (N := 14) hx hb hts inTL hown hK hP 0 rfl rfl 1 (by decide) (hts _ fl_TL_15) (fun _ h9 => h9) rfl d_TL_kindMadeAt_28 ?_
    refine lv_iload_n hx hb d_TL_kindMadeAt_31 rfl (lv_at hl 0 rfl) ?_
    refine lv_aload_n hx hb d_TL_kindMadeAt_32 rfl (lv_at hl 1 rfl) ?_
    refine va_get (D := G.1) (ci := 4) (v := .ref (ad 8)) (C := RTL) (T := TTL) (N := 14) hx hb hts inTL hown hK hP 0 rfl rfl 12 (by decide) (hts _ fl_TL_58) (fun _ h9 => h9) rfl d_TL_kindMadeAt_33 ?_
    refine lv_iload_n hx hb d_TL_kindMadeAt_36 rfl (lv_at hl 3 rfl) ?_
    refine rdV (G := G) (As := [.int (A_IL_at (gTL_steps σ) k), .ref (ad 8), .int under]) (rest := []) (C := RRW) ⟨hx, hb, hml, hown, hts⟩ (c_RW_kindMadeOf l G bR adR rr (A_IL_at (gTL_steps σ) k) (ad 8) under _ _ (gTL_remade σ) _ (bk_gP (k := 9) hP rfl) h18 hvR hrR _ rfl) (cwV 3 hts (gd_V ml_TL_170 im_RW_kindMadeOf sl_RW_kindMadeOf ini_RW k_RW_kindMadeOf) rfl rmK_c rmK_s (by decide +kernel) ⟨Nat.le_of_ble_eq_true rfl, Nat.le_of_ble_eq_true rfl⟩) hK (pRW_recv hK hvR hrR) hS ⟨Nat.le_refl _, Nat.le_refl _⟩ rfl hl.1 (Nat.le_of_ble_eq_true rfl) d_TL_kindMadeAt_37 (fun locs hS => ?_)
    exact W.iret (v := (A_RW_kindMadeOf rr (gTL_remade σ) (A_IL_at (gTL_steps σ) k) under)) hx hb hr (fun t ht hW => ⟨⟨(A_RW_kindMadeOf rr (gTL_remade σ) (A_IL_at (gTL_steps σ) k) under), (), rfl, hr0, ht⟩, hS.F ht⟩) hS.2.2 d_TL_kindMadeAt_40
  · have hr0 := ai_neg c21 hr0
    refine lv_aload_n hx hb d_TL_kindMadeAt_15 rfl (lv_at hl 1 rfl) ?_
    refine va_get (D := G.1) (ci := 4) (v := .ref (ad 9)) (C := RTL) (T := TTL) (N := 14) hx hb hts inTL hown hK hP 0 rfl rfl 13 (by decide) (hts _ fl_TL_61) (fun _ h9 => h9) rfl d_TL_kindMadeAt_16 ?_
    refine lv_bipush (v := (-2)) hx hb d_TL_kindMadeAt_19 (by decide) ?_
    refine lv_iload_n hx hb d_TL_kindMadeAt_21 rfl (lv_at hl 0 rfl) ?_
    refine lv_isub hx hb d_TL_kindMadeAt_22 ?_
    refine rdV (G := G) (As := [.int ((-2) - (A_IL_at (gTL_steps σ) k))]) (rest := []) (C := RIL) ⟨hx, hb, hml, hown, hts⟩ (c_IL_at l G (ad 9) (gTL_savedKinds σ) ((-2) - (A_IL_at (gTL_steps σ) k)) _ _ (bk_gP (k := 10) hP rfl) h20 _ rfl) (cwV 1 hts (gd_V ml_TL_78 im_IL_at sl_IL_at ini_IL k_IL_at) rfl rmK_c rmK_s (by decide +kernel) ⟨Nat.le_of_ble_eq_true rfl, Nat.le_of_ble_eq_true rfl⟩) hK (pIL_recv hK (bk_gP (k := 10) hP rfl) h20) hS ⟨Nat.le_refl _, Nat.le_refl _⟩ rfl hl.1 (Nat.le_of_ble_eq_true rfl) d_TL_kindMadeAt_23 (fun locs hS => ?_)
    exact W.iret (v := (A_IL_at (gTL_savedKinds σ) ((-2) - (A_IL_at (gTL_steps σ) k)))) hx hb hr (fun t ht hW => ⟨⟨(A_IL_at (gTL_savedKinds σ) ((-2) - (A_IL_at (gTL_steps σ) k))), (), rfl, hr0, ht⟩, hS.F ht⟩) hS.2.2 d_TL_kindMadeAt_26
