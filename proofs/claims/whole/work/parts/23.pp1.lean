abbrev tPP : Type := tST × tRW × tTL × tIL × Int32
abbrev gPP_statements (σ : tPP) : tST := σ.1
abbrev gPP_rows (σ : tPP) : tRW := σ.2.1
abbrev gPP_telling (σ : tPP) : tTL := σ.2.2.1
abbrev gPP_pile (σ : tPP) : tIL := σ.2.2.2.1
abbrev gPP_puts (σ : tPP) : Int32 := σ.2.2.2.2
def uPP_statements (σ : tPP) (v : tST) : tPP := (v, gPP_rows σ, gPP_telling σ, gPP_pile σ, gPP_puts σ)
def uPP_rows (σ : tPP) (v : tRW) : tPP := (gPP_statements σ, v, gPP_telling σ, gPP_pile σ, gPP_puts σ)
def uPP_telling (σ : tPP) (v : tTL) : tPP := (gPP_statements σ, gPP_rows σ, v, gPP_pile σ, gPP_puts σ)
def uPP_pile (σ : tPP) (v : tIL) : tPP := (gPP_statements σ, gPP_rows σ, gPP_telling σ, v, gPP_puts σ)
def uPP_puts (σ : tPP) (v : Int32) : tPP := (gPP_statements σ, gPP_rows σ, gPP_telling σ, gPP_pile σ, v)
def pPP (G : pG) (h0 : Nat) (ad : Nat → Nat) (adS : Nat → Nat) (adR : Nat → Nat) (adT : Nat → Nat) (adL : Nat → Nat) (σ : tPP) (w : va_W) : Prop := ∃ (w0 w1 w2 w3 : va_W), w = [[(h0, .inr (5, [.ref (ad 0), .ref (ad 1), .ref (ad 2), .ref (ad 3), .int (gPP_puts σ)]))], w0, w1, w2, w3].flatten ∧ pST G (ad 0) adS (gPP_statements σ) w0 ∧ pRW G (ad 1) adR (gPP_rows σ) w1 ∧ pTL G (ad 2) (ad 0) (ad 1) adT adL (gPP_telling σ) w2 ∧ pIL G (ad 3) (gPP_pile σ) w3
theorem pPP_recv {G : pG} {s : State} {H : Heap} {h0 : Nat} {ad : Nat → Nat} {adS : Nat → Nat} {adR : Nat → Nat} {adT : Nat → Nat} {adL : Nat → Nat} {σ : tPP} {w : va_W} (hK : va_K G.1 vwCl (tyG G) s) (hP : va_P G.1 vwCl w H) (h : pPP G h0 ad adS adR adT adL σ w) : ∃ cell : Cell, H[h0]? = some cell ∧ cell.vm.isStatics = false ∧ s.vm.findClass RPP = some cell.cls := by
  obtain ⟨w0, w1, w2, w3, rfl, -, -, -, -⟩ := h
  exact va_recv (q0 := 0) (ci := 5) hK hP rfl rfl

def A_PP_mayPutOn (σ : tPP) (under : Int32) : Int32 := if 200 ≤ under then 0 else (if 20000 ≤ (gPP_puts σ) then 0 else 1)
set_option maxHeartbeats 4000000 in
set_option maxRecDepth 100000 in
theorem c_PP_mayPutOn (l : Launch) (G : pG) (h0 : Nat) (ad : Nat → Nat) (adS : Nat → Nat) (adR : Nat → Nat) (adT : Nat → Nat) (adL : Nat → Nat) (σ : tPP) (under : Int32) (H : Heap) (w : va_W) (hP0 : va_P G.1 vwCl w H) (hσ : pPP G h0 ad adS adR adT adL σ w) (res : Int32) (hr0 : A_PP_mayPutOn σ under = res) : MRi l y_PP_mayPutOn w_PP_mayPutOn 0 0 G [.ref h0, .int under] H res := by
  refine Met.ofW (cc := b_PP_mayPutOn) (maxL := 2) (ret := (some .boolean)) (by decide) rfl ?_
  intro p e s m args below meth c s₁ B hml hv
  obtain ⟨rfl, rfl, hK⟩ := hv
  have hx := B.exec
  have hb := B.bytes
  have hr := B.returns
  have hts0 := atoms_spec (ws := w_PP_mayPutOn) B.pre
  have hts := fun w (h : w ∈ lw_g) => hts0 w (List.mem_cons_of_mem _ h)
  have hown : s.vm.findClass RPP = some m.cls := findClass_of_methodNamed B.named
  have hlocks := B.notSynchronized
  have hσ0 := hσ
  obtain ⟨w1, w3, w5, w7, rfl, h2, h4, h6, h8⟩ := hσ
  have hP := hP0
  obtain ⟨A, hAe⟩ : ∃ A : Nat → Prop, A = fun _ => False := ⟨_, rfl⟩
  rw [← hAe]
  have hS : va_S A s.heap s.heap [] := va_S.rf
  have hl := lv_entry ([.ref h0, .int under]) (n := 2) (Nat.le_of_ble_eq_true rfl)
  rw [lg_entry_eq]
  generalize (lg_sl ([.ref h0, .int under]) ++ List.replicate (2 - (lg_sl ([.ref h0, .int under])).length) Slot.unset).toArray = ls at hl ⊢
  have hl : lv_has ls 2 [(0, .ref h0), (1, .int under)] := hl
  unfold A_PP_mayPutOn at hr0
  refine lv_iload_n hx hb d_PP_mayPutOn_0 rfl (lv_at hl 1 rfl) ?_
  refine lv_sipush (v := 200) hx hb d_PP_mayPutOn_1 (by decide) ?_
  refine lv_icmp_ge (tgt := 21) hx hb d_PP_mayPutOn_4 (by decide) (fun c9 => ?_) (fun c9 => ?_)
  · have hr0 := ai_pos c9 hr0
    refine lv_iconst (v := 0) hx hb d_PP_mayPutOn_21 (by decide) ?_
    exact W.zret (v := 0) hx hb hr (by decide) (fun t ht hW => ⟨⟨0, (), rfl, hr0, ht⟩, hS.F ht⟩) hS.2.2 d_PP_mayPutOn_22
  · have hr0 := ai_neg c9 hr0
    refine lv_aload_n hx hb d_PP_mayPutOn_7 rfl (lv_at hl 0 rfl) ?_
    refine va_get (D := G.1) (ci := 5) (v := .int (gPP_puts σ)) (C := RPP) (T := TPP) (N := 5) hx hb hts inPP hown hK hP 0 rfl rfl 4 (by decide) (hts _ fl_PP_39) (fun _ h9 => h9) rfl d_PP_mayPutOn_8 ?_
    refine lv_sipush (v := 20000) hx hb d_PP_mayPutOn_11 (by decide) ?_
    refine lv_icmp_ge (tgt := 21) hx hb d_PP_mayPutOn_14 (by decide) (fun c10 => ?_) (fun c10 => ?_)
    · have hr0 := ai_pos c10 hr0
      refine lv_iconst (v := 0) hx hb d_PP_mayPutOn_21 (by decide) ?_
      exact W.zret (v := 0) hx hb hr (by decide) (fun t ht hW => ⟨⟨0, (), rfl, hr0, ht⟩, hS.F ht⟩) hS.2.2 d_PP_mayPutOn_22
    · have hr0 := ai_neg c10 hr0
      refine lv_iconst (v := 1) hx hb d_PP_mayPutOn_17 (by decide) ?_
      refine lv_goto (tgt := 22) hx hb d_PP_mayPutOn_18 (by decide) ?_
      exact W.zret (v := 1) hx hb hr (by decide) (fun t ht hW => ⟨⟨1, (), rfl, hr0, ht⟩, hS.F ht⟩) hS.2.2 d_PP_mayPutOn_22

def A_PP_putOn (σ : tPP) (r : Int32) : tPP := uPP_puts (uPP_pile σ (A_IL_add (gPP_pile σ) r)) ((gPP_puts σ) + 1)
def K_PP_putOn (σ : tPP) (r : Int32) : Nat := (K_IL_add (gPP_pile σ) r) + 0
set_option maxHeartbeats 4000000 in
set_option maxRecDepth 100000 in
theorem c_PP_putOn (l : Launch) (G : pG) (h0 : Nat) (ad : Nat → Nat) (adS : Nat → Nat) (adR : Nat → Nat) (adT : Nat → Nat) (adL : Nat → Nat) (σ : tPP) (r : Int32) (H : Heap) (w : va_W) (hP0 : va_P G.1 vwCl w H) (hD0 : va_D (fun _ => True) w) (hσ : pPP G h0 ad adS adR adT adL σ w) (res : tPP) (hr0 : A_PP_putOn σ r = res) (Kt : Nat) (hk : K_PP_putOn σ r = Kt) (hKb : Kt ≤ 16777216) : MWv l y_PP_putOn w_PP_putOn 3 103 Kt G [.ref h0, .int r] H w (pPP G h0 ad adS adR adT adL res) := by
  refine Met.ofW (cc := b_PP_putOn) (maxL := 2) (ret := none) (by decide) rfl ?_
  intro p e s m args below meth c s₁ B hml hv
  obtain ⟨rfl, rfl, hK⟩ := hv
  have hx := B.exec
  have hb := B.bytes
  have hr := B.returns
  have hts0 := atoms_spec (ws := w_PP_putOn) B.pre
  have hts := fun w (h : w ∈ lw_g) => hts0 w (List.mem_cons_of_mem _ h)
  have hown : s.vm.findClass RPP = some m.cls := findClass_of_methodNamed B.named
  have hlocks := B.notSynchronized
  have hA : ∀ q : Nat, s.heap.size ≤ q → va_A w s.heap.size q := fun _ h => Or.inr h
  have hB : bk G.1 vwCl (va_A w s.heap.size) [w] s.heap := bk_init hP0 hD0
  generalize va_A w s.heap.size = A at *
  have hS : va_S A s.heap s.heap [] := va_S.rf
  obtain ⟨w1, w3, w5, w7, rfl, h2, h4, h6, h8⟩ := hσ
  have hB := bk_many hB
  have hk : 0 + K_PP_putOn σ r = Kt := (Nat.zero_add _).trans hk
  have hl := lv_entry ([.ref h0, .int r]) (n := 2) (Nat.le_of_ble_eq_true rfl)
  rw [lg_entry_eq]
  generalize (lg_sl ([.ref h0, .int r]) ++ List.replicate (2 - (lg_sl ([.ref h0, .int r])).length) Slot.unset).toArray = ls at hl ⊢
  have hl : lv_has ls 2 [(0, .ref h0), (1, .int r)] := hl
  unfold A_PP_putOn at hr0
  unfold K_PP_putOn at hk
  refine lv_aload_n hx hb d_PP_putOn_0 rfl (lv_at hl 0 rfl) ?_
  refine va_get (D := G.1) (ci := 5) (v := .ref (ad 3)) (C := RPP) (T := TPP) (N := 5) hx hb hts inPP hown hK hB.1 0 rfl rfl 3 (by decide) (hts _ fl_PP_35) (fun _ h9 => h9) rfl d_PP_putOn_1 ?_
  refine lv_iload_n hx hb d_PP_putOn_4 rfl (lv_at hl 1 rfl) ?_
  refine wrV (G := G) (k := 4) (As := [.int r]) (rest := []) (C := RIL) ⟨hx, hb, hml, hown, hts⟩ (c_IL_add l G (ad 3) (gPP_pile σ) r _ _ (bk_gP (k := 4) hB.1 rfl) (bk_own (k := 4) hB rfl) h8 _ rfl _ rfl (bk_ub hk hKb)) (cwV 1 hts (gd_V ml_PP_151 im_IL_add sl_IL_add ini_IL k_IL_add) rfl rmK_c rmK_s (by decide +kernel) ⟨Nat.le_of_ble_eq_true rfl, Nat.le_of_ble_eq_true rfl⟩) hK (pIL_recv hK (bk_gP (k := 4) hB.1 rfl) h8) hS hA hB rfl hk ⟨rfl, rfl⟩ rfl hl.1 (Nat.le_of_ble_eq_true rfl) d_PP_putOn_5 (fun u9 H locs kc hu10 hB hS hk => ?_)
  have hB : bk G.1 vwCl A [[(h0, .inr (5, [.ref (ad 0), .ref (ad 1), .ref (ad 2), .ref (ad 3), .int (gPP_puts σ)]))], w1, w3, w5, u9] H := hB
  refine lv_aload_n hx hb d_PP_putOn_8 rfl (lv_at hl 0 rfl) ?_
  refine lv_dup hx hb d_PP_putOn_9 rfl ?_
  refine va_get (D := G.1) (ci := 5) (v := .int (gPP_puts σ)) (C := RPP) (T := TPP) (N := 5) hx hb hts inPP hown hK hB.1 0 rfl rfl 4 (by decide) (hts _ fl_PP_39) (fun _ h9 => h9) rfl d_PP_putOn_10 ?_
  refine lv_iconst (v := 1) hx hb d_PP_putOn_13 (by decide) ?_
  refine lv_iadd hx hb d_PP_putOn_14 ?_
  refine va_put (D := G.1) (ci := 5) (v := .int ((gPP_puts σ) + 1)) (ty := .int) (C := RPP) (T := TPP) (N := 5) hx hb hts inPP tyPP tokPP nmPP hown hK hB.1 hB.2 hS 0 rfl rfl 4 (by decide) (hts _ fl_PP_39) (fun _ h9 => h9) rfl (by decide +kernel) rfl rfl (Nat.le_of_ble_eq_true rfl) d_PP_putOn_15 (fun H locs hP hD hS => ?_)
  have hB : bk G.1 vwCl A [[(h0, .inr (5, [.ref (ad 0), .ref (ad 1), .ref (ad 2), .ref (ad 3), .int ((gPP_puts σ) + 1)]))], w1, w3, w5, u9] H := ⟨hP, hD⟩
  subst hr0
  refine W.widen (k := Kt) (n := Kt) (Nat.le.intro hk) (Nat.le.intro hk) ?_
  exact W.vret hx hb hr (fun t ht hW => ⟨⟨[[(h0, .inr (5, [.ref (ad 0), .ref (ad 1), .ref (ad 2), .ref (ad 3), .int ((gPP_puts σ) + 1)]))], w1, w3, w5, u9].flatten, rfl, ⟨w1, w3, w5, u9, rfl, h2, h4, h6, hu10⟩, by rw [ht]; exact hB.1, hB.2⟩, hS.F ht⟩) hS.2.2 d_PP_putOn_18

def A_PP_row (σ : tPP) (r : Int32) : Int32 := A_RW_statementOf (gPP_rows σ) r
set_option maxHeartbeats 4000000 in
set_option maxRecDepth 100000 in
theorem c_PP_row (l : Launch) (G : pG) (h0 : Nat) (ad : Nat → Nat) (adS : Nat → Nat) (adR : Nat → Nat) (adT : Nat → Nat) (adL : Nat → Nat) (σ : tPP) (r : Int32) (H : Heap) (w : va_W) (hP0 : va_P G.1 vwCl w H) (hσ : pPP G h0 ad adS adR adT adL σ w) (res : Int32) (hr0 : A_PP_row σ r = res) : MRi l y_PP_row w_PP_row 2 42 G [.ref h0, .int r] H res := by
  refine Met.ofW (cc := b_PP_row) (maxL := 2) (ret := (some .int)) (by decide) rfl ?_
  intro p e s m args below meth c s₁ B hml hv
  obtain ⟨rfl, rfl, hK⟩ := hv
  have hx := B.exec
  have hb := B.bytes
  have hr := B.returns
  have hts0 := atoms_spec (ws := w_PP_row) B.pre
  have hts := fun w (h : w ∈ lw_g) => hts0 w (List.mem_cons_of_mem _ h)
  have hown : s.vm.findClass RPP = some m.cls := findClass_of_methodNamed B.named
  have hlocks := B.notSynchronized
  have hσ0 := hσ
  obtain ⟨w1, w3, w5, w7, rfl, h2, h4, h6, h8⟩ := hσ
  have hP := hP0
  obtain ⟨A, hAe⟩ : ∃ A : Nat → Prop, A = fun _ => False := ⟨_, rfl⟩
  rw [← hAe]
  have hS : va_S A s.heap s.heap [] := va_S.rf
  have hl := lv_entry ([.ref h0, .int r]) (n := 2) (Nat.le_of_ble_eq_true rfl)
  rw [lg_entry_eq]
  generalize (lg_sl ([.ref h0, .int r]) ++ List.replicate (2 - (lg_sl ([.ref h0, .int r])).length) Slot.unset).toArray = ls at hl ⊢
  have hl : lv_has ls 2 [(0, .ref h0), (1, .int r)] := hl
  unfold A_PP_row at hr0
  refine lv_aload_n hx hb d_PP_row_0 rfl (lv_at hl 0 rfl) ?_
  refine va_get (D := G.1) (ci := 5) (v := .ref (ad 1)) (C := RPP) (T := TPP) (N := 5) hx hb hts inPP hown hK hP 0 rfl rfl 1 (by decide) (hts _ fl_PP_19) (fun _ h9 => h9) rfl d_PP_row_1 ?_
  refine lv_iload_n hx hb d_PP_row_4 rfl (lv_at hl 1 rfl) ?_
  refine rdV (G := G) (As := [.int r]) (rest := []) (C := RRW) ⟨hx, hb, hml, hown, hts⟩ (c_RW_statementOf l G (ad 1) adR (gPP_rows σ) r _ _ (bk_gP (k := 2) hP rfl) h4 _ rfl) (cwV 1 hts (gd_V ml_PP_92 im_RW_statementOf sl_RW_statementOf ini_RW k_RW_statementOf) rfl rmK_c rmK_s (by decide +kernel) ⟨Nat.le_of_ble_eq_true rfl, Nat.le_of_ble_eq_true rfl⟩) hK (pRW_recv hK (bk_gP (k := 2) hP rfl) h4) hS ⟨Nat.le_refl _, Nat.le_refl _⟩ rfl hl.1 (Nat.le_of_ble_eq_true rfl) d_PP_row_5 (fun locs hS => ?_)
  exact W.iret (v := (A_RW_statementOf (gPP_rows σ) r)) hx hb hr (fun t ht hW => ⟨⟨(A_RW_statementOf (gPP_rows σ) r), (), rfl, hr0, ht⟩, hS.F ht⟩) hS.2.2 d_PP_row_8

def A_PP_frm (σ : tPP) (r : Int32) (k : Int32) : Int32 := A_RW_part (gPP_rows σ) r k
set_option maxHeartbeats 4000000 in
set_option maxRecDepth 100000 in
theorem c_PP_frm (l : Launch) (G : pG) (h0 : Nat) (ad : Nat → Nat) (adS : Nat → Nat) (adR : Nat → Nat) (adT : Nat → Nat) (adL : Nat → Nat) (σ : tPP) (r : Int32) (k : Int32) (H : Heap) (w : va_W) (hP0 : va_P G.1 vwCl w H) (hσ : pPP G h0 ad adS adR adT adL σ w) (res : Int32) (hr0 : A_PP_frm σ r k = res) : MRi l y_PP_frm w_PP_frm 4 84 G [.ref h0, .int r, .int k] H res := by
  refine Met.ofW (cc := b_PP_frm) (maxL := 3) (ret := (some .int)) (by decide) rfl ?_
  intro p e s m args below meth c s₁ B hml hv
  obtain ⟨rfl, rfl, hK⟩ := hv
  have hx := B.exec
  have hb := B.bytes
  have hr := B.returns
  have hts0 := atoms_spec (ws := w_PP_frm) B.pre
  have hts := fun w (h : w ∈ lw_g) => hts0 w (List.mem_cons_of_mem _ h)
  have hown : s.vm.findClass RPP = some m.cls := findClass_of_methodNamed B.named
  have hlocks := B.notSynchronized
  have hσ0 := hσ
  obtain ⟨w1, w3, w5, w7, rfl, h2, h4, h6, h8⟩ := hσ
  have hP := hP0
  obtain ⟨A, hAe⟩ : ∃ A : Nat → Prop, A = fun _ => False := ⟨_, rfl⟩
  rw [← hAe]
  have hS : va_S A s.heap s.heap [] := va_S.rf
  have hl := lv_entry ([.ref h0, .int r, .int k]) (n := 3) (Nat.le_of_ble_eq_true rfl)
  rw [lg_entry_eq]
  generalize (lg_sl ([.ref h0, .int r, .int k]) ++ List.replicate (3 - (lg_sl ([.ref h0, .int r, .int k])).length) Slot.unset).toArray = ls at hl ⊢
  have hl : lv_has ls 3 [(0, .ref h0), (1, .int r), (2, .int k)] := hl
  unfold A_PP_frm at hr0
  refine lv_aload_n hx hb d_PP_frm_0 rfl (lv_at hl 0 rfl) ?_
  refine va_get (D := G.1) (ci := 5) (v := .ref (ad 1)) (C := RPP) (T := TPP) (N := 5) hx hb hts inPP hown hK hP 0 rfl rfl 1 (by decide) (hts _ fl_PP_19) (fun _ h9 => h9) rfl d_PP_frm_1 ?_
  refine lv_iload_n hx hb d_PP_frm_4 rfl (lv_at hl 1 rfl) ?_
  refine lv_iload_n hx hb d_PP_frm_5 rfl (lv_at hl 2 rfl) ?_
  refine rdV (G := G) (As := [.int r, .int k]) (rest := []) (C := RRW) ⟨hx, hb, hml, hown, hts⟩ (c_RW_part l G (ad 1) adR (gPP_rows σ) r k _ _ (bk_gP (k := 2) hP rfl) h4 _ rfl) (cwV 2 hts (gd_V ml_PP_95 im_RW_part sl_RW_part ini_RW k_RW_part) rfl rmK_c rmK_s (by decide +kernel) ⟨Nat.le_of_ble_eq_true rfl, Nat.le_of_ble_eq_true rfl⟩) hK (pRW_recv hK (bk_gP (k := 2) hP rfl) h4) hS ⟨Nat.le_refl _, Nat.le_refl _⟩ rfl hl.1 (Nat.le_of_ble_eq_true rfl) d_PP_frm_6 (fun locs hS => ?_)
  exact W.iret (v := (A_RW_part (gPP_rows σ) r k)) hx hb hr (fun t ht hW => ⟨⟨(A_RW_part (gPP_rows σ) r k), (), rfl, hr0, ht⟩, hS.F ht⟩) hS.2.2 d_PP_frm_9

def A_PP_same (σ : tPP) (r : Int32) (s2 : Int32) : Int32 := if (A_RW_has (gPP_rows σ) r) = 0 then (-1) else (if (A_RW_has (gPP_rows σ) s2) = 0 then (-1) else (if (A_RW_kindOf (gPP_rows σ) r) = (A_RW_kindOf (gPP_rows σ) s2) then 1 else 0))
set_option maxHeartbeats 4000000 in
set_option maxRecDepth 100000 in
theorem c_PP_same (l : Launch) (G : pG) (h0 : Nat) (ad : Nat → Nat) (adS : Nat → Nat) (adR : Nat → Nat) (adT : Nat → Nat) (adL : Nat → Nat) (σ : tPP) (r : Int32) (s2 : Int32) (H : Heap) (w : va_W) (hP0 : va_P G.1 vwCl w H) (hσ : pPP G h0 ad adS adR adT adL σ w) (res : Int32) (hr0 : A_PP_same σ r s2 = res) : MRi l y_PP_same w_PP_same 2 42 G [.ref h0, .int r, .int s2] H res := by
  refine Met.ofW (cc := b_PP_same) (maxL := 3) (ret := (some .int)) (by decide) rfl ?_
  intro p e s m args below meth c s₁ B hml hv
  obtain ⟨rfl, rfl, hK⟩ := hv
  have hx := B.exec
  have hb := B.bytes
  have hr := B.returns
  have hts0 := atoms_spec (ws := w_PP_same) B.pre
  have hts := fun w (h : w ∈ lw_g) => hts0 w (List.mem_cons_of_mem _ h)
  have hown : s.vm.findClass RPP = some m.cls := findClass_of_methodNamed B.named
  have hlocks := B.notSynchronized
  have hσ0 := hσ
  obtain ⟨w1, w3, w5, w7, rfl, h2, h4, h6, h8⟩ := hσ
  have hP := hP0
  obtain ⟨A, hAe⟩ : ∃ A : Nat → Prop, A = fun _ => False := ⟨_, rfl⟩
  rw [← hAe]
  have hS : va_S A s.heap s.heap [] := va_S.rf
  have hl := lv_entry ([.ref h0, .int r, .int s2]) (n := 3) (Nat.le_of_ble_eq_true rfl)
  rw [lg_entry_eq]
  generalize (lg_sl ([.ref h0, .int r, .int s2]) ++ List.replicate (3 - (lg_sl ([.ref h0, .int r, .int s2])).length) Slot.unset).toArray = ls at hl ⊢
  have hl : lv_has ls 3 [(0, .ref h0), (1, .int r), (2, .int s2)] := hl
  unfold A_PP_same at hr0
  refine lv_aload_n hx hb d_PP_same_0 rfl (lv_at hl 0 rfl) ?_
  refine va_get (D := G.1) (ci := 5) (v := .ref (ad 1)) (C := RPP) (T := TPP) (N := 5) hx hb hts inPP hown hK hP 0 rfl rfl 1 (by decide) (hts _ fl_PP_19) (fun _ h9 => h9) rfl d_PP_same_1 ?_
  refine lv_iload_n hx hb d_PP_same_4 rfl (lv_at hl 1 rfl) ?_
  refine rdV (G := G) (As := [.int r]) (rest := []) (C := RRW) ⟨hx, hb, hml, hown, hts⟩ (c_RW_has l G (ad 1) adR (gPP_rows σ) r _ _ (bk_gP (k := 2) hP rfl) h4 _ rfl) (cwV 1 hts (gd_V ml_PP_84 im_RW_has sl_RW_has ini_RW k_RW_has) rfl rmK_c rmK_s (by decide +kernel) ⟨Nat.le_of_ble_eq_true rfl, Nat.le_of_ble_eq_true rfl⟩) hK (pRW_recv hK (bk_gP (k := 2) hP rfl) h4) hS ⟨Nat.le_refl _, Nat.le_refl _⟩ rfl hl.1 (Nat.le_of_ble_eq_true rfl) d_PP_same_5 (fun locs hS => ?_)
  refine lv_if_eq (tgt := 22) hx hb d_PP_same_8 (by decide) (fun c9 => ?_) (fun c9 => ?_)
  · have hr0 := ai_pos c9 hr0
    refine lv_iconst (v := (-1)) hx hb d_PP_same_22 (by decide) ?_
    exact W.iret (v := (-1)) hx hb hr (fun t ht hW => ⟨⟨(-1), (), rfl, hr0, ht⟩, hS.F ht⟩) hS.2.2 d_PP_same_23
  · have hr0 := ai_neg c9 hr0
    refine lv_aload_n hx hb d_PP_same_11 rfl (lv_at hl 0 rfl) ?_
    refine va_get (D := G.1) (ci := 5) (v := .ref (ad 1)) (C := RPP) (T := TPP) (N := 5) hx hb hts inPP hown hK hP 0 rfl rfl 1 (by decide) (hts _ fl_PP_19) (fun _ h9 => h9) rfl d_PP_same_12 ?_
    refine lv_iload_n hx hb d_PP_same_15 rfl (lv_at hl 2 rfl) ?_
    refine rdV (G := G) (As := [.int s2]) (rest := []) (C := RRW) ⟨hx, hb, hml, hown, hts⟩ (c_RW_has l G (ad 1) adR (gPP_rows σ) s2 _ _ (bk_gP (k := 2) hP rfl) h4 _ rfl) (cwV 1 hts (gd_V ml_PP_84 im_RW_has sl_RW_has ini_RW k_RW_has) rfl rmK_c rmK_s (by decide +kernel) ⟨Nat.le_of_ble_eq_true rfl, Nat.le_of_ble_eq_true rfl⟩) hK (pRW_recv hK (bk_gP (k := 2) hP rfl) h4) hS ⟨Nat.le_refl _, Nat.le_refl _⟩ rfl hl.1 (Nat.le_of_ble_eq_true rfl) d_PP_same_16 (fun locs hS => ?_)
    refine lv_if_ne (tgt := 24) hx hb d_PP_same_19 (by decide) (fun c10 => ?_) (fun c10 => ?_)
    · have hr0 := ai_neg c10 hr0
      refine lv_aload_n hx hb d_PP_same_24 rfl (lv_at hl 0 rfl) ?_
      refine va_get (D := G.1) (ci := 5) (v := .ref (ad 1)) (C := RPP) (T := TPP) (N := 5) hx hb hts inPP hown hK hP 0 rfl rfl 1 (by decide) (hts _ fl_PP_19) (fun _ h9 => h9) rfl d_PP_same_25 ?_
      refine lv_iload_n hx hb d_PP_same_28 rfl (lv_at hl 1 rfl) ?_
      refine rdV (G := G) (As := [.int r]) (rest := []) (C := RRW) ⟨hx, hb, hml, hown, hts⟩ (c_RW_kindOf l G (ad 1) adR (gPP_rows σ) r _ _ (bk_gP (k := 2) hP rfl) h4 _ rfl) (cwV 1 hts (gd_V ml_PP_99 im_RW_kindOf sl_RW_kindOf ini_RW k_RW_kindOf) rfl rmK_c rmK_s (by decide +kernel) ⟨Nat.le_of_ble_eq_true rfl, Nat.le_of_ble_eq_true rfl⟩) hK (pRW_recv hK (bk_gP (k := 2) hP rfl) h4) hS ⟨Nat.le_refl _, Nat.le_refl _⟩ rfl hl.1 (Nat.le_of_ble_eq_true rfl) d_PP_same_29 (fun locs hS => ?_)
      refine lv_aload_n hx hb d_PP_same_32 rfl (lv_at hl 0 rfl) ?_
      refine va_get (D := G.1) (ci := 5) (v := .ref (ad 1)) (C := RPP) (T := TPP) (N := 5) hx hb hts inPP hown hK hP 0 rfl rfl 1 (by decide) (hts _ fl_PP_19) (fun _ h9 => h9) rfl d_PP_same_33 ?_
      refine lv_iload_n hx hb d_PP_same_36 rfl (lv_at hl 2 rfl) ?_
      refine rdV (G := G) (As := [.int s2]) (rest := [.int (A_RW_kindOf (gPP_rows σ) r)]) (C := RRW) ⟨hx, hb, hml, hown, hts⟩ (c_RW_kindOf l G (ad 1) adR (gPP_rows σ) s2 _ _ (bk_gP (k := 2) hP rfl) h4 _ rfl) (cwV 1 hts (gd_V ml_PP_99 im_RW_kindOf sl_RW_kindOf ini_RW k_RW_kindOf) rfl rmK_c rmK_s (by decide +kernel) ⟨Nat.le_of_ble_eq_true rfl, Nat.le_of_ble_eq_true rfl⟩) hK (pRW_recv hK (bk_gP (k := 2) hP rfl) h4) hS ⟨Nat.le_refl _, Nat.le_refl _⟩ rfl hl.1 (Nat.le_of_ble_eq_true rfl) d_PP_same_37 (fun locs hS => ?_)
      refine lv_icmp_ne (tgt := 47) hx hb d_PP_same_40 (by decide) (fun c11 => ?_) (fun c11 => ?_)
      · have hr0 := ai_neg c11 hr0
        refine lv_iconst (v := 0) hx hb d_PP_same_47 (by decide) ?_
        exact W.iret (v := 0) hx hb hr (fun t ht hW => ⟨⟨0, (), rfl, hr0, ht⟩, hS.F ht⟩) hS.2.2 d_PP_same_48
      · have hr0 := ai_pos c11 hr0
        refine lv_iconst (v := 1) hx hb d_PP_same_43 (by decide) ?_
        refine lv_goto (tgt := 48) hx hb d_PP_same_44 (by decide) ?_
        exact W.iret (v := 1) hx hb hr (fun t ht hW => ⟨⟨1, (), rfl, hr0, ht⟩, hS.F ht⟩) hS.2.2 d_PP_same_48
    · have hr0 := ai_pos c10 hr0
      refine lv_iconst (v := (-1)) hx hb d_PP_same_22 (by decide) ?_
      exact W.iret (v := (-1)) hx hb hr (fun t ht hW => ⟨⟨(-1), (), rfl, hr0, ht⟩, hS.F ht⟩) hS.2.2 d_PP_same_23

def A_PP_step (σ : tPP) (k : Int32) : Int32 := A_TL_stepAt (gPP_telling σ) k
set_option maxHeartbeats 4000000 in
set_option maxRecDepth 100000 in
theorem c_PP_step (l : Launch) (G : pG) (h0 : Nat) (ad : Nat → Nat) (adS : Nat → Nat) (adR : Nat → Nat) (adT : Nat → Nat) (adL : Nat → Nat) (σ : tPP) (k : Int32) (H : Heap) (w : va_W) (hP0 : va_P G.1 vwCl w H) (hσ : pPP G h0 ad adS adR adT adL σ w) (res : Int32) (hr0 : A_PP_step σ k = res) : MRi l y_PP_step w_PP_step 2 42 G [.ref h0, .int k] H res := by
  refine Met.ofW (cc := b_PP_step) (maxL := 2) (ret := (some .int)) (by decide) rfl ?_
  intro p e s m args below meth c s₁ B hml hv
  obtain ⟨rfl, rfl, hK⟩ := hv
  have hx := B.exec
  have hb := B.bytes
  have hr := B.returns
  have hts0 := atoms_spec (ws := w_PP_step) B.pre
  have hts := fun w (h : w ∈ lw_g) => hts0 w (List.mem_cons_of_mem _ h)
  have hown : s.vm.findClass RPP = some m.cls := findClass_of_methodNamed B.named
  have hlocks := B.notSynchronized
  have hσ0 := hσ
  obtain ⟨w1, w3, w5, w7, rfl, h2, h4, h6, h8⟩ := hσ
  have hP := hP0
  obtain ⟨A, hAe⟩ : ∃ A : Nat → Prop, A = fun _ => False := ⟨_, rfl⟩
  rw [← hAe]
  have hS : va_S A s.heap s.heap [] := va_S.rf
  have hl := lv_entry ([.ref h0, .int k]) (n := 2) (Nat.le_of_ble_eq_true rfl)
  rw [lg_entry_eq]
  generalize (lg_sl ([.ref h0, .int k]) ++ List.replicate (2 - (lg_sl ([.ref h0, .int k])).length) Slot.unset).toArray = ls at hl ⊢
  have hl : lv_has ls 2 [(0, .ref h0), (1, .int k)] := hl
  unfold A_PP_step at hr0
  refine lv_aload_n hx hb d_PP_step_0 rfl (lv_at hl 0 rfl) ?_
  refine va_get (D := G.1) (ci := 5) (v := .ref (ad 2)) (C := RPP) (T := TPP) (N := 5) hx hb hts inPP hown hK hP 0 rfl rfl 2 (by decide) (hts _ fl_PP_28) (fun _ h9 => h9) rfl d_PP_step_1 ?_
  refine lv_iload_n hx hb d_PP_step_4 rfl (lv_at hl 1 rfl) ?_
  refine rdV (G := G) (As := [.int k]) (rest := []) (C := RTL) ⟨hx, hb, hml, hown, hts⟩ (c_TL_stepAt l G (ad 2) (ad 0) (ad 1) adT adL (gPP_telling σ) k _ _ (bk_gP (k := 3) hP rfl) h6 _ rfl) (cwV 1 hts (gd_V ml_PP_111 im_TL_stepAt sl_TL_stepAt ini_TL k_TL_stepAt) rfl rmK_c rmK_s (by decide +kernel) ⟨Nat.le_of_ble_eq_true rfl, Nat.le_of_ble_eq_true rfl⟩) hK (pTL_recv hK (bk_gP (k := 3) hP rfl) h6) hS ⟨Nat.le_refl _, Nat.le_refl _⟩ rfl hl.1 (Nat.le_of_ble_eq_true rfl) d_PP_step_5 (fun locs hS => ?_)
  exact W.iret (v := (A_TL_stepAt (gPP_telling σ) k)) hx hb hr (fun t ht hW => ⟨⟨(A_TL_stepAt (gPP_telling σ) k), (), rfl, hr0, ht⟩, hS.F ht⟩) hS.2.2 d_PP_step_8

def A_PP_saves (σ : tPP) (k : Int32) : Int32 := if k < 0 then (-1) else (if k < (A_TL_amountOfSteps (gPP_telling σ)) then (if (A_TL_isSavedAt (gPP_telling σ) k) = 0 then 0 else 1) else (-1))
set_option maxHeartbeats 4000000 in
set_option maxRecDepth 100000 in
theorem c_PP_saves (l : Launch) (G : pG) (h0 : Nat) (ad : Nat → Nat) (adS : Nat → Nat) (adR : Nat → Nat) (adT : Nat → Nat) (adL : Nat → Nat) (σ : tPP) (k : Int32) (H : Heap) (w : va_W) (hP0 : va_P G.1 vwCl w H) (hσ : pPP G h0 ad adS adR adT adL σ w) (res : Int32) (hr0 : A_PP_saves σ k = res) : MRi l y_PP_saves w_PP_saves 2 42 G [.ref h0, .int k] H res := by
  refine Met.ofW (cc := b_PP_saves) (maxL := 2) (ret := (some .int)) (by decide) rfl ?_
  intro p e s m args below meth c s₁ B hml hv
  obtain ⟨rfl, rfl, hK⟩ := hv
  have hx := B.exec
  have hb := B.bytes
  have hr := B.returns
  have hts0 := atoms_spec (ws := w_PP_saves) B.pre
  have hts := fun w (h : w ∈ lw_g) => hts0 w (List.mem_cons_of_mem _ h)
  have hown : s.vm.findClass RPP = some m.cls := findClass_of_methodNamed B.named
  have hlocks := B.notSynchronized
  have hσ0 := hσ
  obtain ⟨w1, w3, w5, w7, rfl, h2, h4, h6, h8⟩ := hσ
  have hP := hP0
  obtain ⟨A, hAe⟩ : ∃ A : Nat → Prop, A = fun _ => False := ⟨_, rfl⟩
  rw [← hAe]
  have hS : va_S A s.heap s.heap [] := va_S.rf
  have hl := lv_entry ([.ref h0, .int k]) (n := 2) (Nat.le_of_ble_eq_true rfl)
  rw [lg_entry_eq]
  generalize (lg_sl ([.ref h0, .int k]) ++ List.replicate (2 - (lg_sl ([.ref h0, .int k])).length) Slot.unset).toArray = ls at hl ⊢
  have hl : lv_has ls 2 [(0, .ref h0), (1, .int k)] := hl
  unfold A_PP_saves at hr0
  refine lv_iload_n hx hb d_PP_saves_0 rfl (lv_at hl 1 rfl) ?_
  refine lv_if_lt (tgt := 15) hx hb d_PP_saves_1 (by decide) (fun c9 => ?_) (fun c9 => ?_)
  · have hr0 := ai_pos c9 hr0
    refine lv_iconst (v := (-1)) hx hb d_PP_saves_15 (by decide) ?_
    exact W.iret (v := (-1)) hx hb hr (fun t ht hW => ⟨⟨(-1), (), rfl, hr0, ht⟩, hS.F ht⟩) hS.2.2 d_PP_saves_16
  · have hr0 := ai_neg c9 hr0
    refine lv_iload_n hx hb d_PP_saves_4 rfl (lv_at hl 1 rfl) ?_
    refine lv_aload_n hx hb d_PP_saves_5 rfl (lv_at hl 0 rfl) ?_
    refine va_get (D := G.1) (ci := 5) (v := .ref (ad 2)) (C := RPP) (T := TPP) (N := 5) hx hb hts inPP hown hK hP 0 rfl rfl 2 (by decide) (hts _ fl_PP_28) (fun _ h9 => h9) rfl d_PP_saves_6 ?_
    refine rdV (G := G) (As := []) (rest := [.int k]) (C := RTL) ⟨hx, hb, hml, hown, hts⟩ (c_TL_amountOfSteps l G (ad 2) (ad 0) (ad 1) adT adL (gPP_telling σ) _ _ (bk_gP (k := 3) hP rfl) h6 _ rfl) (cwV 0 hts (gd_V ml_PP_108 im_TL_amountOfSteps sl_TL_amountOfSteps ini_TL k_TL_amountOfSteps) rfl rmK_c rmK_s (by decide +kernel) ⟨Nat.le_of_ble_eq_true rfl, Nat.le_of_ble_eq_true rfl⟩) hK (pTL_recv hK (bk_gP (k := 3) hP rfl) h6) hS ⟨Nat.le_refl _, Nat.le_refl _⟩ rfl hl.1 (Nat.le_of_ble_eq_true rfl) d_PP_saves_9 (fun locs hS => ?_)
    refine lv_icmp_lt (tgt := 17) hx hb d_PP_saves_12 (by decide) (fun c10 => ?_) (fun c10 => ?_)
    · have hr0 := ai_pos c10 hr0
      refine lv_aload_n hx hb d_PP_saves_17 rfl (lv_at hl 0 rfl) ?_
      refine va_get (D := G.1) (ci := 5) (v := .ref (ad 2)) (C := RPP) (T := TPP) (N := 5) hx hb hts inPP hown hK hP 0 rfl rfl 2 (by decide) (hts _ fl_PP_28) (fun _ h9 => h9) rfl d_PP_saves_18 ?_
      refine lv_iload_n hx hb d_PP_saves_21 rfl (lv_at hl 1 rfl) ?_
      refine rdV (G := G) (As := [.int k]) (rest := []) (C := RTL) ⟨hx, hb, hml, hown, hts⟩ (c_TL_isSavedAt l G (ad 2) (ad 0) (ad 1) adT adL (gPP_telling σ) k _ _ (bk_gP (k := 3) hP rfl) h6 _ rfl) (cwV 1 hts (gd_V ml_PP_114 im_TL_isSavedAt sl_TL_isSavedAt ini_TL k_TL_isSavedAt) rfl rmK_c rmK_s (by decide +kernel) ⟨Nat.le_of_ble_eq_true rfl, Nat.le_of_ble_eq_true rfl⟩) hK (pTL_recv hK (bk_gP (k := 3) hP rfl) h6) hS ⟨Nat.le_refl _, Nat.le_refl _⟩ rfl hl.1 (Nat.le_of_ble_eq_true rfl) d_PP_saves_22 (fun locs hS => ?_)
      refine lv_if_eq (tgt := 32) hx hb d_PP_saves_25 (by decide) (fun c11 => ?_) (fun c11 => ?_)
      · have hr0 := ai_pos c11 hr0
        refine lv_iconst (v := 0) hx hb d_PP_saves_32 (by decide) ?_
        exact W.iret (v := 0) hx hb hr (fun t ht hW => ⟨⟨0, (), rfl, hr0, ht⟩, hS.F ht⟩) hS.2.2 d_PP_saves_33
      · have hr0 := ai_neg c11 hr0
        refine lv_iconst (v := 1) hx hb d_PP_saves_28 (by decide) ?_
        refine lv_goto (tgt := 33) hx hb d_PP_saves_29 (by decide) ?_
        exact W.iret (v := 1) hx hb hr (fun t ht hW => ⟨⟨1, (), rfl, hr0, ht⟩, hS.F ht⟩) hS.2.2 d_PP_saves_33
    · have hr0 := ai_neg c10 hr0
      refine lv_iconst (v := (-1)) hx hb d_PP_saves_15 (by decide) ?_
      exact W.iret (v := (-1)) hx hb hr (fun t ht hW => ⟨⟨(-1), (), rfl, hr0, ht⟩, hS.F ht⟩) hS.2.2 d_PP_saves_16

def A_PP_label (σ : tPP) (k : Int32) : Int32 := A_TL_labelAt (gPP_telling σ) k
set_option maxHeartbeats 4000000 in
set_option maxRecDepth 100000 in
theorem c_PP_label (l : Launch) (G : pG) (h0 : Nat) (ad : Nat → Nat) (adS : Nat → Nat) (adR : Nat → Nat) (adT : Nat → Nat) (adL : Nat → Nat) (σ : tPP) (k : Int32) (H : Heap) (w : va_W) (hP0 : va_P G.1 vwCl w H) (hσ : pPP G h0 ad adS adR adT adL σ w) (res : Int32) (hr0 : A_PP_label σ k = res) : MRi l y_PP_label w_PP_label 2 42 G [.ref h0, .int k] H res := by
  refine Met.ofW (cc := b_PP_label) (maxL := 2) (ret := (some .int)) (by decide) rfl ?_
  intro p e s m args below meth c s₁ B hml hv
  obtain ⟨rfl, rfl, hK⟩ := hv
  have hx := B.exec
  have hb := B.bytes
  have hr := B.returns
  have hts0 := atoms_spec (ws := w_PP_label) B.pre
  have hts := fun w (h : w ∈ lw_g) => hts0 w (List.mem_cons_of_mem _ h)
  have hown : s.vm.findClass RPP = some m.cls := findClass_of_methodNamed B.named
  have hlocks := B.notSynchronized
  have hσ0 := hσ
  obtain ⟨w1, w3, w5, w7, rfl, h2, h4, h6, h8⟩ := hσ
  have hP := hP0
  obtain ⟨A, hAe⟩ : ∃ A : Nat → Prop, A = fun _ => False := ⟨_, rfl⟩
  rw [← hAe]
  have hS : va_S A s.heap s.heap [] := va_S.rf
  have hl := lv_entry ([.ref h0, .int k]) (n := 2) (Nat.le_of_ble_eq_true rfl)
  rw [lg_entry_eq]
  generalize (lg_sl ([.ref h0, .int k]) ++ List.replicate (2 - (lg_sl ([.ref h0, .int k])).length) Slot.unset).toArray = ls at hl ⊢
  have hl : lv_has ls 2 [(0, .ref h0), (1, .int k)] := hl
  unfold A_PP_label at hr0
  refine lv_aload_n hx hb d_PP_label_0 rfl (lv_at hl 0 rfl) ?_
  refine va_get (D := G.1) (ci := 5) (v := .ref (ad 2)) (C := RPP) (T := TPP) (N := 5) hx hb hts inPP hown hK hP 0 rfl rfl 2 (by decide) (hts _ fl_PP_28) (fun _ h9 => h9) rfl d_PP_label_1 ?_
  refine lv_iload_n hx hb d_PP_label_4 rfl (lv_at hl 1 rfl) ?_
  refine rdV (G := G) (As := [.int k]) (rest := []) (C := RTL) ⟨hx, hb, hml, hown, hts⟩ (c_TL_labelAt l G (ad 2) (ad 0) (ad 1) adT adL (gPP_telling σ) k _ _ (bk_gP (k := 3) hP rfl) h6 _ rfl) (cwV 1 hts (gd_V ml_PP_117 im_TL_labelAt sl_TL_labelAt ini_TL k_TL_labelAt) rfl rmK_c rmK_s (by decide +kernel) ⟨Nat.le_of_ble_eq_true rfl, Nat.le_of_ble_eq_true rfl⟩) hK (pTL_recv hK (bk_gP (k := 3) hP rfl) h6) hS ⟨Nat.le_refl _, Nat.le_refl _⟩ rfl hl.1 (Nat.le_of_ble_eq_true rfl) d_PP_label_5 (fun locs hS => ?_)
  exact W.iret (v := (A_TL_labelAt (gPP_telling σ) k)) hx hb hr (fun t ht hW => ⟨⟨(A_TL_labelAt (gPP_telling σ) k), (), rfl, hr0, ht⟩, hS.F ht⟩) hS.2.2 d_PP_label_8

def A_PP_letter (σ : tPP) (k : Int32) : Int32 := A_TL_letterAt (gPP_telling σ) k
set_option maxHeartbeats 4000000 in
set_option maxRecDepth 100000 in
theorem c_PP_letter (l : Launch) (G : pG) (h0 : Nat) (ad : Nat → Nat) (adS : Nat → Nat) (adR : Nat → Nat) (adT : Nat → Nat) (adL : Nat → Nat) (σ : tPP) (k : Int32) (H : Heap) (w : va_W) (hP0 : va_P G.1 vwCl w H) (hσ : pPP G h0 ad adS adR adT adL σ w) (res : Int32) (hr0 : A_PP_letter σ k = res) : MRi l y_PP_letter w_PP_letter 3 63 G [.ref h0, .int k] H res := by
  refine Met.ofW (cc := b_PP_letter) (maxL := 2) (ret := (some .int)) (by decide) rfl ?_
  intro p e s m args below meth c s₁ B hml hv
  obtain ⟨rfl, rfl, hK⟩ := hv
  have hx := B.exec
  have hb := B.bytes
  have hr := B.returns
  have hts0 := atoms_spec (ws := w_PP_letter) B.pre
  have hts := fun w (h : w ∈ lw_g) => hts0 w (List.mem_cons_of_mem _ h)
  have hown : s.vm.findClass RPP = some m.cls := findClass_of_methodNamed B.named
  have hlocks := B.notSynchronized
  have hσ0 := hσ
  obtain ⟨w1, w3, w5, w7, rfl, h2, h4, h6, h8⟩ := hσ
  have hP := hP0
  obtain ⟨A, hAe⟩ : ∃ A : Nat → Prop, A = fun _ => False := ⟨_, rfl⟩
  rw [← hAe]
  have hS : va_S A s.heap s.heap [] := va_S.rf
  have hl := lv_entry ([.ref h0, .int k]) (n := 2) (Nat.le_of_ble_eq_true rfl)
  rw [lg_entry_eq]
  generalize (lg_sl ([.ref h0, .int k]) ++ List.replicate (2 - (lg_sl ([.ref h0, .int k])).length) Slot.unset).toArray = ls at hl ⊢
  have hl : lv_has ls 2 [(0, .ref h0), (1, .int k)] := hl
  unfold A_PP_letter at hr0
  refine lv_aload_n hx hb d_PP_letter_0 rfl (lv_at hl 0 rfl) ?_
  refine va_get (D := G.1) (ci := 5) (v := .ref (ad 2)) (C := RPP) (T := TPP) (N := 5) hx hb hts inPP hown hK hP 0 rfl rfl 2 (by decide) (hts _ fl_PP_28) (fun _ h9 => h9) rfl d_PP_letter_1 ?_
  refine lv_iload_n hx hb d_PP_letter_4 rfl (lv_at hl 1 rfl) ?_
  refine rdV (G := G) (As := [.int k]) (rest := []) (C := RTL) ⟨hx, hb, hml, hown, hts⟩ (c_TL_letterAt l G (ad 2) (ad 0) (ad 1) adT adL (gPP_telling σ) k _ _ (bk_gP (k := 3) hP rfl) h6 _ rfl) (cwV 1 hts (gd_V ml_PP_129 im_TL_letterAt sl_TL_letterAt ini_TL k_TL_letterAt) rfl rmK_c rmK_s (by decide +kernel) ⟨Nat.le_of_ble_eq_true rfl, Nat.le_of_ble_eq_true rfl⟩) hK (pTL_recv hK (bk_gP (k := 3) hP rfl) h6) hS ⟨Nat.le_refl _, Nat.le_refl _⟩ rfl hl.1 (Nat.le_of_ble_eq_true rfl) d_PP_letter_5 (fun locs hS => ?_)
  exact W.iret (v := (A_TL_letterAt (gPP_telling σ) k)) hx hb hr (fun t ht hW => ⟨⟨(A_TL_letterAt (gPP_telling σ) k), (), rfl, hr0, ht⟩, hS.F ht⟩) hS.2.2 d_PP_letter_8

def A_PP_size (σ : tPP) (r : Int32) : Int64 := if (A_RW_has (gPP_rows σ) r) = 0 then (-1) else (if (lg_cmp (A_RW_stepsInFull (gPP_rows σ) r) 1000000000000000000) ≤ 0 then (A_RW_stepsInFull (gPP_rows σ) r) else (-2))
set_option maxHeartbeats 4000000 in
set_option maxRecDepth 100000 in
theorem c_PP_size (l : Launch) (G : pG) (h0 : Nat) (ad : Nat → Nat) (adS : Nat → Nat) (adR : Nat → Nat) (adT : Nat → Nat) (adL : Nat → Nat) (σ : tPP) (r : Int32) (H : Heap) (w : va_W) (hP0 : va_P G.1 vwCl w H) (hσ : pPP G h0 ad adS adR adT adL σ w) (res : Int64) (hr0 : A_PP_size σ r = res) : MRl l y_PP_size w_PP_size 3 62 G [.ref h0, .int r] H res := by
  refine Met.ofW (cc := b_PP_size) (maxL := 4) (ret := (some .long)) (by decide) rfl ?_
  intro p e s m args below meth c s₁ B hml hv
  obtain ⟨rfl, rfl, hK⟩ := hv
  have hx := B.exec
  have hb := B.bytes
  have hr := B.returns
  have hts0 := atoms_spec (ws := w_PP_size) B.pre
  have hts := fun w (h : w ∈ lw_g) => hts0 w (List.mem_cons_of_mem _ h)
  have hown : s.vm.findClass RPP = some m.cls := findClass_of_methodNamed B.named
  have hlocks := B.notSynchronized
  have hσ0 := hσ
  obtain ⟨w1, w3, w5, w7, rfl, h2, h4, h6, h8⟩ := hσ
  have hP := hP0
  obtain ⟨A, hAe⟩ : ∃ A : Nat → Prop, A = fun _ => False := ⟨_, rfl⟩
  rw [← hAe]
  have hS : va_S A s.heap s.heap [] := va_S.rf
  have hl := lv_entry ([.ref h0, .int r]) (n := 4) (Nat.le_of_ble_eq_true rfl)
  rw [lg_entry_eq]
  generalize (lg_sl ([.ref h0, .int r]) ++ List.replicate (4 - (lg_sl ([.ref h0, .int r])).length) Slot.unset).toArray = ls at hl ⊢
  have hl : lv_has ls 4 [(0, .ref h0), (1, .int r)] := hl
  unfold A_PP_size at hr0
  refine lv_aload_n hx hb d_PP_size_0 rfl (lv_at hl 0 rfl) ?_
  refine va_get (D := G.1) (ci := 5) (v := .ref (ad 1)) (C := RPP) (T := TPP) (N := 5) hx hb hts inPP hown hK hP 0 rfl rfl 1 (by decide) (hts _ fl_PP_19) (fun _ h9 => h9) rfl d_PP_size_1 ?_
  refine lv_iload_n hx hb d_PP_size_4 rfl (lv_at hl 1 rfl) ?_
  refine rdV (G := G) (As := [.int r]) (rest := []) (C := RRW) ⟨hx, hb, hml, hown, hts⟩ (c_RW_has l G (ad 1) adR (gPP_rows σ) r _ _ (bk_gP (k := 2) hP rfl) h4 _ rfl) (cwV 1 hts (gd_V ml_PP_84 im_RW_has sl_RW_has ini_RW k_RW_has) rfl rmK_c rmK_s (by decide +kernel) ⟨Nat.le_of_ble_eq_true rfl, Nat.le_of_ble_eq_true rfl⟩) hK (pRW_recv hK (bk_gP (k := 2) hP rfl) h4) hS ⟨Nat.le_refl _, Nat.le_refl _⟩ rfl hl.1 (Nat.le_of_ble_eq_true rfl) d_PP_size_5 (fun locs hS => ?_)
  refine lv_if_ne (tgt := 15) hx hb d_PP_size_8 (by decide) (fun c9 => ?_) (fun c9 => ?_)
  · have hr0 := ai_neg c9 hr0
    refine lv_aload_n hx hb d_PP_size_15 rfl (lv_at hl 0 rfl) ?_
    refine va_get (D := G.1) (ci := 5) (v := .ref (ad 1)) (C := RPP) (T := TPP) (N := 5) hx hb hts inPP hown hK hP 0 rfl rfl 1 (by decide) (hts _ fl_PP_19) (fun _ h9 => h9) rfl d_PP_size_16 ?_
    refine lv_iload_n hx hb d_PP_size_19 rfl (lv_at hl 1 rfl) ?_
    refine rdVl (G := G) (As := [.int r]) (rest := []) (C := RRW) ⟨hx, hb, hml, hown, hts⟩ (c_RW_stepsInFull l G (ad 1) adR (gPP_rows σ) r _ _ (bk_gP (k := 2) hP rfl) h4 _ rfl) (cwV 1 hts (gd_V ml_PP_134 im_RW_stepsInFull sl_RW_stepsInFull ini_RW k_RW_stepsInFull) rfl rmK_c rmK_s (by decide +kernel) ⟨Nat.le_of_ble_eq_true rfl, Nat.le_of_ble_eq_true rfl⟩) hK (pRW_recv hK (bk_gP (k := 2) hP rfl) h4) hS ⟨Nat.le_refl _, Nat.le_refl _⟩ rfl hl.1 (Nat.le_of_ble_eq_true rfl) d_PP_size_20 (fun locs hS => ?_)
    refine lv_lstore_n (lv' := [(2, .long (A_RW_stepsInFull (gPP_rows σ) r)), (0, .ref h0), (1, .int r)]) hx hb d_PP_size_23 rfl hl (by decide) rfl (fun ls hl => ?_)
    refine lv_lload_n hx hb d_PP_size_24 rfl (lv_at hl 0 rfl) ?_
    refine lv_ldc2 (v := 1000000000000000000) hx hb hown (hts _ cl2_PP_138) d_PP_size_25 ?_
    refine W.lcmp hx hb d_PP_size_28 ?_
    refine lv_if_le (tgt := 38) hx hb d_PP_size_29 (by decide) (fun c10 => ?_) (fun c10 => ?_)
    · have hr0 := ai_pos c10 hr0
      refine lv_lload_n hx hb d_PP_size_38 rfl (lv_at hl 0 rfl) ?_
      exact W.lret (v := (A_RW_stepsInFull (gPP_rows σ) r)) hx hb hr (fun t ht hW => ⟨⟨(A_RW_stepsInFull (gPP_rows σ) r), (), rfl, hr0, ht⟩, hS.F ht⟩) hS.2.2 d_PP_size_39
    · have hr0 := ai_neg c10 hr0
      refine lv_ldc2 (v := (-2)) hx hb hown (hts _ cl2_PP_140) d_PP_size_32 ?_
      refine lv_goto (tgt := 39) hx hb d_PP_size_35 (by decide) ?_
      exact W.lret (v := (-2)) hx hb hr (fun t ht hW => ⟨⟨(-2), (), rfl, hr0, ht⟩, hS.F ht⟩) hS.2.2 d_PP_size_39
  · have hr0 := ai_pos c9 hr0
    refine lv_ldc2 (v := (-1)) hx hb hown (hts _ cl2_PP_132) d_PP_size_11 ?_
    exact W.lret (v := (-1)) hx hb hr (fun t ht hW => ⟨⟨(-1), (), rfl, hr0, ht⟩, hS.F ht⟩) hS.2.2 d_PP_size_14

def A_PP_full (σ : tPP) (r : Int32) (k : Int32) : Int32 := if 0 < (lg_cmp (A_RW_stepsInFull (gPP_rows σ) r) 4000) then (-1) else (if k < 0 then (-1) else (if (lg_cmp k.toInt64 (A_RW_stepsInFull (gPP_rows σ) r)) < 0 then (A_RW_statementInFull (gPP_rows σ) r k) else (-1)))
set_option maxHeartbeats 4000000 in
set_option maxRecDepth 100000 in
theorem c_PP_full (l : Launch) (G : pG) (h0 : Nat) (ad : Nat → Nat) (adS : Nat → Nat) (adR : Nat → Nat) (adT : Nat → Nat) (adL : Nat → Nat) (σ : tPP) (r : Int32) (k : Int32) (H : Heap) (w : va_W) (hP0 : va_P G.1 vwCl w H) (hσ : pPP G h0 ad adS adR adT adL σ w) (res : Int32) (hr0 : A_PP_full σ r k = res) : MRi l y_PP_full w_PP_full 5 111 G [.ref h0, .int r, .int k] H res := by
  refine Met.ofW (cc := b_PP_full) (maxL := 5) (ret := (some .int)) (by decide) rfl ?_
  intro p e s m args below meth c s₁ B hml hv
  obtain ⟨rfl, rfl, hK⟩ := hv
  have hx := B.exec
  have hb := B.bytes
  have hr := B.returns
  have hts0 := atoms_spec (ws := w_PP_full) B.pre
  have hts := fun w (h : w ∈ lw_g) => hts0 w (List.mem_cons_of_mem _ h)
  have hown : s.vm.findClass RPP = some m.cls := findClass_of_methodNamed B.named
  have hlocks := B.notSynchronized
  have hσ0 := hσ
  obtain ⟨w1, w3, w5, w7, rfl, h2, h4, h6, h8⟩ := hσ
  have hP := hP0
  obtain ⟨A, hAe⟩ : ∃ A : Nat → Prop, A = fun _ => False := ⟨_, rfl⟩
  rw [← hAe]
  have hS : va_S A s.heap s.heap [] := va_S.rf
  have hl := lv_entry ([.ref h0, .int r, .int k]) (n := 5) (Nat.le_of_ble_eq_true rfl)
  rw [lg_entry_eq]
  generalize (lg_sl ([.ref h0, .int r, .int k]) ++ List.replicate (5 - (lg_sl ([.ref h0, .int r, .int k])).length) Slot.unset).toArray = ls at hl ⊢
  have hl : lv_has ls 5 [(0, .ref h0), (1, .int r), (2, .int k)] := hl
  unfold A_PP_full at hr0
  refine lv_aload_n hx hb d_PP_full_0 rfl (lv_at hl 0 rfl) ?_
  refine va_get (D := G.1) (ci := 5) (v := .ref (ad 1)) (C := RPP) (T := TPP) (N := 5) hx hb hts inPP hown hK hP 0 rfl rfl 1 (by decide) (hts _ fl_PP_19) (fun _ h9 => h9) rfl d_PP_full_1 ?_
  refine lv_iload_n hx hb d_PP_full_4 rfl (lv_at hl 1 rfl) ?_
  refine rdVl (G := G) (As := [.int r]) (rest := []) (C := RRW) ⟨hx, hb, hml, hown, hts⟩ (c_RW_stepsInFull l G (ad 1) adR (gPP_rows σ) r _ _ (bk_gP (k := 2) hP rfl) h4 _ rfl) (cwV 1 hts (gd_V ml_PP_134 im_RW_stepsInFull sl_RW_stepsInFull ini_RW k_RW_stepsInFull) rfl rmK_c rmK_s (by decide +kernel) ⟨Nat.le_of_ble_eq_true rfl, Nat.le_of_ble_eq_true rfl⟩) hK (pRW_recv hK (bk_gP (k := 2) hP rfl) h4) hS ⟨Nat.le_refl _, Nat.le_refl _⟩ rfl hl.1 (Nat.le_of_ble_eq_true rfl) d_PP_full_5 (fun locs hS => ?_)
  refine lv_lstore_n (lv' := [(3, .long (A_RW_stepsInFull (gPP_rows σ) r)), (0, .ref h0), (1, .int r), (2, .int k)]) hx hb d_PP_full_8 rfl hl (by decide) rfl (fun ls hl => ?_)
  refine lv_lload_n hx hb d_PP_full_9 rfl (lv_at hl 0 rfl) ?_
  refine lv_ldc2 (v := 4000) hx hb hown (hts _ cl2_PP_142) d_PP_full_10 ?_
  refine W.lcmp hx hb d_PP_full_13 ?_
  refine lv_if_gt (tgt := 28) hx hb d_PP_full_14 (by decide) (fun c9 => ?_) (fun c9 => ?_)
  · have hr0 := ai_pos c9 hr0
    refine lv_iconst (v := (-1)) hx hb d_PP_full_28 (by decide) ?_
    exact W.iret (v := (-1)) hx hb hr (fun t ht hW => ⟨⟨(-1), (), rfl, hr0, ht⟩, hS.F ht⟩) hS.2.2 d_PP_full_29
  · have hr0 := ai_neg c9 hr0
    refine lv_iload_n hx hb d_PP_full_17 rfl (lv_at hl 3 rfl) ?_
    refine lv_if_lt (tgt := 28) hx hb d_PP_full_18 (by decide) (fun c10 => ?_) (fun c10 => ?_)
    · have hr0 := ai_pos c10 hr0
      refine lv_iconst (v := (-1)) hx hb d_PP_full_28 (by decide) ?_
      exact W.iret (v := (-1)) hx hb hr (fun t ht hW => ⟨⟨(-1), (), rfl, hr0, ht⟩, hS.F ht⟩) hS.2.2 d_PP_full_29
    · have hr0 := ai_neg c10 hr0
      refine lv_iload_n hx hb d_PP_full_21 rfl (lv_at hl 3 rfl) ?_
      refine lv_i2l (v := k.toInt64) hx hb d_PP_full_22 rfl ?_
      refine lv_lload_n hx hb d_PP_full_23 rfl (lv_at hl 0 rfl) ?_
      refine W.lcmp hx hb d_PP_full_24 ?_
      refine lv_if_lt (tgt := 30) hx hb d_PP_full_25 (by decide) (fun c11 => ?_) (fun c11 => ?_)
      · have hr0 := ai_pos c11 hr0
        refine lv_aload_n hx hb d_PP_full_30 rfl (lv_at hl 1 rfl) ?_
        refine va_get (D := G.1) (ci := 5) (v := .ref (ad 1)) (C := RPP) (T := TPP) (N := 5) hx hb hts inPP hown hK hP 0 rfl rfl 1 (by decide) (hts _ fl_PP_19) (fun _ h9 => h9) rfl d_PP_full_31 ?_
        refine lv_iload_n hx hb d_PP_full_34 rfl (lv_at hl 2 rfl) ?_
        refine lv_iload_n hx hb d_PP_full_35 rfl (lv_at hl 3 rfl) ?_
        refine rdV (G := G) (As := [.int r, .int k]) (rest := []) (C := RRW) ⟨hx, hb, hml, hown, hts⟩ (c_RW_statementInFull l G (ad 1) adR (gPP_rows σ) r k _ _ (bk_gP (k := 2) hP rfl) h4 _ rfl) (cwV 2 hts (gd_V ml_PP_144 im_RW_statementInFull sl_RW_statementInFull ini_RW k_RW_statementInFull) rfl rmK_c rmK_s (by decide +kernel) ⟨Nat.le_of_ble_eq_true rfl, Nat.le_of_ble_eq_true rfl⟩) hK (pRW_recv hK (bk_gP (k := 2) hP rfl) h4) hS ⟨Nat.le_refl _, Nat.le_refl _⟩ rfl hl.1 (Nat.le_of_ble_eq_true rfl) d_PP_full_36 (fun locs hS => ?_)
        exact W.iret (v := (A_RW_statementInFull (gPP_rows σ) r k)) hx hb hr (fun t ht hW => ⟨⟨(A_RW_statementInFull (gPP_rows σ) r k), (), rfl, hr0, ht⟩, hS.F ht⟩) hS.2.2 d_PP_full_39
      · have hr0 := ai_neg c11 hr0
        refine lv_iconst (v := (-1)) hx hb d_PP_full_28 (by decide) ?_
        exact W.iret (v := (-1)) hx hb hr (fun t ht hW => ⟨⟨(-1), (), rfl, hr0, ht⟩, hS.F ht⟩) hS.2.2 d_PP_full_29

def A_PP_count (σ : tPP) (what : Int32) : Int32 := if what = 0 then (A_ST_amount (gPP_statements σ)) else (if what = 1 then (A_ST_mandatories (gPP_statements σ)) else (if what = 2 then (A_RW_amount (gPP_rows σ)) else (if what = 3 then (A_IL_length (gPP_pile σ)) else (if what = 4 then (gPP_puts σ) else (if what = 5 then (A_RW_amountOfKinds (gPP_rows σ)) else (-1))))))
set_option maxHeartbeats 4000000 in
set_option maxRecDepth 100000 in
theorem c_PP_count (l : Launch) (G : pG) (h0 : Nat) (ad : Nat → Nat) (adS : Nat → Nat) (adR : Nat → Nat) (adT : Nat → Nat) (adL : Nat → Nat) (σ : tPP) (what : Int32) (H : Heap) (w : va_W) (hP0 : va_P G.1 vwCl w H) (hσ : pPP G h0 ad adS adR adT adL σ w) (res : Int32) (hr0 : A_PP_count σ what = res) : MRi l y_PP_count w_PP_count 2 40 G [.ref h0, .int what] H res := by
  refine Met.ofW (cc := b_PP_count) (maxL := 2) (ret := (some .int)) (by decide) rfl ?_
  intro p e s m args below meth c s₁ B hml hv
  obtain ⟨rfl, rfl, hK⟩ := hv
  have hx := B.exec
  have hb := B.bytes
  have hr := B.returns
  have hts0 := atoms_spec (ws := w_PP_count) B.pre
  have hts := fun w (h : w ∈ lw_g) => hts0 w (List.mem_cons_of_mem _ h)
  have hown : s.vm.findClass RPP = some m.cls := findClass_of_methodNamed B.named
  have hlocks := B.notSynchronized
  have hσ0 := hσ
  obtain ⟨w1, w3, w5, w7, rfl, h2, h4, h6, h8⟩ := hσ
  have hP := hP0
  obtain ⟨A, hAe⟩ : ∃ A : Nat → Prop, A = fun _ => False := ⟨_, rfl⟩
  rw [← hAe]
  have hS : va_S A s.heap s.heap [] := va_S.rf
  have hl := lv_entry ([.ref h0, .int what]) (n := 2) (Nat.le_of_ble_eq_true rfl)
  rw [lg_entry_eq]
  generalize (lg_sl ([.ref h0, .int what]) ++ List.replicate (2 - (lg_sl ([.ref h0, .int what])).length) Slot.unset).toArray = ls at hl ⊢
  have hl : lv_has ls 2 [(0, .ref h0), (1, .int what)] := hl
  unfold A_PP_count at hr0
  refine lv_iload_n hx hb d_PP_count_0 rfl (lv_at hl 1 rfl) ?_
  by_cases c9 : what = 0
  · have hr0 := ai_pos c9 hr0
    refine lv_tableIn (off := 39) (tgt := 40) hx hb d_PP_count_1 (by rw [c9]; decide) (by rw [c9]; decide) (by rw [c9]; rfl) (by decide) ?_
    refine lv_aload_n hx hb d_PP_count_40 rfl (lv_at hl 0 rfl) ?_
    refine va_get (D := G.1) (ci := 5) (v := .ref (ad 0)) (C := RPP) (T := TPP) (N := 5) hx hb hts inPP hown hK hP 0 rfl rfl 0 (by decide) (hts _ fl_PP_10) (fun _ h9 => h9) rfl d_PP_count_41 ?_
    refine rdV (G := G) (As := []) (rest := []) (C := RST) ⟨hx, hb, hml, hown, hts⟩ (c_ST_amount l G (ad 0) adS (gPP_statements σ) _ _ (bk_gP (k := 1) hP rfl) h2 _ rfl) (cwV 0 hts (gd_V ml_PP_43 im_ST_amount sl_ST_amount ini_ST k_ST_amount) rfl rmK_c rmK_s (by decide +kernel) ⟨Nat.le_of_ble_eq_true rfl, Nat.le_of_ble_eq_true rfl⟩) hK (pST_recv hK (bk_gP (k := 1) hP rfl) h2) hS ⟨Nat.le_refl _, Nat.le_refl _⟩ rfl hl.1 (Nat.le_of_ble_eq_true rfl) d_PP_count_44 (fun locs hS => ?_)
    exact W.iret (v := (A_ST_amount (gPP_statements σ))) hx hb hr (fun t ht hW => ⟨⟨(A_ST_amount (gPP_statements σ)), (), rfl, hr0, ht⟩, hS.F ht⟩) hS.2.2 d_PP_count_47
  have hr0 := ai_neg c9 hr0
  by_cases c10 : what = 1
  · have hr0 := ai_pos c10 hr0
    refine lv_tableIn (off := 47) (tgt := 48) hx hb d_PP_count_1 (by rw [c10]; decide) (by rw [c10]; decide) (by rw [c10]; rfl) (by decide) ?_
    refine lv_aload_n hx hb d_PP_count_48 rfl (lv_at hl 0 rfl) ?_
    refine va_get (D := G.1) (ci := 5) (v := .ref (ad 0)) (C := RPP) (T := TPP) (N := 5) hx hb hts inPP hown hK hP 0 rfl rfl 0 (by decide) (hts _ fl_PP_10) (fun _ h9 => h9) rfl d_PP_count_49 ?_
    refine rdV (G := G) (As := []) (rest := []) (C := RST) ⟨hx, hb, hml, hown, hts⟩ (c_ST_mandatories l G (ad 0) adS (gPP_statements σ) _ _ (bk_gP (k := 1) hP rfl) h2 _ rfl) (cwV 0 hts (gd_V ml_PP_61 im_ST_mandatories sl_ST_mandatories ini_ST k_ST_mandatories) rfl rmK_c rmK_s (by decide +kernel) ⟨Nat.le_of_ble_eq_true rfl, Nat.le_of_ble_eq_true rfl⟩) hK (pST_recv hK (bk_gP (k := 1) hP rfl) h2) hS ⟨Nat.le_refl _, Nat.le_refl _⟩ rfl hl.1 (Nat.le_of_ble_eq_true rfl) d_PP_count_52 (fun locs hS => ?_)
    exact W.iret (v := (A_ST_mandatories (gPP_statements σ))) hx hb hr (fun t ht hW => ⟨⟨(A_ST_mandatories (gPP_statements σ)), (), rfl, hr0, ht⟩, hS.F ht⟩) hS.2.2 d_PP_count_55
  have hr0 := ai_neg c10 hr0
  by_cases c11 : what = 2
  · have hr0 := ai_pos c11 hr0
    refine lv_tableIn (off := 55) (tgt := 56) hx hb d_PP_count_1 (by rw [c11]; decide) (by rw [c11]; decide) (by rw [c11]; rfl) (by decide) ?_
    refine lv_aload_n hx hb d_PP_count_56 rfl (lv_at hl 0 rfl) ?_
    refine va_get (D := G.1) (ci := 5) (v := .ref (ad 1)) (C := RPP) (T := TPP) (N := 5) hx hb hts inPP hown hK hP 0 rfl rfl 1 (by decide) (hts _ fl_PP_19) (fun _ h9 => h9) rfl d_PP_count_57 ?_
    refine rdV (G := G) (As := []) (rest := []) (C := RRW) ⟨hx, hb, hml, hown, hts⟩ (c_RW_amount l G (ad 1) adR (gPP_rows σ) _ _ (bk_gP (k := 2) hP rfl) h4 _ rfl) (cwV 0 hts (gd_V ml_PP_70 im_RW_amount sl_RW_amount ini_RW k_RW_amount) rfl rmK_c rmK_s (by decide +kernel) ⟨Nat.le_of_ble_eq_true rfl, Nat.le_of_ble_eq_true rfl⟩) hK (pRW_recv hK (bk_gP (k := 2) hP rfl) h4) hS ⟨Nat.le_refl _, Nat.le_refl _⟩ rfl hl.1 (Nat.le_of_ble_eq_true rfl) d_PP_count_60 (fun locs hS => ?_)
    exact W.iret (v := (A_RW_amount (gPP_rows σ))) hx hb hr (fun t ht hW => ⟨⟨(A_RW_amount (gPP_rows σ)), (), rfl, hr0, ht⟩, hS.F ht⟩) hS.2.2 d_PP_count_63
  have hr0 := ai_neg c11 hr0
  by_cases c12 : what = 3
  · have hr0 := ai_pos c12 hr0
    refine lv_tableIn (off := 63) (tgt := 64) hx hb d_PP_count_1 (by rw [c12]; decide) (by rw [c12]; decide) (by rw [c12]; rfl) (by decide) ?_
    refine lv_aload_n hx hb d_PP_count_64 rfl (lv_at hl 0 rfl) ?_
    refine va_get (D := G.1) (ci := 5) (v := .ref (ad 3)) (C := RPP) (T := TPP) (N := 5) hx hb hts inPP hown hK hP 0 rfl rfl 3 (by decide) (hts _ fl_PP_35) (fun _ h9 => h9) rfl d_PP_count_65 ?_
    refine rdV (G := G) (As := []) (rest := []) (C := RIL) ⟨hx, hb, hml, hown, hts⟩ (c_IL_length l G (ad 3) (gPP_pile σ) _ _ (bk_gP (k := 4) hP rfl) h8 _ rfl) (cwV 0 hts (gd_V ml_PP_67 im_IL_length sl_IL_length ini_IL k_IL_length) rfl rmK_c rmK_s (by decide +kernel) ⟨Nat.le_of_ble_eq_true rfl, Nat.le_of_ble_eq_true rfl⟩) hK (pIL_recv hK (bk_gP (k := 4) hP rfl) h8) hS ⟨Nat.le_refl _, Nat.le_refl _⟩ rfl hl.1 (Nat.le_of_ble_eq_true rfl) d_PP_count_68 (fun locs hS => ?_)
    exact W.iret (v := (A_IL_length (gPP_pile σ))) hx hb hr (fun t ht hW => ⟨⟨(A_IL_length (gPP_pile σ)), (), rfl, hr0, ht⟩, hS.F ht⟩) hS.2.2 d_PP_count_71
  have hr0 := ai_neg c12 hr0
  by_cases c13 : what = 4
  · have hr0 := ai_pos c13 hr0
    refine lv_tableIn (off := 71) (tgt := 72) hx hb d_PP_count_1 (by rw [c13]; decide) (by rw [c13]; decide) (by rw [c13]; rfl) (by decide) ?_
    refine lv_aload_n hx hb d_PP_count_72 rfl (lv_at hl 0 rfl) ?_
    refine va_get (D := G.1) (ci := 5) (v := .int (gPP_puts σ)) (C := RPP) (T := TPP) (N := 5) hx hb hts inPP hown hK hP 0 rfl rfl 4 (by decide) (hts _ fl_PP_39) (fun _ h9 => h9) rfl d_PP_count_73 ?_
    exact W.iret (v := (gPP_puts σ)) hx hb hr (fun t ht hW => ⟨⟨(gPP_puts σ), (), rfl, hr0, ht⟩, hS.F ht⟩) hS.2.2 d_PP_count_76
  have hr0 := ai_neg c13 hr0
  by_cases c14 : what = 5
  · have hr0 := ai_pos c14 hr0
    refine lv_tableIn (off := 76) (tgt := 77) hx hb d_PP_count_1 (by rw [c14]; decide) (by rw [c14]; decide) (by rw [c14]; rfl) (by decide) ?_
    refine lv_aload_n hx hb d_PP_count_77 rfl (lv_at hl 0 rfl) ?_
    refine va_get (D := G.1) (ci := 5) (v := .ref (ad 1)) (C := RPP) (T := TPP) (N := 5) hx hb hts inPP hown hK hP 0 rfl rfl 1 (by decide) (hts _ fl_PP_19) (fun _ h9 => h9) rfl d_PP_count_78 ?_
    refine rdV (G := G) (As := []) (rest := []) (C := RRW) ⟨hx, hb, hml, hown, hts⟩ (c_RW_amountOfKinds l G (ad 1) adR (gPP_rows σ) _ _ (bk_gP (k := 2) hP rfl) h4 _ rfl) (cwV 0 hts (gd_V ml_PP_89 im_RW_amountOfKinds sl_RW_amountOfKinds ini_RW k_RW_amountOfKinds) rfl rmK_c rmK_s (by decide +kernel) ⟨Nat.le_of_ble_eq_true rfl, Nat.le_of_ble_eq_true rfl⟩) hK (pRW_recv hK (bk_gP (k := 2) hP rfl) h4) hS ⟨Nat.le_refl _, Nat.le_refl _⟩ rfl hl.1 (Nat.le_of_ble_eq_true rfl) d_PP_count_81 (fun locs hS => ?_)
    exact W.iret (v := (A_RW_amountOfKinds (gPP_rows σ))) hx hb hr (fun t ht hW => ⟨⟨(A_RW_amountOfKinds (gPP_rows σ)), (), rfl, hr0, ht⟩, hS.F ht⟩) hS.2.2 d_PP_count_84
  have hr0 := ai_neg c14 hr0
  refine lv_tableOut (tgt := 85) hx hb d_PP_count_1 (sw_out (n := 5) (fun k hk9 => by rcases (show k = 0 ∨ k = 1 ∨ k = 2 ∨ k = 3 ∨ k = 4 ∨ k = 5 by omega) with rfl | rfl | rfl | rfl | rfl | rfl <;> assumption)) (by decide) ?_
  refine lv_iconst (v := (-1)) hx hb d_PP_count_85 (by decide) ?_
  exact W.iret (v := (-1)) hx hb hr (fun t ht hW => ⟨⟨(-1), (), rfl, hr0, ht⟩, hS.F ht⟩) hS.2.2 d_PP_count_86

def A_PP_packed (σ : tPP) (what : Int32) : Int32 := if what = 0 then (A_TL_amountOfLabels (gPP_telling σ)) else (if what = 1 then (A_TL_amountOfLetters (gPP_telling σ)) else (if what = 2 then (A_TL_amountOfSaved (gPP_telling σ)) else (-1)))
set_option maxHeartbeats 4000000 in
set_option maxRecDepth 100000 in
theorem c_PP_packed (l : Launch) (G : pG) (h0 : Nat) (ad : Nat → Nat) (adS : Nat → Nat) (adR : Nat → Nat) (adT : Nat → Nat) (adL : Nat → Nat) (σ : tPP) (what : Int32) (H : Heap) (w : va_W) (hP0 : va_P G.1 vwCl w H) (hσ : pPP G h0 ad adS adR adT adL σ w) (res : Int32) (hr0 : A_PP_packed σ what = res) : MRi l y_PP_packed w_PP_packed 3 60 G [.ref h0, .int what] H res := by
  refine Met.ofW (cc := b_PP_packed) (maxL := 2) (ret := (some .int)) (by decide) rfl ?_
  intro p e s m args below meth c s₁ B hml hv
  obtain ⟨rfl, rfl, hK⟩ := hv
  have hx := B.exec
  have hb := B.bytes
  have hr := B.returns
  have hts0 := atoms_spec (ws := w_PP_packed) B.pre
  have hts := fun w (h : w ∈ lw_g) => hts0 w (List.mem_cons_of_mem _ h)
  have hown : s.vm.findClass RPP = some m.cls := findClass_of_methodNamed B.named
  have hlocks := B.notSynchronized
  have hσ0 := hσ
  obtain ⟨w1, w3, w5, w7, rfl, h2, h4, h6, h8⟩ := hσ
  have hP := hP0
  obtain ⟨A, hAe⟩ : ∃ A : Nat → Prop, A = fun _ => False := ⟨_, rfl⟩
  rw [← hAe]
  have hS : va_S A s.heap s.heap [] := va_S.rf
  have hl := lv_entry ([.ref h0, .int what]) (n := 2) (Nat.le_of_ble_eq_true rfl)
  rw [lg_entry_eq]
  generalize (lg_sl ([.ref h0, .int what]) ++ List.replicate (2 - (lg_sl ([.ref h0, .int what])).length) Slot.unset).toArray = ls at hl ⊢
  have hl : lv_has ls 2 [(0, .ref h0), (1, .int what)] := hl
  unfold A_PP_packed at hr0
  refine lv_iload_n hx hb d_PP_packed_0 rfl (lv_at hl 1 rfl) ?_
  by_cases c9 : what = 0
  · have hr0 := ai_pos c9 hr0
    refine lv_tableIn (off := 27) (tgt := 28) hx hb d_PP_packed_1 (by rw [c9]; decide) (by rw [c9]; decide) (by rw [c9]; rfl) (by decide) ?_
    refine lv_aload_n hx hb d_PP_packed_28 rfl (lv_at hl 0 rfl) ?_
    refine va_get (D := G.1) (ci := 5) (v := .ref (ad 2)) (C := RPP) (T := TPP) (N := 5) hx hb hts inPP hown hK hP 0 rfl rfl 2 (by decide) (hts _ fl_PP_28) (fun _ h9 => h9) rfl d_PP_packed_29 ?_
    refine rdV (G := G) (As := []) (rest := []) (C := RTL) ⟨hx, hb, hml, hown, hts⟩ (c_TL_amountOfLabels l G (ad 2) (ad 0) (ad 1) adT adL (gPP_telling σ) _ _ (bk_gP (k := 3) hP rfl) h6 _ rfl) (cwV 0 hts (gd_V ml_PP_120 im_TL_amountOfLabels sl_TL_amountOfLabels ini_TL k_TL_amountOfLabels) rfl rmK_c rmK_s (by decide +kernel) ⟨Nat.le_of_ble_eq_true rfl, Nat.le_of_ble_eq_true rfl⟩) hK (pTL_recv hK (bk_gP (k := 3) hP rfl) h6) hS ⟨Nat.le_refl _, Nat.le_refl _⟩ rfl hl.1 (Nat.le_of_ble_eq_true rfl) d_PP_packed_32 (fun locs hS => ?_)
    exact W.iret (v := (A_TL_amountOfLabels (gPP_telling σ))) hx hb hr (fun t ht hW => ⟨⟨(A_TL_amountOfLabels (gPP_telling σ)), (), rfl, hr0, ht⟩, hS.F ht⟩) hS.2.2 d_PP_packed_35
  have hr0 := ai_neg c9 hr0
  by_cases c10 : what = 1
  · have hr0 := ai_pos c10 hr0
    refine lv_tableIn (off := 35) (tgt := 36) hx hb d_PP_packed_1 (by rw [c10]; decide) (by rw [c10]; decide) (by rw [c10]; rfl) (by decide) ?_
    refine lv_aload_n hx hb d_PP_packed_36 rfl (lv_at hl 0 rfl) ?_
    refine va_get (D := G.1) (ci := 5) (v := .ref (ad 2)) (C := RPP) (T := TPP) (N := 5) hx hb hts inPP hown hK hP 0 rfl rfl 2 (by decide) (hts _ fl_PP_28) (fun _ h9 => h9) rfl d_PP_packed_37 ?_
    refine rdV (G := G) (As := []) (rest := []) (C := RTL) ⟨hx, hb, hml, hown, hts⟩ (c_TL_amountOfLetters l G (ad 2) (ad 0) (ad 1) adT adL (gPP_telling σ) _ _ (bk_gP (k := 3) hP rfl) h6 _ rfl) (cwV 0 hts (gd_V ml_PP_123 im_TL_amountOfLetters sl_TL_amountOfLetters ini_TL k_TL_amountOfLetters) rfl rmK_c rmK_s (by decide +kernel) ⟨Nat.le_of_ble_eq_true rfl, Nat.le_of_ble_eq_true rfl⟩) hK (pTL_recv hK (bk_gP (k := 3) hP rfl) h6) hS ⟨Nat.le_refl _, Nat.le_refl _⟩ rfl hl.1 (Nat.le_of_ble_eq_true rfl) d_PP_packed_40 (fun locs hS => ?_)
    exact W.iret (v := (A_TL_amountOfLetters (gPP_telling σ))) hx hb hr (fun t ht hW => ⟨⟨(A_TL_amountOfLetters (gPP_telling σ)), (), rfl, hr0, ht⟩, hS.F ht⟩) hS.2.2 d_PP_packed_43
  have hr0 := ai_neg c10 hr0
  by_cases c11 : what = 2
  · have hr0 := ai_pos c11 hr0
    refine lv_tableIn (off := 43) (tgt := 44) hx hb d_PP_packed_1 (by rw [c11]; decide) (by rw [c11]; decide) (by rw [c11]; rfl) (by decide) ?_
    refine lv_aload_n hx hb d_PP_packed_44 rfl (lv_at hl 0 rfl) ?_
    refine va_get (D := G.1) (ci := 5) (v := .ref (ad 2)) (C := RPP) (T := TPP) (N := 5) hx hb hts inPP hown hK hP 0 rfl rfl 2 (by decide) (hts _ fl_PP_28) (fun _ h9 => h9) rfl d_PP_packed_45 ?_
    refine rdV (G := G) (As := []) (rest := []) (C := RTL) ⟨hx, hb, hml, hown, hts⟩ (c_TL_amountOfSaved l G (ad 2) (ad 0) (ad 1) adT adL (gPP_telling σ) _ _ (bk_gP (k := 3) hP rfl) h6 _ rfl) (cwV 0 hts (gd_V ml_PP_126 im_TL_amountOfSaved sl_TL_amountOfSaved ini_TL k_TL_amountOfSaved) rfl rmK_c rmK_s (by decide +kernel) ⟨Nat.le_of_ble_eq_true rfl, Nat.le_of_ble_eq_true rfl⟩) hK (pTL_recv hK (bk_gP (k := 3) hP rfl) h6) hS ⟨Nat.le_refl _, Nat.le_refl _⟩ rfl hl.1 (Nat.le_of_ble_eq_true rfl) d_PP_packed_48 (fun locs hS => ?_)
    exact W.iret (v := (A_TL_amountOfSaved (gPP_telling σ))) hx hb hr (fun t ht hW => ⟨⟨(A_TL_amountOfSaved (gPP_telling σ)), (), rfl, hr0, ht⟩, hS.F ht⟩) hS.2.2 d_PP_packed_51
  have hr0 := ai_neg c11 hr0
  refine lv_tableOut (tgt := 52) hx hb d_PP_packed_1 (sw_out (n := 2) (fun k hk9 => by rcases (show k = 0 ∨ k = 1 ∨ k = 2 by omega) with rfl | rfl | rfl <;> assumption)) (by decide) ?_
  refine lv_iconst (v := (-1)) hx hb d_PP_packed_52 (by decide) ?_
  exact W.iret (v := (-1)) hx hb hr (fun t ht hW => ⟨⟨(-1), (), rfl, hr0, ht⟩, hS.F ht⟩) hS.2.2 d_PP_packed_53
