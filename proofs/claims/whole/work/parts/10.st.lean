abbrev tST : Type := tIL × tIL × Int32
abbrev gST_takings (σ : tST) : tIL := σ.1
abbrev gST_places (σ : tST) : tIL := σ.2.1
abbrev gST_mandatories (σ : tST) : Int32 := σ.2.2
def uST_takings (σ : tST) (v : tIL) : tST := (v, gST_places σ, gST_mandatories σ)
def uST_places (σ : tST) (v : tIL) : tST := (gST_takings σ, v, gST_mandatories σ)
def uST_mandatories (σ : tST) (v : Int32) : tST := (gST_takings σ, gST_places σ, v)
def pST (G : pG) (h0 : Nat) (ad : Nat → Nat) (σ : tST) (w : va_W) : Prop := ∃ (w0 w1 : va_W), w = [[(h0, .inr (3, [.ref (ad 0), .ref (ad 1), .int (gST_mandatories σ)]))], w0, w1].flatten ∧ pIL G (ad 0) (gST_takings σ) w0 ∧ pIL G (ad 1) (gST_places σ) w1
theorem pST_recv {G : pG} {s : State} {H : Heap} {h0 : Nat} {ad : Nat → Nat} {σ : tST} {w : va_W} (hK : va_K G.1 vwCl (tyG G) s) (hP : va_P G.1 vwCl w H) (h : pST G h0 ad σ w) : ∃ cell : Cell, H[h0]? = some cell ∧ cell.vm.isStatics = false ∧ s.vm.findClass RST = some cell.cls := by
  obtain ⟨w0, w1, rfl, -, -⟩ := h
  exact va_recv (q0 := 0) (ci := 3) hK hP rfl rfl

def A_ST_amount (σ : tST) : Int32 := A_IL_length (gST_takings σ)
set_option maxHeartbeats 4000000 in
set_option maxRecDepth 100000 in
theorem c_ST_amount (l : Launch) (G : pG) (h0 : Nat) (ad : Nat → Nat) (σ : tST) (H : Heap) (w : va_W) (hP0 : va_P G.1 vwCl w H) (hσ : pST G h0 ad σ w) (res : Int32) (hr0 : A_ST_amount σ = res) : MRi l y_ST_amount w_ST_amount 1 20 G [.ref h0] H res := by
  refine Met.ofW (cc := b_ST_amount) (maxL := 1) (ret := (some .int)) (by decide) rfl ?_
  intro p e s m args below meth c s₁ B hml hv
  obtain ⟨rfl, rfl, hK⟩ := hv
  have hx := B.exec
  have hb := B.bytes
  have hr := B.returns
  have hts0 := atoms_spec (ws := w_ST_amount) B.pre
  have hts := fun w (h : w ∈ lw_g) => hts0 w (List.mem_cons_of_mem _ h)
  have hown : s.vm.findClass RST = some m.cls := findClass_of_methodNamed B.named
  have hlocks := B.notSynchronized
  have hσ0 := hσ
  obtain ⟨w1, w3, rfl, h2, h4⟩ := hσ
  have hP := hP0
  obtain ⟨A, hAe⟩ : ∃ A : Nat → Prop, A = fun _ => False := ⟨_, rfl⟩
  rw [← hAe]
  have hS : va_S A s.heap s.heap [] := va_S.rf
  have hl := lv_entry ([.ref h0]) (n := 1) (Nat.le_of_ble_eq_true rfl)
  rw [lg_entry_eq]
  generalize (lg_sl ([.ref h0]) ++ List.replicate (1 - (lg_sl ([.ref h0])).length) Slot.unset).toArray = ls at hl ⊢
  have hl : lv_has ls 1 [(0, .ref h0)] := hl
  unfold A_ST_amount at hr0
  refine lv_aload_n hx hb d_ST_amount_0 rfl (lv_at hl 0 rfl) ?_
  refine va_get (D := G.1) (ci := 3) (v := .ref (ad 0)) (C := RST) (T := TST) (N := 3) hx hb hts inST hown hK hP 0 rfl rfl 0 (by decide) (hts _ fl_ST_12) (fun _ h9 => h9) rfl d_ST_amount_1 ?_
  refine rdV (G := G) (As := []) (rest := []) (C := RIL) ⟨hx, hb, hml, hown, hts⟩ (c_IL_length l G (ad 0) (gST_takings σ) _ _ (bk_gP (k := 1) hP rfl) h2 _ rfl) (cwV 0 hts (gd_V ml_ST_25 im_IL_length sl_IL_length ini_IL k_IL_length) rfl rmK_c rmK_s (by decide +kernel) ⟨Nat.le_of_ble_eq_true rfl, Nat.le_of_ble_eq_true rfl⟩) hK (pIL_recv hK (bk_gP (k := 1) hP rfl) h2) hS ⟨Nat.le_refl _, Nat.le_refl _⟩ rfl hl.1 (Nat.le_of_ble_eq_true rfl) d_ST_amount_4 (fun locs hS => ?_)
  exact W.iret (v := (A_IL_length (gST_takings σ))) hx hb hr (fun t ht hW => ⟨⟨(A_IL_length (gST_takings σ)), (), rfl, hr0, ht⟩, hS.F ht⟩) hS.2.2 d_ST_amount_7

def A_ST_mandatories (σ : tST) : Int32 := gST_mandatories σ
set_option maxHeartbeats 4000000 in
set_option maxRecDepth 100000 in
theorem c_ST_mandatories (l : Launch) (G : pG) (h0 : Nat) (ad : Nat → Nat) (σ : tST) (H : Heap) (w : va_W) (hP0 : va_P G.1 vwCl w H) (hσ : pST G h0 ad σ w) (res : Int32) (hr0 : A_ST_mandatories σ = res) : MRi l y_ST_mandatories w_ST_mandatories 0 0 G [.ref h0] H res := by
  refine Met.ofW (cc := b_ST_mandatories) (maxL := 1) (ret := (some .int)) (by decide) rfl ?_
  intro p e s m args below meth c s₁ B hml hv
  obtain ⟨rfl, rfl, hK⟩ := hv
  have hx := B.exec
  have hb := B.bytes
  have hr := B.returns
  have hts0 := atoms_spec (ws := w_ST_mandatories) B.pre
  have hts := fun w (h : w ∈ lw_g) => hts0 w (List.mem_cons_of_mem _ h)
  have hown : s.vm.findClass RST = some m.cls := findClass_of_methodNamed B.named
  have hlocks := B.notSynchronized
  have hσ0 := hσ
  obtain ⟨w1, w3, rfl, h2, h4⟩ := hσ
  have hP := hP0
  obtain ⟨A, hAe⟩ : ∃ A : Nat → Prop, A = fun _ => False := ⟨_, rfl⟩
  rw [← hAe]
  have hS : va_S A s.heap s.heap [] := va_S.rf
  have hl := lv_entry ([.ref h0]) (n := 1) (Nat.le_of_ble_eq_true rfl)
  rw [lg_entry_eq]
  generalize (lg_sl ([.ref h0]) ++ List.replicate (1 - (lg_sl ([.ref h0])).length) Slot.unset).toArray = ls at hl ⊢
  have hl : lv_has ls 1 [(0, .ref h0)] := hl
  unfold A_ST_mandatories at hr0
  refine lv_aload_n hx hb d_ST_mandatories_0 rfl (lv_at hl 0 rfl) ?_
  refine va_get (D := G.1) (ci := 3) (v := .int (gST_mandatories σ)) (C := RST) (T := TST) (N := 3) hx hb hts inST hown hK hP 0 rfl rfl 2 (by decide) (hts _ fl_ST_21) (fun _ h9 => h9) rfl d_ST_mandatories_1 ?_
  exact W.iret (v := (gST_mandatories σ)) hx hb hr (fun t ht hW => ⟨⟨(gST_mandatories σ), (), rfl, hr0, ht⟩, hS.F ht⟩) hS.2.2 d_ST_mandatories_4

def A_ST_has (σ : tST) (i : Int32) : Int32 := if i < 0 then 0 else (if (A_IL_length (gST_takings σ)) ≤ i then 0 else 1)
set_option maxHeartbeats 4000000 in
set_option maxRecDepth 100000 in
theorem c_ST_has (l : Launch) (G : pG) (h0 : Nat) (ad : Nat → Nat) (σ : tST) (i : Int32) (H : Heap) (w : va_W) (hP0 : va_P G.1 vwCl w H) (hσ : pST G h0 ad σ w) (res : Int32) (hr0 : A_ST_has σ i = res) : MRi l y_ST_has w_ST_has 1 20 G [.ref h0, .int i] H res := by
  refine Met.ofW (cc := b_ST_has) (maxL := 2) (ret := (some .boolean)) (by decide) rfl ?_
  intro p e s m args below meth c s₁ B hml hv
  obtain ⟨rfl, rfl, hK⟩ := hv
  have hx := B.exec
  have hb := B.bytes
  have hr := B.returns
  have hts0 := atoms_spec (ws := w_ST_has) B.pre
  have hts := fun w (h : w ∈ lw_g) => hts0 w (List.mem_cons_of_mem _ h)
  have hown : s.vm.findClass RST = some m.cls := findClass_of_methodNamed B.named
  have hlocks := B.notSynchronized
  have hσ0 := hσ
  obtain ⟨w1, w3, rfl, h2, h4⟩ := hσ
  have hP := hP0
  obtain ⟨A, hAe⟩ : ∃ A : Nat → Prop, A = fun _ => False := ⟨_, rfl⟩
  rw [← hAe]
  have hS : va_S A s.heap s.heap [] := va_S.rf
  have hl := lv_entry ([.ref h0, .int i]) (n := 2) (Nat.le_of_ble_eq_true rfl)
  rw [lg_entry_eq]
  generalize (lg_sl ([.ref h0, .int i]) ++ List.replicate (2 - (lg_sl ([.ref h0, .int i])).length) Slot.unset).toArray = ls at hl ⊢
  have hl : lv_has ls 2 [(0, .ref h0), (1, .int i)] := hl
  unfold A_ST_has at hr0
  refine lv_iload_n hx hb d_ST_has_0 rfl (lv_at hl 1 rfl) ?_
  refine lv_if_lt (tgt := 19) hx hb d_ST_has_1 (by decide) (fun c5 => ?_) (fun c5 => ?_)
  · have hr0 := ai_pos c5 hr0
    refine lv_iconst (v := 0) hx hb d_ST_has_19 (by decide) ?_
    exact W.zret (v := 0) hx hb hr (by decide) (fun t ht hW => ⟨⟨0, (), rfl, hr0, ht⟩, hS.F ht⟩) hS.2.2 d_ST_has_20
  · have hr0 := ai_neg c5 hr0
    refine lv_iload_n hx hb d_ST_has_4 rfl (lv_at hl 1 rfl) ?_
    refine lv_aload_n hx hb d_ST_has_5 rfl (lv_at hl 0 rfl) ?_
    refine va_get (D := G.1) (ci := 3) (v := .ref (ad 0)) (C := RST) (T := TST) (N := 3) hx hb hts inST hown hK hP 0 rfl rfl 0 (by decide) (hts _ fl_ST_12) (fun _ h9 => h9) rfl d_ST_has_6 ?_
    refine rdV (G := G) (As := []) (rest := [.int i]) (C := RIL) ⟨hx, hb, hml, hown, hts⟩ (c_IL_length l G (ad 0) (gST_takings σ) _ _ (bk_gP (k := 1) hP rfl) h2 _ rfl) (cwV 0 hts (gd_V ml_ST_25 im_IL_length sl_IL_length ini_IL k_IL_length) rfl rmK_c rmK_s (by decide +kernel) ⟨Nat.le_of_ble_eq_true rfl, Nat.le_of_ble_eq_true rfl⟩) hK (pIL_recv hK (bk_gP (k := 1) hP rfl) h2) hS ⟨Nat.le_refl _, Nat.le_refl _⟩ rfl hl.1 (Nat.le_of_ble_eq_true rfl) d_ST_has_9 (fun locs hS => ?_)
    refine lv_icmp_ge (tgt := 19) hx hb d_ST_has_12 (by decide) (fun c6 => ?_) (fun c6 => ?_)
    · have hr0 := ai_pos c6 hr0
      refine lv_iconst (v := 0) hx hb d_ST_has_19 (by decide) ?_
      exact W.zret (v := 0) hx hb hr (by decide) (fun t ht hW => ⟨⟨0, (), rfl, hr0, ht⟩, hS.F ht⟩) hS.2.2 d_ST_has_20
    · have hr0 := ai_neg c6 hr0
      refine lv_iconst (v := 1) hx hb d_ST_has_15 (by decide) ?_
      refine lv_goto (tgt := 20) hx hb d_ST_has_16 (by decide) ?_
      exact W.zret (v := 1) hx hb hr (by decide) (fun t ht hW => ⟨⟨1, (), rfl, hr0, ht⟩, hS.F ht⟩) hS.2.2 d_ST_has_20

def A_ST_taking (σ : tST) (i : Int32) : Int32 := A_IL_at (gST_takings σ) i
set_option maxHeartbeats 4000000 in
set_option maxRecDepth 100000 in
theorem c_ST_taking (l : Launch) (G : pG) (h0 : Nat) (ad : Nat → Nat) (σ : tST) (i : Int32) (H : Heap) (w : va_W) (hP0 : va_P G.1 vwCl w H) (hσ : pST G h0 ad σ w) (res : Int32) (hr0 : A_ST_taking σ i = res) : MRi l y_ST_taking w_ST_taking 1 21 G [.ref h0, .int i] H res := by
  refine Met.ofW (cc := b_ST_taking) (maxL := 2) (ret := (some .int)) (by decide) rfl ?_
  intro p e s m args below meth c s₁ B hml hv
  obtain ⟨rfl, rfl, hK⟩ := hv
  have hx := B.exec
  have hb := B.bytes
  have hr := B.returns
  have hts0 := atoms_spec (ws := w_ST_taking) B.pre
  have hts := fun w (h : w ∈ lw_g) => hts0 w (List.mem_cons_of_mem _ h)
  have hown : s.vm.findClass RST = some m.cls := findClass_of_methodNamed B.named
  have hlocks := B.notSynchronized
  have hσ0 := hσ
  obtain ⟨w1, w3, rfl, h2, h4⟩ := hσ
  have hP := hP0
  obtain ⟨A, hAe⟩ : ∃ A : Nat → Prop, A = fun _ => False := ⟨_, rfl⟩
  rw [← hAe]
  have hS : va_S A s.heap s.heap [] := va_S.rf
  have hl := lv_entry ([.ref h0, .int i]) (n := 2) (Nat.le_of_ble_eq_true rfl)
  rw [lg_entry_eq]
  generalize (lg_sl ([.ref h0, .int i]) ++ List.replicate (2 - (lg_sl ([.ref h0, .int i])).length) Slot.unset).toArray = ls at hl ⊢
  have hl : lv_has ls 2 [(0, .ref h0), (1, .int i)] := hl
  unfold A_ST_taking at hr0
  refine lv_aload_n hx hb d_ST_taking_0 rfl (lv_at hl 0 rfl) ?_
  refine va_get (D := G.1) (ci := 3) (v := .ref (ad 0)) (C := RST) (T := TST) (N := 3) hx hb hts inST hown hK hP 0 rfl rfl 0 (by decide) (hts _ fl_ST_12) (fun _ h9 => h9) rfl d_ST_taking_1 ?_
  refine lv_iload_n hx hb d_ST_taking_4 rfl (lv_at hl 1 rfl) ?_
  refine rdV (G := G) (As := [.int i]) (rest := []) (C := RIL) ⟨hx, hb, hml, hown, hts⟩ (c_IL_at l G (ad 0) (gST_takings σ) i _ _ (bk_gP (k := 1) hP rfl) h2 _ rfl) (cwV 1 hts (gd_V ml_ST_29 im_IL_at sl_IL_at ini_IL k_IL_at) rfl rmK_c rmK_s (by decide +kernel) ⟨Nat.le_of_ble_eq_true rfl, Nat.le_of_ble_eq_true rfl⟩) hK (pIL_recv hK (bk_gP (k := 1) hP rfl) h2) hS ⟨Nat.le_refl _, Nat.le_refl _⟩ rfl hl.1 (Nat.le_of_ble_eq_true rfl) d_ST_taking_5 (fun locs hS => ?_)
  exact W.iret (v := (A_IL_at (gST_takings σ) i)) hx hb hr (fun t ht hW => ⟨⟨(A_IL_at (gST_takings σ) i), (), rfl, hr0, ht⟩, hS.F ht⟩) hS.2.2 d_ST_taking_8

def A_ST_isMandatory (σ : tST) (i : Int32) : Int32 := if (A_IL_at (gST_places σ) i) = (-1) then 0 else 1
set_option maxHeartbeats 4000000 in
set_option maxRecDepth 100000 in
theorem c_ST_isMandatory (l : Launch) (G : pG) (h0 : Nat) (ad : Nat → Nat) (σ : tST) (i : Int32) (H : Heap) (w : va_W) (hP0 : va_P G.1 vwCl w H) (hσ : pST G h0 ad σ w) (res : Int32) (hr0 : A_ST_isMandatory σ i = res) : MRi l y_ST_isMandatory w_ST_isMandatory 1 21 G [.ref h0, .int i] H res := by
  refine Met.ofW (cc := b_ST_isMandatory) (maxL := 2) (ret := (some .boolean)) (by decide) rfl ?_
  intro p e s m args below meth c s₁ B hml hv
  obtain ⟨rfl, rfl, hK⟩ := hv
  have hx := B.exec
  have hb := B.bytes
  have hr := B.returns
  have hts0 := atoms_spec (ws := w_ST_isMandatory) B.pre
  have hts := fun w (h : w ∈ lw_g) => hts0 w (List.mem_cons_of_mem _ h)
  have hown : s.vm.findClass RST = some m.cls := findClass_of_methodNamed B.named
  have hlocks := B.notSynchronized
  have hσ0 := hσ
  obtain ⟨w1, w3, rfl, h2, h4⟩ := hσ
  have hP := hP0
  obtain ⟨A, hAe⟩ : ∃ A : Nat → Prop, A = fun _ => False := ⟨_, rfl⟩
  rw [← hAe]
  have hS : va_S A s.heap s.heap [] := va_S.rf
  have hl := lv_entry ([.ref h0, .int i]) (n := 2) (Nat.le_of_ble_eq_true rfl)
  rw [lg_entry_eq]
  generalize (lg_sl ([.ref h0, .int i]) ++ List.replicate (2 - (lg_sl ([.ref h0, .int i])).length) Slot.unset).toArray = ls at hl ⊢
  have hl : lv_has ls 2 [(0, .ref h0), (1, .int i)] := hl
  unfold A_ST_isMandatory at hr0
  refine lv_aload_n hx hb d_ST_isMandatory_0 rfl (lv_at hl 0 rfl) ?_
  refine va_get (D := G.1) (ci := 3) (v := .ref (ad 1)) (C := RST) (T := TST) (N := 3) hx hb hts inST hown hK hP 0 rfl rfl 1 (by decide) (hts _ fl_ST_18) (fun _ h9 => h9) rfl d_ST_isMandatory_1 ?_
  refine lv_iload_n hx hb d_ST_isMandatory_4 rfl (lv_at hl 1 rfl) ?_
  refine rdV (G := G) (As := [.int i]) (rest := []) (C := RIL) ⟨hx, hb, hml, hown, hts⟩ (c_IL_at l G (ad 1) (gST_places σ) i _ _ (bk_gP (k := 2) hP rfl) h4 _ rfl) (cwV 1 hts (gd_V ml_ST_29 im_IL_at sl_IL_at ini_IL k_IL_at) rfl rmK_c rmK_s (by decide +kernel) ⟨Nat.le_of_ble_eq_true rfl, Nat.le_of_ble_eq_true rfl⟩) hK (pIL_recv hK (bk_gP (k := 2) hP rfl) h4) hS ⟨Nat.le_refl _, Nat.le_refl _⟩ rfl hl.1 (Nat.le_of_ble_eq_true rfl) d_ST_isMandatory_5 (fun locs hS => ?_)
  refine lv_iconst (v := (-1)) hx hb d_ST_isMandatory_8 (by decide) ?_
  refine lv_icmp_eq (tgt := 16) hx hb d_ST_isMandatory_9 (by decide) (fun c5 => ?_) (fun c5 => ?_)
  · have hr0 := ai_pos c5 hr0
    refine lv_iconst (v := 0) hx hb d_ST_isMandatory_16 (by decide) ?_
    exact W.zret (v := 0) hx hb hr (by decide) (fun t ht hW => ⟨⟨0, (), rfl, hr0, ht⟩, hS.F ht⟩) hS.2.2 d_ST_isMandatory_17
  · have hr0 := ai_neg c5 hr0
    refine lv_iconst (v := 1) hx hb d_ST_isMandatory_12 (by decide) ?_
    refine lv_goto (tgt := 17) hx hb d_ST_isMandatory_13 (by decide) ?_
    exact W.zret (v := 1) hx hb hr (by decide) (fun t ht hW => ⟨⟨1, (), rfl, hr0, ht⟩, hS.F ht⟩) hS.2.2 d_ST_isMandatory_17

def A_ST_placeOf (σ : tST) (i : Int32) : Int32 := A_IL_at (gST_places σ) i
set_option maxHeartbeats 4000000 in
set_option maxRecDepth 100000 in
theorem c_ST_placeOf (l : Launch) (G : pG) (h0 : Nat) (ad : Nat → Nat) (σ : tST) (i : Int32) (H : Heap) (w : va_W) (hP0 : va_P G.1 vwCl w H) (hσ : pST G h0 ad σ w) (res : Int32) (hr0 : A_ST_placeOf σ i = res) : MRi l y_ST_placeOf w_ST_placeOf 1 21 G [.ref h0, .int i] H res := by
  refine Met.ofW (cc := b_ST_placeOf) (maxL := 2) (ret := (some .int)) (by decide) rfl ?_
  intro p e s m args below meth c s₁ B hml hv
  obtain ⟨rfl, rfl, hK⟩ := hv
  have hx := B.exec
  have hb := B.bytes
  have hr := B.returns
  have hts0 := atoms_spec (ws := w_ST_placeOf) B.pre
  have hts := fun w (h : w ∈ lw_g) => hts0 w (List.mem_cons_of_mem _ h)
  have hown : s.vm.findClass RST = some m.cls := findClass_of_methodNamed B.named
  have hlocks := B.notSynchronized
  have hσ0 := hσ
  obtain ⟨w1, w3, rfl, h2, h4⟩ := hσ
  have hP := hP0
  obtain ⟨A, hAe⟩ : ∃ A : Nat → Prop, A = fun _ => False := ⟨_, rfl⟩
  rw [← hAe]
  have hS : va_S A s.heap s.heap [] := va_S.rf
  have hl := lv_entry ([.ref h0, .int i]) (n := 2) (Nat.le_of_ble_eq_true rfl)
  rw [lg_entry_eq]
  generalize (lg_sl ([.ref h0, .int i]) ++ List.replicate (2 - (lg_sl ([.ref h0, .int i])).length) Slot.unset).toArray = ls at hl ⊢
  have hl : lv_has ls 2 [(0, .ref h0), (1, .int i)] := hl
  unfold A_ST_placeOf at hr0
  refine lv_aload_n hx hb d_ST_placeOf_0 rfl (lv_at hl 0 rfl) ?_
  refine va_get (D := G.1) (ci := 3) (v := .ref (ad 1)) (C := RST) (T := TST) (N := 3) hx hb hts inST hown hK hP 0 rfl rfl 1 (by decide) (hts _ fl_ST_18) (fun _ h9 => h9) rfl d_ST_placeOf_1 ?_
  refine lv_iload_n hx hb d_ST_placeOf_4 rfl (lv_at hl 1 rfl) ?_
  refine rdV (G := G) (As := [.int i]) (rest := []) (C := RIL) ⟨hx, hb, hml, hown, hts⟩ (c_IL_at l G (ad 1) (gST_places σ) i _ _ (bk_gP (k := 2) hP rfl) h4 _ rfl) (cwV 1 hts (gd_V ml_ST_29 im_IL_at sl_IL_at ini_IL k_IL_at) rfl rmK_c rmK_s (by decide +kernel) ⟨Nat.le_of_ble_eq_true rfl, Nat.le_of_ble_eq_true rfl⟩) hK (pIL_recv hK (bk_gP (k := 2) hP rfl) h4) hS ⟨Nat.le_refl _, Nat.le_refl _⟩ rfl hl.1 (Nat.le_of_ble_eq_true rfl) d_ST_placeOf_5 (fun locs hS => ?_)
  exact W.iret (v := (A_IL_at (gST_places σ) i)) hx hb hr (fun t ht hW => ⟨⟨(A_IL_at (gST_places σ) i), (), rfl, hr0, ht⟩, hS.F ht⟩) hS.2.2 d_ST_placeOf_8

def A_ST_add (σ : tST) (n : Int32) : Int32 × tST := ((A_IL_length (A_IL_add (gST_takings σ) n)) - 1, uST_places (uST_takings σ (A_IL_add (gST_takings σ) n)) (A_IL_add (gST_places σ) (-1)))
def K_ST_add (σ : tST) (n : Int32) : Nat := (K_IL_add (gST_takings σ) n) + ((K_IL_add (gST_places σ) (-1)) + 0)
set_option maxHeartbeats 4000000 in
set_option maxRecDepth 100000 in
theorem c_ST_add (l : Launch) (G : pG) (h0 : Nat) (ad : Nat → Nat) (σ : tST) (n : Int32) (H : Heap) (w : va_W) (hP0 : va_P G.1 vwCl w H) (hD0 : va_D (fun _ => True) w) (hσ : pST G h0 ad σ w) (res : Int32 × tST) (hr0 : A_ST_add σ n = res) (Kt : Nat) (hk : K_ST_add σ n = Kt) (hKb : Kt ≤ 16777216) : MWi l y_ST_add w_ST_add 3 103 Kt G [.ref h0, .int n] H w res.1 (pST G h0 ad res.2) := by
  refine Met.ofW (cc := b_ST_add) (maxL := 2) (ret := (some .int)) (by decide) rfl ?_
  intro p e s m args below meth c s₁ B hml hv
  obtain ⟨rfl, rfl, hK⟩ := hv
  have hx := B.exec
  have hb := B.bytes
  have hr := B.returns
  have hts0 := atoms_spec (ws := w_ST_add) B.pre
  have hts := fun w (h : w ∈ lw_g) => hts0 w (List.mem_cons_of_mem _ h)
  have hown : s.vm.findClass RST = some m.cls := findClass_of_methodNamed B.named
  have hlocks := B.notSynchronized
  have hA : ∀ q : Nat, s.heap.size ≤ q → va_A w s.heap.size q := fun _ h => Or.inr h
  have hB : bk G.1 vwCl (va_A w s.heap.size) [w] s.heap := bk_init hP0 hD0
  generalize va_A w s.heap.size = A at *
  have hS : va_S A s.heap s.heap [] := va_S.rf
  obtain ⟨w1, w3, rfl, h2, h4⟩ := hσ
  have hB := bk_many hB
  have hk : 0 + K_ST_add σ n = Kt := (Nat.zero_add _).trans hk
  have hl := lv_entry ([.ref h0, .int n]) (n := 2) (Nat.le_of_ble_eq_true rfl)
  rw [lg_entry_eq]
  generalize (lg_sl ([.ref h0, .int n]) ++ List.replicate (2 - (lg_sl ([.ref h0, .int n])).length) Slot.unset).toArray = ls at hl ⊢
  have hl : lv_has ls 2 [(0, .ref h0), (1, .int n)] := hl
  unfold A_ST_add at hr0
  unfold K_ST_add at hk
  refine lv_aload_n hx hb d_ST_add_0 rfl (lv_at hl 0 rfl) ?_
  refine va_get (D := G.1) (ci := 3) (v := .ref (ad 0)) (C := RST) (T := TST) (N := 3) hx hb hts inST hown hK hB.1 0 rfl rfl 0 (by decide) (hts _ fl_ST_12) (fun _ h9 => h9) rfl d_ST_add_1 ?_
  refine lv_iload_n hx hb d_ST_add_4 rfl (lv_at hl 1 rfl) ?_
  refine wrV (G := G) (k := 1) (As := [.int n]) (rest := []) (C := RIL) ⟨hx, hb, hml, hown, hts⟩ (c_IL_add l G (ad 0) (gST_takings σ) n _ _ (bk_gP (k := 1) hB.1 rfl) (bk_own (k := 1) hB rfl) h2 _ rfl _ rfl (bk_ub hk hKb)) (cwV 1 hts (gd_V ml_ST_33 im_IL_add sl_IL_add ini_IL k_IL_add) rfl rmK_c rmK_s (by decide +kernel) ⟨Nat.le_of_ble_eq_true rfl, Nat.le_of_ble_eq_true rfl⟩) hK (pIL_recv hK (bk_gP (k := 1) hB.1 rfl) h2) hS hA hB rfl hk ⟨rfl, rfl⟩ rfl hl.1 (Nat.le_of_ble_eq_true rfl) d_ST_add_5 (fun u5 H locs kc hu6 hB hS hk => ?_)
  have hB : bk G.1 vwCl A [[(h0, .inr (3, [.ref (ad 0), .ref (ad 1), .int (gST_mandatories σ)]))], u5, w3] H := hB
  refine lv_aload_n hx hb d_ST_add_8 rfl (lv_at hl 0 rfl) ?_
  refine va_get (D := G.1) (ci := 3) (v := .ref (ad 1)) (C := RST) (T := TST) (N := 3) hx hb hts inST hown hK hB.1 0 rfl rfl 1 (by decide) (hts _ fl_ST_18) (fun _ h9 => h9) rfl d_ST_add_9 ?_
  refine lv_iconst (v := (-1)) hx hb d_ST_add_12 (by decide) ?_
  refine wrV (G := G) (k := 2) (As := [.int (-1)]) (rest := []) (C := RIL) ⟨hx, hb, hml, hown, hts⟩ (c_IL_add l G (ad 1) (gST_places σ) (-1) _ _ (bk_gP (k := 2) hB.1 rfl) (bk_own (k := 2) hB rfl) h4 _ rfl _ rfl (bk_ub hk hKb)) (cwV 1 hts (gd_V ml_ST_33 im_IL_add sl_IL_add ini_IL k_IL_add) rfl rmK_c rmK_s (by decide +kernel) ⟨Nat.le_of_ble_eq_true rfl, Nat.le_of_ble_eq_true rfl⟩) hK (pIL_recv hK (bk_gP (k := 2) hB.1 rfl) h4) hS hA hB rfl hk ⟨rfl, rfl⟩ rfl hl.1 (Nat.le_of_ble_eq_true rfl) d_ST_add_13 (fun u7 H locs kc hu8 hB hS hk => ?_)
  have hB : bk G.1 vwCl A [[(h0, .inr (3, [.ref (ad 0), .ref (ad 1), .int (gST_mandatories σ)]))], u5, u7] H := hB
  refine lv_aload_n hx hb d_ST_add_16 rfl (lv_at hl 0 rfl) ?_
  refine va_get (D := G.1) (ci := 3) (v := .ref (ad 0)) (C := RST) (T := TST) (N := 3) hx hb hts inST hown hK hB.1 0 rfl rfl 0 (by decide) (hts _ fl_ST_12) (fun _ h9 => h9) rfl d_ST_add_17 ?_
  refine rdV (G := G) (As := []) (rest := []) (C := RIL) ⟨hx, hb, hml, hown, hts⟩ (c_IL_length l G (ad 0) (A_IL_add (gST_takings σ) n) _ _ (bk_gP (k := 1) hB.1 rfl) hu6 _ rfl) (cwV 0 hts (gd_V ml_ST_25 im_IL_length sl_IL_length ini_IL k_IL_length) rfl rmK_c rmK_s (by decide +kernel) ⟨Nat.le_of_ble_eq_true rfl, Nat.le_of_ble_eq_true rfl⟩) hK (pIL_recv hK (bk_gP (k := 1) hB.1 rfl) hu6) hS ⟨Nat.le.intro hk, Nat.le.intro hk⟩ rfl hl.1 (Nat.le_of_ble_eq_true rfl) d_ST_add_20 (fun locs hS => ?_)
  refine lv_iconst (v := 1) hx hb d_ST_add_23 (by decide) ?_
  refine lv_isub hx hb d_ST_add_24 ?_
  subst hr0
  refine W.widen (k := Kt) (n := Kt) (Nat.le.intro hk) (Nat.le.intro hk) ?_
  exact W.iret (v := ((A_IL_length (A_IL_add (gST_takings σ) n)) - 1)) hx hb hr (fun t ht hW => ⟨⟨((A_IL_length (A_IL_add (gST_takings σ) n)) - 1), [[(h0, .inr (3, [.ref (ad 0), .ref (ad 1), .int (gST_mandatories σ)]))], u5, u7].flatten, rfl, ⟨rfl, ⟨u5, u7, rfl, hu6, hu8⟩⟩, by rw [ht]; exact hB.1, hB.2⟩, hS.F ht⟩) hS.2.2 d_ST_add_25

def A_ST_addMandatory (σ : tST) (i : Int32) : Int32 × tST := ((gST_mandatories σ) + 1, uST_mandatories (uST_places σ (A_IL_put (gST_places σ) i (gST_mandatories σ))) ((gST_mandatories σ) + 1))
set_option maxHeartbeats 4000000 in
set_option maxRecDepth 100000 in
theorem c_ST_addMandatory (l : Launch) (G : pG) (h0 : Nat) (ad : Nat → Nat) (σ : tST) (i : Int32) (H : Heap) (w : va_W) (hP0 : va_P G.1 vwCl w H) (hD0 : va_D (fun _ => True) w) (hσ : pST G h0 ad σ w) (res : Int32 × tST) (hr0 : A_ST_addMandatory σ i = res) : MWi l y_ST_addMandatory w_ST_addMandatory 1 22 0 G [.ref h0, .int i] H w res.1 (pST G h0 ad res.2) := by
  refine Met.ofW (cc := b_ST_addMandatory) (maxL := 2) (ret := (some .int)) (by decide) rfl ?_
  intro p e s m args below meth c s₁ B hml hv
  obtain ⟨rfl, rfl, hK⟩ := hv
  have hx := B.exec
  have hb := B.bytes
  have hr := B.returns
  have hts0 := atoms_spec (ws := w_ST_addMandatory) B.pre
  have hts := fun w (h : w ∈ lw_g) => hts0 w (List.mem_cons_of_mem _ h)
  have hown : s.vm.findClass RST = some m.cls := findClass_of_methodNamed B.named
  have hlocks := B.notSynchronized
  have hA : ∀ q : Nat, s.heap.size ≤ q → va_A w s.heap.size q := fun _ h => Or.inr h
  have hB : bk G.1 vwCl (va_A w s.heap.size) [w] s.heap := bk_init hP0 hD0
  generalize va_A w s.heap.size = A at *
  have hS : va_S A s.heap s.heap [] := va_S.rf
  obtain ⟨w1, w3, rfl, h2, h4⟩ := hσ
  have hB := bk_many hB
  have hk : 0 + 0 = 0 := rfl
  have hl := lv_entry ([.ref h0, .int i]) (n := 2) (Nat.le_of_ble_eq_true rfl)
  rw [lg_entry_eq]
  generalize (lg_sl ([.ref h0, .int i]) ++ List.replicate (2 - (lg_sl ([.ref h0, .int i])).length) Slot.unset).toArray = ls at hl ⊢
  have hl : lv_has ls 2 [(0, .ref h0), (1, .int i)] := hl
  unfold A_ST_addMandatory at hr0
  refine lv_aload_n hx hb d_ST_addMandatory_0 rfl (lv_at hl 0 rfl) ?_
  refine va_get (D := G.1) (ci := 3) (v := .ref (ad 1)) (C := RST) (T := TST) (N := 3) hx hb hts inST hown hK hB.1 0 rfl rfl 1 (by decide) (hts _ fl_ST_18) (fun _ h9 => h9) rfl d_ST_addMandatory_1 ?_
  refine lv_iload_n hx hb d_ST_addMandatory_4 rfl (lv_at hl 1 rfl) ?_
  refine lv_aload_n hx hb d_ST_addMandatory_5 rfl (lv_at hl 0 rfl) ?_
  refine va_get (D := G.1) (ci := 3) (v := .int (gST_mandatories σ)) (C := RST) (T := TST) (N := 3) hx hb hts inST hown hK hB.1 0 rfl rfl 2 (by decide) (hts _ fl_ST_21) (fun _ h9 => h9) rfl d_ST_addMandatory_6 ?_
  refine wrV0 (G := G) (k := 2) (As := [.int i, .int (gST_mandatories σ)]) (rest := []) (C := RIL) ⟨hx, hb, hml, hown, hts⟩ (c_IL_put l G (ad 1) (gST_places σ) i (gST_mandatories σ) _ _ (bk_gP (k := 2) hB.1 rfl) (bk_own (k := 2) hB rfl) h4 _ rfl) (cwV 2 hts (gd_V ml_ST_37 im_IL_put sl_IL_put ini_IL k_IL_put) rfl rmK_c rmK_s (by decide +kernel) ⟨Nat.le_of_ble_eq_true rfl, Nat.le_of_ble_eq_true rfl⟩) hK (pIL_recv hK (bk_gP (k := 2) hB.1 rfl) h4) hS hA hB rfl hk ⟨rfl, rfl⟩ rfl hl.1 (Nat.le_of_ble_eq_true rfl) d_ST_addMandatory_9 (fun u5 H locs hu6 hB hS => ?_)
  have hB : bk G.1 vwCl A [[(h0, .inr (3, [.ref (ad 0), .ref (ad 1), .int (gST_mandatories σ)]))], w1, u5] H := hB
  refine lv_aload_n hx hb d_ST_addMandatory_12 rfl (lv_at hl 0 rfl) ?_
  refine lv_dup hx hb d_ST_addMandatory_13 rfl ?_
  refine va_get (D := G.1) (ci := 3) (v := .int (gST_mandatories σ)) (C := RST) (T := TST) (N := 3) hx hb hts inST hown hK hB.1 0 rfl rfl 2 (by decide) (hts _ fl_ST_21) (fun _ h9 => h9) rfl d_ST_addMandatory_14 ?_
  refine lv_iconst (v := 1) hx hb d_ST_addMandatory_17 (by decide) ?_
  refine lv_iadd hx hb d_ST_addMandatory_18 ?_
  refine va_put (D := G.1) (ci := 3) (v := .int ((gST_mandatories σ) + 1)) (ty := .int) (C := RST) (T := TST) (N := 3) hx hb hts inST tyST tokST nmST hown hK hB.1 hB.2 hS 0 rfl rfl 2 (by decide) (hts _ fl_ST_21) (fun _ h9 => h9) rfl (by decide +kernel) rfl rfl (Nat.le_of_ble_eq_true rfl) d_ST_addMandatory_19 (fun H locs hP hD hS => ?_)
  have hB : bk G.1 vwCl A [[(h0, .inr (3, [.ref (ad 0), .ref (ad 1), .int ((gST_mandatories σ) + 1)]))], w1, u5] H := ⟨hP, hD⟩
  refine lv_aload_n hx hb d_ST_addMandatory_22 rfl (lv_at hl 0 rfl) ?_
  refine va_get (D := G.1) (ci := 3) (v := .int ((gST_mandatories σ) + 1)) (C := RST) (T := TST) (N := 3) hx hb hts inST hown hK hB.1 0 rfl rfl 2 (by decide) (hts _ fl_ST_21) (fun _ h9 => h9) rfl d_ST_addMandatory_23 ?_
  subst hr0
  refine W.widen (k := 0) (n := 0) (Nat.le_refl _) (Nat.le_refl _) ?_
  exact W.iret (v := ((gST_mandatories σ) + 1)) hx hb hr (fun t ht hW => ⟨⟨((gST_mandatories σ) + 1), [[(h0, .inr (3, [.ref (ad 0), .ref (ad 1), .int ((gST_mandatories σ) + 1)]))], w1, u5].flatten, rfl, ⟨rfl, ⟨w1, u5, rfl, h2, hu6⟩⟩, by rw [ht]; exact hB.1, hB.2⟩, hS.F ht⟩) hS.2.2 d_ST_addMandatory_26
