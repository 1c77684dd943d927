/-! A LIST OF NUMBERS: what it holds, and its room -/
abbrev tIL : Type := List Int32 × Nat
def pIL (G : pG) (a : Nat) (x : tIL) (w : va_W) : Prop := ∃ (q : Nat) (f : Nat → Int32), w = [[(a, .inr (0, [.ref q, .int (nI x.1.length)]))], [(q, .inl (G.2.1, x.2, .inl f))]].flatten ∧ (x.1.length ≤ x.2 ∧ 1 ≤ x.2 ∧ x.2 ≤ 16777216) ∧ ∀ i, i < x.1.length → f i = x.1.getD i 0
theorem pIL_recv {G : pG} {s : State} {H : Heap} {a : Nat} {x : tIL} {w : va_W} (hK : va_K G.1 vwCl (tyG G) s) (hP : va_P G.1 vwCl w H) (h : pIL G a x w) : ∃ cell : Cell, H[a]? = some cell ∧ cell.vm.isStatics = false ∧ s.vm.findClass RIL = some cell.cls := by
  obtain ⟨q, f, rfl, -, -⟩ := h
  exact va_recv (q0 := 0) (ci := 0) hK hP rfl rfl
def A_IL_length (x : tIL) : Int32 := nI x.1.length
def A_IL_at (x : tIL) (k : Int32) : Int32 := if k < 0 then -1 else if nI x.1.length ≤ k then -1 else x.1.getD k.toNatClampNeg 0
def A_IL_put (x : tIL) (k v : Int32) : tIL := if k < 0 then x else if nI x.1.length ≤ k then x else (x.1.set k.toNatClampNeg v, x.2)
def A_IL_cut (x : tIL) (n : Int32) : tIL := if n < 0 then x else if nI x.1.length ≤ n then x else (x.1.take n.toNatClampNeg, x.2)
def A_IL_add (x : tIL) (v : Int32) : tIL := (x.1 ++ [v], if x.1.length < x.2 then x.2 else 2 * x.1.length)
def K_IL_add (x : tIL) (_v : Int32) : Nat := if x.1.length < x.2 then 0 else 2 * x.1.length
set_option maxHeartbeats 4000000 in
set_option maxRecDepth 100000 in
theorem c_IL_length (l : Launch) (G : pG) (h0 : Nat) (x : tIL) (H : Heap) (w : va_W) (hP0 : va_P G.1 vwCl w H) (hσ : pIL G h0 x w) (res : Int32) (hr0 : A_IL_length x = res) : MRi l y_IL_length w_IL_length 0 0 G [.ref h0] H res := by
  refine Met.ofW (cc := b_IL_length) (maxL := 1) (ret := (some .int)) (by decide) rfl ?_
  intro p e s m args below meth c s₁ B hml hv
  obtain ⟨rfl, rfl, hK⟩ := hv
  have hx := B.exec
  have hb := B.bytes
  have hr := B.returns
  have hts0 := atoms_spec (ws := w_IL_length) B.pre
  have hts := fun w (h : w ∈ lw_g) => hts0 w (List.mem_cons_of_mem _ h)
  have hown : s.vm.findClass RIL = some m.cls := findClass_of_methodNamed B.named
  have hlocks := B.notSynchronized
  obtain ⟨q, f, rfl, hc, hf⟩ := hσ
  have hP := hP0
  obtain ⟨A, hAe⟩ : ∃ A : Nat → Prop, A = fun _ => False := ⟨_, rfl⟩
  rw [← hAe]
  have hS : va_S A s.heap s.heap [] := va_S.rf
  have hl := lv_entry ([.ref h0]) (n := 1) (Nat.le_of_ble_eq_true rfl)
  rw [lg_entry_eq]
  generalize (lg_sl ([.ref h0]) ++ List.replicate (1 - (lg_sl ([.ref h0])).length) Slot.unset).toArray = ls at hl ⊢
  have hl : lv_has ls 1 [(0, .ref h0)] := hl
  refine lv_aload_n hx hb d_IL_length_0 rfl (lv_at hl 0 rfl) ?_
  refine va_get (D := G.1) (ci := 0) (v := .int (nI x.1.length)) (C := RIL) (T := TIL) (N := 2) hx hb hts inIL hown hK hP 0 rfl rfl 1 (by decide) (hts _ fl_IL_15) (fun _ h9 => h9) rfl d_IL_length_1 ?_
  exact W.iret (v := nI x.1.length) hx hb hr (fun t ht hW => ⟨⟨nI x.1.length, (), rfl, hr0, ht⟩, hS.F ht⟩) hS.2.2 d_IL_length_4
set_option maxHeartbeats 4000000 in
set_option maxRecDepth 100000 in
theorem c_IL_at (l : Launch) (G : pG) (h0 : Nat) (x : tIL) (k : Int32) (H : Heap) (w : va_W) (hP0 : va_P G.1 vwCl w H) (hσ : pIL G h0 x w) (res : Int32) (hr0 : A_IL_at x k = res) : MRi l y_IL_at w_IL_at 0 0 G [.ref h0, .int k] H res := by
  refine Met.ofW (cc := b_IL_at) (maxL := 2) (ret := (some .int)) (by decide) rfl ?_
  intro p e s m args below meth c s₁ B hml hv
  obtain ⟨rfl, rfl, hK⟩ := hv
  have hx := B.exec
  have hb := B.bytes
  have hr := B.returns
  have hts0 := atoms_spec (ws := w_IL_at) B.pre
  have hts := fun w (h : w ∈ lw_g) => hts0 w (List.mem_cons_of_mem _ h)
  have hown : s.vm.findClass RIL = some m.cls := findClass_of_methodNamed B.named
  have hlocks := B.notSynchronized
  obtain ⟨q, f, rfl, hc, hf⟩ := hσ
  have hP := hP0
  obtain ⟨A, hAe⟩ : ∃ A : Nat → Prop, A = fun _ => False := ⟨_, rfl⟩
  rw [← hAe]
  have hS : va_S A s.heap s.heap [] := va_S.rf
  have hl := lv_entry ([.ref h0, .int k]) (n := 2) (Nat.le_of_ble_eq_true rfl)
  rw [lg_entry_eq]
  generalize (lg_sl ([.ref h0, .int k]) ++ List.replicate (2 - (lg_sl ([.ref h0, .int k])).length) Slot.unset).toArray = ls at hl ⊢
  have hl : lv_has ls 2 [(0, .ref h0), (1, .int k)] := hl
  unfold A_IL_at at hr0
  refine lv_iload_n hx hb d_IL_at_0 rfl (lv_at hl 1 rfl) ?_
  refine lv_if_lt (tgt := 21) hx hb d_IL_at_1 (by decide) (fun c1 => ?_) (fun c1 => ?_)
  · have hr0 := ai_pos c1 hr0
    refine lv_iconst (v := -1) hx hb d_IL_at_21 (by decide) ?_
    exact W.iret (v := -1) hx hb hr (fun t ht hW => ⟨⟨-1, (), rfl, hr0, ht⟩, hS.F ht⟩) hS.2.2 d_IL_at_22
  · have hr0 := ai_neg c1 hr0
    refine lv_iload_n hx hb d_IL_at_4 rfl (lv_at hl 1 rfl) ?_
    refine lv_aload_n hx hb d_IL_at_5 rfl (lv_at hl 0 rfl) ?_
    refine va_get (D := G.1) (ci := 0) (v := .int (nI x.1.length)) (C := RIL) (T := TIL) (N := 2) hx hb hts inIL hown hK hP 0 rfl rfl 1 (by decide) (hts _ fl_IL_15) (fun _ h9 => h9) rfl d_IL_at_6 ?_
    refine lv_icmp_ge (tgt := 21) hx hb d_IL_at_9 (by decide) (fun c2 => ?_) (fun c2 => ?_)
    · have hr0 := ai_pos c2 hr0
      refine lv_iconst (v := -1) hx hb d_IL_at_21 (by decide) ?_
      exact W.iret (v := -1) hx hb hr (fun t ht hW => ⟨⟨-1, (), rfl, hr0, ht⟩, hS.F ht⟩) hS.2.2 d_IL_at_22
    · have hr0 := ai_neg c2 hr0
      refine lv_aload_n hx hb d_IL_at_12 rfl (lv_at hl 0 rfl) ?_
      refine va_get (D := G.1) (ci := 0) (v := .ref q) (C := RIL) (T := TIL) (N := 2) hx hb hts inIL hown hK hP 0 rfl rfl 0 (by decide) (hts _ fl_IL_11) (fun _ h9 => h9) rfl d_IL_at_13 ?_
      refine lv_iload_n hx hb d_IL_at_16 rfl (lv_at hl 1 rfl) ?_
      obtain ⟨j, hj, rfl, -, hcl, -⟩ := pk_mu c1 c2 (by omega)
      have hin : vp_in (nI j) x.2 := vp_in_nI (by omega) (by omega)
      refine va_iald hx hb hK hP 1 0 rfl rfl hin d_IL_at_17 ?_
      refine lv_goto (tgt := 22) hx hb d_IL_at_18 (by decide) ?_
      rw [hcl, ← hf j hj] at hr0
      rw [hcl]
      exact W.iret (v := f j) hx hb hr (fun t ht hW => ⟨⟨f j, (), rfl, hr0, ht⟩, hS.F ht⟩) hS.2.2 d_IL_at_22
