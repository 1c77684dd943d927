set_option maxHeartbeats 4000000 in
set_option maxRecDepth 100000 in
theorem c_IL_put (l : Launch) (G : pG) (h0 : Nat) (x : tIL) (k : Int32) (v : Int32) (H : Heap) (w : va_W) (hP0 : va_P G.1 vwCl w H) (hD0 : va_D (fun _ => True) w) (hσ : pIL G h0 x w) (res : tIL) (hr0 : A_IL_put x k v = res) : MWv l y_IL_put w_IL_put 0 0 0 G [.ref h0, .int k, .int v] H w (pIL G h0 res) := by
  refine Met.ofW (cc := b_IL_put) (maxL := 3) (ret := none) (by decide) rfl ?_
  intro p e s m args below meth c s₁ B hml hv
  obtain ⟨rfl, rfl, hK⟩ := hv
  have hx := B.exec
  have hb := B.bytes
  have hr := B.returns
  have hts0 := atoms_spec (ws := w_IL_put) B.pre
  have hts := fun w (h : w ∈ lw_g) => hts0 w (List.mem_cons_of_mem _ h)
  have hown : s.vm.findClass RIL = some m.cls := findClass_of_methodNamed B.named
  have hlocks := B.notSynchronized
  have hA : ∀ q : Nat, s.heap.size ≤ q → va_A w s.heap.size q := fun _ h => Or.inr h
  have hB : bk G.1 vwCl (va_A w s.heap.size) [w] s.heap := bk_init hP0 hD0
  generalize va_A w s.heap.size = A at *
  have hS : va_S A s.heap s.heap [] := va_S.rf
  obtain ⟨q, f, rfl, hc, hf⟩ := hσ
  have hB := bk_many hB
  have hl := lv_entry ([.ref h0, .int k, .int v]) (n := 3) (Nat.le_of_ble_eq_true rfl)
  rw [lg_entry_eq]
  generalize (lg_sl ([.ref h0, .int k, .int v]) ++ List.replicate (3 - (lg_sl ([.ref h0, .int k, .int v])).length) Slot.unset).toArray = ls at hl ⊢
  have hl : lv_has ls 3 [(0, .ref h0), (1, .int k), (2, .int v)] := hl
  unfold A_IL_put at hr0
  have fin : ∀ (H : Heap) (locs : List Loc) (ls : Array Slot) (g : Nat → Int32) (z : tIL), z = res → z.2 = x.2 → z.1.length = x.1.length → (∀ i, i < z.1.length → g i = z.1.getD i 0) → bk G.1 vwCl A [[(h0, .inr (0, [.ref q, .int (nI x.1.length)]))], [(q, .inl (G.2.1, x.2, .inl g))]] H → va_S A s.heap H locs → W p l e (headSpec w_IL_put (rmK 0 0 0)).room s m [.ref h0, .int k, .int v].toArray below meth c H locs 0 0 (MQ below (va_Qv (fun u => pIL G h0 res u) (fun u t => va_P G.1 vwCl u t.heap ∧ va_D A u) A) [.ref h0, .int k, .int v].toArray s 0 0 A) (F0 m 19 ls []) := by
    intro H locs ls g z hz h2 h1 hg hB hS
    subst hz
    exact W.vret hx hb hr (fun t ht hW => ⟨⟨[[(h0, .inr (0, [.ref q, .int (nI x.1.length)]))], [(q, .inl (G.2.1, x.2, .inl g))]].flatten, rfl, ⟨q, g, by rw [h1, h2], by rw [h1, h2]; exact hc, hg⟩, by rw [ht]; exact hB.1, hB.2⟩, hS.F ht⟩) hS.2.2 d_IL_put_19
  refine lv_iload_n hx hb d_IL_put_0 rfl (lv_at hl 1 rfl) ?_
  refine lv_if_lt (tgt := 19) hx hb d_IL_put_1 (by decide) (fun c1 => ?_) (fun c1 => ?_)
  · exact fin _ _ _ f x (ai_pos c1 hr0) rfl rfl hf hB hS
  · have hr0 := ai_neg c1 hr0
    refine lv_iload_n hx hb d_IL_put_4 rfl (lv_at hl 1 rfl) ?_
    refine lv_aload_n hx hb d_IL_put_5 rfl (lv_at hl 0 rfl) ?_
    refine va_get (D := G.1) (ci := 0) (v := .int (nI x.1.length)) (C := RIL) (T := TIL) (N := 2) hx hb hts inIL hown hK hB.1 0 rfl rfl 1 (by decide) (hts _ fl_IL_15) (fun _ h9 => h9) rfl d_IL_put_6 ?_
    refine lv_icmp_ge (tgt := 19) hx hb d_IL_put_9 (by decide) (fun c2 => ?_) (fun c2 => ?_)
    · exact fin _ _ _ f x (ai_pos c2 hr0) rfl rfl hf hB hS
    · have hr0 := ai_neg c2 hr0
      refine lv_aload_n hx hb d_IL_put_12 rfl (lv_at hl 0 rfl) ?_
      refine va_get (D := G.1) (ci := 0) (v := .ref q) (C := RIL) (T := TIL) (N := 2) hx hb hts inIL hown hK hB.1 0 rfl rfl 0 (by decide) (hts _ fl_IL_11) (fun _ h9 => h9) rfl d_IL_put_13 ?_
      refine lv_iload_n hx hb d_IL_put_16 rfl (lv_at hl 1 rfl) ?_
      refine lv_iload_n hx hb d_IL_put_17 rfl (lv_at hl 2 rfl) ?_
      obtain ⟨j, hj, rfl, -, hcl, -⟩ := pk_mu c1 c2 (by omega)
      refine va_iast hx hb hK hB.1 hB.2 hS 1 0 rfl rfl (vp_in_nI (by omega) (by omega)) d_IL_put_18 (fun H locs hP hD hS => ?_)
      rw [hcl] at hP hD hr0
      refine fin H locs _ (upd f j v) _ hr0 rfl (by simp) (fun i hi => ?_) ⟨hP, hD⟩ hS
      simp only [List.length_set] at hi
      by_cases h : i = j
      · subst h
        rw [pk_us]; simp [List.getD_eq_getElem?_getD, hi]
      · rw [pk_un h, hf i hi]
        simp [List.getD_eq_getElem?_getD, List.getElem?_set_ne (Ne.symm h)]

set_option maxHeartbeats 4000000 in
set_option maxRecDepth 100000 in
theorem c_IL_cut (l : Launch) (G : pG) (h0 : Nat) (x : tIL) (k : Int32) (H : Heap) (w : va_W) (hP0 : va_P G.1 vwCl w H) (hD0 : va_D (fun _ => True) w) (hσ : pIL G h0 x w) (res : tIL) (hr0 : A_IL_cut x k = res) : MWv l y_IL_cut w_IL_cut 0 0 0 G [.ref h0, .int k] H w (pIL G h0 res) := by
  refine Met.ofW (cc := b_IL_cut) (maxL := 2) (ret := none) (by decide) rfl ?_
  intro p e s m args below meth c s₁ B hml hv
  obtain ⟨rfl, rfl, hK⟩ := hv
  have hx := B.exec
  have hb := B.bytes
  have hr := B.returns
  have hts0 := atoms_spec (ws := w_IL_cut) B.pre
  have hts := fun w (h : w ∈ lw_g) => hts0 w (List.mem_cons_of_mem _ h)
  have hown : s.vm.findClass RIL = some m.cls := findClass_of_methodNamed B.named
  have hlocks := B.notSynchronized
  have hA : ∀ q : Nat, s.heap.size ≤ q → va_A w s.heap.size q := fun _ h => Or.inr h
  have hB : bk G.1 vwCl (va_A w s.heap.size) [w] s.heap := bk_init hP0 hD0
  generalize va_A w s.heap.size = A at *
  have hS : va_S A s.heap s.heap [] := va_S.rf
  obtain ⟨q, f, rfl, hc, hf⟩ := hσ
  have hB := bk_many hB
  have hl := lv_entry ([.ref h0, .int k]) (n := 2) (Nat.le_of_ble_eq_true rfl)
  rw [lg_entry_eq]
  generalize (lg_sl ([.ref h0, .int k]) ++ List.replicate (2 - (lg_sl ([.ref h0, .int k])).length) Slot.unset).toArray = ls at hl ⊢
  have hl : lv_has ls 2 [(0, .ref h0), (1, .int k)] := hl
  unfold A_IL_cut at hr0
  refine lv_iload_n hx hb d_IL_cut_0 rfl (lv_at hl 1 rfl) ?_
  refine lv_if_lt (tgt := 17) hx hb d_IL_cut_1 (by decide) (fun c1 => ?_) (fun c1 => ?_)
  · have hr0 := ai_pos c1 hr0
    subst hr0
    exact W.vret hx hb hr (fun t ht hW => ⟨⟨[[(h0, .inr (0, [.ref q, .int (nI x.1.length)]))], [(q, .inl (G.2.1, x.2, .inl f))]].flatten, rfl, ⟨q, f, rfl, hc, hf⟩, by rw [ht]; exact hB.1, hB.2⟩, hS.F ht⟩) hS.2.2 d_IL_cut_17
  · have hr0 := ai_neg c1 hr0
    refine lv_iload_n hx hb d_IL_cut_4 rfl (lv_at hl 1 rfl) ?_
    refine lv_aload_n hx hb d_IL_cut_5 rfl (lv_at hl 0 rfl) ?_
    refine va_get (D := G.1) (ci := 0) (v := .int (nI x.1.length)) (C := RIL) (T := TIL) (N := 2) hx hb hts inIL hown hK hB.1 0 rfl rfl 1 (by decide) (hts _ fl_IL_15) (fun _ h9 => h9) rfl d_IL_cut_6 ?_
    refine lv_icmp_ge (tgt := 17) hx hb d_IL_cut_9 (by decide) (fun c2 => ?_) (fun c2 => ?_)
    · have hr0 := ai_pos c2 hr0
      subst hr0
      exact W.vret hx hb hr (fun t ht hW => ⟨⟨[[(h0, .inr (0, [.ref q, .int (nI x.1.length)]))], [(q, .inl (G.2.1, x.2, .inl f))]].flatten, rfl, ⟨q, f, rfl, hc, hf⟩, by rw [ht]; exact hB.1, hB.2⟩, hS.F ht⟩) hS.2.2 d_IL_cut_17
    · have hr0 := ai_neg c2 hr0
      refine lv_aload_n hx hb d_IL_cut_12 rfl (lv_at hl 0 rfl) ?_
      refine lv_iload_n hx hb d_IL_cut_13 rfl (lv_at hl 1 rfl) ?_
      obtain ⟨j, hj, rfl, -, hcl, -⟩ := pk_mu c1 c2 (by omega)
      rw [hcl] at hr0
      refine va_put (D := G.1) (ci := 0) (v := .int (nI j)) (ty := .int) (C := RIL) (T := TIL) (N := 2) hx hb hts inIL tyIL tokIL nmIL hown hK hB.1 hB.2 hS 0 rfl rfl 1 (by decide) (hts _ fl_IL_15) (fun _ h9 => h9) rfl (by decide +kernel) rfl rfl (Nat.le_of_ble_eq_true rfl) d_IL_cut_14 (fun H locs hP hD hS => ?_)
      have hB : bk G.1 vwCl A [[(h0, .inr (0, [.ref q, .int (nI j)]))], [(q, .inl (G.2.1, x.2, .inl f))]] H := ⟨hP, hD⟩
      subst hr0
      have hln : (x.1.take j).length = j := by simp; omega
      exact W.vret hx hb hr (fun t ht hW => ⟨⟨[[(h0, .inr (0, [.ref q, .int (nI j)]))], [(q, .inl (G.2.1, x.2, .inl f))]].flatten, rfl, ⟨q, f, by simp only [hln], by simp only [hln]; omega, fun i hi => by
        have hi : i < j := by simpa only [hln] using hi
        rw [hf i (by omega)]
        simp [List.getD_eq_getElem?_getD, List.getElem?_take, hi]⟩, by rw [ht]; exact hB.1, hB.2⟩, hS.F ht⟩) hS.2.2 d_IL_cut_17

theorem il_app {xs : List Int32} {f : Nat → Int32} {v : Int32} (hf : ∀ i, i < xs.length → f i = xs.getD i 0) : ∀ i, i < (xs ++ [v]).length → upd f xs.length v i = (xs ++ [v]).getD i 0 := by
  intro i hi
  simp only [List.length_append, List.length_cons, List.length_nil] at hi
  by_cases h : i = xs.length
  · subst h; rw [pk_us]; simp [List.getD_eq_getElem?_getD]
  · rw [pk_un h, hf i (by omega)]
    simp [List.getD_eq_getElem?_getD, List.getElem?_append_left (show i < xs.length by omega)]

set_option maxHeartbeats 4000000 in
set_option maxRecDepth 100000 in
theorem c_IL_add (l : Launch) (G : pG) (h0 : Nat) (x : tIL) (v : Int32) (H : Heap) (w : va_W) (hP0 : va_P G.1 vwCl w H) (hD0 : va_D (fun _ => True) w) (hσ : pIL G h0 x w) (res : tIL) (hr0 : A_IL_add x v = res) (Kt : Nat) (hk : K_IL_add x v = Kt) (hKb : Kt ≤ 16777216) : MWv l y_IL_add w_IL_add 2 82 Kt G [.ref h0, .int v] H w (pIL G h0 res) := by
  refine Met.ofW (cc := b_IL_add) (maxL := 2) (ret := none) (by decide) rfl ?_
  intro p e s m args below meth c s₁ B hml hv
  obtain ⟨rfl, rfl, hK⟩ := hv
  have hx := B.exec
  have hb := B.bytes
  have hr := B.returns
  have hts0 := atoms_spec (ws := w_IL_add) B.pre
  have hts := fun w (h : w ∈ lw_g) => hts0 w (List.mem_cons_of_mem _ h)
  have hown : s.vm.findClass RIL = some m.cls := findClass_of_methodNamed B.named
  have hlocks := B.notSynchronized
  have hA : ∀ q : Nat, s.heap.size ≤ q → va_A w s.heap.size q := fun _ h => Or.inr h
  have hB : bk G.1 vwCl (va_A w s.heap.size) [w] s.heap := bk_init hP0 hD0
  generalize va_A w s.heap.size = A at *
  have hS : va_S A s.heap s.heap [] := va_S.rf
  obtain ⟨q, f, rfl, hc, hf⟩ := hσ
  have hB := bk_many hB
  have hl := lv_entry ([.ref h0, .int v]) (n := 2) (Nat.le_of_ble_eq_true rfl)
  rw [lg_entry_eq]
  generalize (lg_sl ([.ref h0, .int v]) ++ List.replicate (2 - (lg_sl ([.ref h0, .int v])).length) Slot.unset).toArray = ls at hl ⊢
  have hl : lv_has ls 2 [(0, .ref h0), (1, .int v)] := hl
  unfold K_IL_add at hk
  subst hr0
  refine lv_aload_n hx hb d_IL_add_0 rfl (lv_at hl 0 rfl) ?_
  refine va_get (D := G.1) (ci := 0) (v := .int (nI x.1.length)) (C := RIL) (T := TIL) (N := 2) hx hb hts inIL hown hK hB.1 0 rfl rfl 1 (by decide) (hts _ fl_IL_15) (fun _ h9 => h9) rfl d_IL_add_1 ?_
  refine lv_aload_n hx hb d_IL_add_4 rfl (lv_at hl 0 rfl) ?_
  refine va_get (D := G.1) (ci := 0) (v := .ref q) (C := RIL) (T := TIL) (N := 2) hx hb hts inIL hown hK hB.1 0 rfl rfl 0 (by decide) (hts _ fl_IL_11) (fun _ h9 => h9) rfl d_IL_add_5 ?_
  refine va_alen (v := nI x.2) hx hb hK hB.1 1 0 rfl rfl rfl d_IL_add_8 ?_
  refine lv_icmp_lt (tgt := 29) hx hb d_IL_add_9 (by decide) (fun c1 => ?_) (fun c1 => ?_)
  · have hlt : x.1.length < x.2 := (nI_ltI (by omega) (by omega)).mp c1
    have hcap : x.1.length < x.2 := hlt
    refine lv_aload_n hx hb d_IL_add_29 rfl (lv_at hl 0 rfl) ?_
    refine va_get (D := G.1) (ci := 0) (v := .ref q) (C := RIL) (T := TIL) (N := 2) hx hb hts inIL hown hK hB.1 0 rfl rfl 0 (by decide) (hts _ fl_IL_11) (fun _ h9 => h9) rfl d_IL_add_30 ?_
    refine lv_aload_n hx hb d_IL_add_33 rfl (lv_at hl 0 rfl) ?_
    refine va_get (D := G.1) (ci := 0) (v := .int (nI x.1.length)) (C := RIL) (T := TIL) (N := 2) hx hb hts inIL hown hK hB.1 0 rfl rfl 1 (by decide) (hts _ fl_IL_15) (fun _ h9 => h9) rfl d_IL_add_34 ?_
    refine lv_iload_n hx hb d_IL_add_37 rfl (lv_at hl 1 rfl) ?_
    refine va_iast hx hb hK hB.1 hB.2 hS 1 0 rfl rfl (vp_in_nI (by omega) (by omega)) d_IL_add_38 (fun H locs hP hD hS => ?_)
    rw [nI_clamp (by omega)] at hP hD
    have hB : bk G.1 vwCl A [[(h0, .inr (0, [.ref q, .int (nI x.1.length)]))], [(q, .inl (G.2.1, x.2, .inl (upd f x.1.length v)))]] H := ⟨hP, hD⟩
    refine lv_aload_n hx hb d_IL_add_39 rfl (lv_at hl 0 rfl) ?_
    refine lv_dup hx hb d_IL_add_40 rfl ?_
    refine va_get (D := G.1) (ci := 0) (v := .int (nI x.1.length)) (C := RIL) (T := TIL) (N := 2) hx hb hts inIL hown hK hB.1 0 rfl rfl 1 (by decide) (hts _ fl_IL_15) (fun _ h9 => h9) rfl d_IL_add_41 ?_
    refine lv_iconst (v := 1) hx hb d_IL_add_44 (by decide) ?_
    refine lv_iadd hx hb d_IL_add_45 ?_
    rw [nI_1]
    refine va_put (D := G.1) (ci := 0) (v := .int (nI (x.1.length + 1))) (ty := .int) (C := RIL) (T := TIL) (N := 2) hx hb hts inIL tyIL tokIL nmIL hown hK hB.1 hB.2 hS 0 rfl rfl 1 (by decide) (hts _ fl_IL_15) (fun _ h9 => h9) rfl (by decide +kernel) rfl rfl (Nat.le_of_ble_eq_true rfl) d_IL_add_46 (fun H locs hP hD hS => ?_)
    have hB : bk G.1 vwCl A [[(h0, .inr (0, [.ref q, .int (nI (x.1.length + 1))]))], [(q, .inl (G.2.1, x.2, .inl (upd f x.1.length v)))]] H := ⟨hP, hD⟩
    refine W.widen (k := Kt) (n := Kt) (Nat.zero_le _) (Nat.zero_le _) ?_
    exact W.vret hx hb hr (fun t ht hW => ⟨⟨[[(h0, .inr (0, [.ref q, .int (nI (x.1.length + 1))]))], [(q, .inl (G.2.1, x.2, .inl (upd f x.1.length v)))]].flatten, rfl, ⟨q, upd f x.1.length v, by simp [A_IL_add, hcap], by simp [A_IL_add, hcap]; omega, il_app (by assumption)⟩, by rw [ht]; exact hB.1, hB.2⟩, hS.F ht⟩) hS.2.2 d_IL_add_49

  · have hge : x.1.length = x.2 := by
      rcases Nat.lt_or_ge x.1.length x.2 with h | h
      · exact absurd ((nI_ltI (by omega) (by omega)).mpr h) c1
      · omega
    rw [if_neg (by omega)] at hk
    refine lv_aload_n hx hb d_IL_add_12 rfl (lv_at hl 0 rfl) ?_
    refine lv_aload_n hx hb d_IL_add_13 rfl (lv_at hl 0 rfl) ?_
    refine va_get (D := G.1) (ci := 0) (v := .ref q) (C := RIL) (T := TIL) (N := 2) hx hb hts inIL hown hK hB.1 0 rfl rfl 0 (by decide) (hts _ fl_IL_11) (fun _ h9 => h9) rfl d_IL_add_14 ?_
    refine lv_iconst (v := 2) hx hb d_IL_add_17 (by decide) ?_
    refine lv_aload_n hx hb d_IL_add_18 rfl (lv_at hl 0 rfl) ?_
    refine va_get (D := G.1) (ci := 0) (v := .int (nI x.1.length)) (C := RIL) (T := TIL) (N := 2) hx hb hts inIL hown hK hB.1 0 rfl rfl 1 (by decide) (hts _ fl_IL_15) (fun _ h9 => h9) rfl d_IL_add_19 ?_
    refine lv_imul hx hb d_IL_add_22 ?_
    rw [show (2 : Int32) * nI x.1.length = nI (2 * x.1.length) from (pk_mul 2 x.1.length)]
    refine wrSr (G := G) (k := 1) (As := [.ref q, .int (nI (2 * x.1.length))]) (rest := [.ref h0]) (K := 2 * x.1.length) (rem := 0) (Kt := Kt) ⟨hx, hb, hml, hown, hts⟩ (c_AR_copyI l G q x.2 (2 * x.1.length) f _ _ (bk_gP (k := 1) hB.1 rfl) (bk_own (k := 1) hB rfl) rfl (by omega) (by omega)) (va_cwS 2 hts (gd_S ml_IL_19 sm_AR_copyI ini_AR k_AR_copyI) rfl rfl rfl (by decide +kernel) ⟨Nat.le_of_ble_eq_true rfl, Nat.le_of_ble_eq_true rfl⟩) hK hS hA hB rfl (by omega) ⟨rfl, rfl⟩ rfl hl.1 (Nat.le_of_ble_eq_true rfl) d_IL_add_23 (fun ra u H locs kc hu hB hS hk2 => ?_)
    subst hu
    have hB : bk G.1 vwCl A [[(h0, .inr (0, [.ref q, .int (nI x.1.length)]))], [(q, .inl (G.2.1, x.2, .inl f)), (ra, .inl (G.2.1, 2 * x.1.length, .inl (va_cpy f (fun _ => 0) 0 0 x.2)))]] H := hB
    refine va_put (D := G.1) (ci := 0) (v := .ref ra) (ty := .array .int) (C := RIL) (T := TIL) (N := 2) hx hb hts inIL tyIL tokIL nmIL hown hK hB.1 hB.2 hS 0 rfl rfl 0 (by decide) (hts _ fl_IL_11) (fun _ h9 => h9) rfl (by decide +kernel) rfl rfl (Nat.le_of_ble_eq_true rfl) d_IL_add_26 (fun H locs hP hD hS => ?_)
    have hB : bk G.1 vwCl A [[(h0, .inr (0, [.ref ra, .int (nI x.1.length)]))], [(ra, .inl (G.2.1, (2 * x.1.length), .inl (va_cpy f (fun _ => 0) 0 0 x.2)))]] H := ⟨va_P.sub hP [0, 2] rfl, va_D.sub hD [0, 2] (by decide) rfl⟩
    have hcap : ¬ x.1.length < x.2 := by omega
    have hf2 : ∀ i, i < x.1.length → va_cpy f (fun _ => 0) 0 0 x.2 i = x.1.getD i 0 := fun i hi => by
      rw [pk_cpy_in (Nat.zero_le _) (by omega)]
      simpa using hf i hi
    generalize va_cpy f (fun _ => 0) 0 0 x.2 = g at hB hf2
    clear hf
    refine lv_aload_n hx hb d_IL_add_29 rfl (lv_at hl 0 rfl) ?_
    refine va_get (D := G.1) (ci := 0) (v := .ref ra) (C := RIL) (T := TIL) (N := 2) hx hb hts inIL hown hK hB.1 0 rfl rfl 0 (by decide) (hts _ fl_IL_11) (fun _ h9 => h9) rfl d_IL_add_30 ?_
    refine lv_aload_n hx hb d_IL_add_33 rfl (lv_at hl 0 rfl) ?_
    refine va_get (D := G.1) (ci := 0) (v := .int (nI x.1.length)) (C := RIL) (T := TIL) (N := 2) hx hb hts inIL hown hK hB.1 0 rfl rfl 1 (by decide) (hts _ fl_IL_15) (fun _ h9 => h9) rfl d_IL_add_34 ?_
    refine lv_iload_n hx hb d_IL_add_37 rfl (lv_at hl 1 rfl) ?_
    refine va_iast hx hb hK hB.1 hB.2 hS 1 0 rfl rfl (vp_in_nI (by omega) (by omega)) d_IL_add_38 (fun H locs hP hD hS => ?_)
    rw [nI_clamp (by omega)] at hP hD
    have hB : bk G.1 vwCl A [[(h0, .inr (0, [.ref ra, .int (nI x.1.length)]))], [(ra, .inl (G.2.1, (2 * x.1.length), .inl (upd g x.1.length v)))]] H := ⟨hP, hD⟩
    refine lv_aload_n hx hb d_IL_add_39 rfl (lv_at hl 0 rfl) ?_
    refine lv_dup hx hb d_IL_add_40 rfl ?_
    refine va_get (D := G.1) (ci := 0) (v := .int (nI x.1.length)) (C := RIL) (T := TIL) (N := 2) hx hb hts inIL hown hK hB.1 0 rfl rfl 1 (by decide) (hts _ fl_IL_15) (fun _ h9 => h9) rfl d_IL_add_41 ?_
    refine lv_iconst (v := 1) hx hb d_IL_add_44 (by decide) ?_
    refine lv_iadd hx hb d_IL_add_45 ?_
    rw [nI_1]
    refine va_put (D := G.1) (ci := 0) (v := .int (nI (x.1.length + 1))) (ty := .int) (C := RIL) (T := TIL) (N := 2) hx hb hts inIL tyIL tokIL nmIL hown hK hB.1 hB.2 hS 0 rfl rfl 1 (by decide) (hts _ fl_IL_15) (fun _ h9 => h9) rfl (by decide +kernel) rfl rfl (Nat.le_of_ble_eq_true rfl) d_IL_add_46 (fun H locs hP hD hS => ?_)
    have hB : bk G.1 vwCl A [[(h0, .inr (0, [.ref ra, .int (nI (x.1.length + 1))]))], [(ra, .inl (G.2.1, (2 * x.1.length), .inl (upd g x.1.length v)))]] H := ⟨hP, hD⟩
    refine W.widen (k := Kt) (n := Kt) (by omega) (by omega) ?_
    exact W.vret hx hb hr (fun t ht hW => ⟨⟨[[(h0, .inr (0, [.ref ra, .int (nI (x.1.length + 1))]))], [(ra, .inl (G.2.1, (2 * x.1.length), .inl (upd g x.1.length v)))]].flatten, rfl, ⟨ra, upd g x.1.length v, by simp [A_IL_add, hcap], by simp [A_IL_add, hcap]; omega, il_app (by assumption)⟩, by rw [ht]; exact hB.1, hB.2⟩, hS.F ht⟩) hS.2.2 d_IL_add_49
