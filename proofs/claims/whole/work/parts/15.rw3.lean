theorem ks_mul {r : Int32} (h : ¬ r < 0) : (2 : Int32) * r = nI (2 * r.toNatClampNeg) := by
  obtain ⟨j, hj, rfl⟩ := nI_of h
  rw [nI_clamp hj]
  exact pk_mul 2 j
theorem ks_b {r : Int32} {n : Nat} (h : ¬ r < 0) (c : ¬ r < nI n) (h1 : 1 ≤ n) (hn : n ≤ 16777216) : 1 ≤ r.toNatClampNeg ∧ n < 2 * r.toNatClampNeg := by
  obtain ⟨j, hj, rfl⟩ := nI_of h
  rw [nI_clamp hj]
  rcases Nat.lt_or_ge j n with h2 | h2
  · exfalso
    by_cases h3 : n < 2 ^ 31
    · exact c (nI_lt h2 h3)
    · exact absurd h3 (by omega)
  · omega
theorem bk_drop2 {D : va_G} {cl : List vw_C} {A : Nat → Prop} {b0 b1 : va_W} {x y : Nat × va_E} {bs : List va_W} {H : Heap} (h : bk D cl A (b0 :: b1 :: [x, y] :: bs) H) : bk D cl A (b0 :: b1 :: [y] :: bs) H := by
  obtain ⟨hP, hD⟩ := h
  rw [bk_mem] at hP
  rw [bk_nd] at hD
  refine ⟨bk_mem.mpr fun q hq => hP q ?_, bk_nd.mpr ⟨?_, fun q hq => hD.2 q ?_⟩⟩
  · simp only [List.flatten_cons, List.mem_append, List.mem_cons, List.not_mem_nil, or_false] at hq ⊢
    rcases hq with h | h | h | h
    · exact Or.inl h
    · exact Or.inr (Or.inl h)
    · exact Or.inr (Or.inr (Or.inl (Or.inr h)))
    · exact Or.inr (Or.inr (Or.inr h))
  · refine List.Nodup.sublist (List.Sublist.map _ ?_) hD.1
    simp only [List.flatten_cons]
    refine List.Sublist.append (List.Sublist.refl _) (List.Sublist.append (List.Sublist.refl _) (List.Sublist.append ?_ (List.Sublist.refl _)))
    exact List.Sublist.cons _ (List.Sublist.refl _)
  · simp only [List.flatten_cons, List.mem_append, List.mem_cons, List.not_mem_nil, or_false] at hq ⊢
    rcases hq with h | h | h | h
    · exact Or.inl h
    · exact Or.inr (Or.inl h)
    · exact Or.inr (Or.inr (Or.inl (Or.inr h)))
    · exact Or.inr (Or.inr (Or.inr h))
theorem ks_in1 {r : Int32} {n : Nat} (h : ¬ r < 0) (c : r < nI n) (h1 : n ≤ 16777216) : vp_in r n := by
  obtain ⟨j, hj, rfl⟩ := nI_of h
  exact vp_in_nI ((nI_ltI hj (by omega)).mp c) (by omega)
theorem ks_in2 {r : Int32} {n : Nat} (h : ¬ r < 0) (c : 1 ≤ r.toNatClampNeg ∧ n < 2 * r.toNatClampNeg) (hb : 2 * r.toNatClampNeg ≤ 16777216) : vp_in r (2 * r.toNatClampNeg) := by
  obtain ⟨j, hj, rfl⟩ := nI_of h
  rw [nI_clamp hj] at c hb ⊢
  exact vp_in_nI (by omega) (by omega)
theorem pIL_len {G : pG} {a : Nat} {x : tIL} {w : va_W} (h : pIL G a x w) : x.1.length ≤ 16777216 := by
  obtain ⟨q, f, -, hc, -⟩ := h
  omega

def A_RW_kindOfNewRow (σ : tRW) (r : Int32) (start : Int32) : Int32 × tRW := if (A_RW_kindMadeOf σ (gRW_partKinds σ) (A_RW_statementOf σ r) start) = (-1) then (A_RW_amountOfKinds σ, uRW_newestKind (uRW_olderKind (uRW_firstOfKind σ (A_IL_add (gRW_firstOfKind σ) r)) (A_IL_add (gRW_olderKind σ) ((gRW_newestKind σ) (A_RW_bucketOf σ (gRW_partKinds σ) (A_RW_statementOf σ r) start).toNatClampNeg))) (upd (gRW_newestKind σ) (A_RW_bucketOf σ (gRW_partKinds σ) (A_RW_statementOf σ r) start).toNatClampNeg (A_RW_amountOfKinds σ))) else (A_RW_kindMadeOf σ (gRW_partKinds σ) (A_RW_statementOf σ r) start, σ)
def K_RW_kindOfNewRow (σ : tRW) (r : Int32) (start : Int32) : Nat := if (A_RW_kindMadeOf σ (gRW_partKinds σ) (A_RW_statementOf σ r) start) = (-1) then ((K_IL_add (gRW_firstOfKind σ) r) + ((K_IL_add (gRW_olderKind σ) ((gRW_newestKind σ) (A_RW_bucketOf σ (gRW_partKinds σ) (A_RW_statementOf σ r) start).toNatClampNeg)) + 0)) else 0
set_option maxHeartbeats 4000000 in
set_option maxRecDepth 100000 in
theorem c_RW_kindOfNewRow (l : Launch) (G : pG) (h0 : Nat) (ad : Nat → Nat) (σ : tRW) (r : Int32) (start : Int32) (H : Heap) (w : va_W) (hP0 : va_P G.1 vwCl w H) (hD0 : va_D (fun _ => True) w) (hσ : pRW G h0 ad σ w) (res : Int32 × tRW) (hr0 : A_RW_kindOfNewRow σ r start = res) (Kt : Nat) (hk : K_RW_kindOfNewRow σ r start = Kt) (hKb : Kt ≤ 16777216) : MWi l y_RW_kindOfNewRow w_RW_kindOfNewRow 4 103 Kt G [.ref h0, .int r, .int start] H w res.1 (pRW G h0 ad res.2) := by
  refine Met.ofW (cc := b_RW_kindOfNewRow) (maxL := 6) (ret := (some .int)) (by decide) rfl ?_
  intro p e s m args below meth c s₁ B hml hv
  obtain ⟨rfl, rfl, hK⟩ := hv
  have hx := B.exec
  have hb := B.bytes
  have hr := B.returns
  have hts0 := atoms_spec (ws := w_RW_kindOfNewRow) B.pre
  have hts := fun w (h : w ∈ lw_g) => hts0 w (List.mem_cons_of_mem _ h)
  have hown : s.vm.findClass RRW = some m.cls := findClass_of_methodNamed B.named
  have hlocks := B.notSynchronized
  have hA : ∀ q : Nat, s.heap.size ≤ q → va_A w s.heap.size q := fun _ h => Or.inr h
  have hB : bk G.1 vwCl (va_A w s.heap.size) [w] s.heap := bk_init hP0 hD0
  generalize va_A w s.heap.size = A at *
  have hS : va_S A s.heap s.heap [] := va_S.rf
  obtain ⟨q15, q16, w1, w3, w5, w7, w9, w11, w13, rfl, h2, h4, h6, h8, h10, h12, h14, h17⟩ := hσ
  have hB := bk_many hB
  have hk : 0 + K_RW_kindOfNewRow σ r start = Kt := (Nat.zero_add _).trans hk
  have hl := lv_entry ([.ref h0, .int r, .int start]) (n := 6) (Nat.le_of_ble_eq_true rfl)
  rw [lg_entry_eq]
  generalize (lg_sl ([.ref h0, .int r, .int start]) ++ List.replicate (6 - (lg_sl ([.ref h0, .int r, .int start])).length) Slot.unset).toArray = ls at hl ⊢
  have hl : lv_has ls 6 [(0, .ref h0), (1, .int r), (2, .int start)] := hl
  unfold A_RW_kindOfNewRow at hr0
  unfold K_RW_kindOfNewRow at hk
  refine lv_aload_n hx hb d_RW_kindOfNewRow_0 rfl (lv_at hl 0 rfl) ?_
  refine lv_aload_n hx hb d_RW_kindOfNewRow_1 rfl (lv_at hl 0 rfl) ?_
  refine lv_iload_n hx hb d_RW_kindOfNewRow_2 rfl (lv_at hl 1 rfl) ?_
  have hpk18 : pRW G h0 ad σ ([[(h0, .inr (2, [.ref (ad 0), .ref (ad 1), .ref (ad 2), .ref (ad 3), .ref (ad 4), .ref (ad 5), .ref (ad 6), .ref q15, .ref q16]))], [(q15, .inl (G.2.1, 512, .inl (gRW_newestKind σ)))], [(q16, .inl (G.2.2.1, (gRW_steps σ).2, .inr (.inl (gRW_steps σ).1)))], w1, w3, w5, w7, w9, w11, w13].flatten) := ⟨q15, q16, w1, w3, w5, w7, w9, w11, w13, rfl, h2, h4, h6, h8, h10, h12, h14, h17⟩
  refine rdV (G := G) (As := [.int r]) (rest := [.ref h0]) (C := RRW) ⟨hx, hb, hml, hown, hts⟩ (c_RW_statementOf l G h0 ad σ r _ _ hB.1 hpk18 _ rfl) (cwV 1 hts (gd_V ml_RW_90 im_RW_statementOf sl_RW_statementOf ini_RW k_RW_statementOf) rfl rmK_c rmK_s (by decide +kernel) ⟨Nat.le_of_ble_eq_true rfl, Nat.le_of_ble_eq_true rfl⟩) hK (pRW_recv hK hB.1 hpk18) hS ⟨Nat.le.intro hk, Nat.le.intro hk⟩ rfl hl.1 (Nat.le_of_ble_eq_true rfl) d_RW_kindOfNewRow_3 (fun locs hS => ?_)
  refine lv_aload_n hx hb d_RW_kindOfNewRow_6 rfl (lv_at hl 0 rfl) ?_
  refine va_get (D := G.1) (ci := 2) (v := .ref (ad 3)) (C := RRW) (T := TRW) (N := 9) hx hb hts inRW hown hK hB.1 0 rfl rfl 3 (by decide) (hts _ fl_RW_28) (fun _ h9 => h9) rfl d_RW_kindOfNewRow_7 ?_
  refine lv_iload_n hx hb d_RW_kindOfNewRow_10 rfl (lv_at hl 2 rfl) ?_
  have hpk19 : pRW G h0 ad σ ([[(h0, .inr (2, [.ref (ad 0), .ref (ad 1), .ref (ad 2), .ref (ad 3), .ref (ad 4), .ref (ad 5), .ref (ad 6), .ref q15, .ref q16]))], [(q15, .inl (G.2.1, 512, .inl (gRW_newestKind σ)))], [(q16, .inl (G.2.2.1, (gRW_steps σ).2, .inr (.inl (gRW_steps σ).1)))], w1, w3, w5, w7, w9, w11, w13].flatten) := ⟨q15, q16, w1, w3, w5, w7, w9, w11, w13, rfl, h2, h4, h6, h8, h10, h12, h14, h17⟩
  refine rdV (G := G) (As := [.int (A_RW_statementOf σ r), .ref (ad 3), .int start]) (rest := []) (C := RRW) ⟨hx, hb, hml, hown, hts⟩ (c_RW_kindMadeOf l G h0 ad σ (A_RW_statementOf σ r) (ad 3) start _ _ (gRW_partKinds σ) _ (bk_gP (k := 6) hB.1 rfl) h8 hB.1 hpk19 _ rfl) (cwV 3 hts (gd_V ml_RW_93 im_RW_kindMadeOf sl_RW_kindMadeOf ini_RW k_RW_kindMadeOf) rfl rmK_c rmK_s (by decide +kernel) ⟨Nat.le_of_ble_eq_true rfl, Nat.le_of_ble_eq_true rfl⟩) hK (pRW_recv hK hB.1 hpk19) hS ⟨Nat.le.intro hk, Nat.le.intro hk⟩ rfl hl.1 (Nat.le_of_ble_eq_true rfl) d_RW_kindOfNewRow_11 (fun locs hS => ?_)
  refine lv_istore_n (lv' := [(3, .int (A_RW_kindMadeOf σ (gRW_partKinds σ) (A_RW_statementOf σ r) start)), (0, .ref h0), (1, .int r), (2, .int start)]) hx hb d_RW_kindOfNewRow_14 rfl hl (by decide) rfl (fun ls hl => ?_)
  refine lv_iload_n hx hb d_RW_kindOfNewRow_15 rfl (lv_at hl 0 rfl) ?_
  refine lv_iconst (v := (-1)) hx hb d_RW_kindOfNewRow_16 (by decide) ?_
  refine lv_icmp_eq (tgt := 22) hx hb d_RW_kindOfNewRow_17 (by decide) (fun c20 => ?_) (fun c20 => ?_)
  · have hr0 := ai_pos c20 hr0
    have hk := ki_pos c20 hk
    refine lv_aload_n hx hb d_RW_kindOfNewRow_22 rfl (lv_at hl 1 rfl) ?_
    have hpk21 : pRW G h0 ad σ ([[(h0, .inr (2, [.ref (ad 0), .ref (ad 1), .ref (ad 2), .ref (ad 3), .ref (ad 4), .ref (ad 5), .ref (ad 6), .ref q15, .ref q16]))], [(q15, .inl (G.2.1, 512, .inl (gRW_newestKind σ)))], [(q16, .inl (G.2.2.1, (gRW_steps σ).2, .inr (.inl (gRW_steps σ).1)))], w1, w3, w5, w7, w9, w11, w13].flatten) := ⟨q15, q16, w1, w3, w5, w7, w9, w11, w13, rfl, h2, h4, h6, h8, h10, h12, h14, h17⟩
    refine rdV (G := G) (As := []) (rest := []) (C := RRW) ⟨hx, hb, hml, hown, hts⟩ (c_RW_amountOfKinds l G h0 ad σ _ _ hB.1 hpk21 _ rfl) (cwV 0 hts (gd_V ml_RW_97 im_RW_amountOfKinds sl_RW_amountOfKinds ini_RW k_RW_amountOfKinds) rfl rmK_c rmK_s (by decide +kernel) ⟨Nat.le_of_ble_eq_true rfl, Nat.le_of_ble_eq_true rfl⟩) hK (pRW_recv hK hB.1 hpk21) hS ⟨Nat.le.intro hk, Nat.le.intro hk⟩ rfl hl.1 (Nat.le_of_ble_eq_true rfl) d_RW_kindOfNewRow_23 (fun locs hS => ?_)
    refine lv_istore (lv' := [(4, .int (A_RW_amountOfKinds σ)), (3, .int (A_RW_kindMadeOf σ (gRW_partKinds σ) (A_RW_statementOf σ r) start)), (0, .ref h0), (1, .int r), (2, .int start)]) hx hb d_RW_kindOfNewRow_26 hl (by decide) rfl (fun ls hl => ?_)
    refine lv_aload_n hx hb d_RW_kindOfNewRow_28 rfl (lv_at hl 2 rfl) ?_
    refine lv_aload_n hx hb d_RW_kindOfNewRow_29 rfl (lv_at hl 2 rfl) ?_
    refine lv_iload_n hx hb d_RW_kindOfNewRow_30 rfl (lv_at hl 3 rfl) ?_
    have hpk22 : pRW G h0 ad σ ([[(h0, .inr (2, [.ref (ad 0), .ref (ad 1), .ref (ad 2), .ref (ad 3), .ref (ad 4), .ref (ad 5), .ref (ad 6), .ref q15, .ref q16]))], [(q15, .inl (G.2.1, 512, .inl (gRW_newestKind σ)))], [(q16, .inl (G.2.2.1, (gRW_steps σ).2, .inr (.inl (gRW_steps σ).1)))], w1, w3, w5, w7, w9, w11, w13].flatten) := ⟨q15, q16, w1, w3, w5, w7, w9, w11, w13, rfl, h2, h4, h6, h8, h10, h12, h14, h17⟩
    refine rdV (G := G) (As := [.int r]) (rest := [.ref h0]) (C := RRW) ⟨hx, hb, hml, hown, hts⟩ (c_RW_statementOf l G h0 ad σ r _ _ hB.1 hpk22 _ rfl) (cwV 1 hts (gd_V ml_RW_90 im_RW_statementOf sl_RW_statementOf ini_RW k_RW_statementOf) rfl rmK_c rmK_s (by decide +kernel) ⟨Nat.le_of_ble_eq_true rfl, Nat.le_of_ble_eq_true rfl⟩) hK (pRW_recv hK hB.1 hpk22) hS ⟨Nat.le.intro hk, Nat.le.intro hk⟩ rfl hl.1 (Nat.le_of_ble_eq_true rfl) d_RW_kindOfNewRow_31 (fun locs hS => ?_)
    refine lv_aload_n hx hb d_RW_kindOfNewRow_34 rfl (lv_at hl 2 rfl) ?_
    refine va_get (D := G.1) (ci := 2) (v := .ref (ad 3)) (C := RRW) (T := TRW) (N := 9) hx hb hts inRW hown hK hB.1 0 rfl rfl 3 (by decide) (hts _ fl_RW_28) (fun _ h9 => h9) rfl d_RW_kindOfNewRow_35 ?_
    refine lv_iload_n hx hb d_RW_kindOfNewRow_38 rfl (lv_at hl 4 rfl) ?_
    have hpk23 : pRW G h0 ad σ ([[(h0, .inr (2, [.ref (ad 0), .ref (ad 1), .ref (ad 2), .ref (ad 3), .ref (ad 4), .ref (ad 5), .ref (ad 6), .ref q15, .ref q16]))], [(q15, .inl (G.2.1, 512, .inl (gRW_newestKind σ)))], [(q16, .inl (G.2.2.1, (gRW_steps σ).2, .inr (.inl (gRW_steps σ).1)))], w1, w3, w5, w7, w9, w11, w13].flatten) := ⟨q15, q16, w1, w3, w5, w7, w9, w11, w13, rfl, h2, h4, h6, h8, h10, h12, h14, h17⟩
    refine rdV (G := G) (As := [.int (A_RW_statementOf σ r), .ref (ad 3), .int start]) (rest := []) (C := RRW) ⟨hx, hb, hml, hown, hts⟩ (c_RW_bucketOf l G h0 ad σ (A_RW_statementOf σ r) (ad 3) start _ _ (gRW_partKinds σ) _ (bk_gP (k := 6) hB.1 rfl) h8 hB.1 hpk23 _ rfl) (cwV 3 hts (gd_V ml_RW_100 im_RW_bucketOf sl_RW_bucketOf ini_RW k_RW_bucketOf) rfl rmK_c rmK_s (by decide +kernel) ⟨Nat.le_of_ble_eq_true rfl, Nat.le_of_ble_eq_true rfl⟩) hK (pRW_recv hK hB.1 hpk23) hS ⟨Nat.le.intro hk, Nat.le.intro hk⟩ rfl hl.1 (Nat.le_of_ble_eq_true rfl) d_RW_kindOfNewRow_39 (fun locs hS => ?_)
    refine lv_istore (lv' := [(5, .int (A_RW_bucketOf σ (gRW_partKinds σ) (A_RW_statementOf σ r) start)), (4, .int (A_RW_amountOfKinds σ)), (3, .int (A_RW_kindMadeOf σ (gRW_partKinds σ) (A_RW_statementOf σ r) start)), (0, .ref h0), (1, .int r), (2, .int start)]) hx hb d_RW_kindOfNewRow_42 hl (by decide) rfl (fun ls hl => ?_)
    refine lv_aload_n hx hb d_RW_kindOfNewRow_44 rfl (lv_at hl 3 rfl) ?_
    refine va_get (D := G.1) (ci := 2) (v := .ref (ad 5)) (C := RRW) (T := TRW) (N := 9) hx hb hts inRW hown hK hB.1 0 rfl rfl 5 (by decide) (hts _ fl_RW_34) (fun _ h9 => h9) rfl d_RW_kindOfNewRow_45 ?_
    refine lv_iload_n hx hb d_RW_kindOfNewRow_48 rfl (lv_at hl 4 rfl) ?_
    refine wrV (G := G) (k := 8) (As := [.int r]) (rest := []) (C := RIL) ⟨hx, hb, hml, hown, hts⟩ (c_IL_add l G (ad 5) (gRW_firstOfKind σ) r _ _ (bk_gP (k := 8) hB.1 rfl) (bk_own (k := 8) hB rfl) h12 _ rfl _ rfl (bk_ub hk hKb)) (cwV 1 hts (gd_V ml_RW_21 im_IL_add sl_IL_add ini_IL k_IL_add) rfl rmK_c rmK_s (by decide +kernel) ⟨Nat.le_of_ble_eq_true rfl, Nat.le_of_ble_eq_true rfl⟩) hK (pIL_recv hK (bk_gP (k := 8) hB.1 rfl) h12) hS hA hB rfl hk ⟨rfl, rfl⟩ rfl hl.1 (Nat.le_of_ble_eq_true rfl) d_RW_kindOfNewRow_49 (fun u24 H locs kc hu25 hB hS hk => ?_)
    have hB : bk G.1 vwCl A [[(h0, .inr (2, [.ref (ad 0), .ref (ad 1), .ref (ad 2), .ref (ad 3), .ref (ad 4), .ref (ad 5), .ref (ad 6), .ref q15, .ref q16]))], [(q15, .inl (G.2.1, 512, .inl (gRW_newestKind σ)))], [(q16, .inl (G.2.2.1, (gRW_steps σ).2, .inr (.inl (gRW_steps σ).1)))], w1, w3, w5, w7, w9, u24, w13] H := hB
    refine lv_aload_n hx hb d_RW_kindOfNewRow_52 rfl (lv_at hl 3 rfl) ?_
    refine va_get (D := G.1) (ci := 2) (v := .ref (ad 6)) (C := RRW) (T := TRW) (N := 9) hx hb hts inRW hown hK hB.1 0 rfl rfl 6 (by decide) (hts _ fl_RW_37) (fun _ h9 => h9) rfl d_RW_kindOfNewRow_53 ?_
    refine lv_aload_n hx hb d_RW_kindOfNewRow_56 rfl (lv_at hl 3 rfl) ?_
    refine va_get (D := G.1) (ci := 2) (v := .ref q15) (C := RRW) (T := TRW) (N := 9) hx hb hts inRW hown hK hB.1 0 rfl rfl 7 (by decide) (hts _ fl_RW_40) (fun _ h9 => h9) rfl d_RW_kindOfNewRow_57 ?_
    refine lv_iload hx hb d_RW_kindOfNewRow_60 (lv_at hl 0 rfl) ?_
    refine va_iald hx hb hK hB.1 1 0 rfl rfl (bo_in _ _ _ _) d_RW_kindOfNewRow_62 ?_
    refine wrV (G := G) (k := 9) (As := [.int ((gRW_newestKind σ) (A_RW_bucketOf σ (gRW_partKinds σ) (A_RW_statementOf σ r) start).toNatClampNeg)]) (rest := []) (C := RIL) ⟨hx, hb, hml, hown, hts⟩ (c_IL_add l G (ad 6) (gRW_olderKind σ) ((gRW_newestKind σ) (A_RW_bucketOf σ (gRW_partKinds σ) (A_RW_statementOf σ r) start).toNatClampNeg) _ _ (bk_gP (k := 9) hB.1 rfl) (bk_own (k := 9) hB rfl) h14 _ rfl _ rfl (bk_ub hk hKb)) (cwV 1 hts (gd_V ml_RW_21 im_IL_add sl_IL_add ini_IL k_IL_add) rfl rmK_c rmK_s (by decide +kernel) ⟨Nat.le_of_ble_eq_true rfl, Nat.le_of_ble_eq_true rfl⟩) hK (pIL_recv hK (bk_gP (k := 9) hB.1 rfl) h14) hS hA hB rfl hk ⟨rfl, rfl⟩ rfl hl.1 (Nat.le_of_ble_eq_true rfl) d_RW_kindOfNewRow_63 (fun u26 H locs kc hu27 hB hS hk => ?_)
    have hB : bk G.1 vwCl A [[(h0, .inr (2, [.ref (ad 0), .ref (ad 1), .ref (ad 2), .ref (ad 3), .ref (ad 4), .ref (ad 5), .ref (ad 6), .ref q15, .ref q16]))], [(q15, .inl (G.2.1, 512, .inl (gRW_newestKind σ)))], [(q16, .inl (G.2.2.1, (gRW_steps σ).2, .inr (.inl (gRW_steps σ).1)))], w1, w3, w5, w7, w9, u24, u26] H := hB
    refine lv_aload_n hx hb d_RW_kindOfNewRow_66 rfl (lv_at hl 3 rfl) ?_
    refine va_get (D := G.1) (ci := 2) (v := .ref q15) (C := RRW) (T := TRW) (N := 9) hx hb hts inRW hown hK hB.1 0 rfl rfl 7 (by decide) (hts _ fl_RW_40) (fun _ h9 => h9) rfl d_RW_kindOfNewRow_67 ?_
    refine lv_iload hx hb d_RW_kindOfNewRow_70 (lv_at hl 0 rfl) ?_
    refine lv_iload hx hb d_RW_kindOfNewRow_72 (lv_at hl 1 rfl) ?_
    refine va_iast hx hb hK hB.1 hB.2 hS 1 0 rfl rfl (bo_in _ _ _ _) d_RW_kindOfNewRow_74 (fun H locs hP hD hS => ?_)
    have hB : bk G.1 vwCl A [[(h0, .inr (2, [.ref (ad 0), .ref (ad 1), .ref (ad 2), .ref (ad 3), .ref (ad 4), .ref (ad 5), .ref (ad 6), .ref q15, .ref q16]))], [(q15, .inl (G.2.1, 512, .inl (upd (gRW_newestKind σ) (A_RW_bucketOf σ (gRW_partKinds σ) (A_RW_statementOf σ r) start).toNatClampNeg (A_RW_amountOfKinds σ))))], [(q16, .inl (G.2.2.1, (gRW_steps σ).2, .inr (.inl (gRW_steps σ).1)))], w1, w3, w5, w7, w9, u24, u26] H := ⟨hP, hD⟩
    refine lv_iload hx hb d_RW_kindOfNewRow_75 (lv_at hl 1 rfl) ?_
    subst hr0
    refine W.widen (k := Kt) (n := Kt) (Nat.le.intro hk) (Nat.le.intro hk) ?_
    exact W.iret (v := (A_RW_amountOfKinds σ)) hx hb hr (fun t ht hW => ⟨⟨(A_RW_amountOfKinds σ), [[(h0, .inr (2, [.ref (ad 0), .ref (ad 1), .ref (ad 2), .ref (ad 3), .ref (ad 4), .ref (ad 5), .ref (ad 6), .ref q15, .ref q16]))], [(q15, .inl (G.2.1, 512, .inl (upd (gRW_newestKind σ) (A_RW_bucketOf σ (gRW_partKinds σ) (A_RW_statementOf σ r) start).toNatClampNeg (A_RW_amountOfKinds σ))))], [(q16, .inl (G.2.2.1, (gRW_steps σ).2, .inr (.inl (gRW_steps σ).1)))], w1, w3, w5, w7, w9, u24, u26].flatten, rfl, ⟨rfl, ⟨q15, q16, w1, w3, w5, w7, w9, u24, u26, rfl, h2, h4, h6, h8, h10, hu25, hu27, h17⟩⟩, by rw [ht]; exact hB.1, hB.2⟩, hS.F ht⟩) hS.2.2 d_RW_kindOfNewRow_77
  · have hr0 := ai_neg c20 hr0
    have hk := ki_neg c20 hk
    refine lv_iload_n hx hb d_RW_kindOfNewRow_20 rfl (lv_at hl 0 rfl) ?_
    subst hr0
    refine W.widen (k := Kt) (n := Kt) (Nat.le.intro hk) (Nat.le.intro hk) ?_
    exact W.iret (v := (A_RW_kindMadeOf σ (gRW_partKinds σ) (A_RW_statementOf σ r) start)) hx hb hr (fun t ht hW => ⟨⟨(A_RW_kindMadeOf σ (gRW_partKinds σ) (A_RW_statementOf σ r) start), [[(h0, .inr (2, [.ref (ad 0), .ref (ad 1), .ref (ad 2), .ref (ad 3), .ref (ad 4), .ref (ad 5), .ref (ad 6), .ref q15, .ref q16]))], [(q15, .inl (G.2.1, 512, .inl (gRW_newestKind σ)))], [(q16, .inl (G.2.2.1, (gRW_steps σ).2, .inr (.inl (gRW_steps σ).1)))], w1, w3, w5, w7, w9, w11, w13].flatten, rfl, ⟨rfl, ⟨q15, q16, w1, w3, w5, w7, w9, w11, w13, rfl, h2, h4, h6, h8, h10, h12, h14, h17⟩⟩, by rw [ht]; exact hB.1, hB.2⟩, hS.F ht⟩) hS.2.2 d_RW_kindOfNewRow_21

def A_RW_keepSteps (σ : tRW) (r : Int32) (a : Int64) : tRW := if r < (nI (gRW_steps σ).2) then (uRW_steps σ (vp_updL (gRW_steps σ).1 r.toNatClampNeg a, (gRW_steps σ).2)) else (uRW_steps (uRW_steps σ (va_cpy (gRW_steps σ).1 (fun _ => 0) 0 0 (gRW_steps σ).2, 2 * r.toNatClampNeg)) (vp_updL (va_cpy (gRW_steps σ).1 (fun _ => 0) 0 0 (gRW_steps σ).2, 2 * r.toNatClampNeg).1 r.toNatClampNeg a, (va_cpy (gRW_steps σ).1 (fun _ => 0) 0 0 (gRW_steps σ).2, 2 * r.toNatClampNeg).2))
def K_RW_keepSteps (σ : tRW) (r : Int32) (a : Int64) : Nat := if r < (nI (gRW_steps σ).2) then 0 else ((2 * r.toNatClampNeg) + 0)
set_option maxHeartbeats 4000000 in
set_option maxRecDepth 100000 in
theorem c_RW_keepSteps (l : Launch) (G : pG) (h0 : Nat) (ad : Nat → Nat) (σ : tRW) (r : Int32) (a : Int64) (H : Heap) (w : va_W) (hP0 : va_P G.1 vwCl w H) (hD0 : va_D (fun _ => True) w) (hσ : pRW G h0 ad σ w) (res : tRW) (hr0 : A_RW_keepSteps σ r a = res) (Kt : Nat) (hk : K_RW_keepSteps σ r a = Kt) (hKb : Kt ≤ 16777216) (hr9 : ¬ r < 0) : MWv l y_RW_keepSteps w_RW_keepSteps 2 82 Kt G [.ref h0, .int r, .long a] H w (pRW G h0 ad res) := by
  refine Met.ofW (cc := b_RW_keepSteps) (maxL := 4) (ret := none) (by decide) rfl ?_
  intro p e s m args below meth c s₁ B hml hv
  obtain ⟨rfl, rfl, hK⟩ := hv
  have hx := B.exec
  have hb := B.bytes
  have hr := B.returns
  have hts0 := atoms_spec (ws := w_RW_keepSteps) B.pre
  have hts := fun w (h : w ∈ lw_g) => hts0 w (List.mem_cons_of_mem _ h)
  have hown : s.vm.findClass RRW = some m.cls := findClass_of_methodNamed B.named
  have hlocks := B.notSynchronized
  have hA : ∀ q : Nat, s.heap.size ≤ q → va_A w s.heap.size q := fun _ h => Or.inr h
  have hB : bk G.1 vwCl (va_A w s.heap.size) [w] s.heap := bk_init hP0 hD0
  generalize va_A w s.heap.size = A at *
  have hS : va_S A s.heap s.heap [] := va_S.rf
  obtain ⟨q15, q16, w1, w3, w5, w7, w9, w11, w13, rfl, h2, h4, h6, h8, h10, h12, h14, h17⟩ := hσ
  have hB := bk_many hB
  have hk : 0 + K_RW_keepSteps σ r a = Kt := (Nat.zero_add _).trans hk
  have hl := lv_entry ([.ref h0, .int r, .long a]) (n := 4) (Nat.le_of_ble_eq_true rfl)
  rw [lg_entry_eq]
  generalize (lg_sl ([.ref h0, .int r, .long a]) ++ List.replicate (4 - (lg_sl ([.ref h0, .int r, .long a])).length) Slot.unset).toArray = ls at hl ⊢
  have hl : lv_has ls 4 [(0, .ref h0), (1, .int r), (2, .long a)] := hl
  unfold A_RW_keepSteps at hr0
  unfold K_RW_keepSteps at hk
  refine lv_iload_n hx hb d_RW_keepSteps_0 rfl (lv_at hl 1 rfl) ?_
  refine lv_aload_n hx hb d_RW_keepSteps_1 rfl (lv_at hl 0 rfl) ?_
  refine va_get (D := G.1) (ci := 2) (v := .ref q16) (C := RRW) (T := TRW) (N := 9) hx hb hts inRW hown hK hB.1 0 rfl rfl 8 (by decide) (hts _ fl_RW_50) (fun _ h9 => h9) rfl d_RW_keepSteps_2 ?_
  refine va_alen (v := nI (gRW_steps σ).2) hx hb hK hB.1 2 1 rfl rfl rfl d_RW_keepSteps_5 ?_
  refine lv_icmp_lt (tgt := 23) hx hb d_RW_keepSteps_6 (by decide) (fun c18 => ?_) (fun c18 => ?_)
  · have hr0 := ai_pos c18 hr0
    have hk := ki_pos c18 hk
    refine lv_aload_n hx hb d_RW_keepSteps_23 rfl (lv_at hl 0 rfl) ?_
    refine va_get (D := G.1) (ci := 2) (v := .ref q16) (C := RRW) (T := TRW) (N := 9) hx hb hts inRW hown hK hB.1 0 rfl rfl 8 (by decide) (hts _ fl_RW_50) (fun _ h9 => h9) rfl d_RW_keepSteps_24 ?_
    refine lv_iload_n hx hb d_RW_keepSteps_27 rfl (lv_at hl 1 rfl) ?_
    refine lv_lload_n hx hb d_RW_keepSteps_28 rfl (lv_at hl 2 rfl) ?_
    refine va_last hx hb hK hB.1 hB.2 hS 2 1 rfl rfl (ks_in1 hr9 c18 h17.2) d_RW_keepSteps_29 (fun H locs hP hD hS => ?_)
    have hB : bk G.1 vwCl A [[(h0, .inr (2, [.ref (ad 0), .ref (ad 1), .ref (ad 2), .ref (ad 3), .ref (ad 4), .ref (ad 5), .ref (ad 6), .ref q15, .ref q16]))], [(q15, .inl (G.2.1, 512, .inl (gRW_newestKind σ)))], [(q16, .inl (G.2.2.1, (vp_updL (gRW_steps σ).1 r.toNatClampNeg a, (gRW_steps σ).2).2, .inr (.inl (vp_updL (gRW_steps σ).1 r.toNatClampNeg a, (gRW_steps σ).2).1)))], w1, w3, w5, w7, w9, w11, w13] H := ⟨hP, hD⟩
    subst hr0
    refine W.widen (k := Kt) (n := Kt) (Nat.le.intro hk) (Nat.le.intro hk) ?_
    exact W.vret hx hb hr (fun t ht hW => ⟨⟨[[(h0, .inr (2, [.ref (ad 0), .ref (ad 1), .ref (ad 2), .ref (ad 3), .ref (ad 4), .ref (ad 5), .ref (ad 6), .ref q15, .ref q16]))], [(q15, .inl (G.2.1, 512, .inl (gRW_newestKind σ)))], [(q16, .inl (G.2.2.1, (vp_updL (gRW_steps σ).1 r.toNatClampNeg a, (gRW_steps σ).2).2, .inr (.inl (vp_updL (gRW_steps σ).1 r.toNatClampNeg a, (gRW_steps σ).2).1)))], w1, w3, w5, w7, w9, w11, w13].flatten, rfl, ⟨q15, q16, w1, w3, w5, w7, w9, w11, w13, rfl, h2, h4, h6, h8, h10, h12, h14, h17⟩, by rw [ht]; exact hB.1, hB.2⟩, hS.F ht⟩) hS.2.2 d_RW_keepSteps_30
  · have hr0 := ai_neg c18 hr0
    have hk := ki_neg c18 hk
    refine lv_aload_n hx hb d_RW_keepSteps_9 rfl (lv_at hl 0 rfl) ?_
    refine lv_aload_n hx hb d_RW_keepSteps_10 rfl (lv_at hl 0 rfl) ?_
    refine va_get (D := G.1) (ci := 2) (v := .ref q16) (C := RRW) (T := TRW) (N := 9) hx hb hts inRW hown hK hB.1 0 rfl rfl 8 (by decide) (hts _ fl_RW_50) (fun _ h9 => h9) rfl d_RW_keepSteps_11 ?_
    refine lv_iconst (v := 2) hx hb d_RW_keepSteps_14 (by decide) ?_
    refine lv_iload_n hx hb d_RW_keepSteps_15 rfl (lv_at hl 1 rfl) ?_
    refine lv_imul hx hb d_RW_keepSteps_16 ?_
    rw [show 2 * r = nI (2 * r.toNatClampNeg) from ks_mul hr9]
    have hbN := ks_b hr9 c18 h17.1 h17.2
    refine wrSr (G := G) (k := 2) (As := [.ref q16, .int (nI (2 * r.toNatClampNeg))]) (rest := [.ref h0]) ⟨hx, hb, hml, hown, hts⟩ (c_AR_copyJ l G q16 (gRW_steps σ).2 (2 * r.toNatClampNeg) (gRW_steps σ).1 _ _ (bk_gP (k := 2) hB.1 rfl) (bk_own (k := 2) hB rfl) rfl hbN.2 (by have := bk_ub hk hKb; omega)) (va_cwS 2 hts (gd_S ml_RW_121 sm_AR_copyJ ini_AR k_AR_copyJ) rfl rfl rfl (by decide +kernel) ⟨Nat.le_of_ble_eq_true rfl, Nat.le_of_ble_eq_true rfl⟩) hK hS hA hB rfl hk ⟨rfl, rfl⟩ rfl hl.1 (Nat.le_of_ble_eq_true rfl) d_RW_keepSteps_17 (fun ra u H locs kc hu hB hS hk2 => ?_)
    have hbM := bk_ub hk hKb
    have hk := hk2
    subst hu
    have hB : bk G.1 vwCl A [[(h0, .inr (2, [.ref (ad 0), .ref (ad 1), .ref (ad 2), .ref (ad 3), .ref (ad 4), .ref (ad 5), .ref (ad 6), .ref q15, .ref q16]))], [(q15, .inl (G.2.1, 512, .inl (gRW_newestKind σ)))], [(q16, .inl (G.2.2.1, (gRW_steps σ).2, .inr (.inl (gRW_steps σ).1))), (ra, .inl (G.2.2.1, 2 * r.toNatClampNeg, .inr (.inl (va_cpy (gRW_steps σ).1 (fun _ => 0) 0 0 (gRW_steps σ).2))))], w1, w3, w5, w7, w9, w11, w13] H := hB
    refine va_put (D := G.1) (ci := 2) (v := .ref ra) (ty := .array .long) (C := RRW) (T := TRW) (N := 9) hx hb hts inRW tyRW tokRW nmRW hown hK hB.1 hB.2 hS 0 rfl rfl 8 (by decide) (hts _ fl_RW_50) (fun _ h9 => h9) rfl (by decide +kernel) rfl rfl (Nat.le_of_ble_eq_true rfl) d_RW_keepSteps_20 (fun H locs hP hD hS => ?_)
    have hB : bk G.1 vwCl A [[(h0, .inr (2, [.ref (ad 0), .ref (ad 1), .ref (ad 2), .ref (ad 3), .ref (ad 4), .ref (ad 5), .ref (ad 6), .ref q15, .ref ra]))], [(q15, .inl (G.2.1, 512, .inl (gRW_newestKind σ)))], [(q16, .inl (G.2.2.1, (gRW_steps σ).2, .inr (.inl (gRW_steps σ).1))), (ra, .inl (G.2.2.1, (va_cpy (gRW_steps σ).1 (fun _ => 0) 0 0 (gRW_steps σ).2, 2 * r.toNatClampNeg).2, .inr (.inl (va_cpy (gRW_steps σ).1 (fun _ => 0) 0 0 (gRW_steps σ).2, 2 * r.toNatClampNeg).1)))], w1, w3, w5, w7, w9, w11, w13] H := ⟨hP, hD⟩
    have hB : bk G.1 vwCl A [[(h0, .inr (2, [.ref (ad 0), .ref (ad 1), .ref (ad 2), .ref (ad 3), .ref (ad 4), .ref (ad 5), .ref (ad 6), .ref q15, .ref ra]))], [(q15, .inl (G.2.1, 512, .inl (gRW_newestKind σ)))], [(ra, .inl (G.2.2.1, (va_cpy (gRW_steps σ).1 (fun _ => 0) 0 0 (gRW_steps σ).2, 2 * r.toNatClampNeg).2, .inr (.inl (va_cpy (gRW_steps σ).1 (fun _ => 0) 0 0 (gRW_steps σ).2, 2 * r.toNatClampNeg).1)))], w1, w3, w5, w7, w9, w11, w13] H := bk_drop2 hB
    have h19 : 1 ≤ (va_cpy (gRW_steps σ).1 (fun _ => 0) 0 0 (gRW_steps σ).2, 2 * r.toNatClampNeg).2 ∧ (va_cpy (gRW_steps σ).1 (fun _ => 0) 0 0 (gRW_steps σ).2, 2 * r.toNatClampNeg).2 ≤ 16777216 := ⟨by have := hbN.1; simp only []; omega, hbM⟩
    refine lv_aload_n hx hb d_RW_keepSteps_23 rfl (lv_at hl 0 rfl) ?_
    refine va_get (D := G.1) (ci := 2) (v := .ref ra) (C := RRW) (T := TRW) (N := 9) hx hb hts inRW hown hK hB.1 0 rfl rfl 8 (by decide) (hts _ fl_RW_50) (fun _ h9 => h9) rfl d_RW_keepSteps_24 ?_
    refine lv_iload_n hx hb d_RW_keepSteps_27 rfl (lv_at hl 1 rfl) ?_
    refine lv_lload_n hx hb d_RW_keepSteps_28 rfl (lv_at hl 2 rfl) ?_
    refine va_last hx hb hK hB.1 hB.2 hS 2 1 rfl rfl (ks_in2 hr9 hbN hbM) d_RW_keepSteps_29 (fun H locs hP hD hS => ?_)
    have hB : bk G.1 vwCl A [[(h0, .inr (2, [.ref (ad 0), .ref (ad 1), .ref (ad 2), .ref (ad 3), .ref (ad 4), .ref (ad 5), .ref (ad 6), .ref q15, .ref ra]))], [(q15, .inl (G.2.1, 512, .inl (gRW_newestKind σ)))], [(ra, .inl (G.2.2.1, (vp_updL (va_cpy (gRW_steps σ).1 (fun _ => 0) 0 0 (gRW_steps σ).2, 2 * r.toNatClampNeg).1 r.toNatClampNeg a, (va_cpy (gRW_steps σ).1 (fun _ => 0) 0 0 (gRW_steps σ).2, 2 * r.toNatClampNeg).2).2, .inr (.inl (vp_updL (va_cpy (gRW_steps σ).1 (fun _ => 0) 0 0 (gRW_steps σ).2, 2 * r.toNatClampNeg).1 r.toNatClampNeg a, (va_cpy (gRW_steps σ).1 (fun _ => 0) 0 0 (gRW_steps σ).2, 2 * r.toNatClampNeg).2).1)))], w1, w3, w5, w7, w9, w11, w13] H := ⟨hP, hD⟩
    subst hr0
    refine W.widen (k := Kt) (n := Kt) (Nat.le.intro hk) (Nat.le.intro hk) ?_
    exact W.vret hx hb hr (fun t ht hW => ⟨⟨[[(h0, .inr (2, [.ref (ad 0), .ref (ad 1), .ref (ad 2), .ref (ad 3), .ref (ad 4), .ref (ad 5), .ref (ad 6), .ref q15, .ref ra]))], [(q15, .inl (G.2.1, 512, .inl (gRW_newestKind σ)))], [(ra, .inl (G.2.2.1, (vp_updL (va_cpy (gRW_steps σ).1 (fun _ => 0) 0 0 (gRW_steps σ).2, 2 * r.toNatClampNeg).1 r.toNatClampNeg a, (va_cpy (gRW_steps σ).1 (fun _ => 0) 0 0 (gRW_steps σ).2, 2 * r.toNatClampNeg).2).2, .inr (.inl (vp_updL (va_cpy (gRW_steps σ).1 (fun _ => 0) 0 0 (gRW_steps σ).2, 2 * r.toNatClampNeg).1 r.toNatClampNeg a, (va_cpy (gRW_steps σ).1 (fun _ => 0) 0 0 (gRW_steps σ).2, 2 * r.toNatClampNeg).2).1)))], w1, w3, w5, w7, w9, w11, w13].flatten, rfl, ⟨q15, ra, w1, w3, w5, w7, w9, w11, w13, rfl, h2, h4, h6, h8, h10, h12, h14, h19⟩, by rw [ht]; exact hB.1, hB.2⟩, hS.F ht⟩) hS.2.2 d_RW_keepSteps_30

def M_RW_add_L18 (x_pile : tIL) (statement : Int32) (r : Int32) (start : Int32) (k : Int32) (τ : tRW) : Nat := ((A_IL_length x_pile).toInt - k.toInt).toNat
def A_RW_add_L18 (x_pile : tIL) (statement : Int32) (r : Int32) (start : Int32) : Nat → Int32 → tRW → Int32 × tRW
  | 0, _, τ => (0, τ)
  | n18 + 1, k, τ => if (A_IL_length x_pile) ≤ k then (bnd (A_RW_kindOfNewRow (uRW_statements (uRW_starts τ (A_IL_add (gRW_starts τ) (A_IL_length (gRW_parts τ)))) (A_IL_add (gRW_statements τ) statement)) r start) (fun T42 => bnd (A_RW_keepSteps (uRW_kinds T42.2 (A_IL_add (gRW_kinds T42.2) T42.1)) r (A_RW_countSteps (uRW_kinds T42.2 (A_IL_add (gRW_kinds T42.2) T42.1)) r)) (fun T67 => (r, T67)))) else (A_RW_add_L18 x_pile statement r start n18 (k + 1) (uRW_partKinds (uRW_parts τ (A_IL_add (gRW_parts τ) (A_IL_at x_pile k))) (A_IL_add (gRW_partKinds τ) (A_RW_kindOf (uRW_parts τ (A_IL_add (gRW_parts τ) (A_IL_at x_pile k))) (A_IL_at x_pile k)))))
def K_RW_add_L18 (x_pile : tIL) (statement : Int32) (r : Int32) (start : Int32) : Nat → Int32 → tRW → Nat
  | 0, _, _ => 0
  | n18 + 1, k, τ => if (A_IL_length x_pile) ≤ k then ((K_IL_add (gRW_starts τ) (A_IL_length (gRW_parts τ))) + ((K_IL_add (gRW_statements τ) statement) + ((K_RW_kindOfNewRow (uRW_statements (uRW_starts τ (A_IL_add (gRW_starts τ) (A_IL_length (gRW_parts τ)))) (A_IL_add (gRW_statements τ) statement)) r start) + (bnd (A_RW_kindOfNewRow (uRW_statements (uRW_starts τ (A_IL_add (gRW_starts τ) (A_IL_length (gRW_parts τ)))) (A_IL_add (gRW_statements τ) statement)) r start) (fun T42 => (K_IL_add (gRW_kinds T42.2) T42.1) + ((K_RW_keepSteps (uRW_kinds T42.2 (A_IL_add (gRW_kinds T42.2) T42.1)) r (A_RW_countSteps (uRW_kinds T42.2 (A_IL_add (gRW_kinds T42.2) T42.1)) r)) + (bnd (A_RW_keepSteps (uRW_kinds T42.2 (A_IL_add (gRW_kinds T42.2) T42.1)) r (A_RW_countSteps (uRW_kinds T42.2 (A_IL_add (gRW_kinds T42.2) T42.1)) r)) (fun T67 => 0)))))))) else ((K_IL_add (gRW_parts τ) (A_IL_at x_pile k)) + ((K_IL_add (gRW_partKinds τ) (A_RW_kindOf (uRW_parts τ (A_IL_add (gRW_parts τ) (A_IL_at x_pile k))) (A_IL_at x_pile k))) + (K_RW_add_L18 x_pile statement r start n18 (k + 1) (uRW_partKinds (uRW_parts τ (A_IL_add (gRW_parts τ) (A_IL_at x_pile k))) (A_IL_add (gRW_partKinds τ) (A_RW_kindOf (uRW_parts τ (A_IL_add (gRW_parts τ) (A_IL_at x_pile k))) (A_IL_at x_pile k)))))))
def A_RW_add (σ : tRW) (x_pile : tIL) (statement : Int32) (under : Int32) : Int32 × tRW := A_RW_add_L18 x_pile statement (A_RW_amount σ) (A_IL_length (gRW_parts σ)) (M_RW_add_L18 x_pile statement (A_RW_amount σ) (A_IL_length (gRW_parts σ)) under σ + 1) under σ
def K_RW_add (σ : tRW) (x_pile : tIL) (statement : Int32) (under : Int32) : Nat := K_RW_add_L18 x_pile statement (A_RW_amount σ) (A_IL_length (gRW_parts σ)) (M_RW_add_L18 x_pile statement (A_RW_amount σ) (A_IL_length (gRW_parts σ)) under σ + 1) under σ
set_option maxHeartbeats 4000000 in
set_option maxRecDepth 100000 in
theorem c_RW_add (l : Launch) (G : pG) (h0 : Nat) (ad : Nat → Nat) (σ : tRW) (statement : Int32) (pile : Nat) (under : Int32) (H : Heap) (w : va_W) (x_pile : tIL) (v_pile : va_W) (hv_pile : va_P G.1 vwCl v_pile H) (hx_pile : pIL G pile x_pile v_pile) (ap_x_pile : bk_ap w v_pile) (hP0 : va_P G.1 vwCl w H) (hD0 : va_D (fun _ => True) w) (hσ : pRW G h0 ad σ w) (res : Int32 × tRW) (hr0 : A_RW_add σ x_pile statement under = res) (Kt : Nat) (hk : K_RW_add σ x_pile statement under = Kt) (hKb : Kt ≤ 16777216) : MWi l y_RW_add w_RW_add 5 128 Kt G [.ref h0, .int statement, .ref pile, .int under] H w res.1 (pRW G h0 ad res.2) := by
  refine Met.ofW (cc := b_RW_add) (maxL := 7) (ret := (some .int)) (by decide) rfl ?_
  intro p e s m args below meth c s₁ B hml hv
  obtain ⟨rfl, rfl, hK⟩ := hv
  have hx := B.exec
  have hb := B.bytes
  have hr := B.returns
  have hts0 := atoms_spec (ws := w_RW_add) B.pre
  have hts := fun w (h : w ∈ lw_g) => hts0 w (List.mem_cons_of_mem _ h)
  have hown : s.vm.findClass RRW = some m.cls := findClass_of_methodNamed B.named
  have hlocks := B.notSynchronized
  have hA : ∀ q : Nat, s.heap.size ≤ q → va_A w s.heap.size q := fun _ h => Or.inr h
  have hro_pile := ro_A hv_pile ap_x_pile
  have hB : bk G.1 vwCl (va_A w s.heap.size) [w] s.heap := bk_init hP0 hD0
  generalize va_A w s.heap.size = A at *
  have hS : va_S A s.heap s.heap [] := va_S.rf
  obtain ⟨q15, q16, w1, w3, w5, w7, w9, w11, w13, rfl, h2, h4, h6, h8, h10, h12, h14, h17⟩ := hσ
  have hB := bk_many hB
  have hk : 0 + K_RW_add σ x_pile statement under = Kt := (Nat.zero_add _).trans hk
  have hl := lv_entry ([.ref h0, .int statement, .ref pile, .int under]) (n := 7) (Nat.le_of_ble_eq_true rfl)
  rw [lg_entry_eq]
  generalize (lg_sl ([.ref h0, .int statement, .ref pile, .int under]) ++ List.replicate (7 - (lg_sl ([.ref h0, .int statement, .ref pile, .int under])).length) Slot.unset).toArray = ls at hl ⊢
  have hl : lv_has ls 7 [(0, .ref h0), (1, .int statement), (2, .ref pile), (3, .int under)] := hl
  have hlen0 := pIL_len h2
  unfold A_RW_add at hr0
  unfold K_RW_add at hk
  refine lv_aload_n hx hb d_RW_add_0 rfl (lv_at hl 0 rfl) ?_
  have hpk18 : pRW G h0 ad σ ([[(h0, .inr (2, [.ref (ad 0), .ref (ad 1), .ref (ad 2), .ref (ad 3), .ref (ad 4), .ref (ad 5), .ref (ad 6), .ref q15, .ref q16]))], [(q15, .inl (G.2.1, 512, .inl (gRW_newestKind σ)))], [(q16, .inl (G.2.2.1, (gRW_steps σ).2, .inr (.inl (gRW_steps σ).1)))], w1, w3, w5, w7, w9, w11, w13].flatten) := ⟨q15, q16, w1, w3, w5, w7, w9, w11, w13, rfl, h2, h4, h6, h8, h10, h12, h14, h17⟩
  refine rdV (G := G) (As := []) (rest := []) (C := RRW) ⟨hx, hb, hml, hown, hts⟩ (c_RW_amount l G h0 ad σ _ _ hB.1 hpk18 _ rfl) (cwV 0 hts (gd_V ml_RW_72 im_RW_amount sl_RW_amount ini_RW k_RW_amount) rfl rmK_c rmK_s (by decide +kernel) ⟨Nat.le_of_ble_eq_true rfl, Nat.le_of_ble_eq_true rfl⟩) hK (pRW_recv hK hB.1 hpk18) hS ⟨Nat.le.intro hk, Nat.le.intro hk⟩ rfl hl.1 (Nat.le_of_ble_eq_true rfl) d_RW_add_1 (fun locs hS => ?_)
  refine lv_istore (lv' := [(4, .int (A_RW_amount σ)), (0, .ref h0), (1, .int statement), (2, .ref pile), (3, .int under)]) hx hb d_RW_add_4 hl (by decide) rfl (fun ls hl => ?_)
  refine lv_aload_n hx hb d_RW_add_6 rfl (lv_at hl 1 rfl) ?_
  refine va_get (D := G.1) (ci := 2) (v := .ref (ad 2)) (C := RRW) (T := TRW) (N := 9) hx hb hts inRW hown hK hB.1 0 rfl rfl 2 (by decide) (hts _ fl_RW_25) (fun _ h9 => h9) rfl d_RW_add_7 ?_
  refine rdV (G := G) (As := []) (rest := []) (C := RIL) ⟨hx, hb, hml, hown, hts⟩ (c_IL_length l G (ad 2) (gRW_parts σ) _ _ (bk_gP (k := 5) hB.1 rfl) h6 _ rfl) (cwV 0 hts (gd_V ml_RW_57 im_IL_length sl_IL_length ini_IL k_IL_length) rfl rmK_c rmK_s (by decide +kernel) ⟨Nat.le_of_ble_eq_true rfl, Nat.le_of_ble_eq_true rfl⟩) hK (pIL_recv hK (bk_gP (k := 5) hB.1 rfl) h6) hS ⟨Nat.le.intro hk, Nat.le.intro hk⟩ rfl hl.1 (Nat.le_of_ble_eq_true rfl) d_RW_add_10 (fun locs hS => ?_)
  refine lv_istore (lv' := [(5, .int (A_IL_length (gRW_parts σ))), (4, .int (A_RW_amount σ)), (0, .ref h0), (1, .int statement), (2, .ref pile), (3, .int under)]) hx hb d_RW_add_13 hl (by decide) rfl (fun ls hl => ?_)
  refine lv_iload_n hx hb d_RW_add_15 rfl (lv_at hl 5 rfl) ?_
  refine lv_istore (lv' := [(6, .int under), (5, .int (A_IL_length (gRW_parts σ))), (4, .int (A_RW_amount σ)), (0, .ref h0), (1, .int statement), (2, .ref pile), (3, .int under)]) hx hb d_RW_add_16 hl (by decide) rfl (fun ls hl => ?_)
  refine lp_W (I := fun n18 H locs kc ls => ∃ (k : Int32) (τ : tRW) (w : va_W), pRW G h0 ad τ w ∧ bk G.1 vwCl A [w] H ∧ va_S A s.heap H locs ∧ lv_has ls 7 [(0, .ref h0), (2, .ref pile), (1, .int statement), (4, .int (A_RW_amount σ)), (5, .int (A_IL_length (gRW_parts σ))), (6, .int k)] ∧ A_RW_add_L18 x_pile statement (A_RW_amount σ) (A_IL_length (gRW_parts σ)) n18 k τ = res ∧ kc + K_RW_add_L18 x_pile statement (A_RW_amount σ) (A_IL_length (gRW_parts σ)) n18 k τ = Kt ∧ M_RW_add_L18 x_pile statement (A_RW_amount σ) (A_IL_length (gRW_parts σ)) k τ < n18) ?_ ?_ (M_RW_add_L18 x_pile statement (A_RW_amount σ) (A_IL_length (gRW_parts σ)) under σ + 1) _ _ _ _ ⟨under, σ, _, ⟨q15, q16, w1, w3, w5, w7, w9, w11, w13, rfl, h2, h4, h6, h8, h10, h12, h14, h17⟩, bk_one hB, hS, lv_sub hl [3, 5, 4, 2, 1, 0] rfl, hr0, hk, Nat.lt_succ_self _⟩
  · intro n18 ih18 H locs kc ls ⟨k, τ, w, hτ, hB, hS, hl, hr0, hk, hm18⟩
    obtain ⟨q33, q34, w19, w21, w23, w25, w27, w29, w31, rfl, h20, h22, h24, h26, h28, h30, h32, h35⟩ := hτ
    have hB := bk_many hB
    rw [A_RW_add_L18] at hr0
    rw [K_RW_add_L18] at hk
    refine lv_iload hx hb d_RW_add_18 (lv_at hl 5 rfl) ?_
    refine lv_aload_n hx hb d_RW_add_20 rfl (lv_at hl 1 rfl) ?_
    refine rdV (G := G) (As := []) (rest := [.int k]) (C := RIL) ⟨hx, hb, hml, hown, hts⟩ (c_IL_length l G pile x_pile _ _ (ro_keep hS hv_pile hro_pile) hx_pile _ rfl) (cwV 0 hts (gd_V ml_RW_57 im_IL_length sl_IL_length ini_IL k_IL_length) rfl rmK_c rmK_s (by decide +kernel) ⟨Nat.le_of_ble_eq_true rfl, Nat.le_of_ble_eq_true rfl⟩) hK (pIL_recv hK (ro_keep hS hv_pile hro_pile) hx_pile) hS ⟨Nat.le.intro hk, Nat.le.intro hk⟩ rfl hl.1 (Nat.le_of_ble_eq_true rfl) d_RW_add_21 (fun locs hS => ?_)
    refine lv_icmp_ge (tgt := 63) hx hb d_RW_add_24 (by decide) (fun c36 => ?_) (fun c36 => ?_)
    · have hr0 := ai_pos c36 hr0
      have hk := ki_pos c36 hk
      refine lv_aload_n hx hb d_RW_add_63 rfl (lv_at hl 0 rfl) ?_
      refine va_get (D := G.1) (ci := 2) (v := .ref (ad 1)) (C := RRW) (T := TRW) (N := 9) hx hb hts inRW hown hK hB.1 0 rfl rfl 1 (by decide) (hts _ fl_RW_18) (fun _ h9 => h9) rfl d_RW_add_64 ?_
      refine lv_aload_n hx hb d_RW_add_67 rfl (lv_at hl 0 rfl) ?_
      refine va_get (D := G.1) (ci := 2) (v := .ref (ad 2)) (C := RRW) (T := TRW) (N := 9) hx hb hts inRW hown hK hB.1 0 rfl rfl 2 (by decide) (hts _ fl_RW_25) (fun _ h9 => h9) rfl d_RW_add_68 ?_
      refine rdV (G := G) (As := []) (rest := [.ref (ad 1)]) (C := RIL) ⟨hx, hb, hml, hown, hts⟩ (c_IL_length l G (ad 2) (gRW_parts τ) _ _ (bk_gP (k := 5) hB.1 rfl) h24 _ rfl) (cwV 0 hts (gd_V ml_RW_57 im_IL_length sl_IL_length ini_IL k_IL_length) rfl rmK_c rmK_s (by decide +kernel) ⟨Nat.le_of_ble_eq_true rfl, Nat.le_of_ble_eq_true rfl⟩) hK (pIL_recv hK (bk_gP (k := 5) hB.1 rfl) h24) hS ⟨Nat.le.intro hk, Nat.le.intro hk⟩ rfl hl.1 (Nat.le_of_ble_eq_true rfl) d_RW_add_71 (fun locs hS => ?_)
      refine wrV (G := G) (k := 4) (As := [.int (A_IL_length (gRW_parts τ))]) (rest := []) (C := RIL) ⟨hx, hb, hml, hown, hts⟩ (c_IL_add l G (ad 1) (gRW_starts τ) (A_IL_length (gRW_parts τ)) _ _ (bk_gP (k := 4) hB.1 rfl) (bk_own (k := 4) hB rfl) h22 _ rfl _ rfl (bk_ub hk hKb)) (cwV 1 hts (gd_V ml_RW_21 im_IL_add sl_IL_add ini_IL k_IL_add) rfl rmK_c rmK_s (by decide +kernel) ⟨Nat.le_of_ble_eq_true rfl, Nat.le_of_ble_eq_true rfl⟩) hK (pIL_recv hK (bk_gP (k := 4) hB.1 rfl) h22) hS hA hB rfl hk ⟨rfl, rfl⟩ rfl hl.1 (Nat.le_of_ble_eq_true rfl) d_RW_add_74 (fun u37 H locs kc hu38 hB hS hk => ?_)
      have hB : bk G.1 vwCl A [[(h0, .inr (2, [.ref (ad 0), .ref (ad 1), .ref (ad 2), .ref (ad 3), .ref (ad 4), .ref (ad 5), .ref (ad 6), .ref q33, .ref q34]))], [(q33, .inl (G.2.1, 512, .inl (gRW_newestKind τ)))], [(q34, .inl (G.2.2.1, (gRW_steps τ).2, .inr (.inl (gRW_steps τ).1)))], w19, u37, w23, w25, w27, w29, w31] H := hB
      refine lv_aload_n hx hb d_RW_add_77 rfl (lv_at hl 0 rfl) ?_
      refine va_get (D := G.1) (ci := 2) (v := .ref (ad 0)) (C := RRW) (T := TRW) (N := 9) hx hb hts inRW hown hK hB.1 0 rfl rfl 0 (by decide) (hts _ fl_RW_12) (fun _ h9 => h9) rfl d_RW_add_78 ?_
      refine lv_iload_n hx hb d_RW_add_81 rfl (lv_at hl 2 rfl) ?_
      refine wrV (G := G) (k := 3) (As := [.int statement]) (rest := []) (C := RIL) ⟨hx, hb, hml, hown, hts⟩ (c_IL_add l G (ad 0) (gRW_statements τ) statement _ _ (bk_gP (k := 3) hB.1 rfl) (bk_own (k := 3) hB rfl) h20 _ rfl _ rfl (bk_ub hk hKb)) (cwV 1 hts (gd_V ml_RW_21 im_IL_add sl_IL_add ini_IL k_IL_add) rfl rmK_c rmK_s (by decide +kernel) ⟨Nat.le_of_ble_eq_true rfl, Nat.le_of_ble_eq_true rfl⟩) hK (pIL_recv hK (bk_gP (k := 3) hB.1 rfl) h20) hS hA hB rfl hk ⟨rfl, rfl⟩ rfl hl.1 (Nat.le_of_ble_eq_true rfl) d_RW_add_82 (fun u39 H locs kc hu40 hB hS hk => ?_)
      have hB : bk G.1 vwCl A [[(h0, .inr (2, [.ref (ad 0), .ref (ad 1), .ref (ad 2), .ref (ad 3), .ref (ad 4), .ref (ad 5), .ref (ad 6), .ref q33, .ref q34]))], [(q33, .inl (G.2.1, 512, .inl (gRW_newestKind τ)))], [(q34, .inl (G.2.2.1, (gRW_steps τ).2, .inr (.inl (gRW_steps τ).1)))], u39, u37, w23, w25, w27, w29, w31] H := hB
      refine lv_aload_n hx hb d_RW_add_85 rfl (lv_at hl 0 rfl) ?_
      refine va_get (D := G.1) (ci := 2) (v := .ref (ad 4)) (C := RRW) (T := TRW) (N := 9) hx hb hts inRW hown hK hB.1 0 rfl rfl 4 (by decide) (hts _ fl_RW_31) (fun _ h9 => h9) rfl d_RW_add_86 ?_
      refine lv_aload_n hx hb d_RW_add_89 rfl (lv_at hl 0 rfl) ?_
      refine lv_iload hx hb d_RW_add_90 (lv_at hl 3 rfl) ?_
      refine lv_iload hx hb d_RW_add_92 (lv_at hl 4 rfl) ?_
      have hB := bk_one hB
      have hpk41 : pRW G h0 ad (uRW_statements (uRW_starts τ (A_IL_add (gRW_starts τ) (A_IL_length (gRW_parts τ)))) (A_IL_add (gRW_statements τ) statement)) ([[(h0, .inr (2, [.ref (ad 0), .ref (ad 1), .ref (ad 2), .ref (ad 3), .ref (ad 4), .ref (ad 5), .ref (ad 6), .ref q33, .ref q34]))], [(q33, .inl (G.2.1, 512, .inl (gRW_newestKind τ)))], [(q34, .inl (G.2.2.1, (gRW_steps τ).2, .inr (.inl (gRW_steps τ).1)))], u39, u37, w23, w25, w27, w29, w31].flatten) := ⟨q33, q34, u39, u37, w23, w25, w27, w29, w31, rfl, hu40, hu38, h24, h26, h28, h30, h32, h35⟩
      obtain ⟨T42, hT43⟩ : ∃ z, A_RW_kindOfNewRow (uRW_statements (uRW_starts τ (A_IL_add (gRW_starts τ) (A_IL_length (gRW_parts τ)))) (A_IL_add (gRW_statements τ) statement)) (A_RW_amount σ) (A_IL_length (gRW_parts σ)) = z := ⟨_, rfl⟩
      refine wrVi (G := G) (k := 0) (As := [.int (A_RW_amount σ), .int (A_IL_length (gRW_parts σ))]) (rest := [.ref (ad 4)]) (C := RRW) ⟨hx, hb, hml, hown, hts⟩ (c_RW_kindOfNewRow l G h0 ad (uRW_statements (uRW_starts τ (A_IL_add (gRW_starts τ) (A_IL_length (gRW_parts τ)))) (A_IL_add (gRW_statements τ) statement)) (A_RW_amount σ) (A_IL_length (gRW_parts σ)) _ _ (bk_gP (k := 0) hB.1 rfl) (bk_own (k := 0) hB rfl) hpk41 T42 hT43 _ rfl (bk_ub hk hKb)) (cwV 2 hts (gd_V ml_RW_78 im_RW_kindOfNewRow sl_RW_kindOfNewRow ini_RW k_RW_kindOfNewRow) rfl rmK_c rmK_s (by decide +kernel) ⟨Nat.le_of_ble_eq_true rfl, Nat.le_of_ble_eq_true rfl⟩) hK (pRW_recv hK (bk_gP (k := 0) hB.1 rfl) hpk41) hS hA hB rfl hk ⟨rfl, rfl⟩ rfl hl.1 (Nat.le_of_ble_eq_true rfl) d_RW_add_94 (fun u44 H locs kc hu45 hB hS hk => ?_)
      have hr0 := bnd_e hT43 hr0
      have hk := bnd_k hT43 hk
      have hB : bk G.1 vwCl A [u44] H := hB
      obtain ⟨q60, q61, w46, w48, w50, w52, w54, w56, w58, rfl, h47, h49, h51, h53, h55, h57, h59, h62⟩ := hu45
      have hB : bk G.1 vwCl A [[(h0, .inr (2, [.ref (ad 0), .ref (ad 1), .ref (ad 2), .ref (ad 3), .ref (ad 4), .ref (ad 5), .ref (ad 6), .ref q60, .ref q61]))], [(q60, .inl (G.2.1, 512, .inl (gRW_newestKind T42.2)))], [(q61, .inl (G.2.2.1, (gRW_steps T42.2).2, .inr (.inl (gRW_steps T42.2).1)))], w46, w48, w50, w52, w54, w56, w58] H := bk_many hB
      refine wrV (G := G) (k := 7) (As := [.int T42.1]) (rest := []) (C := RIL) ⟨hx, hb, hml, hown, hts⟩ (c_IL_add l G (ad 4) (gRW_kinds T42.2) T42.1 _ _ (bk_gP (k := 7) hB.1 rfl) (bk_own (k := 7) hB rfl) h55 _ rfl _ rfl (bk_ub hk hKb)) (cwV 1 hts (gd_V ml_RW_21 im_IL_add sl_IL_add ini_IL k_IL_add) rfl rmK_c rmK_s (by decide +kernel) ⟨Nat.le_of_ble_eq_true rfl, Nat.le_of_ble_eq_true rfl⟩) hK (pIL_recv hK (bk_gP (k := 7) hB.1 rfl) h55) hS hA hB rfl hk ⟨rfl, rfl⟩ rfl hl.1 (Nat.le_of_ble_eq_true rfl) d_RW_add_97 (fun u63 H locs kc hu64 hB hS hk => ?_)
      have hB : bk G.1 vwCl A [[(h0, .inr (2, [.ref (ad 0), .ref (ad 1), .ref (ad 2), .ref (ad 3), .ref (ad 4), .ref (ad 5), .ref (ad 6), .ref q60, .ref q61]))], [(q60, .inl (G.2.1, 512, .inl (gRW_newestKind T42.2)))], [(q61, .inl (G.2.2.1, (gRW_steps T42.2).2, .inr (.inl (gRW_steps T42.2).1)))], w46, w48, w50, w52, u63, w56, w58] H := hB
      refine lv_aload_n hx hb d_RW_add_100 rfl (lv_at hl 0 rfl) ?_
      refine lv_iload hx hb d_RW_add_101 (lv_at hl 3 rfl) ?_
      refine lv_aload_n hx hb d_RW_add_103 rfl (lv_at hl 0 rfl) ?_
      refine lv_iload hx hb d_RW_add_104 (lv_at hl 3 rfl) ?_
      have hpk65 : pRW G h0 ad (uRW_kinds T42.2 (A_IL_add (gRW_kinds T42.2) T42.1)) ([[(h0, .inr (2, [.ref (ad 0), .ref (ad 1), .ref (ad 2), .ref (ad 3), .ref (ad 4), .ref (ad 5), .ref (ad 6), .ref q60, .ref q61]))], [(q60, .inl (G.2.1, 512, .inl (gRW_newestKind T42.2)))], [(q61, .inl (G.2.2.1, (gRW_steps T42.2).2, .inr (.inl (gRW_steps T42.2).1)))], w46, w48, w50, w52, u63, w56, w58].flatten) := ⟨q60, q61, w46, w48, w50, w52, u63, w56, w58, rfl, h47, h49, h51, h53, hu64, h57, h59, h62⟩
      refine rdVl (G := G) (As := [.int (A_RW_amount σ)]) (rest := [.int (A_RW_amount σ), .ref h0]) (C := RRW) ⟨hx, hb, hml, hown, hts⟩ (c_RW_countSteps l G h0 ad (uRW_kinds T42.2 (A_IL_add (gRW_kinds T42.2) T42.1)) (A_RW_amount σ) _ _ hB.1 hpk65 _ rfl) (cwV 1 hts (gd_V ml_RW_82 im_RW_countSteps sl_RW_countSteps ini_RW k_RW_countSteps) rfl rmK_c rmK_s (by decide +kernel) ⟨Nat.le_of_ble_eq_true rfl, Nat.le_of_ble_eq_true rfl⟩) hK (pRW_recv hK hB.1 hpk65) hS ⟨Nat.le.intro hk, Nat.le.intro hk⟩ rfl hl.1 (Nat.le_of_ble_eq_true rfl) d_RW_add_106 (fun locs hS => ?_)
      have hB := bk_one hB
      have hpk66 : pRW G h0 ad (uRW_kinds T42.2 (A_IL_add (gRW_kinds T42.2) T42.1)) ([[(h0, .inr (2, [.ref (ad 0), .ref (ad 1), .ref (ad 2), .ref (ad 3), .ref (ad 4), .ref (ad 5), .ref (ad 6), .ref q60, .ref q61]))], [(q60, .inl (G.2.1, 512, .inl (gRW_newestKind T42.2)))], [(q61, .inl (G.2.2.1, (gRW_steps T42.2).2, .inr (.inl (gRW_steps T42.2).1)))], w46, w48, w50, w52, u63, w56, w58].flatten) := ⟨q60, q61, w46, w48, w50, w52, u63, w56, w58, rfl, h47, h49, h51, h53, hu64, h57, h59, h62⟩
      obtain ⟨T67, hT68⟩ : ∃ z, A_RW_keepSteps (uRW_kinds T42.2 (A_IL_add (gRW_kinds T42.2) T42.1)) (A_RW_amount σ) (A_RW_countSteps (uRW_kinds T42.2 (A_IL_add (gRW_kinds T42.2) T42.1)) (A_RW_amount σ)) = z := ⟨_, rfl⟩
      refine wrV (G := G) (k := 0) (As := [.int (A_RW_amount σ), .long (A_RW_countSteps (uRW_kinds T42.2 (A_IL_add (gRW_kinds T42.2) T42.1)) (A_RW_amount σ))]) (rest := []) (C := RRW) ⟨hx, hb, hml, hown, hts⟩ (c_RW_keepSteps l G h0 ad (uRW_kinds T42.2 (A_IL_add (gRW_kinds T42.2) T42.1)) (A_RW_amount σ) (A_RW_countSteps (uRW_kinds T42.2 (A_IL_add (gRW_kinds T42.2) T42.1)) (A_RW_amount σ)) _ _ (bk_gP (k := 0) hB.1 rfl) (bk_own (k := 0) hB rfl) hpk66 T67 hT68 _ rfl (bk_ub hk hKb) (show ¬ nI (gRW_statements σ).1.length < 0 from nI_pos (by omega))) (cwV 2 hts (gd_V ml_RW_86 im_RW_keepSteps sl_RW_keepSteps ini_RW k_RW_keepSteps) rfl rmK_c rmK_s (by decide +kernel) ⟨Nat.le_of_ble_eq_true rfl, Nat.le_of_ble_eq_true rfl⟩) hK (pRW_recv hK (bk_gP (k := 0) hB.1 rfl) hpk66) hS hA hB rfl hk ⟨rfl, rfl⟩ rfl hl.1 (Nat.le_of_ble_eq_true rfl) d_RW_add_109 (fun u69 H locs kc hu70 hB hS hk => ?_)
      have hr0 := bnd_e hT68 hr0
      have hk := bnd_k hT68 hk
      have hB : bk G.1 vwCl A [u69] H := hB
      obtain ⟨q85, q86, w71, w73, w75, w77, w79, w81, w83, rfl, h72, h74, h76, h78, h80, h82, h84, h87⟩ := hu70
      have hB : bk G.1 vwCl A [[(h0, .inr (2, [.ref (ad 0), .ref (ad 1), .ref (ad 2), .ref (ad 3), .ref (ad 4), .ref (ad 5), .ref (ad 6), .ref q85, .ref q86]))], [(q85, .inl (G.2.1, 512, .inl (gRW_newestKind T67)))], [(q86, .inl (G.2.2.1, (gRW_steps T67).2, .inr (.inl (gRW_steps T67).1)))], w71, w73, w75, w77, w79, w81, w83] H := bk_many hB
      refine lv_iload hx hb d_RW_add_112 (lv_at hl 3 rfl) ?_
      subst hr0
      refine W.widen (k := Kt) (n := Kt) (Nat.le.intro hk) (Nat.le.intro hk) ?_
      exact W.iret (v := (A_RW_amount σ)) hx hb hr (fun t ht hW => ⟨⟨(A_RW_amount σ), [[(h0, .inr (2, [.ref (ad 0), .ref (ad 1), .ref (ad 2), .ref (ad 3), .ref (ad 4), .ref (ad 5), .ref (ad 6), .ref q85, .ref q86]))], [(q85, .inl (G.2.1, 512, .inl (gRW_newestKind T67)))], [(q86, .inl (G.2.2.1, (gRW_steps T67).2, .inr (.inl (gRW_steps T67).1)))], w71, w73, w75, w77, w79, w81, w83].flatten, rfl, ⟨rfl, ⟨q85, q86, w71, w73, w75, w77, w79, w81, w83, rfl, h72, h74, h76, h78, h80, h82, h84, h87⟩⟩, by rw [ht]; exact hB.1, hB.2⟩, hS.F ht⟩) hS.2.2 d_RW_add_114
    · have hr0 := ai_neg c36 hr0
      have hk := ki_neg c36 hk
      refine lv_aload_n hx hb d_RW_add_27 rfl (lv_at hl 0 rfl) ?_
      refine va_get (D := G.1) (ci := 2) (v := .ref (ad 2)) (C := RRW) (T := TRW) (N := 9) hx hb hts inRW hown hK hB.1 0 rfl rfl 2 (by decide) (hts _ fl_RW_25) (fun _ h9 => h9) rfl d_RW_add_28 ?_
      refine lv_aload_n hx hb d_RW_add_31 rfl (lv_at hl 1 rfl) ?_
      refine lv_iload hx hb d_RW_add_32 (lv_at hl 5 rfl) ?_
      refine rdV (G := G) (As := [.int k]) (rest := [.ref (ad 2)]) (C := RIL) ⟨hx, hb, hml, hown, hts⟩ (c_IL_at l G pile x_pile k _ _ (ro_keep hS hv_pile hro_pile) hx_pile _ rfl) (cwV 1 hts (gd_V ml_RW_61 im_IL_at sl_IL_at ini_IL k_IL_at) rfl rmK_c rmK_s (by decide +kernel) ⟨Nat.le_of_ble_eq_true rfl, Nat.le_of_ble_eq_true rfl⟩) hK (pIL_recv hK (ro_keep hS hv_pile hro_pile) hx_pile) hS ⟨Nat.le.intro hk, Nat.le.intro hk⟩ rfl hl.1 (Nat.le_of_ble_eq_true rfl) d_RW_add_34 (fun locs hS => ?_)
      refine wrV (G := G) (k := 5) (As := [.int (A_IL_at x_pile k)]) (rest := []) (C := RIL) ⟨hx, hb, hml, hown, hts⟩ (c_IL_add l G (ad 2) (gRW_parts τ) (A_IL_at x_pile k) _ _ (bk_gP (k := 5) hB.1 rfl) (bk_own (k := 5) hB rfl) h24 _ rfl _ rfl (bk_ub hk hKb)) (cwV 1 hts (gd_V ml_RW_21 im_IL_add sl_IL_add ini_IL k_IL_add) rfl rmK_c rmK_s (by decide +kernel) ⟨Nat.le_of_ble_eq_true rfl, Nat.le_of_ble_eq_true rfl⟩) hK (pIL_recv hK (bk_gP (k := 5) hB.1 rfl) h24) hS hA hB rfl hk ⟨rfl, rfl⟩ rfl hl.1 (Nat.le_of_ble_eq_true rfl) d_RW_add_37 (fun u88 H locs kc hu89 hB hS hk => ?_)
      have hB : bk G.1 vwCl A [[(h0, .inr (2, [.ref (ad 0), .ref (ad 1), .ref (ad 2), .ref (ad 3), .ref (ad 4), .ref (ad 5), .ref (ad 6), .ref q33, .ref q34]))], [(q33, .inl (G.2.1, 512, .inl (gRW_newestKind τ)))], [(q34, .inl (G.2.2.1, (gRW_steps τ).2, .inr (.inl (gRW_steps τ).1)))], w19, w21, u88, w25, w27, w29, w31] H := hB
      refine lv_aload_n hx hb d_RW_add_40 rfl (lv_at hl 0 rfl) ?_
      refine va_get (D := G.1) (ci := 2) (v := .ref (ad 3)) (C := RRW) (T := TRW) (N := 9) hx hb hts inRW hown hK hB.1 0 rfl rfl 3 (by decide) (hts _ fl_RW_28) (fun _ h9 => h9) rfl d_RW_add_41 ?_
      refine lv_aload_n hx hb d_RW_add_44 rfl (lv_at hl 0 rfl) ?_
      refine lv_aload_n hx hb d_RW_add_45 rfl (lv_at hl 1 rfl) ?_
      refine lv_iload hx hb d_RW_add_46 (lv_at hl 5 rfl) ?_
      refine rdV (G := G) (As := [.int k]) (rest := [.ref h0, .ref (ad 3)]) (C := RIL) ⟨hx, hb, hml, hown, hts⟩ (c_IL_at l G pile x_pile k _ _ (ro_keep hS hv_pile hro_pile) hx_pile _ rfl) (cwV 1 hts (gd_V ml_RW_61 im_IL_at sl_IL_at ini_IL k_IL_at) rfl rmK_c rmK_s (by decide +kernel) ⟨Nat.le_of_ble_eq_true rfl, Nat.le_of_ble_eq_true rfl⟩) hK (pIL_recv hK (ro_keep hS hv_pile hro_pile) hx_pile) hS ⟨Nat.le.intro hk, Nat.le.intro hk⟩ rfl hl.1 (Nat.le_of_ble_eq_true rfl) d_RW_add_48 (fun locs hS => ?_)
      have hpk90 : pRW G h0 ad (uRW_parts τ (A_IL_add (gRW_parts τ) (A_IL_at x_pile k))) ([[(h0, .inr (2, [.ref (ad 0), .ref (ad 1), .ref (ad 2), .ref (ad 3), .ref (ad 4), .ref (ad 5), .ref (ad 6), .ref q33, .ref q34]))], [(q33, .inl (G.2.1, 512, .inl (gRW_newestKind τ)))], [(q34, .inl (G.2.2.1, (gRW_steps τ).2, .inr (.inl (gRW_steps τ).1)))], w19, w21, u88, w25, w27, w29, w31].flatten) := ⟨q33, q34, w19, w21, u88, w25, w27, w29, w31, rfl, h20, h22, hu89, h26, h28, h30, h32, h35⟩
      refine rdV (G := G) (As := [.int (A_IL_at x_pile k)]) (rest := [.ref (ad 3)]) (C := RRW) ⟨hx, hb, hml, hown, hts⟩ (c_RW_kindOf l G h0 ad (uRW_parts τ (A_IL_add (gRW_parts τ) (A_IL_at x_pile k))) (A_IL_at x_pile k) _ _ hB.1 hpk90 _ rfl) (cwV 1 hts (gd_V ml_RW_75 im_RW_kindOf sl_RW_kindOf ini_RW k_RW_kindOf) rfl rmK_c rmK_s (by decide +kernel) ⟨Nat.le_of_ble_eq_true rfl, Nat.le_of_ble_eq_true rfl⟩) hK (pRW_recv hK hB.1 hpk90) hS ⟨Nat.le.intro hk, Nat.le.intro hk⟩ rfl hl.1 (Nat.le_of_ble_eq_true rfl) d_RW_add_51 (fun locs hS => ?_)
      refine wrV (G := G) (k := 6) (As := [.int (A_RW_kindOf (uRW_parts τ (A_IL_add (gRW_parts τ) (A_IL_at x_pile k))) (A_IL_at x_pile k))]) (rest := []) (C := RIL) ⟨hx, hb, hml, hown, hts⟩ (c_IL_add l G (ad 3) (gRW_partKinds τ) (A_RW_kindOf (uRW_parts τ (A_IL_add (gRW_parts τ) (A_IL_at x_pile k))) (A_IL_at x_pile k)) _ _ (bk_gP (k := 6) hB.1 rfl) (bk_own (k := 6) hB rfl) h26 _ rfl _ rfl (bk_ub hk hKb)) (cwV 1 hts (gd_V ml_RW_21 im_IL_add sl_IL_add ini_IL k_IL_add) rfl rmK_c rmK_s (by decide +kernel) ⟨Nat.le_of_ble_eq_true rfl, Nat.le_of_ble_eq_true rfl⟩) hK (pIL_recv hK (bk_gP (k := 6) hB.1 rfl) h26) hS hA hB rfl hk ⟨rfl, rfl⟩ rfl hl.1 (Nat.le_of_ble_eq_true rfl) d_RW_add_54 (fun u91 H locs kc hu92 hB hS hk => ?_)
      have hB : bk G.1 vwCl A [[(h0, .inr (2, [.ref (ad 0), .ref (ad 1), .ref (ad 2), .ref (ad 3), .ref (ad 4), .ref (ad 5), .ref (ad 6), .ref q33, .ref q34]))], [(q33, .inl (G.2.1, 512, .inl (gRW_newestKind τ)))], [(q34, .inl (G.2.2.1, (gRW_steps τ).2, .inr (.inl (gRW_steps τ).1)))], w19, w21, u88, u91, w27, w29, w31] H := hB
      refine lv_iinc (v := k + 1) (lv' := [(6, .int (k + 1)), (0, .ref h0), (2, .ref pile), (1, .int statement), (4, .int (A_RW_amount σ)), (5, .int (A_IL_length (gRW_parts σ)))]) hx hb d_RW_add_57 hl (k := 5) rfl rfl (by decide) rfl (fun ls hl => ?_)
      refine lv_goto (tgt := 18) hx hb d_RW_add_60 (by decide) ?_
      exact ih18 _ _ _ _ ⟨(k + 1), (uRW_partKinds (uRW_parts τ (A_IL_add (gRW_parts τ) (A_IL_at x_pile k))) (A_IL_add (gRW_partKinds τ) (A_RW_kindOf (uRW_parts τ (A_IL_add (gRW_parts τ) (A_IL_at x_pile k))) (A_IL_at x_pile k)))), _, ⟨q33, q34, w19, w21, u88, u91, w27, w29, w31, rfl, h20, h22, hu89, hu92, h28, h30, h32, h35⟩, bk_one hB, hS, lv_sub hl [1, 2, 3, 4, 5, 0] rfl, hr0, hk, up_dec c36 hm18⟩
  · rintro H locs kc ls ⟨_, _, _, -, -, -, -, -, -, hz⟩; exact Nat.not_lt_zero _ hz
